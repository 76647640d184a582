/-! ONE PLAIN INSTRUCTION: where ip_st goes, the machine goes -/
abbrev ip_A (off : Nat) : Nat → Prop := fun q => off ≤ q
def ip_tys (dA : Nat → ClassId) : List (ClassId × FieldType) := (List.range 7).map fun k => (dA k, ip_tf k)
theorem ip_tys_at (dA : Nat → ClassId) {t : Nat} (h : t ≤ 6) : (ip_tys dA)[t]? = some (dA t, ip_tf t) := by
  unfold ip_tys
  rw [List.getElem?_map, List.getElem?_range (by omega)]
  rfl
/-- .. of the literal, of String's own static, of Throwable's two -/
def ip_Sy (off : Nat) (sa : Nat → Nat) (U : State) (H : Heap) : Prop :=
  vk_S 1 [8] [[40, 41, 60, 61, 43, 45, 42, 59]] (fun _ => sa 32) (fun _ => sa 33) (ip_A off) U H ∧ va_Z "java/lang/String" "COMPACT_STRINGS" "Z" (.int 1) (ip_A off) U H ∧
  vx_Zq "java/lang/Throwable" "UNASSIGNED_STACK" "[Ljava/lang/StackTraceElement;" (ip_A off) U H ∧ vx_Zq "java/lang/Throwable" "SUPPRESSED_SENTINEL" "Ljava/util/List;" (ip_A off) U H
theorem ip_Sy.moved {off : Nat} {sa : Nat → Nat} {u U : State} {H : Heap} (hvm : u.vm.Alike U.vm) (h : ip_Sy off sa u H) : ip_Sy off sa U H := ⟨h.1.moved hvm, h.2.1.moved hvm, h.2.2.1.moved hvm, h.2.2.2.moved hvm⟩
theorem ip_Sy.kept {off : Nat} {sa : Nat → Nat} {U : State} {H H1 : Heap} (h : ip_Sy off sa U H) (hq : ∀ a : Nat, a < H.size → ¬ ip_A off a → H1[a]? = H[a]?) : ip_Sy off sa U H1 := ⟨h.1.kept hq, h.2.1.kept hq, h.2.2.1.kept hq, h.2.2.2.kept hq⟩
/-- words of the throw that the tables alone decide -/
def ip_dw : List Cond := [.declares ⟨"java/lang/RuntimeException", "<init>", "()V"⟩, .declares ⟨"java/lang/Exception", "<init>", "()V"⟩, .declares ⟨"java/lang/Throwable", "<init>", "()V"⟩, .castable RJE RJE]
theorem ip_dw_of {P : Cond → Prop} (h : ∀ w ∈ ip_dw, P w) : P (.declares ⟨"java/lang/RuntimeException", "<init>", "()V"⟩) ∧ P (.declares ⟨"java/lang/Exception", "<init>", "()V"⟩) ∧ P (.declares ⟨"java/lang/Throwable", "<init>", "()V"⟩) ∧ P (.castable RJE RJE) := ⟨h _ (by simp [ip_dw]), h _ (by simp [ip_dw]), h _ (by simp [ip_dw]), h _ (by simp [ip_dw])⟩
theorem ip_of_dw {P : Cond → Prop} (h : P (.declares ⟨"java/lang/RuntimeException", "<init>", "()V"⟩) ∧ P (.declares ⟨"java/lang/Exception", "<init>", "()V"⟩) ∧ P (.declares ⟨"java/lang/Throwable", "<init>", "()V"⟩) ∧ P (.castable RJE RJE)) : ∀ w ∈ ip_dw, P w := by
  intro w hw
  simp only [ip_dw, List.mem_cons, List.not_mem_nil, or_false] at hw
  rcases hw with rfl | rfl | rfl | rfl
  · exact h.1
  · exact h.2.1
  · exact h.2.2.1
  · exact h.2.2.2
def ip_Dx (U : State) : Prop := ∀ w ∈ ip_dw, va_Nw w U
theorem ip_Dx.same {u U : State} (hv : U.vm = u.vm) (h : ip_Dx u) : ip_Dx U := by
  obtain ⟨h1, h2, h3, h4⟩ := ip_dw_of h
  exact ip_of_dw ⟨va_Nw.same rfl hv.symm h1, va_Nw.same rfl hv.symm h2, va_Nw.same rfl hv.symm h3, va_Nw.same rfl hv.symm h4⟩
theorem ip_Dx.warm {s U : State} (hW : s.WarmedH U.vm) (h : ip_Dx s) : ip_Dx U := by
  obtain ⟨h1, h2, h3, h4⟩ := ip_dw_of h
  exact ip_of_dw ⟨h1.warmD hW, h2.warmD hW, h3.warmD hW, h4.warmC hW⟩
/-- what the start gives of the statics, here at the state U with the heap H -/
def ip_Sx (off : Nat) (sa : Nat → Nat) (L : Nat) (xs : Nat → Int32) (U : State) (H : Heap) : Prop :=
  (∀ i, i < 30 → va_Z RX10 (ip_wn.getD i "") "LLeaderlessOrder$Word;" (.ref (sa i)) (ip_A off) U H ∧ va_O RX10 (sa i) (ip_A off) U H ∧ ∀ k, k ≤ 2 → va_OF RX10 (ip_wfn k).1 (ip_wfn k).2 (ip_wv k (ip_wd.getD i (0, 0, 0))) (sa i) (ip_A off) U H) ∧
  (∀ i j, i < 30 → j < 30 → sa i = sa j → i = j) ∧
  va_Z RX10 "ALL" "[LLeaderlessOrder$Word;" (.ref (sa 30)) (ip_A off) U H ∧ va_T (.object RX10) (sa 30) 30 (fun j => .ref (sa j)) (ip_A off) U H ∧
  (va_X (sa 31) L xs U H ∧ sa 31 < off) ∧
  (∀ e ∈ ip_ML, (e.2.2.2 = 3 ∨ e.2.2.2 = 4) → va_Nw (.methodLinkNest (ip_on e.1) e.2.1 (ip_yn e) RX11) U) ∧
  (va_AO RX10 U ∧ va_AO RX7 U ∧ va_AO RX3 U) ∧ vk_R RX8 65 "()<=+-*;" (sa 32) U ∧ ip_Dx U ∧ ip_Sy off sa U H
theorem ip_Sx.same {off : Nat} {sa : Nat → Nat} {L : Nat} {xs : Nat → Int32} {u U : State} {H : Heap} (hv : U.vm = u.vm) (h : ip_Sx off sa L xs u H) : ip_Sx off sa L xs U H := by
  obtain ⟨h1, h2, h3, h4, ⟨h5, h5b⟩, h6, ⟨h7, h8, h9⟩, h10, h11, h12⟩ := h
  have hvm : u.vm.Alike U.vm := by rw [hv]; exact Vm.Alike.refl _
  exact ⟨fun i hi => ⟨va_Z.moved hvm (h1 i hi).1, va_O.moved hvm (h1 i hi).2.1, fun k hk => va_OF.moved hvm ((h1 i hi).2.2 k hk)⟩, h2, va_Z.moved hvm h3, va_T.moved hvm h4, ⟨va_X.moved hvm h5, h5b⟩, fun e he hk => va_Nw.same rfl hv.symm (h6 e he hk), ⟨h7.moved hvm, h8.moved hvm, h9.moved hvm⟩, vk_R.same hv h10, h11.same hv, h12.moved hvm⟩
theorem ip_Sx.to {off : Nat} {sa : Nat → Nat} {L : Nat} {xs : Nat → Int32} {s U : State} {H : Heap} {locs : List Loc} (h : ip_Sx off sa L xs s s.heap) (hoff : off ≤ s.heap.size) (hS : va_S (ip_A off) s.heap H locs) (hW : s.WarmedH U.vm) : ip_Sx off sa L xs U H := by
  obtain ⟨h1, h2, h3, h4, ⟨h5, h5b⟩, h6, ⟨h7, h8, h9⟩, h10, h11, h12⟩ := h
  have hvm : s.vm.Alike U.vm := hW.alike
  have hq := hS.2.1
  exact ⟨fun i hi => ⟨va_Z.moved hvm ((h1 i hi).1.kept hq), va_O.moved hvm ((h1 i hi).2.1.kept hq), fun k hk => va_OF.moved hvm (((h1 i hi).2.2 k hk).kept hq)⟩, h2, va_Z.moved hvm (h3.kept hq), va_T.moved hvm (h4.kept hq), ⟨va_X.moved hvm (h5.kept (hq _ (by omega) (by show ¬ off ≤ sa 31; omega))), h5b⟩, fun e he hk => (h6 e he hk).warmM hW, ⟨h7.moved hvm, h8.moved hvm, h9.moved hvm⟩, h10.warm hW, h11.warm hW, (h12.kept hq).moved hvm⟩
/-- what holds all through a method's body -/
def ip_C (off : Nat) (sa : Nat → Nat) (D : va_G) (dA : Nat → ClassId) (L : Nat) (xs : Nat → Int32) (M : Mt) (p : Program) (s : State) (m : MethodId) (args : Array Value) (meth : Method) (c : Code) : Prop :=
  p.tables.exec = Jvm.exec ∧ c.code = M.2.1 ∧ meth.sig.returnType = M.2.2.2.1 ∧ c.maxLocals = M.2.2.1 ∧ s.vm.findClass (ip_on M.2.2.2.2.1) = some m.cls ∧ (∀ w ∈ ip_tb, w.before args s = true) ∧ meth.locks = false ∧ (M.2.2.2.2.2.1 = 2 → meth.name = M.1.name) ∧ va_K D ip_cl (ip_tys dA) s ∧ ip_Sx off sa L xs s s.heap ∧ off ≤ s.heap.size
/-- the machine's state at a point stands for the abstract one -/
def ip_R (off : Nat) (sa : Nat → Nat) (D : va_G) (dA : Nat → ClassId) (nL : Nat) (s : State) (h : Hp) (ls : Lv) (lsC : Array Slot) (H : Heap) (locs : List Loc) : Prop :=
  ip_lh (ip_ad off sa) lsC nL ls ∧ H.size = off + h.1.length ∧ va_P D ip_cl (ip_W off (ip_ad off sa) dA h.1) H ∧ va_S (ip_A off) s.heap H locs
theorem ip_mem_of {α : Type} [BEq α] [LawfulBEq α] {l : List α} {a : α} (h : l.contains a = true) : a ∈ l := by simpa using h
theorem ip_FL_cl : ip_FL.all (fun e => match ip_cl[e.2.2.1]? with
  | some q => decide (e.2.2.2 < q.2.2)
  | none => false) = true := by decide +kernel
theorem ip_FL_of {e : Nat × Nat × Nat × Nat} (h : ip_FL.contains e = true) : ∃ q, ip_cl[e.2.2.1]? = some q ∧ e.2.2.2 < q.2.2 ∧ Cond.fieldLink (ip_on e.1) e.2.1 (q.2.1 e.2.2.2).1 (q.2.1 e.2.2.2).2.1 (q.2.1 e.2.2.2).2.2.1 ∈ ip_tb := by
  have hm := ip_mem_of h
  have h1 := List.all_eq_true.mp ip_FL_cl e hm
  have h2 := ip_FL_in _ (List.mem_map.mpr ⟨e, hm, rfl⟩)
  cases hq : ip_cl[e.2.2.1]? with
  | none => rw [hq] at h1; cases h1
  | some q =>
    rw [hq] at h1
    refine ⟨q, rfl, by simpa using h1, ?_⟩
    unfold ip_flw ip_fd at h2
    rw [hq] at h2
    exact h2
theorem ip_cl_ty : ∀ (c : Nat) (q : vw_C), ip_cl[c]? = some q → (∀ k, k < q.2.2 → parseFieldDescriptor (q.2.1 k).2.2.1 = some (ip_ty c k)) ∧ ∀ a, a < q.2.2 → ∀ b, b < q.2.2 → a ≠ b → (q.2.1 a).2.1 ≠ (q.2.1 b).2.1 := by
  intro c q h
  match c, h with
  | 0, h => cases h; exact ⟨tyX0_ok, nmX0⟩
  | 1, h => cases h; exact ⟨tyX1_ok, nmX1⟩
  | 2, h => cases h; exact ⟨tyX2_ok, nmX2⟩
  | 3, h => cases h; exact ⟨tyX3_ok, nmX3⟩
  | 4, h => cases h; exact ⟨tyX4_ok, nmX4⟩
  | 5, h => cases h; exact ⟨tyX5_ok, nmX5⟩
  | 6, h => cases h; exact ⟨tyX6_ok, nmX6⟩
  | 7, h => cases h; exact ⟨tyX7_ok, nmX7⟩
  | 8, h => cases h; exact ⟨tyX8_ok, nmX8⟩
  | 9, h => cases h; exact ⟨tyX9_ok, nmX9⟩
  | 10, h => cases h; exact ⟨tyX11_ok, nmX11⟩
  | 11, h => cases h; exact ⟨tyX12_ok, nmX12⟩
  | 12, h => cases h; exact ⟨fun k hk => absurd hk (Nat.not_lt_zero _), fun a ha => absurd ha (Nat.not_lt_zero _)⟩
  | c + 13, h => simp at h
theorem ip_fit_ok {ad : Nat → Nat} {k : Nat} {ty : FieldType} {v : Value} (hk : k % 10 = ip_kf ty) (h : ip_fit k v = true) : narrow ty (ip_cv ad v) = ip_cv ad v ∧ fits ty (ip_cv ad v) = true := by
  unfold ip_fit at h
  rw [hk] at h
  cases ty <;> cases v <;> simp only [ip_kf] at h <;> first | (exact ⟨rfl, rfl⟩) | (cases h; done) | skip
  rename_i x
  simp only [Bool.or_eq_true, decide_eq_true_eq] at h
  rcases h with rfl | rfl <;> exact ⟨rfl, rfl⟩
theorem ip_obj_of {h : Hp} {a : Nat} {o : Nat × List Value} (hh : ip_obj h a = some o) : ¬ a < 64 ∧ h.1[a - 64]? = some (.inr o) := by
  unfold ip_obj at hh
  split at hh
  · cases hh
  · rename_i ha
    refine ⟨ha, ?_⟩
    split at hh
    · rename_i he; cases hh; exact he
    · cases hh
theorem ip_arr_of {h : Hp} {a : Nat} {o : Nat × vp_A} (hh : ip_arr h a = some o) : ¬ a < 64 ∧ h.1[a - 64]? = some (.inl o) := by
  unfold ip_arr at hh
  split at hh
  · cases hh
  · rename_i ha
    refine ⟨ha, ?_⟩
    split at hh
    · rename_i he; cases hh; exact he
    · cases hh
section INV
variable {st : List Value} {q : Nx}
theorem ip_b1_of {g : Int32 → List Value → Option Nx} (h : ip_b1 st g = some q) : ∃ (x : Int32) (r : List Value), st = .int x :: r ∧ g x r = some q := by
  unfold ip_b1 at h
  split at h
  · exact ⟨_, _, rfl, h⟩
  · cases h
theorem ip_b2_of {g : Int32 → Int32 → List Value → Option Nx} (h : ip_b2 st g = some q) : ∃ (x y : Int32) (r : List Value), st = .int y :: .int x :: r ∧ g x y r = some q := by
  unfold ip_b2 at h
  split at h
  · exact ⟨_, _, _, rfl, h⟩
  · cases h
theorem ip_l1_of {g : Int64 → List Value → Option Nx} (h : ip_l1 st g = some q) : ∃ (x : Int64) (r : List Value), st = .long x :: r ∧ g x r = some q := by
  unfold ip_l1 at h
  split at h
  · exact ⟨_, _, rfl, h⟩
  · cases h
theorem ip_l2_of {g : Int64 → Int64 → List Value → Option Nx} (h : ip_l2 st g = some q) : ∃ (x y : Int64) (r : List Value), st = .long y :: .long x :: r ∧ g x y r = some q := by
  unfold ip_l2 at h
  split at h
  · exact ⟨_, _, _, rfl, h⟩
  · cases h
theorem ip_li_of {g : Int64 → Int32 → List Value → Option Nx} (h : ip_li st g = some q) : ∃ (x : Int64) (y : Int32) (r : List Value), st = .int y :: .long x :: r ∧ g x y r = some q := by
  unfold ip_li at h
  split at h
  · exact ⟨_, _, _, rfl, h⟩
  · cases h
theorem ip_r1_of {g : Nat → List Value → Option Nx} (h : ip_r1 st g = some q) : ∃ (a : Nat) (r : List Value), st = .ref a :: r ∧ g a r = some q := by
  unfold ip_r1 at h
  split at h
  · exact ⟨_, _, rfl, h⟩
  · cases h
theorem ip_r2_of {g : Nat → Nat → List Value → Option Nx} (h : ip_r2 st g = some q) : ∃ (x y : Nat) (r : List Value), st = .ref y :: .ref x :: r ∧ g x y r = some q := by
  unfold ip_r2 at h
  split at h
  · exact ⟨_, _, _, rfl, h⟩
  · cases h
theorem ip_ri_of {g : Nat → Int32 → List Value → Option Nx} (h : ip_ri st g = some q) : ∃ (a : Nat) (i : Int32) (r : List Value), st = .int i :: .ref a :: r ∧ g a i r = some q := by
  unfold ip_ri at h
  split at h
  · exact ⟨_, _, _, rfl, h⟩
  · cases h
theorem ip_rii_of {g : Nat → Int32 → Int32 → List Value → Option Nx} (h : ip_rii st g = some q) : ∃ (a : Nat) (i x : Int32) (r : List Value), st = .int x :: .int i :: .ref a :: r ∧ g a i x r = some q := by
  unfold ip_rii at h
  split at h
  · exact ⟨_, _, _, _, rfl, h⟩
  · cases h
theorem ip_ril_of {g : Nat → Int32 → Int64 → List Value → Option Nx} (h : ip_ril st g = some q) : ∃ (a : Nat) (i : Int32) (x : Int64) (r : List Value), st = .long x :: .int i :: .ref a :: r ∧ g a i x r = some q := by
  unfold ip_ril at h
  split at h
  · exact ⟨_, _, _, _, rfl, h⟩
  · cases h
theorem ip_rir_of {g : Nat → Int32 → Nat → List Value → Option Nx} (h : ip_rir st g = some q) : ∃ (a : Nat) (i : Int32) (x : Nat) (r : List Value), st = .ref x :: .int i :: .ref a :: r ∧ g a i x r = some q := by
  unfold ip_rir at h
  split at h
  · exact ⟨_, _, _, _, rfl, h⟩
  · cases h
theorem ip_rv_of {g : Nat → Value → List Value → Option Nx} (h : ip_rv st g = some q) : ∃ (a : Nat) (v : Value) (r : List Value), st = v :: .ref a :: r ∧ g a v r = some q := by
  unfold ip_rv at h
  split at h
  · exact ⟨_, _, _, rfl, h⟩
  · cases h
theorem ip_v1_of {g : Value → List Value → Option Nx} (h : ip_v1 st g = some q) : ∃ (v : Value) (r : List Value), st = v :: r ∧ g v r = some q := by
  unfold ip_v1 at h
  split at h
  · exact ⟨_, _, rfl, h⟩
  · cases h
theorem ip_v2_of {g : Value → Value → List Value → Option Nx} (h : ip_v2 st g = some q) : ∃ (v w : Value) (r : List Value), st = v :: w :: r ∧ g v w r = some q := by
  unfold ip_v2 at h
  split at h
  · exact ⟨_, _, _, rfl, h⟩
  · cases h
theorem ip_gi_of {o : Option Value} {g : Int32 → Option Nx} (h : ip_gi o g = some q) : ∃ x, o = some (.int x) ∧ g x = some q := by
  unfold ip_gi at h
  split at h
  · exact ⟨_, rfl, h⟩
  · cases h
theorem ip_gl_of {o : Option Value} {g : Int64 → Option Nx} (h : ip_gl o g = some q) : ∃ x, o = some (.long x) ∧ g x = some q := by
  unfold ip_gl at h
  split at h
  · exact ⟨_, rfl, h⟩
  · cases h
theorem ip_gr_of {o : Option Value} {g : Nat → Option Nx} (h : ip_gr o g = some q) : ∃ x, o = some (.ref x) ∧ g x = some q := by
  unfold ip_gr at h
  split at h
  · exact ⟨_, rfl, h⟩
  · cases h
theorem ip_ol_of {α : Type} {o : Option α} {g : α → Option Nx} (h : ip_ol o g = some q) : ∃ x, o = some x ∧ g x = some q := by
  unfold ip_ol at h
  split at h
  · exact ⟨_, rfl, h⟩
  · cases h
theorem ip_ai_of {t : Nat} {o : Option (Nat × vp_A)} {g : Nat → (Nat → Int32) → Option Nx} (h : ip_ai t o g = some q) : ∃ n f, o = some (t, n, .inl f) ∧ g n f = some q := by
  unfold ip_ai at h
  split at h
  · split at h
    · rename_i e; subst e; exact ⟨_, _, rfl, h⟩
    · cases h
  · cases h
theorem ip_al_of {o : Option (Nat × vp_A)} {g : Nat → (Nat → Int64) → Option Nx} (h : ip_al o g = some q) : ∃ n f, o = some (1, n, .inr (.inl f)) ∧ g n f = some q := by
  unfold ip_al at h
  split at h
  · split at h
    · rename_i e; subst e; exact ⟨_, _, rfl, h⟩
    · cases h
  · cases h
theorem ip_ar_of {o : Option (Nat × vp_A)} {g : Nat → Nat → (Nat → Option Nat) → Option Nx} (h : ip_ar o g = some q) : ∃ t n f, o = some (t, n, .inr (.inr (.inr (.inr f)))) ∧ (4 ≤ t ∧ t ≤ 6) ∧ g t n f = some q := by
  unfold ip_ar at h
  split at h
  · split at h
    · rename_i e; exact ⟨_, _, _, rfl, e, h⟩
    · cases h
  · cases h
end INV
theorem ip_P_push {D : va_G} {off : Nat} {ad : Nat → Nat} {dA : Nat → ClassId} {h : List AC} {c : AC} {H H1 : Heap} (hP : va_P D ip_cl (ip_W off ad dA h) H) (ho : ∀ q : Nat, q < H.size → H1[q]? = H[q]?) (hc : va_at D ip_cl (off + h.length, ip_ce ad dA c) H1) : va_P D ip_cl (ip_W off ad dA (h ++ [c])) H1 := by
  rw [ip_W_app]
  refine va_P.app (hP.kept fun k q hk => ho q.1 (hP k q hk).lt) fun k q hk => ?_
  have hz : k < 1 := (List.getElem?_eq_some_iff.mp hk).1
  rw [show k = 0 by omega] at hk
  cases hk
  exact hc
theorem ip_S_new {off : Nat} {H0 H H1 : Heap} {locs : List Loc} (hS : va_S (ip_A off) H0 H locs) (z : H1.size = H.size + 1) (ho : ∀ q : Nat, q < H.size → H1[q]? = H[q]?) : va_S (ip_A off) H0 H1 locs :=
  ⟨Nat.le_trans hS.1 (by omega), fun x h1 h2 => (ho x (Nat.lt_of_lt_of_le h1 hS.1)).trans (hS.2.1 x h1 h2), hS.2.2⟩
section STEP
variable {p : Program} {l : Launch} {e : Env} {R : Room} {s : State} {m : MethodId} {args : Array Value} {below : List Frame} {meth : Method} {c : Code} {H : Heap} {locs : List Loc} {cells slots : Nat} {Q : State → Prop}
variable {off : Nat} {sa : Nat → Nat} {D : va_G} {dA : Nat → ClassId} {L : Nat} {xs : Nat → Int32} {M : Mt} {pc : Nat} {h : Hp} {ls : Lv} {lsC : Array Slot} {rest : List Value}
theorem ip_k0 {pc' : Nat} {ls' : Lv} {st' : List Value} (K : ∀ (lsC' : Array Slot) (H' : Heap) (locs' : List Loc), ip_R off sa D dA M.2.2.1 s h ls' lsC' H' locs' → W p l e R s m args below meth c H' locs' (cells + (h.1.length - h.1.length)) (slots + (h.2 - h.2)) Q (F0 m pc' lsC' (st'.map (ip_cv (ip_ad off sa)))))
    (hr : ip_R off sa D dA M.2.2.1 s h ls' lsC H locs) : W p l e R s m args below meth c H locs cells slots Q (F0 m pc' lsC (st'.map (ip_cv (ip_ad off sa)))) := by
  have h0 := K lsC H locs hr
  rw [Nat.sub_self, Nat.sub_self, Nat.add_zero, Nat.add_zero] at h0
  exact h0
/-- behind a write into the cell k -/
theorem ip_kset {h : Hp} {a : Nat} {c0 c1 : AC} {pc' : Nat} {st' : List Value} (K : ∀ (lsC' : Array Slot) (H' : Heap) (locs' : List Loc), ip_R off sa D dA M.2.2.1 s (ip_put h a c1) ls lsC' H' locs' → W p l e R s m args below meth c H' locs' (cells + ((ip_put h a c1).1.length - h.1.length)) (slots + ((ip_put h a c1).2 - h.2)) Q (F0 m pc' lsC' (st'.map (ip_cv (ip_ad off sa)))))
    (hr : ip_R off sa D dA M.2.2.1 s h ls lsC H locs) (ha : h.1[a - 64]? = some c0) {H1 : Heap} {k : Nat} (he : va_at D ip_cl (off + (a - 64), ip_ce (ip_ad off sa) dA c1) H1) (z : H1.size = H.size) (oq : ∀ q : Nat, q ≠ off + (a - 64) → H1[q]? = H[q]?) :
    W p l e R s m args below meth c H1 (locs ++ [⟨off + (a - 64), k⟩]) cells slots Q (F0 m pc' lsC (st'.map (ip_cv (ip_ad off sa)))) := by
  have hlen : (ip_put h a c1).1.length = h.1.length := by simp [ip_put]
  have h0 := K lsC H1 (locs ++ [⟨off + (a - 64), k⟩]) ⟨hr.1, by rw [z, hlen]; exact hr.2.1, by
    show va_P D ip_cl (ip_W off (ip_ad off sa) dA (h.1.set (a - 64) c1)) H1
    rw [← ip_W_set]
    exact hr.2.2.1.set (ip_W_D h.1) (ip_W_get ha) he oq, hr.2.2.2.put z oq (Nat.le_add_right _ _)⟩
  rw [hlen, show (ip_put h a c1).2 = h.2 from rfl, Nat.sub_self, Nat.sub_self, Nat.add_zero, Nat.add_zero] at h0
  exact h0
theorem ip_cvr {a : Nat} (ha : ¬ a < 64) : ip_cv (ip_ad off sa) (.ref a) = .ref (off + (a - 64)) := by show Value.ref (ip_ad off sa a) = _; rw [ip_ad_hi ha]
theorem ip_cvs {a : Nat} (ha : a < 64) : ip_cv (ip_ad off sa) (.ref a) = .ref (sa a) := by show Value.ref (ip_ad off sa a) = _; rw [ip_ad_lo ha]
theorem ip_any {v ci : Nat} {q : vw_C} {tys : List (ClassId × FieldType)} (hK : va_K D ip_cl tys s) (hP : va_P D ip_cl (ip_W off (ip_ad off sa) dA h.1) H) (hc : ip_cl[ci]? = some q) (hm : (match ip_obj h v with
    | some o => o.1 == ci
    | none => false) = true) : va_Any q.1 s H (ip_ad off sa v) := by
  cases ho : ip_obj h v with
  | none => rw [ho] at hm; cases hm
  | some o =>
    rw [ho] at hm
    obtain ⟨ha, hc0⟩ := ip_obj_of ho
    obtain ⟨c9, fs⟩ := o
    have hci : c9 = ci := by simpa using hm
    subst hci
    rw [ip_ad_hi ha]
    exact va_rAny hK hP (ip_W_get hc0) hc (fun comp c0 h1 h2 => by rw [show comp = c0 from Option.some.inj (h1.symm.trans h2), show c0 = D.1 c9 from Option.some.inj (h2.symm.trans (hK.1 c9 q hc).2.1)]; exact va_assign (hK.1 c9 q hc).2)
set_option maxHeartbeats 4000000 in
set_option maxRecDepth 100000 in
theorem ip_step {ins : Instr} {len r1 r2 r3 : Nat} {st : List Value} {pc' : Nat} {ls' : Lv} {st' : List Value} {h' : Hp} (C : ip_C off sa D dA L xs M p s m args meth c) (hM2 : M.2.2.2.2.2.1 = 2 → M.1.name = "<init>") (hok : ip_ok M (pc, ins, len, r1, r2, r3) = true) (hd : decode M.2.1 pc = .ok (ins, len))
    (hr : ip_R off sa D dA M.2.2.1 s h ls lsC H locs) (hst : ip_st L xs ins pc r1 r2 r3 ls st h = some (pc', ls', st', h')) (hcl : cells + (h'.1.length - h.1.length) ≤ R.cells) (hsl : slots + (h'.2 - h.2) ≤ R.slots)
    (K : ∀ (lsC' : Array Slot) (H' : Heap) (locs' : List Loc), ip_R off sa D dA M.2.2.1 s h' ls' lsC' H' locs' → W p l e R s m args below meth c H' locs' (cells + (h'.1.length - h.1.length)) (slots + (h'.2 - h.2)) Q (F0 m pc' lsC' (st'.map (ip_cv (ip_ad off sa))))) :
    W p l e R s m args below meth c H locs cells slots Q (F0 m pc lsC (st.map (ip_cv (ip_ad off sa)))) := by
  obtain ⟨hx, hb, hret, hml, hown, hts, hlocks, hnm, hK, hSx, hoff⟩ := id C
  obtain ⟨hlv, hsz, hP, hS⟩ := id hr
  unfold ip_ok at hok
  dsimp only at hok
  rw [Bool.and_eq_true] at hok
  obtain ⟨hlen0, hok⟩ := hok
  have hlen : ip_len ins = 0 ∨ ip_len ins = len := by simpa using hlen0
  clear hlen0
  cases ins
  case iconst i =>
    obtain rfl : 1 = len := hlen.resolve_left (show ¬ ((1 : Nat) = 0) by decide)
    cases hst
    exact lv_iconst hx hb hd rfl (ip_k0 K hr)
  case bipush i =>
    obtain rfl : 2 = len := hlen.resolve_left (show ¬ ((2 : Nat) = 0) by decide)
    cases hst
    exact lv_bipush hx hb hd rfl (ip_k0 K hr)
  case sipush i =>
    obtain rfl : 3 = len := hlen.resolve_left (show ¬ ((3 : Nat) = 0) by decide)
    cases hst
    exact lv_sipush hx hb hd rfl (ip_k0 K hr)
  case lconst i =>
    obtain rfl : 1 = len := hlen.resolve_left (show ¬ ((1 : Nat) = 0) by decide)
    cases hst
    exact lv_lconst hx hb hd rfl (ip_k0 K hr)
  case ldc i =>
    obtain rfl : 2 = len := hlen.resolve_left (show ¬ ((2 : Nat) = 0) by decide)
    dsimp only [ip_st] at hst
    split at hst
    · rename_i h3
      cases hst
      dsimp only at hok
      rw [if_pos h3] at hok
      exact lv_ldc hx hb hown (hts _ (ip_KI_in _ (List.mem_map.mpr ⟨_, ip_mem_of hok, rfl⟩))) hd (ip_k0 K hr)
    · rename_i h3
      cases hst
      dsimp only at hok
      rw [if_neg h3, Bool.and_eq_true, decide_eq_true_eq, decide_eq_true_eq] at hok
      obtain ⟨rfl, ho⟩ := hok
      rw [ho] at hown
      refine va_ldcS hx hb (own := RX8) (tx := "()<=+-*;") (q := sa 32) hown hSx.2.2.2.2.2.2.2.1 hd ?_
      have h0 := ip_k0 K hr
      rw [List.map_cons, ip_cvs (by decide)] at h0
      exact h0
  case ldc_w i =>
    obtain rfl : 3 = len := hlen.resolve_left (show ¬ ((3 : Nat) = 0) by decide)
    dsimp only [ip_st] at hst
    split at hst
    · cases hst
      exact lv_ldcw hx hb hown (hts _ (ip_KI_in _ (List.mem_map.mpr ⟨_, ip_mem_of hok, rfl⟩))) hd (ip_k0 K hr)
    · cases hst
  case ldc2_w i =>
    obtain rfl : 3 = len := hlen.resolve_left (show ¬ ((3 : Nat) = 0) by decide)
    cases hst
    exact lv_ldc2 hx hb hown (hts _ (ip_KL_in _ (List.mem_map.mpr ⟨_, ip_mem_of hok, rfl⟩))) hd (ip_k0 K hr)
  case iload_n i =>
    obtain rfl : 1 = len := hlen.resolve_left (show ¬ ((1 : Nat) = 0) by decide)
    obtain ⟨x, hg, hq⟩ := ip_gi_of hst
    cases hq
    exact lv_iload_n hx hb hd rfl (hlv.get hg) (ip_k0 K hr)
  case iload i =>
    obtain rfl : 2 = len := hlen.resolve_left (show ¬ ((2 : Nat) = 0) by decide)
    obtain ⟨x, hg, hq⟩ := ip_gi_of hst
    cases hq
    exact lv_iload hx hb hd (hlv.get hg) (ip_k0 K hr)
  case lload_n i =>
    obtain rfl : 1 = len := hlen.resolve_left (show ¬ ((1 : Nat) = 0) by decide)
    obtain ⟨x, hg, hq⟩ := ip_gl_of hst
    cases hq
    exact lv_lload_n hx hb hd rfl (hlv.get hg) (ip_k0 K hr)
  case lload i =>
    obtain rfl : 2 = len := hlen.resolve_left (show ¬ ((2 : Nat) = 0) by decide)
    obtain ⟨x, hg, hq⟩ := ip_gl_of hst
    cases hq
    exact lv_lload hx hb hd (hlv.get hg) (ip_k0 K hr)
  case aload_n i =>
    obtain rfl : 1 = len := hlen.resolve_left (show ¬ ((1 : Nat) = 0) by decide)
    obtain ⟨x, hg, hq⟩ := ip_gr_of hst
    cases hq
    exact lv_aload_n hx hb hd rfl (hlv.get hg) (ip_k0 K hr)
  case aload i =>
    obtain rfl : 2 = len := hlen.resolve_left (show ¬ ((2 : Nat) = 0) by decide)
    obtain ⟨x, hg, hq⟩ := ip_gr_of hst
    cases hq
    exact lv_aload hx hb hd (hlv.get hg) (ip_k0 K hr)
  case istore_n i =>
    obtain rfl : 1 = len := hlen.resolve_left (show ¬ ((1 : Nat) = 0) by decide)
    obtain ⟨x, r, rfl, hq⟩ := ip_b1_of hst
    obtain ⟨l1, hs1, hq⟩ := ip_ol_of hq
    cases hq
    have hi := (ip_s1_of hs1).1
    rw [hlv.1] at hi
    exact lv_istore_n hx hb hd rfl hlv.2 hi rfl fun ls' hl' => ip_k0 K ⟨hlv.set1 hs1 hl', hsz, hP, hS⟩
  case istore i =>
    obtain rfl : 2 = len := hlen.resolve_left (show ¬ ((2 : Nat) = 0) by decide)
    obtain ⟨x, r, rfl, hq⟩ := ip_b1_of hst
    obtain ⟨l1, hs1, hq⟩ := ip_ol_of hq
    cases hq
    have hi := (ip_s1_of hs1).1
    rw [hlv.1] at hi
    exact lv_istore hx hb hd hlv.2 hi rfl fun ls' hl' => ip_k0 K ⟨hlv.set1 hs1 hl', hsz, hP, hS⟩
  case astore_n i =>
    obtain rfl : 1 = len := hlen.resolve_left (show ¬ ((1 : Nat) = 0) by decide)
    obtain ⟨x, r, rfl, hq⟩ := ip_r1_of hst
    obtain ⟨l1, hs1, hq⟩ := ip_ol_of hq
    cases hq
    have hi := (ip_s1_of hs1).1
    rw [hlv.1] at hi
    exact lv_astore_n hx hb hd rfl hlv.2 hi rfl fun ls' hl' => ip_k0 K ⟨hlv.set1 hs1 hl', hsz, hP, hS⟩
  case astore i =>
    obtain rfl : 2 = len := hlen.resolve_left (show ¬ ((2 : Nat) = 0) by decide)
    obtain ⟨x, r, rfl, hq⟩ := ip_r1_of hst
    obtain ⟨l1, hs1, hq⟩ := ip_ol_of hq
    cases hq
    have hi := (ip_s1_of hs1).1
    rw [hlv.1] at hi
    exact lv_astore hx hb hd hlv.2 hi rfl fun ls' hl' => ip_k0 K ⟨hlv.set1 hs1 hl', hsz, hP, hS⟩
  case lstore_n i =>
    obtain rfl : 1 = len := hlen.resolve_left (show ¬ ((1 : Nat) = 0) by decide)
    obtain ⟨x, r, rfl, hq⟩ := ip_l1_of hst
    obtain ⟨l1, hs1, hq⟩ := ip_ol_of hq
    cases hq
    have hi := (ip_s2_of hs1).1
    rw [hlv.1] at hi
    exact lv_lstore_n hx hb hd rfl hlv.2 hi rfl fun ls' hl' => ip_k0 K ⟨hlv.set2 hs1 hl', hsz, hP, hS⟩
  case lstore i =>
    obtain rfl : 2 = len := hlen.resolve_left (show ¬ ((2 : Nat) = 0) by decide)
    obtain ⟨x, r, rfl, hq⟩ := ip_l1_of hst
    obtain ⟨l1, hs1, hq⟩ := ip_ol_of hq
    cases hq
    have hi := (ip_s2_of hs1).1
    rw [hlv.1] at hi
    exact lv_lstore hx hb hd hlv.2 hi rfl fun ls' hl' => ip_k0 K ⟨hlv.set2 hs1 hl', hsz, hP, hS⟩
  case iinc i k =>
    obtain rfl : 3 = len := hlen.resolve_left (show ¬ ((3 : Nat) = 0) by decide)
    obtain ⟨x, hg, hq⟩ := ip_gi_of hst
    obtain ⟨l1, hs1, hq⟩ := ip_ol_of hq
    cases hq
    have hi := (ip_s1_of hs1).1
    rw [hlv.1] at hi
    obtain ⟨z, hz⟩ := hlv.place hg
    exact lv_iinc hx hb hd hlv.2 hz rfl hi rfl fun ls' hl' => ip_k0 K ⟨hlv.set1 hs1 hl', hsz, hP, hS⟩
  case iadd =>
    obtain rfl : 1 = len := hlen.resolve_left (show ¬ ((1 : Nat) = 0) by decide)
    obtain ⟨x, y, r, rfl, hq⟩ := ip_b2_of hst
    cases hq
    exact lv_iadd hx hb hd (ip_k0 K hr)
  case isub =>
    obtain rfl : 1 = len := hlen.resolve_left (show ¬ ((1 : Nat) = 0) by decide)
    obtain ⟨x, y, r, rfl, hq⟩ := ip_b2_of hst
    cases hq
    exact lv_isub hx hb hd (ip_k0 K hr)
  case imul =>
    obtain rfl : 1 = len := hlen.resolve_left (show ¬ ((1 : Nat) = 0) by decide)
    obtain ⟨x, y, r, rfl, hq⟩ := ip_b2_of hst
    cases hq
    exact lv_imul hx hb hd (ip_k0 K hr)
  case iand =>
    obtain rfl : 1 = len := hlen.resolve_left (show ¬ ((1 : Nat) = 0) by decide)
    obtain ⟨x, y, r, rfl, hq⟩ := ip_b2_of hst
    cases hq
    exact lv_iand hx hb hd (ip_k0 K hr)
  case ior =>
    obtain rfl : 1 = len := hlen.resolve_left (show ¬ ((1 : Nat) = 0) by decide)
    obtain ⟨x, y, r, rfl, hq⟩ := ip_b2_of hst
    cases hq
    exact lv_ior hx hb hd (ip_k0 K hr)
  case ixor =>
    obtain rfl : 1 = len := hlen.resolve_left (show ¬ ((1 : Nat) = 0) by decide)
    obtain ⟨x, y, r, rfl, hq⟩ := ip_b2_of hst
    cases hq
    exact lv_ixor hx hb hd (ip_k0 K hr)
  case ishl =>
    obtain rfl : 1 = len := hlen.resolve_left (show ¬ ((1 : Nat) = 0) by decide)
    obtain ⟨x, y, r, rfl, hq⟩ := ip_b2_of hst
    cases hq
    exact lv_ishl hx hb hd (ip_k0 K hr)
  case ishr =>
    obtain rfl : 1 = len := hlen.resolve_left (show ¬ ((1 : Nat) = 0) by decide)
    obtain ⟨x, y, r, rfl, hq⟩ := ip_b2_of hst
    cases hq
    exact lv_ishr hx hb hd (ip_k0 K hr)
  case iushr =>
    obtain rfl : 1 = len := hlen.resolve_left (show ¬ ((1 : Nat) = 0) by decide)
    obtain ⟨x, y, r, rfl, hq⟩ := ip_b2_of hst
    cases hq
    exact lv_iushr hx hb hd rfl (ip_k0 K hr)
  case idiv =>
    obtain rfl : 1 = len := hlen.resolve_left (show ¬ ((1 : Nat) = 0) by decide)
    obtain ⟨x, y, r, rfl, hq⟩ := ip_b2_of hst
    split at hq
    · cases hq
    · rename_i hne; cases hq; exact lv_idiv hx hb hd hne (ip_k0 K hr)
  case irem =>
    obtain rfl : 1 = len := hlen.resolve_left (show ¬ ((1 : Nat) = 0) by decide)
    obtain ⟨x, y, r, rfl, hq⟩ := ip_b2_of hst
    split at hq
    · cases hq
    · rename_i hne; cases hq; exact lv_irem hx hb hd hne (ip_k0 K hr)
  case ldiv =>
    obtain rfl : 1 = len := hlen.resolve_left (show ¬ ((1 : Nat) = 0) by decide)
    obtain ⟨x, y, r, rfl, hq⟩ := ip_l2_of hst
    split at hq
    · cases hq
    · rename_i hne; cases hq; exact lv_ldiv hx hb hd hne (ip_k0 K hr)
  case lrem =>
    obtain rfl : 1 = len := hlen.resolve_left (show ¬ ((1 : Nat) = 0) by decide)
    obtain ⟨x, y, r, rfl, hq⟩ := ip_l2_of hst
    split at hq
    · cases hq
    · rename_i hne; cases hq; exact lv_lrem hx hb hd hne (ip_k0 K hr)
  case ineg =>
    obtain rfl : 1 = len := hlen.resolve_left (show ¬ ((1 : Nat) = 0) by decide)
    obtain ⟨x, r, rfl, hq⟩ := ip_b1_of hst
    cases hq
    exact lv_ineg hx hb hd (ip_k0 K hr)
  case ladd =>
    obtain rfl : 1 = len := hlen.resolve_left (show ¬ ((1 : Nat) = 0) by decide)
    obtain ⟨x, y, r, rfl, hq⟩ := ip_l2_of hst
    cases hq
    exact lv_ladd hx hb hd (ip_k0 K hr)
  case lsub =>
    obtain rfl : 1 = len := hlen.resolve_left (show ¬ ((1 : Nat) = 0) by decide)
    obtain ⟨x, y, r, rfl, hq⟩ := ip_l2_of hst
    cases hq
    exact lv_lsub hx hb hd (ip_k0 K hr)
  case lmul =>
    obtain rfl : 1 = len := hlen.resolve_left (show ¬ ((1 : Nat) = 0) by decide)
    obtain ⟨x, y, r, rfl, hq⟩ := ip_l2_of hst
    cases hq
    exact lv_lmul hx hb hd (ip_k0 K hr)
  case land =>
    obtain rfl : 1 = len := hlen.resolve_left (show ¬ ((1 : Nat) = 0) by decide)
    obtain ⟨x, y, r, rfl, hq⟩ := ip_l2_of hst
    cases hq
    exact lv_land hx hb hd (ip_k0 K hr)
  case lor =>
    obtain rfl : 1 = len := hlen.resolve_left (show ¬ ((1 : Nat) = 0) by decide)
    obtain ⟨x, y, r, rfl, hq⟩ := ip_l2_of hst
    cases hq
    exact lv_lor hx hb hd (ip_k0 K hr)
  case lshl =>
    obtain rfl : 1 = len := hlen.resolve_left (show ¬ ((1 : Nat) = 0) by decide)
    obtain ⟨x, y, r, rfl, hq⟩ := ip_li_of hst
    cases hq
    exact lv_lshl hx hb hd rfl (ip_k0 K hr)
  case lshr =>
    obtain rfl : 1 = len := hlen.resolve_left (show ¬ ((1 : Nat) = 0) by decide)
    obtain ⟨x, y, r, rfl, hq⟩ := ip_li_of hst
    cases hq
    exact lv_lshr hx hb hd rfl (ip_k0 K hr)
  case lushr =>
    obtain rfl : 1 = len := hlen.resolve_left (show ¬ ((1 : Nat) = 0) by decide)
    obtain ⟨x, y, r, rfl, hq⟩ := ip_li_of hst
    cases hq
    exact lv_lushr hx hb hd rfl (ip_k0 K hr)
  case lcmp =>
    obtain rfl : 1 = len := hlen.resolve_left (show ¬ ((1 : Nat) = 0) by decide)
    obtain ⟨x, y, r, rfl, hq⟩ := ip_l2_of hst
    cases hq
    exact W.lcmp hx hb hd (ip_k0 K hr)
  case i2l =>
    obtain rfl : 1 = len := hlen.resolve_left (show ¬ ((1 : Nat) = 0) by decide)
    obtain ⟨x, r, rfl, hq⟩ := ip_b1_of hst
    cases hq
    exact lv_i2l hx hb hd rfl (ip_k0 K hr)
  case l2i =>
    obtain rfl : 1 = len := hlen.resolve_left (show ¬ ((1 : Nat) = 0) by decide)
    obtain ⟨x, r, rfl, hq⟩ := ip_l1_of hst
    cases hq
    exact lv_l2i hx hb hd rfl (ip_k0 K hr)
  case i2c =>
    obtain rfl : 1 = len := hlen.resolve_left (show ¬ ((1 : Nat) = 0) by decide)
    obtain ⟨x, r, rfl, hq⟩ := ip_b1_of hst
    cases hq
    exact lv_i2c hx hb hd rfl (ip_k0 K hr)
  case i2b =>
    obtain rfl : 1 = len := hlen.resolve_left (show ¬ ((1 : Nat) = 0) by decide)
    obtain ⟨x, r, rfl, hq⟩ := ip_b1_of hst
    cases hq
    exact lv_i2b hx hb hd rfl (ip_k0 K hr)
  case dup =>
    obtain rfl : 1 = len := hlen.resolve_left (show ¬ ((1 : Nat) = 0) by decide)
    obtain ⟨v, r, rfl, hq⟩ := ip_v1_of hst
    split at hq
    · rename_i hc; cases hq; exact lv_dup hx hb hd (by rw [ip_cv_cat]; exact hc) (ip_k0 K hr)
    · cases hq
  case dup2 =>
    obtain rfl : 1 = len := hlen.resolve_left (show ¬ ((1 : Nat) = 0) by decide)
    obtain ⟨v, w, r, rfl, hq⟩ := ip_v2_of hst
    split at hq
    · rename_i hc; cases hq; exact lv_dup2_11 hx hb hd (by rw [ip_cv_cat]; exact hc.1) (by rw [ip_cv_cat]; exact hc.2) (ip_k0 K hr)
    · cases hq
  case pop =>
    obtain rfl : 1 = len := hlen.resolve_left (show ¬ ((1 : Nat) = 0) by decide)
    obtain ⟨v, r, rfl, hq⟩ := ip_v1_of hst
    split at hq
    · rename_i hc; cases hq; exact lv_pop hx hb hd (by rw [ip_cv_cat]; exact hc) (ip_k0 K hr)
    · cases hq
  case goto o =>
    obtain rfl : 3 = len := hlen.resolve_left (show ¬ ((3 : Nat) = 0) by decide)
    cases hst
    exact lv_goto hx hb hd (of_decide_eq_true hok) (ip_k0 K hr)
  case ifCond cd o =>
    obtain rfl : 3 = len := hlen.resolve_left (show ¬ ((3 : Nat) = 0) by decide)
    obtain ⟨x, r, rfl, hq⟩ := ip_b1_of hst
    have ht := of_decide_eq_true hok
    cases cd
    case eq => exact lv_if_eq hx hb hd ht (fun z => by first | (dsimp only at hq; rw [if_pos z] at hq; cases hq; exact ip_k0 K hr) | (dsimp only at hq; rw [if_neg z] at hq; cases hq; exact ip_k0 K hr)) (fun z => by first | (dsimp only at hq; rw [if_neg z] at hq; cases hq; exact ip_k0 K hr) | (dsimp only at hq; rw [if_pos z] at hq; cases hq; exact ip_k0 K hr))
    case ne => exact lv_if_ne hx hb hd ht (fun z => by first | (dsimp only at hq; rw [if_pos z] at hq; cases hq; exact ip_k0 K hr) | (dsimp only at hq; rw [if_neg z] at hq; cases hq; exact ip_k0 K hr)) (fun z => by first | (dsimp only at hq; rw [if_neg z] at hq; cases hq; exact ip_k0 K hr) | (dsimp only at hq; rw [if_pos z] at hq; cases hq; exact ip_k0 K hr))
    case lt => exact lv_if_lt hx hb hd ht (fun z => by first | (dsimp only at hq; rw [if_pos z] at hq; cases hq; exact ip_k0 K hr) | (dsimp only at hq; rw [if_neg z] at hq; cases hq; exact ip_k0 K hr)) (fun z => by first | (dsimp only at hq; rw [if_neg z] at hq; cases hq; exact ip_k0 K hr) | (dsimp only at hq; rw [if_pos z] at hq; cases hq; exact ip_k0 K hr))
    case ge => exact lv_if_ge hx hb hd ht (fun z => by first | (dsimp only at hq; rw [if_pos z] at hq; cases hq; exact ip_k0 K hr) | (dsimp only at hq; rw [if_neg z] at hq; cases hq; exact ip_k0 K hr)) (fun z => by first | (dsimp only at hq; rw [if_neg z] at hq; cases hq; exact ip_k0 K hr) | (dsimp only at hq; rw [if_pos z] at hq; cases hq; exact ip_k0 K hr))
    case gt => exact lv_if_gt hx hb hd ht (fun z => by first | (dsimp only at hq; rw [if_pos z] at hq; cases hq; exact ip_k0 K hr) | (dsimp only at hq; rw [if_neg z] at hq; cases hq; exact ip_k0 K hr)) (fun z => by first | (dsimp only at hq; rw [if_neg z] at hq; cases hq; exact ip_k0 K hr) | (dsimp only at hq; rw [if_pos z] at hq; cases hq; exact ip_k0 K hr))
    case le => exact lv_if_le hx hb hd ht (fun z => by first | (dsimp only at hq; rw [if_pos z] at hq; cases hq; exact ip_k0 K hr) | (dsimp only at hq; rw [if_neg z] at hq; cases hq; exact ip_k0 K hr)) (fun z => by first | (dsimp only at hq; rw [if_neg z] at hq; cases hq; exact ip_k0 K hr) | (dsimp only at hq; rw [if_pos z] at hq; cases hq; exact ip_k0 K hr))
  case if_icmp cd o =>
    obtain rfl : 3 = len := hlen.resolve_left (show ¬ ((3 : Nat) = 0) by decide)
    obtain ⟨x, y, r, rfl, hq⟩ := ip_b2_of hst
    have ht := of_decide_eq_true hok
    cases cd
    case eq => exact lv_icmp_eq hx hb hd ht (fun z => by first | (dsimp only at hq; rw [if_pos z] at hq; cases hq; exact ip_k0 K hr) | (dsimp only at hq; rw [if_neg z] at hq; cases hq; exact ip_k0 K hr)) (fun z => by first | (dsimp only at hq; rw [if_neg z] at hq; cases hq; exact ip_k0 K hr) | (dsimp only at hq; rw [if_pos z] at hq; cases hq; exact ip_k0 K hr))
    case ne => exact lv_icmp_ne hx hb hd ht (fun z => by first | (dsimp only at hq; rw [if_pos z] at hq; cases hq; exact ip_k0 K hr) | (dsimp only at hq; rw [if_neg z] at hq; cases hq; exact ip_k0 K hr)) (fun z => by first | (dsimp only at hq; rw [if_neg z] at hq; cases hq; exact ip_k0 K hr) | (dsimp only at hq; rw [if_pos z] at hq; cases hq; exact ip_k0 K hr))
    case lt => exact lv_icmp_lt hx hb hd ht (fun z => by first | (dsimp only at hq; rw [if_pos z] at hq; cases hq; exact ip_k0 K hr) | (dsimp only at hq; rw [if_neg z] at hq; cases hq; exact ip_k0 K hr)) (fun z => by first | (dsimp only at hq; rw [if_neg z] at hq; cases hq; exact ip_k0 K hr) | (dsimp only at hq; rw [if_pos z] at hq; cases hq; exact ip_k0 K hr))
    case ge => exact lv_icmp_ge hx hb hd ht (fun z => by first | (dsimp only at hq; rw [if_pos z] at hq; cases hq; exact ip_k0 K hr) | (dsimp only at hq; rw [if_neg z] at hq; cases hq; exact ip_k0 K hr)) (fun z => by first | (dsimp only at hq; rw [if_neg z] at hq; cases hq; exact ip_k0 K hr) | (dsimp only at hq; rw [if_pos z] at hq; cases hq; exact ip_k0 K hr))
    case gt => exact lv_icmp_gt hx hb hd ht (fun z => by first | (dsimp only at hq; rw [if_pos z] at hq; cases hq; exact ip_k0 K hr) | (dsimp only at hq; rw [if_neg z] at hq; cases hq; exact ip_k0 K hr)) (fun z => by first | (dsimp only at hq; rw [if_neg z] at hq; cases hq; exact ip_k0 K hr) | (dsimp only at hq; rw [if_pos z] at hq; cases hq; exact ip_k0 K hr))
    case le => exact lv_icmp_le hx hb hd ht (fun z => by first | (dsimp only at hq; rw [if_pos z] at hq; cases hq; exact ip_k0 K hr) | (dsimp only at hq; rw [if_neg z] at hq; cases hq; exact ip_k0 K hr)) (fun z => by first | (dsimp only at hq; rw [if_neg z] at hq; cases hq; exact ip_k0 K hr) | (dsimp only at hq; rw [if_pos z] at hq; cases hq; exact ip_k0 K hr))
  case if_acmp cd o =>
    obtain rfl : 3 = len := hlen.resolve_left (show ¬ ((3 : Nat) = 0) by decide)
    obtain ⟨x, y, r, rfl, hq⟩ := ip_r2_of hst
    have ht := of_decide_eq_true hok
    split at hq
    · rename_i hxy
      rw [List.map_cons, List.map_cons, ip_cvs (by omega), ip_cvs (by omega)]
      have hinj : sa x = sa y ↔ x = y := ⟨fun z => hSx.2.1 x y hxy.1 hxy.2 z, fun z => by rw [z]⟩
      cases cd
      case eq => exact lv_acmp_eq (rx := some (sa x)) (ry := some (sa y)) hx hb hd ht (fun z => by dsimp only at hq; rw [if_pos (hinj.mp (Option.some.inj z))] at hq; cases hq; exact ip_k0 K hr) (fun z => by dsimp only at hq; rw [if_neg (fun k => z (by rw [hinj.mpr k]))] at hq; cases hq; exact ip_k0 K hr)
      case ne => exact lv_acmp_ne (rx := some (sa x)) (ry := some (sa y)) hx hb hd ht (fun z => by dsimp only at hq; rw [if_neg (fun k => z (by rw [hinj.mpr k]))] at hq; cases hq; exact ip_k0 K hr) (fun z => by dsimp only at hq; rw [if_pos (hinj.mp (Option.some.inj z))] at hq; cases hq; exact ip_k0 K hr)
    · cases hq
  case tableswitch df lo hi offs =>
    obtain ⟨x, r, rfl, hq⟩ := ip_b1_of hst
    have ht := of_decide_eq_true hok
    split at hq
    · rename_i z; cases hq; exact lv_tableOut hx hb hd z ht (ip_k0 K hr)
    · rename_i z
      obtain ⟨o, ho, hq⟩ := ip_ol_of hq
      split at hq
      · rename_i hz; cases hq; exact lv_tableIn hx hb hd (fun k => z (Or.inl k)) (fun k => z (Or.inr k)) ho (by omega) (ip_k0 K hr)
      · cases hq
  case lookupswitch df ps =>
    obtain ⟨x, r, rfl, hq⟩ := ip_b1_of hst
    split at hq
    · rename_i z; cases hq; exact lv_lookup hx hb hd z.1 rfl (by omega) (ip_k0 K hr)
    · cases hq
  case getstatic i =>
    obtain rfl : 3 = len := hlen.resolve_left (show ¬ ((3 : Nat) = 0) by decide)
    dsimp only at hok
    dsimp only [ip_st] at hst
    split at hst
    case isFalse h3 =>
      cases hst
      rw [if_neg h3] at hok
      exact va_gets hx hb hSx.2.2.2.2.2.2.2.2.2.2.1 hS hown (hts _ (ip_CS_in _ (List.mem_map.mpr ⟨_, ip_mem_of hok, rfl⟩))) (fun _ z => z) hd (ip_k0 K hr)
    rename_i h3
    cases hst
    rw [if_pos h3] at hok
    rw [Bool.and_eq_true, decide_eq_true_eq] at hok
    have hl := hts _ (ip_SL_in _ (List.mem_map.mpr ⟨_, ip_mem_of hok.2, rfl⟩))
    have h0 := ip_k0 K hr
    rw [List.map_cons, ip_cvs (by omega)] at h0
    by_cases h30 : r1 = 30
    · subst h30; exact va_gets hx hb hSx.2.2.1 hS hown hl (fun _ z => z) hd h0
    · have hs : ip_sn r1 = (ip_wn.getD r1 "", "LLeaderlessOrder$Word;") := if_neg h30
      unfold ip_slw at hl
      dsimp only at hl
      rw [hs] at hl
      exact va_gets hx hb (hSx.1 r1 (by omega)).1 hS hown hl (fun _ z => z) hd h0
  case getfield i =>
    obtain rfl : 3 = len := hlen.resolve_left (show ¬ ((3 : Nat) = 0) by decide)
    dsimp only at hok
    obtain ⟨a, r, rfl, hq⟩ := ip_r1_of hst
    split at hq
    · rename_i ha
      split at hq
      · rename_i h77
        obtain ⟨w, hw, hq⟩ := ip_ol_of hq
        cases hq
        rw [if_pos h77, Bool.and_eq_true, decide_eq_true_eq] at hok
        rw [List.map_cons, ip_cvs (by omega)]
        have hv : ip_wd.getD a (0, 0, 0) = w := by rw [List.getD_eq_getElem?_getD, hw]; rfl
        have hf := (hSx.1 a ha).2.2 r2 hok.1
        rw [hv] at hf
        have h0 := ip_k0 K hr
        rw [List.map_cons, show ip_cv (ip_ad off sa) (ip_wv r2 w) = ip_wv r2 w by unfold ip_wv; split <;> rfl] at h0
        exact vk_getf hx hb hf hS hown (hts _ (ip_WF_in _ (List.mem_map.mpr ⟨_, ip_mem_of hok.2, rfl⟩))) (fun _ z => z) hd h0
      · cases hq
    · split at hq
      · rename_i ha32
        subst ha32
        split at hq
        · rename_i h78
          subst h78
          cases hq
          rw [if_neg (by decide), if_pos rfl, Bool.and_eq_true, decide_eq_true_eq] at hok
          rw [List.map_cons, ip_cvs (by decide)]
          have hl := hts _ (ip_SF_in _ (List.mem_map.mpr ⟨_, ip_mem_of hok.2, rfl⟩))
          have hvs := hSx.2.2.2.2.2.2.2.2.2.1.1 0 (by decide)
          have h0 := ip_k0 K hr
          rcases (show r2 = 0 ∨ r2 = 1 by omega) with rfl | rfl
          · rw [List.map_cons, show ip_cv (ip_ad off sa) (ip_sv 0) = .ref (sa 33) from ip_cvs (by decide)] at h0
            exact vk_getf hx hb hvs.2.2.1 hS hown hl (fun _ z => z) hd h0
          · exact vk_getf hx hb hvs.2.1 hS hown hl (fun _ z => z) hd h0
        · cases hq
      · obtain ⟨o, ho, hq⟩ := ip_ol_of hq
        split at hq
        · rename_i hci
          obtain ⟨v, hv, hq⟩ := ip_ol_of hq
          cases hq
          obtain ⟨ha, hc0⟩ := ip_obj_of ho
          obtain ⟨ci, fs⟩ := o
          dsimp only at hci hv
          subst hci
          have h77 : ¬ ci = 77 := by intro z; subst z; exact absurd (hP _ _ (ip_W_get hc0)) (by rintro ⟨r9, h9, -⟩; simp [ip_ce] at h9)
          have h78 : ¬ ci = 78 := by intro z; subst z; exact absurd (hP _ _ (ip_W_get hc0)) (by rintro ⟨r9, h9, -⟩; simp [ip_ce] at h9)
          rw [if_neg h77, if_neg h78] at hok
          obtain ⟨⟨C9, T9, N9⟩, hq1, hq2, hq3⟩ := ip_FL_of hok
          rw [List.map_cons, ip_cvr ha]
          exact va_get hx hb (own := ip_on M.2.2.2.2.1) (ref := (T9 r2).1) (C := C9) (T := T9) (N := N9) hts (ip_cl_in _ _ hq1) hown hK hP (a - 64) (ip_W_get hc0) hq1 r2 hq2 (hts _ hq3) (fun _ z => z) (v := ip_cv (ip_ad off sa) v) (by rw [List.getElem?_map, hv]; rfl) hd (ip_k0 K hr)
        · cases hq
  case putfield i =>
    obtain rfl : 3 = len := hlen.resolve_left (show ¬ ((3 : Nat) = 0) by decide)
    obtain ⟨a, v, r, rfl, hq⟩ := ip_rv_of hst
    obtain ⟨o, ho, hq⟩ := ip_ol_of hq
    split at hq
    · rename_i hci
      cases hq
      obtain ⟨ha, hc0⟩ := ip_obj_of ho
      obtain ⟨ci, fs⟩ := o
      obtain ⟨hci, hl2, hft⟩ := hci
      dsimp only at hci hl2
      subst hci
      rw [Bool.and_eq_true, Bool.and_eq_true, decide_eq_true_eq] at hok
      obtain ⟨⟨hfl, hkd⟩, hfin⟩ := hok
      obtain ⟨⟨C9, T9, N9⟩, hq1, hq2, hq3⟩ := ip_FL_of hfl
      obtain ⟨hty, hnms⟩ := ip_cl_ty _ _ hq1
      dsimp only at hq2 hq3 hty hnms
      obtain ⟨hn1, hn2⟩ := ip_fit_ok (ad := ip_ad off sa) hkd hft
      have hin := ip_cl_in _ _ hq1
      have hap := va_apart (own := ip_on M.2.2.2.2.1) (D := D) (cl := ip_cl) (tys := ip_tys dA) (s := s) (args := args) hts hin (ip_ty ci) hty hnms hK hq1
      obtain ⟨r9, h19, cell, q1, q2, q3, q4⟩ := hP (a - 64) _ (ip_W_get hc0)
      have hr9 : r9 = (C9, T9, N9) := Option.some.inj (h19.symm.trans hq1)
      subst hr9
      obtain ⟨hS9, hfc, kC, hkC, hkind⟩ := hK.1 ci _ hq1
      obtain ⟨cf, kf, fi, f, hi, hsl9⟩ := hS9 r2 hq2
      dsimp only at hi
      have hst9 := (u_facts hfc hkC (u_lays hts hin hq2) hi).1
      have hlay := hts _ (hin _ (u_in_lay hq2))
      unfold u_lay at hlay
      have hfd : ip_fd ci r2 = T9 r2 := by unfold ip_fd; rw [hq1]
      rw [hfd] at hfin
      have hcell : ∀ H1 : Heap, H1[off + (a - 64)]? = some (cell.setSlot f.slot (ip_cv (ip_ad off sa) v)) → va_at D ip_cl (off + (a - 64), ip_ce (ip_ad off sa) dA (.inr (ci, fs.set r2 v))) H1 := by
        intro H1 e1
        rw [hsl9] at e1
        refine ⟨_, hq1, t_OB.to (V := updV (vp_V (fs.map (ip_cv (ip_ad off sa)))) r2 (ip_cv (ip_ad off sa) v)) ⟨_, e1, q2, q3, t_set q4 hap hq2 _⟩ (fun j _ => ?_)⟩
        rw [vp_updV_set (by rw [List.length_map]; exact hl2)]
        show _ = vp_V ((fs.set r2 v).map (ip_cv (ip_ad off sa))) j
        rw [List.map_set]
      rw [List.map_cons, List.map_cons, ip_cvr ha]
      by_cases hf9 : (T9 r2).2.2.2 = true
      · rw [if_pos hf9] at hlay hfin
        rw [Bool.and_eq_true, decide_eq_true_eq, decide_eq_true_eq] at hfin
        have hcf : m.cls = cf := by
          obtain ⟨_, _, c9, _, _, _, -, -, hf8, -, -, -, hown2, -⟩ := Cond.laysFinal_spec hlay
          have e1 : c9 = cf := by have := hi.symm.trans hf8; simp at this; exact this.1.symm
          have hdecl : (T9 r2).1 = ip_on M.2.2.2.2.1 := by rw [hfin.2]; exact ip_decl hq1 hq2
          rw [hdecl] at hown2
          rw [← e1]; exact Option.some.inj (hown.symm.trans hown2)
        have h6 := u_fits hfc hkC hkind (Or.inr hlay) hi (hty r2 hq2) hn1 hn2
        refine W.putFinK hx hb hown (hts _ hq3) hi hst9 hcf ((hnm hfin.1).trans (hM2 hfin.1)) (by rw [q2]; exact h6) q1 q3 (by rw [hsl9]; exact k2_hasslot (q4 r2 hq2)) rfl rfl hd fun H1 e1 e2 e3 => ?_
        exact ip_kset K hr hc0 (hcell H1 e1) e2 e3
      · have hf8 : (T9 r2).2.2.2 = false := by simpa using hf9
        rw [if_neg hf9] at hlay
        have h6 := u_store hfc hkC hkind hlay hi (hty r2 hq2) hn1 hn2
        refine W.putK hx hb (f := f) ⟨hown, hts _ hq3, ⟨_, _, _, hi⟩, hst9⟩ (by rw [q2]; exact h6) q1 q3 (by rw [hsl9]; exact k2_hasslot (q4 r2 hq2)) rfl rfl hd fun H1 e1 e2 e3 => ?_
        exact ip_kset K hr hc0 (hcell H1 e1) e2 e3
    · cases hq
  case arraylength =>
    obtain rfl : 1 = len := hlen.resolve_left (show ¬ ((1 : Nat) = 0) by decide)
    obtain ⟨a, r, rfl, hq⟩ := ip_r1_of hst
    split at hq
    · rename_i ha; subst ha; cases hq
      rw [List.map_cons, ip_cvs (by decide)]
      exact va_slen hx hb hSx.2.2.2.2.1.1 (by have := hSx.2.2.2.2.1.2; omega) (by have := hSx.2.2.2.2.1.2; show ¬ off ≤ sa 31; omega) hS hd (ip_k0 K hr)
    · split at hq
      · rename_i ha; subst ha; cases hq
        rw [List.map_cons, ip_cvs (by decide)]
        exact va_tlen hx hb hSx.2.2.2.1 hS rfl hd (ip_k0 K hr)
      · split at hq
        · rename_i ha; subst ha; cases hq
          rw [List.map_cons, ip_cvs (by decide)]
          exact va_tlen hx hb (hSx.2.2.2.2.2.2.2.2.2.1.1 0 (by decide)).2.2.2 hS rfl hd (ip_k0 K hr)
        · obtain ⟨o, ho, hq⟩ := ip_ol_of hq
          split at hq
          · rename_i ht; cases hq
            obtain ⟨ha, hc0⟩ := ip_arr_of ho
            obtain ⟨t, n, a9⟩ := o
            rw [List.map_cons, ip_cvr ha]
            refine va_alen hx hb hK hP (a - 64) t (ip_W_get hc0) (ip_tys_at dA ht) (v := Int32.ofNat n) ?_ hd (ip_k0 K hr)
            unfold ip_ca
            rcases a9 with f | f | f | f | f <;> rfl
          · cases hq
  case iaload =>
    obtain rfl : 1 = len := hlen.resolve_left (show ¬ ((1 : Nat) = 0) by decide)
    obtain ⟨a, i, r, rfl, hq⟩ := ip_ri_of hst
    split at hq
    · rename_i ha; subst ha
      split at hq
      · rename_i hin; cases hq
        rw [List.map_cons, List.map_cons, ip_cvs (by decide)]
        exact va_sld hx hb hSx.2.2.2.2.1.1 (by have := hSx.2.2.2.2.1.2; omega) (by have := hSx.2.2.2.2.1.2; show ¬ off ≤ sa 31; omega) hS (ip_in_vp hin) hd (ip_k0 K hr)
      · cases hq
    · obtain ⟨n, f, ho, hq⟩ := ip_ai_of hq
      split at hq
      · rename_i hin; cases hq
        obtain ⟨ha, hc0⟩ := ip_arr_of ho
        rw [List.map_cons, List.map_cons, ip_cvr ha]
        exact va_iald hx hb hK hP (a - 64) 0 (ip_W_get hc0) (ip_tys_at dA (by decide)) (ip_in_vp hin) hd (ip_k0 K hr)
      · cases hq
  case caload =>
    obtain rfl : 1 = len := hlen.resolve_left (show ¬ ((1 : Nat) = 0) by decide)
    obtain ⟨a, i, r, rfl, hq⟩ := ip_ri_of hst
    obtain ⟨n, f, ho, hq⟩ := ip_ai_of hq
    split at hq
    · rename_i hin; cases hq
      obtain ⟨ha, hc0⟩ := ip_arr_of ho
      rw [List.map_cons, List.map_cons, ip_cvr ha]
      exact va_cald hx hb hK hP (a - 64) 2 (ip_W_get hc0) (ip_tys_at dA (by decide)) (ip_in_vp hin) hd (ip_k0 K hr)
    · cases hq
  case baload =>
    obtain rfl : 1 = len := hlen.resolve_left (show ¬ ((1 : Nat) = 0) by decide)
    obtain ⟨a, i, r, rfl, hq⟩ := ip_ri_of hst
    split at hq
    · rename_i ha; subst ha
      split at hq
      · rename_i hin; cases hq
        rw [List.map_cons, List.map_cons, ip_cvs (by decide)]
        exact va_tb hx hb (hSx.2.2.2.2.2.2.2.2.2.1.1 0 (by decide)).2.2.2 hS (ip_in_vp hin) rfl hd (ip_k0 K hr)
      · cases hq
    · obtain ⟨n, f, ho, hq⟩ := ip_ai_of hq
      split at hq
      · rename_i hin; cases hq
        obtain ⟨ha, hc0⟩ := ip_arr_of ho
        rw [List.map_cons, List.map_cons, ip_cvr ha]
        exact va_zald hx hb hK hP (a - 64) 3 (ip_W_get hc0) (ip_tys_at dA (by decide)) (ip_in_vp hin) hd (ip_k0 K hr)
      · cases hq
  case laload =>
    obtain rfl : 1 = len := hlen.resolve_left (show ¬ ((1 : Nat) = 0) by decide)
    obtain ⟨a, i, r, rfl, hq⟩ := ip_ri_of hst
    obtain ⟨n, f, ho, hq⟩ := ip_al_of hq
    split at hq
    · rename_i hin; cases hq
      obtain ⟨ha, hc0⟩ := ip_arr_of ho
      rw [List.map_cons, List.map_cons, ip_cvr ha]
      exact va_lald hx hb hK hP (a - 64) 1 (ip_W_get hc0) (ip_tys_at dA (by decide)) (ip_in_vp hin) hd (ip_k0 K hr)
    · cases hq
  case aaload =>
    obtain rfl : 1 = len := hlen.resolve_left (show ¬ ((1 : Nat) = 0) by decide)
    obtain ⟨a, i, r, rfl, hq⟩ := ip_ri_of hst
    split at hq
    · rename_i ha; subst ha
      split at hq
      · rename_i hin; cases hq
        rw [List.map_cons, List.map_cons, ip_cvs (by decide)]
        have h0 := ip_k0 K hr
        rw [List.map_cons, ip_cvs (by have := (ip_in_n hin).2; omega)] at h0
        exact vb_tq hx hb hSx.2.2.2.1 hS (ip_in_vp hin) rfl hd h0
      · cases hq
    · obtain ⟨t, n, f, ho, ht, hq⟩ := ip_ar_of hq
      split at hq
      · rename_i hin
        obtain ⟨k, hk, hq⟩ := ip_ol_of hq
        cases hq
        obtain ⟨ha, hc0⟩ := ip_arr_of ho
        rw [List.map_cons, List.map_cons, ip_cvr ha]
        have h0 := ip_k0 K hr
        have hv : va_rf ((f i.toNatClampNeg).map (ip_ad off sa)) = ip_cv (ip_ad off sa) (.ref k) := by rw [hk]; rfl
        rw [List.map_cons, ← hv] at h0
        have hto : ∃ C9, ip_tf t = .object C9 := by rcases (show t = 4 ∨ t = 5 ∨ t = 6 by omega) with rfl | rfl | rfl <;> exact ⟨_, rfl⟩
        obtain ⟨C9, hC9⟩ := hto
        exact va_aldq (C := C9) hx hb hK hP (a - 64) t (ip_W_get hc0) (by rw [ip_tys_at dA ht.2, hC9]) (ip_in_vp hin) hd h0
      · cases hq
  case iastore =>
    obtain rfl : 1 = len := hlen.resolve_left (show ¬ ((1 : Nat) = 0) by decide)
    obtain ⟨a, i, x, r, rfl, hq⟩ := ip_rii_of hst
    obtain ⟨n, f, ho, hq⟩ := ip_ai_of hq
    split at hq
    · rename_i hin; cases hq
      obtain ⟨ha, hc0⟩ := ip_arr_of ho
      rw [List.map_cons, List.map_cons, List.map_cons, ip_cvr ha]
      refine W.iast hx hb (hP (a - 64) _ (ip_W_get hc0)) ((hK.2 0 _ (ip_tys_at dA (by decide))).1 n (fun j => .int (f j))) (fun q => by cases q) (by show ¬ (i < 0 ∨ (arrV _ _ _).slots.size ≤ _); rw [arrV_size]; exact ip_in_vp hin) rfl rfl hd fun H1 e z oq => ?_
      refine ip_kset K hr hc0 ?_ z oq
      show H1[off + (a - 64)]? = some (vp_cell _ _)
      rw [e]
      show some ((vp_cell (dA 0) (n, .inl f)).setSlot _ _) = some (vp_cell (dA 0) (n, .inl (upd f i.toNatClampNeg x)))
      rw [vp_cell_i, vp_cell_i, arrV_store]
      congr 2
      funext q
      by_cases hq : q = i.toNatClampNeg
      · subst hq
        simp [updV, upd, vp_updL, vp_nar]
        try rfl
      · simp [updV, upd, vp_updL, hq]
    · cases hq
  case castore =>
    obtain rfl : 1 = len := hlen.resolve_left (show ¬ ((1 : Nat) = 0) by decide)
    obtain ⟨a, i, x, r, rfl, hq⟩ := ip_rii_of hst
    obtain ⟨n, f, ho, hq⟩ := ip_ai_of hq
    split at hq
    · rename_i hin; cases hq
      obtain ⟨ha, hc0⟩ := ip_arr_of ho
      rw [List.map_cons, List.map_cons, List.map_cons, ip_cvr ha]
      refine W.cast hx hb (hP (a - 64) _ (ip_W_get hc0)) ((hK.2 2 _ (ip_tys_at dA (by decide))).1 n (fun j => .int (f j))) (fun q => by cases q) (by show ¬ (i < 0 ∨ (arrV _ _ _).slots.size ≤ _); rw [arrV_size]; exact ip_in_vp hin) rfl rfl hd fun H1 e z oq => ?_
      refine ip_kset K hr hc0 ?_ z oq
      show H1[off + (a - 64)]? = some (vp_cell _ _)
      rw [e]
      show some ((vp_cell (dA 2) (n, .inl f)).setSlot _ _) = some (vp_cell (dA 2) (n, .inl (upd f i.toNatClampNeg (vp_nar .char x))))
      rw [vp_cell_i, vp_cell_i, arrV_store]
      congr 2
      funext q
      by_cases hq : q = i.toNatClampNeg
      · subst hq
        simp [updV, upd, vp_updL, vp_nar]
        try rfl
      · simp [updV, upd, vp_updL, hq]
    · cases hq
  case bastore =>
    obtain rfl : 1 = len := hlen.resolve_left (show ¬ ((1 : Nat) = 0) by decide)
    obtain ⟨a, i, x, r, rfl, hq⟩ := ip_rii_of hst
    obtain ⟨n, f, ho, hq⟩ := ip_ai_of hq
    split at hq
    · rename_i hin; cases hq
      obtain ⟨ha, hc0⟩ := ip_arr_of ho
      rw [List.map_cons, List.map_cons, List.map_cons, ip_cvr ha]
      refine W.zast hx hb (hP (a - 64) _ (ip_W_get hc0)) ((hK.2 3 _ (ip_tys_at dA (by decide))).1 n (fun j => .int (f j))) (fun q => by cases q) (by show ¬ (i < 0 ∨ (arrV _ _ _).slots.size ≤ _); rw [arrV_size]; exact ip_in_vp hin) rfl rfl hd fun H1 e z oq => ?_
      refine ip_kset K hr hc0 ?_ z oq
      show H1[off + (a - 64)]? = some (vp_cell _ _)
      rw [e]
      show some ((vp_cell (dA 3) (n, .inl f)).setSlot _ _) = some (vp_cell (dA 3) (n, .inl (upd f i.toNatClampNeg (vp_nar .boolean x))))
      rw [vp_cell_i, vp_cell_i, arrV_store]
      congr 2
      funext q
      by_cases hq : q = i.toNatClampNeg
      · subst hq
        simp [updV, upd, vp_updL, vp_nar]
        try rfl
      · simp [updV, upd, vp_updL, hq]
    · cases hq
  case lastore =>
    obtain rfl : 1 = len := hlen.resolve_left (show ¬ ((1 : Nat) = 0) by decide)
    obtain ⟨a, i, x, r, rfl, hq⟩ := ip_ril_of hst
    obtain ⟨n, f, ho, hq⟩ := ip_al_of hq
    split at hq
    · rename_i hin; cases hq
      obtain ⟨ha, hc0⟩ := ip_arr_of ho
      rw [List.map_cons, List.map_cons, List.map_cons, ip_cvr ha]
      refine W.last hx hb (hP (a - 64) _ (ip_W_get hc0)) ((hK.2 1 _ (ip_tys_at dA (by decide))).1 n (fun j => .long (f j))) (fun q => by cases q) (by show ¬ (i < 0 ∨ (arrV _ _ _).slots.size ≤ _); rw [arrV_size]; exact ip_in_vp hin) rfl rfl hd fun H1 e z oq => ?_
      refine ip_kset K hr hc0 ?_ z oq
      show H1[off + (a - 64)]? = some (vp_cell _ _)
      rw [e]
      show some ((vp_cell (dA 1) (n, .inr (.inl f))).setSlot _ _) = some (vp_cell (dA 1) (n, .inr (.inl (vp_updL f i.toNatClampNeg x))))
      rw [vp_cell_l, vp_cell_l, arrV_store]
      congr 2
      funext q
      by_cases hq : q = i.toNatClampNeg
      · subst hq
        simp [updV, upd, vp_updL, vp_nar]
        try rfl
      · simp [updV, upd, vp_updL, hq]
    · cases hq
  case aastore =>
    obtain rfl : 1 = len := hlen.resolve_left (show ¬ ((1 : Nat) = 0) by decide)
    obtain ⟨a, i, v, r, rfl, hq⟩ := ip_rir_of hst
    obtain ⟨t, n, f, ho, ht, hq⟩ := ip_ar_of hq
    split at hq
    · rename_i hin; cases hq
      obtain ⟨ha, hc0⟩ := ip_arr_of ho
      obtain ⟨hin, hmem⟩ := hin
      rw [List.map_cons, List.map_cons, List.map_cons, ip_cvr ha]
      obtain ⟨E9, hE9, hAny⟩ : ∃ E9, ip_tf t = .object E9 ∧ va_Any E9 s H (ip_ad off sa v) := by
        rcases (show t = 4 ∨ t = 5 ∨ t = 6 by omega) with rfl | rfl | rfl
        · have hv : v < 30 := of_decide_eq_true hmem
          refine ⟨_, rfl, ?_⟩
          rw [ip_ad_lo (by omega)]
          obtain ⟨cell, g1, g2, g3⟩ := va_Orecv (hSx.1 v hv).2.1 hS
          obtain ⟨kC, hkC, -⟩ := Vm.findClass_spec g3
          exact ⟨cell, g1, g2, ⟨kC, hkC⟩, fun comp hcomp => by rw [Option.some.inj (hcomp.symm.trans g3)]; first | exact Vm.assignable_self _ _ | exact assignable_self _ _⟩
        · exact ⟨_, rfl, ip_any hK hP (ci := 7) rfl hmem⟩
        · exact ⟨_, rfl, ip_any hK hP (ci := 3) rfl hmem⟩
      obtain ⟨cellV, g1, g3, ⟨kC, hkC⟩, hasg⟩ := hAny
      have hRA := (hK.2 t _ (ip_tys_at dA ht.2)).2
      rw [hE9] at hRA
      obtain ⟨kA, comp, k1, k2, k3, -⟩ := hRA
      obtain ⟨kE, hkE, -⟩ := Vm.findClass_spec k3
      obtain ⟨hn0, hlt⟩ := ip_in_n hin
      refine W.aast hx hb (hP (a - 64) _ (ip_W_get hc0)) (fun q h => by cases h) (fun h => by cases h) k1 k2 rfl hkE ⟨hn0, by show _ < (arrV _ _ _).slots.size; rw [arrV_size]; exact hlt⟩ g1 (fun q h => by rw [h] at g3; cases g3) hkC (hasg _ k3) rfl rfl hd fun H1 e z oq => ?_
      refine ip_kset K hr hc0 ?_ z oq
      show H1[off + (a - 64)]? = some (vp_cell _ _)
      rw [e]
      show some ((vp_cell (dA t) (n, .inr (.inr (.inr (.inr fun j => (f j).map (ip_ad off sa)))))).setSlot _ _) = some (vp_cell (dA t) (n, .inr (.inr (.inr (.inr fun j => (va_up f i.toNatClampNeg (some v) j).map (ip_ad off sa))))))
      rw [vp_cell_q, vp_cell_q, arrV_store]
      congr 2
      funext q
      by_cases hq : q = i.toNatClampNeg
      · subst hq
        simp [updV, va_up, va_rf]
      · simp [updV, va_up, hq]
    · cases hq
  case new i =>
    obtain rfl : 3 = len := hlen.resolve_left (show ¬ ((3 : Nat) = 0) by decide)
    obtain ⟨fs, hfs, hq⟩ := ip_ol_of hst
    cases hq
    rw [Bool.or_eq_true, decide_eq_true_eq] at hok
    have h99 : ¬ r1 = 99 := by intro z; subst z; simp [ip_df] at hfs
    have hok := hok.resolve_left h99
    obtain ⟨⟨C9, T9, N9⟩, hq1, hq2, hq3, hq4⟩ := ip_df_ok hfs
    dsimp only at hq2 hq3 hq4
    have hcl2 := hts _ (ip_CL_in _ (List.mem_map.mpr ⟨_, ip_mem_of hok, rfl⟩))
    unfold ip_clw at hcl2
    dsimp only at hcl2
    rw [show ip_cn r1 = C9 by unfold ip_cn; rw [hq1]] at hcl2
    have hKn := hK.1 r1 _ hq1
    rw [List.length_append, show h.1.length + [(Sum.inr (r1, fs) : AC)].length - h.1.length = 1 by simp] at hcl
    rw [show h.2 + fs.length - h.2 = fs.length by omega, hq2] at hsl
    refine W.newcK hx hb hown hcl2 (hts _ hq3.1) (hts _ hq3.2) rfl hd hcl hsl hKn.2.1 rfl fun H1 kC hkC e1 z1 o1 => ?_
    have h0 := K lsC H1 locs ⟨hlv, by rw [z1, hsz, List.length_append]; rfl, ip_P_push hP o1 (by rw [← hsz]; exact ⟨_, hq1, (u_born (ip_ty r1) hts (ip_cl_in _ _ hq1) hKn hkC e1 (ip_cl_ty _ _ hq1).1).to (fun j hj => (hq4 j hj).trans (ip_nullmap (ip_ad off sa) (ip_df_null hfs) j).symm)⟩), ip_S_new hS z1 o1⟩
    rw [List.length_append, show h.1.length + [(Sum.inr (r1, fs) : AC)].length - h.1.length = 1 by simp, show h.2 + fs.length - h.2 = fs.length by omega, hq2, List.map_cons, show ip_cv (ip_ad off sa) (.ref (64 + h.1.length)) = .ref H.size by show Value.ref (ip_ad off sa (64 + h.1.length)) = _; rw [ip_ad_new, hsz]] at h0
    exact h0
  case newarray t =>
    obtain rfl : 2 = len := hlen.resolve_left (show ¬ ((2 : Nat) = 0) by decide)
    obtain ⟨n, r, rfl, hq⟩ := ip_b1_of hst
    split at hq
    · rename_i hin
      obtain ⟨c9, hc9, hq⟩ := ip_ol_of hq
      cases hq
      obtain ⟨hn0, hlt⟩ := ip_in_n hin
      obtain ⟨k9, hk9, hw9, ha9, hb9⟩ := ip_new_ok hc9 (ip_ad off sa) dA
      rw [List.length_append, show h.1.length + [c9].length - h.1.length = 1 by simp] at hcl
      rw [show h.2 + n.toNatClampNeg - h.2 = n.toNatClampNeg by omega] at hsl
      refine va_newaK hx hb (hts _ hw9) rfl hd rfl hn0 rfl (hb9 _ hlt) hcl hsl rfl fun H1 cA e1 z1 o1 hAr hNm => ?_
      have hcA : cA = dA k9 := by
        have h9 := (hK.2 k9 _ (ip_tys_at dA (by omega))).2
        rw [← hk9.2] at h9
        exact Option.some.inj (hNm.symm.trans (by revert h9; cases t <;> exact id))
      subst hcA
      have h0 := K lsC H1 locs ⟨hlv, by rw [z1, hsz, List.length_append]; rfl, ip_P_push hP o1 (by obtain ⟨a0, g1, g2⟩ := ha9; rw [← hsz, g1]; show H1[H.size]? = some (vp_cell _ _); rw [g2]; exact e1), ip_S_new hS z1 o1⟩
      rw [List.length_append, show h.1.length + [c9].length - h.1.length = 1 by simp, show h.2 + n.toNatClampNeg - h.2 = n.toNatClampNeg by omega, List.map_cons, show ip_cv (ip_ad off sa) (.ref (64 + h.1.length)) = .ref H.size by show Value.ref (ip_ad off sa (64 + h.1.length)) = _; rw [ip_ad_new, hsz]] at h0
      exact h0
    · cases hq
  case anewarray i =>
    obtain rfl : 3 = len := hlen.resolve_left (show ¬ ((3 : Nat) = 0) by decide)
    obtain ⟨n, r, rfl, hq⟩ := ip_b1_of hst
    split at hq
    · rename_i hin
      cases hq
      obtain ⟨hin, hr1, hr2⟩ := hin
      obtain ⟨hn0, hlt⟩ := ip_in_n hin
      have hcl2 := hts _ (ip_AL_in _ (List.mem_map.mpr ⟨_, ip_mem_of hok, rfl⟩))
      unfold ip_alw at hcl2
      dsimp only at hcl2
      have hAO : va_AO (ip_an r1) s ∧ ip_tf r1 = .object (ip_an r1) := by
        have h9 := hSx.2.2.2.2.2.2.1
        rcases (show r1 = 4 ∨ r1 = 5 ∨ r1 = 6 by omega) with rfl | rfl | rfl
        · exact ⟨h9.1, rfl⟩
        · exact ⟨h9.2.1, rfl⟩
        · exact ⟨h9.2.2, rfl⟩
      rw [List.length_append, show h.1.length + [(Sum.inl (r1, n.toNatClampNeg, .inr (.inr (.inr (.inr fun _ => none)))) : AC)].length - h.1.length = 1 by simp] at hcl
      rw [show h.2 + n.toNatClampNeg - h.2 = n.toNatClampNeg by omega] at hsl
      refine W.anew hx hb hown hcl2 (va_AO.use hAO.1) rfl hd rfl hn0 (by omega) hcl hsl fun cA kA comp f1 f2 f3 f4 => ?_
      generalize hH1 : H.push ({ cls := cA, slots := Array.replicate n.toNatClampNeg .null, vm := .none } : Cell) = H1
      have z1 : H1.size = H.size + 1 := by rw [← hH1, Array.size_push]
      have e1 : H1[H.size]? = some (arrV cA n.toNatClampNeg (fun _ => .null)) := by rw [← hH1, Array.getElem?_push_size, ← arrV_new]
      have o1 : ∀ q : Nat, q < H.size → H1[q]? = H[q]? := fun q hq => by rw [← hH1, Array.getElem?_push, if_neg (Nat.ne_of_lt hq)]
      have hcA : cA = dA r1 := by
        have h9 := (hK.2 r1 _ (ip_tys_at dA (by omega))).2
        rw [hAO.2] at h9
        obtain ⟨kA9, comp9, -, -, -, g4⟩ := h9
        exact Option.some.inj (f1.symm.trans g4)
      subst hcA
      have h0 := K lsC H1 locs ⟨hlv, by rw [z1, hsz, List.length_append]; rfl, ip_P_push hP o1 (by rw [← hsz]; exact e1), ip_S_new hS z1 o1⟩
      rw [List.length_append, show h.1.length + [(Sum.inl (r1, n.toNatClampNeg, .inr (.inr (.inr (.inr fun _ => none)))) : AC)].length - h.1.length = 1 by simp, show h.2 + n.toNatClampNeg - h.2 = n.toNatClampNeg by omega, List.map_cons, show ip_cv (ip_ad off sa) (.ref (64 + h.1.length)) = .ref H.size by show Value.ref (ip_ad off sa (64 + h.1.length)) = _; rw [ip_ad_new, hsz]] at h0
      exact h0
    · cases hq
  all_goals (first | (cases hst; done) | (simp [ip_st] at hst; done))
end STEP
