/-! THE PRIMITIVES that the kit has rows for: System.arraycopy, Math, Object's constructor -/
section PRIM
variable {p : Program} {l : Launch} {e : Env} {R : Room} {s : State} {m : MethodId} {args : Array Value} {below : List Frame} {meth : Method} {c : Code} {H : Heap} {locs : List Loc} {cells slots : Nat} {Q : State → Prop}
variable {off : Nat} {sa : Nat → Nat} {D : va_G} {dA : Nat → ClassId} {L : Nat} {xs : Nat → Int32} {M : Mt} {pc : Nat} {h : Hp} {ls : Lv} {lsC : Array Slot}
theorem ip_copy_i {d i : Nat} {a b : Nat} {sp dp n : Int32} {n0 n1 : Nat} {f g : Nat → Int32} {rest : List Value} (C : ip_C off sa D dA L xs M p s m args meth c) (hd : decode M.2.1 pc = .ok (.invokestatic i, 3)) (hlink : Cond.methodLink (ip_on M.2.2.2.2.1) i arraycopyName ∈ ip_tb)
    (hr : ip_R off sa D dA M.2.2.1 s h ls lsC H locs) (ha : ip_arr h a = some (0, n0, .inl f)) (hb9 : ip_arr h b = some (0, n1, .inl g)) (h1 : ¬ sp < 0) (h2 : ¬ dp < 0) (h3 : ¬ n < 0) (h4 : sp.toNatClampNeg + n.toNatClampNeg ≤ n0) (h5 : dp.toNatClampNeg + n.toNatClampNeg ≤ n1)
    (hw : (rest.map fun v => v.category).sum ≤ 8) (hd0 : 0 < d) (hRf : d ≤ R.frames) (hRl : 64 * d ≤ R.locals)
    (K : ∀ (lsC' : Array Slot) (H' : Heap) (locs' : List Loc), ip_R off sa D dA M.2.2.1 s (ip_put h b (.inl (0, n1, .inl (va_cpy f g sp.toNatClampNeg dp.toNatClampNeg n.toNatClampNeg)))) ls lsC' H' locs' → W p l e R s m args below meth c H' locs' cells slots Q (F0 m (pc + 3) lsC' (rest.map (ip_cv (ip_ad off sa))))) :
    W p l e R s m args below meth c H locs cells slots Q (F0 m pc lsC ((.int n :: .int dp :: .ref b :: .int sp :: .ref a :: rest).map (ip_cv (ip_ad off sa)))) := by
  obtain ⟨hx, hb, hret, hmL, hown, hts, hlocks, hnm, hK, hSx, hoff⟩ := id C
  obtain ⟨hlv, hsz, hP, hS⟩ := id hr
  obtain ⟨ga, ga0⟩ := ip_arr_of ha
  obtain ⟨gb, gb0⟩ := ip_arr_of hb9
  have nn : ∀ z : Int32, ¬ z < 0 → z.toInt = (z.toNatClampNeg : Int) := by
    intro z hz
    have hz0 : (0 : Int) ≤ z.toInt := by
      have := Int32.not_lt.mp hz
      simpa using Int32.le_iff_toInt_le.mp this
    show z.toInt = ((z.toInt.toNat : Nat) : Int)
    omega
  simp only [List.map_cons]
  rw [ip_cvr ga, ip_cvr gb]
  have hwR : ((rest.map (ip_cv (ip_ad off sa))).map fun v => v.category).sum ≤ 8 := by
    rw [List.map_map, show ((fun v : Value => v.category) ∘ ip_cv (ip_ad off sa)) = fun v : Value => v.category from funext fun v => ip_cv_cat _ v]
    exact hw
  have hnf : nativeFrameWords "java/lang/System" "arraycopy" 5 ≤ 40 := by decide +kernel
  intro T hT X
  have hc0 : H[off + (a - 64)]? = some (vp_cell (dA 0) (n0, .inl f)) := hP (a - 64) _ (ip_W_get ga0)
  have hc1 : H[off + (b - 64)]? = some (vp_cell (dA 0) (n1, .inl g)) := hP (b - 64) _ (ip_W_get gb0)
  obtain ⟨-, k0, hk0, cm0, hkk0⟩ := (hK.2 0 _ (ip_tys_at dA (by decide))).1 n0 (fun j => .int (f j))
  obtain ⟨-, k1, hk1, cm1, hkk1⟩ := (hK.2 0 _ (ip_tys_at dA (by decide))).1 n1 (fun j => .int (g j))
  obtain ⟨vm', X', step⟩ := X.arraycopy hx hown (hts _ hlink) (hts _ (ip_objw_in _ (by simp [ip_objw]))) (hts _ (ip_objw_in _ (by simp [ip_objw]))) (hts _ (ip_objw_in _ (by simp [ip_objw]))) (src := off + (a - 64)) (dst := off + (b - 64)) (cs := vp_cell (dA 0) (n0, .inl f)) (cd := vp_cell (dA 0) (n1, .inl g)) (srcPos := sp) (destPos := dp) (n := n) (by rw [hT]; exact hc0) (by rw [hT]; exact hc1)
    (fun _ h => by cases h) (fun _ h => by cases h) (fun h => by cases h) (fun h => by cases h) hk0 hk1 hkk0 hkk1 (by simp [ip_tf, refKind]) h1 h2 h3
    (by rw [nn sp h1, nn n h3]; show ¬ _ > ((arrV (dA 0) n0 (fun j => .int (f j))).slots.size : Int); rw [arrV_size]; omega)
    (by rw [nn dp h2, nn n h3]; show ¬ _ > ((arrV (dA 0) n1 (fun j => .int (g j))).slots.size : Int); rw [arrV_size]; omega)
    (fun vm₁ _ i hi => by
      have e : (vp_cell (dA 0) (n0, .inl f)).slots.getD (sp.toNatClampNeg + i) .null = .int (f (sp.toNatClampNeg + i)) := by
        show (arrV (dA 0) n0 (fun j => .int (f j))).slots.getD _ _ = _
        rw [Array.getD_eq_getD_getElem?, arrV_read _ _ (by omega)]
        rfl
      refine ⟨?_, ?_⟩
      · rw [e]
        rfl
      · rw [e]
        exact trivial)
    (g := F0 m pc lsC (.int n :: .int dp :: .ref (off + (b - 64)) :: .int sp :: .ref (off + (a - 64)) :: rest.map (ip_cv (ip_ad off sa)))) rfl (by rw [hmL]; exact hlv.2.1) (rest := rest.map (ip_cv (ip_ad off sa))) rfl (by rw [hb]; exact hd) (by omega) (by show 2 * 0 + _ + (nativeFrameWords "java/lang/System" "arraycopy" 5 + 11) ≤ _; omega)
  have e1 : copied (vp_cell (dA 0) (n0, .inl f)) (vp_cell (dA 0) (n1, .inl g)) sp dp n = vp_cell (dA 0) (n1, .inl (va_cpy f g sp.toNatClampNeg dp.toNatClampNeg n.toNatClampNeg)) := va_copied (fun z => .int z) (dA 0) (dA 0) f g h4
  rw [e1] at X' step
  have hl : off + (b - 64) < H.size := (Array.getElem?_eq_some_iff.mp hc1).1
  generalize hcc : vp_cell (dA 0) (n1, .inl (va_cpy f g sp.toNatClampNeg dp.toNatClampNeg n.toNatClampNeg)) = cc9 at X' step
  have hheap : ((T.setVm vm').setCell (off + (b - 64)) cc9).heap = H.setIfInBounds (off + (b - 64)) cc9 := by rw [← hT]; rfl
  have oq : ∀ q : Nat, q ≠ off + (b - 64) → (H.setIfInBounds (off + (b - 64)) cc9)[q]? = H[q]? := fun q hq => by simp [Array.getElem?_setIfInBounds, Ne.symm hq]
  have hlen : (ip_put h b (.inl (0, n1, .inl (va_cpy f g sp.toNatClampNeg dp.toNatClampNeg n.toNatClampNeg)))).1.length = h.1.length := by simp [ip_put]
  obtain ⟨t, a1, b1⟩ := K lsC _ _ ⟨hlv, by rw [hlen, Array.size_setIfInBounds]; exact hsz, by
      show va_P D ip_cl (ip_W off (ip_ad off sa) dA (h.1.set (b - 64) (.inl (0, n1, .inl (va_cpy f g sp.toNatClampNeg dp.toNatClampNeg n.toNatClampNeg))))) (H.setIfInBounds (off + (b - 64)) cc9)
      rw [← ip_W_set]
      exact hP.set (ip_W_D h.1) (ip_W_get gb0) (show (H.setIfInBounds (off + (b - 64)) cc9)[off + (b - 64)]? = some (vp_cell (dA 0) (n1, .inl (va_cpy f g sp.toNatClampNeg dp.toNatClampNeg n.toNatClampNeg))) by rw [hcc]; simp [Array.getElem?_setIfInBounds, hl]) oq,
      ⟨by simp; exact hS.1, fun q g1 g2 => by
        rw [oq q (fun e => g2 (by rw [e]; exact Nat.le_add_right _ _))]
        exact hS.2.1 q g1 g2, fun q hq => by
        rcases List.mem_append.mp hq with h | h
        · exact hS.2.2 q h
        · obtain ⟨z, -, hz⟩ := List.mem_map.mp h
          rw [← hz]
          exact Nat.le_add_right _ _⟩⟩ _ hheap X'
  exact ⟨t, step t a1, b1⟩
theorem ip_copy_l {d i : Nat} {a b : Nat} {sp dp n : Int32} {n0 n1 : Nat} {f g : Nat → Int64} {rest : List Value} (C : ip_C off sa D dA L xs M p s m args meth c) (hd : decode M.2.1 pc = .ok (.invokestatic i, 3)) (hlink : Cond.methodLink (ip_on M.2.2.2.2.1) i arraycopyName ∈ ip_tb)
    (hr : ip_R off sa D dA M.2.2.1 s h ls lsC H locs) (ha : ip_arr h a = some (1, n0, .inr (.inl f))) (hb9 : ip_arr h b = some (1, n1, .inr (.inl g))) (h1 : ¬ sp < 0) (h2 : ¬ dp < 0) (h3 : ¬ n < 0) (h4 : sp.toNatClampNeg + n.toNatClampNeg ≤ n0) (h5 : dp.toNatClampNeg + n.toNatClampNeg ≤ n1)
    (hw : (rest.map fun v => v.category).sum ≤ 8) (hd0 : 0 < d) (hRf : d ≤ R.frames) (hRl : 64 * d ≤ R.locals)
    (K : ∀ (lsC' : Array Slot) (H' : Heap) (locs' : List Loc), ip_R off sa D dA M.2.2.1 s (ip_put h b (.inl (1, n1, .inr (.inl (va_cpy f g sp.toNatClampNeg dp.toNatClampNeg n.toNatClampNeg))))) ls lsC' H' locs' → W p l e R s m args below meth c H' locs' cells slots Q (F0 m (pc + 3) lsC' (rest.map (ip_cv (ip_ad off sa))))) :
    W p l e R s m args below meth c H locs cells slots Q (F0 m pc lsC ((.int n :: .int dp :: .ref b :: .int sp :: .ref a :: rest).map (ip_cv (ip_ad off sa)))) := by
  obtain ⟨hx, hb, hret, hmL, hown, hts, hlocks, hnm, hK, hSx, hoff⟩ := id C
  obtain ⟨hlv, hsz, hP, hS⟩ := id hr
  obtain ⟨ga, ga0⟩ := ip_arr_of ha
  obtain ⟨gb, gb0⟩ := ip_arr_of hb9
  have nn : ∀ z : Int32, ¬ z < 0 → z.toInt = (z.toNatClampNeg : Int) := by
    intro z hz
    have hz0 : (0 : Int) ≤ z.toInt := by
      have := Int32.not_lt.mp hz
      simpa using Int32.le_iff_toInt_le.mp this
    show z.toInt = ((z.toInt.toNat : Nat) : Int)
    omega
  simp only [List.map_cons]
  rw [ip_cvr ga, ip_cvr gb]
  have hwR : ((rest.map (ip_cv (ip_ad off sa))).map fun v => v.category).sum ≤ 8 := by
    rw [List.map_map, show ((fun v : Value => v.category) ∘ ip_cv (ip_ad off sa)) = fun v : Value => v.category from funext fun v => ip_cv_cat _ v]
    exact hw
  have hnf : nativeFrameWords "java/lang/System" "arraycopy" 5 ≤ 40 := by decide +kernel
  intro T hT X
  have hc0 : H[off + (a - 64)]? = some (vp_cell (dA 1) (n0, .inr (.inl f))) := hP (a - 64) _ (ip_W_get ga0)
  have hc1 : H[off + (b - 64)]? = some (vp_cell (dA 1) (n1, .inr (.inl g))) := hP (b - 64) _ (ip_W_get gb0)
  obtain ⟨-, k0, hk0, cm0, hkk0⟩ := (hK.2 1 _ (ip_tys_at dA (by decide))).1 n0 (fun j => .long (f j))
  obtain ⟨-, k1, hk1, cm1, hkk1⟩ := (hK.2 1 _ (ip_tys_at dA (by decide))).1 n1 (fun j => .long (g j))
  obtain ⟨vm', X', step⟩ := X.arraycopy hx hown (hts _ hlink) (hts _ (ip_objw_in _ (by simp [ip_objw]))) (hts _ (ip_objw_in _ (by simp [ip_objw]))) (hts _ (ip_objw_in _ (by simp [ip_objw]))) (src := off + (a - 64)) (dst := off + (b - 64)) (cs := vp_cell (dA 1) (n0, .inr (.inl f))) (cd := vp_cell (dA 1) (n1, .inr (.inl g))) (srcPos := sp) (destPos := dp) (n := n) (by rw [hT]; exact hc0) (by rw [hT]; exact hc1)
    (fun _ h => by cases h) (fun _ h => by cases h) (fun h => by cases h) (fun h => by cases h) hk0 hk1 hkk0 hkk1 (by simp [ip_tf, refKind]) h1 h2 h3
    (by rw [nn sp h1, nn n h3]; show ¬ _ > ((arrV (dA 1) n0 (fun j => .long (f j))).slots.size : Int); rw [arrV_size]; omega)
    (by rw [nn dp h2, nn n h3]; show ¬ _ > ((arrV (dA 1) n1 (fun j => .long (g j))).slots.size : Int); rw [arrV_size]; omega)
    (fun vm₁ _ i hi => by
      have e : (vp_cell (dA 1) (n0, .inr (.inl f))).slots.getD (sp.toNatClampNeg + i) .null = .long (f (sp.toNatClampNeg + i)) := by
        show (arrV (dA 1) n0 (fun j => .long (f j))).slots.getD _ _ = _
        rw [Array.getD_eq_getD_getElem?, arrV_read _ _ (by omega)]
        rfl
      refine ⟨?_, ?_⟩
      · rw [e]
        rfl
      · rw [e]
        exact trivial)
    (g := F0 m pc lsC (.int n :: .int dp :: .ref (off + (b - 64)) :: .int sp :: .ref (off + (a - 64)) :: rest.map (ip_cv (ip_ad off sa)))) rfl (by rw [hmL]; exact hlv.2.1) (rest := rest.map (ip_cv (ip_ad off sa))) rfl (by rw [hb]; exact hd) (by omega) (by show 2 * 0 + _ + (nativeFrameWords "java/lang/System" "arraycopy" 5 + 11) ≤ _; omega)
  have e1 : copied (vp_cell (dA 1) (n0, .inr (.inl f))) (vp_cell (dA 1) (n1, .inr (.inl g))) sp dp n = vp_cell (dA 1) (n1, .inr (.inl (va_cpy f g sp.toNatClampNeg dp.toNatClampNeg n.toNatClampNeg))) := va_copied (fun z => .long z) (dA 1) (dA 1) f g h4
  rw [e1] at X' step
  have hl : off + (b - 64) < H.size := (Array.getElem?_eq_some_iff.mp hc1).1
  generalize hcc : vp_cell (dA 1) (n1, .inr (.inl (va_cpy f g sp.toNatClampNeg dp.toNatClampNeg n.toNatClampNeg))) = cc9 at X' step
  have hheap : ((T.setVm vm').setCell (off + (b - 64)) cc9).heap = H.setIfInBounds (off + (b - 64)) cc9 := by rw [← hT]; rfl
  have oq : ∀ q : Nat, q ≠ off + (b - 64) → (H.setIfInBounds (off + (b - 64)) cc9)[q]? = H[q]? := fun q hq => by simp [Array.getElem?_setIfInBounds, Ne.symm hq]
  have hlen : (ip_put h b (.inl (1, n1, .inr (.inl (va_cpy f g sp.toNatClampNeg dp.toNatClampNeg n.toNatClampNeg))))).1.length = h.1.length := by simp [ip_put]
  obtain ⟨t, a1, b1⟩ := K lsC _ _ ⟨hlv, by rw [hlen, Array.size_setIfInBounds]; exact hsz, by
      show va_P D ip_cl (ip_W off (ip_ad off sa) dA (h.1.set (b - 64) (.inl (1, n1, .inr (.inl (va_cpy f g sp.toNatClampNeg dp.toNatClampNeg n.toNatClampNeg)))))) (H.setIfInBounds (off + (b - 64)) cc9)
      rw [← ip_W_set]
      exact hP.set (ip_W_D h.1) (ip_W_get gb0) (show (H.setIfInBounds (off + (b - 64)) cc9)[off + (b - 64)]? = some (vp_cell (dA 1) (n1, .inr (.inl (va_cpy f g sp.toNatClampNeg dp.toNatClampNeg n.toNatClampNeg)))) by rw [hcc]; simp [Array.getElem?_setIfInBounds, hl]) oq,
      ⟨by simp; exact hS.1, fun q g1 g2 => by
        rw [oq q (fun e => g2 (by rw [e]; exact Nat.le_add_right _ _))]
        exact hS.2.1 q g1 g2, fun q hq => by
        rcases List.mem_append.mp hq with h | h
        · exact hS.2.2 q h
        · obtain ⟨z, -, hz⟩ := List.mem_map.mp h
          rw [← hz]
          exact Nat.le_add_right _ _⟩⟩ _ hheap X'
  exact ⟨t, step t a1, b1⟩
end PRIM
