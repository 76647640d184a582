/-! the start -/
def ip_sa (wa : Nat → Nat) (t30 b k v : Nat) : Nat → Nat := fun j => if j < 30 then wa j else if j = 30 then t30 else if j = 31 then b else if j = 32 then k else v
theorem ip_start {s : State} {b L : Nat} {xs : Nat → Int32} (hts : ∀ w ∈ lw_tbl, w.before #[Value.ref b] s = true) (hX : va_X b L xs s s.heap) (hbl : b < s.heap.size) (hgv : (Jvm.Cond.and given_1 narrow_1).before #[Value.ref b] s = true) :
    ∃ (sa : Nat → Nat) (D : va_G) (dA : Nat → ClassId), sa 31 = b ∧ ip_Sx s.heap.size sa L xs s s.heap ∧ va_K D ip_cl (ip_tys dA) s := by
  have hA : ∀ a : Nat, a < s.heap.size → ¬ ip_A s.heap.size a := fun a h => Nat.not_le.mpr h
  have hs : ∀ c ∈ flatC ip_gv, c.before #[Value.ref b] s = true := flat_of_before _ hgv
  have hg : ∀ w ∈ ip_tb, w.before #[Value.ref b] s = true := fun w hw => hts w (List.mem_filter.mp hw).1
  have h0 : ∀ i : Nat, ∃ t : Nat, i < 30 → (ip_wt i).eval #[Value.ref b] s none [] s = some (.ref t) ∧ va_O RX10 t (ip_A s.heap.size) s s.heap := by
    intro i
    by_cases hi : i < 30
    · obtain ⟨a, c, cell, k, q1, q2, q3, q4, q5, q6, -⟩ := Cond.exactly_spec (hs _ (ip_g1 i hi))
      exact ⟨a, fun _ => ⟨q1, cell, q3, q5, by rw [q6]; exact q2, hA a (Array.getElem?_eq_some_iff.mp q3).1⟩⟩
    · exact ⟨0, fun h => absurd h hi⟩
  obtain ⟨wa, hwa⟩ := Classical.axiomOfChoice h0
  have hini := hts _ (ip_t2 (.initialized RX10) (by simp))
  obtain ⟨t30, ht30, hT30⟩ := va_Tof (tm := ip_at) (ty := .object RX10) (N := 30) (f := fun j => .ref (wa j)) (A := ip_A s.heap.size) (by decide) (hs _ ip_g7.1) (va_eqt (hs _ ip_g7.2)) (fun j hj => va_eqv (hs _ (ip_g6 j hj)) (hwa j hj).1) hA
  obtain ⟨adK, adV, hvS, hvE⟩ := vk_Sof (N := 1) (tm := fun _ => ip_tt) (len := [8]) (byt := [[40, 41, 60, 61, 43, 45, 42, 59]]) (A := ip_A s.heap.size) (args := #[Value.ref b]) (s := s)
    (fun i hi => by rw [show i = 0 by omega]; decide) (fun i hi => hs _ ip_g8.1) (fun i hi => hs _ ip_g8.2.1) (fun i hi => hs _ ip_g8.2.2.1) (fun i hi => by rw [show i = 0 by omega]; exact hs _ ip_g8.2.2.2) (fun i hi j hj => by rw [show i = 0 by omega] at hj ⊢; exact hs _ (ip_g9 j hj)) (fun i j hi hj hne => absurd (show i = j by omega) hne) hA
  have hcls : ∀ c : Nat, ∃ q : ClassId × (Nat → Nat), ∀ r : vw_C, ip_cl[c]? = some r → u_Kn s r.1 r.2.1 r.2.2 q.1 q.2 := by
    intro c
    cases hc : ip_cl[c]? with
    | none => exact ⟨(0, fun _ => 0), fun r hr => by cases hr⟩
    | some r =>
      have hl : c < 13 := (List.getElem?_eq_some_iff.mp hc).1
      have hi : ∃ n, (Cond.instantiable r.1 n).before #[Value.ref b] s = true := by
        by_cases h12 : c = 12
        · subst h12
          cases hc
          exact ⟨6, hts _ (ip_t2 _ (by simp))⟩
        · obtain ⟨fs, hfs⟩ : ∃ fs, ip_df[c]? = some fs := ⟨_, List.getElem?_eq_getElem (show c < ip_df.length by show c < 12; omega)⟩
          obtain ⟨q, hq, -, hq2, -⟩ := ip_df_ok hfs
          cases hc.symm.trans hq
          exact ⟨_, hg _ hq2.1⟩
      obtain ⟨n, hn⟩ := hi
      obtain ⟨cC, iS, hK⟩ := u_known (C := r.1) (T := r.2.1) (N := r.2.2) hg (ip_cl_in c r hc) hn
      exact ⟨(cC, iS), fun r' hr' => by cases hr'; exact hK⟩
  obtain ⟨fD, hfD⟩ := Classical.axiomOfChoice hcls
  have harr : ∀ t : Nat, ∃ cA : ClassId, t ≤ 6 → ArrOfT s cA (ip_tf t) ∧ va_RA s cA (ip_tf t) := by
    intro t
    have hprim : ∀ ty : FieldType, (Cond.arrayClass ty).before #[Value.ref b] s = true → (∀ cA, s.vm.findClass ("[" ++ ty.toString) = some cA → va_RA s cA ty) → ∃ cA : ClassId, ArrOfT s cA ty ∧ va_RA s cA ty := by
      intro ty h hra
      obtain ⟨c, k, comp, f1, f2, f3⟩ := Cond.arrayClass_spec h
      exact ⟨c, fun N z => ⟨(fun k h => by cases h), k, f2, comp, f3⟩, hra c f1⟩
    have hobj : ∀ C : String, (Cond.arrayOver (.object C)).before #[Value.ref b] s = true → ∃ cA : ClassId, ArrOfT s cA (.object C) ∧ va_RA s cA (.object C) := by
      intro C h
      obtain ⟨comp, c, k, f1, f2, f3, f4, f5⟩ := Cond.arrayOver_spec h
      exact ⟨c, fun N z => ⟨(fun k h => by cases h), k, f3, comp, f4⟩, k, comp, f3, f4, f1, f5⟩
    by_cases ht : t ≤ 6
    · have : ∃ cA : ClassId, ArrOfT s cA (ip_tf t) ∧ va_RA s cA (ip_tf t) := by
        rcases (show t = 0 ∨ t = 1 ∨ t = 2 ∨ t = 3 ∨ t = 4 ∨ t = 5 ∨ t = 6 by omega) with rfl | rfl | rfl | rfl | rfl | rfl | rfl
        · exact hprim .int (hg _ (ip_acw_in _ (by simp [ip_acw]))) (fun _ h => h)
        · exact hprim .long (hg _ (ip_acw_in _ (by simp [ip_acw]))) (fun _ h => h)
        · exact hprim .char (hg _ (ip_acw_in _ (by simp [ip_acw]))) (fun _ h => h)
        · exact hprim .boolean (hg _ (ip_acw_in _ (by simp [ip_acw]))) (fun _ h => h)
        · exact hobj RX10 (hts _ (ip_t2 _ (by simp)))
        · exact hobj RX7 (hts _ (ip_t2 _ (by simp)))
        · exact hobj RX3 (hts _ (ip_t2 _ (by simp)))
      obtain ⟨cA, h1⟩ := this
      exact ⟨cA, fun _ => h1⟩
    · exact ⟨0, fun h => absurd h ht⟩
  obtain ⟨dA, hdA⟩ := Classical.axiomOfChoice harr
  refine ⟨ip_sa wa t30 b (adK 0) (adV 0), (fun c => (fD c).1, fun c => (fD c).2), dA, rfl, ⟨fun i hi => ?_, fun i j hi hj he => ?_, ?_, ?_, ⟨hX, hbl⟩, fun e he hk => ?_, ⟨va_AO.of (hts (.arrayOver (.object RX10)) (ip_t2 _ (by simp))), va_AO.of (hts (.arrayOver (.object RX7)) (ip_t2 _ (by simp))), va_AO.of (hts (.arrayOver (.object RX3)) (ip_t2 _ (by simp)))⟩, ?_, ip_of_dw ⟨va_Nw.of rfl (hts _ (ip_t3 _ (by simp [ip_dw]))), va_Nw.of rfl (hts _ (ip_t3 _ (by simp [ip_dw]))), va_Nw.of rfl (hts _ (ip_t3 _ (by simp [ip_dw]))), va_Nw.of rfl (hts _ (ip_t3 _ (by simp [ip_dw])))⟩, ?_⟩, fun c q hc => hfD c q hc, fun k q hk => ?_⟩
  · have hsi : ip_sa wa t30 b (adK 0) (adV 0) i = wa i := if_pos hi
    rw [hsi]
    refine ⟨va_Zref (hts _ (ip_t1 i hi)) hini (hwa i hi).1 hA, (hwa i hi).2, fun k hk => ?_⟩
    rcases (show k = 0 ∨ k = 1 ∨ k = 2 by omega) with rfl | rfl | rfl
    · exact vk_OFof (hwa i hi).1 (va_eqtl (hs _ (ip_g2 i hi))) hA
    · exact vk_OFof (hwa i hi).1 (va_eqt (hs _ (ip_g3 i hi))) hA
    · exact vk_OFof (hwa i hi).1 (va_eqt (hs _ (ip_g4 i hi))) hA
  · rw [show ip_sa wa t30 b (adK 0) (adV 0) i = wa i from if_pos hi, show ip_sa wa t30 b (adK 0) (adV 0) j = wa j from if_pos hj] at he
    have e1 := va_eqt (hs _ (ip_g5 i hi))
    have e2 := va_eqt (hs _ (ip_g5 j hj))
    rw [va_fe (hwa i hi).1] at e1
    rw [va_fe (hwa j hj).1, ← he, e1] at e2
    exact ip_ord i hi j hj (by simpa using e2)
  · exact va_Zref (hts _ (ip_t2 _ (by simp))) hini ht30 hA
  · have hfe : (fun j => Value.ref (ip_sa wa t30 b (adK 0) (adV 0) j)) = fun j => Value.ref (ip_sa wa t30 b (adK 0) (adV 0) j) := rfl
    obtain ⟨cell, g1, g2, g3, g4, g5, g6, g7⟩ := hT30
    exact ⟨cell, g1, g2, g3, g4, g5, fun j hj => by
      have e9 : ip_sa wa t30 b (adK 0) (adV 0) j = wa j := if_pos hj
      dsimp only
      rw [e9]
      exact g6 j hj, g7⟩
  · refine va_Nw.of rfl (hts _ (ip_nw_in _ (List.mem_map.mpr ⟨e, List.mem_filter.mpr ⟨he, ?_⟩, rfl⟩)))
    rcases hk with z | z <;> simp [z]
  · exact vk_R.of (hts _ (ip_t2 _ (by simp))) (hvE 0 (by decide))
  · refine ⟨⟨fun i hi => ?_, fun i j hi hj _ => by omega⟩, va_Zof (hts _ (ip_t2 _ (by simp))) (hts _ (ip_t2 _ (by simp))) (va_eqt (hs _ ip_g10.1)) hA, vx_Zqof (hts _ (ip_t2 _ (by simp))) (hts _ (ip_t2 _ (by simp))) (hs _ ip_g10.2.1) hA, vx_Zqof (hts _ (ip_t2 _ (by simp))) (hts _ (ip_t2 _ (by simp))) (hs _ ip_g10.2.2) hA⟩
    have := hvS.1 0 (by decide)
    rw [show i = 0 by omega]
    exact this
  · unfold ip_tys at hk
    rw [List.getElem?_map] at hk
    by_cases h7 : k < 7
    · rw [List.getElem?_range h7] at hk
      cases hk
      exact hdA k (by omega)
    · rw [List.getElem?_eq_none (by simp; omega)] at hk
      cases hk
