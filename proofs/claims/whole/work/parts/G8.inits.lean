/-! the constructors, one by one: the object lies behind p, what it makes is put behind all -/
section P4
variable {L : Nat} {xs : Nat → Int32} {d : Nat} {P : Option Value → Hp → Prop} {p t : List AC} {z c i k m : Nat} {v : Value} {vs : List Value} {K : Hp → Prop}
theorem sf_at (hi : i < vs.length) (hk : ip_fit k v = true) : sf (p ++ .inr (c, vs) :: t, z) (64 + p.length) c i k v K = K (p ++ .inr (c, vs.set i v) :: t, z) := by
  have e : ip_obj (p ++ .inr (c, vs) :: t, z) (64 + p.length) = some (c, vs) := by
    unfold ip_obj
    rw [if_neg (by omega), show 64 + p.length - 64 = p.length by omega]
    dsimp only
    rw [List.getElem?_append_right (Nat.le_refl _), Nat.sub_self]
    rfl
  unfold sf
  rw [e]
  unfold pf
  dsimp only
  have e2 : ip_put (p ++ .inr (c, vs) :: t, z) (64 + p.length) (.inr (c, vs.set i v)) = (p ++ .inr (c, vs.set i v) :: t, z) := by
    unfold ip_put
    rw [show 64 + p.length - 64 = p.length by omega]
    dsimp only
    rw [List.set_append_right _ _ (Nat.le_refl _), Nat.sub_self]
    rfl
  rw [e2]
  exact propext ⟨fun q => q.2, fun q => ⟨⟨rfl, hi, hk⟩, q⟩⟩
theorem fit13 {x : Nat} : ip_fit 13 (.ref x) = true := rfl
theorem k_init109 (hm : m ≤ 1000) : Wp L xs (d + 1) 109 0 [some (.ref (64 + p.length)), some (.int (nI m))] [] (p ++ [.inr (9, [.int 0, .null, .null, .null])], z) P = P none (p ++ .inr (9, [.int 0, .ref (65 + p.length), .ref (66 + p.length), .ref (67 + p.length)]) :: [.inl (0, m, .inl fun _ => 0), .inl (0, m, .inl fun _ => 0), .inl (0, m, .inl fun _ => 0)], z + m + m + m) := by
  have hin : (ip_in (nI m) 65536 = true) = True := by
    unfold ip_in
    simp
    exact ⟨by rw [show (0 : Int32) = nI 0 from rfl]; exact of_eq_true (leT (by omega) (by omega)), by rw [nI_clamp (by omega)]; omega⟩
  simp (discharger := first | omega | exact fit13 | (simp; done)) only [↓w109_0, ↓w109_1, ↓w109_4, ↓w109_5, ↓w109_6, ↓w109_8, ↓w109_11, ↓w109_12, ↓w109_13, ↓w109_15, ↓w109_18, ↓w109_19, ↓w109_20, ↓w109_22, ↓w109_25, hin, nI_clamp, true_and, List.append_assoc, List.cons_append, List.nil_append, List.length_append, List.length_cons, List.length_nil, sf_at, List.set_cons_succ, List.set_cons_zero]
  rw [show 65 + p.length = 64 + (p.length + 1) by omega, show 66 + p.length = 64 + (p.length + 2) by omega, show 67 + p.length = 64 + (p.length + 3) by omega]
end P4
