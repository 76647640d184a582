section P6
variable {L : Nat} {xs : Nat → Int32} {d : Nat} {P : Option Value → Hp → Prop} {p t : List AC} {z a b : Nat}
theorem k_init49 : Wp L xs (d + 1) 49 0 [some (.ref (64 + p.length)), some (.ref a), some (.ref b)] [] (p ++ [.inr (5, [.null, .null])], z) P = P none (p ++ [.inr (5, [.ref a, .ref b])], z) := by
  simp (discharger := first | omega | exact fit13 | (simp; done)) only [↓w49_0, ↓w49_1, ↓w49_4, ↓w49_5, ↓w49_6, ↓w49_9, ↓w49_10, ↓w49_11, ↓w49_14, List.append_assoc, List.cons_append, List.nil_append, sf_at, List.set_cons_succ, List.set_cons_zero]
theorem k_init74 : Wp L xs (d + 1) 74 0 [some (.ref (64 + p.length)), some (.ref a)] [] (p ++ [.inr (6, [.null, .null])], z) P = P none (p ++ .inr (6, [.ref a, .ref (64 + (p.length + 1))]) :: [.inl (0, 8, .inl fun _ => 0)], z + 8) := by
  have i8 : (ip_in (nI 8) 65536 = true) = True := eq_true (by decide)
  have c8 : (nI 8).toNatClampNeg = 8 := nI_clamp (by omega)
  simp (discharger := first | omega | exact fit13 | (simp; done)) only [↓w74_0, ↓w74_1, ↓w74_4, ↓w74_5, ↓w74_7, ↓w74_9, ↓w74_12, ↓w74_13, ↓w74_14, ↓w74_17, i8, c8, true_and, List.append_assoc, List.cons_append, List.nil_append, List.length_append, List.length_cons, List.length_nil, sf_at, List.set_cons_succ, List.set_cons_zero]
end P6
