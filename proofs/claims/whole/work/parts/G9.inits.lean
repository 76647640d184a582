section P5
variable {L : Nat} {xs : Nat → Int32} {d : Nat} {P : Option Value → Hp → Prop} {p t : List AC} {z : Nat}
theorem k_init1 : Wp L xs (d + 1) 1 0 [some (.ref (64 + p.length))] [] (p ++ [.inr (0, [.int 0, .int 0, .int 0, .null, .null, .null, .null, .null, .null])], z) P = P none (p ++ .inr (0, [.int 0, .int 0, .int 0, .ref (64 + (p.length + 1)), .ref (64 + (p.length + 2)), .ref (64 + (p.length + 3)), .ref (64 + (p.length + 4)), .ref (64 + (p.length + 5)), .ref (64 + (p.length + 6))]) :: [.inl (0, 8, .inl fun _ => 0), .inl (0, 8, .inl fun _ => 0), .inl (0, 8, .inl fun _ => 0), .inl (0, 8, .inl fun _ => 0), .inl (0, 8, .inl fun _ => 0), .inl (1, 8, .inr (.inl fun _ => 0))], z + 48) := by
  have i8 : (ip_in (nI 8) 65536 = true) = True := eq_true (by decide)
  have c8 : (nI 8).toNatClampNeg = 8 := nI_clamp (by omega)
  simp (discharger := first | omega | exact fit13 | (simp; done)) only [↓w1_0, ↓w1_1, ↓w1_4, ↓w1_5, ↓w1_7, ↓w1_9, ↓w1_12, ↓w1_13, ↓w1_15, ↓w1_17, ↓w1_20, ↓w1_21, ↓w1_23, ↓w1_25, ↓w1_28, ↓w1_29, ↓w1_31, ↓w1_33, ↓w1_36, ↓w1_37, ↓w1_39, ↓w1_41, ↓w1_44, ↓w1_45, ↓w1_47, ↓w1_49, ↓w1_52, i8, c8, true_and, List.append_assoc, List.cons_append, List.nil_append, List.length_append, List.length_cons, List.length_nil, sf_at, List.set_cons_succ, List.set_cons_zero]
theorem k_init15 : Wp L xs (d + 1) 15 0 [some (.ref (64 + p.length))] [] (p ++ [.inr (2, [.null, .int 0, .null, .int 0])], z) P = P none (p ++ .inr (2, [.ref (64 + (p.length + 1)), .int 0, .ref (64 + (p.length + 2)), .int 0]) :: [.inl (0, 1000, .inl fun _ => 0), .inl (0, 64, .inl fun _ => 0)], z + 1064) := by
  have i64 : (ip_in (nI 64) 65536 = true) = True := eq_true (by decide)
  have c64 : (nI 64).toNatClampNeg = 64 := nI_clamp (by omega)
  have i1000 : (ip_in (nI 1000) 65536 = true) = True := eq_true (by decide)
  have c1000 : (nI 1000).toNatClampNeg = 1000 := nI_clamp (by omega)
  simp (discharger := first | omega | exact fit13 | (simp; done)) only [↓w15_0, ↓w15_1, ↓w15_4, ↓w15_5, ↓w15_8, ↓w15_10, ↓w15_13, ↓w15_14, ↓w15_16, ↓w15_18, ↓w15_21, i64, c64, i1000, c1000, true_and, List.append_assoc, List.cons_append, List.nil_append, List.length_append, List.length_cons, List.length_nil, sf_at, List.set_cons_succ, List.set_cons_zero]
theorem k_init85 : Wp L xs (d + 1) 85 0 [some (.ref (64 + p.length))] [] (p ++ [.inr (7, [.int 0, .int 0, .null, .null, .null, .null, .null, .null, .null, .null, .null, .null, .null])], z) P = P none (p ++ .inr (7, [.int 0, .int 0, .ref (64 + (p.length + 1)), .ref (64 + (p.length + 2)), .ref (64 + (p.length + 3)), .ref (64 + (p.length + 4)), .ref (64 + (p.length + 5)), .ref (64 + (p.length + 6)), .ref (64 + (p.length + 7)), .ref (64 + (p.length + 8)), .ref (64 + (p.length + 9)), .ref (64 + (p.length + 10)), .ref (64 + (p.length + 11))]) :: [.inl (0, 40, .inl fun _ => 0), .inl (0, 40, .inl fun _ => 0), .inl (0, 40, .inl fun _ => 0), .inl (0, 40, .inl fun _ => 0), .inl (0, 40, .inl fun _ => 0), .inl (0, 40, .inl fun _ => 0), .inl (0, 5, .inl fun _ => 0), .inl (0, 20, .inl fun _ => 0), .inl (0, 8, .inl fun _ => 0), .inl (0, 8, .inl fun _ => 0), .inl (0, 8, .inl fun _ => 0)], z + 289) := by
  have i5 : (ip_in (nI 5) 65536 = true) = True := eq_true (by decide)
  have c5 : (nI 5).toNatClampNeg = 5 := nI_clamp (by omega)
  have i8 : (ip_in (nI 8) 65536 = true) = True := eq_true (by decide)
  have c8 : (nI 8).toNatClampNeg = 8 := nI_clamp (by omega)
  have i20 : (ip_in (nI 20) 65536 = true) = True := eq_true (by decide)
  have c20 : (nI 20).toNatClampNeg = 20 := nI_clamp (by omega)
  have i40 : (ip_in (nI 40) 65536 = true) = True := eq_true (by decide)
  have c40 : (nI 40).toNatClampNeg = 40 := nI_clamp (by omega)
  simp (discharger := first | omega | exact fit13 | (simp; done)) only [↓w85_0, ↓w85_1, ↓w85_4, ↓w85_5, ↓w85_7, ↓w85_9, ↓w85_12, ↓w85_13, ↓w85_15, ↓w85_17, ↓w85_20, ↓w85_21, ↓w85_23, ↓w85_25, ↓w85_28, ↓w85_29, ↓w85_31, ↓w85_33, ↓w85_36, ↓w85_37, ↓w85_39, ↓w85_41, ↓w85_44, ↓w85_45, ↓w85_47, ↓w85_49, ↓w85_52, ↓w85_53, ↓w85_54, ↓w85_56, ↓w85_59, ↓w85_60, ↓w85_62, ↓w85_64, ↓w85_67, ↓w85_68, ↓w85_70, ↓w85_72, ↓w85_75, ↓w85_76, ↓w85_78, ↓w85_80, ↓w85_83, ↓w85_84, ↓w85_86, ↓w85_88, ↓w85_91, i5, c5, i8, c8, i20, c20, i40, c40, true_and, List.append_assoc, List.cons_append, List.nil_append, List.length_append, List.length_cons, List.length_nil, sf_at, List.set_cons_succ, List.set_cons_zero]
end P5
