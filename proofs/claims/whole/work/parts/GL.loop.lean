/-! the law's loop; written by wip/gen/gend.py -/
set_option maxRecDepth 8192
section LO
variable {L : Nat} {xs : Nat → Int32} {e p B F K1 : Nat} {P : Option Value → Hp → Prop} {I : Mi} {J : Mj} {R : Mr} {Z : Mz} {l5 l6 : Option Value}
theorem RR_up (h : RR B I J) : RR (B + 1) I J := by
  have hc : CN I := by obtain ⟨n, W, mw, Q, ms, S, nx, mn, U, a1, a2, a3, a4, a5⟩ := h; exact a4
  exact RR_cg h (by omega) (fun _ _ _ _ _ => rfl) rfl rfl hc (fun _ _ => ⟨rfl, rfl⟩)
theorem lo_al {h : Hp} {K : Int32 → Prop} : al L h 31 K = K (nI L) := if_pos rfl
theorem lo_lt (hL : L ≤ 3584) (hp : p ≤ 3584) (h0 : p = 0 ∨ 7 ≤ L) : (nI L - nI 7 < nI p) = (L < p + 7) := by
  by_cases h7 : 7 ≤ L
  · rw [pk_sub h7]
    by_cases h : L < p + 7
    · rw [ltT (by omega) (by omega)]; exact (eq_true h).symm
    · rw [ltF (by omega) (by omega)]; exact (eq_false h).symm
  · obtain rfl : p = 0 := by omega
    have : ∀ L, L < 7 → nI L - nI 7 < nI 0 := by decide
    rw [eq_true (this L (by omega)), eq_true (show L < 0 + 7 by omega)]
theorem lo_step (hF : 29 < F) (hK1 : K1 = 1000) (h : RR B I J) (hB : B ≤ 511) (hp : p + 7 ≤ L) (hL : L ≤ 3584) (hn : ∀ l5 l6 I' J' R' Z', RR (B + 1) I' J' → Z'.1.length ≤ Z.1.length + 1 → Z'.2 ≤ Z.2 + 6 → Wp L xs (e + 2 * F + 21) 0 1738 [some (.ref 31), some (.ref 64), some (.ref 420), some (.ref 458), some (.int (nI p)), l5, l6] [] (mk I' J' R' Z') P) {x : Int32} : Wp L xs (e + 2 * F + 21) 0 40 [some (.ref 31), some (.ref 64), some (.ref 420), some (.ref 458), some (.int (nI p)), l5, l6] [.int x] (mk I J R Z) P := by
  have hq : ∀ I' J' R', RR (B + 1) I' J' → Wp L xs (e + 2 * F + 21) 0 1738 [some (.ref 31), some (.ref 64), some (.ref 420), some (.ref 458), some (.int (nI p)), l5, l6] [] (mk I' J' R' Z) P := fun I' J' R' hR => hn l5 l6 I' J' R' Z hR (by omega) (by omega)
  rw [w0_40]
  by_cases h0 : x = nI 0
  · rw [if_pos h0]; exact ca236 (e := e + 2 * F) h (by omega) hp hL hq
  rw [if_neg h0]
  by_cases h1 : x = nI 1
  · rw [if_pos h1]; exact ca383 (e := e) (F := F) (K1 := K1) h (by omega) hF hK1 hp hL hq
  rw [if_neg h1]
  by_cases h2 : x = nI 2
  · rw [if_pos h2]; exact ca396 (e := e + 2 * F) (K1 := K1) h (by omega) hK1 hp hL hq
  rw [if_neg h2]
  by_cases h3 : x = nI 3
  · rw [if_pos h3]; exact ca409 (e := e + 2 * F) h (by omega) hp hL hq
  rw [if_neg h3]
  by_cases h4 : x = nI 4
  · rw [if_pos h4]; exact ca446 (e := e + 2 * F) h (by omega) hp hL hq
  rw [if_neg h4]
  by_cases h5 : x = nI 5
  · rw [if_pos h5]; exact ca495 (e := e + 2 * F) h (by omega) hp hL hq
  rw [if_neg h5]
  by_cases h6 : x = nI 6
  · rw [if_pos h6]; exact ca532 (e := e + 2 * F) h (by omega) hp hL hn
  rw [if_neg h6]
  by_cases h7 : x = nI 7
  · rw [if_pos h7]; exact ca600 (e := e + 2 * F) h (by omega) hp hL hq
  rw [if_neg h7]
  by_cases h8 : x = nI 8
  · rw [if_pos h8]; exact ca637 (e := e + 2 * F) h (by omega) hp hL hq
  rw [if_neg h8]
  by_cases h9 : x = nI 9
  · rw [if_pos h9]; exact ca674 (e := e + 2 * F) h (by omega) hp hL hq
  rw [if_neg h9]
  by_cases h10 : x = nI 10
  · rw [if_pos h10]; exact ca711 (e := e + 2 * F) h (by omega) hp hL hq
  rw [if_neg h10]
  by_cases h11 : x = nI 11
  · rw [if_pos h11]; exact ca736 (e := e + 2 * F) h (by omega) hp hL hq
  rw [if_neg h11]
  by_cases h12 : x = nI 12
  · rw [if_pos h12]; exact ca773 (e := e + 2 * F) h (by omega) hp hL hq
  rw [if_neg h12]
  by_cases h13 : x = nI 13
  · rw [if_pos h13]; exact ca798 (e := e + 2 * F) h (by omega) hp hL hq
  rw [if_neg h13]
  by_cases h14 : x = nI 14
  · rw [if_pos h14]; exact ca835 (e := e + 2 * F) h (by omega) hp hL hq
  rw [if_neg h14]
  by_cases h15 : x = nI 15
  · rw [if_pos h15]; exact ca860 (e := e + 2 * F) h (by omega) hp hL hq
  rw [if_neg h15]
  by_cases h16 : x = nI 16
  · rw [if_pos h16]; exact ca897 (e := e + 2 * F) h (by omega) hp hL hq
  rw [if_neg h16]
  by_cases h17 : x = nI 17
  · rw [if_pos h17]; exact ca922 (e := e + 2 * F) h (by omega) hp hL hq
  rw [if_neg h17]
  by_cases h18 : x = nI 18
  · rw [if_pos h18]; exact ca947 (e := e + 2 * F) h (by omega) hp hL hq
  rw [if_neg h18]
  by_cases h19 : x = nI 19
  · rw [if_pos h19]; exact ca984 (e := e + 2 * F) h (by omega) hp hL hq
  rw [if_neg h19]
  by_cases h20 : x = nI 20
  · rw [if_pos h20]; exact ca1009 (e := e + 2 * F) h (by omega) hp hL hq
  rw [if_neg h20]
  by_cases h21 : x = nI 21
  · rw [if_pos h21]; exact ca1022 (e := e + 2 * F) h (by omega) hp hL hq
  rw [if_neg h21]
  by_cases h22 : x = nI 22
  · rw [if_pos h22]; exact ca1035 (e := e + 2 * F) h (by omega) hp hL hq
  rw [if_neg h22]
  by_cases h23 : x = nI 23
  · rw [if_pos h23]; exact ca1060 (e := e + 2 * F) h (by omega) hp hL hq
  rw [if_neg h23]
  by_cases h24 : x = nI 24
  · rw [if_pos h24]; exact ca1073 (e := e + 2 * F) h (by omega) hp hL hq
  rw [if_neg h24]
  by_cases h25 : x = nI 25
  · rw [if_pos h25]; exact ca1098 (e := e + 2 * F) h (by omega) hp hL hq
  rw [if_neg h25]
  by_cases h26 : x = nI 26
  · rw [if_pos h26]; exact ca1135 (e := e + 2 * F) h (by omega) hp hL hq
  rw [if_neg h26]
  by_cases h27 : x = nI 27
  · rw [if_pos h27]; exact ca1160 (e := e + 2 * F) h (by omega) hp hL hq
  rw [if_neg h27]
  by_cases h28 : x = nI 28
  · rw [if_pos h28]; exact ca1185 (e := e + 2 * F) h (by omega) hp hL hq
  rw [if_neg h28]
  by_cases h29 : x = nI 29
  · rw [if_pos h29]; exact ca1210 (e := e + 2 * F) h (by omega) hp hL hq
  rw [if_neg h29]
  by_cases h30 : x = nI 30
  · rw [if_pos h30]; exact ca1247 (e := e + 2 * F) h (by omega) hp hL hq
  rw [if_neg h30]
  by_cases h31 : x = nI 31
  · rw [if_pos h31]; exact ca1284 (e := e + 2 * F) h (by omega) hp hL hq
  rw [if_neg h31]
  by_cases h32 : x = nI 32
  · rw [if_pos h32]; exact ca1309 (e := e + 2 * F) h (by omega) hp hL hq
  rw [if_neg h32]
  by_cases h33 : x = nI 33
  · rw [if_pos h33]; exact ca1346 (e := e + 2 * F) h (by omega) hp hL hq
  rw [if_neg h33]
  by_cases h34 : x = nI 34
  · rw [if_pos h34]; exact ca1395 (e := e + 2 * F) h (by omega) hp hL hq
  rw [if_neg h34]
  by_cases h35 : x = nI 35
  · rw [if_pos h35]; exact ca1420 (e := e + 2 * F) h (by omega) hp hL hq
  rw [if_neg h35]
  by_cases h36 : x = nI 36
  · rw [if_pos h36]; exact ca1445 (e := e + 2 * F) h (by omega) hp hL hq
  rw [if_neg h36]
  by_cases h37 : x = nI 37
  · rw [if_pos h37]; exact ca1458 (e := e + 2 * F) h (by omega) hp hL hq
  rw [if_neg h37]
  by_cases h38 : x = nI 38
  · rw [if_pos h38]; exact ca1495 (e := e + 2 * F) h (by omega) hp hL hq
  rw [if_neg h38]
  by_cases h39 : x = nI 39
  · rw [if_pos h39]; exact ca1520 (e := e + 2 * F) h (by omega) hp hL hq
  rw [if_neg h39]
  by_cases h40 : x = nI 40
  · rw [if_pos h40]; exact ca1585 (e := e + 2 * F) h (by omega) hp hL hq
  rw [if_neg h40]
  by_cases h41 : x = nI 41
  · rw [if_pos h41]; exact ca1598 (e := e + 2 * F) h (by omega) hp hL hq
  rw [if_neg h41]
  by_cases h42 : x = nI 42
  · rw [if_pos h42]; exact ca1611 (e := e + 2 * F) h (by omega) hp hL hq
  rw [if_neg h42]
  by_cases h43 : x = nI 43
  · rw [if_pos h43]; exact ca1660 (e := e + 2 * F) h (by omega) hp hL hq
  rw [if_neg h43]
  by_cases h44 : x = nI 44
  · rw [if_pos h44]; exact ca1713 (e := e + 2 * F) h (by omega) hp hL hq
  rw [if_neg h44]
  exact hq _ _ _ (RR_up h)
def lo_P (r : Option Value) (h : Hp) : Prop := r = some (.int (nI 1)) ∧ h.1.length ≤ 601024 ∧ h.2 ≤ 7293034
theorem lo_loop (hF : 29 < F) (hK1 : K1 = 1000) (hL : L ≤ 3584) : ∀ (k B : Nat) (I : Mi) (J : Mj) (R : Mr) (Z : Mz) (l5 l6 : Option Value), L < 7 * B + 7 * k + 7 → (B = 0 ∨ 7 * B ≤ L) → RR B I J → Z.1.length ≤ B → Z.2 ≤ 25893 + 6 * B → Wp L xs (e + 2 * F + 21) 0 23 [some (.ref 31), some (.ref 64), some (.ref 420), some (.ref 458), some (.int (nI (7 * B))), l5, l6] [] (mk I J R Z) lo_P := by
  intro k
  induction k with
  | zero =>
    intro B I J R Z l5 l6 hk hb hR hz1 hz2
    rw [w0_23, w0_25, w0_26, lo_al, w0_27, w0_29, w0_30, if_pos (by rw [lo_lt hL (by omega) (by omega)]; omega), w0_1744, w0_1745]
    refine ⟨by decide, rfl, ?_, ?_⟩
    · show ((List.range 395).map _ ++ Z.1).length ≤ 601024
      rw [List.length_append, List.length_map, List.length_range]; omega
    · show Z.2 ≤ 7293034
      omega
  | succ k ih =>
    intro B I J R Z l5 l6 hk hb hR hz1 hz2
    rw [w0_23, w0_25, w0_26, lo_al, w0_27, w0_29, w0_30]
    by_cases hc : L < 7 * B + 7
    · rw [if_pos (by rw [lo_lt hL (by omega) (by omega)]; exact hc), w0_1744, w0_1745]
      refine ⟨by decide, rfl, ?_, ?_⟩
      · show ((List.range 395).map _ ++ Z.1).length ≤ 601024
        rw [List.length_append, List.length_map, List.length_range]; omega
      · show Z.2 ≤ 7293034
        omega
    · rw [if_neg (by rw [lo_lt hL (by omega) (by omega)]; exact hc), w0_33, w0_34, w0_36, gi31 (by omega) hL, w0_37, w0_39]
      refine lo_step hF hK1 hR (by omega) (by omega) hL fun l5 l6 I' J' R' Z' hR' z1 z2 => ?_
      rw [w0_1738, frT2, true_and, w0_1741, nI_add, show 7 * B + 7 = 7 * (B + 1) by omega]
      exact ih (B + 1) I' J' R' Z' l5 l6 (by omega) (by omega) hR' (by omega) (by omega)
theorem lo_pure (hL : L ≤ 3584) : ip_Pure L xs := by
  obtain ⟨F, hF⟩ : ∃ F, F = 40 := ⟨40, rfl⟩
  obtain ⟨K1, hK1⟩ : ∃ K1, K1 = 1000 := ⟨1000, rfl⟩
  have h := lo_loop (xs := xs) (e := 0) (F := F) (K1 := K1) (by omega) hK1 hL 513 0 I0 J0 R0 ([], 25893) none none (by omega) (Or.inl rfl) RR_0 (Nat.le_refl 0) (Nat.le_refl _)
  have h2 : Wp L xs (0 + 2 * F + 21) 0 0 [some (.ref 31), none, none, none, none, none, none] [] ([], 0) lo_P := by rw [law_0]; exact h
  obtain ⟨n, r, q1, q2, q3, q4⟩ := h2
  refine ⟨n, 0 + 2 * F + 21, r.2, by omega, ?_, q3, q4⟩
  show ip_run L xs n (0 + 2 * F + 21) 0 0 [some (.ref 31), none, none, none, none, none, none] [] ([], 0) = _
  rw [q1, show r = (r.1, r.2) from rfl, q2]
  rfl
end LO
