/-! both risks are alike -/
section FB
variable {I : Mi} {r c k l N M o n m B i r0 : Nat} {x y z : Int32} {V V' W : Vw} {G G' : Gv}
theorem rst_pc (h : N = 0 ∨ N = 3 ∨ N = 5) (hi : i < 2 ^ N) (hp : pcn (nI i) = N / 2) : N = 0 ∨ mst N ≤ pcn (allR N &&& (nI i ^^^ -1)) := by
  rcases h with rfl | rfl | rfl
  · exact Or.inl rfl
  · right; revert i; decide +kernel
  · right; revert i; decide +kernel
theorem fd_rk (hV : okV B G V) (hT : okT (V 1)) (hN : gN G ≤ 5) (hc : c < 8) : fdn (gN G) (nI 31) (V 1) c = ff 8 (tb (rkd V c)) := by
  have hZ : okN (gN G) (V 1) := hV.2.1.2.2.2.1
  have e : ∀ r, tb (rkd V c) r = (decide (r < 5) && inr (V 1 (8 * r + c)) (nI 3) (nI 4)) := fun r => by unfold rkd rW; rw [tb_bm (by decide)]
  rw [ff_cut (n := gN G) (M := 8) (p := tb (rkd V c)) (by omega) (fun i h1 h2 => by
    rw [e]
    by_cases h5 : i < 5
    · rw [hZ i c h1 h5 hc]; simp [inr]; intro _; decide
    · simp [h5])]
  unfold fdn
  refine ff_cg fun r hr => ?_
  rw [e]
  obtain ⟨s, hs, he⟩ := hT (8 * r + c) (by omega)
  rw [he]
  have h31 : ∀ r, r < 5 → tb (nI 31) r = true := by decide
  rw [h31 r (by omega)]
  have hs' : s = 0 ∨ s = 1 ∨ s = 2 ∨ s = 3 ∨ s = 4 := by omega
  have hr5 : r < 5 := by omega
  rcases hs' with rfl | rfl | rfl | rfl | rfl <;> simp [hr5, inr] <;> decide
end FB
