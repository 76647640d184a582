/-! the answers of the reads, alike on both sides -/
section FC
variable {c k m n B : Nat} {x y z : Int32} {V W : Vw} {G G' : Gv} {S : Sq}
theorem vKno_eq (hag : agG G G') (hs : smV G V W) : vKno G' W x y z = vKno G V x y z := by
  unfold vKno; rw [← ag_N hag, ← ag_M hag, hs.1 1 (by decide) (by decide), hs.1 2 (by decide) (by decide), hs.1 3 (by decide) (by decide), hs.1 4 (by decide) (by decide)]
theorem vRep_eq (hag : agG G G') (hs : smV G V W) : vRep G' W x y = vRep G V x y := by
  unfold vRep; rw [← ag_N hag, hs.1 0 (by decide) (by decide), hs.1 1 (by decide) (by decide), hs.1 7 (by decide) (by decide)]
theorem vVal_eq (hag : agG G G') (hs : smV G V W) : vVal G' W x y = vVal G V x y := by
  unfold vVal; rw [← ag_N hag, ← hag.1 1 (by decide), hs.1 8 (by decide) (by decide)]
theorem vUni_eq (hag : agG G G') (hs : smV G V W) : vUni G' W x y = vUni G V x y := by
  unfold vUni; rw [← ag_M hag, hs.1 3 (by decide) (by decide), hs.1 4 (by decide) (by decide), hs.1 10 (by decide) (by decide)]
theorem vWai_eq (hag : agG G G') (hs : smV G V W) : vWai G' W x = vWai G V x := by
  unfold vWai; rw [← ag_N hag, ← ag_M hag, hs.1 1 (by decide) (by decide), hs.1 4 (by decide) (by decide)]
theorem vBef_eq (hag : agG G G') (hs : smV G V W) : vBef G' W x y z = vBef G V x y z := by
  unfold vBef; rw [← ag_N hag, ← ag_M hag, hs.1 1 (by decide) (by decide), hs.1 6 (by decide) (by decide)]
theorem vBar_eq (hag : agG G G') (hs : smV G V W) : vBar G' W x = vBar G V x := by
  unfold vBar; rw [← ag_N hag, hs.1 1 (by decide) (by decide)]
theorem vPar_eq (hag : agG G G') (hs : smV G V W) : vPar G' W x y = vPar G V x y := by
  unfold vPar; rw [← ag_N hag, ← ag_M hag, hs.1 1 (by decide) (by decide), hs.1 4 (by decide) (by decide)]
theorem vAgr_eq (hag : agG G G') (hs : smV G V W) : vAgr G' W x y = vAgr G V x y := by
  have e : ∀ r o, agA G' W r o = agA G V r o := fun r o => by rw [agA_ag hag, agA_sm hs]
  have e' : ∀ (G : Gv) (V : Vw), vAgr G V x y = (isR (gN G) x && (isR (gN G) y && agA G V x.toNatClampNeg y.toNatClampNeg)) := fun G V => by unfold vAgr agA; exact Eq.refl _
  rw [e', e', e, ← ag_N hag]
theorem vCla_eq (hag : agG G G') (hM : gM G ≤ 8) : vCla G' x y = vCla G x y := by
  unfold vCla; rw [← ag_M hag]
  by_cases hx : isR (gM G) x = true
  · obtain ⟨c, hc, rfl⟩ := isR_t hx (by omega)
    rw [nI_clamp (by omega), hag.2 5 c (by decide) (by decide) hc]
  · rw [Bool.eq_false_iff.mpr hx, Bool.false_and, Bool.false_and]
end FC
