section FE
variable {c k m n B : Nat} {x y z : Int32} {V W : Vw} {G G' : Gv} {S : Sq}
theorem vCom_eq (hag : agG G G') (hs : smV G V W) (hM : gM G ≤ 8) : vCom G' W x y = vCom G V x y := by
  unfold vCom; rw [← ag_M hag]
  by_cases hx : isR (gM G) x = true
  · obtain ⟨c, hc, rfl⟩ := isR_t hx (by omega)
    rw [nI_clamp (by omega)]
    dsimp only
    rw [← hag.2 1 c (by decide) (by decide) hc, ← hag.2 2 c (by decide) (by decide) hc, ← hag.2 3 c (by decide) (by decide) hc, ← hag.2 4 c (by decide) (by decide) hc, hs.2.2.2.1 c hc, hs.1 10 (by decide) (by decide), hs.1 11 (by decide) (by decide), hs.1 0 (by decide) (by decide)]
  · rw [if_neg hx, if_neg hx]
theorem vRea_eq (hag : agG G G') (hG : okG G) (hV : okV B G V) (hs : smV G V W) : vRea G' W x = vRea G V x := by
  have h5 := hG.1.2
  unfold vRea; rw [← ag_N hag]
  by_cases hx : isR (gN G) x = true
  · obtain ⟨r, hr, rfl⟩ := isR_t hx (by omega)
    rw [nI_clamp (by omega)]
    dsimp only
    rw [← ag_run hag, (run_sm hs hV hG hr).1 1 (by decide) (by decide), hs.1 1 (by decide) (by decide)]
  · rw [if_neg hx, if_neg hx]
theorem vPla_eq (hag : agG G G') (hG : okG G) (hV : okV B G V) (hs : smV G V W) : vPla G' W x y = vPla G V x y := by
  have h5 := hG.1.2
  unfold vPla; rw [← ag_N hag]
  by_cases hx : isR (gN G) x = true
  · obtain ⟨r, hr, rfl⟩ := isR_t hx (by omega)
    rw [nI_clamp (by omega)]
    dsimp only
    rw [← ag_run hag, (run_sm hs hV hG hr).1 1 (by decide) (by decide), (run_sm hs hV hG hr).1 6 (by decide) (by decide), hs.1 1 (by decide) (by decide)]
  · rw [if_neg (fun q => hx q.1), if_neg (fun q => hx q.1)]
end FE
