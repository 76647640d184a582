section FD
variable {c k m n B : Nat} {x y z : Int32} {V W : Vw} {G G' : Gv} {S : Sq}
theorem vLon_eq (hag : agG G G') : vLon G' = vLon G := by
  unfold vLon; rw [← ag_M hag]
  exact bm_cg fun i hi => by rw [hag.2 5 i (by decide) (by decide) hi]
theorem vStu_eq (hag : agG G G') (hs : smV G V W) : vStu G' W = vStu G V := by
  unfold vStu stk; rw [← ag_N hag, ← ag_M hag, hs.1 0 (by decide) (by decide), hs.1 1 (by decide) (by decide)]
theorem vFin_eq (hag : agG G G') (hs : smV G V W) (hM : gM G ≤ 8) : vFin G' W x y = vFin G V x y := by
  unfold vFin; rw [← ag_N hag, ← ag_M hag]
  by_cases hx : isR (gM G) x = true
  · obtain ⟨c, hc, rfl⟩ := isR_t hx (by omega)
    rw [nI_clamp (by omega)]
    dsimp only
    rw [← ag_fdV hag hc, hs.1 0 (by decide) (by decide), hs.1 1 (by decide) (by decide), fdV_sm hs]
  · rw [if_neg (fun q => hx q.1), if_neg (fun q => hx q.1)]
theorem asn_sm (hs : smV G V W) {r : Nat} : asn W m S r = asn V m S r := by
  unfold asn; rw [hs.1 1 (by decide) (by decide), hs.1 6 (by decide) (by decide)]
theorem vWho_eq (hag : agG G G') (hs : smV G V W) : vWho G' W m S = vWho G V m S := by
  unfold vWho; rw [← ag_N hag]
  exact bm_cg fun i hi => asn_sm hs
theorem vQui_eq (hag : agG G G') (hG : okG G) (hX : okX G) (hV : okV B G V) (hs : smV G V W) : vQui G' W x = vQui G V x := by
  have h8 := hG.2.1.2
  unfold vQui; rw [← ag_M hag, ← ag_N hag]
  by_cases hx : isR (gM G) x = true
  · obtain ⟨c, hc, rfl⟩ := isR_t hx (by omega)
    rw [nI_clamp (by omega), ← ag_cnd (by decide) hag (fun _ => hc)]
    have e := (stp_sm (w := 2) (c := c) (r := 0) (by decide) hs hV hG hX (fun _ => hc) (fun q => by omega)).2.2
    have el : gL G' c = gL G c := by unfold gL; rw [hag.2 4 c (by decide) (by decide) hc]
    rw [e, el, hs.1 3 (by decide) (by decide), hs.1 4 (by decide) (by decide), hs.1 10 (by decide) (by decide)]
  · rw [Bool.eq_false_iff.mpr hx, Bool.false_and, Bool.false_and]
end FD
