section P2
variable {x : Int32} {G G' : Gv}
theorem vHea_eq (hag : agG G G') : vHea G' x = vHea G x := by
  unfold vHea
  rw [← ag_M hag]
  have e : ∀ S, hp1 (G' 5) (gM G) S = hp1 (G 5) (gM G) S := fun S => by
    unfold hp1
    exact lp_cg fun c hc s => by rw [hag.2 5 c (by decide) (by decide) hc]
  simp only [e]
end P2
