section FF
variable {c k m n B : Nat} {x y z w s h t : Int32} {V W : Vw} {G G' : Gv} {S : Sq}
theorem vOne_eq (hag : agG G G') (hs : smV G V W) : vOne G' W x = vOne G V x := by
  unfold vOne onA; rw [← ag_M hag, ← ag_N hag, hs.1 1 (by decide) (by decide), hs.1 3 (by decide) (by decide), hs.1 4 (by decide) (by decide)]
theorem vLoo_eq (hag : agG G G') (hs : smV G V W) : vLoo G' W m S = vLoo G V m S := by
  have e : ∀ N s a b, soN W N s a b = soN V N s a b := fun N s a b => by unfold soN; rw [hs.1 1 (by decide) (by decide), hs.1 6 (by decide) (by decide)]
  unfold vLoo lkS; rw [vWho_eq hag hs, ← ag_M hag, ← ag_N hag]
  simp only [e]
theorem vCou_eq (hag : agG G G') (hs : smV G V W) : vCou G' W w s h t y = vCou G V w s h t y := by
  unfold vCou rIA; rw [← hag.1 0 (by decide), ← hag.1 1 (by decide), ← hag.1 2 (by decide), hs.1 0 (by decide) (by decide), hs.1 7 (by decide) (by decide)]
theorem vLev_eq (hag : agG G G') (hs : smV G V W) : vLev G' W x = vLev G V x := by
  unfold vLev; rw [← ag_M hag, ← ag_N hag, hs.1 1 (by decide) (by decide)]
  rw [lvl_cg (k := gM G) (i := 0) (fun j _ hj => ⟨by rw [← hag.2 4 j (by decide) (by decide) (by omega)], Eq.refl _⟩)]
end FF
