/-! TWO GROUPS THAT SAY THE SAME -/
def agG (G G' : Gv) : Prop := (∀ k, k < 3 → G 0 k = G' 0 k) ∧ ∀ j c, 1 ≤ j → j ≤ 5 → c < gM G → G j c = G' j c
section AG
variable {G G' : Gv} {V : Vw} {f g : Nat → Int32} {r c k n N M B w : Nat} {x y z : Int32} {kd va kd' va' : Nat → Int32} {ky ky' : Nat → Nat}
theorem ag_N (h : agG G G') : gN G = gN G' := by unfold gN; rw [h.1 0 (by decide)]
theorem ag_M (h : agG G G') : gM G = gM G' := by unfold gM; rw [h.1 2 (by decide)]
theorem ag_L (h : agG G G') (hc : c < gM G) : gL G c = gL G' c := by unfold gL; rw [h.2 4 c (by decide) (by decide) hc]
theorem ag_K (h : agG G G') (hc : c < gM G) : gK G c = gK G' c := by unfold gK; rw [h.2 2 c (by decide) (by decide) hc]
theorem ag_okG (h : agG G G') (hG : okG G) : okG G' := by
  obtain ⟨⟨a1, a2⟩, ⟨b1, b2⟩, c1, d1⟩ := hG
  refine ⟨⟨?_, ?_⟩, ⟨?_, ?_⟩, ?_, ?_⟩
  · rw [← ag_N h, ← h.1 0 (by decide)]; exact a1
  · rw [← ag_N h]; exact a2
  · rw [← ag_M h, ← h.1 2 (by decide)]; exact b1
  · rw [← ag_M h]; exact b2
  · intro c hc
    rw [← ag_M h] at hc
    rw [← ag_L h hc, ← ag_N h, ← h.2 4 c (by decide) (by decide) hc]; exact c1 c hc
  · intro c hc
    rw [← ag_M h] at hc
    rw [← ag_K h hc, ← h.2 2 c (by decide) (by decide) hc]; exact d1 c hc
theorem ag_okX (h : agG G G') (hX : okX G) : okX G' := by
  refine ⟨fun c hc o ho => ?_, fun c hc => ?_⟩
  · rw [← ag_M h] at hc ⊢
    rw [← h.2 5 c (by decide) (by decide) hc] at ho
    exact hX.1 c hc o ho
  · rw [← ag_M h] at hc
    rw [← h.2 1 c (by decide) (by decide) hc]; exact hX.2 c hc
theorem ag_okV (h : agG G G') (hV : okV B G V) : okV B G' V := by
  unfold okV A0 A1 A4 A9 A10 at hV ⊢
  rw [← ag_N h, ← ag_M h]; exact hV
theorem ag_GR (h : agG G G') (hg : GR G V g) : GR G' V g := by
  intro r c hr hc
  rw [← ag_M h] at hc
  rw [← h.2 1 c (by decide) (by decide) hc]; exact hg r c hr hc
theorem rpV_cg (h1 : ∀ c, c < M → kd c = kd' c) (h2 : ∀ c, c < M → va c = va' c) (h3 : ∀ c, c < M → ky c = ky' c) : ∀ (k : Nat) (left : Int32) (V : Vw), rpV kd va ky M r k left V = rpV kd' va' ky' M r k left V
  | 0, _, _ => rfl
  | k + 1, left, V => by
    rw [rpV_s, rpV_s]
    split
    · rfl
    · split
      · rfl
      · rename_i c hc
        have := lst_lt hc
        rw [h1 c this, h2 c this, h3 c this]
        exact rpV_cg h1 h2 h3 k _ _
theorem rps_cg (h1 : ∀ c, c < M → kd c = kd' c) (h2 : ∀ c, c < M → va c = va' c) (h3 : ∀ c, c < M → ky c = ky' c) : ∀ (k : Nat) (q : Tq), rps kd va ky M r k q = rps kd' va' ky' M r k q
  | 0, _ => rfl
  | k + 1, q => by
    rw [rps_s, rps_s]
    split
    · rfl
    · rw [rpV_cg h1 h2 h3]
      exact rps_cg h1 h2 h3 k _
theorem ag_run (h : agG G G') : runV G V r = runV G' V r := by
  unfold runV
  rw [← ag_M h, rps_cg (fun c hc => h.2 1 c (by decide) (by decide) hc) (fun c hc => h.2 3 c (by decide) (by decide) hc) (fun c hc => ag_K h hc)]
theorem ag_clnd (h : agG G G') : clnd (gM G) (gN G) (G 4) f x = clnd (gM G') (gN G') (G' 4) f x := by
  unfold clnd
  rw [← ag_M h, ← ag_N h]
  refine lp_cg fun i _ s => ?_
  rw [rev_cg (p' := fun c => decide (G' 4 c = nI i)) (fun j _ hj => ⟨by rw [h.2 4 j (by decide) (by decide) (by omega)], rfl⟩)]
theorem ag_fdV (h : agG G G') (hc : c < gM G) : fdV G V x c = fdV G' V x c := by
  unfold fdV
  rw [← ag_N h, ← ag_M h, ← ag_L h hc, ← h.2 5 c (by decide) (by decide) hc]
theorem ag_stp (hw : w < 11) (h : agG G G') (hc : w < 7 → c < gM G) : stp G V w c r = stp G' V w c r := by
  match w, hw with
  | 0, _ =>
    have hc := hc (by decide)
    show stP G V c = stP G' V c
    unfold stP
    rw [← ag_M h, ← ag_L h hc, ← h.2 5 c (by decide) (by decide) hc]
  | 1, _ =>
    have hc := hc (by decide)
    show stA G V c r = stA G' V c r
    unfold stA
    rw [← ag_M h, ← ag_L h hc, ← h.2 5 c (by decide) (by decide) hc]
  | 2, _ =>
    have hc := hc (by decide)
    show stD G V c = stD G' V c
    unfold stD
    rw [← ag_N h, ← ag_L h hc]
  | 3, _ => exact (rfl : stC V c r = stC V c r)
  | 4, _ =>
    show stS G V c = stS G' V c
    unfold stS
    rw [← ag_N h]
  | 5, _ => exact (rfl : stT V c r = stT V c r)
  | 6, _ =>
    have hc := hc (by decide)
    show stR G V c r = stR G' V c r
    unfold stR
    rw [← ag_N h, ag_fdV h hc]
  | 7, _ =>
    show stX G V r = stX G' V r
    unfold stX
    rw [ag_run h]
  | 8, _ => exact (rfl : stU V r true = stU V r true)
  | 9, _ => exact (rfl : stU V r false = stU V r false)
  | 10, _ =>
    show stL G V = stL G' V
    unfold stL
    rw [ag_clnd h]
theorem ag_cnd (hw : w < 11) (h : agG G G') (hc : w < 7 → c < gM G) : cnd G V w c r = cnd G' V w c r := by
  match w, hw with
  | 0, _ =>
    have hc := hc (by decide)
    show (tb (V 0 0) (gL G c) && unt (V 1) (V 2) (8 * gL G c + c)) = (tb (V 0 0) (gL G' c) && unt (V 1) (V 2) (8 * gL G' c + c))
    rw [← ag_L h hc]
  | 1, _ =>
    have hc := hc (by decide)
    show (askd (V 0 0) (V 1) (V 2) (gL G c) c && (decide (r ≠ gL G c) && (tb (V 0 0) r && unt (V 1) (V 2) (8 * r + c)))) = (askd (V 0 0) (V 1) (V 2) (gL G' c) c && (decide (r ≠ gL G' c) && (tb (V 0 0) r && unt (V 1) (V 2) (8 * r + c))))
    rw [← ag_L h hc]
  | 2, _ =>
    have hc := hc (by decide)
    show (askd (V 0 0) (V 1) (V 2) (gL G c) c && decide (mst (gN G) ≤ pcn (V 10 c))) = (askd (V 0 0) (V 1) (V 2) (gL G' c) c && decide (mst (gN G') ≤ pcn (V 10 c)))
    rw [← ag_L h hc, ← ag_N h]
  | 3, _ => simp only [cnd]
  | 4, _ =>
    show (accd (V 0 0) (V 1) (hst V c) c && decide (mst (gN G) ≤ pcn (V 11 c))) = (accd (V 0 0) (V 1) (hst V c) c && decide (mst (gN G') ≤ pcn (V 11 c)))
    rw [← ag_N h]
  | 5, _ => simp only [cnd]
  | 6, _ =>
    show canRec (gN G) (V 0 0) (V 1) r c = canRec (gN G') (V 0 0) (V 1) r c
    rw [← ag_N h]
  | 7, _ => simp only [cnd]
  | 8, _ => simp only [cnd]
  | 9, _ => simp only [cnd]
  | 10, _ => simp only [cnd]
end AG
