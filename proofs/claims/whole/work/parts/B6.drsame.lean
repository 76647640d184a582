/-! both drives answer alike -/
section F6
variable {L : Nat} {xs : Nat → Int32} {d : Nat} {P : Option Value → Hp → Prop} {I : Mi} {J : Mj} {R : Mr} {Z : Mz} {r c r' c' k l N M o n m B a b t w nx mn s sd : Nat} {x y z : Int32} {V V' V0 W0 W : Vw} {f f1 f4 g : Nat → Int32} {G G' : Gv} {U : Uq} {Q : Wq} {h : Hp}
theorem dW_sm (hs : smV G V W) : dW W w r = dW V w r := by
  unfold dW; rw [hs.1 0 (by decide) (by decide)]
theorem dq_eta {q : Dq} : q.2 = (q.2.1, q.2.2) := by cases q; exact Eq.refl _
theorem dL_sm (hG : okG G) (hX : okX G) (hV : okV B G V) (hs : smV G V W) (hB : B + 200 < 2147483648) (hN : 0 < gN G) (hM : 0 < gM G) (n : Nat) (hn : n ≤ 99) : smV G (dL G V s n).1 (dL G W s n).1 ∧ (dL G W s n).2.1 = (dL G V s n).2.1 ∧ (dL G W s n).2.2 = (dL G V s n).2.2 := by
  induction n with
  | zero =>
    have e : ∀ V, dL G V s 0 = (V, s, 0) := fun _ => rfl
    rw [e, e]
    exact ⟨hs, Eq.refl _, Eq.refl _⟩
  | succ n ih =>
    obtain ⟨i1, i2, i3⟩ := ih (by omega)
    have hok := dA_ok (s := s) hG hX hV hB hN hM n (by omega)
    rw [dL_s, dL_s]
    generalize dL G W s n = p at *
    generalize dL G V s n = q at *
    simp only [dS_1, dS_2, dS_3]
    rw [i2, i3, dW_sm i1]
    have hwl : dW q.1 (dw q.2.1) (dr G q.2.1) < 11 := dW_lt dw_lt
    have hc8 : dc G q.2.1 < gM G := dc_lt hM
    have hr5 : dr G q.2.1 < gN G := dr_lt hN
    obtain ⟨a1, a2, a3⟩ := stp_sm hwl i1 hok hG hX (fun _ => hc8) (fun _ => hr5)
    rw [a3]
    exact ⟨a2, Eq.refl _, Eq.refl _⟩
theorem dA_sm (hG : okG G) (hX : okX G) (hV : okV B G V) (hs : smV G V W) (hB : B + 200 < 2147483648) (hn : n ≤ 99) : smV G (dA G V s n).1 (dA G W s n).1 ∧ (dA G W s n).2.2 = (dA G V s n).2.2 := by
  unfold dA
  by_cases h0 : gN G = 0 ∨ gM G = 0
  · rw [if_pos h0, if_pos h0]; exact ⟨hs, Eq.refl _⟩
  · rw [if_neg h0, if_neg h0]
    obtain ⟨a, b, c⟩ := dL_sm (s := s) hG hX hV hs hB (by omega) (by omega) n hn
    exact ⟨a, c⟩
theorem dA_ag (hag : agG G G') : dA G' V s n = dA G V s n := by
  unfold dA
  rw [← ag_N hag, ← ag_M hag]
  by_cases h0 : gN G = 0 ∨ gM G = 0
  · rw [if_pos h0, if_pos h0]
  · rw [if_neg h0, if_neg h0]
    induction n with
    | zero =>
      have e : ∀ G, dL G V s 0 = (V, s, 0) := fun _ => rfl
      rw [e, e]
    | succ n ih =>
      rw [dL_s, dL_s, ih]
      generalize dL G V s n = q
      have hr : dr G' q.2.1 = dr G q.2.1 := by unfold dr; rw [ag_N hag]
      have hcc : dc G' q.2.1 = dc G q.2.1 := by unfold dc; rw [ag_M hag]
      unfold dS
      rw [hr, hcc, ← ag_stp (dW_lt dw_lt) hag (fun _ => dc_lt (by omega)), ← ag_cnd (dW_lt dw_lt) hag (fun _ => dc_lt (by omega))]
theorem agA_sm (hs : smV G V W) : agA G W r o = agA G V r o := by
  unfold agA; rw [hs.1 1 (by decide) (by decide), hs.1 6 (by decide) (by decide)]
theorem agA_ag (hag : agG G G') : agA G' V r o = agA G V r o := by
  unfold agA agr
  rw [← ag_M hag]
  refine al_cg fun a ha => ?_
  rw [hag.2 5 a (by decide) (by decide) ha]
theorem vDri_eq (hag : agG G G') (hG : okG G) (hX : okX G) (hV : okV B G V) (hs : smV G V W) (hB : B + 200 < 2147483648) : vDrM G' W x y z = vDri G V x y z := by
  unfold vDrM vDri
  by_cases hi : (inr x (nI 0) (nI 9999) && (inr y (nI 1) (nI 99) && inr z (nI 0) (nI 2))) = true
  · rw [if_pos hi, if_pos hi]
    simp only [Bool.and_eq_true] at hi
    obtain ⟨mn, hm1, hmn, rfl⟩ := inr_of1 hi.2.1 (by omega)
    rw [nI_clamp (n := mn) (by omega), dA_ag hag]
    obtain ⟨a1, a2⟩ := dA_sm (s := x.toNatClampNeg) (n := mn) hG hX hV hs hB (by omega)
    generalize dA G W x.toNatClampNeg mn = p at *
    generalize dA G V x.toNatClampNeg mn = q at *
    have er : rIA p.1 = rIA q.1 := by unfold rIA; rw [a1.1 7 (by decide) (by decide)]
    have eq : quM G' p.1 = qua G q.1 := by
      rw [qua_eq (ag_okG hag hG)]
      unfold qua
      rw [← ag_N hag]
      have : ∀ r o, agA G' p.1 r o = agA G q.1 r o := fun r o => by rw [agA_ag hag, agA_sm a1]
      simp only [this]
    dsimp only
    rw [a2, er, eq]
  · rw [if_neg hi, if_neg hi]
end F6
