/-! WHAT HOLDS OF EVERY STATE, row by row -/
def can (n : Nat) (f : Nat → Int32) : Prop := ∀ k, n ≤ k → f k = nI 0
def A0 (G : Gv) (f : Nat → Int32) : Prop := can 2 f ∧ (∀ k, tb (f 0) k = true → k < gN G) ∧ ∀ k, tb (f 1) k = true → k < gM G
def A1 (G : Gv) (f g : Nat → Int32) : Prop := can 40 f ∧ can 5 g ∧ okT f ∧ okN (gN G) f ∧ (∀ r c, r < 5 → gM G ≤ c → c < 8 → f (8 * r + c) = nI 0) ∧ ∀ r, r < 5 → g r = nI (pcn (rn f r))
def AB (B : Nat) (f : Nat → Int32) : Prop := can 40 f ∧ okB B f
def A4 (G : Gv) (f : Nat → Int32) : Prop := can 40 f ∧ ∀ q, q < 40 → ∀ o, tb (f q) o = true → o < gM G
def A9 (G : Gv) (f : Nat → Int32) : Prop := can 8 f ∧ ∀ c, c < gM G → f c = nI (f c).toNatClampNeg ∧ (f c).toNatClampNeg < gN G
def A10 (G : Gv) (f : Nat → Int32) : Prop := can 8 f ∧ ∀ c, c < gM G → ∀ k, tb (f c) k = true → k < gN G
def okV (B : Nat) (G : Gv) (V : Vw) : Prop := A0 G (V 0) ∧ A1 G (V 1) (V 7) ∧ AB B (V 2) ∧ AB B (V 3) ∧ A4 G (V 4) ∧ can 40 (V 5) ∧ can 40 (V 6) ∧ can 20 (V 8) ∧ A9 G (V 9) ∧ A10 G (V 10) ∧ A10 G (V 11)
/-- what holds of a group besides -/
def okX (G : Gv) : Prop := (∀ c, c < gM G → ∀ o, tb (G 5 c) o = true → o < gM G) ∧ ∀ c, c < gM G → ∃ kk, kk < 4 ∧ G 1 c = nI kk
section OV
variable {G : Gv} {V : Vw} {f g : Nat → Int32} {r c o a b k l n N M B B' q s : Nat} {x y z : Int32}
theorem can_upd (h : can n f) (hk : k < n) : can n (upd f k x) := fun j hj => by rw [upd_ne (by omega)]; exact h j hj
theorem AB_mono (h : AB B f) (hB : B ≤ B') : AB B' f := ⟨h.1, fun q hq => by obtain ⟨b, h1, h2⟩ := h.2 q hq; exact ⟨b, by omega, h2⟩⟩
theorem AB_upd (h : AB B f) (hB : B ≤ B') (hq : q < 40) (hb : b ≤ B') : AB B' (upd f q (nI b)) := by
  refine ⟨can_upd h.1 hq, fun p hp => ?_⟩
  by_cases hpq : p = q
  · subst hpq; exact ⟨b, hb, upd_eq⟩
  · rw [upd_ne hpq]; exact (AB_mono h hB).2 p hp
theorem okV_mono (h : okV B G V) (hB : B ≤ B') : okV B' G V := ⟨h.1, h.2.1, AB_mono h.2.2.1 hB, AB_mono h.2.2.2.1 hB, h.2.2.2.2⟩
theorem okV_cS (h : okV B G V) : cS V := by
  intro j k hj hk
  obtain ⟨h0, h1, h2, h3, h4, h5, h6, h8, h9, h10, h11⟩ := h
  have hj' : j = 0 ∨ j = 1 ∨ j = 2 ∨ j = 3 ∨ j = 4 ∨ j = 5 ∨ j = 6 ∨ j = 7 ∨ j = 8 ∨ j = 9 ∨ j = 10 ∨ j = 11 := by omega
  rcases hj' with rfl | rfl | rfl | rfl | rfl | rfl | rfl | rfl | rfl | rfl | rfl | rfl
  · exact h0.1 k hk
  · exact h1.1 k hk
  · exact h2.1 k hk
  · exact h3.1 k hk
  · exact h4.1 k hk
  · exact h5 k hk
  · exact h6 k hk
  · exact h1.2.1 k hk
  · exact h8 k hk
  · exact h9.1 k hk
  · exact h10.1 k hk
  · exact h11.1 k hk
theorem A0_0 (h : A0 G f) (hx : ∀ k, tb x k = true → k < gN G) : A0 G (upd f 0 x) := ⟨can_upd h.1 (by decide), by rw [upd_eq]; exact hx, by rw [upd_ne (by decide)]; exact h.2.2⟩
theorem A0_1 (h : A0 G f) (hx : ∀ k, tb x k = true → k < gM G) : A0 G (upd f 1 x) := ⟨can_upd h.1 (by decide), by rw [upd_ne (by decide)]; exact h.2.1, by rw [upd_eq]; exact hx⟩
theorem A4_upd (h : A4 G f) (hq : q < 40) (hx : ∀ o, tb x o = true → o < gM G) : A4 G (upd f q x) := by
  refine ⟨can_upd h.1 hq, fun p hp => ?_⟩
  by_cases hpq : p = q
  · subst hpq; rw [upd_eq]; exact hx
  · rw [upd_ne hpq]; exact h.2 p hp
theorem A4_and (h : A4 G f) : ∀ n, n ≤ 40 → A4 G (lp (fun k f => upd f k (f k &&& x)) n f)
  | 0, _ => h
  | n + 1, hn => by
    have ih := A4_and h n (by omega)
    show A4 G (upd (lp (fun k f => upd f k (f k &&& x)) n f) n (lp (fun k f => upd f k (f k &&& x)) n f n &&& x))
    refine A4_upd ih (by omega) (fun o ho => ?_)
    rw [tb_and, Bool.and_eq_true] at ho
    exact ih.2 n (by omega) o ho.1
theorem A9_upd (h : A9 G f) (hG : okG G) (hc : c < gM G) (hr : r < gN G) : A9 G (upd f c (nI r)) := by
  have := hG.2.1.2
  have := hG.1.2
  refine ⟨can_upd h.1 (by omega), fun p hp => ?_⟩
  by_cases hpq : p = c
  · subst hpq; rw [upd_eq, nI_clamp (by omega)]; exact ⟨rfl, hr⟩
  · rw [upd_ne hpq]; exact h.2 p hp
theorem A10_upd (h : A10 G f) (hG : okG G) (hc : c < gM G) (hx : ∀ k, tb x k = true → k < gN G) : A10 G (upd f c x) := by
  have := hG.2.1.2
  refine ⟨can_upd h.1 (by omega), fun p hp => ?_⟩
  by_cases hpq : p = c
  · subst hpq; rw [upd_eq]; exact hx
  · rw [upd_ne hpq]; exact h.2 p hp
theorem rn_keep (hq : ¬ f q = nI 4) (hx : ¬ x = nI 4) (hr : r < 5) : rn (upd f q x) r = rn f r := by
  apply tb_ext
  intro c _
  unfold rn
  rw [tb_cAt, tb_cAt, inr_eq, inr_eq]
  by_cases h : 8 * r + c = q
  · subst h; rw [upd_eq]; simp [hq, hx]
  · rw [upd_ne h]
theorem nI_ne4 (hs : s ≤ 3) : ¬ nI s = nI 4 := fun z => by have := (nI_eq (by omega) (by decide)).mp z; omega
theorem A1_upd (h : A1 G f g) (hG : okG G) (hr : r < gN G) (hc : c < gM G) (hs : s ≤ 3) (hq : ¬ f (8 * r + c) = nI 4) : A1 G (upd f (8 * r + c) (nI s)) g := by
  have h8 := hG.2.1.2
  have h5 := hG.1.2
  obtain ⟨h0, h1, h2, h3, h4, hn⟩ := h
  refine ⟨can_upd h0 (by omega), h1, fun p hp => ?_, fun r' c' h1' h2' h3' => ?_, fun r' c' h1' h2' h3' => ?_, fun r' hr' => ?_⟩
  · by_cases hpq : p = 8 * r + c
    · subst hpq; exact ⟨s, by omega, upd_eq⟩
    · rw [upd_ne hpq]; exact h2 p hp
  · rw [upd_ne (by omega)]; exact h3 r' c' h1' h2' h3'
  · rw [upd_ne (by omega)]; exact h4 r' c' h1' h2' h3'
  · rw [rn_keep hq (nI_ne4 hs) hr']; exact hn r' hr'
theorem A1_run (h : A1 G f g) (hG : okG G) (hr : r < gN G) (hc : c < gM G) (hq : f (8 * r + c) = nI 3) : A1 G (upd f (8 * r + c) (nI 4)) (upd g r (nI (pcn (rn f r) + 1))) := by
  have h8 := hG.2.1.2
  have h5 := hG.1.2
  obtain ⟨h0, h1, h2, h3, h4, hn⟩ := h
  refine ⟨can_upd h0 (by omega), can_upd h1 (by omega), fun p hp => ?_, fun r' c' h1' h2' h3' => ?_, fun r' c' h1' h2' h3' => ?_, fun r' hr' => ?_⟩
  · by_cases hpq : p = 8 * r + c
    · subst hpq; exact ⟨4, by omega, upd_eq⟩
    · rw [upd_ne hpq]; exact h2 p hp
  · rw [upd_ne (by omega)]; exact h3 r' c' h1' h2' h3'
  · rw [upd_ne (by omega)]; exact h4 r' c' h1' h2' h3'
  · by_cases hrr : r' = r
    · subst hrr
      rw [upd_eq, pcn_set (c := c) (x := rn f r') (by omega) (cm_rn (cm_iff.mpr ⟨by omega, hq⟩)) (fun i => rn_set (by omega))]
    · rw [upd_ne hrr, hn r' hr']
      have : rn (upd f (8 * r + c) (nI 4)) r' = rn f r' := by
        apply tb_ext
        intro i _
        unfold rn
        rw [tb_cAt, tb_cAt]
        by_cases hi : i < 8
        · rw [upd_ne (by omega)]
        · simp [hi]
      rw [this]
theorem okV_S (hG : okG G) (h : okV B G V) : okS G V := by
  obtain ⟨h0, h1, h2, h3, h4, h5, h6, h8, h9, h10, h11⟩ := h
  have g8 := hG.2.1.2
  have g5 := hG.1.2
  have sm_of_lt : ∀ {x : Int32} {n : Nat}, n ≤ 8 → (∀ k, tb x k = true → k < n) → sm x := fun {x n} hn hx k hk => by
    cases hq : tb x k
    · rfl
    · have := hx k hq; omega
  refine ⟨sm_of_lt (by omega) h0.2.1, sm_of_lt g8 h0.2.2, fun c hc => ⟨sm_of_lt (show gN G ≤ 8 by omega) (h10.2 c hc), sm_of_lt (show gN G ≤ 8 by omega) (h11.2 c hc)⟩, fun c hc => h9.2 c hc, fun r hr => ⟨_, pcn_le, h1.2.2.2.2.2 r hr⟩⟩
theorem okV_R (h : okV B G V) (hr : r < 5) : okR (gM G) r V := by
  obtain ⟨h0, h1, h2, h3, h4, h5, h6, h8, h9, h10, h11⟩ := h
  exact ⟨⟨fun c hc hc8 => h1.2.2.2.2.1 r c hr hc hc8, fun c hc o ho => h4.2 (8 * r + c) (by omega) o ho⟩, h1.2.2.2.2.2 r hr⟩
theorem st_T (h : okV B G V) (hq : q < 40) (hn : V 1 q < nI 3) : ¬ V 1 q = nI 4 := by
  intro z; rw [z] at hn; exact absurd hn (by decide)
theorem mxs_B (hf : ∀ i, i < n → ∃ b, b ≤ B ∧ f i = nI b) (hBl : B < 2147483648) {p : Nat → Bool} : ∃ b, b ≤ B ∧ mxs n p f = nI b := by
  induction n with
  | zero => exact ⟨0, by omega, rfl⟩
  | succ n ih =>
    obtain ⟨b, hb, he⟩ := ih (fun i hi => hf i (by omega))
    rw [mxs_s]
    split
    · obtain ⟨b', hb', he'⟩ := hf n (by omega)
      rw [he, he']
      unfold mx
      split
      · exact ⟨b', hb', rfl⟩
      · exact ⟨b, hb, rfl⟩
    · exact ⟨b, hb, he⟩
theorem bhd_B (h : AB B f) (hBl : B + 1 < 2147483648) (hr : r < 5) (h8 : M ≤ 8) {m : Int32} : ∃ b, b ≤ B + 1 ∧ bhd f M r m = nI b := by
  obtain ⟨b, hb, he⟩ := mxs_B (n := M) (p := tb m) (f := fun c => f (8 * r + c)) (B := B) (fun i hi => h.2 (8 * r + i) (by omega)) (by omega)
  refine ⟨b + 1, by omega, ?_⟩
  unfold bhd
  rw [he, nI_add]
theorem usq_B (h : AB B f) (hBl : B < 2147483648) (hc : c < 8) {m : Int32} : ∃ b, b ≤ B ∧ usq f c m = nI b := mxs_B (n := 5) (p := tb m) (f := fun r => f (8 * r + c)) (B := B) (fun i hi => h.2 (8 * i + c) (by omega)) hBl
theorem udp_M (h : A4 G f) (hc : c < 8) {m : Int32} : ∀ o, tb (udp f c m) o = true → o < gM G := by
  intro o ho
  unfold udp at ho
  rw [tb_ors] at ho
  obtain ⟨i, hi, _, h2⟩ := ho
  exact h.2 (8 * i + c) (by omega) o h2
theorem met_M (hX : okX G) (hc : c < gM G) {cn0 : Int32} : ∀ o, tb (met f (G 5 c) cn0 r) o = true → o < gM G := by
  intro o ho
  rw [tb_met] at ho
  refine hX.1 c hc o ?_
  cases hq : tb (G 5 c) o
  · rw [hq] at ho; simp at ho
  · rfl
theorem or_M {p : Nat → Prop} (hx : ∀ o, tb x o = true → p o) (hy : ∀ o, tb y o = true → p o) : ∀ o, tb (x ||| y) o = true → p o := by
  intro o ho
  rw [tb_or, Bool.or_eq_true] at ho
  rcases ho with ho | ho
  · exact hx o ho
  · exact hy o ho
theorem sg_M {p : Nat → Prop} (hr : r < 32) (h : p r) : ∀ o, tb (sg r) o = true → p o := by
  intro o ho
  rw [tb_sg hr] at ho
  have : o = r := by simpa using ho
  rw [this]; exact h
theorem z_M {p : Nat → Prop} : ∀ o, tb (nI 0) o = true → p o := by
  intro o ho; rw [tb_0] at ho; cases ho
theorem okV_s3 (h : okV B G V) (hG : okG G) (hB : B ≤ B') (hr : r < gN G) (hc : c < gM G) (hs : s ≤ 3) (hq : ¬ V 1 (8 * r + c) = nI 4) (hb : ∃ b, b ≤ B' ∧ y = nI b) (hz : ∀ o, tb z o = true → o < gM G) : okV B' G (s3 V (8 * r + c) (nI s) y z) := by
  have h8 := hG.2.1.2
  have h5 := hG.1.2
  obtain ⟨b, hb, rfl⟩ := hb
  obtain ⟨h0, h1, h2, h3, h4, h5', h6, h8', h9, h10, h11⟩ := h
  unfold okV
  rw [s3_1, s3_3, s3_4]
  simp (discharger := omega) only [s3_ne]
  exact ⟨h0, A1_upd h1 hG hr hc hs hq, AB_mono h2 hB, AB_upd h3 hB (by omega) hb, A4_upd h4 (by omega) hz, h5', h6, h8', h9, h10, h11⟩
theorem okV_10 (h : okV B G V) (hG : okG G) (hc : c < gM G) (hx : ∀ k, tb x k = true → k < gN G) : okV B G (st V 10 (upd (V 10) c x)) := by
  obtain ⟨h0, h1, h2, h3, h4, h5', h6, h8', h9, h10, h11⟩ := h
  unfold okV
  rw [st_eq]
  simp (discharger := omega) only [st_ne]
  exact ⟨h0, h1, h2, h3, h4, h5', h6, h8', h9, A10_upd h10 hG hc hx, h11⟩
theorem okV_11 (h : okV B G V) (hG : okG G) (hc : c < gM G) (hx : ∀ k, tb x k = true → k < gN G) : okV B G (st V 11 (upd (V 11) c x)) := by
  obtain ⟨h0, h1, h2, h3, h4, h5', h6, h8', h9, h10, h11⟩ := h
  unfold okV
  rw [st_eq]
  simp (discharger := omega) only [st_ne]
  exact ⟨h0, h1, h2, h3, h4, h5', h6, h8', h9, h10, A10_upd h11 hG hc hx⟩
theorem okV_1 (h : okV B G V) (hG : okG G) (hr : r < gN G) (hc : c < gM G) (hs : s ≤ 3) (hq : ¬ V 1 (8 * r + c) = nI 4) : okV B G (st V 1 (upd (V 1) (8 * r + c) (nI s))) := by
  obtain ⟨h0, h1, h2, h3, h4, h5', h6, h8', h9, h10, h11⟩ := h
  unfold okV
  rw [st_eq]
  simp (discharger := omega) only [st_ne]
  exact ⟨h0, A1_upd h1 hG hr hc hs hq, h2, h3, h4, h5', h6, h8', h9, h10, h11⟩
theorem okV_2 (h : okV B G V) (h2' : AB B' f) (hB : B ≤ B') : okV B' G (st V 2 f) := by
  obtain ⟨h0, h1, h2, h3, h4, h5', h6, h8', h9, h10, h11⟩ := h
  unfold okV
  rw [st_eq]
  simp (discharger := omega) only [st_ne]
  exact ⟨h0, h1, h2', AB_mono h3 hB, h4, h5', h6, h8', h9, h10, h11⟩
theorem okV_9 (h : okV B G V) (hG : okG G) (hc : c < gM G) (hr : r < gN G) : okV B G (st V 9 (upd (V 9) c (nI r))) := by
  obtain ⟨h0, h1, h2, h3, h4, h5', h6, h8', h9, h10, h11⟩ := h
  unfold okV
  rw [st_eq]
  simp (discharger := omega) only [st_ne]
  exact ⟨h0, h1, h2, h3, h4, h5', h6, h8', A9_upd h9 hG hc hr, h10, h11⟩
theorem okV_0 (h : okV B G V) (hx : ∀ k, tb x k = true → k < gN G) : okV B G (st V 0 (upd (V 0) 0 x)) := by
  obtain ⟨h0, h1, h2, h3, h4, h5', h6, h8', h9, h10, h11⟩ := h
  unfold okV
  rw [st_eq]
  simp (discharger := omega) only [st_ne]
  exact ⟨A0_0 h0 hx, h1, h2, h3, h4, h5', h6, h8', h9, h10, h11⟩
end OV
