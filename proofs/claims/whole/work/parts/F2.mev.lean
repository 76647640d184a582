/-! THE MODEL WORKS OUT WHAT THE CLASS WORKS OUT -/
def PreL (lv : Nat) (I : Mi) (e : Nat) : Prop := popN (I 441) e = e ∧ I 440 e = nI 0 ∧ (lv ≤ 2 → I 437 e = nI 0 ∧ I 438 e = nI 20) ∧ (lv ≤ 1 → I 436 e = nI 0) ∧ (lv = 0 → I 434 e = nI 0)
def FrL (lv : Nat) (I I' : Mi) (e : Nat) : Prop := fE I I' ∧ (∀ c, 433 ≤ c → c ≤ 441 → ∀ k, k < e → I' c k = I c k) ∧ I' 441 e = I 441 e ∧ (1 ≤ lv → I' 433 e = I 433 e ∧ I' 434 e = I 434 e) ∧ (2 ≤ lv → I' 435 e = I 435 e ∧ I' 436 e = I 436 e) ∧ (3 ≤ lv → I' 437 e = I 437 e ∧ I' 438 e = I 438 e)
def vaL (lv : Nat) (I : Mi) (e : Nat) : Int32 := if lv = 0 then kv I e else if lv = 1 then tv I e else if lv = 2 then sv I e else I 439 e
def StepE (L : Nat) (xs : Nat → Int32) (d : Nat) (J : Mj) (R : Mr) (Z : Mz) (g : Nat → Nat) (n le z e lv : Nat) (φ : Int32 → Int32) (Q : Nat → Er) : Prop := ∀ I1 j, CdM I1 g n le z → phM I1 = φ → le ≤ j → popN (I1 441) e = e → (lv = 1 → I1 436 e = nI 0) → jn g n lv j ≠ nI 0 → (Q (j + 1)).2.1 = 0 → (Q (j + 1)).1 ≤ le + z → ∃ I2, FrL lv I1 I2 e ∧ vaL lv I2 e = jo (jn g n lv j) (vaL lv I1 e) ((Q (j + 1)).2.2.2 φ) ∧ Es L xs d J R Z I1 I2 e e (j - le) ((Q (j + 1)).1 - le)
section N2
variable {L : Nat} {xs : Nat → Int32} {d : Nat} {P : Option Value → Hp → Prop} {I I' I2 I3 I1 : Mi} {J J' J2 : Mj} {R : Mr} {Z : Mz} {k n i j p w b m c e a e' e2 k' k2 le z lv dep F : Nat} {v x u : Int32} {g : Nat → Nat} {Q : Nat → Er} {φ : Int32 → Int32} {f f' : Nat → Int32}
theorem FrL_r : FrL lv I I e := ⟨fun _ _ => rfl, fun _ _ _ _ _ => rfl, rfl, fun _ => ⟨rfl, rfl⟩, fun _ => ⟨rfl, rfl⟩, fun _ => ⟨rfl, rfl⟩⟩
theorem FrL_t (h1 : FrL lv I I' e) (h2 : FrL lv I' I2 e) : FrL lv I I2 e := ⟨fE_t h1.1 h2.1, fun c a b k hk => (h2.2.1 c a b k hk).trans (h1.2.1 c a b k hk), h2.2.2.1.trans h1.2.2.1, fun z => ⟨(h2.2.2.2.1 z).1.trans (h1.2.2.2.1 z).1, (h2.2.2.2.1 z).2.trans (h1.2.2.2.1 z).2⟩, fun z => ⟨(h2.2.2.2.2.1 z).1.trans (h1.2.2.2.2.1 z).1, (h2.2.2.2.2.1 z).2.trans (h1.2.2.2.2.1 z).2⟩, fun z => ⟨(h2.2.2.2.2.2 z).1.trans (h1.2.2.2.2.2 z).1, (h2.2.2.2.2.2 z).2.trans (h1.2.2.2.2.2 z).2⟩⟩
theorem FrL_m (h : FrL k I I' e) (hk : lv ≤ k) : FrL lv I I' e := ⟨h.1, h.2.1, h.2.2.1, fun z => h.2.2.2.1 (by omega), fun z => h.2.2.2.2.1 (by omega), fun z => h.2.2.2.2.2 (by omega)⟩
theorem phM_f (h : fE I I') : phM I' = phM I := by unfold phM; rw [h 442 (by decide)]
theorem popN_f (h1 : ∀ k, k < e → f' k = f k) (h2 : f' e = f e) : popN f' e = popN f e := popN_cg e (fun k hk => by
  by_cases q : k = e
  · rw [q]; exact h2
  · exact h1 k (by omega))
theorem popN_Fr (h : FrL lv I I' e) : popN (I' 441) e = popN (I 441) e := popN_f (fun k hk => h.2.1 441 (by decide) (by decide) k hk) h.2.2.1
theorem nvl_id : ∀ e, popN f e = e → nvl f e v = v
  | 0, _ => rfl
  | e + 1, h => by
    unfold popN at h
    unfold nvl
    split at h
    · have := popN_le (f := f) e; omega
    · rename_i q; rw [if_neg q]
theorem lpE_ge (hQ : ∀ i, (Q i).2.1 = 0 → i ≤ (Q i).1) : ∀ k (r : Er), (lpE g n lv Q k r).2.1 = 0 → r.1 ≤ (lpE g n lv Q k r).1 := by
  intro k
  induction k with
  | zero => intro r _; exact Nat.le_refl _
  | succ k ih =>
    intro r h
    unfold lpE at h ⊢
    split at h
    · rename_i q; rw [if_pos q]; exact Nat.le_refl _
    · rename_i q
      rw [if_neg q]
      have h1 := ih _ h
      have h0' := lpE_0 _ _ h
      have h0 : (Q (r.1 + 1)).2.1 = 0 := h0'
      have h2 := hQ _ h0
      dsimp only at h1
      omega
theorem e_loop (hS : StepE L xs d J R Z g n le z e lv φ Q) (hQ : ∀ i, (Q i).2.1 = 0 → i ≤ (Q i).1) : ∀ k (r : Er) I1, CdM I1 g n le z → phM I1 = φ → le ≤ r.1 → popN (I1 441) e = e → (lv = 1 → k = 0 ∨ (k = 1 ∧ I1 436 e = nI 0)) → vaL lv I1 e = r.2.2.2 φ → (lpE g n lv Q k r).2.1 = 0 → (lpE g n lv Q k r).1 ≤ le + z → ∃ I2, FrL lv I1 I2 e ∧ vaL lv I2 e = (lpE g n lv Q k r).2.2.2 φ ∧ Es L xs d J R Z I1 I2 e e (r.1 - le) ((lpE g n lv Q k r).1 - le) := by
  intro k
  induction k with
  | zero => intro r I1 _ _ _ _ _ hv _ _; exact ⟨I1, FrL_r, hv, fun t4 t5 => ⟨t4, t5, fun _ => rfl⟩⟩
  | succ k ih =>
    intro r I1 hC hφ hle hpop h1 hv hf hT
    by_cases q : jn g n lv r.1 = nI 0 ∨ r.2.1 ≠ 0
    · have e0 : lpE g n lv Q (k + 1) r = r := by rw [lpE, if_pos q]
      rw [e0]
      exact ⟨I1, FrL_r, hv, fun t4 t5 => ⟨t4, t5, fun _ => rfl⟩⟩
    · have e0 : lpE g n lv Q (k + 1) r = lpE g n lv Q k ((Q (r.1 + 1)).1, (Q (r.1 + 1)).2.1, r.2.2.1 ++ (Q (r.1 + 1)).2.2.1 ++ [jn g n lv r.1], fun φ => jo (jn g n lv r.1) (r.2.2.2 φ) ((Q (r.1 + 1)).2.2.2 φ)) := by rw [lpE, if_neg q]
      rw [e0] at hf hT ⊢
      have hq' := lpE_0 _ _ hf
      have hq : (Q (r.1 + 1)).2.1 = 0 := hq'
      have hge := lpE_ge hQ _ _ hf
      dsimp only at hge
      have hq2 := hQ _ hq
      obtain ⟨I2, b1, b2, b3⟩ := hS I1 r.1 hC hφ hle hpop (fun z => by rcases h1 z with h | h; omega; exact h.2) (fun z => q (Or.inl z)) hq (by omega)
      obtain ⟨I3, c1, c2, c3⟩ := ih _ I2 (CdM_f hC b1.1) ((phM_f b1.1).trans hφ) (by show le ≤ (Q (r.1 + 1)).1; omega) ((popN_Fr b1).trans hpop) (fun z => by rcases h1 z with h | h; omega; exact Or.inl (by omega)) (by rw [b2, hv]) hf hT
      exact ⟨I3, FrL_t b1 c1, c2, es_t b3 c3⟩
def LevE (L : Nat) (xs : Nat → Int32) (d : Nat) (J : Mj) (R : Mr) (Z : Mz) (g : Nat → Nat) (n le z e lv : Nat) (φ : Int32 → Int32) (Q : Nat → Er) : Prop := ∀ i I, CdM I g n le z → phM I = φ → le ≤ i → PreL lv I e → (Q i).2.1 = 0 → (Q i).1 ≤ le + z → ∃ I', FrL lv I I' e ∧ vaL lv I' e = (Q i).2.2.2 φ ∧ Es L xs d J R Z I I' e e (i - le) ((Q i).1 - le)
def ParE (L : Nat) (xs : Nat → Int32) (d : Nat) (J : Mj) (R : Mr) (Z : Mz) (g : Nat → Nat) (n le z e : Nat) (φ : Int32 → Int32) (Q : Nat → Er) : Prop := ∀ i I, CdM I g n le z → phM I = φ → le ≤ i → popN (I 441) e = e → (Q i).2.1 = 0 → (Q i).1 ≤ le + z → ∃ I', FrL 3 I I' e ∧ I' 439 e = (if I 440 e = nI 0 then (Q i).2.2.2 φ else I 439 e * (Q i).2.2.2 φ) ∧ Es L xs d J R Z I I' e e (i - le) ((Q i).1 - le)
theorem jo12 {a b : Int32} : jo (-12) a b = a * b := rfl
theorem jo10 {a b : Int32} : jo (-10) a b = a + b := rfl
theorem jo11 {a b : Int32} : jo (-11) a b = a - b := rfl
theorem jo8 {a b : Int32} : jo (-8) a b = bI (decide (a < b)) := rfl
theorem jo9 {a b : Int32} : jo (-9) a b = bI (decide (a = b)) := rfl
theorem jo6 {a b : Int32} : jo (-6) a b = bI (decide (¬ a = nI 0) && decide (¬ b = nI 0)) := rfl
theorem jo7 {a b : Int32} : jo (-7) a b = bI (decide (¬ a = nI 0) || decide (¬ b = nI 0)) := rfl
theorem step3 (he : e ≤ 5) (hQ : ∀ i, (Q i).2.1 = 0 → i ≤ (Q i).1) (hL : ParE L xs d J R Z g n le z e φ Q) : StepE L xs d J R Z g n le z e 3 φ Q := by
  intro I1 j hC hφ hle hpop _ hjn hf hT
  have hs : isSgn g n 42 j = true := by
    unfold jn at hjn
    rw [if_neg (by decide), if_neg (by decide), if_neg (by decide)] at hjn
    cases h1 : isSgn g n 42 j
    · rw [h1, if_neg (by decide)] at hjn; exact absurd rfl hjn
    · rfl
  have ej : jn g n 3 j = -12 := by unfold jn; rw [if_neg (by decide), if_neg (by decide), if_neg (by decide), if_pos hs]
  have hq := hQ _ hf
  have es := e_mul (L := L) (xs := xs) (d := d) (J := J) (R := R) (Z := Z) (k := j - le) (e := e) hC (by omega) (by omega) (by rw [show le + (j - le) = j by omega]; exact mc_sg hs)
  have fr : FrL 3 I1 (w1 I1 440 e (nI 22)) e := ⟨fE_w (by decide), fun c _ _ k hk => w1_ne (Or.inr (by omega)), w1_ne (Or.inl (by decide)), fun _ => ⟨w1_ne (Or.inl (by decide)), w1_ne (Or.inl (by decide))⟩, fun _ => ⟨w1_ne (Or.inl (by decide)), w1_ne (Or.inl (by decide))⟩, fun _ => ⟨w1_ne (Or.inl (by decide)), w1_ne (Or.inl (by decide))⟩⟩
  obtain ⟨I2, b1, b2, b3⟩ := hL (j + 1) _ (CdM_f hC fr.1) ((phM_f fr.1).trans hφ) (by omega) ((popN_Fr fr).trans hpop) hf hT
  refine ⟨I2, FrL_t fr b1, ?_, ?_⟩
  · rw [w1_eq, if_neg (by decide), w1_ne (Or.inl (by decide))] at b2
    rw [ej, jo12]; exact b2
  · rw [show j + 1 - le = j - le + 1 by omega] at b3; exact es_t es b3
theorem step2 (he : e ≤ 5) (hQ : ∀ i, (Q i).2.1 = 0 → i ≤ (Q i).1) (hL : LevE L xs d J R Z g n le z e 3 φ Q) : StepE L xs d J R Z g n le z e 2 φ Q := by
  intro I1 j hC hφ hle hpop _ hjn hf hT
  have hs : ∃ b, (b = 20 ∨ b = 21) ∧ mcd g n j = b ∧ jn g n 2 j = (if b = 21 then -11 else -10) := by
    unfold jn at hjn ⊢
    rw [if_neg (by decide), if_neg (by decide), if_pos rfl] at hjn ⊢
    cases h1 : isSgn g n 43 j
    · rw [h1, if_neg (by decide)] at hjn
      cases h2 : isSgn g n 45 j
      · rw [h2, if_neg (by decide)] at hjn; exact absurd rfl hjn
      · exact ⟨21, Or.inr rfl, mc_sg h2, by simp⟩
    · exact ⟨20, Or.inl rfl, mc_sg h1, by simp⟩
  obtain ⟨b, hb, hm, ej⟩ := hs
  have hq := hQ _ hf
  have es := e_sum (L := L) (xs := xs) (d := d) (J := J) (R := R) (Z := Z) (k := j - le) (e := e) hC (by omega) (by omega) hb (by rw [show le + (j - le) = j by omega]; exact hm)
  generalize hIa : w1 (suI I1 e) 438 e (nI b) = Ia at es
  have a438 : Ia 438 e = nI b := by rw [← hIa, w1_eq]
  have a437 : Ia 437 e = sv I1 e := by rw [← hIa, w1_ne (Or.inl (by decide)), suI_437]
  have a440 : Ia 440 e = nI 0 := by rw [← hIa, w1_ne (Or.inl (by decide))]; unfold suI; rw [w1_eq]
  have ao : ∀ c, c ≠ 437 → c ≠ 438 → c ≠ 440 → Ia c = I1 c := fun c h1 h2 h3 => by rw [← hIa, w1_o h2, suI_o h1 h3]
  have abel : ∀ c k, k < e → Ia c k = I1 c k := fun c k hk => by rw [← hIa]; unfold suI; rw [w1_ne (Or.inr (by omega)), w1_ne (Or.inr (by omega)), w1_ne (Or.inr (by omega))]
  have fr : FrL 2 I1 Ia e := ⟨fun a ha => ao a (by omega) (by omega) (by omega), fun c _ _ k hk => abel c k hk, by rw [ao 441 (by decide) (by decide) (by decide)], fun _ => ⟨by rw [ao 433 (by decide) (by decide) (by decide)], by rw [ao 434 (by decide) (by decide) (by decide)]⟩, fun _ => ⟨by rw [ao 435 (by decide) (by decide) (by decide)], by rw [ao 436 (by decide) (by decide) (by decide)]⟩, fun z => by omega⟩
  obtain ⟨I2, b1, b2, b3⟩ := hL (j + 1) Ia (CdM_f hC fr.1) ((phM_f fr.1).trans hφ) (by omega) ⟨(popN_Fr fr).trans hpop, a440, fun z => by omega, fun z => by omega, fun z => by omega⟩ hf hT
  have b2' : I2 439 e = (Q (j + 1)).2.2.2 φ := b2
  have b37 := (b1.2.2.2.2.2 (by decide)).1.trans a437
  have b38 := (b1.2.2.2.2.2 (by decide)).2.trans a438
  refine ⟨I2, FrL_t fr (FrL_m b1 (by decide)), ?_, ?_⟩
  · show sv I2 e = jo _ (sv I1 e) _
    generalize sv I1 e = aa at *
    have es2 : sv I2 e = if I2 438 e = nI 21 then I2 437 e - I2 439 e else I2 437 e + I2 439 e := rfl
    rw [es2, b38, b37, b2', ej]
    rcases hb with rfl | rfl
    · rw [if_neg (by decide), if_neg (by decide), jo10]
    · rw [if_pos rfl, if_pos rfl, jo11]
  · rw [show j + 1 - le = j - le + 1 by omega] at b3; exact es_t es b3
theorem step1 (he : e ≤ 5) (hQ : ∀ i, (Q i).2.1 = 0 → i ≤ (Q i).1) (hL : LevE L xs d J R Z g n le z e 2 φ Q) : StepE L xs d J R Z g n le z e 1 φ Q := by
  intro I1 j hC hφ hle hpop h36 hjn hf hT
  have hs : ∃ b, (b = 24 ∨ b = 25) ∧ mcd g n j = b ∧ jn g n 1 j = (if b = 25 then -9 else -8) := by
    unfold jn at hjn ⊢
    rw [if_neg (by decide), if_pos rfl] at hjn ⊢
    cases h1 : isSgn g n 60 j
    · rw [h1, if_neg (by decide)] at hjn
      cases h2 : isSgn g n 61 j
      · rw [h2, if_neg (by decide)] at hjn; exact absurd rfl hjn
      · exact ⟨25, Or.inr rfl, mc_sg h2, by simp⟩
    · exact ⟨24, Or.inl rfl, mc_sg h1, by simp⟩
  obtain ⟨b, hb, hm, ej⟩ := hs
  have hq := hQ _ hf
  have es := e_cmp (L := L) (xs := xs) (d := d) (J := J) (R := R) (Z := Z) (k := j - le) (e := e) hC (by omega) (by omega) hb (by rw [show le + (j - le) = j by omega]; exact hm)
  generalize hIa : cmI2 I1 e b = Ia at es
  have a438 : Ia 438 e = nI 20 := by rw [← hIa]; unfold cmI2; rw [w1_eq]
  have a437 : Ia 437 e = nI 0 := by rw [← hIa]; unfold cmI2; rw [w1_ne (Or.inl (by decide)), w1_eq]
  have a436 : Ia 436 e = nI b := by rw [← hIa]; unfold cmI2; rw [w1_ne (Or.inl (by decide)), w1_ne (Or.inl (by decide)), w1_eq]
  have a435 : Ia 435 e = sv I1 e := by rw [← hIa]; unfold cmI2; rw [w1_ne (Or.inl (by decide)), w1_ne (Or.inl (by decide)), w1_ne (Or.inl (by decide)), w1_eq]
  have a440 : Ia 440 e = nI 0 := by rw [← hIa]; unfold cmI2 suI; rw [w1_ne (Or.inl (by decide)), w1_ne (Or.inl (by decide)), w1_ne (Or.inl (by decide)), w1_ne (Or.inl (by decide)), w1_eq]
  have ao : ∀ c, c ≠ 435 → c ≠ 436 → c ≠ 437 → c ≠ 438 → c ≠ 440 → Ia c = I1 c := fun c h0 h1 h2 h3 h4 => by rw [← hIa]; unfold cmI2; rw [w1_o h3, w1_o h2, w1_o h1, w1_o h0, suI_o h2 h4]
  have abel : ∀ c k, k < e → Ia c k = I1 c k := fun c k hk => by rw [← hIa]; unfold cmI2 suI; rw [w1_ne (Or.inr (by omega)), w1_ne (Or.inr (by omega)), w1_ne (Or.inr (by omega)), w1_ne (Or.inr (by omega)), w1_ne (Or.inr (by omega)), w1_ne (Or.inr (by omega))]
  have fr : FrL 1 I1 Ia e := ⟨fun a ha => ao a (by omega) (by omega) (by omega) (by omega) (by omega), fun c _ _ k hk => abel c k hk, by rw [ao 441 (by decide) (by decide) (by decide) (by decide) (by decide)], fun _ => ⟨by rw [ao 433 (by decide) (by decide) (by decide) (by decide) (by decide)], by rw [ao 434 (by decide) (by decide) (by decide) (by decide) (by decide)]⟩, fun z => by omega, fun z => by omega⟩
  obtain ⟨I2, b1, b2, b3⟩ := hL (j + 1) Ia (CdM_f hC fr.1) ((phM_f fr.1).trans hφ) (by omega) ⟨(popN_Fr fr).trans hpop, a440, fun _ => ⟨a437, a438⟩, fun z => by omega, fun z => by omega⟩ hf hT
  have b2' : sv I2 e = (Q (j + 1)).2.2.2 φ := b2
  have b35 := (b1.2.2.2.2.1 (by decide)).1.trans a435
  have b36 := (b1.2.2.2.2.1 (by decide)).2.trans a436
  have t1 : tv I1 e = sv I1 e := by unfold tv cv1; rw [h36 rfl, if_neg (by decide), if_neg (by decide)]
  refine ⟨I2, FrL_t fr (FrL_m b1 (by decide)), ?_, ?_⟩
  · show tv I2 e = jo _ (tv I1 e) _
    rw [t1]
    unfold tv cv1
    rw [b36, b35, b2', ej]
    rcases hb with rfl | rfl
    · rw [if_pos rfl, if_neg (by decide), jo8]
    · rw [if_neg (by decide), if_pos rfl, if_pos rfl, jo9]
  · rw [show j + 1 - le = j - le + 1 by omega] at b3; exact es_t es b3
theorem step0 (he : e ≤ 5) (hQ : ∀ i, (Q i).2.1 = 0 → i ≤ (Q i).1) (hL : LevE L xs d J R Z g n le z e 1 φ Q) : StepE L xs d J R Z g n le z e 0 φ Q := by
  intro I1 j hC hφ hle hpop h36 hjn hf hT
  have hs : ∃ b, (b = 26 ∨ b = 27) ∧ mcd g n j = b ∧ jn g n 0 j = (if b = 27 then -7 else -6) := by
    unfold jn at hjn ⊢
    rw [if_pos rfl] at hjn ⊢
    by_cases h8 : wd g n j = 8
    · refine ⟨26, Or.inl rfl, ?_, by rw [if_pos h8]; decide⟩
      have e0 : fcN g n j = 0 := by unfold fcN; rw [h8]; rfl
      unfold mcd; rw [if_neg (by rw [wd_kd (by omega)]; decide), if_neg (by rw [e0]; decide), if_neg (by omega), if_pos h8]
    · rw [if_neg h8] at hjn
      by_cases h9 : wd g n j = 9
      · refine ⟨27, Or.inr rfl, ?_, by rw [if_neg h8, if_pos h9]; decide⟩
        have e0 : fcN g n j = 0 := by unfold fcN; rw [h9]; rfl
        unfold mcd; rw [if_neg (by rw [wd_kd (by omega)]; decide), if_neg (by rw [e0]; decide), if_neg (by omega), if_neg h8, if_pos h9]
      · rw [if_neg h9] at hjn; exact absurd rfl hjn
  obtain ⟨b, hb, hm, ej⟩ := hs
  have hq := hQ _ hf
  have es := e_and (L := L) (xs := xs) (d := d) (J := J) (R := R) (Z := Z) (k := j - le) (e := e) hC (by omega) (by omega) hb (by rw [show le + (j - le) = j by omega]; exact hm)
  generalize hIa : w1 (tsI I1 e) 434 e (nI b) = Ia at es
  have a434 : Ia 434 e = nI b := by rw [← hIa, w1_eq]
  have a433 : Ia 433 e = kv I1 e := by rw [← hIa, w1_ne (Or.inl (by decide)), tsI_433]
  have a438 : Ia 438 e = nI 20 := by rw [← hIa, w1_ne (Or.inl (by decide))]; unfold tsI; rw [w1_eq]
  have a437 : Ia 437 e = nI 0 := by rw [← hIa, w1_ne (Or.inl (by decide))]; unfold tsI; rw [w1_ne (Or.inl (by decide)), w1_eq]
  have a436 : Ia 436 e = nI 0 := by rw [← hIa, w1_ne (Or.inl (by decide))]; unfold tsI; rw [w1_ne (Or.inl (by decide)), w1_ne (Or.inl (by decide)), w1_eq]
  have a440 : Ia 440 e = nI 0 := by rw [← hIa, w1_ne (Or.inl (by decide))]; unfold tsI suI; rw [w1_ne (Or.inl (by decide)), w1_ne (Or.inl (by decide)), w1_ne (Or.inl (by decide)), w1_ne (Or.inl (by decide)), w1_eq]
  have ao : ∀ c, (c < 433 ∨ 440 < c) → Ia c = I1 c := fun c h => by rw [← hIa, w1_o (by omega), tsI_o (by omega) (by omega) (by omega) (by omega) (by omega)]
  have abel : ∀ c k, k < e → Ia c k = I1 c k := fun c k hk => by rw [← hIa]; unfold tsI suI; rw [w1_ne (Or.inr (by omega)), w1_ne (Or.inr (by omega)), w1_ne (Or.inr (by omega)), w1_ne (Or.inr (by omega)), w1_ne (Or.inr (by omega)), w1_ne (Or.inr (by omega)), w1_ne (Or.inr (by omega))]
  have fr : FrL 0 I1 Ia e := ⟨fun a ha => ao a (by omega), fun c _ _ k hk => abel c k hk, by rw [ao 441 (by decide)], fun z => by omega, fun z => by omega, fun z => by omega⟩
  obtain ⟨I2, b1, b2, b3⟩ := hL (j + 1) Ia (CdM_f hC fr.1) ((phM_f fr.1).trans hφ) (by omega) ⟨(popN_Fr fr).trans hpop, a440, fun _ => ⟨a437, a438⟩, fun _ => a436, fun z => by omega⟩ hf hT
  have b2' : tv I2 e = (Q (j + 1)).2.2.2 φ := b2
  have b33 := (b1.2.2.2.1 (by decide)).1.trans a433
  have b34 := (b1.2.2.2.1 (by decide)).2.trans a434
  refine ⟨I2, FrL_t fr (FrL_m b1 (by decide)), ?_, ?_⟩
  · show kv I2 e = jo _ (kv I1 e) _
    generalize kv I1 e = aa at *
    have ek2 : kv I2 e = kv1 (I2 434 e) (I2 433 e) (tv I2 e) := rfl
    rw [ek2, b34, b33, b2', ej]
    unfold kv1
    rcases hb with rfl | rfl
    · rw [if_pos rfl, if_neg (by decide), jo6]
    · rw [if_neg (by decide), if_pos rfl, if_pos rfl, jo7]
  · rw [show j + 1 - le = j - le + 1 by omega] at b3; exact es_t es b3
theorem n0a {x : Int32} : nI 0 + x = x := by
  have h := Int32.zero_add x
  exact h
theorem m_ev : ∀ F,
    (∀ dep i I, dep ≤ 5 → CdM I g n le z → phM I = φ → le ≤ i → (pE g n F 4 dep i).2.1 = 0 → (pE g n F 4 dep i).1 ≤ le + z → ∃ I', (fE I I' ∧ (∀ c, 433 ≤ c → c ≤ 441 → ∀ k, k < popN (I 441) dep → I' c k = I c k) ∧ (∀ c, 433 ≤ c → c ≤ 441 → c ≠ 439 → I' c (popN (I 441) dep) = I c (popN (I 441) dep)) ∧ I' 439 (popN (I 441) dep) = (if I 440 (popN (I 441) dep) = nI 0 then nvl (I 441) dep ((pE g n F 4 dep i).2.2.2 φ) else I 439 (popN (I 441) dep) * nvl (I 441) dep ((pE g n F 4 dep i).2.2.2 φ))) ∧ Es L xs d J R Z I I' dep (popN (I 441) dep) (i - le) ((pE g n F 4 dep i).1 - le)) ∧
    (∀ lv dep i I, lv ≤ 3 → dep ≤ 5 → CdM I g n le z → phM I = φ → le ≤ i → PreL lv I dep → (pE g n F lv dep i).2.1 = 0 → (pE g n F lv dep i).1 ≤ le + z → ∃ I', FrL lv I I' dep ∧ vaL lv I' dep = (pE g n F lv dep i).2.2.2 φ ∧ Es L xs d J R Z I I' dep dep (i - le) ((pE g n F lv dep i).1 - le)) := by
  intro F
  induction F with
  | zero => exact ⟨fun dep i I _ _ _ _ h => absurd h (by show 1 + 16 * bg g n i ≠ 0; omega), fun lv dep i I _ _ _ _ _ _ h => absurd h (by show 1 + 16 * bg g n i ≠ 0; omega)⟩
  | succ F ih =>
    refine ⟨fun dep i I hdep hC hφ hle hf hT => ?_, fun lv dep i I hlv hdep hC hφ hle hP hf hT => ?_⟩
    · have e4 : pE g n (F + 1) 4 dep i = prtE g n (pE g n F 0) (pE g n F 4) dep i := by rw [pE, if_pos (Nat.le_refl 4)]
      rw [e4] at hf hT ⊢
      unfold prtE at hf hT ⊢
      by_cases hno : kd g n i ≠ 2 ∧ isFc g n i = false ∧ wd g n i ≠ 7 ∧ isSgn g n 40 i = false
      · rw [if_pos hno] at hf; exact absurd hf (by show 1 + 16 * bg g n i ≠ 0; omega)
      · rw [if_neg hno] at hf hT ⊢
        by_cases h5 : 5 ≤ dep
        · rw [if_pos h5] at hf; exact absurd hf (by show 5 + 16 * bg g n i ≠ 0; omega)
        · rw [if_neg h5] at hf hT ⊢
          have hil : le + (i - le) = i := by omega
          have htr : ∀ v, (fE I (trI I (popN (I 441) dep) v) ∧ (∀ c, 433 ≤ c → c ≤ 441 → ∀ k, k < popN (I 441) dep → trI I (popN (I 441) dep) v c k = I c k) ∧ (∀ c, 433 ≤ c → c ≤ 441 → c ≠ 439 → trI I (popN (I 441) dep) v c (popN (I 441) dep) = I c (popN (I 441) dep)) ∧ trI I (popN (I 441) dep) v 439 (popN (I 441) dep) = (if I 440 (popN (I 441) dep) = nI 0 then v else I 439 (popN (I 441) dep) * v)) := fun v => ⟨fE_tr, fun c _ _ k hk => w1_ne (Or.inr (by omega)), fun c _ _ hc => w1_ne (Or.inl hc), w1_eq⟩
          by_cases q1 : kd g n i = 2
          · rw [if_pos q1] at hf hT ⊢
            dsimp only at hT ⊢
            have es := e_opd (L := L) (xs := xs) (d := d) (J := J) (R := R) (Z := Z) (k := i - le) (v := nI (vl g n i)) hC (by omega) hdep (Or.inl (by rw [hil]; exact q1)) (by rw [hil, if_pos q1])
            rw [show i + 1 - le = i - le + 1 by omega]
            exact ⟨_, htr _, es⟩
          · rw [if_neg q1] at hf hT ⊢
            by_cases q2 : isFc g n i = true
            · rw [if_pos q2] at hf hT ⊢
              dsimp only at hT ⊢
              have es := e_opd (L := L) (xs := xs) (d := d) (J := J) (R := R) (Z := Z) (k := i - le) (v := φ (wNu (wd g n i))) hC (by omega) hdep (Or.inr (by rw [hil]; exact q2)) (by rw [hil, if_neg q1, hφ])
              rw [show i + 1 - le = i - le + 1 by omega]
              exact ⟨_, htr _, es⟩
            · rw [if_neg q2] at hf hT ⊢
              by_cases q3 : wd g n i = 7
              · rw [if_pos q3] at hf hT ⊢
                dsimp only at hf hT ⊢
                have hge := pE_ge hf
                have em : mcd g n i = 30 := by
                  have e0 : fcN g n i = 0 := by unfold fcN; rw [q3]; rfl
                  unfold mcd; rw [if_neg q1, if_neg (by rw [e0]; decide), if_pos q3]
                have es := e_opn (L := L) (xs := xs) (d := d) (J := J) (R := R) (Z := Z) (b := 1) (k := i - le) (e := dep) hC (by omega) (by omega) (Or.inl ⟨rfl, by rw [hil]; exact em⟩)
                generalize hI1 : opI (w1 I 441 (dep + 1) (nI 1)) (dep + 1) = I1 at es
                have f1 : fE I I1 := by rw [← hI1]; exact fE_t (fE_w (by decide)) fE_op
                have o1 : ∀ c k, k ≤ dep → I1 c k = I c k := fun c k hk => by
                  rw [← hI1]; unfold opI
                  rw [w1_ne (Or.inr (by omega)), w1_ne (Or.inr (by omega)), w1_ne (Or.inr (by omega)), w1_ne (Or.inr (by omega)), w1_ne (Or.inr (by omega)), w1_ne (Or.inr (by omega))]
                have n1 : I1 441 (dep + 1) = nI 1 := by
                  rw [← hI1]; unfold opI
                  rw [w1_ne (Or.inl (by decide)), w1_ne (Or.inl (by decide)), w1_ne (Or.inl (by decide)), w1_ne (Or.inl (by decide)), w1_ne (Or.inl (by decide)), w1_eq]
                obtain ⟨I2, ⟨a1, a2, a3, a4⟩, a5⟩ := ih.1 (dep + 1) (i + 1) I1 (by omega) (CdM_f hC f1) ((phM_f f1).trans hφ) (by omega) hf hT
                have ep : popN (I1 441) (dep + 1) = popN (I 441) dep := by
                  rw [popN, n1, if_pos rfl]
                  exact popN_cg dep (fun k hk => o1 441 k hk)
                have env : ∀ v, nvl (I1 441) (dep + 1) v = nvl (I 441) dep (bI (decide (v = nI 0))) := fun v => by
                  rw [nvl, n1, if_pos rfl]
                  have key : ∀ m v, m ≤ dep → nvl (I1 441) m v = nvl (I 441) m v := by
                    intro m
                    induction m with
                    | zero => intro v _; rfl
                    | succ m ihm => intro v hm; unfold nvl; rw [o1 441 (m + 1) hm]; split; exact ihm _ (by omega); rfl
                  exact key dep _ (Nat.le_refl _)
                have hb := popN_le (f := I 441) dep
                rw [ep] at a2 a3 a4 a5
                rw [env] at a4
                refine ⟨I2, ⟨fE_t f1 a1, fun c x y k hk => (a2 c x y k hk).trans (o1 c k (by omega)), fun c x y hc => (a3 c x y hc).trans (o1 c _ hb), ?_⟩, ?_⟩
                · rw [a4, o1 440 _ hb, o1 439 _ hb]
                · rw [show i + 1 - le = i - le + 1 by omega] at a5
                  exact es_t es a5
              · rw [if_neg q3] at hf hT ⊢
                have q4 : isSgn g n 40 i = true := by
                  cases h : isSgn g n 40 i
                  · exact absurd ⟨q1, Bool.eq_false_iff.mpr q2, q3, h⟩ hno
                  · rfl
                dsimp only at hf hT ⊢
                obtain ⟨t1, t2, t3⟩ := tkS_i hf
                rw [t3] at hT ⊢
                dsimp only at t1 t2 hT ⊢
                have hge := pE_ge t1
                have em : mcd g n i = 28 := mc_sg q4
                have es := e_opn (L := L) (xs := xs) (d := d) (J := J) (R := R) (Z := Z) (b := 0) (k := i - le) (e := dep) hC (by omega) (by omega) (Or.inr ⟨rfl, by rw [hil]; exact em⟩)
                generalize hI1 : opI (w1 I 441 (dep + 1) (nI 0)) (dep + 1) = I1 at es
                have f1 : fE I I1 := by rw [← hI1]; exact fE_t (fE_w (by decide)) fE_op
                have o1 : ∀ c k, k ≤ dep → I1 c k = I c k := fun c k hk => by
                  rw [← hI1]; unfold opI
                  rw [w1_ne (Or.inr (by omega)), w1_ne (Or.inr (by omega)), w1_ne (Or.inr (by omega)), w1_ne (Or.inr (by omega)), w1_ne (Or.inr (by omega)), w1_ne (Or.inr (by omega))]
                have n1 : I1 441 (dep + 1) = nI 0 := by
                  rw [← hI1]; unfold opI
                  rw [w1_ne (Or.inl (by decide)), w1_ne (Or.inl (by decide)), w1_ne (Or.inl (by decide)), w1_ne (Or.inl (by decide)), w1_ne (Or.inl (by decide)), w1_eq]
                have hP1 : PreL 0 I1 (dep + 1) := by
                  refine ⟨by rw [popN, n1, if_neg (by decide)], ?_, fun _ => ⟨?_, ?_⟩, fun _ => ?_, fun _ => ?_⟩ <;> rw [← hI1] <;> unfold opI
                  · rw [w1_eq]
                  · rw [w1_ne (Or.inl (by decide)), w1_ne (Or.inl (by decide)), w1_eq]
                  · rw [w1_ne (Or.inl (by decide)), w1_eq]
                  · rw [w1_ne (Or.inl (by decide)), w1_ne (Or.inl (by decide)), w1_ne (Or.inl (by decide)), w1_eq]
                  · rw [w1_ne (Or.inl (by decide)), w1_ne (Or.inl (by decide)), w1_ne (Or.inl (by decide)), w1_ne (Or.inl (by decide)), w1_eq]
                obtain ⟨I2, b1, b2, b3⟩ := ih.2 0 (dep + 1) (i + 1) I1 (by decide) (by omega) (CdM_f hC f1) ((phM_f f1).trans hφ) (by omega) hP1 t1 (by omega)
                have hC2 := CdM_f (CdM_f hC f1) b1.1
                have em2 : mcd g n (pE g n F 0 (dep + 1) (i + 1)).1 = 29 := mc_sg t2
                have es2 := e_cls (L := L) (xs := xs) (d := d) (J := J) (R := R) (Z := Z) (k := (pE g n F 0 (dep + 1) (i + 1)).1 - le) (e := dep) hC2 (by omega) (by omega) (by rw [show le + ((pE g n F 0 (dep + 1) (i + 1)).1 - le) = (pE g n F 0 (dep + 1) (i + 1)).1 by omega]; exact em2)
                have o2 : ∀ c, 433 ≤ c → c ≤ 441 → ∀ k, k ≤ dep → I2 c k = I c k := fun c x y k hk => (b1.2.1 c x y k (by omega)).trans (o1 c k hk)
                have ep : popN (I2 441) dep = popN (I 441) dep := popN_cg dep (fun k hk => o2 441 (by decide) (by decide) k hk)
                have env : ∀ v, nvl (I2 441) dep v = nvl (I 441) dep v := fun v => by
                  have key : ∀ m v, m ≤ dep → nvl (I2 441) m v = nvl (I 441) m v := by
                    intro m
                    induction m with
                    | zero => intro v _; rfl
                    | succ m ihm => intro v hm; unfold nvl; rw [o2 441 (by decide) (by decide) (m + 1) hm]; split; exact ihm _ (by omega); rfl
                  exact key dep _ (Nat.le_refl _)
                have hvv : kv I2 (dep + 1) = (pE g n F 0 (dep + 1) (i + 1)).2.2.2 φ := b2
                rw [ep, env, hvv] at es2
                have hb := popN_le (f := I 441) dep
                have ots : ∀ c k, k ≤ dep → tsI I2 (dep + 1) c k = I2 c k := fun c k hk => by
                  unfold tsI suI
                  rw [w1_ne (Or.inr (by omega)), w1_ne (Or.inr (by omega)), w1_ne (Or.inr (by omega)), w1_ne (Or.inr (by omega)), w1_ne (Or.inr (by omega)), w1_ne (Or.inr (by omega))]
                refine ⟨trI (tsI I2 (dep + 1)) (popN (I 441) dep) (nvl (I 441) dep ((pE g n F 0 (dep + 1) (i + 1)).2.2.2 φ)), ⟨fE_t f1 (fE_t b1.1 (fE_t fE_ts fE_tr)), fun c x y k hk => ?_, fun c x y hc => ?_, ?_⟩, ?_⟩
                · exact (w1_ne (Or.inr (by omega))).trans ((ots c k (by omega)).trans (o2 c x y k (by omega)))
                · exact (w1_ne (Or.inl hc)).trans ((ots c _ hb).trans (o2 c x y _ hb))
                · refine w1_eq.trans ?_
                  rw [ots 440 _ hb, ots 439 _ hb, o2 440 (by decide) (by decide) _ hb, o2 439 (by decide) (by decide) _ hb]
                · rw [show i + 1 - le = i - le + 1 by omega] at b3
                  rw [show (pE g n F 0 (dep + 1) (i + 1)).1 + 1 - le = (pE g n F 0 (dep + 1) (i + 1)).1 - le + 1 by omega]
                  exact es_t es (es_t b3 es2)
    · have e35 : pE g n (F + 1) lv dep i = lpE g n lv (pE g n F (lv + 1) dep) (rou lv) (pE g n F (lv + 1) dep i) := by
        rw [pE, if_neg (by omega)]
      rw [e35] at hf hT ⊢
      have hQ : ∀ i, (pE g n F (lv + 1) dep i).2.1 = 0 → i ≤ (pE g n F (lv + 1) dep i).1 := fun i h => pE_ge h
      have hf0 := lpE_0 _ _ hf
      have hge := lpE_ge hQ _ _ hf
      have hq0 := hQ i hf0
      obtain ⟨p1, p2, p3, p4, p5⟩ := hP
      have part : ∀ i I, CdM I g n le z → phM I = φ → le ≤ i → popN (I 441) dep = dep → (pE g n F 4 dep i).2.1 = 0 → (pE g n F 4 dep i).1 ≤ le + z → ∃ I', FrL 3 I I' dep ∧ I' 439 dep = (if I 440 dep = nI 0 then (pE g n F 4 dep i).2.2.2 φ else I 439 dep * (pE g n F 4 dep i).2.2.2 φ) ∧ Es L xs d J R Z I I' dep dep (i - le) ((pE g n F 4 dep i).1 - le) := by
        intro i I hC hφ hle hpop hf hT
        obtain ⟨I2, ⟨a1, a2, a3, a4⟩, a5⟩ := ih.1 dep i I hdep hC hφ hle hf hT
        rw [hpop] at a2 a3 a4 a5
        rw [nvl_id dep hpop] at a4
        exact ⟨I2, ⟨a1, a2, a3 441 (by decide) (by decide) (by decide), fun _ => ⟨a3 433 (by decide) (by decide) (by decide), a3 434 (by decide) (by decide) (by decide)⟩, fun _ => ⟨a3 435 (by decide) (by decide) (by decide), a3 436 (by decide) (by decide) (by decide)⟩, fun _ => ⟨a3 437 (by decide) (by decide) (by decide), a3 438 (by decide) (by decide) (by decide)⟩⟩, a4, a5⟩
      have fin : ∀ I1, FrL lv I I1 dep → vaL lv I1 dep = (pE g n F (lv + 1) dep i).2.2.2 φ → (lv = 1 → I1 436 dep = nI 0) → Es L xs d J R Z I I1 dep dep (i - le) ((pE g n F (lv + 1) dep i).1 - le) → StepE L xs d J R Z g n le z dep lv φ (pE g n F (lv + 1) dep) → ∃ I', FrL lv I I' dep ∧ vaL lv I' dep = (lpE g n lv (pE g n F (lv + 1) dep) (rou lv) (pE g n F (lv + 1) dep i)).2.2.2 φ ∧ Es L xs d J R Z I I' dep dep (i - le) ((lpE g n lv (pE g n F (lv + 1) dep) (rou lv) (pE g n F (lv + 1) dep i)).1 - le) := by
        intro I1 b1 b2 b36 b3 hS
        obtain ⟨I2, c1, c2, c3⟩ := e_loop hS hQ (rou lv) (pE g n F (lv + 1) dep i) I1 (CdM_f hC b1.1) ((phM_f b1.1).trans hφ) (by omega) ((popN_Fr b1).trans p1) (fun z => Or.inr ⟨by rw [z]; rfl, b36 z⟩) b2 hf hT
        exact ⟨I2, FrL_t b1 c1, c2, es_t b3 c3⟩
      have hcase : lv = 0 ∨ lv = 1 ∨ lv = 2 ∨ lv = 3 := by omega
      rcases hcase with rfl | rfl | rfl | rfl
      · have sub : LevE L xs d J R Z g n le z dep 1 φ (pE g n F (0 + 1) dep) := fun i I a1 a2 a3 a4 a5 a6 => ih.2 1 dep i I (by decide) hdep a1 a2 a3 a4 a5 a6
        obtain ⟨I1, b1, b2, b3⟩ := sub i I hC hφ hle ⟨p1, p2, fun _ => p3 (by decide), fun _ => p4 (by decide), fun z => by omega⟩ hf0 (by omega)
        refine fin I1 (FrL_m b1 (by decide)) ?_ (fun z => by omega) b3 (step0 hdep hQ sub)
        show kv I1 dep = _
        have b34 := (b1.2.2.2.1 (by decide)).2.trans (p5 rfl)
        unfold kv kv1
        rw [b34, if_neg (by decide), if_neg (by decide)]
        exact b2
      · have sub : LevE L xs d J R Z g n le z dep 2 φ (pE g n F (1 + 1) dep) := fun i I a1 a2 a3 a4 a5 a6 => ih.2 2 dep i I (by decide) hdep a1 a2 a3 a4 a5 a6
        obtain ⟨I1, b1, b2, b3⟩ := sub i I hC hφ hle ⟨p1, p2, fun _ => p3 (by decide), fun z => by omega, fun z => by omega⟩ hf0 (by omega)
        have b36 := (b1.2.2.2.2.1 (by decide)).2.trans (p4 (by decide))
        refine fin I1 (FrL_m b1 (by decide)) ?_ (fun _ => b36) b3 (step1 hdep hQ sub)
        show tv I1 dep = _
        unfold tv cv1
        rw [b36, if_neg (by decide), if_neg (by decide)]
        exact b2
      · have sub : LevE L xs d J R Z g n le z dep 3 φ (pE g n F (2 + 1) dep) := fun i I a1 a2 a3 a4 a5 a6 => ih.2 3 dep i I (by decide) hdep a1 a2 a3 a4 a5 a6
        obtain ⟨I1, b1, b2, b3⟩ := sub i I hC hφ hle ⟨p1, p2, fun z => by omega, fun z => by omega, fun z => by omega⟩ hf0 (by omega)
        have q3 := p3 (by decide)
        have b37 := (b1.2.2.2.2.2 (by decide)).1.trans q3.1
        have b38 := (b1.2.2.2.2.2 (by decide)).2.trans q3.2
        refine fin I1 (FrL_m b1 (by decide)) ?_ (fun z => by omega) b3 (step2 hdep hQ sub)
        show sv I1 dep = _
        unfold sv
        rw [b38, b37, if_neg (by decide), n0a]
        exact b2
      · have sub : ParE L xs d J R Z g n le z dep φ (pE g n F (3 + 1) dep) := fun i I a1 a2 a3 a4 a5 a6 => part i I a1 a2 a3 a4 a5 a6
        obtain ⟨I1, b1, b2, b3⟩ := sub i I hC hφ hle p1 hf0 (by omega)
        rw [p2, if_pos rfl] at b2
        exact fin I1 b1 b2 (fun z => by omega) b3 (step3 hdep hQ sub)
end N2
