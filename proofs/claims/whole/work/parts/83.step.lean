/-! THE STEPS, as one function of how all is (V) and of the group (G j is the row of the cell 76 + j) -/
abbrev Gv : Type := Nat → Nat → Int32
def gI (I : Mi) : Gv := fun j => I (76 + j)
def gN (G : Gv) : Nat := (G 0 0).toNatClampNeg
def gM (G : Gv) : Nat := (G 0 2).toNatClampNeg
def gL (G : Gv) (c : Nat) : Nat := (G 4 c).toNatClampNeg
def gK (G : Gv) (c : Nat) : Nat := (G 2 c).toNatClampNeg
def okG (G : Gv) : Prop := (G 0 0 = nI (gN G) ∧ gN G ≤ 5) ∧ (G 0 2 = nI (gM G) ∧ gM G ≤ 8) ∧ (∀ c, c < gM G → G 4 c = nI (gL G c) ∧ gL G c < gN G) ∧ (∀ c, c < gM G → G 2 c = nI (gK G c) ∧ gK G c < 4)
def hst (V : Vw) (c : Nat) : Nat := (V 9 c).toNatClampNeg
/-- what the steps ask of V -/
def okS (G : Gv) (V : Vw) : Prop := sm (V 0 0) ∧ sm (V 0 1) ∧ (∀ c, c < gM G → sm (V 10 c) ∧ sm (V 11 c)) ∧ (∀ c, c < gM G → V 9 c = nI (hst V c) ∧ hst V c < gN G) ∧ (∀ r, r < 5 → okn V r)
def s3 (V : Vw) (q : Nat) (x y z : Int32) : Vw := st (st (st V 1 (upd (V 1) q x)) 3 (upd (V 3) q y)) 4 (upd (V 4) q z)
def stP (G : Gv) (V : Vw) (c : Nat) : Int32 × Vw := (fun l => (fun m => if (tb (V 0 0) l && unt (V 1) (V 2) (8 * l + c)) = true then (bhd (V 3) (gM G) l m, st (s3 V (8 * l + c) (nI 1) (bhd (V 3) (gM G) l m) m) 10 (upd (V 10) c (sg l))) else (-1, V)) (met (V 1) (G 5 c) (V 0 1) l)) (gL G c)
def stA (G : Gv) (V : Vw) (c r : Nat) : Int32 × Vw := (fun l => (fun m => (fun sq dp => if (askd (V 0 0) (V 1) (V 2) l c && (decide (r ≠ l) && (tb (V 0 0) r && unt (V 1) (V 2) (8 * r + c)))) = true then (bI (decide (V 3 (8 * l + c) = sq) && decide (V 4 (8 * l + c) = dp)), st (s3 V (8 * r + c) (nI 1) sq dp) 10 (upd (V 10) c (V 10 c ||| sg r))) else (-1, V)) (mx (V 3 (8 * l + c)) (bhd (V 3) (gM G) r m)) (V 4 (8 * l + c) ||| m)) (met (V 1) (G 5 c) (V 0 1) r)) (gL G c)
def stD (G : Gv) (V : Vw) (c : Nat) : Int32 × Vw := (fun l => if (askd (V 0 0) (V 1) (V 2) l c && decide (mst (gN G) ≤ pcn (V 10 c))) = true then (if atOnce (gN G) (V 3) (V 4) (V 10 c) l c = true then (nI 1, st V 1 (upd (V 1) (8 * l + c) (nI 3))) else (nI 0, st (s3 V (8 * l + c) (nI 2) (usq (V 3) c (V 10 c)) (udp (V 4) c (V 10 c))) 11 (upd (V 11) c (sg l)))) else (-1, V)) (gL G c)
def stC (V : Vw) (c r : Nat) : Int32 × Vw := (fun h => if (accd (V 0 0) (V 1) h c && (tb (V 0 0) r && (decide (V 1 (8 * r + c) < nI 3) && (decide (V 2 (8 * r + c) ≤ V 2 (8 * h + c)) && !tb (V 11 c) r)))) = true then (nI (pcn (V 11 c ||| sg r)), st (st (s3 V (8 * r + c) (nI 2) (V 3 (8 * h + c)) (V 4 (8 * h + c))) 2 (upd (V 2) (8 * r + c) (V 2 (8 * h + c)))) 11 (upd (V 11) c (V 11 c ||| sg r))) else (-1, V)) (hst V c)
def stS (G : Gv) (V : Vw) (c : Nat) : Int32 × Vw := (fun h => if (accd (V 0 0) (V 1) h c && decide (mst (gN G) ≤ pcn (V 11 c))) = true then (nI 1, st V 1 (upd (V 1) (8 * h + c) (nI 3))) else (-1, V)) (hst V c)
def stT (V : Vw) (c r : Nat) : Int32 × Vw := match ff 8 (tb (rW (V 1) c (nI 3) (nI 4) &&& V 0 0)) with
  | some t => if (tb (V 0 0) r && decide (V 1 (8 * r + c) < nI 3)) = true then (nI 1, s3 V (8 * r + c) (nI 3) (V 3 (8 * t + c)) (V 4 (8 * t + c))) else (-1, V)
  | none => (-1, V)
def fdV (G : Gv) (V : Vw) (am : Int32) (c : Nat) : Nat × Int32 × Int32 := fnd (gN G) (gM G) (V 1) (V 2) (V 3) (V 4) (G 5 c) (V 0 1) (gL G c) am c
def stR (G : Gv) (V : Vw) (c r : Nat) : Int32 × Vw := if canRec (gN G) (V 0 0) (V 1) r c = true then (fun z : Nat × Int32 × Int32 => (nI z.1, s3 (st (st (st (st V 2 (stb (gN G) (V 0 0) (mxb (gN G) (V 0 0) (V 2) c + nI 1) c (V 2))) 9 (upd (V 9) c (nI r))) 10 (upd (V 10) c (nI 0))) 11 (upd (V 11) c (if z.1 = 4 then nI 0 else sg r))) (8 * r + c) (if z.1 = 4 then nI 3 else nI 2) z.2.1 z.2.2)) (fdV G V (V 0 0) c) else (-1, V)
def runV (G : Gv) (V : Vw) (r : Nat) : Vw := (rps (G 1) (G 3) (gK G) (gM G) r 8 (V, nI 0, z0)).1
def stX (G : Gv) (V : Vw) (r : Nat) : Int32 × Vw := if tb (V 0 0) r = true then (runV G V r 7 r - V 7 r, runV G V r) else (-1, V)
def stU (V : Vw) (r : Nat) (b : Bool) : Int32 × Vw := if tb (V 0 0) r = b then (nI 1, st V 0 (upd (V 0) 0 (V 0 0 ^^^ sg r))) else (-1, V)
def stL (G : Gv) (V : Vw) : Int32 × Vw := (fun cl => (nI (pcn (cl &&& (V 0 1 ^^^ (-1)))), st (st V 0 (upd (V 0) 1 cl)) 4 (lp (fun k f => upd f k (f k &&& (cl ^^^ (-1)))) 40 (V 4)))) (clnd (gM G) (gN G) (G 4) (V 1) (V 0 1))
def stp (G : Gv) (V : Vw) (w c r : Nat) : Int32 × Vw := match w with
  | 0 => stP G V c
  | 1 => stA G V c r
  | 2 => stD G V c
  | 3 => stC V c r
  | 4 => stS G V c
  | 5 => stT V c r
  | 6 => stR G V c r
  | 7 => stX G V r
  | 8 => stU V r true
  | 9 => stU V r false
  | _ => stL G V
/-- all but what the class keeps for its own use while it works -/
def scE (I I' : Mi) : Prop := (∀ a, a ≠ 126 → a ≠ 127 → a ≠ 128 → I' a = I a) ∧ ∀ k, 8 ≤ k → I' 127 k = nI 0
theorem scE_r {I : Mi} (h : ∀ k, 8 ≤ k → I 127 k = nI 0) : scE I I := ⟨fun _ _ _ _ => rfl, h⟩
theorem scE_t {I I' I'' : Mi} (h : scE I I') (h' : scE I' I'') : scE I I'' := ⟨fun a h1 h2 h3 => (h'.1 a h1 h2 h3).trans (h.1 a h1 h2 h3), h'.2⟩
theorem scE_g {I I' : Mi} (h : scE I I') : ∀ j, j < 7 → gI I' j = gI I j := fun j hj => h.1 (76 + j) (by omega) (by omega) (by omega)
section K11
variable {L : Nat} {xs : Nat → Int32} {d : Nat} {P : Option Value → Hp → Prop} {I : Mi} {J : Mj} {R : Mr} {Z : Mz} {s r c k N M : Nat} {x y : Int32} {V : Vw} {kd va : Nat → Int32} {ky : Nat → Nat}
theorem lk0_can {com dn : Int32} {f4 f : Nat → Int32} (h : ∀ k, 8 ≤ k → f k = nI 0) : lk0 com dn f4 r f = fun c => if c < 8 then (if tb com c = true then f4 (8 * r + c) &&& (dn ^^^ (-1)) else nI 0) else nI 0 := by
  have key : ∀ n, n ≤ 8 → lp (fun c f => upd f c (if tb com c = true then f4 (8 * r + c) &&& (dn ^^^ (-1)) else nI 0)) n f = fun c => if c < n then (if tb com c = true then f4 (8 * r + c) &&& (dn ^^^ (-1)) else nI 0) else f c := by
    intro n
    induction n with
    | zero => intro _; funext c; simp [lp]
    | succ n ih =>
      intro hn
      show upd (lp _ n f) n _ = _
      rw [ih (by omega)]; funext c; unfold upd
      by_cases h1 : c = n
      · simp [h1]
      · by_cases h2 : c < n
        · simp [h1, h2, show c < n + 1 by omega]
        · simp [h1, h2, show ¬ c < n + 1 by omega]
  unfold lk0
  rw [key 8 (Nat.le_refl 8)]
  funext c
  by_cases h2 : c < 8
  · simp [h2]
  · simp [h2, h c (by omega)]
theorem ws1_can {b : Nat} {f : Nat → Int32} (h : ∀ k, 8 ≤ k → f k = nI 0) : ∀ k, 8 ≤ k → ws1 b f k = nI 0 := by
  have key : ∀ n, n ≤ 8 → ∀ k, 8 ≤ k → lp (fun c f => if tb (f c) b = true then upd f c (f c ||| f b) else f) n f k = nI 0 := by
    intro n
    induction n with
    | zero => intro _; exact h
    | succ n ih =>
      intro hn k hk
      show (if tb (lp _ n f n) b = true then upd (lp _ n f) n _ else lp _ n f) k = nI 0
      split
      · rw [upd_ne (by omega)]; exact ih (by omega) k hk
      · exact ih (by omega) k hk
  exact key 8 (Nat.le_refl 8)
theorem wsh_can {f : Nat → Int32} (h : ∀ k, 8 ≤ k → f k = nI 0) : ∀ k, 8 ≤ k → wsh f k = nI 0 := by
  have key : ∀ n, ∀ k, 8 ≤ k → lp ws1 n f k = nI 0 := by
    intro n
    induction n with
    | zero => exact h
    | succ n ih => exact ws1_can ih
  exact key 8
theorem lns_can {f1 f4 f : Nat → Int32} (h : ∀ k, 8 ≤ k → f k = nI 0) : lns f1 f4 r f = lns f1 f4 r z0 ∧ ∀ k, 8 ≤ k → lns f1 f4 r f k = nI 0 := by
  unfold lns
  have e : lk0 (cAt f1 r (nI 3) (nI 3)) (cAt f1 r (nI 4) (nI 4)) f4 r f = lk0 (cAt f1 r (nI 3) (nI 3)) (cAt f1 r (nI 4) (nI 4)) f4 r z0 := by
    rw [lk0_can h, lk0_can (f := z0) (fun _ _ => rfl)]
  refine ⟨by rw [e], wsh_can ?_⟩
  rw [lk0_can h]
  intro k hk
  simp [show ¬ k < 8 by omega]
theorem rps_can : ∀ (k : Nat) (q : Tq), (∀ k, 8 ≤ k → q.2.2 k = nI 0) → (rps kd va ky M r k q).1 = (rps kd va ky M r k (q.1, nI 0, z0)).1 ∧ ∀ j, 8 ≤ j → (rps kd va ky M r k q).2.2 j = nI 0
  | 0, q, h => ⟨rfl, h⟩
  | k + 1, q, h => by
    have e := lns_can (r := r) (f1 := q.1 1) (f4 := q.1 4) h
    rw [rps_s, rps_s]
    dsimp only
    rw [e.1]
    have e2 := (lns_can (r := r) (f1 := q.1 1) (f4 := q.1 4) (f := z0) (fun _ _ => rfl)).2
    split
    · exact ⟨rfl, e2⟩
    · rename_i c hc
      exact ⟨rfl, (rps_can k _ e2).2⟩
theorem vw_ps : vw (putS I s V) s = fun j => if j < 12 then V j else I (s + j) := by
  funext j; unfold vw putS
  by_cases h : j < 12
  · rw [if_pos (by omega), if_pos h, show s + j - s = j by omega]
  · rw [if_neg (by omega), if_neg h]
theorem fsd_ps {a b : Int32} (h : s + 12 ≤ 128 ∨ 128 < s) : fsd (putS I s V) a b = putS (fsd I a b) s V := by
  unfold fsd; rw [ps_ne (by omega), st_psne (by omega)]
theorem fsd_scE {a b : Int32} (h : ∀ k, 8 ≤ k → I 127 k = nI 0) : scE I (fsd I a b) := ⟨fun q h1 h2 h3 => fsd_ne h3, fun k hk => by rw [fsd_ne (by decide)]; exact h k hk⟩
theorem lkI_scE {a : Int32} {f : Nat → Int32} (h : ∀ k, 8 ≤ k → f k = nI 0) : scE I (lkI I a f) := ⟨fun q h1 h2 h3 => lkI_ne h1 h2, fun k hk => by rw [lkI_7]; exact h k hk⟩
def stpS (L : Nat) (xs : Nat → Int32) (d : Nat) (I : Mi) (J : Mj) (R : Mr) (Z : Mz) (s : Nat) (V : Vw) (w c r : Nat) : Prop := ∃ I', scE I I' ∧ ∀ P, Wp L xs (d+5) 50 0 [some (.ref (128)), some (.ref (s)), some (.int (nI w)), some (.int (nI c)), some (.int (nI r))] [] (mk (putS I s V) J R Z) P = P (some (.int (stp (gI I) V w c r).1)) (mk (putS I' s (stp (gI I) V w c r).2) J R Z)
theorem k_step0 (hs : isS s) (hG : okG (gI I)) (hS : okS (gI I) V) (hl : ∀ k, 8 ≤ k → I 127 k = nI 0) (hc : c < gM (gI I)) : stpS L xs d I J R Z s V 0 c r := by
  have hs1 := hs.1
  have hM := hG.2.1.2
  have hN := hG.1.2
  have hc8 : c < 8 := by omega
  have eN : putS I s V 76 0 = nI (gN (gI I)) := by rw [ps_ne (by omega)]; exact hG.1.1
  have eM : putS I s V 76 2 = nI (gM (gI I)) := by rw [ps_ne (by omega)]; exact hG.2.1.1
  have eL : putS I s V 80 c = nI (gL (gI I) c) := by rw [ps_ne (by omega)]; exact (hG.2.2.1 c hc).1
  have hL : gL (gI I) c < 5 := by have := (hG.2.2.1 c hc).2; omega
  have eA : sm (putS I s V (s + 10) c) := by rw [ps_j (by decide)]; exact (hS.2.2.1 c hc).1
  have eB : sm (putS I s V (s + 11) c) := by rw [ps_j (by decide)]; exact (hS.2.2.1 c hc).2
  have eU : sm (putS I s V s 0) := by rw [ps_0]; exact hS.1
  have eC : sm (putS I s V s 1) := by rw [ps_0]; exact hS.2.1
  have eH : putS I s V (s + 9) c = nI (hst V c) := by rw [ps_j (by decide)]; exact (hS.2.2.2.1 c hc).1
  have hH : hst V c < 5 := by have := (hS.2.2.2.1 c hc).2; omega
  refine ⟨I, scE_r hl, fun P => ?_⟩
  have h1 := fun P => k_doPropose (L := L) (xs := xs) (I := putS I s V) (J := J) (R := R) (Z := Z) (P := P) (d := d + 1) hs hc8 eM hM eL hL
  simp (discharger := omega) only [↓w50_0, ↓w50_1, ↓w50_56, ↓w50_57, ↓w50_58, ↓w50_59, ↓w50_62, ↓w50_63, ↓w50_64, ↓w50_65, ↓w50_66, ↓w50_68, ↓w50_71, ↓w50_72, ↓w50_73, ↓w50_74, ↓w50_75, ↓w50_78, ↓w50_79, ↓w50_80, ↓w50_81, ↓w50_82, ↓w50_84, ↓w50_87, ↓w50_88, ↓w50_89, ↓w50_90, ↓w50_91, ↓w50_94, ↓w50_95, ↓w50_96, ↓w50_97, ↓w50_98, ↓w50_100, ↓w50_103, ↓w50_104, ↓w50_105, ↓w50_106, ↓w50_107, ↓w50_109, ↓w50_112, ↓w50_113, ↓w50_114, ↓w50_116, ↓w50_119, ↓w50_122, ↓w50_123, ↓w50_126, ↓w50_127, ↓w50_129, ↓w50_132, ↓w50_135, ↓w50_136, ↓w50_137, ↓w50_138, ↓w50_139, ↓w50_141, ↓w50_142, ↓w50_145, ↓w50_146, ↓w50_147, ↓w50_148, ↓w50_150, ↓w50_151, ↓w50_154, ↓w50_155, ↓w50_156, ↓w50_157, ↓w50_160, ↓h1, ↓kc_i, ↓kc_l, ↓kc_r, ↓kc_n, rc128, g128_0, g128_1, g128_2, p128_2, g128_3, p128_3, ps_0, ps_j, ps_ne, st_ps, st_ps0, st_psne, st_ne, st_eq, st_st, upd_eq, upd_upd, mul8, mul8', mul4, mul4', nI_add, inT, nclN, ltT, ltF, leT, leF, eqT, eqF, nzF, m1F, m1T, shr, shg, bI0, bI1, bo_bI, bo_1, bo_0, eq10, eq00, frT1, frT2, frT3, fit0, fit1, fit2, fit3, true_and, and_true, ↓reduceIte, Nat.reduceAdd, Nat.reduceMul, and_self, not_false_eq_true, not_true_eq_false, Nat.zero_add, Nat.add_zero]
  show _ = P (some (.int (stP (gI I) V c).1)) (mk (putS I s (stP (gI I) V c).2) J R Z)
  unfold stP s3
  dsimp only
  by_cases h : (tb (V 0 0) (gL (gI I) c) && unt (V 1) (V 2) (8 * gL (gI I) c + c)) = true
  · simp only [h, ↓reduceIte, Bool.false_eq_true] <;> rfl
  · simp only [h, ↓reduceIte, Bool.false_eq_true] <;> rfl
theorem k_step1 (hs : isS s) (hG : okG (gI I)) (hS : okS (gI I) V) (hl : ∀ k, 8 ≤ k → I 127 k = nI 0) (hc : c < gM (gI I)) (hr : r < gN (gI I)) : stpS L xs d I J R Z s V 1 c r := by
  have hs1 := hs.1
  have hM := hG.2.1.2
  have hN := hG.1.2
  have hc8 : c < 8 := by omega
  have hr5 : r < 5 := by omega
  have eN : putS I s V 76 0 = nI (gN (gI I)) := by rw [ps_ne (by omega)]; exact hG.1.1
  have eM : putS I s V 76 2 = nI (gM (gI I)) := by rw [ps_ne (by omega)]; exact hG.2.1.1
  have eL : putS I s V 80 c = nI (gL (gI I) c) := by rw [ps_ne (by omega)]; exact (hG.2.2.1 c hc).1
  have hL : gL (gI I) c < 5 := by have := (hG.2.2.1 c hc).2; omega
  have eA : sm (putS I s V (s + 10) c) := by rw [ps_j (by decide)]; exact (hS.2.2.1 c hc).1
  have eB : sm (putS I s V (s + 11) c) := by rw [ps_j (by decide)]; exact (hS.2.2.1 c hc).2
  have eU : sm (putS I s V s 0) := by rw [ps_0]; exact hS.1
  have eC : sm (putS I s V s 1) := by rw [ps_0]; exact hS.2.1
  have eH : putS I s V (s + 9) c = nI (hst V c) := by rw [ps_j (by decide)]; exact (hS.2.2.2.1 c hc).1
  have hH : hst V c < 5 := by have := (hS.2.2.2.1 c hc).2; omega
  refine ⟨I, scE_r hl, fun P => ?_⟩
  have h1 := fun P => k_doAsk (L := L) (xs := xs) (I := putS I s V) (J := J) (R := R) (Z := Z) (P := P) (d := d + 1) hs hc8 hr5 eM hM eL hL
  simp (discharger := omega) only [↓w50_0, ↓w50_1, ↓w50_56, ↓w50_57, ↓w50_58, ↓w50_59, ↓w50_62, ↓w50_63, ↓w50_64, ↓w50_65, ↓w50_66, ↓w50_68, ↓w50_71, ↓w50_72, ↓w50_73, ↓w50_74, ↓w50_75, ↓w50_78, ↓w50_79, ↓w50_80, ↓w50_81, ↓w50_82, ↓w50_84, ↓w50_87, ↓w50_88, ↓w50_89, ↓w50_90, ↓w50_91, ↓w50_94, ↓w50_95, ↓w50_96, ↓w50_97, ↓w50_98, ↓w50_100, ↓w50_103, ↓w50_104, ↓w50_105, ↓w50_106, ↓w50_107, ↓w50_109, ↓w50_112, ↓w50_113, ↓w50_114, ↓w50_116, ↓w50_119, ↓w50_122, ↓w50_123, ↓w50_126, ↓w50_127, ↓w50_129, ↓w50_132, ↓w50_135, ↓w50_136, ↓w50_137, ↓w50_138, ↓w50_139, ↓w50_141, ↓w50_142, ↓w50_145, ↓w50_146, ↓w50_147, ↓w50_148, ↓w50_150, ↓w50_151, ↓w50_154, ↓w50_155, ↓w50_156, ↓w50_157, ↓w50_160, ↓h1, ↓kc_i, ↓kc_l, ↓kc_r, ↓kc_n, rc128, g128_0, g128_1, g128_2, p128_2, g128_3, p128_3, ps_0, ps_j, ps_ne, st_ps, st_ps0, st_psne, st_ne, st_eq, st_st, upd_eq, upd_upd, mul8, mul8', mul4, mul4', nI_add, inT, nclN, ltT, ltF, leT, leF, eqT, eqF, nzF, m1F, m1T, shr, shg, bI0, bI1, bo_bI, bo_1, bo_0, eq10, eq00, frT1, frT2, frT3, fit0, fit1, fit2, fit3, true_and, and_true, ↓reduceIte, Nat.reduceAdd, Nat.reduceMul, and_self, not_false_eq_true, not_true_eq_false, Nat.zero_add, Nat.add_zero]
  show _ = P (some (.int (stA (gI I) V c r).1)) (mk (putS I s (stA (gI I) V c r).2) J R Z)
  unfold stA s3
  dsimp only
  by_cases h : (askd (V 0 0) (V 1) (V 2) (gL (gI I) c) c && (decide (r ≠ gL (gI I) c) && (tb (V 0 0) r && unt (V 1) (V 2) (8 * r + c)))) = true
  · simp only [h, ↓reduceIte, Bool.false_eq_true] <;> rfl
  · simp only [h, ↓reduceIte, Bool.false_eq_true] <;> rfl
theorem k_step2 (hs : isS s) (hG : okG (gI I)) (hS : okS (gI I) V) (hl : ∀ k, 8 ≤ k → I 127 k = nI 0) (hc : c < gM (gI I)) : stpS L xs d I J R Z s V 2 c r := by
  have hs1 := hs.1
  have hM := hG.2.1.2
  have hN := hG.1.2
  have hc8 : c < 8 := by omega
  have eN : putS I s V 76 0 = nI (gN (gI I)) := by rw [ps_ne (by omega)]; exact hG.1.1
  have eM : putS I s V 76 2 = nI (gM (gI I)) := by rw [ps_ne (by omega)]; exact hG.2.1.1
  have eL : putS I s V 80 c = nI (gL (gI I) c) := by rw [ps_ne (by omega)]; exact (hG.2.2.1 c hc).1
  have hL : gL (gI I) c < 5 := by have := (hG.2.2.1 c hc).2; omega
  have eA : sm (putS I s V (s + 10) c) := by rw [ps_j (by decide)]; exact (hS.2.2.1 c hc).1
  have eB : sm (putS I s V (s + 11) c) := by rw [ps_j (by decide)]; exact (hS.2.2.1 c hc).2
  have eU : sm (putS I s V s 0) := by rw [ps_0]; exact hS.1
  have eC : sm (putS I s V s 1) := by rw [ps_0]; exact hS.2.1
  have eH : putS I s V (s + 9) c = nI (hst V c) := by rw [ps_j (by decide)]; exact (hS.2.2.2.1 c hc).1
  have hH : hst V c < 5 := by have := (hS.2.2.2.1 c hc).2; omega
  refine ⟨I, scE_r hl, fun P => ?_⟩
  have h1 := fun P => k_doDecide (L := L) (xs := xs) (I := putS I s V) (J := J) (R := R) (Z := Z) (P := P) (d := d + 1) hs hc8 eN hN eL hL eA
  simp (discharger := omega) only [↓w50_0, ↓w50_1, ↓w50_56, ↓w50_57, ↓w50_58, ↓w50_59, ↓w50_62, ↓w50_63, ↓w50_64, ↓w50_65, ↓w50_66, ↓w50_68, ↓w50_71, ↓w50_72, ↓w50_73, ↓w50_74, ↓w50_75, ↓w50_78, ↓w50_79, ↓w50_80, ↓w50_81, ↓w50_82, ↓w50_84, ↓w50_87, ↓w50_88, ↓w50_89, ↓w50_90, ↓w50_91, ↓w50_94, ↓w50_95, ↓w50_96, ↓w50_97, ↓w50_98, ↓w50_100, ↓w50_103, ↓w50_104, ↓w50_105, ↓w50_106, ↓w50_107, ↓w50_109, ↓w50_112, ↓w50_113, ↓w50_114, ↓w50_116, ↓w50_119, ↓w50_122, ↓w50_123, ↓w50_126, ↓w50_127, ↓w50_129, ↓w50_132, ↓w50_135, ↓w50_136, ↓w50_137, ↓w50_138, ↓w50_139, ↓w50_141, ↓w50_142, ↓w50_145, ↓w50_146, ↓w50_147, ↓w50_148, ↓w50_150, ↓w50_151, ↓w50_154, ↓w50_155, ↓w50_156, ↓w50_157, ↓w50_160, ↓h1, ↓kc_i, ↓kc_l, ↓kc_r, ↓kc_n, rc128, g128_0, g128_1, g128_2, p128_2, g128_3, p128_3, ps_0, ps_j, ps_ne, st_ps, st_ps0, st_psne, st_ne, st_eq, st_st, upd_eq, upd_upd, mul8, mul8', mul4, mul4', nI_add, inT, nclN, ltT, ltF, leT, leF, eqT, eqF, nzF, m1F, m1T, shr, shg, bI0, bI1, bo_bI, bo_1, bo_0, eq10, eq00, frT1, frT2, frT3, fit0, fit1, fit2, fit3, true_and, and_true, ↓reduceIte, Nat.reduceAdd, Nat.reduceMul, and_self, not_false_eq_true, not_true_eq_false, Nat.zero_add, Nat.add_zero]
  show _ = P (some (.int (stD (gI I) V c).1)) (mk (putS I s (stD (gI I) V c).2) J R Z)
  unfold stD s3
  dsimp only
  by_cases h : (askd (V 0 0) (V 1) (V 2) (gL (gI I) c) c && decide (mst (gN (gI I)) ≤ pcn (V 10 c))) = true
  · simp only [h, ↓reduceIte, Bool.false_eq_true]
    by_cases h2 : atOnce (gN (gI I)) (V 3) (V 4) (V 10 c) (gL (gI I) c) c = true
    · simp only [h2, ↓reduceIte, Bool.false_eq_true] <;> rfl
    · simp only [h2, ↓reduceIte, Bool.false_eq_true] <;> rfl
  · simp only [h, ↓reduceIte, Bool.false_eq_true] <;> rfl
theorem k_step3 (hs : isS s) (hG : okG (gI I)) (hS : okS (gI I) V) (hl : ∀ k, 8 ≤ k → I 127 k = nI 0) (hc : c < gM (gI I)) (hr : r < gN (gI I)) : stpS L xs d I J R Z s V 3 c r := by
  have hs1 := hs.1
  have hM := hG.2.1.2
  have hN := hG.1.2
  have hc8 : c < 8 := by omega
  have hr5 : r < 5 := by omega
  have eN : putS I s V 76 0 = nI (gN (gI I)) := by rw [ps_ne (by omega)]; exact hG.1.1
  have eM : putS I s V 76 2 = nI (gM (gI I)) := by rw [ps_ne (by omega)]; exact hG.2.1.1
  have eL : putS I s V 80 c = nI (gL (gI I) c) := by rw [ps_ne (by omega)]; exact (hG.2.2.1 c hc).1
  have hL : gL (gI I) c < 5 := by have := (hG.2.2.1 c hc).2; omega
  have eA : sm (putS I s V (s + 10) c) := by rw [ps_j (by decide)]; exact (hS.2.2.1 c hc).1
  have eB : sm (putS I s V (s + 11) c) := by rw [ps_j (by decide)]; exact (hS.2.2.1 c hc).2
  have eU : sm (putS I s V s 0) := by rw [ps_0]; exact hS.1
  have eC : sm (putS I s V s 1) := by rw [ps_0]; exact hS.2.1
  have eH : putS I s V (s + 9) c = nI (hst V c) := by rw [ps_j (by decide)]; exact (hS.2.2.2.1 c hc).1
  have hH : hst V c < 5 := by have := (hS.2.2.2.1 c hc).2; omega
  refine ⟨I, scE_r hl, fun P => ?_⟩
  have h1 := fun P => k_doAccept (L := L) (xs := xs) (I := putS I s V) (J := J) (R := R) (Z := Z) (P := P) (d := d + 2) hs hc8 hr5 eH hH eB
  simp (discharger := omega) only [↓w50_0, ↓w50_1, ↓w50_56, ↓w50_57, ↓w50_58, ↓w50_59, ↓w50_62, ↓w50_63, ↓w50_64, ↓w50_65, ↓w50_66, ↓w50_68, ↓w50_71, ↓w50_72, ↓w50_73, ↓w50_74, ↓w50_75, ↓w50_78, ↓w50_79, ↓w50_80, ↓w50_81, ↓w50_82, ↓w50_84, ↓w50_87, ↓w50_88, ↓w50_89, ↓w50_90, ↓w50_91, ↓w50_94, ↓w50_95, ↓w50_96, ↓w50_97, ↓w50_98, ↓w50_100, ↓w50_103, ↓w50_104, ↓w50_105, ↓w50_106, ↓w50_107, ↓w50_109, ↓w50_112, ↓w50_113, ↓w50_114, ↓w50_116, ↓w50_119, ↓w50_122, ↓w50_123, ↓w50_126, ↓w50_127, ↓w50_129, ↓w50_132, ↓w50_135, ↓w50_136, ↓w50_137, ↓w50_138, ↓w50_139, ↓w50_141, ↓w50_142, ↓w50_145, ↓w50_146, ↓w50_147, ↓w50_148, ↓w50_150, ↓w50_151, ↓w50_154, ↓w50_155, ↓w50_156, ↓w50_157, ↓w50_160, ↓h1, ↓kc_i, ↓kc_l, ↓kc_r, ↓kc_n, rc128, g128_0, g128_1, g128_2, p128_2, g128_3, p128_3, ps_0, ps_j, ps_ne, st_ps, st_ps0, st_psne, st_ne, st_eq, st_st, upd_eq, upd_upd, mul8, mul8', mul4, mul4', nI_add, inT, nclN, ltT, ltF, leT, leF, eqT, eqF, nzF, m1F, m1T, shr, shg, bI0, bI1, bo_bI, bo_1, bo_0, eq10, eq00, frT1, frT2, frT3, fit0, fit1, fit2, fit3, true_and, and_true, ↓reduceIte, Nat.reduceAdd, Nat.reduceMul, and_self, not_false_eq_true, not_true_eq_false, Nat.zero_add, Nat.add_zero]
  show _ = P (some (.int (stC V c r).1)) (mk (putS I s (stC V c r).2) J R Z)
  unfold stC s3
  dsimp only
  by_cases h : (accd (V 0 0) (V 1) (hst V c) c && (tb (V 0 0) r && (decide (V 1 (8 * r + c) < nI 3) && (decide (V 2 (8 * r + c) ≤ V 2 (8 * hst V c + c)) && !tb (V 11 c) r)))) = true
  · simp only [h, ↓reduceIte, Bool.false_eq_true] <;> rfl
  · simp only [h, ↓reduceIte, Bool.false_eq_true] <;> rfl
theorem k_step4 (hs : isS s) (hG : okG (gI I)) (hS : okS (gI I) V) (hl : ∀ k, 8 ≤ k → I 127 k = nI 0) (hc : c < gM (gI I)) : stpS L xs d I J R Z s V 4 c r := by
  have hs1 := hs.1
  have hM := hG.2.1.2
  have hN := hG.1.2
  have hc8 : c < 8 := by omega
  have eN : putS I s V 76 0 = nI (gN (gI I)) := by rw [ps_ne (by omega)]; exact hG.1.1
  have eM : putS I s V 76 2 = nI (gM (gI I)) := by rw [ps_ne (by omega)]; exact hG.2.1.1
  have eL : putS I s V 80 c = nI (gL (gI I) c) := by rw [ps_ne (by omega)]; exact (hG.2.2.1 c hc).1
  have hL : gL (gI I) c < 5 := by have := (hG.2.2.1 c hc).2; omega
  have eA : sm (putS I s V (s + 10) c) := by rw [ps_j (by decide)]; exact (hS.2.2.1 c hc).1
  have eB : sm (putS I s V (s + 11) c) := by rw [ps_j (by decide)]; exact (hS.2.2.1 c hc).2
  have eU : sm (putS I s V s 0) := by rw [ps_0]; exact hS.1
  have eC : sm (putS I s V s 1) := by rw [ps_0]; exact hS.2.1
  have eH : putS I s V (s + 9) c = nI (hst V c) := by rw [ps_j (by decide)]; exact (hS.2.2.2.1 c hc).1
  have hH : hst V c < 5 := by have := (hS.2.2.2.1 c hc).2; omega
  refine ⟨I, scE_r hl, fun P => ?_⟩
  have h1 := fun P => k_doSettle (L := L) (xs := xs) (I := putS I s V) (J := J) (R := R) (Z := Z) (P := P) (d := d + 2) hs hc8 eN hN eH hH eB
  simp (discharger := omega) only [↓w50_0, ↓w50_1, ↓w50_56, ↓w50_57, ↓w50_58, ↓w50_59, ↓w50_62, ↓w50_63, ↓w50_64, ↓w50_65, ↓w50_66, ↓w50_68, ↓w50_71, ↓w50_72, ↓w50_73, ↓w50_74, ↓w50_75, ↓w50_78, ↓w50_79, ↓w50_80, ↓w50_81, ↓w50_82, ↓w50_84, ↓w50_87, ↓w50_88, ↓w50_89, ↓w50_90, ↓w50_91, ↓w50_94, ↓w50_95, ↓w50_96, ↓w50_97, ↓w50_98, ↓w50_100, ↓w50_103, ↓w50_104, ↓w50_105, ↓w50_106, ↓w50_107, ↓w50_109, ↓w50_112, ↓w50_113, ↓w50_114, ↓w50_116, ↓w50_119, ↓w50_122, ↓w50_123, ↓w50_126, ↓w50_127, ↓w50_129, ↓w50_132, ↓w50_135, ↓w50_136, ↓w50_137, ↓w50_138, ↓w50_139, ↓w50_141, ↓w50_142, ↓w50_145, ↓w50_146, ↓w50_147, ↓w50_148, ↓w50_150, ↓w50_151, ↓w50_154, ↓w50_155, ↓w50_156, ↓w50_157, ↓w50_160, ↓h1, ↓kc_i, ↓kc_l, ↓kc_r, ↓kc_n, rc128, g128_0, g128_1, g128_2, p128_2, g128_3, p128_3, ps_0, ps_j, ps_ne, st_ps, st_ps0, st_psne, st_ne, st_eq, st_st, upd_eq, upd_upd, mul8, mul8', mul4, mul4', nI_add, inT, nclN, ltT, ltF, leT, leF, eqT, eqF, nzF, m1F, m1T, shr, shg, bI0, bI1, bo_bI, bo_1, bo_0, eq10, eq00, frT1, frT2, frT3, fit0, fit1, fit2, fit3, true_and, and_true, ↓reduceIte, Nat.reduceAdd, Nat.reduceMul, and_self, not_false_eq_true, not_true_eq_false, Nat.zero_add, Nat.add_zero]
  show _ = P (some (.int (stS (gI I) V c).1)) (mk (putS I s (stS (gI I) V c).2) J R Z)
  unfold stS
  dsimp only
  by_cases h : (accd (V 0 0) (V 1) (hst V c) c && decide (mst (gN (gI I)) ≤ pcn (V 11 c))) = true
  · simp only [h, ↓reduceIte, Bool.false_eq_true] <;> rfl
  · simp only [h, ↓reduceIte, Bool.false_eq_true] <;> rfl
theorem k_step5 (hs : isS s) (hG : okG (gI I)) (hS : okS (gI I) V) (hl : ∀ k, 8 ≤ k → I 127 k = nI 0) (hc : c < gM (gI I)) (hr : r < gN (gI I)) : stpS L xs d I J R Z s V 5 c r := by
  have hs1 := hs.1
  have hM := hG.2.1.2
  have hN := hG.1.2
  have hc8 : c < 8 := by omega
  have hr5 : r < 5 := by omega
  have eN : putS I s V 76 0 = nI (gN (gI I)) := by rw [ps_ne (by omega)]; exact hG.1.1
  have eM : putS I s V 76 2 = nI (gM (gI I)) := by rw [ps_ne (by omega)]; exact hG.2.1.1
  have eL : putS I s V 80 c = nI (gL (gI I) c) := by rw [ps_ne (by omega)]; exact (hG.2.2.1 c hc).1
  have hL : gL (gI I) c < 5 := by have := (hG.2.2.1 c hc).2; omega
  have eA : sm (putS I s V (s + 10) c) := by rw [ps_j (by decide)]; exact (hS.2.2.1 c hc).1
  have eB : sm (putS I s V (s + 11) c) := by rw [ps_j (by decide)]; exact (hS.2.2.1 c hc).2
  have eU : sm (putS I s V s 0) := by rw [ps_0]; exact hS.1
  have eC : sm (putS I s V s 1) := by rw [ps_0]; exact hS.2.1
  have eH : putS I s V (s + 9) c = nI (hst V c) := by rw [ps_j (by decide)]; exact (hS.2.2.2.1 c hc).1
  have hH : hst V c < 5 := by have := (hS.2.2.2.1 c hc).2; omega
  refine ⟨I, scE_r hl, fun P => ?_⟩
  have h1 := fun P => k_doTell (L := L) (xs := xs) (I := putS I s V) (J := J) (R := R) (Z := Z) (P := P) (d := d + 2) hs hc8 hr5
  simp (discharger := omega) only [↓w50_0, ↓w50_1, ↓w50_56, ↓w50_57, ↓w50_58, ↓w50_59, ↓w50_62, ↓w50_63, ↓w50_64, ↓w50_65, ↓w50_66, ↓w50_68, ↓w50_71, ↓w50_72, ↓w50_73, ↓w50_74, ↓w50_75, ↓w50_78, ↓w50_79, ↓w50_80, ↓w50_81, ↓w50_82, ↓w50_84, ↓w50_87, ↓w50_88, ↓w50_89, ↓w50_90, ↓w50_91, ↓w50_94, ↓w50_95, ↓w50_96, ↓w50_97, ↓w50_98, ↓w50_100, ↓w50_103, ↓w50_104, ↓w50_105, ↓w50_106, ↓w50_107, ↓w50_109, ↓w50_112, ↓w50_113, ↓w50_114, ↓w50_116, ↓w50_119, ↓w50_122, ↓w50_123, ↓w50_126, ↓w50_127, ↓w50_129, ↓w50_132, ↓w50_135, ↓w50_136, ↓w50_137, ↓w50_138, ↓w50_139, ↓w50_141, ↓w50_142, ↓w50_145, ↓w50_146, ↓w50_147, ↓w50_148, ↓w50_150, ↓w50_151, ↓w50_154, ↓w50_155, ↓w50_156, ↓w50_157, ↓w50_160, ↓h1, ↓kc_i, ↓kc_l, ↓kc_r, ↓kc_n, rc128, g128_0, g128_1, g128_2, p128_2, g128_3, p128_3, ps_0, ps_j, ps_ne, st_ps, st_ps0, st_psne, st_ne, st_eq, st_st, upd_eq, upd_upd, mul8, mul8', mul4, mul4', nI_add, inT, nclN, ltT, ltF, leT, leF, eqT, eqF, nzF, m1F, m1T, shr, shg, bI0, bI1, bo_bI, bo_1, bo_0, eq10, eq00, frT1, frT2, frT3, fit0, fit1, fit2, fit3, true_and, and_true, ↓reduceIte, Nat.reduceAdd, Nat.reduceMul, and_self, not_false_eq_true, not_true_eq_false, Nat.zero_add, Nat.add_zero]
  show _ = P (some (.int (stT V c r).1)) (mk (putS I s (stT V c r).2) J R Z)
  unfold stT s3
  cases h1 : ff 8 (tb (rW (V 1) c (nI 3) (nI 4) &&& V 0 0)) with
  | none => rfl
  | some t =>
    dsimp only
    by_cases h : (tb (V 0 0) r && decide (V 1 (8 * r + c) < nI 3)) = true
    · simp only [h, ↓reduceIte, Bool.false_eq_true] <;> rfl
    · simp only [h, ↓reduceIte, Bool.false_eq_true] <;> rfl
theorem k_step6 (hs : isS s) (hG : okG (gI I)) (hS : okS (gI I) V) (hl : ∀ k, 8 ≤ k → I 127 k = nI 0) (hc : c < gM (gI I)) (hr : r < gN (gI I)) : stpS L xs d I J R Z s V 6 c r := by
  have hs1 := hs.1
  have hM := hG.2.1.2
  have hN := hG.1.2
  have hc8 : c < 8 := by omega
  have hr5 : r < 5 := by omega
  have eN : putS I s V 76 0 = nI (gN (gI I)) := by rw [ps_ne (by omega)]; exact hG.1.1
  have eM : putS I s V 76 2 = nI (gM (gI I)) := by rw [ps_ne (by omega)]; exact hG.2.1.1
  have eL : putS I s V 80 c = nI (gL (gI I) c) := by rw [ps_ne (by omega)]; exact (hG.2.2.1 c hc).1
  have hL : gL (gI I) c < 5 := by have := (hG.2.2.1 c hc).2; omega
  have eA : sm (putS I s V (s + 10) c) := by rw [ps_j (by decide)]; exact (hS.2.2.1 c hc).1
  have eB : sm (putS I s V (s + 11) c) := by rw [ps_j (by decide)]; exact (hS.2.2.1 c hc).2
  have eU : sm (putS I s V s 0) := by rw [ps_0]; exact hS.1
  have eC : sm (putS I s V s 1) := by rw [ps_0]; exact hS.2.1
  have eH : putS I s V (s + 9) c = nI (hst V c) := by rw [ps_j (by decide)]; exact (hS.2.2.2.1 c hc).1
  have hH : hst V c < 5 := by have := (hS.2.2.2.1 c hc).2; omega
  have h1 := fun P => k_doRecover (L := L) (xs := xs) (I := putS I s V) (J := J) (R := R) (Z := Z) (P := P) (d := d) hs hc8 hr5 eM hM eN hN eL hL eU
  by_cases h : canRec (gN (gI I)) (V 0 0) (V 1) r c = true
  · refine ⟨fsd I (fdV (gI I) V (V 0 0) c).2.1 (fdV (gI I) V (V 0 0) c).2.2, fsd_scE hl, fun P => ?_⟩
    simp (discharger := omega) only [↓w50_0, ↓w50_1, ↓w50_56, ↓w50_57, ↓w50_58, ↓w50_59, ↓w50_62, ↓w50_63, ↓w50_64, ↓w50_65, ↓w50_66, ↓w50_68, ↓w50_71, ↓w50_72, ↓w50_73, ↓w50_74, ↓w50_75, ↓w50_78, ↓w50_79, ↓w50_80, ↓w50_81, ↓w50_82, ↓w50_84, ↓w50_87, ↓w50_88, ↓w50_89, ↓w50_90, ↓w50_91, ↓w50_94, ↓w50_95, ↓w50_96, ↓w50_97, ↓w50_98, ↓w50_100, ↓w50_103, ↓w50_104, ↓w50_105, ↓w50_106, ↓w50_107, ↓w50_109, ↓w50_112, ↓w50_113, ↓w50_114, ↓w50_116, ↓w50_119, ↓w50_122, ↓w50_123, ↓w50_126, ↓w50_127, ↓w50_129, ↓w50_132, ↓w50_135, ↓w50_136, ↓w50_137, ↓w50_138, ↓w50_139, ↓w50_141, ↓w50_142, ↓w50_145, ↓w50_146, ↓w50_147, ↓w50_148, ↓w50_150, ↓w50_151, ↓w50_154, ↓w50_155, ↓w50_156, ↓w50_157, ↓w50_160, ↓h1, fsd_ps, ↓kc_i, ↓kc_l, ↓kc_r, ↓kc_n, rc128, g128_0, g128_1, g128_2, p128_2, g128_3, p128_3, ps_0, ps_j, ps_ne, st_ps, st_ps0, st_psne, st_ne, st_eq, st_st, upd_eq, upd_upd, mul8, mul8', mul4, mul4', nI_add, inT, nclN, ltT, ltF, leT, leF, eqT, eqF, nzF, m1F, m1T, shr, shg, bI0, bI1, bo_bI, bo_1, bo_0, eq10, eq00, frT1, frT2, frT3, fit0, fit1, fit2, fit3, true_and, and_true, ↓reduceIte, Nat.reduceAdd, Nat.reduceMul, and_self, not_false_eq_true, not_true_eq_false, Nat.zero_add, Nat.add_zero]
    show _ = P (some (.int (stR (gI I) V c r).1)) (mk (putS _ s (stR (gI I) V c r).2) J R Z)
    unfold stR s3 fdV
    simp only [h, ↓reduceIte, Bool.false_eq_true] <;> rfl
  · refine ⟨I, scE_r hl, fun P => ?_⟩
    simp (discharger := omega) only [↓w50_0, ↓w50_1, ↓w50_56, ↓w50_57, ↓w50_58, ↓w50_59, ↓w50_62, ↓w50_63, ↓w50_64, ↓w50_65, ↓w50_66, ↓w50_68, ↓w50_71, ↓w50_72, ↓w50_73, ↓w50_74, ↓w50_75, ↓w50_78, ↓w50_79, ↓w50_80, ↓w50_81, ↓w50_82, ↓w50_84, ↓w50_87, ↓w50_88, ↓w50_89, ↓w50_90, ↓w50_91, ↓w50_94, ↓w50_95, ↓w50_96, ↓w50_97, ↓w50_98, ↓w50_100, ↓w50_103, ↓w50_104, ↓w50_105, ↓w50_106, ↓w50_107, ↓w50_109, ↓w50_112, ↓w50_113, ↓w50_114, ↓w50_116, ↓w50_119, ↓w50_122, ↓w50_123, ↓w50_126, ↓w50_127, ↓w50_129, ↓w50_132, ↓w50_135, ↓w50_136, ↓w50_137, ↓w50_138, ↓w50_139, ↓w50_141, ↓w50_142, ↓w50_145, ↓w50_146, ↓w50_147, ↓w50_148, ↓w50_150, ↓w50_151, ↓w50_154, ↓w50_155, ↓w50_156, ↓w50_157, ↓w50_160, ↓h1, ↓kc_i, ↓kc_l, ↓kc_r, ↓kc_n, rc128, g128_0, g128_1, g128_2, p128_2, g128_3, p128_3, ps_0, ps_j, ps_ne, st_ps, st_ps0, st_psne, st_ne, st_eq, st_st, upd_eq, upd_upd, mul8, mul8', mul4, mul4', nI_add, inT, nclN, ltT, ltF, leT, leF, eqT, eqF, nzF, m1F, m1T, shr, shg, bI0, bI1, bo_bI, bo_1, bo_0, eq10, eq00, frT1, frT2, frT3, fit0, fit1, fit2, fit3, true_and, and_true, ↓reduceIte, Nat.reduceAdd, Nat.reduceMul, and_self, not_false_eq_true, not_true_eq_false, Nat.zero_add, Nat.add_zero]
    show _ = P (some (.int (stR (gI I) V c r).1)) (mk (putS _ s (stR (gI I) V c r).2) J R Z)
    unfold stR
    simp only [h, ↓reduceIte, Bool.false_eq_true] <;> rfl
theorem k_step7 (hs : isS s) (hG : okG (gI I)) (hS : okS (gI I) V) (hl : ∀ k, 8 ≤ k → I 127 k = nI 0) (hr : r < gN (gI I)) : stpS L xs d I J R Z s V 7 c r := by
  have hs1 := hs.1
  have hM := hG.2.1.2
  have hN := hG.1.2
  have hr5 : r < 5 := by omega
  have eN : putS I s V 76 0 = nI (gN (gI I)) := by rw [ps_ne (by omega)]; exact hG.1.1
  have eM : putS I s V 76 2 = nI (gM (gI I)) := by rw [ps_ne (by omega)]; exact hG.2.1.1
  have eU : sm (putS I s V s 0) := by rw [ps_0]; exact hS.1
  have eC : sm (putS I s V s 1) := by rw [ps_0]; exact hS.2.1
  have h1 := fun P => k_isUp (L := L) (xs := xs) (I := putS I s V) (J := J) (R := R) (Z := Z) (P := P) (d := d + 4) (r := r) hs (by omega)
  have hkr := fun P => k_runParts (L := L) (xs := xs) (I := I) (J := J) (R := R) (Z := Z) (P := P) (V := V) (d := d) (ky := gK (gI I)) hs hr5 hG.2.1.1 hM (fun c hc => hG.2.2.2 c hc) (hS.2.2.2.2 r hr5)
  have hcan := rps_can (kd := I 77) (va := I 79) (ky := gK (gI I)) (M := gM (gI I)) (r := r) 8 (V, I 126 2, I 127) hl
  by_cases h : tb (V 0 0) r = true
  · refine ⟨lkI I (rps (I 77) (I 79) (gK (gI I)) (gM (gI I)) r 8 (V, I 126 2, I 127)).2.1 (rps (I 77) (I 79) (gK (gI I)) (gM (gI I)) r 8 (V, I 126 2, I 127)).2.2, lkI_scE hcan.2, fun P => ?_⟩
    simp (discharger := omega) only [↓w50_0, ↓w50_1, ↓w50_56, ↓w50_57, ↓w50_58, ↓w50_59, ↓w50_62, ↓w50_63, ↓w50_64, ↓w50_65, ↓w50_66, ↓w50_68, ↓w50_71, ↓w50_72, ↓w50_73, ↓w50_74, ↓w50_75, ↓w50_78, ↓w50_79, ↓w50_80, ↓w50_81, ↓w50_82, ↓w50_84, ↓w50_87, ↓w50_88, ↓w50_89, ↓w50_90, ↓w50_91, ↓w50_94, ↓w50_95, ↓w50_96, ↓w50_97, ↓w50_98, ↓w50_100, ↓w50_103, ↓w50_104, ↓w50_105, ↓w50_106, ↓w50_107, ↓w50_109, ↓w50_112, ↓w50_113, ↓w50_114, ↓w50_116, ↓w50_119, ↓w50_122, ↓w50_123, ↓w50_126, ↓w50_127, ↓w50_129, ↓w50_132, ↓w50_135, ↓w50_136, ↓w50_137, ↓w50_138, ↓w50_139, ↓w50_141, ↓w50_142, ↓w50_145, ↓w50_146, ↓w50_147, ↓w50_148, ↓w50_150, ↓w50_151, ↓w50_154, ↓w50_155, ↓w50_156, ↓w50_157, ↓w50_160, ↓h1, ↓hkr, ↓kc_i, ↓kc_l, ↓kc_r, ↓kc_n, gS0 hs, gS1 hs, gS2 hs, gS3 hs, gS4 hs, gS5 hs, gS6 hs, gS7 hs, gS8 hs, gS9 hs, gS10 hs, gS11 hs, gS12 hs, giS1 hs, giS2 hs, giS3 hs, giS4 hs, giS5 hs, giS6 hs, giS7 hs, giS8 hs, giS9 hs, giS10 hs, giS11 hs, siS1 hs, siS2 hs, siS3 hs, siS4 hs, siS5 hs, siS6 hs, siS7 hs, siS8 hs, siS9 hs, siS10 hs, siS11 hs, pS0 hs, pS1 hs, rcS hs, rc128, g128_0, g128_1, g128_2, p128_2, g128_3, p128_3, rc126, g126_0, g126_1, g126_2, p126_2, ps_0, ps_j, ps_ne, st_ps, st_ps0, st_psne, st_ne, st_eq, st_st, upd_eq, upd_upd, mul8, mul8', mul4, mul4', nI_add, inT, nclN, ltT, ltF, leT, leF, eqT, eqF, nzF, m1F, m1T, shr, shg, bI0, bI1, bo_bI, bo_1, bo_0, eq10, eq00, frT1, frT2, frT3, fit0, fit1, fit2, fit3, true_and, and_true, ↓reduceIte, Nat.reduceAdd, Nat.reduceMul, and_self, not_false_eq_true, not_true_eq_false, Nat.zero_add, Nat.add_zero, h, Bool.true_eq_false]
    show _ = P (some (.int (stX (gI I) V r).1)) (mk (putS _ s (stX (gI I) V r).2) J R Z)
    unfold stX runV
    simp only [h, ↓reduceIte, Bool.false_eq_true]
    rw [hcan.1]
    rfl
  · refine ⟨I, scE_r hl, fun P => ?_⟩
    have h' : tb (V 0 0) r = false := by simpa using h
    simp (discharger := omega) only [↓w50_0, ↓w50_1, ↓w50_56, ↓w50_57, ↓w50_58, ↓w50_59, ↓w50_62, ↓w50_63, ↓w50_64, ↓w50_65, ↓w50_66, ↓w50_68, ↓w50_71, ↓w50_72, ↓w50_73, ↓w50_74, ↓w50_75, ↓w50_78, ↓w50_79, ↓w50_80, ↓w50_81, ↓w50_82, ↓w50_84, ↓w50_87, ↓w50_88, ↓w50_89, ↓w50_90, ↓w50_91, ↓w50_94, ↓w50_95, ↓w50_96, ↓w50_97, ↓w50_98, ↓w50_100, ↓w50_103, ↓w50_104, ↓w50_105, ↓w50_106, ↓w50_107, ↓w50_109, ↓w50_112, ↓w50_113, ↓w50_114, ↓w50_116, ↓w50_119, ↓w50_122, ↓w50_123, ↓w50_126, ↓w50_127, ↓w50_129, ↓w50_132, ↓w50_135, ↓w50_136, ↓w50_137, ↓w50_138, ↓w50_139, ↓w50_141, ↓w50_142, ↓w50_145, ↓w50_146, ↓w50_147, ↓w50_148, ↓w50_150, ↓w50_151, ↓w50_154, ↓w50_155, ↓w50_156, ↓w50_157, ↓w50_160, ↓h1, ↓kc_i, ↓kc_l, ↓kc_r, ↓kc_n, gS0 hs, gS1 hs, gS2 hs, gS3 hs, gS4 hs, gS5 hs, gS6 hs, gS7 hs, gS8 hs, gS9 hs, gS10 hs, gS11 hs, gS12 hs, giS1 hs, giS2 hs, giS3 hs, giS4 hs, giS5 hs, giS6 hs, giS7 hs, giS8 hs, giS9 hs, giS10 hs, giS11 hs, siS1 hs, siS2 hs, siS3 hs, siS4 hs, siS5 hs, siS6 hs, siS7 hs, siS8 hs, siS9 hs, siS10 hs, siS11 hs, pS0 hs, pS1 hs, rcS hs, rc128, g128_0, g128_1, g128_2, p128_2, g128_3, p128_3, ps_0, ps_j, ps_ne, st_ps, st_ps0, st_psne, st_ne, st_eq, st_st, upd_eq, upd_upd, mul8, mul8', mul4, mul4', nI_add, inT, nclN, ltT, ltF, leT, leF, eqT, eqF, nzF, m1F, m1T, shr, shg, bI0, bI1, bo_bI, bo_1, bo_0, eq10, eq00, frT1, frT2, frT3, fit0, fit1, fit2, fit3, true_and, and_true, ↓reduceIte, Nat.reduceAdd, Nat.reduceMul, and_self, not_false_eq_true, not_true_eq_false, Nat.zero_add, Nat.add_zero, h']
    show _ = P (some (.int (stX (gI I) V r).1)) (mk (putS _ s (stX (gI I) V r).2) J R Z)
    unfold stX
    simp only [h, ↓reduceIte, Bool.false_eq_true] <;> rfl
theorem k_step8 (hs : isS s) (hG : okG (gI I)) (hS : okS (gI I) V) (hl : ∀ k, 8 ≤ k → I 127 k = nI 0) (hr : r < gN (gI I)) : stpS L xs d I J R Z s V 8 c r := by
  have hs1 := hs.1
  have hM := hG.2.1.2
  have hN := hG.1.2
  have hr5 : r < 5 := by omega
  have eN : putS I s V 76 0 = nI (gN (gI I)) := by rw [ps_ne (by omega)]; exact hG.1.1
  have eM : putS I s V 76 2 = nI (gM (gI I)) := by rw [ps_ne (by omega)]; exact hG.2.1.1
  have eU : sm (putS I s V s 0) := by rw [ps_0]; exact hS.1
  have eC : sm (putS I s V s 1) := by rw [ps_0]; exact hS.2.1
  have hb : bI true = nI 1 := rfl
  refine ⟨I, scE_r hl, fun P => ?_⟩
  have h1 := fun P => hb ▸ k_doTurn (L := L) (xs := xs) (I := putS I s V) (J := J) (R := R) (Z := Z) (P := P) (d := d + 3) (b := true) hs hr5
  simp (discharger := omega) only [↓w50_0, ↓w50_1, ↓w50_56, ↓w50_57, ↓w50_58, ↓w50_59, ↓w50_62, ↓w50_63, ↓w50_64, ↓w50_65, ↓w50_66, ↓w50_68, ↓w50_71, ↓w50_72, ↓w50_73, ↓w50_74, ↓w50_75, ↓w50_78, ↓w50_79, ↓w50_80, ↓w50_81, ↓w50_82, ↓w50_84, ↓w50_87, ↓w50_88, ↓w50_89, ↓w50_90, ↓w50_91, ↓w50_94, ↓w50_95, ↓w50_96, ↓w50_97, ↓w50_98, ↓w50_100, ↓w50_103, ↓w50_104, ↓w50_105, ↓w50_106, ↓w50_107, ↓w50_109, ↓w50_112, ↓w50_113, ↓w50_114, ↓w50_116, ↓w50_119, ↓w50_122, ↓w50_123, ↓w50_126, ↓w50_127, ↓w50_129, ↓w50_132, ↓w50_135, ↓w50_136, ↓w50_137, ↓w50_138, ↓w50_139, ↓w50_141, ↓w50_142, ↓w50_145, ↓w50_146, ↓w50_147, ↓w50_148, ↓w50_150, ↓w50_151, ↓w50_154, ↓w50_155, ↓w50_156, ↓w50_157, ↓w50_160, ↓h1, ↓kc_i, ↓kc_l, ↓kc_r, ↓kc_n, rc128, g128_0, g128_1, g128_2, p128_2, g128_3, p128_3, ps_0, ps_j, ps_ne, st_ps, st_ps0, st_psne, st_ne, st_eq, st_st, upd_eq, upd_upd, mul8, mul8', mul4, mul4', nI_add, inT, nclN, ltT, ltF, leT, leF, eqT, eqF, nzF, m1F, m1T, shr, shg, bI0, bI1, bo_bI, bo_1, bo_0, eq10, eq00, frT1, frT2, frT3, fit0, fit1, fit2, fit3, true_and, and_true, ↓reduceIte, Nat.reduceAdd, Nat.reduceMul, and_self, not_false_eq_true, not_true_eq_false, Nat.zero_add, Nat.add_zero]
  show _ = P (some (.int (stU V r true).1)) (mk (putS I s (stU V r true).2) J R Z)
  unfold stU
  by_cases h : tb (V 0 0) r = true
  · simp only [h, ↓reduceIte, Bool.false_eq_true] <;> rfl
  · simp only [h, ↓reduceIte, Bool.false_eq_true] <;> rfl
theorem k_step9 (hs : isS s) (hG : okG (gI I)) (hS : okS (gI I) V) (hl : ∀ k, 8 ≤ k → I 127 k = nI 0) (hr : r < gN (gI I)) : stpS L xs d I J R Z s V 9 c r := by
  have hs1 := hs.1
  have hM := hG.2.1.2
  have hN := hG.1.2
  have hr5 : r < 5 := by omega
  have eN : putS I s V 76 0 = nI (gN (gI I)) := by rw [ps_ne (by omega)]; exact hG.1.1
  have eM : putS I s V 76 2 = nI (gM (gI I)) := by rw [ps_ne (by omega)]; exact hG.2.1.1
  have eU : sm (putS I s V s 0) := by rw [ps_0]; exact hS.1
  have eC : sm (putS I s V s 1) := by rw [ps_0]; exact hS.2.1
  have hb : bI false = nI 0 := rfl
  refine ⟨I, scE_r hl, fun P => ?_⟩
  have h1 := fun P => hb ▸ k_doTurn (L := L) (xs := xs) (I := putS I s V) (J := J) (R := R) (Z := Z) (P := P) (d := d + 3) (b := false) hs hr5
  simp (discharger := omega) only [↓w50_0, ↓w50_1, ↓w50_56, ↓w50_57, ↓w50_58, ↓w50_59, ↓w50_62, ↓w50_63, ↓w50_64, ↓w50_65, ↓w50_66, ↓w50_68, ↓w50_71, ↓w50_72, ↓w50_73, ↓w50_74, ↓w50_75, ↓w50_78, ↓w50_79, ↓w50_80, ↓w50_81, ↓w50_82, ↓w50_84, ↓w50_87, ↓w50_88, ↓w50_89, ↓w50_90, ↓w50_91, ↓w50_94, ↓w50_95, ↓w50_96, ↓w50_97, ↓w50_98, ↓w50_100, ↓w50_103, ↓w50_104, ↓w50_105, ↓w50_106, ↓w50_107, ↓w50_109, ↓w50_112, ↓w50_113, ↓w50_114, ↓w50_116, ↓w50_119, ↓w50_122, ↓w50_123, ↓w50_126, ↓w50_127, ↓w50_129, ↓w50_132, ↓w50_135, ↓w50_136, ↓w50_137, ↓w50_138, ↓w50_139, ↓w50_141, ↓w50_142, ↓w50_145, ↓w50_146, ↓w50_147, ↓w50_148, ↓w50_150, ↓w50_151, ↓w50_154, ↓w50_155, ↓w50_156, ↓w50_157, ↓w50_160, ↓h1, ↓kc_i, ↓kc_l, ↓kc_r, ↓kc_n, rc128, g128_0, g128_1, g128_2, p128_2, g128_3, p128_3, ps_0, ps_j, ps_ne, st_ps, st_ps0, st_psne, st_ne, st_eq, st_st, upd_eq, upd_upd, mul8, mul8', mul4, mul4', nI_add, inT, nclN, ltT, ltF, leT, leF, eqT, eqF, nzF, m1F, m1T, shr, shg, bI0, bI1, bo_bI, bo_1, bo_0, eq10, eq00, frT1, frT2, frT3, fit0, fit1, fit2, fit3, true_and, and_true, ↓reduceIte, Nat.reduceAdd, Nat.reduceMul, and_self, not_false_eq_true, not_true_eq_false, Nat.zero_add, Nat.add_zero]
  show _ = P (some (.int (stU V r false).1)) (mk (putS I s (stU V r false).2) J R Z)
  unfold stU
  by_cases h : tb (V 0 0) r = false
  · simp only [h, ↓reduceIte, Bool.false_eq_true] <;> rfl
  · simp only [h, ↓reduceIte, Bool.false_eq_true] <;> rfl
theorem k_step10 (hs : isS s) (hG : okG (gI I)) (hS : okS (gI I) V) (hl : ∀ k, 8 ≤ k → I 127 k = nI 0) : stpS L xs d I J R Z s V 10 c r := by
  have hs1 := hs.1
  have hM := hG.2.1.2
  have hN := hG.1.2
  have eN : putS I s V 76 0 = nI (gN (gI I)) := by rw [ps_ne (by omega)]; exact hG.1.1
  have eM : putS I s V 76 2 = nI (gM (gI I)) := by rw [ps_ne (by omega)]; exact hG.2.1.1
  have eU : sm (putS I s V s 0) := by rw [ps_0]; exact hS.1
  have eC : sm (putS I s V s 1) := by rw [ps_0]; exact hS.2.1
  refine ⟨I, scE_r hl, fun P => ?_⟩
  have h1 := fun P => k_doClean (L := L) (xs := xs) (I := putS I s V) (J := J) (R := R) (Z := Z) (P := P) (d := d + 1) hs eM hM eN hN eC
  simp (discharger := omega) only [↓w50_0, ↓w50_1, ↓w50_56, ↓w50_57, ↓w50_58, ↓w50_59, ↓w50_62, ↓w50_63, ↓w50_64, ↓w50_65, ↓w50_66, ↓w50_68, ↓w50_71, ↓w50_72, ↓w50_73, ↓w50_74, ↓w50_75, ↓w50_78, ↓w50_79, ↓w50_80, ↓w50_81, ↓w50_82, ↓w50_84, ↓w50_87, ↓w50_88, ↓w50_89, ↓w50_90, ↓w50_91, ↓w50_94, ↓w50_95, ↓w50_96, ↓w50_97, ↓w50_98, ↓w50_100, ↓w50_103, ↓w50_104, ↓w50_105, ↓w50_106, ↓w50_107, ↓w50_109, ↓w50_112, ↓w50_113, ↓w50_114, ↓w50_116, ↓w50_119, ↓w50_122, ↓w50_123, ↓w50_126, ↓w50_127, ↓w50_129, ↓w50_132, ↓w50_135, ↓w50_136, ↓w50_137, ↓w50_138, ↓w50_139, ↓w50_141, ↓w50_142, ↓w50_145, ↓w50_146, ↓w50_147, ↓w50_148, ↓w50_150, ↓w50_151, ↓w50_154, ↓w50_155, ↓w50_156, ↓w50_157, ↓w50_160, ↓h1, ↓kc_i, ↓kc_l, ↓kc_r, ↓kc_n, rc128, g128_0, g128_1, g128_2, p128_2, g128_3, p128_3, ps_0, ps_j, ps_ne, st_ps, st_ps0, st_psne, st_ne, st_eq, st_st, upd_eq, upd_upd, mul8, mul8', mul4, mul4', nI_add, inT, nclN, ltT, ltF, leT, leF, eqT, eqF, nzF, m1F, m1T, shr, shg, bI0, bI1, bo_bI, bo_1, bo_0, eq10, eq00, frT1, frT2, frT3, fit0, fit1, fit2, fit3, true_and, and_true, ↓reduceIte, Nat.reduceAdd, Nat.reduceMul, and_self, not_false_eq_true, not_true_eq_false, Nat.zero_add, Nat.add_zero]
  show _ = P (some (.int (stL (gI I) V).1)) (mk (putS I s (stL (gI I) V).2) J R Z)
  unfold stL
  rfl
theorem k_doStep {w : Nat} (hw : w < 11) (hs : isS s) (hG : okG (gI I)) (hS : okS (gI I) V) (hl : ∀ k, 8 ≤ k → I 127 k = nI 0) (hc : w < 7 → c < gM (gI I)) (hr : (w % 2 = 1 ∨ w = 6 ∨ w = 8) → r < gN (gI I)) : stpS L xs d I J R Z s V w c r := by
  match w, hw with
  | 0, _ => exact k_step0 hs hG hS hl (hc (by decide)) 
  | 1, _ => exact k_step1 hs hG hS hl (hc (by decide)) (hr (by decide))
  | 2, _ => exact k_step2 hs hG hS hl (hc (by decide)) 
  | 3, _ => exact k_step3 hs hG hS hl (hc (by decide)) (hr (by decide))
  | 4, _ => exact k_step4 hs hG hS hl (hc (by decide)) 
  | 5, _ => exact k_step5 hs hG hS hl (hc (by decide)) (hr (by decide))
  | 6, _ => exact k_step6 hs hG hS hl (hc (by decide)) (hr (by decide))
  | 7, _ => exact k_step7 hs hG hS hl  (hr (by decide))
  | 8, _ => exact k_step8 hs hG hS hl  (hr (by decide))
  | 9, _ => exact k_step9 hs hG hS hl  (hr (by decide))
  | 10, _ => exact k_step10 hs hG hS hl  
end K11
