/-! the contract of every method of ip_ms -/
theorem ip_kr {ins : Instr} (h0 : ip_k ins ≠ 0) (h5 : ip_k ins < 5) : ins = .return_ ∨ ins = .ireturn ∨ ins = .lreturn ∨ ins = .areturn := by
  cases ins <;> first | exact Or.inl rfl | exact Or.inr (Or.inl rfl) | exact Or.inr (Or.inr (Or.inl rfl)) | exact Or.inr (Or.inr (Or.inr rfl)) | exact absurd rfl h0 | (exact absurd h5 (by simp [ip_k]; done))
theorem ip_endN {p : Program} {l : Launch} {e : Env} {R : Room} {s : State} {m : MethodId} {args : Array Value} {below : List Frame} {meth : Method} {c : Code} {off : Nat} {sa : Nat → Nat} {D : va_G} {dA : Nat → ClassId} {L : Nat} {xs : Nat → Int32} {M : Mt} {r : Option Value} {hf : Hp} {CE SE : Nat}
    (C : ip_C off sa D dA L xs M p s m args meth c) (hne : r ≠ some (.retAddr 7)) : ip_E p l e R s m args below meth c (MQ below (ip_Q off sa D dA r hf) args s CE SE (ip_A off)) off sa D dA M r hf CE SE := by
  obtain ⟨hx, hb, hrt, hmL, hown, hts, hlocks, hnm, hK, hSx, hoff⟩ := C
  intro pc ins len r1 r2 r3 ls lsC H locs st hmem hd hr hcase
  rcases hcase with ⟨-, -, -, hrr⟩ | ⟨hk0, hk5, hlen, hret⟩
  · exact absurd hrr hne
  · obtain ⟨hlv, hsz, hP, hS⟩ := hr
    have hq : ∀ t : State, t.heap = H → s.WarmedH t.vm → ip_Q off sa D dA r hf args s (.returned (r.map (ip_cv (ip_ad off sa)))) t := fun t ht _ => ⟨rfl, by rw [ht]; exact hsz, by rw [ht]; exact hP, hS.F ht⟩
    unfold ip_ret at hret
    rcases ip_kr hk0 hk5 with rfl | rfl | rfl | rfl
    · cases hlen
      split at hret
      · split at hret
        · rename_i hc
          cases hret
          exact W.vret hx hb (by rw [hrt]; exact hc.2) hq hS.2.2 hd hlocks
        · cases hret
      · split at hret
        · rename_i hc
          exact absurd hc (by simp [ip_k, ip_rok])
        · cases hret
      · cases hret
    · cases hlen
      split at hret
      · split at hret
        · rename_i hc
          exact absurd hc.1 (by simp [ip_k])
        · cases hret
      · split at hret
        · rename_i v hc
          cases hret
          unfold ip_rok at hc
          split at hc
          · rename_i hk hrr
            exact W.iret hx hb (by rw [hrt]; exact hrr) hq hS.2.2 hd hlocks
          · rename_i x hk hrr
            simp only [Bool.or_eq_true, decide_eq_true_eq] at hc
            exact W.zret hx hb (by rw [hrt]; exact hrr) (by rcases hc with rfl | rfl <;> rfl) hq hS.2.2 hd hlocks
          · rename_i x hk hrr
            simp only [decide_eq_true_eq] at hc
            exact W.zret hx hb (by rw [hrt]; exact hrr) (by subst hc; rfl) hq hS.2.2 hd hlocks
          · rename_i hk hrr; cases hk
          · rename_i hk hrr; cases hk
          · cases hc
        · cases hret
      · cases hret
    · cases hlen
      split at hret
      · split at hret
        · rename_i hc
          exact absurd hc.1 (by simp [ip_k])
        · cases hret
      · split at hret
        · rename_i v hc
          cases hret
          unfold ip_rok at hc
          split at hc
          · rename_i hk hrr; cases hk
          · rename_i hk hrr; cases hk
          · rename_i hk hrr; cases hk
          · rename_i hk hrr
            exact W.lret hx hb (by rw [hrt]; exact hrr) hq hS.2.2 hd hlocks
          · rename_i hk hrr; cases hk
          · cases hc
        · cases hret
      · cases hret
    · cases hlen
      split at hret
      · split at hret
        · rename_i hc
          exact absurd hc.1 (by simp [ip_k])
        · cases hret
      · split at hret
        · rename_i v hc
          cases hret
          unfold ip_rok at hc
          split at hc
          · rename_i hk hrr; cases hk
          · rename_i hk hrr; cases hk
          · rename_i hk hrr; cases hk
          · rename_i hk hrr; cases hk
          · rename_i hk hrr
            exact W.aret hx hb (by rw [hrt]; exact hrr) (Or.inl ⟨_, rfl⟩) (Or.inr ⟨_, rfl⟩) hq hS.2.2 hd hlocks
          · cases hc
        · cases hret
      · cases hret
theorem ip_no12a : (ip_ms.drop 1).all (fun M => decide (M.2.2.2.2.1 ≠ 12)) = true := by decide +kernel
theorem ip_no12 {y : Nat} {M : Mt} (h : ip_ms[y]? = some M) (hy : 0 < y) : M.2.2.2.2.1 ≠ 12 := by
  have h1 : (ip_ms.drop 1)[y - 1]? = some M := by rw [List.getElem?_drop, show 1 + (y - 1) = y by omega]; exact h
  exact of_decide_eq_true (List.all_eq_true.mp ip_no12a M (List.mem_of_getElem? h1))
set_option maxHeartbeats 4000000 in
theorem ip_sound {l : Launch} {off : Nat} {sa : Nat → Nat} {D : va_G} {dA : Nat → ClassId} {L : Nat} {xs : Nat → Int32} (hall : ∀ M ∈ ip_ms, ip_chk M = true) :
    ∀ (d n y : Nat) (M : Mt) (vs : List Value) (h : Hp) (r : Option Value) (h' : Hp), ip_ms[y]? = some M → 0 < y → (ip_ent vs).length ≤ M.2.2.1 → ip_run L xs n d y 0 (ip_loc vs M.2.2.1) [] h = some (r, h') → r ≠ some (.retAddr 7) → ip_Met l off sa D dA L xs d M vs h r h' := by
  intro d
  induction d using Nat.strongRecOn with
  | ind d IH =>
    intro n y M vs h r h' hM hy hent hrun hne
    obtain ⟨c1, c2, c3, c4, c5, c6, c7, c8⟩ := ip_mch_of hM
    unfold ip_Met
    refine Met.ofW (cc := M.2.1) (maxL := M.2.2.1) (ret := M.2.2.2.1) c1 rfl ?_
    intro p e s m args below meth c s₁ B hml hv
    obtain ⟨rfl, hsz, hP, hK, hSx⟩ := hv
    have hts := atoms_spec (ws := ip_ws M) B.pre
    have C : ip_C off sa D dA L xs M p s m (vs.map (ip_cv (ip_ad off sa))).toArray meth c := ⟨B.exec, B.bytes, B.returns, hml, by rw [← c5]; exact findClass_of_methodNamed B.named, fun w hw => hts w (List.mem_cons_of_mem _ hw), B.notSynchronized, fun _ => (name_of_methodNamed B.named B.method).1, hK, hSx, by omega⟩
    rw [lg_entry_eq]
    exact ip_body hall (fun z => absurd z (ip_no12 hM hy)) hM C (Nat.le_refl d) (Nat.le_refl (64 * d)) (fun d' hd' n' y' M' vs' h1 v h2 a1 a2 a3 a4 a5 => IH d' hd' n' y' M' vs' h1 v h2 a1 a2 a3 a4 a5) (Nat.le_refl _) (Nat.le_refl _) (ip_endN C hne) n 0 _ [] h _ s.heap [] 0 0 hrun ⟨ip_entry _ _ hent, hsz, hP, va_S.rf⟩ (Nat.zero_add _) (Nat.zero_add _)
