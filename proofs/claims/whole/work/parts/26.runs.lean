/-! THE RUN of a method: fuel, call depth, method, place, locals, stack, heap -/
def ip_run (L : Nat) (xs : Nat → Int32) : Nat → Nat → Nat → Nat → Lv → List Value → Hp → Option (Option Value × Hp)
  | 0, _, _, _, _, _, _ => none
  | n + 1, d, y, pc, ls, st, h => match ip_ms[y]? with
    | none => none
    | some M => match ip_fe M.2.2.2.2.2.2.2 pc with
      | none => none
      | some (ins, _, r1, r2, r3) =>
        if ip_k ins = 8 ∧ r1 = 99 then (match st with
          | [] => some (some (.retAddr 7), h)
          | _ => none)
        else if ip_k ins = 0 ∨ ip_k ins = 8 then match ip_st L xs ins pc r1 r2 r3 ls st h with
          | none => none
          | some (pc', ls', st', h') => ip_run L xs n d y pc' ls' st' h'
        else if ip_k ins < 5 then ip_ret (ip_k ins) M.2.2.2.1 st h
        else match ip_pop r2 [] st with
          | none => none
          | some (As, rest) => if (rest.map fun v => v.category).sum ≤ 8 ∧ 0 < d then match ip_cal (fun d' y' ls' h' => ip_run L xs n d' y' 0 ls' [] h') d r1 r3 h As with
            | some (v, h') => ip_run L xs n d y (pc + 3) ls (v.toList ++ rest) h'
            | none => none
            else none
