/-! THE START: what the Statement gives at the law's entry -/
def ip_gv : Cond := Jvm.Cond.and given_1 narrow_1
def ip_wt (i : Nat) : Term := .static RX10 (ip_wn.getD i "") "LLeaderlessOrder$Word;"
def ip_at : Term := .static RX10 "ALL" "[LLeaderlessOrder$Word;"
theorem ip_g1 : ∀ i, i < 30 → Cond.exactly (ip_wt i) RX10 ∈ flatC ip_gv := by decide +kernel
theorem ip_g2 : ∀ i, i < 30 → Cond.eq (.field (ip_wt i) RX10 "spelt" "J") (.long (ip_wd.getD i (0, 0, 0)).1) ∈ flatC ip_gv := by decide +kernel
theorem ip_g3 : ∀ i, i < 30 → Cond.eq (.field (ip_wt i) RX10 "sort" "I") (.int (ip_wd.getD i (0, 0, 0)).2.1) ∈ flatC ip_gv := by decide +kernel
theorem ip_g4 : ∀ i, i < 30 → Cond.eq (.field (ip_wt i) RX10 "number" "I") (.int (ip_wd.getD i (0, 0, 0)).2.2) ∈ flatC ip_gv := by decide +kernel
theorem ip_g5 : ∀ i, i < 30 → Cond.eq (.field (ip_wt i) "java/lang/Enum" "ordinal" "I") (.int (Int32.ofNat i)) ∈ flatC ip_gv := by decide +kernel
theorem ip_g6 : ∀ i, i < 30 → Cond.eq (.elem ip_at (.int (Int32.ofNat i))) (ip_wt i) ∈ flatC ip_gv := by decide +kernel
theorem ip_g7 : Cond.arrayOf ip_at (.object RX10) ∈ flatC ip_gv ∧ Cond.eq (.length ip_at) (.int (Int32.ofNat 30)) ∈ flatC ip_gv := by decide +kernel
def ip_tt : Term := .string RX8 65
theorem ip_g8 : Cond.exactly ip_tt "java/lang/String" ∈ flatC ip_gv ∧ Cond.eq (.field ip_tt "java/lang/String" "coder" "B") (.int 0) ∈ flatC ip_gv ∧ Cond.arrayOf (.field ip_tt "java/lang/String" "value" "[B") .byte ∈ flatC ip_gv ∧ Cond.eq (.length (.field ip_tt "java/lang/String" "value" "[B")) (.int (Int32.ofNat 8)) ∈ flatC ip_gv := by decide +kernel
theorem ip_g9 : ∀ j, j < 8 → Cond.eq (.elem (.field ip_tt "java/lang/String" "value" "[B") (.int (Int32.ofNat j))) (.int (([40, 41, 60, 61, 43, 45, 42, 59] : List Int32).getD j 0)) ∈ flatC ip_gv := by decide +kernel
theorem ip_g10 : Cond.eq (.static "java/lang/String" "COMPACT_STRINGS" "Z") (.int 1) ∈ flatC ip_gv ∧ Cond.isRef (.static "java/lang/Throwable" "UNASSIGNED_STACK" "[Ljava/lang/StackTraceElement;") ∈ flatC ip_gv ∧ Cond.isRef (.static "java/lang/Throwable" "SUPPRESSED_SENTINEL" "Ljava/util/List;") ∈ flatC ip_gv := by decide +kernel
def ip_sw (i : Nat) : Cond := .laysStatic RX10 (ip_wn.getD i "") "LLeaderlessOrder$Word;"
theorem ip_t1 : ∀ i, i < 30 → ip_sw i ∈ lw_tbl := by decide +kernel
theorem ip_t2 : ∀ w ∈ ([.laysStatic RX10 "ALL" "[LLeaderlessOrder$Word;", .initialized RX10, .stringRef RX8 65 "()<=+-*;", .laysStatic "java/lang/String" "COMPACT_STRINGS" "Z", .initialized "java/lang/String", .laysStatic "java/lang/Throwable" "UNASSIGNED_STACK" "[Ljava/lang/StackTraceElement;", .laysStatic "java/lang/Throwable" "SUPPRESSED_SENTINEL" "Ljava/util/List;", .initialized "java/lang/Throwable", .arrayOver (.object RX10), .arrayOver (.object RX7), .arrayOver (.object RX3), .instantiable RJE 6] : List Cond), w ∈ lw_tbl := by decide +kernel
theorem ip_ord : ∀ i, i < 30 → ∀ j, j < 30 → Int32.ofNat i = Int32.ofNat j → i = j := by decide +kernel

theorem ip_t3 : ∀ w ∈ ip_dw, w ∈ lw_tbl := by decide +kernel
