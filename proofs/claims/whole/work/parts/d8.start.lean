/-! the start: what the Statement gives of it (wip/whole/gend8.py) -/
def NRW : List Cond := flatC (Jvm.Cond.and given_1 narrow_1)
def tmS : Nat → Term := fun i => match i with
  | 0 => .string RX6 70
  | _ => .string RX6 55
set_option maxRecDepth 100000 in
theorem nr_w : ∀ j, j < 170 → NRW[36 + j]? = some (Cond.eq (.elem (.field (tmS 0) "java/lang/String" "value" "[B") (.int (Int32.ofNat j))) (.int ((([wBy, sBy] : List (List Int32)).getD 0 []).getD j 0))) := by decide +kernel
set_option maxRecDepth 100000 in
theorem nr_s : ∀ j, j < 12 → NRW[210 + j]? = some (Cond.eq (.elem (.field (tmS 1) "java/lang/String" "value" "[B") (.int (Int32.ofNat j))) (.int ((([wBy, sBy] : List (List Int32)).getD 1 []).getD j 0))) := by decide +kernel
def oA (a b c d e f g : Nat) : Nat → Nat := fun k => match k with
  | 0 => a
  | 1 => b
  | 2 => c
  | 3 => d
  | 4 => e
  | 5 => f
  | _ => g
def aS (n : Nat) : Nat → Prop := fun q => n ≤ q
theorem nr_5 : NRW[5]? = some (Cond.arrayOf (.static RX8 "NO_LAW" "[I") .int) := by decide +kernel
theorem nr_6 : NRW[6]? = some (Cond.eq (.length (.static RX8 "NO_LAW" "[I")) (.int (Int32.ofNat 0))) := by decide +kernel
theorem nr_7 : NRW[7]? = some (Cond.eq (.static "java/lang/String" "COMPACT_STRINGS" "Z") (.int 1)) := by decide +kernel
theorem nr_8 : NRW[8]? = some (Cond.isRef (.static "jdk/internal/util/Preconditions" "SIOOBE_FORMATTER" "Ljava/util/function/BiFunction;")) := by decide +kernel
theorem nr_x : ∀ i, i < 2 → NRW[32 + 174 * i]? = some (Cond.exactly (tmS i) "java/lang/String") := by decide +kernel
theorem nr_c : ∀ i, i < 2 → NRW[33 + 174 * i]? = some (Cond.eq (.field (tmS i) "java/lang/String" "coder" "B") (.int 0)) := by decide +kernel
theorem nr_a : ∀ i, i < 2 → NRW[34 + 174 * i]? = some (Cond.arrayOf (.field (tmS i) "java/lang/String" "value" "[B") .byte) := by decide +kernel
theorem nr_l : ∀ i, i < 2 → NRW[35 + 174 * i]? = some (Cond.eq (.length (.field (tmS i) "java/lang/String" "value" "[B")) (.int (Int32.ofNat (([170, 12] : List Nat).getD i 0)))) := by decide +kernel
theorem nr_n : NRW[222]? = some (Cond.not (Cond.eq (tmS 0) (tmS 1))) := by decide +kernel
theorem tt_1 : tables_1[1]? = some (Cond.initialized RX8) := by decide +kernel
theorem tt_13 : tables_1[13]? = some (Cond.initialized "java/lang/String") := by decide +kernel
theorem tt_15 : tables_1[15]? = some (Cond.initialized "jdk/internal/util/Preconditions") := by decide +kernel
theorem tt_67 : tables_1[67]? = some (Cond.arrayClass .int) := by decide +kernel
theorem tt_94 : tables_1[94]? = some (Cond.arrayOver (.object RX7)) := by decide +kernel
theorem tt_98 : tables_1[98]? = some (Cond.arrayOver (.object RX5)) := by decide +kernel
theorem tt_179 : tables_1[179]? = some (Cond.laysStatic RX8 "NO_LAW" "[I") := by decide +kernel
theorem tt_350 : tables_1[350]? = some (Cond.stringRef RX6 70 wTx) := by decide +kernel
theorem tt_360 : tables_1[360]? = some (Cond.laysStatic "java/lang/String" "COMPACT_STRINGS" "Z") := by decide +kernel
theorem tt_376 : tables_1[376]? = some (Cond.laysStatic "jdk/internal/util/Preconditions" "SIOOBE_FORMATTER" "Ljava/util/function/BiFunction;") := by decide +kernel
theorem tt_416 : tables_1[416]? = some (Cond.stringRef RX6 55 sTx) := by decide +kernel
theorem tt_1208 : tables_1[1208]? = some (Cond.arrayClass .long) := by decide +kernel
theorem tt_1209 : tables_1[1209]? = some (Cond.arrayClass .boolean) := by decide +kernel

