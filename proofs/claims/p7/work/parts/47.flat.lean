/-! What the Statement gives of the start: its strings (written by wip/gen/genlaw.py) -/
def m_tm (i : Nat) : Term := Term.string (m_strs.getD i ("", 0, "")).1 (m_strs.getD i ("", 0, "")).2.1
abbrev m_fl : List Cond := flatC (Jvm.Cond.and given_1 narrow_1)
set_option maxRecDepth 100000 in
theorem nc_0 : Cond.not (.castable "NeverLike$Green" "NeverLike$Steep") ∈ m_fl := by decide +kernel
set_option maxRecDepth 100000 in
theorem nc_1 : Cond.not (.castable "NeverLike$Old" "NeverLike$Steep") ∈ m_fl := by decide +kernel
set_option maxRecDepth 100000 in
theorem nc_2 : Cond.not (.castable "NeverLike$Painter" "NeverLike$Steep") ∈ m_fl := by decide +kernel
set_option maxRecDepth 100000 in
theorem nc_3 : Cond.not (.castable "NeverLike$Shy" "NeverLike$Steep") ∈ m_fl := by decide +kernel
set_option maxRecDepth 100000 in
theorem nc_4 : Cond.not (.castable "NeverLike$Moody" "NeverLike$Shy") ∈ m_fl := by decide +kernel
set_option maxRecDepth 100000 in
theorem nc_5 : Cond.not (.castable "NeverLike$Painter" "NeverLike$Shy") ∈ m_fl := by decide +kernel
set_option maxRecDepth 100000 in
theorem nc_6 : Cond.not (.castable "NeverLike$Steep" "NeverLike$Shy") ∈ m_fl := by decide +kernel
set_option maxRecDepth 100000 in
theorem nc_7 : Cond.not (.castable "NeverLike$Green" "NeverLike$Moody") ∈ m_fl := by decide +kernel
set_option maxRecDepth 100000 in
theorem nc_8 : Cond.not (.castable "NeverLike$Old" "NeverLike$Moody") ∈ m_fl := by decide +kernel
set_option maxRecDepth 100000 in
theorem nc_9 : Cond.not (.castable "NeverLike$Painter" "NeverLike$Moody") ∈ m_fl := by decide +kernel
set_option maxRecDepth 100000 in
theorem nc_10 : Cond.not (.castable "NeverLike$Shy" "NeverLike$Moody") ∈ m_fl := by decide +kernel
set_option maxRecDepth 100000 in
theorem nc_11 : Cond.not (.castable "NeverLike$Steep" "NeverLike$Moody") ∈ m_fl := by decide +kernel
set_option maxRecDepth 100000 in
theorem nc_12 : Cond.not (.castable "NeverLike$Green" "NeverLike$Old") ∈ m_fl := by decide +kernel
set_option maxRecDepth 100000 in
theorem nc_13 : Cond.not (.castable "NeverLike$Moody" "NeverLike$Old") ∈ m_fl := by decide +kernel
set_option maxRecDepth 100000 in
theorem nc_14 : Cond.not (.castable "NeverLike$Painter" "NeverLike$Old") ∈ m_fl := by decide +kernel
set_option maxRecDepth 100000 in
theorem nc_15 : Cond.not (.castable "NeverLike$Shy" "NeverLike$Old") ∈ m_fl := by decide +kernel
set_option maxRecDepth 100000 in
theorem nc_16 : Cond.not (.castable "NeverLike$Steep" "NeverLike$Old") ∈ m_fl := by decide +kernel
set_option maxRecDepth 100000 in
theorem nc_17 : Cond.not (.castable "NeverLike$Moody" "NeverLike$Green") ∈ m_fl := by decide +kernel
set_option maxRecDepth 100000 in
theorem nc_18 : Cond.not (.castable "NeverLike$Old" "NeverLike$Green") ∈ m_fl := by decide +kernel
set_option maxRecDepth 100000 in
theorem nc_19 : Cond.not (.castable "NeverLike$Painter" "NeverLike$Green") ∈ m_fl := by decide +kernel
set_option maxRecDepth 100000 in
theorem nc_20 : Cond.not (.castable "NeverLike$Shy" "NeverLike$Green") ∈ m_fl := by decide +kernel
set_option maxRecDepth 100000 in
theorem nc_21 : Cond.not (.castable "NeverLike$Steep" "NeverLike$Green") ∈ m_fl := by decide +kernel
set_option maxRecDepth 100000 in
theorem nl_1 : ∀ i, i < 13 → Cond.exactly (m_tm i) "java/lang/String" ∈ m_fl := by decide +kernel
set_option maxRecDepth 100000 in
theorem nl_2 : ∀ i, i < 13 → Cond.eq (.field (m_tm i) "java/lang/String" "coder" "B") (.int 0) ∈ m_fl := by decide +kernel
set_option maxRecDepth 100000 in
theorem nl_3 : ∀ i, i < 13 → Cond.arrayOf (.field (m_tm i) "java/lang/String" "value" "[B") .byte ∈ m_fl := by decide +kernel
set_option maxRecDepth 100000 in
theorem nl_4 : ∀ i, i < 13 → Cond.eq (.length (.field (m_tm i) "java/lang/String" "value" "[B")) (.int (Int32.ofNat (m_lenL.getD i 0))) ∈ m_fl := by decide +kernel
set_option maxRecDepth 100000 in
theorem nl_5 : ∀ i, i < 13 → ∀ j, j < m_lenL.getD i 0 → Cond.eq (.elem (.field (m_tm i) "java/lang/String" "value" "[B") (.int (Int32.ofNat j))) (.int ((m_bytL.getD i []).getD j 0)) ∈ m_fl := by decide +kernel
set_option maxRecDepth 100000 in
theorem nl_6_1 : ∀ i, i < 1 → Cond.not (Cond.eq (m_tm i) (m_tm 1)) ∈ m_fl := by decide +kernel
set_option maxRecDepth 100000 in
theorem nl_6_2 : ∀ i, i < 2 → Cond.not (Cond.eq (m_tm i) (m_tm 2)) ∈ m_fl := by decide +kernel
set_option maxRecDepth 100000 in
theorem nl_6_3 : ∀ i, i < 3 → Cond.not (Cond.eq (m_tm i) (m_tm 3)) ∈ m_fl := by decide +kernel
set_option maxRecDepth 100000 in
theorem nl_6_4 : ∀ i, i < 4 → Cond.not (Cond.eq (m_tm i) (m_tm 4)) ∈ m_fl := by decide +kernel
set_option maxRecDepth 100000 in
theorem nl_6_5 : ∀ i, i < 5 → Cond.not (Cond.eq (m_tm i) (m_tm 5)) ∈ m_fl := by decide +kernel
set_option maxRecDepth 100000 in
theorem nl_6_6 : ∀ i, i < 6 → Cond.not (Cond.eq (m_tm i) (m_tm 6)) ∈ m_fl := by decide +kernel
set_option maxRecDepth 100000 in
theorem nl_6_7 : ∀ i, i < 7 → Cond.not (Cond.eq (m_tm i) (m_tm 7)) ∈ m_fl := by decide +kernel
set_option maxRecDepth 100000 in
theorem nl_6_8 : ∀ i, i < 8 → Cond.not (Cond.eq (m_tm i) (m_tm 8)) ∈ m_fl := by decide +kernel
set_option maxRecDepth 100000 in
theorem nl_6_9 : ∀ i, i < 9 → Cond.not (Cond.eq (m_tm i) (m_tm 9)) ∈ m_fl := by decide +kernel
set_option maxRecDepth 100000 in
theorem nl_6_10 : ∀ i, i < 10 → Cond.not (Cond.eq (m_tm i) (m_tm 10)) ∈ m_fl := by decide +kernel
set_option maxRecDepth 100000 in
theorem nl_6_11 : ∀ i, i < 11 → Cond.not (Cond.eq (m_tm i) (m_tm 11)) ∈ m_fl := by decide +kernel
set_option maxRecDepth 100000 in
theorem nl_6_12 : ∀ i, i < 12 → Cond.not (Cond.eq (m_tm i) (m_tm 12)) ∈ m_fl := by decide +kernel
theorem nl_6a : ∀ j, j < 13 → ∀ i, i < j → Cond.not (Cond.eq (m_tm i) (m_tm j)) ∈ m_fl := by
  intro j hj
  match j, hj with
  | 0, _ => exact fun i h => absurd h (Nat.not_lt_zero i)
  | 1, _ => exact nl_6_1
  | 2, _ => exact nl_6_2
  | 3, _ => exact nl_6_3
  | 4, _ => exact nl_6_4
  | 5, _ => exact nl_6_5
  | 6, _ => exact nl_6_6
  | 7, _ => exact nl_6_7
  | 8, _ => exact nl_6_8
  | 9, _ => exact nl_6_9
  | 10, _ => exact nl_6_10
  | 11, _ => exact nl_6_11
  | 12, _ => exact nl_6_12
  | j + 13, h => exact absurd h (by omega)
theorem nl_6 (i : Nat) (hi : i < 13) (j : Nat) (hj : j < 13) (hij : i ≠ j) : Cond.not (Cond.eq (m_tm i) (m_tm j)) ∈ m_fl ∨ Cond.not (Cond.eq (m_tm j) (m_tm i)) ∈ m_fl := by
  rcases Nat.lt_or_gt_of_ne hij with h | h
  · exact Or.inl (nl_6a j hj i h)
  · exact Or.inr (nl_6a i hi j h)
set_option maxRecDepth 100000 in
theorem nl_7 : Cond.eq (Term.static "java/lang/String" "COMPACT_STRINGS" "Z") (.int 1) ∈ m_fl := by decide +kernel
set_option maxRecDepth 100000 in
theorem nl_8 : Cond.isRef (Term.static "jdk/internal/util/Preconditions" "SIOOBE_FORMATTER" "Ljava/util/function/BiFunction;") ∈ m_fl := by decide +kernel
