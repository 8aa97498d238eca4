/-! BRANCHES AND SUMS at ints by their values (written by wip/gen/rules.py) -/
section
variable {K : m_X} {lv r' : List m_V} {h : m_H} {d t : Nat} {x y : Int} {Q : Option m_V → m_H → Prop}
theorem wi_0 : w_i 0 = 0 := rfl
theorem i_addL {n : Nat} (e : n = w_i y) (x : Int) : m_add (w_i x) n = w_i (x + y) := by subst e; exact i_add x y
theorem w_icI {n : Nat} {st : List m_V} (e : n = w_i x) (hK : wx d K lv (.inl (w_i x) :: st) h Q) : wx d (x_ic n K) lv st h Q := by subst e; exact w_ic hK
theorem w_ltt (hx : x < y) (x0 : -2147483648 ≤ x) (x1 : x ≤ 2147483647) (y0 : -2147483648 ≤ y) (y1 : y ≤ 2147483647) (hg : wp d t lv r' h Q) : wx d (x_ci m_blt t K) lv (.inl (w_i y) :: .inl (w_i x) :: r') h Q := w_cit (i_lt_t hx x0 x1 y0 y1) hg
theorem w_ltf (hx : y ≤ x) (x0 : -2147483648 ≤ x) (x1 : x ≤ 2147483647) (y0 : -2147483648 ≤ y) (y1 : y ≤ 2147483647) (hK : wx d K lv r' h Q) : wx d (x_ci m_blt t K) lv (.inl (w_i y) :: .inl (w_i x) :: r') h Q := w_cif (i_lt_f hx x0 x1 y0 y1) hK
theorem w_lt2 (x0 : -2147483648 ≤ x) (x1 : x ≤ 2147483647) (y0 : -2147483648 ≤ y) (y1 : y ≤ 2147483647) (hg : x < y → wp d t lv r' h Q) (hK : y ≤ x → wx d K lv r' h Q) : wx d (x_ci m_blt t K) lv (.inl (w_i y) :: .inl (w_i x) :: r') h Q := by
  by_cases hx : x < y
  · exact w_ltt hx x0 x1 y0 y1 (hg hx)
  · exact w_ltf (by omega) x0 x1 y0 y1 (hK (by omega))
theorem w_ltzt (hx : x < 0) (x0 : -2147483648 ≤ x) (x1 : x ≤ 2147483647) (hg : wp d t lv r' h Q) : wx d (x_cz m_blt t K) lv (.inl (w_i x) :: r') h Q := w_czt (show m_blt (w_i x) (w_i 0) = true from i_lt_t hx x0 x1 (by decide) (by decide)) hg
theorem w_ltzf (hx : 0 ≤ x) (x0 : -2147483648 ≤ x) (x1 : x ≤ 2147483647) (hK : wx d K lv r' h Q) : wx d (x_cz m_blt t K) lv (.inl (w_i x) :: r') h Q := w_czf (show m_blt (w_i x) (w_i 0) = false from i_lt_f hx x0 x1 (by decide) (by decide)) hK
theorem w_ltz2 (x0 : -2147483648 ≤ x) (x1 : x ≤ 2147483647) (hg : x < 0 → wp d t lv r' h Q) (hK : 0 ≤ x → wx d K lv r' h Q) : wx d (x_cz m_blt t K) lv (.inl (w_i x) :: r') h Q := by
  by_cases hx : x < 0
  · exact w_ltzt hx x0 x1 (hg hx)
  · exact w_ltzf (by omega) x0 x1 (hK (by omega))
theorem w_get (hx : y ≤ x) (x0 : -2147483648 ≤ x) (x1 : x ≤ 2147483647) (y0 : -2147483648 ≤ y) (y1 : y ≤ 2147483647) (hg : wp d t lv r' h Q) : wx d (x_ci m_bge t K) lv (.inl (w_i y) :: .inl (w_i x) :: r') h Q := w_cit (i_ge_t hx x0 x1 y0 y1) hg
theorem w_gef (hx : x < y) (x0 : -2147483648 ≤ x) (x1 : x ≤ 2147483647) (y0 : -2147483648 ≤ y) (y1 : y ≤ 2147483647) (hK : wx d K lv r' h Q) : wx d (x_ci m_bge t K) lv (.inl (w_i y) :: .inl (w_i x) :: r') h Q := w_cif (i_ge_f hx x0 x1 y0 y1) hK
theorem w_ge2 (x0 : -2147483648 ≤ x) (x1 : x ≤ 2147483647) (y0 : -2147483648 ≤ y) (y1 : y ≤ 2147483647) (hg : y ≤ x → wp d t lv r' h Q) (hK : x < y → wx d K lv r' h Q) : wx d (x_ci m_bge t K) lv (.inl (w_i y) :: .inl (w_i x) :: r') h Q := by
  by_cases hx : y ≤ x
  · exact w_get hx x0 x1 y0 y1 (hg hx)
  · exact w_gef (by omega) x0 x1 y0 y1 (hK (by omega))
theorem w_gezt (hx : 0 ≤ x) (x0 : -2147483648 ≤ x) (x1 : x ≤ 2147483647) (hg : wp d t lv r' h Q) : wx d (x_cz m_bge t K) lv (.inl (w_i x) :: r') h Q := w_czt (show m_bge (w_i x) (w_i 0) = true from i_ge_t hx x0 x1 (by decide) (by decide)) hg
theorem w_gezf (hx : x < 0) (x0 : -2147483648 ≤ x) (x1 : x ≤ 2147483647) (hK : wx d K lv r' h Q) : wx d (x_cz m_bge t K) lv (.inl (w_i x) :: r') h Q := w_czf (show m_bge (w_i x) (w_i 0) = false from i_ge_f hx x0 x1 (by decide) (by decide)) hK
theorem w_gez2 (x0 : -2147483648 ≤ x) (x1 : x ≤ 2147483647) (hg : 0 ≤ x → wp d t lv r' h Q) (hK : x < 0 → wx d K lv r' h Q) : wx d (x_cz m_bge t K) lv (.inl (w_i x) :: r') h Q := by
  by_cases hx : 0 ≤ x
  · exact w_gezt hx x0 x1 (hg hx)
  · exact w_gezf (by omega) x0 x1 (hK (by omega))
theorem w_gtt (hx : y < x) (x0 : -2147483648 ≤ x) (x1 : x ≤ 2147483647) (y0 : -2147483648 ≤ y) (y1 : y ≤ 2147483647) (hg : wp d t lv r' h Q) : wx d (x_ci m_bgt t K) lv (.inl (w_i y) :: .inl (w_i x) :: r') h Q := w_cit (i_gt_t hx x0 x1 y0 y1) hg
theorem w_gtf (hx : x ≤ y) (x0 : -2147483648 ≤ x) (x1 : x ≤ 2147483647) (y0 : -2147483648 ≤ y) (y1 : y ≤ 2147483647) (hK : wx d K lv r' h Q) : wx d (x_ci m_bgt t K) lv (.inl (w_i y) :: .inl (w_i x) :: r') h Q := w_cif (i_gt_f hx x0 x1 y0 y1) hK
theorem w_gt2 (x0 : -2147483648 ≤ x) (x1 : x ≤ 2147483647) (y0 : -2147483648 ≤ y) (y1 : y ≤ 2147483647) (hg : y < x → wp d t lv r' h Q) (hK : x ≤ y → wx d K lv r' h Q) : wx d (x_ci m_bgt t K) lv (.inl (w_i y) :: .inl (w_i x) :: r') h Q := by
  by_cases hx : y < x
  · exact w_gtt hx x0 x1 y0 y1 (hg hx)
  · exact w_gtf (by omega) x0 x1 y0 y1 (hK (by omega))
theorem w_gtzt (hx : 0 < x) (x0 : -2147483648 ≤ x) (x1 : x ≤ 2147483647) (hg : wp d t lv r' h Q) : wx d (x_cz m_bgt t K) lv (.inl (w_i x) :: r') h Q := w_czt (show m_bgt (w_i x) (w_i 0) = true from i_gt_t hx x0 x1 (by decide) (by decide)) hg
theorem w_gtzf (hx : x ≤ 0) (x0 : -2147483648 ≤ x) (x1 : x ≤ 2147483647) (hK : wx d K lv r' h Q) : wx d (x_cz m_bgt t K) lv (.inl (w_i x) :: r') h Q := w_czf (show m_bgt (w_i x) (w_i 0) = false from i_gt_f hx x0 x1 (by decide) (by decide)) hK
theorem w_gtz2 (x0 : -2147483648 ≤ x) (x1 : x ≤ 2147483647) (hg : 0 < x → wp d t lv r' h Q) (hK : x ≤ 0 → wx d K lv r' h Q) : wx d (x_cz m_bgt t K) lv (.inl (w_i x) :: r') h Q := by
  by_cases hx : 0 < x
  · exact w_gtzt hx x0 x1 (hg hx)
  · exact w_gtzf (by omega) x0 x1 (hK (by omega))
theorem w_let (hx : x ≤ y) (x0 : -2147483648 ≤ x) (x1 : x ≤ 2147483647) (y0 : -2147483648 ≤ y) (y1 : y ≤ 2147483647) (hg : wp d t lv r' h Q) : wx d (x_ci m_ble t K) lv (.inl (w_i y) :: .inl (w_i x) :: r') h Q := w_cit (i_le_t hx x0 x1 y0 y1) hg
theorem w_lef (hx : y < x) (x0 : -2147483648 ≤ x) (x1 : x ≤ 2147483647) (y0 : -2147483648 ≤ y) (y1 : y ≤ 2147483647) (hK : wx d K lv r' h Q) : wx d (x_ci m_ble t K) lv (.inl (w_i y) :: .inl (w_i x) :: r') h Q := w_cif (i_le_f hx x0 x1 y0 y1) hK
theorem w_le2 (x0 : -2147483648 ≤ x) (x1 : x ≤ 2147483647) (y0 : -2147483648 ≤ y) (y1 : y ≤ 2147483647) (hg : x ≤ y → wp d t lv r' h Q) (hK : y < x → wx d K lv r' h Q) : wx d (x_ci m_ble t K) lv (.inl (w_i y) :: .inl (w_i x) :: r') h Q := by
  by_cases hx : x ≤ y
  · exact w_let hx x0 x1 y0 y1 (hg hx)
  · exact w_lef (by omega) x0 x1 y0 y1 (hK (by omega))
theorem w_lezt (hx : x ≤ 0) (x0 : -2147483648 ≤ x) (x1 : x ≤ 2147483647) (hg : wp d t lv r' h Q) : wx d (x_cz m_ble t K) lv (.inl (w_i x) :: r') h Q := w_czt (show m_ble (w_i x) (w_i 0) = true from i_le_t hx x0 x1 (by decide) (by decide)) hg
theorem w_lezf (hx : 0 < x) (x0 : -2147483648 ≤ x) (x1 : x ≤ 2147483647) (hK : wx d K lv r' h Q) : wx d (x_cz m_ble t K) lv (.inl (w_i x) :: r') h Q := w_czf (show m_ble (w_i x) (w_i 0) = false from i_le_f hx x0 x1 (by decide) (by decide)) hK
theorem w_lez2 (x0 : -2147483648 ≤ x) (x1 : x ≤ 2147483647) (hg : x ≤ 0 → wp d t lv r' h Q) (hK : 0 < x → wx d K lv r' h Q) : wx d (x_cz m_ble t K) lv (.inl (w_i x) :: r') h Q := by
  by_cases hx : x ≤ 0
  · exact w_lezt hx x0 x1 (hg hx)
  · exact w_lezf (by omega) x0 x1 (hK (by omega))
theorem w_eqt (hx : x = y) (x0 : -2147483648 ≤ x) (x1 : x ≤ 2147483647) (y0 : -2147483648 ≤ y) (y1 : y ≤ 2147483647) (hg : wp d t lv r' h Q) : wx d (x_ci m_beq t K) lv (.inl (w_i y) :: .inl (w_i x) :: r') h Q := w_cit (i_eq_t hx ) hg
theorem w_eqf (hx : x ≠ y) (x0 : -2147483648 ≤ x) (x1 : x ≤ 2147483647) (y0 : -2147483648 ≤ y) (y1 : y ≤ 2147483647) (hK : wx d K lv r' h Q) : wx d (x_ci m_beq t K) lv (.inl (w_i y) :: .inl (w_i x) :: r') h Q := w_cif (i_eq_f hx x0 x1 y0 y1) hK
theorem w_eq2 (x0 : -2147483648 ≤ x) (x1 : x ≤ 2147483647) (y0 : -2147483648 ≤ y) (y1 : y ≤ 2147483647) (hg : x = y → wp d t lv r' h Q) (hK : x ≠ y → wx d K lv r' h Q) : wx d (x_ci m_beq t K) lv (.inl (w_i y) :: .inl (w_i x) :: r') h Q := by
  by_cases hx : x = y
  · exact w_eqt hx x0 x1 y0 y1 (hg hx)
  · exact w_eqf hx x0 x1 y0 y1 (hK hx)
theorem w_eqzt (hx : x = 0) (x0 : -2147483648 ≤ x) (x1 : x ≤ 2147483647) (hg : wp d t lv r' h Q) : wx d (x_cz m_beq t K) lv (.inl (w_i x) :: r') h Q := w_czt (show m_beq (w_i x) (w_i 0) = true from i_eq_t hx ) hg
theorem w_eqzf (hx : x ≠ 0) (x0 : -2147483648 ≤ x) (x1 : x ≤ 2147483647) (hK : wx d K lv r' h Q) : wx d (x_cz m_beq t K) lv (.inl (w_i x) :: r') h Q := w_czf (show m_beq (w_i x) (w_i 0) = false from i_eq_f hx x0 x1 (by decide) (by decide)) hK
theorem w_eqz2 (x0 : -2147483648 ≤ x) (x1 : x ≤ 2147483647) (hg : x = 0 → wp d t lv r' h Q) (hK : x ≠ 0 → wx d K lv r' h Q) : wx d (x_cz m_beq t K) lv (.inl (w_i x) :: r') h Q := by
  by_cases hx : x = 0
  · exact w_eqzt hx x0 x1 (hg hx)
  · exact w_eqzf hx x0 x1 (hK hx)
theorem w_net (hx : x ≠ y) (x0 : -2147483648 ≤ x) (x1 : x ≤ 2147483647) (y0 : -2147483648 ≤ y) (y1 : y ≤ 2147483647) (hg : wp d t lv r' h Q) : wx d (x_ci m_bne t K) lv (.inl (w_i y) :: .inl (w_i x) :: r') h Q := w_cit (i_ne_t hx x0 x1 y0 y1) hg
theorem w_nef (hx : x = y) (x0 : -2147483648 ≤ x) (x1 : x ≤ 2147483647) (y0 : -2147483648 ≤ y) (y1 : y ≤ 2147483647) (hK : wx d K lv r' h Q) : wx d (x_ci m_bne t K) lv (.inl (w_i y) :: .inl (w_i x) :: r') h Q := w_cif (i_ne_f hx ) hK
theorem w_ne2 (x0 : -2147483648 ≤ x) (x1 : x ≤ 2147483647) (y0 : -2147483648 ≤ y) (y1 : y ≤ 2147483647) (hg : x ≠ y → wp d t lv r' h Q) (hK : x = y → wx d K lv r' h Q) : wx d (x_ci m_bne t K) lv (.inl (w_i y) :: .inl (w_i x) :: r') h Q := by
  by_cases hx : x = y
  · exact w_nef hx x0 x1 y0 y1 (hK hx)
  · exact w_net hx x0 x1 y0 y1 (hg hx)
theorem w_nezt (hx : x ≠ 0) (x0 : -2147483648 ≤ x) (x1 : x ≤ 2147483647) (hg : wp d t lv r' h Q) : wx d (x_cz m_bne t K) lv (.inl (w_i x) :: r') h Q := w_czt (show m_bne (w_i x) (w_i 0) = true from i_ne_t hx x0 x1 (by decide) (by decide)) hg
theorem w_nezf (hx : x = 0) (x0 : -2147483648 ≤ x) (x1 : x ≤ 2147483647) (hK : wx d K lv r' h Q) : wx d (x_cz m_bne t K) lv (.inl (w_i x) :: r') h Q := w_czf (show m_bne (w_i x) (w_i 0) = false from i_ne_f hx ) hK
theorem w_nez2 (x0 : -2147483648 ≤ x) (x1 : x ≤ 2147483647) (hg : x ≠ 0 → wp d t lv r' h Q) (hK : x = 0 → wx d K lv r' h Q) : wx d (x_cz m_bne t K) lv (.inl (w_i x) :: r') h Q := by
  by_cases hx : x = 0
  · exact w_nezf hx x0 x1 (hK hx)
  · exact w_nezt hx x0 x1 (hg hx)
/-- a number of which only the range is known -/
theorem w_opR {f : Nat → Nat → Nat} {a b : Nat} (hf : f a b < 4294967296) (hK : ∀ z : Int, -2147483648 ≤ z → z ≤ 2147483647 → f a b = w_i z → wx d K lv (.inl (w_i z) :: r') h Q) : wx d (x_op f K) lv (.inl b :: .inl a :: r') h Q := by
  obtain ⟨z, e, z0, z1⟩ := i_any hf
  exact w_op e (hK z z0 z1 e)
theorem w_opzR {f : Nat → Nat → Nat} {a b : Nat} (e0 : m_beq b 0 = false) (hf : f a b < 4294967296) (hK : ∀ z : Int, -2147483648 ≤ z → z ≤ 2147483647 → f a b = w_i z → wx d K lv (.inl (w_i z) :: r') h Q) : wx d (x_opz f K) lv (.inl b :: .inl a :: r') h Q := by
  obtain ⟨z, e, z0, z1⟩ := i_any hf
  exact w_opz e0 e (hK z z0 z1 e)
theorem w_opP {f : Nat → Nat → Nat} {a b : Nat} (hf : f a b < 2147483648) (hK : ∀ z : Int, 0 ≤ z → z ≤ 2147483647 → f a b = w_i z → wx d K lv (.inl (w_i z) :: r') h Q) : wx d (x_op f K) lv (.inl b :: .inl a :: r') h Q := w_op (wi_nat (by omega)).symm (hK (f a b : Nat) (by omega) (by omega) (wi_nat (by omega)).symm)
theorem w_op01 {f : Nat → Nat → Nat} {a b : Nat} (hf : f a b < 2) (hK : ∀ z : Int, 0 ≤ z → z ≤ 1 → f a b = w_i z → wx d K lv (.inl (w_i z) :: r') h Q) : wx d (x_op f K) lv (.inl b :: .inl a :: r') h Q := w_op (wi_nat (by omega)).symm (hK (f a b : Nat) (by omega) (by omega) (wi_nat (by omega)).symm)
theorem w_unR {f : Nat → Nat} {a : Nat} (hf : f a < 4294967296) (hK : ∀ z : Int, -2147483648 ≤ z → z ≤ 2147483647 → f a = w_i z → wx d K lv (.inl (w_i z) :: r') h Q) : wx d (x_un f K) lv (.inl a :: r') h Q := by
  obtain ⟨z, e, z0, z1⟩ := i_any hf
  exact w_un e (hK z z0 z1 e)
end
theorem lt_mod {a : Nat} : a % 4294967296 < 4294967296 := Nat.mod_lt _ (Nat.lt_of_sub_ne_zero (by decide))
theorem add_lt {a b : Nat} : m_add a b < 4294967296 := lt_mod
theorem sub_lt {a b : Nat} : m_sub a b < 4294967296 := lt_mod
theorem mul_lt {a b : Nat} : m_mul a b < 4294967296 := lt_mod
theorem and_lt {a b : Nat} : m_and a b < 4294967296 := lt_mod
theorem or_lt {a b : Nat} : m_or a b < 4294967296 := lt_mod
theorem xor_lt {a b : Nat} : m_xor a b < 4294967296 := lt_mod
theorem neg_lt {a : Nat} : m_neg a < 4294967296 := lt_mod
theorem mn_lt2 (x : Int32) : m_n x < 4294967296 := x.toBitVec.isLt
theorem i2b_lt {a : Nat} : m_i2b a < 4294967296 := mn_lt2 _
theorem i2s_lt {a : Nat} : m_i2s a < 4294967296 := mn_lt2 _
theorem lcmp_lt {a b : Nat} : m_lcmp a b < 4294967296 := mn_lt2 _
theorem sel_lt {b : Bool} {x y c : Nat} (h1 : b = true → x < c) (h2 : y < c) : m_sel b x y < c := by
  cases b
  · exact h2
  · exact h1 rfl
theorem shl_lt {a b : Nat} : m_shl a b < 4294967296 := sel_lt (fun _ => lt_mod) (mn_lt2 _)
theorem shr_lt {a b : Nat} : m_shr a b < 4294967296 := sel_lt (fun _ => sel_lt (fun h => by
  have h1 : a + 1 ≤ 2147483648 := Nat.le_of_ble_eq_true h
  show a >>> b < 4294967296
  rw [Nat.shiftRight_eq_div_pow]
  have := Nat.div_le_self a (2 ^ b)
  omega) (mn_lt2 _)) (mn_lt2 _)
theorem div_lt {a b : Nat} : m_div a b < 4294967296 := sel_lt (fun h => sel_lt (fun _ => sel_lt (fun _ => by
  have h1 : a + 1 ≤ 2147483648 := Nat.le_of_ble_eq_true h
  show a / b < 4294967296
  have := Nat.div_le_self a b
  omega) (mn_lt2 _)) (mn_lt2 _)) (mn_lt2 _)
theorem rem_lt {a b : Nat} : m_rem a b < 4294967296 := sel_lt (fun h => sel_lt (fun _ => sel_lt (fun _ => by
  have h1 : a + 1 ≤ 2147483648 := Nat.le_of_ble_eq_true h
  show a % b < 4294967296
  have := Nat.mod_le a b
  omega) (mn_lt2 _)) (mn_lt2 _)) (mn_lt2 _)
theorem and_1 {a : Nat} : m_and a (w_i 1) < 2 := Nat.lt_of_le_of_lt (Nat.mod_le _ _) (Nat.lt_succ_of_le (Nat.and_le_right (n := a) (m := 1)))
theorem ushr_p {x k : Int} (k0 : 1 ≤ k) (k1 : k ≤ 30) : m_ushr (w_i x) (w_i k) < 2147483648 := by
  rw [wi_pos (x := k) (by omega) (by omega)]
  unfold m_ushr
  rw [show Nat.ble (Nat.succ k.toNat) 31 = true from Nat.ble_eq_true_of_le (by omega)]
  show (w_i x % 4294967296) >>> k.toNat < 2147483648
  rw [Nat.shiftRight_eq_div_pow]
  have h2 := wi_lt x
  rw [wi_mod]
  have h3 : 2 ^ 1 ≤ 2 ^ k.toNat := Nat.pow_le_pow_right (by decide) (by omega)
  rw [Nat.div_lt_iff_lt_mul (by omega)]
  omega
theorem ag_rg (A : Nat) (x : Int) : -2147483648 ≤ a_g A x ∧ a_g A x ≤ 2147483647 := ⟨ag_lo A x, ag_hi A x⟩
theorem beq0 {y : Int} (h : y ≠ 0) (y0 : -2147483648 ≤ y) (y1 : y ≤ 2147483647) : m_beq (w_i y) 0 = false := show m_beq (w_i y) (w_i 0) = false from i_eq_f h y0 y1 (by decide) (by decide)
section
variable {K : m_X} {lv r' : List m_V} {h : m_H} {d t : Nat} {x y : Int} {Q : Option m_V → m_H → Prop}
theorem w_cst {X : m_X} {n : Nat} (e : n = w_i x) (hK : wx d X lv (.inl (w_i x) :: r') h Q) : wx d X lv (.inl n :: r') h Q := by rw [e]; exact hK
theorem w_nat {X : m_X} {n : Nat} (hn : n < 4294967296) (hK : wx d X lv (.inl (w_i (n : Int)) :: r') h Q) : wx d X lv (.inl n :: r') h Q := by rw [wi_nat hn] at hK; exact hK
theorem bz (h0 : 0 ≤ x) (h1 : x ≤ 1) : Nat.ble (w_i x) 1 = true := Nat.ble_eq_true_of_le (by rw [wi_pos h0 (by omega)]; omega)
theorem w_tswD {ts : List Nat} {n : Nat} (x0 : -2147483648 ≤ x) (x1 : x ≤ 2147483647) (hx : x < 0 ∨ (ts.length : Int) ≤ x) (hl : ts.length ≤ 1000) (hg : wp d n lv r' h Q) : wx d (x_tsw 0 ts n) lv (.inl (w_i x) :: r') h Q := by
  refine w_tsw (t := n) (tsw_d ?_ (wi_lt x)) hg
  have := wi_int x
  omega
theorem w_lswD {ps : List (Nat × Nat)} {n : Nat} (x0 : -2147483648 ≤ x) (x1 : x ≤ 2147483647) (hp : ∀ p ∈ ps, m_beq (w_i x) p.1 = false) (hg : wp d n lv r' h Q) : wx d (x_lsw ps n) lv (.inl (w_i x) :: r') h Q := by
  refine w_lsw (t := n) (fun f => ?_) hg
  induction ps with
  | nil => rfl
  | cons p ps ih =>
    show m_if (m_beq (w_i x) p.1) (f p.2) (List.rec (motive := fun _ => m_R) (f n) (fun p _ ih => m_if (m_beq (w_i x) p.1) (f p.2) ih) ps) = f n
    rw [hp p List.mem_cons_self]
    exact ih (fun q hq => hp q (List.mem_cons_of_mem _ hq))
theorem beqI {c : Int} (hx : x ≠ c) (x0 : -2147483648 ≤ x) (x1 : x ≤ 2147483647) (c0 : -2147483648 ≤ c) (c1 : c ≤ 2147483647) {n : Nat} (e : n = w_i c) : m_beq (w_i x) n = false := by subst e; exact i_eq_f hx x0 x1 c0 c1
end
theorem wn_1 : (4294967295 : Nat) = w_i (-1) := by unfold w_i; decide +kernel
theorem wn_2 : (4294967294 : Nat) = w_i (-2) := by unfold w_i; decide +kernel
theorem wn_3 : (4294967293 : Nat) = w_i (-3) := by unfold w_i; decide +kernel
theorem wn_4 : (4294967292 : Nat) = w_i (-4) := by unfold w_i; decide +kernel
theorem wn_5 : (4294967291 : Nat) = w_i (-5) := by unfold w_i; decide +kernel
theorem wn_6 : (4294967290 : Nat) = w_i (-6) := by unfold w_i; decide +kernel
theorem wn_7 : (4294967289 : Nat) = w_i (-7) := by unfold w_i; decide +kernel
theorem wn_8 : (4294967288 : Nat) = w_i (-8) := by unfold w_i; decide +kernel
theorem wn_9 : (4294967287 : Nat) = w_i (-9) := by unfold w_i; decide +kernel
theorem wn_10 : (4294967286 : Nat) = w_i (-10) := by unfold w_i; decide +kernel
theorem wn_11 : (4294967285 : Nat) = w_i (-11) := by unfold w_i; decide +kernel
theorem wn_12 : (4294967284 : Nat) = w_i (-12) := by unfold w_i; decide +kernel
theorem wn_13 : (4294967283 : Nat) = w_i (-13) := by unfold w_i; decide +kernel
theorem wn_14 : (4294967282 : Nat) = w_i (-14) := by unfold w_i; decide +kernel
theorem wn_15 : (4294967281 : Nat) = w_i (-15) := by unfold w_i; decide +kernel
theorem wn_16 : (4294967280 : Nat) = w_i (-16) := by unfold w_i; decide +kernel
theorem wn_100 : (4294967196 : Nat) = w_i (-100) := by unfold w_i; decide +kernel
