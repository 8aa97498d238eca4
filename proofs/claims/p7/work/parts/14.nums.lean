/-! NUMBERS: the plain machine's against the machine's ints -/
theorem mn_t (n : Nat) : (nI n).toBitVec.toNat = n % 4294967296 := by
  show (BitVec.ofNat 32 n).toNat = _
  rw [BitVec.toNat_ofNat]
theorem mn_inj {x y : Int32} (h : x.toBitVec.toNat = y.toBitVec.toNat) : x = y := Int32.toBitVec_inj.mp (BitVec.eq_of_toNat_eq h)
theorem mn_congr {a b : Nat} (h : a % 4294967296 = b % 4294967296) : nI a = nI b := mn_inj (by rw [mn_t, mn_t, h])
theorem mn_n (x : Int32) : nI (m_n x) = x := mn_inj (by
  rw [mn_t]
  exact Nat.mod_eq_of_lt x.toBitVec.isLt)
theorem mn_eq {a b : Nat} : nI a = nI b ↔ a % 4294967296 = b % 4294967296 := ⟨fun h => by rw [← mn_t, ← mn_t, h], mn_congr⟩
theorem mn_add (a b : Nat) : nI a + nI b = nI (m_add a b) := by
  rw [nI_add]
  exact mn_congr (Nat.mod_mod _ _).symm
theorem mn_mul (a b : Nat) : nI a * nI b = nI (m_mul a b) := by
  rw [pk_mul]
  exact mn_congr (Nat.mod_mod _ _).symm
theorem mn_sub (a b : Nat) : nI a - nI b = nI (m_sub a b) := by
  have h : nI (m_sub a b) + nI b = nI a := by
    rw [nI_add]
    refine mn_congr ?_
    show ((a + 4294967296 - b % 4294967296) % 4294967296 + b) % 4294967296 = _
    omega
  rw [← h, Int32.add_sub_cancel]
theorem mn_and (a b : Nat) : nI a &&& nI b = nI (m_and a b) := mn_inj (by
  rw [mn_t, Int32.toBitVec_and, BitVec.toNat_and, mn_t, mn_t]
  show _ = ((a &&& b) % 2 ^ 32) % 2 ^ 32
  rw [Nat.mod_mod]
  exact (Nat.and_mod_two_pow (a := a) (b := b) (n := 32)).symm)
theorem mn_or (a b : Nat) : nI a ||| nI b = nI (m_or a b) := mn_inj (by
  rw [mn_t, Int32.toBitVec_or, BitVec.toNat_or, mn_t, mn_t]
  show _ = ((a ||| b) % 2 ^ 32) % 2 ^ 32
  rw [Nat.mod_mod]
  exact (Nat.or_mod_two_pow (a := a) (b := b) (n := 32)).symm)
theorem mn_xor (a b : Nat) : nI a ^^^ nI b = nI (m_xor a b) := mn_inj (by
  rw [mn_t, Int32.toBitVec_xor, BitVec.toNat_xor, mn_t, mn_t]
  show _ = ((a ^^^ b) % 2 ^ 32) % 2 ^ 32
  rw [Nat.mod_mod]
  exact (Nat.xor_mod_two_pow (a := a) (b := b) (n := 32)).symm)
theorem mn_toInt (a : Nat) : (nI a).toInt = (m_sg a : Int) - 2147483648 := by
  show (nI a).toBitVec.toInt = _
  rw [BitVec.toInt_eq_toNat_cond, mn_t]
  show _ = (((a + 2147483648) % 4294967296 : Nat) : Int) - 2147483648
  split <;> omega
theorem mn_lt {a b : Nat} : nI a < nI b ↔ m_sg a < m_sg b := by
  rw [Int32.lt_iff_toInt_lt, mn_toInt, mn_toInt]
  omega
theorem mn_le {a b : Nat} : nI a ≤ nI b ↔ m_sg a ≤ m_sg b := by
  rw [Int32.le_iff_toInt_le, mn_toInt, mn_toInt]
  omega
theorem mn_0 : nI 0 = 0 := rfl
theorem mn_beq {a b : Nat} : m_beq a b = true ↔ nI a = nI b := by
  rw [mn_eq]
  exact ⟨fun h => Nat.eq_of_beq_eq_true h, fun h => by unfold m_beq; exact Nat.beq_eq ▸ h⟩
theorem mn_bne {a b : Nat} : m_bne a b = true ↔ ¬ nI a = nI b := by
  rw [← mn_beq]
  unfold m_bne
  cases m_beq a b <;> simp
theorem mn_blt {a b : Nat} : m_blt a b = true ↔ nI a < nI b := by
  rw [mn_lt]
  exact ⟨Nat.le_of_ble_eq_true, Nat.ble_eq_true_of_le⟩
theorem mn_bgt {a b : Nat} : m_bgt a b = true ↔ nI b < nI a := by
  rw [mn_lt]
  exact ⟨Nat.le_of_ble_eq_true, Nat.ble_eq_true_of_le⟩
theorem mn_ble {a b : Nat} : m_ble a b = true ↔ nI a ≤ nI b := by
  rw [mn_le]
  exact ⟨Nat.le_of_ble_eq_true, Nat.ble_eq_true_of_le⟩
theorem mn_bge {a b : Nat} : m_bge a b = true ↔ nI b ≤ nI a := by
  rw [mn_le]
  exact ⟨Nat.le_of_ble_eq_true, Nat.ble_eq_true_of_le⟩
theorem mi_sel (b : Bool) (x y : Nat) : m_sel b x y = if b = true then x else y := by cases b <;> rfl
theorem mn_s1 : ∀ b, b < 31 → ((nI b &&& 31).toBitVec.smod 32).toNat = b := by decide +kernel
theorem mn_s2 : ∀ b, b < 31 → (((nI b).toUInt32 &&& Int32.toUInt32 31).toBitVec % 32).toNat = b := by decide +kernel
theorem mn_shl (a b : Nat) : nI a <<< (nI b &&& 31) = nI (m_shl a b) := by
  unfold m_shl
  rw [mi_sel]
  split
  · rename_i h
    have hb : b < 31 := Nat.le_of_ble_eq_true h
    refine mn_inj ?_
    rw [pk_shl _ _ b (mn_s1 b hb), mn_t, mn_t]
    show _ = (a <<< b % 2 ^ 32) % 2 ^ 32
    rw [Nat.mod_mod, Nat.shiftLeft_eq]
    show a % 2 ^ 32 * 2 ^ b % 2 ^ 32 = _
    rw [Nat.mod_mul_mod]
  · exact (mn_n _).symm
theorem mn_shr (a b : Nat) : nI a >>> (nI b &&& 31) = nI (m_shr a b) := by
  unfold m_shr
  rw [mi_sel, mi_sel]
  split
  · rename_i h
    have hb : b < 31 := Nat.le_of_ble_eq_true h
    split
    · rename_i h2
      have ha : a < 2 ^ 31 := Nat.le_of_ble_eq_true h2
      rw [pk_shrN ha _ b (mn_s1 b hb)]
      show _ = nI (a >>> b)
      rw [Nat.shiftRight_eq_div_pow]
    · exact (mn_n _).symm
  · exact (mn_n _).symm
theorem mn_ushr (a b : Nat) : ((nI a).toUInt32 >>> ((nI b).toUInt32 &&& Int32.toUInt32 31)).toInt32 = nI (m_ushr a b) := by
  unfold m_ushr
  rw [mi_sel]
  split
  · rename_i h
    have hb : b < 31 := Nat.le_of_ble_eq_true h
    refine mn_inj ?_
    rw [pk_ushr _ _ b (mn_s2 b hb), mn_t, mn_t]
    show _ = ((a % 4294967296) >>> b) % 4294967296
    rw [Nat.shiftRight_eq_div_pow]
    refine (Nat.mod_eq_of_lt ?_).symm
    exact Nat.lt_of_le_of_lt (Nat.div_le_self _ _) (Nat.mod_lt _ (by decide))
  · exact (mn_n _).symm
theorem mn_div (a b : Nat) : nI a / nI b = nI (m_div a b) := by
  unfold m_div
  rw [mi_sel, mi_sel, mi_sel]
  split
  · rename_i h1
    split
    · rename_i h2
      split
      · rename_i h3
        exact pk_div (Nat.le_of_ble_eq_true h1) (Nat.le_of_ble_eq_true h3) (Nat.le_of_ble_eq_true h2)
      · exact (mn_n _).symm
    · exact (mn_n _).symm
  · exact (mn_n _).symm
theorem mn_rem (a b : Nat) : nI a - nI a / nI b * nI b = nI (m_rem a b) := by
  unfold m_rem
  rw [mi_sel, mi_sel, mi_sel]
  split
  · rename_i h1
    split
    · rename_i h2
      split
      · rename_i h3
        exact pk_rem (Nat.le_of_ble_eq_true h1) (Nat.le_of_ble_eq_true h3) (Nat.le_of_ble_eq_true h2)
      · exact (mn_n _).symm
    · exact (mn_n _).symm
  · exact (mn_n _).symm
theorem mn_neg (a : Nat) : - nI a = nI (m_neg a) := by
  unfold m_neg
  rw [← mn_sub, mn_0, Int32.zero_sub]
theorem mn_in {i n : Nat} (h : i < n) (hn : n < 2 ^ 31) : vp_in (nI i) n := vp_in_nI h hn
theorem mn_cl {i n : Nat} (h : i < n) (hn : n < 2 ^ 31) : (nI i).toNatClampNeg = i := nI_clamp (by omega)
/-! arrays in a number -/
theorem ma_lt (A i : Nat) : m_ag A i < 4294967296 := Nat.mod_lt _ (by decide)
theorem ma_bit (A i b : Nat) : (m_ag A i).testBit b = (decide (b < 32) && A.testBit (32 * i + b)) := by
  show ((A >>> (32 * i)) % 2 ^ 32).testBit b = _
  rw [Nat.testBit_mod_two_pow, Nat.testBit_shiftRight]
theorem ma_u (A i v j : Nat) : m_ag (m_au A i v) j = if j = i then v % 4294967296 else m_ag A j := by
  have hv : ∀ b, (v % 4294967296).testBit b = (decide (b < 32) && v.testBit b) := fun b => Nat.testBit_mod_two_pow v 32 b
  have hu : ∀ b, (m_au A i v).testBit b = ((A.testBit b ^^ (decide (32 * i ≤ b) && (m_ag A i).testBit (b - 32 * i))) ^^ (decide (32 * i ≤ b) && (v % 4294967296).testBit (b - 32 * i))) := by
    intro b
    show ((A ^^^ (m_ag A i <<< (32 * i))) ^^^ ((v % 4294967296) <<< (32 * i))).testBit b = _
    rw [Nat.testBit_xor, Nat.testBit_xor, Nat.testBit_shiftLeft, Nat.testBit_shiftLeft]
  refine Nat.eq_of_testBit_eq fun b => ?_
  rw [ma_bit, hu, ma_bit, hv]
  by_cases hb : b < 32
  · by_cases hj : j = i
    · subst hj
      rw [if_pos rfl, hv]
      simp only [hb, decide_true, Bool.true_and]
      have e1 : 32 * j + b - 32 * j = b := by omega
      have e2 : (32 * j ≤ 32 * j + b) := by omega
      simp [e1, e2, hb]
    · rw [if_neg hj, ma_bit]
      simp only [hb, decide_true, Bool.true_and]
      have e3 : ¬ (32 * i ≤ 32 * j + b ∧ 32 * j + b - 32 * i < 32) := by omega
      by_cases h1 : 32 * i ≤ 32 * j + b
      · have h2 : ¬ 32 * j + b - 32 * i < 32 := fun z => e3 ⟨h1, z⟩
        simp [h1, h2]
      · simp [h1]
  · split
    · rw [hv]; simp [hb]
    · rw [ma_bit]; simp [hb]
theorem ma_0 (j : Nat) : m_ag 0 j = 0 := by
  show (0 >>> (32 * j)) % _ = 0
  rw [Nat.zero_shiftRight]
