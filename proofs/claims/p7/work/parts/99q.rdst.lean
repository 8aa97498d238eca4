/-! READING A TEXT: what holds of the reference between two steps (written by wip/gen/genrd.py) -/
def e_31 (g : w_G) (spr kee rul tpd nxt tok tka val opn hm row ksp kke kru : Int) : m_E := .inr (.inr (12, [.inr (.inl (some 32)), .inr (.inl (some 33)), .inr (.inl (some 34)), .inr (.inl (some 35)), .inr (.inl (some 36)), .inl (w_i (g_mH g)), .inl (w_i (g_mC g)), .inl (w_i spr), .inl (w_i kee), .inl (w_i (g_mnp g)), .inl (w_i rul), .inl (w_i (g_mhi g)), .inr (.inl (some 37)), .inr (.inl (some 50)), .inr (.inl (some 51)), .inr (.inl (some 52)), .inr (.inl (some 53)), .inr (.inl (some 54)), .inl (w_i tpd), .inl (w_i (g_mnt g)), .inl (w_i nxt), .inl (w_i tok), .inl (w_i tka), .inl (w_i val), .inl (w_i opn), .inl (w_i hm), .inl (w_i row), .inr (.inl (some 55)), .inr (.inl (some 56)), .inr (.inl (some 57)), .inr (.inl (some 58)), .inr (.inl (some 59)), .inr (.inl (some 60)), .inr (.inl (some 61)), .inr (.inl (some 62)), .inl (w_i ksp), .inl (w_i kke), .inl (w_i kru), .inr (.inl (some 63)), .inr (.inl (some 64)), .inr (.inl (some 65)), .inr (.inl (some 66))]))
/-- the cell of the reference while it reads: st 0: a token is to be read; 1: one stands; 2 to 4: within its digits, letters, words -/
def w_rs (g : w_G) (o : w_O) (h : m_H) (st row hm n0 n1 : Int) : Prop := ∃ spr kee rul tpd nxt tok tka val opn ksp kke kru : Int, m_at h.2.2 31 = some (e_31 g spr kee rul tpd nxt tok tka val opn hm row ksp kke kru) ∧ -2147483648 ≤ spr ∧ spr ≤ 2147483647 ∧ -2147483648 ≤ kee ∧ kee ≤ 2147483647 ∧ -2147483648 ≤ rul ∧ rul ≤ 2147483647 ∧ -2147483648 ≤ tpd ∧ tpd ≤ 2147483647 ∧ -2147483648 ≤ nxt ∧ nxt ≤ 2147483647 ∧ -2147483648 ≤ tok ∧ tok ≤ 2147483647 ∧ -2147483648 ≤ tka ∧ tka ≤ 2147483647 ∧ -2147483648 ≤ val ∧ val ≤ 2147483647 ∧ -2147483648 ≤ opn ∧ opn ≤ 2147483647 ∧ -2147483648 ≤ hm ∧ hm ≤ 2147483647 ∧ -2147483648 ≤ row ∧ row ≤ 2147483647 ∧ -2147483648 ≤ ksp ∧ ksp ≤ 2147483647 ∧ -2147483648 ≤ kke ∧ kke ≤ 2147483647 ∧ -2147483648 ≤ kru ∧ kru ≤ 2147483647 ∧ 0 ≤ rul ∧ rul < g_mnt g ∧ 0 ≤ tpd ∧ tpd ≤ 160 ∧ 0 ≤ kru ∧ kru < g_mnt g ∧ 0 ≤ spr ∧ spr ≤ 999 ∧ 0 ≤ ksp ∧ ksp ≤ 999 ∧ 0 ≤ n0 ∧ n0 ≤ nxt ∧ n1 ≤ nxt ∧ nxt ≤ tpd ∧ (1 ≤ st → n0 ≤ tka ∧ tka ≤ nxt) ∧ (st = 1 → (tok < 100 ∨ 102 < tok ∨ tka + 1 ≤ nxt) ∧ (tok < 100 ∨ 101 < tok ∨ (0 ≤ val ∧ val ≤ 9999))) ∧ (st = 2 → tok = 104 ∧ 0 ≤ val ∧ ((nxt = tka + 1 ∧ val ≤ 9) ∨ (nxt = tka + 2 ∧ val ≤ 99) ∨ (nxt = tka + 3 ∧ val ≤ 999) ∨ (tka + 4 ≤ nxt ∧ val ≤ 9999))) ∧ (st = 3 → tok = 104 ∧ val = 0) ∧ (st = 4 → (tok = 104 ∨ tok = 101) ∧ 0 ≤ val ∧ val ≤ 11 ∧ (tok = 104 ∨ tka + 1 ≤ nxt))
section
variable {g : w_G} {o : w_O} {h h2 : m_H} {W : List Nat} {st row hm n0 n1 : Int}
theorem rs_fr (iv : w_Inv g o h) (rs : w_rs g o h st row hm n0 n1) (hf : w_fr o W h h2) (hW : W.contains 31 = false) : w_rs g o h2 st row hm n0 n1 := by
  obtain ⟨spr, kee, rul, tpd, nxt, tok, tka, val, opn, ksp, kke, kru, p, rest⟩ := rs
  exact ⟨spr, kee, rul, tpd, nxt, tok, tka, val, opn, ksp, kke, kru, fr_at hf p iv (ow_31 iv) hW rfl, rest⟩
theorem rs_10 (rs : w_rs g o h 1 row hm n0 n1) : w_rs g o h 0 row hm n0 n1 := by
  obtain ⟨spr, kee, rul, tpd, nxt, tok, tka, val, opn, ksp, kke, kru, p, r0, r1, r2, r3, r4, r5, r6, r7, r8, r9, r10, r11, r12, r13, r14, r15, r16, r17, r18, r19, r20, r21, r22, r23, r24, r25, r26, r27, r28, r29, r30, r31, r32, r33, r34, r35, r36, r37, s0, s1, s2, s3, s4, s5, s6, s7, s8⟩ := rs
  exact ⟨spr, kee, rul, tpd, nxt, tok, tka, val, opn, ksp, kke, kru, p, r0, r1, r2, r3, r4, r5, r6, r7, r8, r9, r10, r11, r12, r13, r14, r15, r16, r17, r18, r19, r20, r21, r22, r23, r24, r25, r26, r27, r28, r29, r30, r31, r32, r33, r34, r35, r36, r37, s0, s1, s2, s3, by omega, by omega, by omega, by omega, by omega⟩
theorem rs_1n (rs : w_rs g o h 1 row hm n0 n1) {m0 : Int} (h0 : 0 ≤ m0) (h1 : m0 ≤ n0) : w_rs g o h 1 row hm m0 n1 := by
  obtain ⟨spr, kee, rul, tpd, nxt, tok, tka, val, opn, ksp, kke, kru, p, r0, r1, r2, r3, r4, r5, r6, r7, r8, r9, r10, r11, r12, r13, r14, r15, r16, r17, r18, r19, r20, r21, r22, r23, r24, r25, r26, r27, r28, r29, r30, r31, r32, r33, r34, r35, r36, r37, s0, s1, s2, s3, s4, s5, s6, s7, s8⟩ := rs
  exact ⟨spr, kee, rul, tpd, nxt, tok, tka, val, opn, ksp, kke, kru, p, r0, r1, r2, r3, r4, r5, r6, r7, r8, r9, r10, r11, r12, r13, r14, r15, r16, r17, r18, r19, r20, r21, r22, r23, r24, r25, r26, r27, r28, r29, r30, r31, r32, r33, r34, r35, r36, r37, h0, by omega, s2, s3, by omega, s5, s6, s7, s8⟩
theorem rs_n (rs : w_rs g o h st row hm n0 n1) : 0 ≤ n0 ∧ n0 ≤ 160 := by
  obtain ⟨spr, kee, rul, tpd, nxt, tok, tka, val, opn, ksp, kke, kru, p, r0, r1, r2, r3, r4, r5, r6, r7, r8, r9, r10, r11, r12, r13, r14, r15, r16, r17, r18, r19, r20, r21, r22, r23, r24, r25, r26, r27, r28, r29, r30, r31, r32, r33, r34, r35, r36, r37, s0, s1, s2, s3, s4, s5, s6, s7, s8⟩ := rs
  omega
end
/-- how many of the deeds that are held bind two -/
def w_bc (C : Nat) (n : Nat) : Int := Nat.rec (motive := fun _ => Int) 0 (fun k ih => if a_g C (k : Int) ≤ 7 then ih + 1 else ih) n
theorem bc_s (C n : Nat) : w_bc C (n + 1) = if a_g C (n : Int) ≤ 7 then w_bc C n + 1 else w_bc C n := rfl
theorem bc_c {C : Nat} {m : Int} (hm : 0 ≤ m) : (a_g C m ≤ 7 ∧ w_bc C (m + 1).toNat = w_bc C m.toNat + 1) ∨ (7 < a_g C m ∧ w_bc C (m + 1).toNat = w_bc C m.toNat) := by
  obtain ⟨k, rfl⟩ := Int.eq_ofNat_of_zero_le hm
  show (a_g C (k : Int) ≤ 7 ∧ w_bc C (k + 1) = w_bc C k + 1) ∨ (7 < a_g C (k : Int) ∧ w_bc C (k + 1) = w_bc C k)
  rw [bc_s]
  by_cases h : a_g C (k : Int) ≤ 7
  · rw [if_pos h]; exact Or.inl ⟨h, rfl⟩
  · rw [if_neg h]; exact Or.inr ⟨by omega, rfl⟩
theorem bc_0 (C n : Nat) : 0 ≤ w_bc C n := by
  induction n with
  | zero => exact Int.le_refl _
  | succ n ih => rw [bc_s]; split <;> omega
theorem bc_congr {C C2 : Nat} {n : Nat} (h : ∀ j : Int, 0 ≤ j → j < n → a_g C2 j = a_g C j) : w_bc C2 n = w_bc C n := by
  induction n with
  | zero => rfl
  | succ n ih => rw [bc_s, bc_s, ih (fun j j0 j1 => h j j0 (by omega)), h n (by omega) (by omega)]
theorem dp_congr {A A2 : Nat} {i : Int} {n : Nat} (h : ∀ k : Nat, k < n → a_g A2 (170 * i + k) = a_g A (170 * i + k)) : w_dp A2 i n = w_dp A i n := by
  induction n with
  | zero => rfl
  | succ n ih =>
    show (if a_g A2 (170 * i + n) < 30000 then w_dp A2 i n + 1 else if a_g A2 (170 * i + n) = 30008 ∨ a_g A2 (170 * i + n) = 30009 then w_dp A2 i n else w_dp A2 i n - 1) = (if a_g A (170 * i + n) < 30000 then w_dp A i n + 1 else if a_g A (170 * i + n) = 30008 ∨ a_g A (170 * i + n) = 30009 then w_dp A i n else w_dp A i n - 1)
    rw [h n (by omega), ih (fun k hk => h k (by omega))]
theorem rp_congr {A A2 : Nat} {i n : Int} (h : ∀ k : Nat, (k : Int) < n → a_g A2 (170 * i + k) = a_g A (170 * i + k)) (hr : w_rp A i n) : w_rp A2 i n := by
  refine ⟨hr.1, hr.2.1, fun k hk => ?_⟩
  rw [h k hk, dp_congr (fun j hj => h j (by omega))]
  exact hr.2.2 k hk
/-- a row of deeds grows by one; the rows ahead of it stay -/
theorem rp_old {A A2 : Nat} {i n rw v x : Int} (hi0 : 0 ≤ i) (hi : i < rw) (hr : w_rp A i n) (hx : x = 170 * rw + v) (hv : 0 ≤ v) (hrw : rw < 18) {y : Int} (hA : ∀ j : Int, 0 ≤ j → j < (3060 : Nat) → a_g A2 j = if j = x then y else a_g A j) : w_rp A2 i n := by
  have hn := hr.2.1
  exact rp_congr (fun k hk => by rw [hA _ (by omega) (by omega), if_neg (by omega)]) hr
theorem rp_push {A A2 : Nat} {rw n y x : Int} (hrw0 : 0 ≤ rw) (hrw : rw < 18) (hr : w_rp A rw n) (hn : n < 170) (hx : x = 170 * rw + n) (hA : ∀ j : Int, 0 ≤ j → j < (3060 : Nat) → a_g A2 j = if j = x then y else a_g A j) (hy : y < 30000 ∨ (1 ≤ w_dp A rw n.toNat ∧ (y = 30008 ∨ y = 30009)) ∨ 2 ≤ w_dp A rw n.toNat) :
    w_rp A2 rw (n + 1) ∧ ((y < 30000 ∧ w_dp A2 rw (n + 1).toNat = w_dp A rw n.toNat + 1) ∨ (30000 ≤ y ∧ (y = 30008 ∨ y = 30009) ∧ w_dp A2 rw (n + 1).toNat = w_dp A rw n.toNat) ∨ (30000 ≤ y ∧ y ≠ 30008 ∧ y ≠ 30009 ∧ w_dp A2 rw (n + 1).toNat = w_dp A rw n.toNat - 1)) := by
  have h0 := hr.1
  have hold : ∀ k : Nat, (k : Int) < n → a_g A2 (170 * rw + k) = a_g A (170 * rw + k) := fun k hk => by rw [hA _ (by omega) (by omega), if_neg (by omega)]
  have hnew : a_g A2 (170 * rw + n) = y := by rw [hA _ (by omega) (by omega), if_pos hx.symm]
  have hdp : w_dp A2 rw n.toNat = w_dp A rw n.toNat := dp_congr (fun k hk => hold k (by omega))
  have hc := dp_c (A := A2) (r := rw) (k := n) h0
  rw [hnew, hdp] at hc
  refine ⟨⟨by omega, by omega, fun k hk => ?_⟩, hc⟩
  by_cases hkn : (k : Int) = n
  · rw [hkn, hnew, show k = n.toNat from by omega, hdp]; exact hy
  · have := (rp_congr hold hr).2.2 k (by omega)
    exact this
/-- the row that is read: s: how many more values than waiting deeds there are -/
def w_rd (g : w_G) (o : w_O) (h : m_H) (rw s st m z sl n0 : Int) : Prop := ∃ A B C : Nat, w_rs g o h st rw m n0 0 ∧ m_at h.2.2 51 = some (.inl (false, 3060, A)) ∧ m_at h.2.2 52 = some (.inl (false, 18, B)) ∧ m_at h.2.2 53 = some (.inl (false, 200, C)) ∧ 3 * g_mnt g ≤ rw ∧ rw < 18 ∧ 0 ≤ m ∧ 0 ≤ a_g B rw ∧ a_g B rw + m + sl ≤ n0 ∧ 0 ≤ sl ∧ w_rp A rw (a_g B rw) ∧ w_dp A rw (a_g B rw).toNat = w_bc C m.toNat + s ∧ (∀ j : Int, 0 ≤ j → j < m → 1 ≤ a_g C j ∧ a_g C j ≤ 10) ∧ (z ≤ 1 → m = 0 ∨ a_g C (m - 1) = 10) ∧ ∀ i : Int, 3 * g_mnt g ≤ i → i < rw → w_rp A i (a_g B i)
def w_pr (g : w_G) (o : w_O) (h : m_H) (rw : Int) : Prop := ∃ (hm : Int) (A B : Nat), w_rs g o h 1 rw hm 0 0 ∧ m_at h.2.2 51 = some (.inl (false, 3060, A)) ∧ m_at h.2.2 52 = some (.inl (false, 18, B)) ∧ ∀ i : Int, 3 * g_mnt g ≤ i → i < rw → w_rp A i (a_g B i)
def w_rr (g : w_G) (o : w_O) (h : m_H) (good up : Int) : Prop := good = 1 → ∃ (rw hm : Int) (A B : Nat), w_rs g o h 1 rw hm 0 0 ∧ m_at h.2.2 51 = some (.inl (false, 3060, A)) ∧ m_at h.2.2 52 = some (.inl (false, 18, B)) ∧ ∀ i : Int, 3 * g_mnt g ≤ i → i < up → w_rp A i (a_g B i)
section
variable {g : w_G} {o : w_O} {h h2 : m_H} {W : List Nat} {rw s st m z sl n0 good up : Int}
theorem rd_fr (iv : w_Inv g o h) (rd : w_rd g o h rw s st m z sl n0) (hf : w_fr o W h h2) (hW : (W.contains 31 || W.contains 51 || W.contains 52 || W.contains 53) = false) : w_rd g o h2 rw s st m z sl n0 := by
  rw [Bool.or_eq_false_iff, Bool.or_eq_false_iff, Bool.or_eq_false_iff] at hW
  obtain ⟨A, B, C, rs, p1, p2, p3, rest⟩ := rd
  exact ⟨A, B, C, rs_fr iv rs hf hW.1.1.1, fr_at hf p1 iv (ow_51 iv) hW.1.1.2 rfl, fr_at hf p2 iv (ow_52 iv) hW.1.2 rfl, fr_at hf p3 iv (ow_53 iv) hW.2 rfl, rest⟩
theorem rdx_fr (iv : w_Inv g o h) (rd : ∃ m : Int, w_rd g o h rw s st m z sl n0) (hf : w_fr o W h h2) (hW : (W.contains 31 || W.contains 51 || W.contains 52 || W.contains 53) = false) : ∃ m : Int, w_rd g o h2 rw s st m z sl n0 := rd.imp fun _ r => rd_fr iv r hf hW
theorem pr_fr (iv : w_Inv g o h) (pr : w_pr g o h rw) (hf : w_fr o W h h2) (hW : (W.contains 31 || W.contains 51 || W.contains 52) = false) : w_pr g o h2 rw := by
  rw [Bool.or_eq_false_iff, Bool.or_eq_false_iff] at hW
  obtain ⟨hm, A, B, rs, p1, p2, rest⟩ := pr
  exact ⟨hm, A, B, rs_fr iv rs hf hW.1.1, fr_at hf p1 iv (ow_51 iv) hW.1.2 rfl, fr_at hf p2 iv (ow_52 iv) hW.2 rfl, rest⟩
theorem rr_fr (iv : w_Inv g o h) (rr : w_rr g o h good up) (hf : w_fr o W h h2) (hW : (W.contains 31 || W.contains 51 || W.contains 52) = false) : w_rr g o h2 good up := by
  rw [Bool.or_eq_false_iff, Bool.or_eq_false_iff] at hW
  intro e
  obtain ⟨rw, hm, A, B, rs, p1, p2, rest⟩ := rr e
  exact ⟨rw, hm, A, B, rs_fr iv rs hf hW.1.1, fr_at hf p1 iv (ow_51 iv) hW.1.2 rfl, fr_at hf p2 iv (ow_52 iv) hW.2 rfl, rest⟩
theorem rd_z7 (rd : ∃ m : Int, w_rd g o h rw s st m z sl n0) : ∃ m : Int, w_rd g o h rw s st m 7 sl n0 := by
  obtain ⟨m, A, B, C, rs, p1, p2, p3, a1, a2, a3, a4, a5, a6, a7, a8, a9, a10, a11⟩ := rd
  exact ⟨m, A, B, C, rs, p1, p2, p3, a1, a2, a3, a4, a5, a6, a7, a8, a9, fun e => absurd e (by omega), a11⟩
/-- a token is read; the row that is read stays -/
theorem rd_rs (iv : w_Inv g o h) (rd : w_rd g o h rw s 0 m z sl n0) (hf : w_fr o W h h2) (hW : (W.contains 51 || W.contains 52 || W.contains 53) = false) (rs : w_rs g o h2 1 rw m n0 0) : w_rd g o h2 rw s 1 m z sl n0 := by
  rw [Bool.or_eq_false_iff, Bool.or_eq_false_iff] at hW
  obtain ⟨A, B, C, _, p1, p2, p3, rest⟩ := rd
  exact ⟨A, B, C, rs, fr_at hf p1 iv (ow_51 iv) hW.1.1 rfl, fr_at hf p2 iv (ow_52 iv) hW.1.2 rfl, fr_at hf p3 iv (ow_53 iv) hW.2 rfl, rest⟩
theorem rd_w (rd : w_rd g o h rw s st m z sl n0) : w_rs g o h st rw m n0 0 := by
  obtain ⟨A, B, C, rs, _⟩ := rd
  exact rs
theorem rd_rr (rd : w_rd g o h rw 1 1 m z sl n0) : w_rr g o h 1 (rw + 1) := by
  obtain ⟨A, B, C, rs, p1, p2, p3, a1, a2, a3, a4, a5, a6, a7, a8, a9, a10, a11⟩ := rd
  exact fun _ => ⟨rw, m, A, B, rs_1n rs (Int.le_refl _) (rs_n rs).1, p1, p2, fun i i0 i1 => if e : i = rw then by rw [e]; exact a7 else a11 i i0 (by omega)⟩
theorem bc_put {C C2 : Nat} {m v : Int} (m0 : 0 ≤ m) (m1 : m < 200) (hC : ∀ j : Int, 0 ≤ j → j < (200 : Nat) → a_g C2 j = if j = m then v else a_g C j) : (v ≤ 7 ∧ w_bc C2 (m + 1).toNat = w_bc C m.toNat + 1) ∨ (7 < v ∧ w_bc C2 (m + 1).toNat = w_bc C m.toNat) := by
  have h1 := bc_c (C := C2) m0
  have e := bc_congr (C := C) (C2 := C2) (n := m.toNat) (fun j j0 j1 => by rw [hC j j0 (by omega), if_neg (by omega)])
  rw [hC m m0 (by omega), if_pos rfl, e] at h1
  exact h1
theorem held_put {C C2 : Nat} {m v : Int} (m0 : 0 ≤ m) (m1 : m < 200) (v0 : 1 ≤ v) (v1 : v ≤ 10) (hh : ∀ j : Int, 0 ≤ j → j < m → 1 ≤ a_g C j ∧ a_g C j ≤ 10) (hC : ∀ j : Int, 0 ≤ j → j < (200 : Nat) → a_g C2 j = if j = m then v else a_g C j) : ∀ j : Int, 0 ≤ j → j < m + 1 → 1 ≤ a_g C2 j ∧ a_g C2 j ≤ 10 := fun j j0 j1 => by
  rw [hC j j0 (by omega)]
  by_cases e : j = m
  · rw [if_pos e]; exact ⟨v0, v1⟩
  · rw [if_neg e]; exact hh j j0 (by omega)
/-- the row that is read is longer by a deed; the others stay -/
theorem prev_put {A A2 B B2 : Nat} {rw l x y : Int} (m0 : 0 ≤ l) (hrw : rw < 18) (hm0 : 0 ≤ 3 * g_mnt g) (hp : ∀ i : Int, 3 * g_mnt g ≤ i → i < rw → w_rp A i (a_g B i)) (hA : ∀ j : Int, 0 ≤ j → j < (3060 : Nat) → a_g A2 j = if j = x then y else a_g A j) (hx : x = 170 * rw + l) {w : Int} (hB : ∀ j : Int, 0 ≤ j → j < (18 : Nat) → a_g B2 j = if j = rw then w else a_g B j) : ∀ i : Int, 3 * g_mnt g ≤ i → i < rw → w_rp A2 i (a_g B2 i) := fun i i0 i1 => by
  rw [hB i (by omega) (by omega), if_neg (by omega)]
  exact rp_old (by omega) i1 (hp i i0 i1) hx m0 hrw hA
theorem iv_51h (iv : w_Inv g o h) {A : Nat} (p : m_at h.2.2 51 = some (.inl (false, 3060, A))) : ∀ i : Int, 0 ≤ i → i < 3 * g_mnt g → w_rp A i (g_mCL g i) := by
  obtain ⟨_, z, A', rfl, hz⟩ := iv_51 iv
  cases p.symm.trans z
  exact hz
theorem iv_52h (iv : w_Inv g o h) {B : Nat} (p : m_at h.2.2 52 = some (.inl (false, 18, B))) : ∀ j : Int, 0 ≤ j → j < 18 → 0 ≤ a_g B j ∧ a_g B j ≤ 170 ∧ (j < 3 * g_mnt g → a_g B j = g_mCL g j) := by
  obtain ⟨_, z, B', rfl, hz⟩ := iv_52 iv
  cases p.symm.trans z
  exact hz
end
