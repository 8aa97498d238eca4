/-! ALL ROUNDS together, and the claim (written by wip/gen/genend.py) -/
theorem lk_176 (xs : List Nat) : t_0 xs 176 = g_0_176 xs := rfl
theorem lk_209 (xs : List Nat) : t_0 xs 209 = g_0_209 xs := rfl
theorem lk_252 (xs : List Nat) : t_0 xs 252 = g_0_252 xs := rfl
theorem lk_295 (xs : List Nat) : t_0 xs 295 = g_0_295 xs := rfl
theorem lk_328 (xs : List Nat) : t_0 xs 328 = g_0_328 xs := rfl
theorem lk_361 (xs : List Nat) : t_0 xs 361 = g_0_361 xs := rfl
theorem lk_404 (xs : List Nat) : t_0 xs 404 = g_0_404 xs := rfl
theorem lk_427 (xs : List Nat) : t_0 xs 427 = g_0_427 xs := rfl
theorem lk_440 (xs : List Nat) : t_0 xs 440 = g_0_440 xs := rfl
theorem lk_463 (xs : List Nat) : t_0 xs 463 = g_0_463 xs := rfl
theorem lk_476 (xs : List Nat) : t_0 xs 476 = g_0_476 xs := rfl
theorem lk_509 (xs : List Nat) : t_0 xs 509 = g_0_509 xs := rfl
theorem lk_542 (xs : List Nat) : t_0 xs 542 = g_0_542 xs := rfl
theorem lk_565 (xs : List Nat) : t_0 xs 565 = g_0_565 xs := rfl
theorem lk_588 (xs : List Nat) : t_0 xs 588 = g_0_588 xs := rfl
theorem lk_621 (xs : List Nat) : t_0 xs 621 = g_0_621 xs := rfl
theorem lk_644 (xs : List Nat) : t_0 xs 644 = g_0_644 xs := rfl
theorem lk_667 (xs : List Nat) : t_0 xs 667 = g_0_667 xs := rfl
theorem lk_700 (xs : List Nat) : t_0 xs 700 = g_0_700 xs := rfl
theorem lk_723 (xs : List Nat) : t_0 xs 723 = g_0_723 xs := rfl
theorem lk_736 (xs : List Nat) : t_0 xs 736 = g_0_736 xs := rfl
theorem lk_759 (xs : List Nat) : t_0 xs 759 = g_0_759 xs := rfl
theorem lk_783 (xs : List Nat) : t_0 xs 783 = g_0_783 xs := rfl
theorem lk_816 (xs : List Nat) : t_0 xs 816 = g_0_816 xs := rfl
theorem lk_849 (xs : List Nat) : t_0 xs 849 = g_0_849 xs := rfl
theorem lk_862 (xs : List Nat) : t_0 xs 862 = g_0_862 xs := rfl
theorem lk_875 (xs : List Nat) : t_0 xs 875 = g_0_875 xs := rfl
theorem lk_898 (xs : List Nat) : t_0 xs 898 = g_0_898 xs := rfl
theorem lk_941 (xs : List Nat) : t_0 xs 941 = g_0_941 xs := rfl
theorem lk_984 (xs : List Nat) : t_0 xs 984 = g_0_984 xs := rfl
theorem lk_1047 (xs : List Nat) : t_0 xs 1047 = g_0_1047 xs := rfl
theorem lk_1100 (xs : List Nat) : t_0 xs 1100 = g_0_1100 xs := rfl
theorem and_31 (a : Nat) : m_and a 31 < 32 := Nat.lt_of_le_of_lt (Nat.mod_le _ _) (Nat.lt_succ_of_le (Nat.and_le_right (n := a) (m := 31)))
set_option maxRecDepth 20000 in
theorem la_all {a0 a1 a2 a3 a4 a5 : Nat} (h1 : a1 < 4294967296) (h2 : a2 < 4294967296) (h3 : a3 < 4294967296) (h4 : a4 < 4294967296) (h5 : a5 < 4294967296) : ∃ (h' : m_H), m_lr (t_0 [a0, a1, a2, a3, a4, a5]) m_cg 400000 1999 5 18 [.inr (.inr (.inr 0)), .inr (.inl (some 0)), .inr (.inl (some 31)), .inl 0] [] z_h3 = some (some (.inl 1), h') ∧ h'.1 ≤ 600000 ∧ h'.2.1 ≤ 7302250 := by
  have hb := and_31 a0
  have hcl : ∀ (k : Nat) (as : List m_V) (h : m_H) (r : Option m_V × m_H), m_run m_cg 390000 1990 k as [] h = some r → (fun key' lv' h' => m_run m_cg 400000 1999 key' lv' [] h' : m_C) k as h = some r := fun k as h r hr => rn_le hr (Nat.le_of_ble_eq_true rfl) (Nat.le_of_ble_eq_true rfl)
  generalize ht : m_and a0 31 = t at hb
  match t, hb, ht with
  | 0, _, hi =>
    obtain ⟨hM, b1, b2, hr⟩ := la_0 (a0 := a0) (a1 := a1) (a2 := a2) (a3 := a3) (a4 := a4) (a5 := a5) (go := m_lr (t_0 [a0, a1, a2, a3, a4, a5]) m_cg 400000 1999 3) (r0_all a1 a2 h1 h2) hcl
    exact ⟨hM, la_tsw (t := 176) (by rw [hi]; exact fun _ => rfl) (t_lr (lk_176 _) (hr _ (la_end (n := 0)))), Nat.le_of_ble_eq_true b1, Nat.le_of_ble_eq_true b2⟩
  | 1, _, hi =>
    obtain ⟨hM, b1, b2, hr⟩ := la_1 (a0 := a0) (a1 := a1) (a2 := a2) (a3 := a3) (a4 := a4) (a5 := a5) (go := m_lr (t_0 [a0, a1, a2, a3, a4, a5]) m_cg 400000 1999 3) (r1_all a1 a2 a3 h1 h2 h3) hcl
    exact ⟨hM, la_tsw (t := 209) (by rw [hi]; exact fun _ => rfl) (t_lr (lk_209 _) (hr _ (la_end (n := 0)))), Nat.le_of_ble_eq_true b1, Nat.le_of_ble_eq_true b2⟩
  | 2, _, hi =>
    obtain ⟨hM, b1, b2, hr⟩ := la_2 (a0 := a0) (a1 := a1) (a2 := a2) (a3 := a3) (a4 := a4) (a5 := a5) (go := m_lr (t_0 [a0, a1, a2, a3, a4, a5]) m_cg 400000 1999 3) (r2_all a1 a2 a3 h1 h2 h3) hcl
    exact ⟨hM, la_tsw (t := 252) (by rw [hi]; exact fun _ => rfl) (t_lr (lk_252 _) (hr _ (la_end (n := 0)))), Nat.le_of_ble_eq_true b1, Nat.le_of_ble_eq_true b2⟩
  | 3, _, hi =>
    obtain ⟨hM, b1, b2, hr⟩ := la_3 (a0 := a0) (a1 := a1) (a2 := a2) (a3 := a3) (a4 := a4) (a5 := a5) (go := m_lr (t_0 [a0, a1, a2, a3, a4, a5]) m_cg 400000 1999 3) (r3_all a1 a2 h1 h2) hcl
    exact ⟨hM, la_tsw (t := 295) (by rw [hi]; exact fun _ => rfl) (t_lr (lk_295 _) (hr _ (la_end (n := 0)))), Nat.le_of_ble_eq_true b1, Nat.le_of_ble_eq_true b2⟩
  | 4, _, hi =>
    obtain ⟨hM, b1, b2, hr⟩ := la_4 (a0 := a0) (a1 := a1) (a2 := a2) (a3 := a3) (a4 := a4) (a5 := a5) (go := m_lr (t_0 [a0, a1, a2, a3, a4, a5]) m_cg 400000 1999 3) (r4_all a1 a2 h1 h2) hcl
    exact ⟨hM, la_tsw (t := 328) (by rw [hi]; exact fun _ => rfl) (t_lr (lk_328 _) (hr _ (la_end (n := 0)))), Nat.le_of_ble_eq_true b1, Nat.le_of_ble_eq_true b2⟩
  | 5, _, hi =>
    obtain ⟨hM, b1, b2, hr⟩ := la_5 (a0 := a0) (a1 := a1) (a2 := a2) (a3 := a3) (a4 := a4) (a5 := a5) (go := m_lr (t_0 [a0, a1, a2, a3, a4, a5]) m_cg 400000 1999 3) (r5_all a1 a2 a3 h1 h2 h3) hcl
    exact ⟨hM, la_tsw (t := 361) (by rw [hi]; exact fun _ => rfl) (t_lr (lk_361 _) (hr _ (la_end (n := 0)))), Nat.le_of_ble_eq_true b1, Nat.le_of_ble_eq_true b2⟩
  | 6, _, hi =>
    obtain ⟨hM, b1, b2, hr⟩ := la_6 (a0 := a0) (a1 := a1) (a2 := a2) (a3 := a3) (a4 := a4) (a5 := a5) (go := m_lr (t_0 [a0, a1, a2, a3, a4, a5]) m_cg 400000 1999 3) (r6_all a1 h1) hcl
    exact ⟨hM, la_tsw (t := 404) (by rw [hi]; exact fun _ => rfl) (t_lr (lk_404 _) (hr _ (la_end (n := 0)))), Nat.le_of_ble_eq_true b1, Nat.le_of_ble_eq_true b2⟩
  | 7, _, hi =>
    obtain ⟨hM, b1, b2, hr⟩ := la_7 (a0 := a0) (a1 := a1) (a2 := a2) (a3 := a3) (a4 := a4) (a5 := a5) (go := m_lr (t_0 [a0, a1, a2, a3, a4, a5]) m_cg 400000 1999 3) (r7_all) hcl
    exact ⟨hM, la_tsw (t := 427) (by rw [hi]; exact fun _ => rfl) (t_lr (lk_427 _) (hr _ (la_end (n := 0)))), Nat.le_of_ble_eq_true b1, Nat.le_of_ble_eq_true b2⟩
  | 8, _, hi =>
    obtain ⟨hM, b1, b2, hr⟩ := la_8 (a0 := a0) (a1 := a1) (a2 := a2) (a3 := a3) (a4 := a4) (a5 := a5) (go := m_lr (t_0 [a0, a1, a2, a3, a4, a5]) m_cg 400000 1999 3) (r8_all a1 h1) hcl
    exact ⟨hM, la_tsw (t := 440) (by rw [hi]; exact fun _ => rfl) (t_lr (lk_440 _) (hr _ (la_end (n := 0)))), Nat.le_of_ble_eq_true b1, Nat.le_of_ble_eq_true b2⟩
  | 9, _, hi =>
    obtain ⟨hM, b1, b2, hr⟩ := la_9 (a0 := a0) (a1 := a1) (a2 := a2) (a3 := a3) (a4 := a4) (a5 := a5) (go := m_lr (t_0 [a0, a1, a2, a3, a4, a5]) m_cg 400000 1999 3) (r9_all) hcl
    exact ⟨hM, la_tsw (t := 463) (by rw [hi]; exact fun _ => rfl) (t_lr (lk_463 _) (hr _ (la_end (n := 0)))), Nat.le_of_ble_eq_true b1, Nat.le_of_ble_eq_true b2⟩
  | 10, _, hi =>
    obtain ⟨hM, b1, b2, hr⟩ := la_10 (a0 := a0) (a1 := a1) (a2 := a2) (a3 := a3) (a4 := a4) (a5 := a5) (go := m_lr (t_0 [a0, a1, a2, a3, a4, a5]) m_cg 400000 1999 3) (r10_all a1 a2 h1 h2) hcl
    exact ⟨hM, la_tsw (t := 476) (by rw [hi]; exact fun _ => rfl) (t_lr (lk_476 _) (hr _ (la_end (n := 0)))), Nat.le_of_ble_eq_true b1, Nat.le_of_ble_eq_true b2⟩
  | 11, _, hi =>
    obtain ⟨hM, b1, b2, hr⟩ := la_11 (a0 := a0) (a1 := a1) (a2 := a2) (a3 := a3) (a4 := a4) (a5 := a5) (go := m_lr (t_0 [a0, a1, a2, a3, a4, a5]) m_cg 400000 1999 3) (r11_all a1 a2 h1 h2) hcl
    exact ⟨hM, la_tsw (t := 509) (by rw [hi]; exact fun _ => rfl) (t_lr (lk_509 _) (hr _ (la_end (n := 0)))), Nat.le_of_ble_eq_true b1, Nat.le_of_ble_eq_true b2⟩
  | 12, _, hi =>
    obtain ⟨hM, b1, b2, hr⟩ := la_12 (a0 := a0) (a1 := a1) (a2 := a2) (a3 := a3) (a4 := a4) (a5 := a5) (go := m_lr (t_0 [a0, a1, a2, a3, a4, a5]) m_cg 400000 1999 3) (r12_all a1 h1) hcl
    exact ⟨hM, la_tsw (t := 542) (by rw [hi]; exact fun _ => rfl) (t_lr (lk_542 _) (hr _ (la_end (n := 0)))), Nat.le_of_ble_eq_true b1, Nat.le_of_ble_eq_true b2⟩
  | 13, _, hi =>
    obtain ⟨hM, b1, b2, hr⟩ := la_13 (a0 := a0) (a1 := a1) (a2 := a2) (a3 := a3) (a4 := a4) (a5 := a5) (go := m_lr (t_0 [a0, a1, a2, a3, a4, a5]) m_cg 400000 1999 3) (r13_all a1 h1) hcl
    exact ⟨hM, la_tsw (t := 565) (by rw [hi]; exact fun _ => rfl) (t_lr (lk_565 _) (hr _ (la_end (n := 0)))), Nat.le_of_ble_eq_true b1, Nat.le_of_ble_eq_true b2⟩
  | 14, _, hi =>
    obtain ⟨hM, b1, b2, hr⟩ := la_14 (a0 := a0) (a1 := a1) (a2 := a2) (a3 := a3) (a4 := a4) (a5 := a5) (go := m_lr (t_0 [a0, a1, a2, a3, a4, a5]) m_cg 400000 1999 3) (r14_all a1 a2 h1 h2) hcl
    exact ⟨hM, la_tsw (t := 588) (by rw [hi]; exact fun _ => rfl) (t_lr (lk_588 _) (hr _ (la_end (n := 0)))), Nat.le_of_ble_eq_true b1, Nat.le_of_ble_eq_true b2⟩
  | 15, _, hi =>
    obtain ⟨hM, b1, b2, hr⟩ := la_15 (a0 := a0) (a1 := a1) (a2 := a2) (a3 := a3) (a4 := a4) (a5 := a5) (go := m_lr (t_0 [a0, a1, a2, a3, a4, a5]) m_cg 400000 1999 3) (r15_all a1 h1) hcl
    exact ⟨hM, la_tsw (t := 621) (by rw [hi]; exact fun _ => rfl) (t_lr (lk_621 _) (hr _ (la_end (n := 0)))), Nat.le_of_ble_eq_true b1, Nat.le_of_ble_eq_true b2⟩
  | 16, _, hi =>
    obtain ⟨hM, b1, b2, hr⟩ := la_16 (a0 := a0) (a1 := a1) (a2 := a2) (a3 := a3) (a4 := a4) (a5 := a5) (go := m_lr (t_0 [a0, a1, a2, a3, a4, a5]) m_cg 400000 1999 3) (r16_all a1 h1) hcl
    exact ⟨hM, la_tsw (t := 644) (by rw [hi]; exact fun _ => rfl) (t_lr (lk_644 _) (hr _ (la_end (n := 0)))), Nat.le_of_ble_eq_true b1, Nat.le_of_ble_eq_true b2⟩
  | 17, _, hi =>
    obtain ⟨hM, b1, b2, hr⟩ := la_17 (a0 := a0) (a1 := a1) (a2 := a2) (a3 := a3) (a4 := a4) (a5 := a5) (go := m_lr (t_0 [a0, a1, a2, a3, a4, a5]) m_cg 400000 1999 3) (r17_all a1 a2 h1 h2) hcl
    exact ⟨hM, la_tsw (t := 667) (by rw [hi]; exact fun _ => rfl) (t_lr (lk_667 _) (hr _ (la_end (n := 0)))), Nat.le_of_ble_eq_true b1, Nat.le_of_ble_eq_true b2⟩
  | 18, _, hi =>
    obtain ⟨hM, b1, b2, hr⟩ := la_18 (a0 := a0) (a1 := a1) (a2 := a2) (a3 := a3) (a4 := a4) (a5 := a5) (go := m_lr (t_0 [a0, a1, a2, a3, a4, a5]) m_cg 400000 1999 3) (r18_all a1 h1) hcl
    exact ⟨hM, la_tsw (t := 700) (by rw [hi]; exact fun _ => rfl) (t_lr (lk_700 _) (hr _ (la_end (n := 0)))), Nat.le_of_ble_eq_true b1, Nat.le_of_ble_eq_true b2⟩
  | 19, _, hi =>
    obtain ⟨hM, b1, b2, hr⟩ := la_19 (a0 := a0) (a1 := a1) (a2 := a2) (a3 := a3) (a4 := a4) (a5 := a5) (go := m_lr (t_0 [a0, a1, a2, a3, a4, a5]) m_cg 400000 1999 3) (r19_all) hcl
    exact ⟨hM, la_tsw (t := 723) (by rw [hi]; exact fun _ => rfl) (t_lr (lk_723 _) (hr _ (la_end (n := 0)))), Nat.le_of_ble_eq_true b1, Nat.le_of_ble_eq_true b2⟩
  | 20, _, hi =>
    obtain ⟨hM, b1, b2, hr⟩ := la_20 (a0 := a0) (a1 := a1) (a2 := a2) (a3 := a3) (a4 := a4) (a5 := a5) (go := m_lr (t_0 [a0, a1, a2, a3, a4, a5]) m_cg 400000 1999 3) (r20_all a1 h1) hcl
    exact ⟨hM, la_tsw (t := 736) (by rw [hi]; exact fun _ => rfl) (t_lr (lk_736 _) (hr _ (la_end (n := 0)))), Nat.le_of_ble_eq_true b1, Nat.le_of_ble_eq_true b2⟩
  | 21, _, hi =>
    obtain ⟨hM, b1, b2, hr⟩ := la_21 (a0 := a0) (a1 := a1) (a2 := a2) (a3 := a3) (a4 := a4) (a5 := a5) (go := m_lr (t_0 [a0, a1, a2, a3, a4, a5]) m_cg 400000 1999 3) (r21_all a1 h1) hcl
    exact ⟨hM, la_tsw (t := 759) (by rw [hi]; exact fun _ => rfl) (t_lr (lk_759 _) (hr _ (la_end (n := 0)))), Nat.le_of_ble_eq_true b1, Nat.le_of_ble_eq_true b2⟩
  | 22, _, hi =>
    obtain ⟨hM, b1, b2, hr⟩ := la_22 (a0 := a0) (a1 := a1) (a2 := a2) (a3 := a3) (a4 := a4) (a5 := a5) (go := m_lr (t_0 [a0, a1, a2, a3, a4, a5]) m_cg 400000 1999 3) (r22_all a1 a2 h1 h2) hcl
    exact ⟨hM, la_tsw (t := 783) (by rw [hi]; exact fun _ => rfl) (t_lr (lk_783 _) (hr _ (la_end (n := 0)))), Nat.le_of_ble_eq_true b1, Nat.le_of_ble_eq_true b2⟩
  | 23, _, hi =>
    obtain ⟨hM, b1, b2, hr⟩ := la_23 (a0 := a0) (a1 := a1) (a2 := a2) (a3 := a3) (a4 := a4) (a5 := a5) (go := m_lr (t_0 [a0, a1, a2, a3, a4, a5]) m_cg 400000 1999 3) (r23_all a1 a2 h1 h2) hcl
    exact ⟨hM, la_tsw (t := 816) (by rw [hi]; exact fun _ => rfl) (t_lr (lk_816 _) (hr _ (la_end (n := 0)))), Nat.le_of_ble_eq_true b1, Nat.le_of_ble_eq_true b2⟩
  | 24, _, hi =>
    obtain ⟨hM, b1, b2, hr⟩ := la_24 (a0 := a0) (a1 := a1) (a2 := a2) (a3 := a3) (a4 := a4) (a5 := a5) (go := m_lr (t_0 [a0, a1, a2, a3, a4, a5]) m_cg 400000 1999 3) (r24_all) hcl
    exact ⟨hM, la_tsw (t := 849) (by rw [hi]; exact fun _ => rfl) (t_lr (lk_849 _) (hr _ (la_end (n := 0)))), Nat.le_of_ble_eq_true b1, Nat.le_of_ble_eq_true b2⟩
  | 25, _, hi =>
    obtain ⟨hM, b1, b2, hr⟩ := la_25 (a0 := a0) (a1 := a1) (a2 := a2) (a3 := a3) (a4 := a4) (a5 := a5) (go := m_lr (t_0 [a0, a1, a2, a3, a4, a5]) m_cg 400000 1999 3) (r25_all) hcl
    exact ⟨hM, la_tsw (t := 862) (by rw [hi]; exact fun _ => rfl) (t_lr (lk_862 _) (hr _ (la_end (n := 0)))), Nat.le_of_ble_eq_true b1, Nat.le_of_ble_eq_true b2⟩
  | 26, _, hi =>
    obtain ⟨hM, b1, b2, hr⟩ := la_26 (a0 := a0) (a1 := a1) (a2 := a2) (a3 := a3) (a4 := a4) (a5 := a5) (go := m_lr (t_0 [a0, a1, a2, a3, a4, a5]) m_cg 400000 1999 3) (r26_all a1 h1) hcl
    exact ⟨hM, la_tsw (t := 875) (by rw [hi]; exact fun _ => rfl) (t_lr (lk_875 _) (hr _ (la_end (n := 0)))), Nat.le_of_ble_eq_true b1, Nat.le_of_ble_eq_true b2⟩
  | 27, _, hi =>
    obtain ⟨hM, b1, b2, hr⟩ := la_27 (a0 := a0) (a1 := a1) (a2 := a2) (a3 := a3) (a4 := a4) (a5 := a5) (go := m_lr (t_0 [a0, a1, a2, a3, a4, a5]) m_cg 400000 1999 3) (r27_all a1 a2 a3 h1 h2 h3) hcl
    exact ⟨hM, la_tsw (t := 898) (by rw [hi]; exact fun _ => rfl) (t_lr (lk_898 _) (hr _ (la_end (n := 0)))), Nat.le_of_ble_eq_true b1, Nat.le_of_ble_eq_true b2⟩
  | 28, _, hi =>
    obtain ⟨hM, b1, b2, hr⟩ := la_28 (a0 := a0) (a1 := a1) (a2 := a2) (a3 := a3) (a4 := a4) (a5 := a5) (go := m_lr (t_0 [a0, a1, a2, a3, a4, a5]) m_cg 400000 1999 3) (r28_all a1 a2 a3 h1 h2 h3) hcl
    exact ⟨hM, la_tsw (t := 941) (by rw [hi]; exact fun _ => rfl) (t_lr (lk_941 _) (hr _ (la_end (n := 0)))), Nat.le_of_ble_eq_true b1, Nat.le_of_ble_eq_true b2⟩
  | 29, _, hi =>
    obtain ⟨hM, b1, b2, hr⟩ := la_29 (a0 := a0) (a1 := a1) (a2 := a2) (a3 := a3) (a4 := a4) (a5 := a5) (go := m_lr (t_0 [a0, a1, a2, a3, a4, a5]) m_cg 400000 1999 3) (r29_all a1 a2 a3 a4 a5 h1 h2 h3 h4 h5) hcl
    exact ⟨hM, la_tsw (t := 984) (by rw [hi]; exact fun _ => rfl) (t_lr (lk_984 _) (hr _ (la_end (n := 0)))), Nat.le_of_ble_eq_true b1, Nat.le_of_ble_eq_true b2⟩
  | 30, _, hi =>
    obtain ⟨hM, b1, b2, hr⟩ := la_30 (a0 := a0) (a1 := a1) (a2 := a2) (a3 := a3) (a4 := a4) (a5 := a5) (go := m_lr (t_0 [a0, a1, a2, a3, a4, a5]) m_cg 400000 1999 3) (r30_all a1 a2 a3 a4 h1 h2 h3 h4) hcl
    exact ⟨hM, la_tsw (t := 1047) (by rw [hi]; exact fun _ => rfl) (t_lr (lk_1047 _) (hr _ (la_end (n := 0)))), Nat.le_of_ble_eq_true b1, Nat.le_of_ble_eq_true b2⟩
  | 31, _, hi =>
    obtain ⟨hM, b1, b2, hr⟩ := la_31 (a0 := a0) (a1 := a1) (a2 := a2) (a3 := a3) (a4 := a4) (a5 := a5) (go := m_lr (t_0 [a0, a1, a2, a3, a4, a5]) m_cg 400000 1999 3) (r31_all a1 a2 h1 h2) hcl
    exact ⟨hM, la_tsw (t := 1100) (by rw [hi]; exact fun _ => rfl) (t_lr (lk_1100 _) (hr _ (la_end (n := 0)))), Nat.le_of_ble_eq_true b1, Nat.le_of_ble_eq_true b2⟩
  | t + 32, hb, _ => exact absurd hb (by omega)
theorem mn_small (x : Int32) : m_n x < 4294967296 := x.toBitVec.isLt
set_option maxRecDepth 20000 in
theorem la_run {L : Nat} (hL : L ≤ 6) (xs : Nat → Int32) : ∃ (n : Nat) (h' : m_H), m_lr (t_0 ((List.range L).map (fun j => m_n (xs j)))) m_cg 400000 1999 n (4096 * 0 + 0) ([.inr (.inr (.inr 0))] ++ m_un 3) [] (0, 0, []) = some (some (.inl 1), h') ∧ h'.1 ≤ 600000 ∧ h'.2.1 ≤ 7302250 := by
  match L, hL with
  | 0, _ => exact ⟨2, z_h3, la_start (n := 1) (la_short0 (n := 0)), Nat.le_of_ble_eq_true rfl, Nat.le_of_ble_eq_true rfl⟩
  | 1, _ => exact ⟨2, z_h3, la_start (n := 1) (la_short1 (n := 0)), Nat.le_of_ble_eq_true rfl, Nat.le_of_ble_eq_true rfl⟩
  | 2, _ => exact ⟨2, z_h3, la_start (n := 1) (la_short2 (n := 0)), Nat.le_of_ble_eq_true rfl, Nat.le_of_ble_eq_true rfl⟩
  | 3, _ => exact ⟨2, z_h3, la_start (n := 1) (la_short3 (n := 0)), Nat.le_of_ble_eq_true rfl, Nat.le_of_ble_eq_true rfl⟩
  | 4, _ => exact ⟨2, z_h3, la_start (n := 1) (la_short4 (n := 0)), Nat.le_of_ble_eq_true rfl, Nat.le_of_ble_eq_true rfl⟩
  | 5, _ => exact ⟨2, z_h3, la_start (n := 1) (la_short5 (n := 0)), Nat.le_of_ble_eq_true rfl, Nat.le_of_ble_eq_true rfl⟩
  | 6, _ =>
    obtain ⟨h', hr, b1, b2⟩ := la_all (a0 := m_n (xs 0)) (mn_small (xs 1)) (mn_small (xs 2)) (mn_small (xs 3)) (mn_small (xs 4)) (mn_small (xs 5))
    exact ⟨5, h', la_start (n := 4) hr, b1, b2⟩
  | L + 7, h => exact absurd h (by omega)
/-- YOUR PART: from the entry, for every script of at most 6 ints, the law comes to its end with true ('hflags': the launch's flags, for a law that throws: no stack traces) -/
theorem whole_start {p : Program} {e : Env} {s : State} {m : MethodId} {below : List Frame} {meth : Method} {c : Code} (l : Launch) (hflags : l.flags = flags0) {b L : Nat} {xs : Nat → Int32} (hL : L ≤ 6) (C0 : lw_At p s m meth c b L xs) : W p l e room_1 s m #[Value.ref b] below meth c s.heap [] 0 0 (lw_Z below #[Value.ref b] s) (entryFrame m ([Value.ref b] : List Value).toArray 4) := by
  obtain ⟨n, h', hr, b1, b2⟩ := la_run hL xs
  exact lw_start l C0 (Nat.lt_of_le_of_lt hL (by decide)) hr b1 b2
set_option maxHeartbeats 4000000 in
theorem lw_walk (l : Launch) (hflags : l.flags = flags0) (b : Addr) (xs : List Int32) : MetFree l x (headSpec (Jvm.Cond.code x code maxLocals ret :: tables_1) room_1) (lw_P b xs) (fun _ _ _ _ _ => True) lw_Q := by
  refine MetFree.of_bodyS (code := code) (maxLocals := maxLocals) (ret := ret) (by decide) ?_ ?_
  · intro args s m h hn
    obtain ⟨meth, c, h1, h2, h3, h4, h5, h6, -, -⟩ := Cond.code_spec hn (atoms_spec (ws := Jvm.Cond.code x code maxLocals ret :: tables_1) h _ List.mem_cons_self)
    exact ⟨meth, c, h1, h2, h3, h4, h5, h6⟩
  · intro p e s m args below meth c s₁ B hml0 hP _
    obtain ⟨rfl, hx, hbd, hgv⟩ := hP
    obtain ⟨scr, harrAt, hlist, hof, hsmall⟩ := hx
    obtain ⟨hcb, hkn, -, -⟩ := State.arrayAt?_spec harrAt
    have hown : s.vm.findClass R_law = some m.cls := findClass_of_methodNamed B.named
    have hts0 : ∀ c ∈ (Jvm.Cond.code x code maxLocals ret :: tables_1), c.before #[Value.ref b] s = true := atoms_spec (ws := Jvm.Cond.code x code maxLocals ret :: tables_1) B.pre
    have hts : ∀ w ∈ lw_tbl, w.before #[Value.ref b] s = true := k2_hts_sels lw_privs (fun w hw => hts0 w (List.mem_cons_of_mem _ hw)) lw_privs_ok
    have hml : c.maxLocals = 4 := B.maxLocals_eq (hts0 _ List.mem_cons_self)
    have X₀ : Stand p l e room_1 s m #[Value.ref b] below meth c s₁ [] 0 0 := Stand.of_body B
    have hh0 : s₁.heap = s.heap := by rw [B.state]; rfl
    have hsz : scr.slots.size = xs.length := by rw [← Array.length_toList, hlist, List.length_map]
    have hval : ∀ j : Nat, j < xs.length → scr.slots[j]? = some (.int (xs.getD j 0)) := fun j hj => by
      rw [← Array.getElem?_toList, hlist]
      simp [hj]
    have hbl : b < s.heap.size := (Array.getElem?_eq_some_iff.mp hcb).1
    have hX : va_X b xs.length (fun j => xs.getD j 0) s s.heap := ⟨scr, hcb, hof, hkn, hsz, hval⟩
    have K : W p l e room_1 s m #[Value.ref b] below meth c s₁.heap [] 0 0 (lw_Z below #[Value.ref b] s) (entryFrame m ([Value.ref b] : List Value).toArray 4) := by
      rw [hh0]
      exact whole_start l hflags hbd ⟨B.exec, B.bytes, B.returns, hml, hown, hts, hX, hbl, B.notSynchronized, hgv⟩
    obtain ⟨t, a1, o, b1, b2, b3⟩ := K s₁ rfl X₀
    exact ⟨t, o, a1, b1, b2, b3⟩
theorem lw_pre_spec {args : Array Value} {s : State} (h : (Jvm.Cond.and given_1 narrow_1).before args s = true) (hr : rest_1_c.before args s = true) : ∃ (b : Addr) (xs : List Int32), lw_P b xs args s := by
  have hs := flat_of_before _ h
  have hq := flat_of_before _ hr
  have hc : (Cond.count 1).before args s = true := hs _ (by decide +kernel)
  have harr : (Cond.arrayOf (.arg 0) .int).before args s = true := hs _ (by decide +kernel)
  have hle : (Cond.le (.length (.arg 0)) (.int 6)).before args s = true := hs _ (by decide +kernel)
  have hlen : (Cond.isInt (.length (.arg 0))).before args s = true := hq _ (by decide +kernel)
  have hall : (Cond.all (.arg 0) (.isInt (.elem (.arg 0) (.index 0)))).before args s = true := hq _ (by decide +kernel)
  obtain ⟨b, xs, hb, hx⟩ := State.ints_of_pre rfl harr hlen hall
  have hsm : xs.length < 2 ^ 31 := hx.choose_spec.2.2.2
  have hev : (Term.length (.arg 0)).eval args s none [] s = some (.int xs.length.toInt32) := hx.length_eval hb
  have hv := Cond.le_ints hev (show (Term.int 6).eval args s none [] s = some (.int 6) from rfl)
  have hd : xs.length.toInt32 ≤ 6 := by
    simpa [Cond.before, Cond.holds, hv] using hle
  have hN : xs.length ≤ 6 := (Int32.ofNat_le_ofNat hsm (by decide)).mp (show Int32.ofNat xs.length ≤ Int32.ofNat 6 from hd)
  exact ⟨b, xs, Cond.one_arg hc (show args[0]? = some (.ref b) from hb), hx, hN, h⟩
theorem lw_comes (l : Launch) (hflags : l.flags = flags0) : Comes l x (Jvm.Cond.code x code maxLocals ret :: tables_1) room_1 (fun tb e args s => Calls_1 tb e args s ∧ rest_1 tb e args s ∧ Pre_1 tb e args s)
    (fun _ _ args s o t => lw_Q args s o t) := by
  intro p e ha hc hk s m args below hf hfit hheap happ hpre
  obtain ⟨b, xs, hP⟩ := lw_pre_spec hpre.2.2 hpre.2.1
  obtain ⟨k, o, h1, h2, h3, hQ⟩ := lw_walk l hflags b xs p e ha hc hk s m args below hf ((Spec.applies_iff_loose hf).mp happ).1 hP trivial
  exact ⟨k, o, h1, h2, h3, hQ⟩
theorem lw_frame {s t : State} {o : Outcome} {args : Array Value} (h : Framed s o t [] 600000 7302250) :
    Framed s o t (fieldLocs frame_1_writes args s ++ arrayLocs frame_1_arrays args s ++ staticLocs frame_1_statics s) 600000 7302250 := h
theorem lw_limb (L : Cond) (hL : ∀ (args : Array Value) (s t : State), L.after args s (.returned (some (.int 1))) t = true) :
    ArmFor flags0 classFile x code maxLocals ret World_1 tables_1 room_1 Calls_1 rest_1 Pre_1
      (fun tb e a s o t => postC L tb e a s o t ∧ Framed s o t (fieldLocs frame_1_writes a s ++ arrayLocs frame_1_arrays a s ++ staticLocs frame_1_statics s) 600000 7302250) := by
  intro l hflags _ _ p e ha hc hk s m args below hf hfit hheap happ hpre
  obtain ⟨k, o, h1, h2, h3, rfl, hF⟩ := lw_comes l hflags p e ha hc hk s m args below hf hfit hheap happ hpre
  exact ⟨k, _, h1, h2, h3, hL args s _, lw_frame hF⟩
theorem i_vc : Claimed_1_1 ∧ Claimed_1_2 := ⟨lw_limb limb_1_1 (fun args s t => by simp [limb_1_1, Cond.after, Cond.holds, Cond.value]), lw_limb limb_1_2 (fun args s t => Cond.after_iff.mpr (by
  first | (rw [show limb_1_2 = Cond.eq .result (.int 1) from rfl, Cond.eq_ints (x := 1) (y := 1) rfl rfl]; simp; done) | (simp [limb_1_2, Cond.value, Term.eval]; done)))⟩

