/-! NEW ROWS for the search: all else stays (written by wip/gen/gengh.py) -/
/-- all that is told stays; only the search's rows may be others -/
def w_pub (g g2 : w_G) : Prop := (∀ k, k < 12 → g2.1 k = g.1 k) ∧ g2.2.1 = g.2.1
theorem pub_rf {g : w_G} : w_pub g g := ⟨fun _ _ => rfl, rfl⟩
theorem pub_tr {g g2 g3 : w_G} (h1 : w_pub g g2) (h2 : w_pub g2 g3) : w_pub g g3 := ⟨fun k hk => (h2.1 k hk).trans (h1.1 k hk), h2.2.trans h1.2⟩
/-- what is for something stays so -/
def w_oe (o o2 : w_O) : Prop := ∀ q, (o q).1 ≠ 999 → o2 q = o q
theorem oe_rf {o : w_O} : w_oe o o := fun _ _ => rfl
theorem oe_tr {o o2 o3 : w_O} (h1 : w_oe o o2) (h2 : w_oe o2 o3) : w_oe o o3 := fun q hq => (h2 q (by rw [h1 q hq]; exact hq)).trans (h1 q hq)
section
variable {g g2 : w_G} {o o2 : w_O} {q : Nat} {e : m_E}
theorem pub_H (hg : w_pub g g2) : g_H g2 = g_H g := hg.1 0 (Nat.le_of_ble_eq_true rfl)
theorem pub_C (hg : w_pub g g2) : g_C g2 = g_C g := hg.1 1 (Nat.le_of_ble_eq_true rfl)
theorem pub_N (hg : w_pub g g2) : g_N g2 = g_N g := hg.1 2 (Nat.le_of_ble_eq_true rfl)
theorem pub_np (hg : w_pub g g2) : g_np g2 = g_np g := hg.1 3 (Nat.le_of_ble_eq_true rfl)
theorem pub_nt (hg : w_pub g g2) : g_nt g2 = g_nt g := hg.1 4 (Nat.le_of_ble_eq_true rfl)
theorem pub_hi (hg : w_pub g g2) : g_hi g2 = g_hi g := hg.1 5 (Nat.le_of_ble_eq_true rfl)
theorem pub_mH (hg : w_pub g g2) : g_mH g2 = g_mH g := hg.1 6 (Nat.le_of_ble_eq_true rfl)
theorem pub_mC (hg : w_pub g g2) : g_mC g2 = g_mC g := hg.1 7 (Nat.le_of_ble_eq_true rfl)
theorem pub_mN (hg : w_pub g g2) : g_mN g2 = g_mN g := hg.1 8 (Nat.le_of_ble_eq_true rfl)
theorem pub_mnp (hg : w_pub g g2) : g_mnp g2 = g_mnp g := hg.1 9 (Nat.le_of_ble_eq_true rfl)
theorem pub_mnt (hg : w_pub g g2) : g_mnt g2 = g_mnt g := hg.1 10 (Nat.le_of_ble_eq_true rfl)
theorem pub_mhi (hg : w_pub g g2) : g_mhi g2 = g_mhi g := hg.1 11 (Nat.le_of_ble_eq_true rfl)
theorem pub_T (hg : w_pub g g2) (j : Int) : g_T g2 j = g_T g j := by unfold g_T; rw [hg.2]
theorem pub_PK (hg : w_pub g g2) (j : Int) : g_PK g2 j = g_PK g j := by unfold g_PK; rw [hg.2]
theorem pub_PN (hg : w_pub g g2) (j : Int) : g_PN g2 j = g_PN g j := by unfold g_PN; rw [hg.2]
theorem pub_mT (hg : w_pub g g2) (j : Int) : g_mT g2 j = g_mT g j := by unfold g_mT; rw [hg.2]
theorem pub_mPK (hg : w_pub g g2) (j : Int) : g_mPK g2 j = g_mPK g j := by unfold g_mPK; rw [hg.2]
theorem pub_mPN (hg : w_pub g g2) (j : Int) : g_mPN g2 j = g_mPN g j := by unfold g_mPN; rw [hg.2]
theorem pub_mCL (hg : w_pub g g2) (j : Int) : g_mCL g2 j = g_mCL g j := by unfold g_mCL; rw [hg.2]
theorem pub_all (hg : w_pub g g2) : g_H g2 = g_H g ∧ g_C g2 = g_C g ∧ g_N g2 = g_N g ∧ g_np g2 = g_np g ∧ g_nt g2 = g_nt g ∧ g_hi g2 = g_hi g ∧ g_mH g2 = g_mH g ∧ g_mC g2 = g_mC g ∧ g_mN g2 = g_mN g ∧ g_mnp g2 = g_mnp g ∧ g_mnt g2 = g_mnt g ∧ g_mhi g2 = g_mhi g := ⟨pub_H hg, pub_C hg, pub_N hg, pub_np hg, pub_nt hg, pub_hi hg, pub_mH hg, pub_mC hg, pub_mN hg, pub_mnp hg, pub_mnt hg, pub_mhi hg⟩
theorem pub_wf (hg : w_pub g g2) (hw : w_wf g) : w_wf g2 := by
  unfold w_wf at hw ⊢
  simp only [pub_H hg, pub_C hg, pub_N hg, pub_np hg, pub_nt hg, pub_hi hg, pub_mH hg, pub_mC hg, pub_mN hg, pub_mnp hg, pub_mnt hg, pub_mhi hg, pub_T hg, pub_PK hg, pub_PN hg, pub_mT hg, pub_mPK hg, pub_mPN hg, pub_mCL hg]
  exact hw
theorem oe_1 (ho : w_oe o o2) {t : Nat} (h : (o q).1 = t) (ht : Nat.beq t 999 = false) : (o2 q).1 = t := by rw [ho q (fun z => by rw [z] at h; subst h; cases ht)]; exact h
theorem mo_c0 (hg : w_pub g g2) (ho : w_oe o o2) (hq : o2 q = o q) (h : c_0 g o q e) : c_0 g2 o2 q e := by
  unfold c_0 at h ⊢
  simp only [pub_np hg, pub_nt hg, pub_hi hg]
  exact h
theorem mo_c1 (hg : w_pub g g2) (ho : w_oe o o2) (hq : o2 q = o q) (h : c_1 g o q e) : c_1 g2 o2 q e := by
  unfold c_1 at h ⊢
  simp only [pub_H hg, pub_C hg, pub_N hg, pub_nt hg]
  exact h
theorem mo_c2 (hg : w_pub g g2) (ho : w_oe o o2) (hq : o2 q = o q) (h : c_2 g o q e) : c_2 g2 o2 q e := by
  unfold c_2 at h ⊢
  simp only [pub_T hg]
  exact h
theorem mo_c3 (hg : w_pub g g2) (ho : w_oe o o2) (hq : o2 q = o q) (h : c_3 g o q e) : c_3 g2 o2 q e := by
  unfold c_3 at h ⊢
  simp only [pub_C hg]
  exact h
theorem mo_c4 (hg : w_pub g g2) (ho : w_oe o o2) (hq : o2 q = o q) (h : c_4 g o q e) : c_4 g2 o2 q e := by
  unfold c_4 at h ⊢
  exact h
theorem mo_c5 (hg : w_pub g g2) (ho : w_oe o o2) (hq : o2 q = o q) (h : c_5 g o q e) : c_5 g2 o2 q e := by
  unfold c_5 at h ⊢
  simp only [pub_nt hg]
  exact h
theorem mo_c6 (hg : w_pub g g2) (ho : w_oe o o2) (hq : o2 q = o q) (h : c_6 g o q e) : c_6 g2 o2 q e := by
  unfold c_6 at h ⊢
  exact h
theorem mo_c7 (hg : w_pub g g2) (ho : w_oe o o2) (hq : o2 q = o q) (h : c_7 g o q e) : c_7 g2 o2 q e := by
  unfold c_7 at h ⊢
  simp only [pub_C hg, pub_hi hg]
  exact h
theorem mo_c8 (hg : w_pub g g2) (ho : w_oe o o2) (hq : o2 q = o q) (h : c_8 g o q e) : c_8 g2 o2 q e := by
  unfold c_8 at h ⊢
  exact h
theorem mo_c10 (hg : w_pub g g2) (ho : w_oe o o2) (hq : o2 q = o q) (h : c_10 g o q e) : c_10 g2 o2 q e := by
  unfold c_10 at h ⊢
  exact h
theorem mo_c11 (hg : w_pub g g2) (ho : w_oe o o2) (hq : o2 q = o q) (h : c_11 g o q e) : c_11 g2 o2 q e := by
  unfold c_11 at h ⊢
  exact h
theorem mo_c17 (hg : w_pub g g2) (ho : w_oe o o2) (hq : o2 q = o q) (h : c_17 g o q e) : c_17 g2 o2 q e := by
  unfold c_17 at h ⊢
  simp only [pub_np hg]
  obtain ⟨l, h1, h2, h3, h4⟩ := h
  exact ⟨l, h1, h2, fun i hi hn => by
    obtain ⟨p, a, b⟩ := h3 i hi hn
    exact ⟨p, a, (ho p (by rw [b]; show (120 : Nat) ≠ 999; decide)).trans b⟩, h4⟩
theorem mo_c18 (hg : w_pub g g2) (ho : w_oe o o2) (hq : o2 q = o q) (h : c_18 g o q e) : c_18 g2 o2 q e := by
  unfold c_18 at h ⊢
  exact h
theorem mo_c19 (hg : w_pub g g2) (ho : w_oe o o2) (hq : o2 q = o q) (h : c_19 g o q e) : c_19 g2 o2 q e := by
  unfold c_19 at h ⊢
  exact h
theorem mo_c20 (hg : w_pub g g2) (ho : w_oe o o2) (hq : o2 q = o q) (h : c_20 g o q e) : c_20 g2 o2 q e := by
  unfold c_20 at h ⊢
  exact h
theorem mo_c21 (hg : w_pub g g2) (ho : w_oe o o2) (hq : o2 q = o q) (h : c_21 g o q e) : c_21 g2 o2 q e := by
  unfold c_21 at h ⊢
  exact h
theorem mo_c22 (hg : w_pub g g2) (ho : w_oe o o2) (hq : o2 q = o q) (h : c_22 g o q e) : c_22 g2 o2 q e := by
  unfold c_22 at h ⊢
  exact h
theorem mo_c23 (hg : w_pub g g2) (ho : w_oe o o2) (hq : o2 q = o q) (h : c_23 g o q e) : c_23 g2 o2 q e := by
  unfold c_23 at h ⊢
  simp only [pub_nt hg]
  obtain ⟨l, h1, h2, h3, h4⟩ := h
  exact ⟨l, h1, h2, fun i hi hn => by
    obtain ⟨p, a, b⟩ := h3 i hi hn
    exact ⟨p, a, oe_1 ho b rfl⟩, h4⟩
theorem mo_c24 (hg : w_pub g g2) (ho : w_oe o o2) (hq : o2 q = o q) (h : c_24 g o q e) : c_24 g2 o2 q e := by
  unfold c_24 at h ⊢
  obtain ⟨l, h1, h2, h3⟩ := h
  exact ⟨l, h1, h2, fun i hi => (h3 i hi).imp id (fun ⟨p, a, b⟩ => ⟨p, a, oe_1 ho b rfl⟩)⟩
theorem mo_c25 (hg : w_pub g g2) (ho : w_oe o o2) (hq : o2 q = o q) (h : c_25 g o q e) : c_25 g2 o2 q e := by
  unfold c_25 at h ⊢
  exact h
theorem mo_c26 (hg : w_pub g g2) (ho : w_oe o o2) (hq : o2 q = o q) (h : c_26 g o q e) : c_26 g2 o2 q e := by
  unfold c_26 at h ⊢
  exact h
theorem mo_c27 (hg : w_pub g g2) (ho : w_oe o o2) (hq : o2 q = o q) (h : c_27 g o q e) : c_27 g2 o2 q e := by
  unfold c_27 at h ⊢
  exact h
theorem mo_c31 (hg : w_pub g g2) (ho : w_oe o o2) (hq : o2 q = o q) (h : c_31 g o q e) : c_31 g2 o2 q e := by
  unfold c_31 at h ⊢
  simp only [pub_mH hg, pub_mC hg, pub_mnp hg, pub_mnt hg, pub_mhi hg]
  exact h
theorem mo_c32 (hg : w_pub g g2) (ho : w_oe o o2) (hq : o2 q = o q) (h : c_32 g o q e) : c_32 g2 o2 q e := by
  unfold c_32 at h ⊢
  simp only [pub_mT hg]
  exact h
theorem mo_c33 (hg : w_pub g g2) (ho : w_oe o o2) (hq : o2 q = o q) (h : c_33 g o q e) : c_33 g2 o2 q e := by
  unfold c_33 at h ⊢
  simp only [pub_mC hg]
  exact h
theorem mo_c34 (hg : w_pub g g2) (ho : w_oe o o2) (hq : o2 q = o q) (h : c_34 g o q e) : c_34 g2 o2 q e := by
  unfold c_34 at h ⊢
  exact h
theorem mo_c35 (hg : w_pub g g2) (ho : w_oe o o2) (hq : o2 q = o q) (h : c_35 g o q e) : c_35 g2 o2 q e := by
  unfold c_35 at h ⊢
  simp only [pub_mnp hg, pub_mPK hg]
  exact h
theorem mo_c36 (hg : w_pub g g2) (ho : w_oe o o2) (hq : o2 q = o q) (h : c_36 g o q e) : c_36 g2 o2 q e := by
  unfold c_36 at h ⊢
  simp only [pub_mnp hg, pub_mPN hg]
  exact h
theorem mo_c37 (hg : w_pub g g2) (ho : w_oe o o2) (hq : o2 q = o q) (h : c_37 g o q e) : c_37 g2 o2 q e := by
  unfold c_37 at h ⊢
  exact h
theorem mo_c50 (hg : w_pub g g2) (ho : w_oe o o2) (hq : o2 q = o q) (h : c_50 g o q e) : c_50 g2 o2 q e := by
  unfold c_50 at h ⊢
  exact h
theorem mo_c51 (hg : w_pub g g2) (ho : w_oe o o2) (hq : o2 q = o q) (h : c_51 g o q e) : c_51 g2 o2 q e := by
  unfold c_51 at h ⊢
  simp only [pub_mnt hg, pub_mCL hg]
  exact h
theorem mo_c52 (hg : w_pub g g2) (ho : w_oe o o2) (hq : o2 q = o q) (h : c_52 g o q e) : c_52 g2 o2 q e := by
  unfold c_52 at h ⊢
  simp only [pub_mnt hg, pub_mCL hg]
  exact h
theorem mo_c53 (hg : w_pub g g2) (ho : w_oe o o2) (hq : o2 q = o q) (h : c_53 g o q e) : c_53 g2 o2 q e := by
  unfold c_53 at h ⊢
  exact h
theorem mo_c54 (hg : w_pub g g2) (ho : w_oe o o2) (hq : o2 q = o q) (h : c_54 g o q e) : c_54 g2 o2 q e := by
  unfold c_54 at h ⊢
  exact h
theorem mo_c55 (hg : w_pub g g2) (ho : w_oe o o2) (hq : o2 q = o q) (h : c_55 g o q e) : c_55 g2 o2 q e := by
  unfold c_55 at h ⊢
  exact h
theorem mo_c56 (hg : w_pub g g2) (ho : w_oe o o2) (hq : o2 q = o q) (h : c_56 g o q e) : c_56 g2 o2 q e := by
  unfold c_56 at h ⊢
  exact h
theorem mo_c57 (hg : w_pub g g2) (ho : w_oe o o2) (hq : o2 q = o q) (h : c_57 g o q e) : c_57 g2 o2 q e := by
  unfold c_57 at h ⊢
  exact h
theorem mo_c58 (hg : w_pub g g2) (ho : w_oe o o2) (hq : o2 q = o q) (h : c_58 g o q e) : c_58 g2 o2 q e := by
  unfold c_58 at h ⊢
  exact h
theorem mo_c59 (hg : w_pub g g2) (ho : w_oe o o2) (hq : o2 q = o q) (h : c_59 g o q e) : c_59 g2 o2 q e := by
  unfold c_59 at h ⊢
  exact h
theorem mo_c60 (hg : w_pub g g2) (ho : w_oe o o2) (hq : o2 q = o q) (h : c_60 g o q e) : c_60 g2 o2 q e := by
  unfold c_60 at h ⊢
  exact h
theorem mo_c61 (hg : w_pub g g2) (ho : w_oe o o2) (hq : o2 q = o q) (h : c_61 g o q e) : c_61 g2 o2 q e := by
  unfold c_61 at h ⊢
  simp only [pub_mC hg, pub_mhi hg]
  exact h
theorem mo_c62 (hg : w_pub g g2) (ho : w_oe o o2) (hq : o2 q = o q) (h : c_62 g o q e) : c_62 g2 o2 q e := by
  unfold c_62 at h ⊢
  exact h
theorem mo_c63 (hg : w_pub g g2) (ho : w_oe o o2) (hq : o2 q = o q) (h : c_63 g o q e) : c_63 g2 o2 q e := by
  unfold c_63 at h ⊢
  exact h
theorem mo_c64 (hg : w_pub g g2) (ho : w_oe o o2) (hq : o2 q = o q) (h : c_64 g o q e) : c_64 g2 o2 q e := by
  unfold c_64 at h ⊢
  exact h
theorem mo_c65 (hg : w_pub g g2) (ho : w_oe o o2) (hq : o2 q = o q) (h : c_65 g o q e) : c_65 g2 o2 q e := by
  unfold c_65 at h ⊢
  exact h
theorem mo_c66 (hg : w_pub g g2) (ho : w_oe o o2) (hq : o2 q = o q) (h : c_66 g o q e) : c_66 g2 o2 q e := by
  unfold c_66 at h ⊢
  exact h
theorem mo_c100 (hg : w_pub g g2) (ho : w_oe o o2) (hq : o2 q = o q) (h : c_100 g o q e) : c_100 g2 o2 q e := by
  unfold c_100 at h ⊢
  rw [hq]
  exact h
theorem mo_c101 (hg : w_pub g g2) (ho : w_oe o o2) (hq : o2 q = o q) (h : c_101 g o q e) : c_101 g2 o2 q e := by
  unfold c_101 at h ⊢
  rw [hq]
  exact h
theorem mo_c102 (hg : w_pub g g2) (ho : w_oe o o2) (hq : o2 q = o q) (h : c_102 g o q e) : c_102 g2 o2 q e := by
  unfold c_102 at h ⊢
  rw [hq]
  exact h
theorem mo_c103 (hg : w_pub g g2) (ho : w_oe o o2) (hq : o2 q = o q) (h : c_103 g o q e) : c_103 g2 o2 q e := by
  unfold c_103 at h ⊢
  rw [hq]
  exact h
theorem mo_c104 (hg : w_pub g g2) (ho : w_oe o o2) (hq : o2 q = o q) (h : c_104 g o q e) : c_104 g2 o2 q e := by
  unfold c_104 at h ⊢
  rw [hq]
  exact h
theorem mo_c110 (hg : w_pub g g2) (ho : w_oe o o2) (hq : o2 q = o q) (h : c_110 g o q e) : c_110 g2 o2 q e := by
  unfold c_110 at h ⊢
  obtain ⟨me, fe, cod, stk, h1, a1, a2, a3, a4, a5, a6, a7, a8, a9⟩ := h
  exact ⟨me, fe, cod, stk, h1, a1, a2, a3, a4, a5, a6, by rw [ho cod (by rw [a8]; decide)]; exact a7, oe_1 ho a8 rfl, oe_1 ho a9 rfl⟩
theorem mo_c111 (hg : w_pub g g2) (ho : w_oe o o2) (hq : o2 q = o q) (h : c_111 g o q e) : c_111 g2 o2 q e := by
  unfold c_111 at h ⊢
  rw [hq]
  exact h
theorem mo_c112 (hg : w_pub g g2) (ho : w_oe o o2) (hq : o2 q = o q) (h : c_112 g o q e) : c_112 g2 o2 q e := by
  unfold c_112 at h ⊢
  exact h
theorem mo_c120 (hg : w_pub g g2) (ho : w_oe o o2) (hq : o2 q = o q) (h : c_120 g o q e) : c_120 g2 o2 q e := by
  unfold c_120 at h ⊢
  simp only [pub_np hg, pub_PK hg, pub_PN hg]
  rw [hq]
  exact h
theorem mo_c130 (hg : w_pub g g2) (ho : w_oe o o2) (hq : o2 q = o q) (h : c_130 g o q e) : c_130 g2 o2 q e := by
  unfold c_130 at h ⊢
  obtain ⟨srt, itm, h1, a1, a2, a3⟩ := h
  exact ⟨srt, itm, h1, a1, a2, oe_1 ho a3 rfl⟩
theorem mo_c131 (hg : w_pub g g2) (ho : w_oe o o2) (hq : o2 q = o q) (h : c_131 g o q e) : c_131 g2 o2 q e := by
  unfold c_131 at h ⊢
  rw [hq]
  exact h
theorem mo_c140 (hg : w_pub g g2) (ho : w_oe o o2) (hq : o2 q = o q) (h : c_140 g o q e) : c_140 g2 o2 q e := by
  unfold c_140 at h ⊢
  rw [hq]
  exact h
theorem ty_mono (hg : w_pub g g2) (ho : w_oe o o2) (h9 : (o q).1 ≠ 9) (h : w_ty g o q e) : w_ty g2 o2 q e := by
  have hq : o2 q = o q := ho q (fun z => by unfold w_ty at h; rw [z] at h; exact h)
  unfold w_ty at h ⊢
  rw [hq]
  generalize ht : (o q).1 = t at h h9 ⊢
  match t, h, h9 with
  | 0, h, _ => exact mo_c0 hg ho hq h
  | 1, h, _ => exact mo_c1 hg ho hq h
  | 2, h, _ => exact mo_c2 hg ho hq h
  | 3, h, _ => exact mo_c3 hg ho hq h
  | 4, h, _ => exact mo_c4 hg ho hq h
  | 5, h, _ => exact mo_c5 hg ho hq h
  | 6, h, _ => exact mo_c6 hg ho hq h
  | 7, h, _ => exact mo_c7 hg ho hq h
  | 8, h, _ => exact mo_c8 hg ho hq h
  | 9, h, h9 => exact absurd rfl h9
  | 10, h, _ => exact mo_c10 hg ho hq h
  | 11, h, _ => exact mo_c11 hg ho hq h
  | 17, h, _ => exact mo_c17 hg ho hq h
  | 18, h, _ => exact mo_c18 hg ho hq h
  | 19, h, _ => exact mo_c19 hg ho hq h
  | 20, h, _ => exact mo_c20 hg ho hq h
  | 21, h, _ => exact mo_c21 hg ho hq h
  | 22, h, _ => exact mo_c22 hg ho hq h
  | 23, h, _ => exact mo_c23 hg ho hq h
  | 24, h, _ => exact mo_c24 hg ho hq h
  | 25, h, _ => exact mo_c25 hg ho hq h
  | 26, h, _ => exact mo_c26 hg ho hq h
  | 27, h, _ => exact mo_c27 hg ho hq h
  | 31, h, _ => exact mo_c31 hg ho hq h
  | 32, h, _ => exact mo_c32 hg ho hq h
  | 33, h, _ => exact mo_c33 hg ho hq h
  | 34, h, _ => exact mo_c34 hg ho hq h
  | 35, h, _ => exact mo_c35 hg ho hq h
  | 36, h, _ => exact mo_c36 hg ho hq h
  | 37, h, _ => exact mo_c37 hg ho hq h
  | 50, h, _ => exact mo_c50 hg ho hq h
  | 51, h, _ => exact mo_c51 hg ho hq h
  | 52, h, _ => exact mo_c52 hg ho hq h
  | 53, h, _ => exact mo_c53 hg ho hq h
  | 54, h, _ => exact mo_c54 hg ho hq h
  | 55, h, _ => exact mo_c55 hg ho hq h
  | 56, h, _ => exact mo_c56 hg ho hq h
  | 57, h, _ => exact mo_c57 hg ho hq h
  | 58, h, _ => exact mo_c58 hg ho hq h
  | 59, h, _ => exact mo_c59 hg ho hq h
  | 60, h, _ => exact mo_c60 hg ho hq h
  | 61, h, _ => exact mo_c61 hg ho hq h
  | 62, h, _ => exact mo_c62 hg ho hq h
  | 63, h, _ => exact mo_c63 hg ho hq h
  | 64, h, _ => exact mo_c64 hg ho hq h
  | 65, h, _ => exact mo_c65 hg ho hq h
  | 66, h, _ => exact mo_c66 hg ho hq h
  | 100, h, _ => exact mo_c100 hg ho hq h
  | 101, h, _ => exact mo_c101 hg ho hq h
  | 102, h, _ => exact mo_c102 hg ho hq h
  | 103, h, _ => exact mo_c103 hg ho hq h
  | 104, h, _ => exact mo_c104 hg ho hq h
  | 110, h, _ => exact mo_c110 hg ho hq h
  | 111, h, _ => exact mo_c111 hg ho hq h
  | 112, h, _ => exact mo_c112 hg ho hq h
  | 120, h, _ => exact mo_c120 hg ho hq h
  | 130, h, _ => exact mo_c130 hg ho hq h
  | 131, h, _ => exact mo_c131 hg ho hq h
  | 140, h, _ => exact mo_c140 hg ho hq h
end
