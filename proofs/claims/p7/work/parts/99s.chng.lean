/-! GHOSTS THAT CHANGE: all cells that do not speak of them stay (written by wip/gen/gench.py) -/
/-- all ghosts but some ints and some functions stay -/
def w_ch (I F : List Nat) (g g2 : w_G) : Prop := (∀ k, I.contains k = false → g2.1 k = g.1 k) ∧ (∀ k, F.contains k = false → g2.2.1 k = g.2.1 k) ∧ g2.2.2 = g.2.2
theorem ch_rf {I F : List Nat} {g : w_G} : w_ch I F g g := ⟨fun _ _ => rfl, fun _ _ => rfl, rfl⟩
theorem ch_pa_H {g g2 : w_G} (hg : w_ch [3] [1, 2] g g2) : g_H g2 = g_H g := hg.1 0 rfl
theorem ch_pa_C {g g2 : w_G} (hg : w_ch [3] [1, 2] g g2) : g_C g2 = g_C g := hg.1 1 rfl
theorem ch_pa_N {g g2 : w_G} (hg : w_ch [3] [1, 2] g g2) : g_N g2 = g_N g := hg.1 2 rfl
theorem ch_pa_nt {g g2 : w_G} (hg : w_ch [3] [1, 2] g g2) : g_nt g2 = g_nt g := hg.1 4 rfl
theorem ch_pa_hi {g g2 : w_G} (hg : w_ch [3] [1, 2] g g2) : g_hi g2 = g_hi g := hg.1 5 rfl
theorem ch_pa_mH {g g2 : w_G} (hg : w_ch [3] [1, 2] g g2) : g_mH g2 = g_mH g := hg.1 6 rfl
theorem ch_pa_mC {g g2 : w_G} (hg : w_ch [3] [1, 2] g g2) : g_mC g2 = g_mC g := hg.1 7 rfl
theorem ch_pa_mN {g g2 : w_G} (hg : w_ch [3] [1, 2] g g2) : g_mN g2 = g_mN g := hg.1 8 rfl
theorem ch_pa_mnp {g g2 : w_G} (hg : w_ch [3] [1, 2] g g2) : g_mnp g2 = g_mnp g := hg.1 9 rfl
theorem ch_pa_mnt {g g2 : w_G} (hg : w_ch [3] [1, 2] g g2) : g_mnt g2 = g_mnt g := hg.1 10 rfl
theorem ch_pa_mhi {g g2 : w_G} (hg : w_ch [3] [1, 2] g g2) : g_mhi g2 = g_mhi g := hg.1 11 rfl
theorem ch_pa_L {g g2 : w_G} (hg : w_ch [3] [1, 2] g g2) : g_L g2 = g_L g := hg.1 12 rfl
theorem ch_pa_T {g g2 : w_G} (hg : w_ch [3] [1, 2] g g2) (j : Int) : g_T g2 j = g_T g j := by unfold g_T; rw [hg.2.1 0 rfl]
theorem ch_pa_mT {g g2 : w_G} (hg : w_ch [3] [1, 2] g g2) (j : Int) : g_mT g2 j = g_mT g j := by unfold g_mT; rw [hg.2.1 3 rfl]
theorem ch_pa_mPK {g g2 : w_G} (hg : w_ch [3] [1, 2] g g2) (j : Int) : g_mPK g2 j = g_mPK g j := by unfold g_mPK; rw [hg.2.1 4 rfl]
theorem ch_pa_mPN {g g2 : w_G} (hg : w_ch [3] [1, 2] g g2) (j : Int) : g_mPN g2 j = g_mPN g j := by unfold g_mPN; rw [hg.2.1 5 rfl]
theorem ch_pa_mCL {g g2 : w_G} (hg : w_ch [3] [1, 2] g g2) (j : Int) : g_mCL g2 j = g_mCL g j := by unfold g_mCL; rw [hg.2.1 6 rfl]
theorem ch_pa_rw {g g2 : w_G} (hg : w_ch [3] [1, 2] g g2) : g_rw g2 = g_rw g := by unfold g_rw; rw [hg.2.2]
theorem ch_pa_stp {g g2 : w_G} (hg : w_ch [3] [1, 2] g g2) : g_stp g2 = g_stp g := by unfold g_stp; rw [hg.2.2]
theorem ch_pa_ahd {g g2 : w_G} (hg : w_ch [3] [1, 2] g g2) : g_ahd g2 = g_ahd g := by unfold g_ahd; rw [hg.2.2]
theorem ch_pa_cst {g g2 : w_G} (hg : w_ch [3] [1, 2] g g2) : g_cst g2 = g_cst g := by unfold g_cst; rw [hg.2.2]
theorem ch_pa_chp {g g2 : w_G} (hg : w_ch [3] [1, 2] g g2) : g_chp g2 = g_chp g := by unfold g_chp; rw [hg.2.2]
theorem cg_pa_1 {g g2 : w_G} {o : w_O} {q : Nat} {e : m_E} (hg : w_ch [3] [1, 2] g g2) (h : c_1 g o q e) : c_1 g2 o q e := by
  unfold c_1 at h ⊢
  simp only [ch_pa_H hg, ch_pa_C hg, ch_pa_N hg, ch_pa_nt hg]
  exact h
theorem cg_pa_2 {g g2 : w_G} {o : w_O} {q : Nat} {e : m_E} (hg : w_ch [3] [1, 2] g g2) (h : c_2 g o q e) : c_2 g2 o q e := by
  unfold c_2 at h ⊢
  simp only [ch_pa_T hg]
  exact h
theorem cg_pa_3 {g g2 : w_G} {o : w_O} {q : Nat} {e : m_E} (hg : w_ch [3] [1, 2] g g2) (h : c_3 g o q e) : c_3 g2 o q e := by
  unfold c_3 at h ⊢
  simp only [ch_pa_C hg]
  exact h
theorem cg_pa_5 {g g2 : w_G} {o : w_O} {q : Nat} {e : m_E} (hg : w_ch [3] [1, 2] g g2) (h : c_5 g o q e) : c_5 g2 o q e := by
  unfold c_5 at h ⊢
  simp only [ch_pa_nt hg]
  exact h
theorem cg_pa_7 {g g2 : w_G} {o : w_O} {q : Nat} {e : m_E} (hg : w_ch [3] [1, 2] g g2) (h : c_7 g o q e) : c_7 g2 o q e := by
  unfold c_7 at h ⊢
  simp only [ch_pa_C hg, ch_pa_hi hg]
  exact h
theorem cg_pa_9 {g g2 : w_G} {o : w_O} {q : Nat} {e : m_E} (hg : w_ch [3] [1, 2] g g2) (h : c_9 g o q e) : c_9 g2 o q e := by
  unfold c_9 at h ⊢
  simp only [ch_pa_N hg, ch_pa_L hg, ch_pa_rw hg, ch_pa_stp hg, ch_pa_ahd hg, ch_pa_cst hg, ch_pa_chp hg]
  exact h
theorem cg_pa_23 {g g2 : w_G} {o : w_O} {q : Nat} {e : m_E} (hg : w_ch [3] [1, 2] g g2) (h : c_23 g o q e) : c_23 g2 o q e := by
  unfold c_23 at h ⊢
  simp only [ch_pa_nt hg]
  exact h
theorem cg_pa_31 {g g2 : w_G} {o : w_O} {q : Nat} {e : m_E} (hg : w_ch [3] [1, 2] g g2) (h : c_31 g o q e) : c_31 g2 o q e := by
  unfold c_31 at h ⊢
  simp only [ch_pa_mH hg, ch_pa_mC hg, ch_pa_mnp hg, ch_pa_mnt hg, ch_pa_mhi hg]
  exact h
theorem cg_pa_32 {g g2 : w_G} {o : w_O} {q : Nat} {e : m_E} (hg : w_ch [3] [1, 2] g g2) (h : c_32 g o q e) : c_32 g2 o q e := by
  unfold c_32 at h ⊢
  simp only [ch_pa_mT hg]
  exact h
theorem cg_pa_33 {g g2 : w_G} {o : w_O} {q : Nat} {e : m_E} (hg : w_ch [3] [1, 2] g g2) (h : c_33 g o q e) : c_33 g2 o q e := by
  unfold c_33 at h ⊢
  simp only [ch_pa_mC hg]
  exact h
theorem cg_pa_35 {g g2 : w_G} {o : w_O} {q : Nat} {e : m_E} (hg : w_ch [3] [1, 2] g g2) (h : c_35 g o q e) : c_35 g2 o q e := by
  unfold c_35 at h ⊢
  simp only [ch_pa_mnp hg, ch_pa_mPK hg]
  exact h
theorem cg_pa_36 {g g2 : w_G} {o : w_O} {q : Nat} {e : m_E} (hg : w_ch [3] [1, 2] g g2) (h : c_36 g o q e) : c_36 g2 o q e := by
  unfold c_36 at h ⊢
  simp only [ch_pa_mnp hg, ch_pa_mPN hg]
  exact h
theorem cg_pa_51 {g g2 : w_G} {o : w_O} {q : Nat} {e : m_E} (hg : w_ch [3] [1, 2] g g2) (h : c_51 g o q e) : c_51 g2 o q e := by
  unfold c_51 at h ⊢
  simp only [ch_pa_mnt hg, ch_pa_mCL hg]
  exact h
theorem cg_pa_52 {g g2 : w_G} {o : w_O} {q : Nat} {e : m_E} (hg : w_ch [3] [1, 2] g g2) (h : c_52 g o q e) : c_52 g2 o q e := by
  unfold c_52 at h ⊢
  simp only [ch_pa_mnt hg, ch_pa_mCL hg]
  exact h
theorem cg_pa_61 {g g2 : w_G} {o : w_O} {q : Nat} {e : m_E} (hg : w_ch [3] [1, 2] g g2) (h : c_61 g o q e) : c_61 g2 o q e := by
  unfold c_61 at h ⊢
  simp only [ch_pa_mC hg, ch_pa_mhi hg]
  exact h
/-- cells: [0, 17, 120] -/
theorem ty_pa {g g2 : w_G} {o : w_O} {q : Nat} {e : m_E} (hg : w_ch [3] [1, 2] g g2) (h0 : (o q).1 ≠ 0) (h17 : (o q).1 ≠ 17) (h120 : (o q).1 ≠ 120) (h : w_ty g o q e) : w_ty g2 o q e := by
  unfold w_ty at h ⊢
  generalize ht : (o q).1 = t at h h0 h17 h120 ⊢
  match t, h, h0, h17, h120 with
  | 0, h, h0, _, _ => exact absurd rfl h0
  | 1, h, _, _, _ => exact cg_pa_1 hg h
  | 2, h, _, _, _ => exact cg_pa_2 hg h
  | 3, h, _, _, _ => exact cg_pa_3 hg h
  | 4, h, _, _, _ => exact h
  | 5, h, _, _, _ => exact cg_pa_5 hg h
  | 6, h, _, _, _ => exact h
  | 7, h, _, _, _ => exact cg_pa_7 hg h
  | 8, h, _, _, _ => exact h
  | 9, h, _, _, _ => exact cg_pa_9 hg h
  | 10, h, _, _, _ => exact h
  | 11, h, _, _, _ => exact h
  | 17, h, _, h17, _ => exact absurd rfl h17
  | 18, h, _, _, _ => exact h
  | 19, h, _, _, _ => exact h
  | 20, h, _, _, _ => exact h
  | 21, h, _, _, _ => exact h
  | 22, h, _, _, _ => exact h
  | 23, h, _, _, _ => exact cg_pa_23 hg h
  | 24, h, _, _, _ => exact h
  | 25, h, _, _, _ => exact h
  | 26, h, _, _, _ => exact h
  | 27, h, _, _, _ => exact h
  | 31, h, _, _, _ => exact cg_pa_31 hg h
  | 32, h, _, _, _ => exact cg_pa_32 hg h
  | 33, h, _, _, _ => exact cg_pa_33 hg h
  | 34, h, _, _, _ => exact h
  | 35, h, _, _, _ => exact cg_pa_35 hg h
  | 36, h, _, _, _ => exact cg_pa_36 hg h
  | 37, h, _, _, _ => exact h
  | 50, h, _, _, _ => exact h
  | 51, h, _, _, _ => exact cg_pa_51 hg h
  | 52, h, _, _, _ => exact cg_pa_52 hg h
  | 53, h, _, _, _ => exact h
  | 54, h, _, _, _ => exact h
  | 55, h, _, _, _ => exact h
  | 56, h, _, _, _ => exact h
  | 57, h, _, _, _ => exact h
  | 58, h, _, _, _ => exact h
  | 59, h, _, _, _ => exact h
  | 60, h, _, _, _ => exact h
  | 61, h, _, _, _ => exact cg_pa_61 hg h
  | 62, h, _, _, _ => exact h
  | 63, h, _, _, _ => exact h
  | 64, h, _, _, _ => exact h
  | 65, h, _, _, _ => exact h
  | 66, h, _, _, _ => exact h
  | 100, h, _, _, _ => exact h
  | 101, h, _, _, _ => exact h
  | 102, h, _, _, _ => exact h
  | 103, h, _, _, _ => exact h
  | 104, h, _, _, _ => exact h
  | 110, h, _, _, _ => exact h
  | 111, h, _, _, _ => exact h
  | 112, h, _, _, _ => exact h
  | 120, h, _, _, h120 => exact absurd rfl h120
  | 130, h, _, _, _ => exact h
  | 131, h, _, _, _ => exact h
  | 140, h, _, _, _ => exact h
theorem ch_tx_H {g g2 : w_G} (hg : w_ch [4] [] g g2) : g_H g2 = g_H g := hg.1 0 rfl
theorem ch_tx_C {g g2 : w_G} (hg : w_ch [4] [] g g2) : g_C g2 = g_C g := hg.1 1 rfl
theorem ch_tx_N {g g2 : w_G} (hg : w_ch [4] [] g g2) : g_N g2 = g_N g := hg.1 2 rfl
theorem ch_tx_np {g g2 : w_G} (hg : w_ch [4] [] g g2) : g_np g2 = g_np g := hg.1 3 rfl
theorem ch_tx_hi {g g2 : w_G} (hg : w_ch [4] [] g g2) : g_hi g2 = g_hi g := hg.1 5 rfl
theorem ch_tx_mH {g g2 : w_G} (hg : w_ch [4] [] g g2) : g_mH g2 = g_mH g := hg.1 6 rfl
theorem ch_tx_mC {g g2 : w_G} (hg : w_ch [4] [] g g2) : g_mC g2 = g_mC g := hg.1 7 rfl
theorem ch_tx_mN {g g2 : w_G} (hg : w_ch [4] [] g g2) : g_mN g2 = g_mN g := hg.1 8 rfl
theorem ch_tx_mnp {g g2 : w_G} (hg : w_ch [4] [] g g2) : g_mnp g2 = g_mnp g := hg.1 9 rfl
theorem ch_tx_mnt {g g2 : w_G} (hg : w_ch [4] [] g g2) : g_mnt g2 = g_mnt g := hg.1 10 rfl
theorem ch_tx_mhi {g g2 : w_G} (hg : w_ch [4] [] g g2) : g_mhi g2 = g_mhi g := hg.1 11 rfl
theorem ch_tx_L {g g2 : w_G} (hg : w_ch [4] [] g g2) : g_L g2 = g_L g := hg.1 12 rfl
theorem ch_tx_T {g g2 : w_G} (hg : w_ch [4] [] g g2) (j : Int) : g_T g2 j = g_T g j := by unfold g_T; rw [hg.2.1 0 rfl]
theorem ch_tx_PK {g g2 : w_G} (hg : w_ch [4] [] g g2) (j : Int) : g_PK g2 j = g_PK g j := by unfold g_PK; rw [hg.2.1 1 rfl]
theorem ch_tx_PN {g g2 : w_G} (hg : w_ch [4] [] g g2) (j : Int) : g_PN g2 j = g_PN g j := by unfold g_PN; rw [hg.2.1 2 rfl]
theorem ch_tx_mT {g g2 : w_G} (hg : w_ch [4] [] g g2) (j : Int) : g_mT g2 j = g_mT g j := by unfold g_mT; rw [hg.2.1 3 rfl]
theorem ch_tx_mPK {g g2 : w_G} (hg : w_ch [4] [] g g2) (j : Int) : g_mPK g2 j = g_mPK g j := by unfold g_mPK; rw [hg.2.1 4 rfl]
theorem ch_tx_mPN {g g2 : w_G} (hg : w_ch [4] [] g g2) (j : Int) : g_mPN g2 j = g_mPN g j := by unfold g_mPN; rw [hg.2.1 5 rfl]
theorem ch_tx_mCL {g g2 : w_G} (hg : w_ch [4] [] g g2) (j : Int) : g_mCL g2 j = g_mCL g j := by unfold g_mCL; rw [hg.2.1 6 rfl]
theorem ch_tx_rw {g g2 : w_G} (hg : w_ch [4] [] g g2) : g_rw g2 = g_rw g := by unfold g_rw; rw [hg.2.2]
theorem ch_tx_stp {g g2 : w_G} (hg : w_ch [4] [] g g2) : g_stp g2 = g_stp g := by unfold g_stp; rw [hg.2.2]
theorem ch_tx_ahd {g g2 : w_G} (hg : w_ch [4] [] g g2) : g_ahd g2 = g_ahd g := by unfold g_ahd; rw [hg.2.2]
theorem ch_tx_cst {g g2 : w_G} (hg : w_ch [4] [] g g2) : g_cst g2 = g_cst g := by unfold g_cst; rw [hg.2.2]
theorem ch_tx_chp {g g2 : w_G} (hg : w_ch [4] [] g g2) : g_chp g2 = g_chp g := by unfold g_chp; rw [hg.2.2]
theorem cg_tx_2 {g g2 : w_G} {o : w_O} {q : Nat} {e : m_E} (hg : w_ch [4] [] g g2) (h : c_2 g o q e) : c_2 g2 o q e := by
  unfold c_2 at h ⊢
  simp only [ch_tx_T hg]
  exact h
theorem cg_tx_3 {g g2 : w_G} {o : w_O} {q : Nat} {e : m_E} (hg : w_ch [4] [] g g2) (h : c_3 g o q e) : c_3 g2 o q e := by
  unfold c_3 at h ⊢
  simp only [ch_tx_C hg]
  exact h
theorem cg_tx_7 {g g2 : w_G} {o : w_O} {q : Nat} {e : m_E} (hg : w_ch [4] [] g g2) (h : c_7 g o q e) : c_7 g2 o q e := by
  unfold c_7 at h ⊢
  simp only [ch_tx_C hg, ch_tx_hi hg]
  exact h
theorem cg_tx_9 {g g2 : w_G} {o : w_O} {q : Nat} {e : m_E} (hg : w_ch [4] [] g g2) (h : c_9 g o q e) : c_9 g2 o q e := by
  unfold c_9 at h ⊢
  simp only [ch_tx_N hg, ch_tx_L hg, ch_tx_rw hg, ch_tx_stp hg, ch_tx_ahd hg, ch_tx_cst hg, ch_tx_chp hg]
  exact h
theorem cg_tx_17 {g g2 : w_G} {o : w_O} {q : Nat} {e : m_E} (hg : w_ch [4] [] g g2) (h : c_17 g o q e) : c_17 g2 o q e := by
  unfold c_17 at h ⊢
  simp only [ch_tx_np hg]
  exact h
theorem cg_tx_31 {g g2 : w_G} {o : w_O} {q : Nat} {e : m_E} (hg : w_ch [4] [] g g2) (h : c_31 g o q e) : c_31 g2 o q e := by
  unfold c_31 at h ⊢
  simp only [ch_tx_mH hg, ch_tx_mC hg, ch_tx_mnp hg, ch_tx_mnt hg, ch_tx_mhi hg]
  exact h
theorem cg_tx_32 {g g2 : w_G} {o : w_O} {q : Nat} {e : m_E} (hg : w_ch [4] [] g g2) (h : c_32 g o q e) : c_32 g2 o q e := by
  unfold c_32 at h ⊢
  simp only [ch_tx_mT hg]
  exact h
theorem cg_tx_33 {g g2 : w_G} {o : w_O} {q : Nat} {e : m_E} (hg : w_ch [4] [] g g2) (h : c_33 g o q e) : c_33 g2 o q e := by
  unfold c_33 at h ⊢
  simp only [ch_tx_mC hg]
  exact h
theorem cg_tx_35 {g g2 : w_G} {o : w_O} {q : Nat} {e : m_E} (hg : w_ch [4] [] g g2) (h : c_35 g o q e) : c_35 g2 o q e := by
  unfold c_35 at h ⊢
  simp only [ch_tx_mnp hg, ch_tx_mPK hg]
  exact h
theorem cg_tx_36 {g g2 : w_G} {o : w_O} {q : Nat} {e : m_E} (hg : w_ch [4] [] g g2) (h : c_36 g o q e) : c_36 g2 o q e := by
  unfold c_36 at h ⊢
  simp only [ch_tx_mnp hg, ch_tx_mPN hg]
  exact h
theorem cg_tx_51 {g g2 : w_G} {o : w_O} {q : Nat} {e : m_E} (hg : w_ch [4] [] g g2) (h : c_51 g o q e) : c_51 g2 o q e := by
  unfold c_51 at h ⊢
  simp only [ch_tx_mnt hg, ch_tx_mCL hg]
  exact h
theorem cg_tx_52 {g g2 : w_G} {o : w_O} {q : Nat} {e : m_E} (hg : w_ch [4] [] g g2) (h : c_52 g o q e) : c_52 g2 o q e := by
  unfold c_52 at h ⊢
  simp only [ch_tx_mnt hg, ch_tx_mCL hg]
  exact h
theorem cg_tx_61 {g g2 : w_G} {o : w_O} {q : Nat} {e : m_E} (hg : w_ch [4] [] g g2) (h : c_61 g o q e) : c_61 g2 o q e := by
  unfold c_61 at h ⊢
  simp only [ch_tx_mC hg, ch_tx_mhi hg]
  exact h
theorem cg_tx_120 {g g2 : w_G} {o : w_O} {q : Nat} {e : m_E} (hg : w_ch [4] [] g g2) (h : c_120 g o q e) : c_120 g2 o q e := by
  unfold c_120 at h ⊢
  simp only [ch_tx_np hg, ch_tx_PK hg, ch_tx_PN hg]
  exact h
/-- cells: [0, 1, 5, 23] -/
theorem ty_tx {g g2 : w_G} {o : w_O} {q : Nat} {e : m_E} (hg : w_ch [4] [] g g2) (h0 : (o q).1 ≠ 0) (h1 : (o q).1 ≠ 1) (h5 : (o q).1 ≠ 5) (h23 : (o q).1 ≠ 23) (h : w_ty g o q e) : w_ty g2 o q e := by
  unfold w_ty at h ⊢
  generalize ht : (o q).1 = t at h h0 h1 h5 h23 ⊢
  match t, h, h0, h1, h5, h23 with
  | 0, h, h0, _, _, _ => exact absurd rfl h0
  | 1, h, _, h1, _, _ => exact absurd rfl h1
  | 2, h, _, _, _, _ => exact cg_tx_2 hg h
  | 3, h, _, _, _, _ => exact cg_tx_3 hg h
  | 4, h, _, _, _, _ => exact h
  | 5, h, _, _, h5, _ => exact absurd rfl h5
  | 6, h, _, _, _, _ => exact h
  | 7, h, _, _, _, _ => exact cg_tx_7 hg h
  | 8, h, _, _, _, _ => exact h
  | 9, h, _, _, _, _ => exact cg_tx_9 hg h
  | 10, h, _, _, _, _ => exact h
  | 11, h, _, _, _, _ => exact h
  | 17, h, _, _, _, _ => exact cg_tx_17 hg h
  | 18, h, _, _, _, _ => exact h
  | 19, h, _, _, _, _ => exact h
  | 20, h, _, _, _, _ => exact h
  | 21, h, _, _, _, _ => exact h
  | 22, h, _, _, _, _ => exact h
  | 23, h, _, _, _, h23 => exact absurd rfl h23
  | 24, h, _, _, _, _ => exact h
  | 25, h, _, _, _, _ => exact h
  | 26, h, _, _, _, _ => exact h
  | 27, h, _, _, _, _ => exact h
  | 31, h, _, _, _, _ => exact cg_tx_31 hg h
  | 32, h, _, _, _, _ => exact cg_tx_32 hg h
  | 33, h, _, _, _, _ => exact cg_tx_33 hg h
  | 34, h, _, _, _, _ => exact h
  | 35, h, _, _, _, _ => exact cg_tx_35 hg h
  | 36, h, _, _, _, _ => exact cg_tx_36 hg h
  | 37, h, _, _, _, _ => exact h
  | 50, h, _, _, _, _ => exact h
  | 51, h, _, _, _, _ => exact cg_tx_51 hg h
  | 52, h, _, _, _, _ => exact cg_tx_52 hg h
  | 53, h, _, _, _, _ => exact h
  | 54, h, _, _, _, _ => exact h
  | 55, h, _, _, _, _ => exact h
  | 56, h, _, _, _, _ => exact h
  | 57, h, _, _, _, _ => exact h
  | 58, h, _, _, _, _ => exact h
  | 59, h, _, _, _, _ => exact h
  | 60, h, _, _, _, _ => exact h
  | 61, h, _, _, _, _ => exact cg_tx_61 hg h
  | 62, h, _, _, _, _ => exact h
  | 63, h, _, _, _, _ => exact h
  | 64, h, _, _, _, _ => exact h
  | 65, h, _, _, _, _ => exact h
  | 66, h, _, _, _, _ => exact h
  | 100, h, _, _, _, _ => exact h
  | 101, h, _, _, _, _ => exact h
  | 102, h, _, _, _, _ => exact h
  | 103, h, _, _, _, _ => exact h
  | 104, h, _, _, _, _ => exact h
  | 110, h, _, _, _, _ => exact h
  | 111, h, _, _, _, _ => exact h
  | 112, h, _, _, _, _ => exact h
  | 120, h, _, _, _, _ => exact cg_tx_120 hg h
  | 130, h, _, _, _, _ => exact h
  | 131, h, _, _, _, _ => exact h
  | 140, h, _, _, _, _ => exact h
theorem ch_bu_np {g g2 : w_G} (hg : w_ch [0, 1, 2, 5] [0] g g2) : g_np g2 = g_np g := hg.1 3 rfl
theorem ch_bu_nt {g g2 : w_G} (hg : w_ch [0, 1, 2, 5] [0] g g2) : g_nt g2 = g_nt g := hg.1 4 rfl
theorem ch_bu_mH {g g2 : w_G} (hg : w_ch [0, 1, 2, 5] [0] g g2) : g_mH g2 = g_mH g := hg.1 6 rfl
theorem ch_bu_mC {g g2 : w_G} (hg : w_ch [0, 1, 2, 5] [0] g g2) : g_mC g2 = g_mC g := hg.1 7 rfl
theorem ch_bu_mN {g g2 : w_G} (hg : w_ch [0, 1, 2, 5] [0] g g2) : g_mN g2 = g_mN g := hg.1 8 rfl
theorem ch_bu_mnp {g g2 : w_G} (hg : w_ch [0, 1, 2, 5] [0] g g2) : g_mnp g2 = g_mnp g := hg.1 9 rfl
theorem ch_bu_mnt {g g2 : w_G} (hg : w_ch [0, 1, 2, 5] [0] g g2) : g_mnt g2 = g_mnt g := hg.1 10 rfl
theorem ch_bu_mhi {g g2 : w_G} (hg : w_ch [0, 1, 2, 5] [0] g g2) : g_mhi g2 = g_mhi g := hg.1 11 rfl
theorem ch_bu_L {g g2 : w_G} (hg : w_ch [0, 1, 2, 5] [0] g g2) : g_L g2 = g_L g := hg.1 12 rfl
theorem ch_bu_PK {g g2 : w_G} (hg : w_ch [0, 1, 2, 5] [0] g g2) (j : Int) : g_PK g2 j = g_PK g j := by unfold g_PK; rw [hg.2.1 1 rfl]
theorem ch_bu_PN {g g2 : w_G} (hg : w_ch [0, 1, 2, 5] [0] g g2) (j : Int) : g_PN g2 j = g_PN g j := by unfold g_PN; rw [hg.2.1 2 rfl]
theorem ch_bu_mT {g g2 : w_G} (hg : w_ch [0, 1, 2, 5] [0] g g2) (j : Int) : g_mT g2 j = g_mT g j := by unfold g_mT; rw [hg.2.1 3 rfl]
theorem ch_bu_mPK {g g2 : w_G} (hg : w_ch [0, 1, 2, 5] [0] g g2) (j : Int) : g_mPK g2 j = g_mPK g j := by unfold g_mPK; rw [hg.2.1 4 rfl]
theorem ch_bu_mPN {g g2 : w_G} (hg : w_ch [0, 1, 2, 5] [0] g g2) (j : Int) : g_mPN g2 j = g_mPN g j := by unfold g_mPN; rw [hg.2.1 5 rfl]
theorem ch_bu_mCL {g g2 : w_G} (hg : w_ch [0, 1, 2, 5] [0] g g2) (j : Int) : g_mCL g2 j = g_mCL g j := by unfold g_mCL; rw [hg.2.1 6 rfl]
theorem ch_bu_rw {g g2 : w_G} (hg : w_ch [0, 1, 2, 5] [0] g g2) : g_rw g2 = g_rw g := by unfold g_rw; rw [hg.2.2]
theorem ch_bu_stp {g g2 : w_G} (hg : w_ch [0, 1, 2, 5] [0] g g2) : g_stp g2 = g_stp g := by unfold g_stp; rw [hg.2.2]
theorem ch_bu_ahd {g g2 : w_G} (hg : w_ch [0, 1, 2, 5] [0] g g2) : g_ahd g2 = g_ahd g := by unfold g_ahd; rw [hg.2.2]
theorem ch_bu_cst {g g2 : w_G} (hg : w_ch [0, 1, 2, 5] [0] g g2) : g_cst g2 = g_cst g := by unfold g_cst; rw [hg.2.2]
theorem ch_bu_chp {g g2 : w_G} (hg : w_ch [0, 1, 2, 5] [0] g g2) : g_chp g2 = g_chp g := by unfold g_chp; rw [hg.2.2]
theorem cg_bu_5 {g g2 : w_G} {o : w_O} {q : Nat} {e : m_E} (hg : w_ch [0, 1, 2, 5] [0] g g2) (h : c_5 g o q e) : c_5 g2 o q e := by
  unfold c_5 at h ⊢
  simp only [ch_bu_nt hg]
  exact h
theorem cg_bu_17 {g g2 : w_G} {o : w_O} {q : Nat} {e : m_E} (hg : w_ch [0, 1, 2, 5] [0] g g2) (h : c_17 g o q e) : c_17 g2 o q e := by
  unfold c_17 at h ⊢
  simp only [ch_bu_np hg]
  exact h
theorem cg_bu_23 {g g2 : w_G} {o : w_O} {q : Nat} {e : m_E} (hg : w_ch [0, 1, 2, 5] [0] g g2) (h : c_23 g o q e) : c_23 g2 o q e := by
  unfold c_23 at h ⊢
  simp only [ch_bu_nt hg]
  exact h
theorem cg_bu_31 {g g2 : w_G} {o : w_O} {q : Nat} {e : m_E} (hg : w_ch [0, 1, 2, 5] [0] g g2) (h : c_31 g o q e) : c_31 g2 o q e := by
  unfold c_31 at h ⊢
  simp only [ch_bu_mH hg, ch_bu_mC hg, ch_bu_mnp hg, ch_bu_mnt hg, ch_bu_mhi hg]
  exact h
theorem cg_bu_32 {g g2 : w_G} {o : w_O} {q : Nat} {e : m_E} (hg : w_ch [0, 1, 2, 5] [0] g g2) (h : c_32 g o q e) : c_32 g2 o q e := by
  unfold c_32 at h ⊢
  simp only [ch_bu_mT hg]
  exact h
theorem cg_bu_33 {g g2 : w_G} {o : w_O} {q : Nat} {e : m_E} (hg : w_ch [0, 1, 2, 5] [0] g g2) (h : c_33 g o q e) : c_33 g2 o q e := by
  unfold c_33 at h ⊢
  simp only [ch_bu_mC hg]
  exact h
theorem cg_bu_35 {g g2 : w_G} {o : w_O} {q : Nat} {e : m_E} (hg : w_ch [0, 1, 2, 5] [0] g g2) (h : c_35 g o q e) : c_35 g2 o q e := by
  unfold c_35 at h ⊢
  simp only [ch_bu_mnp hg, ch_bu_mPK hg]
  exact h
theorem cg_bu_36 {g g2 : w_G} {o : w_O} {q : Nat} {e : m_E} (hg : w_ch [0, 1, 2, 5] [0] g g2) (h : c_36 g o q e) : c_36 g2 o q e := by
  unfold c_36 at h ⊢
  simp only [ch_bu_mnp hg, ch_bu_mPN hg]
  exact h
theorem cg_bu_51 {g g2 : w_G} {o : w_O} {q : Nat} {e : m_E} (hg : w_ch [0, 1, 2, 5] [0] g g2) (h : c_51 g o q e) : c_51 g2 o q e := by
  unfold c_51 at h ⊢
  simp only [ch_bu_mnt hg, ch_bu_mCL hg]
  exact h
theorem cg_bu_52 {g g2 : w_G} {o : w_O} {q : Nat} {e : m_E} (hg : w_ch [0, 1, 2, 5] [0] g g2) (h : c_52 g o q e) : c_52 g2 o q e := by
  unfold c_52 at h ⊢
  simp only [ch_bu_mnt hg, ch_bu_mCL hg]
  exact h
theorem cg_bu_61 {g g2 : w_G} {o : w_O} {q : Nat} {e : m_E} (hg : w_ch [0, 1, 2, 5] [0] g g2) (h : c_61 g o q e) : c_61 g2 o q e := by
  unfold c_61 at h ⊢
  simp only [ch_bu_mC hg, ch_bu_mhi hg]
  exact h
theorem cg_bu_120 {g g2 : w_G} {o : w_O} {q : Nat} {e : m_E} (hg : w_ch [0, 1, 2, 5] [0] g g2) (h : c_120 g o q e) : c_120 g2 o q e := by
  unfold c_120 at h ⊢
  simp only [ch_bu_np hg, ch_bu_PK hg, ch_bu_PN hg]
  exact h
/-- cells: [0, 1, 2, 3, 7, 9] -/
theorem ty_bu {g g2 : w_G} {o : w_O} {q : Nat} {e : m_E} (hg : w_ch [0, 1, 2, 5] [0] g g2) (h0 : (o q).1 ≠ 0) (h1 : (o q).1 ≠ 1) (h2 : (o q).1 ≠ 2) (h3 : (o q).1 ≠ 3) (h7 : (o q).1 ≠ 7) (h9 : (o q).1 ≠ 9) (h : w_ty g o q e) : w_ty g2 o q e := by
  unfold w_ty at h ⊢
  generalize ht : (o q).1 = t at h h0 h1 h2 h3 h7 h9 ⊢
  match t, h, h0, h1, h2, h3, h7, h9 with
  | 0, h, h0, _, _, _, _, _ => exact absurd rfl h0
  | 1, h, _, h1, _, _, _, _ => exact absurd rfl h1
  | 2, h, _, _, h2, _, _, _ => exact absurd rfl h2
  | 3, h, _, _, _, h3, _, _ => exact absurd rfl h3
  | 4, h, _, _, _, _, _, _ => exact h
  | 5, h, _, _, _, _, _, _ => exact cg_bu_5 hg h
  | 6, h, _, _, _, _, _, _ => exact h
  | 7, h, _, _, _, _, h7, _ => exact absurd rfl h7
  | 8, h, _, _, _, _, _, _ => exact h
  | 9, h, _, _, _, _, _, h9 => exact absurd rfl h9
  | 10, h, _, _, _, _, _, _ => exact h
  | 11, h, _, _, _, _, _, _ => exact h
  | 17, h, _, _, _, _, _, _ => exact cg_bu_17 hg h
  | 18, h, _, _, _, _, _, _ => exact h
  | 19, h, _, _, _, _, _, _ => exact h
  | 20, h, _, _, _, _, _, _ => exact h
  | 21, h, _, _, _, _, _, _ => exact h
  | 22, h, _, _, _, _, _, _ => exact h
  | 23, h, _, _, _, _, _, _ => exact cg_bu_23 hg h
  | 24, h, _, _, _, _, _, _ => exact h
  | 25, h, _, _, _, _, _, _ => exact h
  | 26, h, _, _, _, _, _, _ => exact h
  | 27, h, _, _, _, _, _, _ => exact h
  | 31, h, _, _, _, _, _, _ => exact cg_bu_31 hg h
  | 32, h, _, _, _, _, _, _ => exact cg_bu_32 hg h
  | 33, h, _, _, _, _, _, _ => exact cg_bu_33 hg h
  | 34, h, _, _, _, _, _, _ => exact h
  | 35, h, _, _, _, _, _, _ => exact cg_bu_35 hg h
  | 36, h, _, _, _, _, _, _ => exact cg_bu_36 hg h
  | 37, h, _, _, _, _, _, _ => exact h
  | 50, h, _, _, _, _, _, _ => exact h
  | 51, h, _, _, _, _, _, _ => exact cg_bu_51 hg h
  | 52, h, _, _, _, _, _, _ => exact cg_bu_52 hg h
  | 53, h, _, _, _, _, _, _ => exact h
  | 54, h, _, _, _, _, _, _ => exact h
  | 55, h, _, _, _, _, _, _ => exact h
  | 56, h, _, _, _, _, _, _ => exact h
  | 57, h, _, _, _, _, _, _ => exact h
  | 58, h, _, _, _, _, _, _ => exact h
  | 59, h, _, _, _, _, _, _ => exact h
  | 60, h, _, _, _, _, _, _ => exact h
  | 61, h, _, _, _, _, _, _ => exact cg_bu_61 hg h
  | 62, h, _, _, _, _, _, _ => exact h
  | 63, h, _, _, _, _, _, _ => exact h
  | 64, h, _, _, _, _, _, _ => exact h
  | 65, h, _, _, _, _, _, _ => exact h
  | 66, h, _, _, _, _, _, _ => exact h
  | 100, h, _, _, _, _, _, _ => exact h
  | 101, h, _, _, _, _, _, _ => exact h
  | 102, h, _, _, _, _, _, _ => exact h
  | 103, h, _, _, _, _, _, _ => exact h
  | 104, h, _, _, _, _, _, _ => exact h
  | 110, h, _, _, _, _, _, _ => exact h
  | 111, h, _, _, _, _, _, _ => exact h
  | 112, h, _, _, _, _, _, _ => exact h
  | 120, h, _, _, _, _, _, _ => exact cg_bu_120 hg h
  | 130, h, _, _, _, _, _, _ => exact h
  | 131, h, _, _, _, _, _, _ => exact h
  | 140, h, _, _, _, _, _, _ => exact h
theorem ch_to_H {g g2 : w_G} (hg : w_ch [] [0] g g2) : g_H g2 = g_H g := hg.1 0 rfl
theorem ch_to_C {g g2 : w_G} (hg : w_ch [] [0] g g2) : g_C g2 = g_C g := hg.1 1 rfl
theorem ch_to_N {g g2 : w_G} (hg : w_ch [] [0] g g2) : g_N g2 = g_N g := hg.1 2 rfl
theorem ch_to_np {g g2 : w_G} (hg : w_ch [] [0] g g2) : g_np g2 = g_np g := hg.1 3 rfl
theorem ch_to_nt {g g2 : w_G} (hg : w_ch [] [0] g g2) : g_nt g2 = g_nt g := hg.1 4 rfl
theorem ch_to_hi {g g2 : w_G} (hg : w_ch [] [0] g g2) : g_hi g2 = g_hi g := hg.1 5 rfl
theorem ch_to_mH {g g2 : w_G} (hg : w_ch [] [0] g g2) : g_mH g2 = g_mH g := hg.1 6 rfl
theorem ch_to_mC {g g2 : w_G} (hg : w_ch [] [0] g g2) : g_mC g2 = g_mC g := hg.1 7 rfl
theorem ch_to_mN {g g2 : w_G} (hg : w_ch [] [0] g g2) : g_mN g2 = g_mN g := hg.1 8 rfl
theorem ch_to_mnp {g g2 : w_G} (hg : w_ch [] [0] g g2) : g_mnp g2 = g_mnp g := hg.1 9 rfl
theorem ch_to_mnt {g g2 : w_G} (hg : w_ch [] [0] g g2) : g_mnt g2 = g_mnt g := hg.1 10 rfl
theorem ch_to_mhi {g g2 : w_G} (hg : w_ch [] [0] g g2) : g_mhi g2 = g_mhi g := hg.1 11 rfl
theorem ch_to_L {g g2 : w_G} (hg : w_ch [] [0] g g2) : g_L g2 = g_L g := hg.1 12 rfl
theorem ch_to_PK {g g2 : w_G} (hg : w_ch [] [0] g g2) (j : Int) : g_PK g2 j = g_PK g j := by unfold g_PK; rw [hg.2.1 1 rfl]
theorem ch_to_PN {g g2 : w_G} (hg : w_ch [] [0] g g2) (j : Int) : g_PN g2 j = g_PN g j := by unfold g_PN; rw [hg.2.1 2 rfl]
theorem ch_to_mT {g g2 : w_G} (hg : w_ch [] [0] g g2) (j : Int) : g_mT g2 j = g_mT g j := by unfold g_mT; rw [hg.2.1 3 rfl]
theorem ch_to_mPK {g g2 : w_G} (hg : w_ch [] [0] g g2) (j : Int) : g_mPK g2 j = g_mPK g j := by unfold g_mPK; rw [hg.2.1 4 rfl]
theorem ch_to_mPN {g g2 : w_G} (hg : w_ch [] [0] g g2) (j : Int) : g_mPN g2 j = g_mPN g j := by unfold g_mPN; rw [hg.2.1 5 rfl]
theorem ch_to_mCL {g g2 : w_G} (hg : w_ch [] [0] g g2) (j : Int) : g_mCL g2 j = g_mCL g j := by unfold g_mCL; rw [hg.2.1 6 rfl]
theorem ch_to_rw {g g2 : w_G} (hg : w_ch [] [0] g g2) : g_rw g2 = g_rw g := by unfold g_rw; rw [hg.2.2]
theorem ch_to_stp {g g2 : w_G} (hg : w_ch [] [0] g g2) : g_stp g2 = g_stp g := by unfold g_stp; rw [hg.2.2]
theorem ch_to_ahd {g g2 : w_G} (hg : w_ch [] [0] g g2) : g_ahd g2 = g_ahd g := by unfold g_ahd; rw [hg.2.2]
theorem ch_to_cst {g g2 : w_G} (hg : w_ch [] [0] g g2) : g_cst g2 = g_cst g := by unfold g_cst; rw [hg.2.2]
theorem ch_to_chp {g g2 : w_G} (hg : w_ch [] [0] g g2) : g_chp g2 = g_chp g := by unfold g_chp; rw [hg.2.2]
theorem cg_to_0 {g g2 : w_G} {o : w_O} {q : Nat} {e : m_E} (hg : w_ch [] [0] g g2) (h : c_0 g o q e) : c_0 g2 o q e := by
  unfold c_0 at h ⊢
  simp only [ch_to_np hg, ch_to_nt hg, ch_to_hi hg]
  exact h
theorem cg_to_1 {g g2 : w_G} {o : w_O} {q : Nat} {e : m_E} (hg : w_ch [] [0] g g2) (h : c_1 g o q e) : c_1 g2 o q e := by
  unfold c_1 at h ⊢
  simp only [ch_to_H hg, ch_to_C hg, ch_to_N hg, ch_to_nt hg]
  exact h
theorem cg_to_3 {g g2 : w_G} {o : w_O} {q : Nat} {e : m_E} (hg : w_ch [] [0] g g2) (h : c_3 g o q e) : c_3 g2 o q e := by
  unfold c_3 at h ⊢
  simp only [ch_to_C hg]
  exact h
theorem cg_to_5 {g g2 : w_G} {o : w_O} {q : Nat} {e : m_E} (hg : w_ch [] [0] g g2) (h : c_5 g o q e) : c_5 g2 o q e := by
  unfold c_5 at h ⊢
  simp only [ch_to_nt hg]
  exact h
theorem cg_to_7 {g g2 : w_G} {o : w_O} {q : Nat} {e : m_E} (hg : w_ch [] [0] g g2) (h : c_7 g o q e) : c_7 g2 o q e := by
  unfold c_7 at h ⊢
  simp only [ch_to_C hg, ch_to_hi hg]
  exact h
theorem cg_to_9 {g g2 : w_G} {o : w_O} {q : Nat} {e : m_E} (hg : w_ch [] [0] g g2) (h : c_9 g o q e) : c_9 g2 o q e := by
  unfold c_9 at h ⊢
  simp only [ch_to_N hg, ch_to_L hg, ch_to_rw hg, ch_to_stp hg, ch_to_ahd hg, ch_to_cst hg, ch_to_chp hg]
  exact h
theorem cg_to_17 {g g2 : w_G} {o : w_O} {q : Nat} {e : m_E} (hg : w_ch [] [0] g g2) (h : c_17 g o q e) : c_17 g2 o q e := by
  unfold c_17 at h ⊢
  simp only [ch_to_np hg]
  exact h
theorem cg_to_23 {g g2 : w_G} {o : w_O} {q : Nat} {e : m_E} (hg : w_ch [] [0] g g2) (h : c_23 g o q e) : c_23 g2 o q e := by
  unfold c_23 at h ⊢
  simp only [ch_to_nt hg]
  exact h
theorem cg_to_31 {g g2 : w_G} {o : w_O} {q : Nat} {e : m_E} (hg : w_ch [] [0] g g2) (h : c_31 g o q e) : c_31 g2 o q e := by
  unfold c_31 at h ⊢
  simp only [ch_to_mH hg, ch_to_mC hg, ch_to_mnp hg, ch_to_mnt hg, ch_to_mhi hg]
  exact h
theorem cg_to_32 {g g2 : w_G} {o : w_O} {q : Nat} {e : m_E} (hg : w_ch [] [0] g g2) (h : c_32 g o q e) : c_32 g2 o q e := by
  unfold c_32 at h ⊢
  simp only [ch_to_mT hg]
  exact h
theorem cg_to_33 {g g2 : w_G} {o : w_O} {q : Nat} {e : m_E} (hg : w_ch [] [0] g g2) (h : c_33 g o q e) : c_33 g2 o q e := by
  unfold c_33 at h ⊢
  simp only [ch_to_mC hg]
  exact h
theorem cg_to_35 {g g2 : w_G} {o : w_O} {q : Nat} {e : m_E} (hg : w_ch [] [0] g g2) (h : c_35 g o q e) : c_35 g2 o q e := by
  unfold c_35 at h ⊢
  simp only [ch_to_mnp hg, ch_to_mPK hg]
  exact h
theorem cg_to_36 {g g2 : w_G} {o : w_O} {q : Nat} {e : m_E} (hg : w_ch [] [0] g g2) (h : c_36 g o q e) : c_36 g2 o q e := by
  unfold c_36 at h ⊢
  simp only [ch_to_mnp hg, ch_to_mPN hg]
  exact h
theorem cg_to_51 {g g2 : w_G} {o : w_O} {q : Nat} {e : m_E} (hg : w_ch [] [0] g g2) (h : c_51 g o q e) : c_51 g2 o q e := by
  unfold c_51 at h ⊢
  simp only [ch_to_mnt hg, ch_to_mCL hg]
  exact h
theorem cg_to_52 {g g2 : w_G} {o : w_O} {q : Nat} {e : m_E} (hg : w_ch [] [0] g g2) (h : c_52 g o q e) : c_52 g2 o q e := by
  unfold c_52 at h ⊢
  simp only [ch_to_mnt hg, ch_to_mCL hg]
  exact h
theorem cg_to_61 {g g2 : w_G} {o : w_O} {q : Nat} {e : m_E} (hg : w_ch [] [0] g g2) (h : c_61 g o q e) : c_61 g2 o q e := by
  unfold c_61 at h ⊢
  simp only [ch_to_mC hg, ch_to_mhi hg]
  exact h
theorem cg_to_120 {g g2 : w_G} {o : w_O} {q : Nat} {e : m_E} (hg : w_ch [] [0] g g2) (h : c_120 g o q e) : c_120 g2 o q e := by
  unfold c_120 at h ⊢
  simp only [ch_to_np hg, ch_to_PK hg, ch_to_PN hg]
  exact h
/-- cells: [2] -/
theorem ty_to {g g2 : w_G} {o : w_O} {q : Nat} {e : m_E} (hg : w_ch [] [0] g g2) (h2 : (o q).1 ≠ 2) (h : w_ty g o q e) : w_ty g2 o q e := by
  unfold w_ty at h ⊢
  generalize ht : (o q).1 = t at h h2 ⊢
  match t, h, h2 with
  | 0, h, _ => exact cg_to_0 hg h
  | 1, h, _ => exact cg_to_1 hg h
  | 2, h, h2 => exact absurd rfl h2
  | 3, h, _ => exact cg_to_3 hg h
  | 4, h, _ => exact h
  | 5, h, _ => exact cg_to_5 hg h
  | 6, h, _ => exact h
  | 7, h, _ => exact cg_to_7 hg h
  | 8, h, _ => exact h
  | 9, h, _ => exact cg_to_9 hg h
  | 10, h, _ => exact h
  | 11, h, _ => exact h
  | 17, h, _ => exact cg_to_17 hg h
  | 18, h, _ => exact h
  | 19, h, _ => exact h
  | 20, h, _ => exact h
  | 21, h, _ => exact h
  | 22, h, _ => exact h
  | 23, h, _ => exact cg_to_23 hg h
  | 24, h, _ => exact h
  | 25, h, _ => exact h
  | 26, h, _ => exact h
  | 27, h, _ => exact h
  | 31, h, _ => exact cg_to_31 hg h
  | 32, h, _ => exact cg_to_32 hg h
  | 33, h, _ => exact cg_to_33 hg h
  | 34, h, _ => exact h
  | 35, h, _ => exact cg_to_35 hg h
  | 36, h, _ => exact cg_to_36 hg h
  | 37, h, _ => exact h
  | 50, h, _ => exact h
  | 51, h, _ => exact cg_to_51 hg h
  | 52, h, _ => exact cg_to_52 hg h
  | 53, h, _ => exact h
  | 54, h, _ => exact h
  | 55, h, _ => exact h
  | 56, h, _ => exact h
  | 57, h, _ => exact h
  | 58, h, _ => exact h
  | 59, h, _ => exact h
  | 60, h, _ => exact h
  | 61, h, _ => exact cg_to_61 hg h
  | 62, h, _ => exact h
  | 63, h, _ => exact h
  | 64, h, _ => exact h
  | 65, h, _ => exact h
  | 66, h, _ => exact h
  | 100, h, _ => exact h
  | 101, h, _ => exact h
  | 102, h, _ => exact h
  | 103, h, _ => exact h
  | 104, h, _ => exact h
  | 110, h, _ => exact h
  | 111, h, _ => exact h
  | 112, h, _ => exact h
  | 120, h, _ => exact cg_to_120 hg h
  | 130, h, _ => exact h
  | 131, h, _ => exact h
  | 140, h, _ => exact h
theorem ch_im_H {g g2 : w_G} (hg : w_ch [5] [] g g2) : g_H g2 = g_H g := hg.1 0 rfl
theorem ch_im_C {g g2 : w_G} (hg : w_ch [5] [] g g2) : g_C g2 = g_C g := hg.1 1 rfl
theorem ch_im_N {g g2 : w_G} (hg : w_ch [5] [] g g2) : g_N g2 = g_N g := hg.1 2 rfl
theorem ch_im_np {g g2 : w_G} (hg : w_ch [5] [] g g2) : g_np g2 = g_np g := hg.1 3 rfl
theorem ch_im_nt {g g2 : w_G} (hg : w_ch [5] [] g g2) : g_nt g2 = g_nt g := hg.1 4 rfl
theorem ch_im_mH {g g2 : w_G} (hg : w_ch [5] [] g g2) : g_mH g2 = g_mH g := hg.1 6 rfl
theorem ch_im_mC {g g2 : w_G} (hg : w_ch [5] [] g g2) : g_mC g2 = g_mC g := hg.1 7 rfl
theorem ch_im_mN {g g2 : w_G} (hg : w_ch [5] [] g g2) : g_mN g2 = g_mN g := hg.1 8 rfl
theorem ch_im_mnp {g g2 : w_G} (hg : w_ch [5] [] g g2) : g_mnp g2 = g_mnp g := hg.1 9 rfl
theorem ch_im_mnt {g g2 : w_G} (hg : w_ch [5] [] g g2) : g_mnt g2 = g_mnt g := hg.1 10 rfl
theorem ch_im_mhi {g g2 : w_G} (hg : w_ch [5] [] g g2) : g_mhi g2 = g_mhi g := hg.1 11 rfl
theorem ch_im_L {g g2 : w_G} (hg : w_ch [5] [] g g2) : g_L g2 = g_L g := hg.1 12 rfl
theorem ch_im_T {g g2 : w_G} (hg : w_ch [5] [] g g2) (j : Int) : g_T g2 j = g_T g j := by unfold g_T; rw [hg.2.1 0 rfl]
theorem ch_im_PK {g g2 : w_G} (hg : w_ch [5] [] g g2) (j : Int) : g_PK g2 j = g_PK g j := by unfold g_PK; rw [hg.2.1 1 rfl]
theorem ch_im_PN {g g2 : w_G} (hg : w_ch [5] [] g g2) (j : Int) : g_PN g2 j = g_PN g j := by unfold g_PN; rw [hg.2.1 2 rfl]
theorem ch_im_mT {g g2 : w_G} (hg : w_ch [5] [] g g2) (j : Int) : g_mT g2 j = g_mT g j := by unfold g_mT; rw [hg.2.1 3 rfl]
theorem ch_im_mPK {g g2 : w_G} (hg : w_ch [5] [] g g2) (j : Int) : g_mPK g2 j = g_mPK g j := by unfold g_mPK; rw [hg.2.1 4 rfl]
theorem ch_im_mPN {g g2 : w_G} (hg : w_ch [5] [] g g2) (j : Int) : g_mPN g2 j = g_mPN g j := by unfold g_mPN; rw [hg.2.1 5 rfl]
theorem ch_im_mCL {g g2 : w_G} (hg : w_ch [5] [] g g2) (j : Int) : g_mCL g2 j = g_mCL g j := by unfold g_mCL; rw [hg.2.1 6 rfl]
theorem ch_im_rw {g g2 : w_G} (hg : w_ch [5] [] g g2) : g_rw g2 = g_rw g := by unfold g_rw; rw [hg.2.2]
theorem ch_im_stp {g g2 : w_G} (hg : w_ch [5] [] g g2) : g_stp g2 = g_stp g := by unfold g_stp; rw [hg.2.2]
theorem ch_im_ahd {g g2 : w_G} (hg : w_ch [5] [] g g2) : g_ahd g2 = g_ahd g := by unfold g_ahd; rw [hg.2.2]
theorem ch_im_cst {g g2 : w_G} (hg : w_ch [5] [] g g2) : g_cst g2 = g_cst g := by unfold g_cst; rw [hg.2.2]
theorem ch_im_chp {g g2 : w_G} (hg : w_ch [5] [] g g2) : g_chp g2 = g_chp g := by unfold g_chp; rw [hg.2.2]
theorem cg_im_1 {g g2 : w_G} {o : w_O} {q : Nat} {e : m_E} (hg : w_ch [5] [] g g2) (h : c_1 g o q e) : c_1 g2 o q e := by
  unfold c_1 at h ⊢
  simp only [ch_im_H hg, ch_im_C hg, ch_im_N hg, ch_im_nt hg]
  exact h
theorem cg_im_2 {g g2 : w_G} {o : w_O} {q : Nat} {e : m_E} (hg : w_ch [5] [] g g2) (h : c_2 g o q e) : c_2 g2 o q e := by
  unfold c_2 at h ⊢
  simp only [ch_im_T hg]
  exact h
theorem cg_im_3 {g g2 : w_G} {o : w_O} {q : Nat} {e : m_E} (hg : w_ch [5] [] g g2) (h : c_3 g o q e) : c_3 g2 o q e := by
  unfold c_3 at h ⊢
  simp only [ch_im_C hg]
  exact h
theorem cg_im_5 {g g2 : w_G} {o : w_O} {q : Nat} {e : m_E} (hg : w_ch [5] [] g g2) (h : c_5 g o q e) : c_5 g2 o q e := by
  unfold c_5 at h ⊢
  simp only [ch_im_nt hg]
  exact h
theorem cg_im_9 {g g2 : w_G} {o : w_O} {q : Nat} {e : m_E} (hg : w_ch [5] [] g g2) (h : c_9 g o q e) : c_9 g2 o q e := by
  unfold c_9 at h ⊢
  simp only [ch_im_N hg, ch_im_L hg, ch_im_rw hg, ch_im_stp hg, ch_im_ahd hg, ch_im_cst hg, ch_im_chp hg]
  exact h
theorem cg_im_17 {g g2 : w_G} {o : w_O} {q : Nat} {e : m_E} (hg : w_ch [5] [] g g2) (h : c_17 g o q e) : c_17 g2 o q e := by
  unfold c_17 at h ⊢
  simp only [ch_im_np hg]
  exact h
theorem cg_im_23 {g g2 : w_G} {o : w_O} {q : Nat} {e : m_E} (hg : w_ch [5] [] g g2) (h : c_23 g o q e) : c_23 g2 o q e := by
  unfold c_23 at h ⊢
  simp only [ch_im_nt hg]
  exact h
theorem cg_im_31 {g g2 : w_G} {o : w_O} {q : Nat} {e : m_E} (hg : w_ch [5] [] g g2) (h : c_31 g o q e) : c_31 g2 o q e := by
  unfold c_31 at h ⊢
  simp only [ch_im_mH hg, ch_im_mC hg, ch_im_mnp hg, ch_im_mnt hg, ch_im_mhi hg]
  exact h
theorem cg_im_32 {g g2 : w_G} {o : w_O} {q : Nat} {e : m_E} (hg : w_ch [5] [] g g2) (h : c_32 g o q e) : c_32 g2 o q e := by
  unfold c_32 at h ⊢
  simp only [ch_im_mT hg]
  exact h
theorem cg_im_33 {g g2 : w_G} {o : w_O} {q : Nat} {e : m_E} (hg : w_ch [5] [] g g2) (h : c_33 g o q e) : c_33 g2 o q e := by
  unfold c_33 at h ⊢
  simp only [ch_im_mC hg]
  exact h
theorem cg_im_35 {g g2 : w_G} {o : w_O} {q : Nat} {e : m_E} (hg : w_ch [5] [] g g2) (h : c_35 g o q e) : c_35 g2 o q e := by
  unfold c_35 at h ⊢
  simp only [ch_im_mnp hg, ch_im_mPK hg]
  exact h
theorem cg_im_36 {g g2 : w_G} {o : w_O} {q : Nat} {e : m_E} (hg : w_ch [5] [] g g2) (h : c_36 g o q e) : c_36 g2 o q e := by
  unfold c_36 at h ⊢
  simp only [ch_im_mnp hg, ch_im_mPN hg]
  exact h
theorem cg_im_51 {g g2 : w_G} {o : w_O} {q : Nat} {e : m_E} (hg : w_ch [5] [] g g2) (h : c_51 g o q e) : c_51 g2 o q e := by
  unfold c_51 at h ⊢
  simp only [ch_im_mnt hg, ch_im_mCL hg]
  exact h
theorem cg_im_52 {g g2 : w_G} {o : w_O} {q : Nat} {e : m_E} (hg : w_ch [5] [] g g2) (h : c_52 g o q e) : c_52 g2 o q e := by
  unfold c_52 at h ⊢
  simp only [ch_im_mnt hg, ch_im_mCL hg]
  exact h
theorem cg_im_61 {g g2 : w_G} {o : w_O} {q : Nat} {e : m_E} (hg : w_ch [5] [] g g2) (h : c_61 g o q e) : c_61 g2 o q e := by
  unfold c_61 at h ⊢
  simp only [ch_im_mC hg, ch_im_mhi hg]
  exact h
theorem cg_im_120 {g g2 : w_G} {o : w_O} {q : Nat} {e : m_E} (hg : w_ch [5] [] g g2) (h : c_120 g o q e) : c_120 g2 o q e := by
  unfold c_120 at h ⊢
  simp only [ch_im_np hg, ch_im_PK hg, ch_im_PN hg]
  exact h
/-- cells: [0, 7] -/
theorem ty_im {g g2 : w_G} {o : w_O} {q : Nat} {e : m_E} (hg : w_ch [5] [] g g2) (h0 : (o q).1 ≠ 0) (h7 : (o q).1 ≠ 7) (h : w_ty g o q e) : w_ty g2 o q e := by
  unfold w_ty at h ⊢
  generalize ht : (o q).1 = t at h h0 h7 ⊢
  match t, h, h0, h7 with
  | 0, h, h0, _ => exact absurd rfl h0
  | 1, h, _, _ => exact cg_im_1 hg h
  | 2, h, _, _ => exact cg_im_2 hg h
  | 3, h, _, _ => exact cg_im_3 hg h
  | 4, h, _, _ => exact h
  | 5, h, _, _ => exact cg_im_5 hg h
  | 6, h, _, _ => exact h
  | 7, h, _, h7 => exact absurd rfl h7
  | 8, h, _, _ => exact h
  | 9, h, _, _ => exact cg_im_9 hg h
  | 10, h, _, _ => exact h
  | 11, h, _, _ => exact h
  | 17, h, _, _ => exact cg_im_17 hg h
  | 18, h, _, _ => exact h
  | 19, h, _, _ => exact h
  | 20, h, _, _ => exact h
  | 21, h, _, _ => exact h
  | 22, h, _, _ => exact h
  | 23, h, _, _ => exact cg_im_23 hg h
  | 24, h, _, _ => exact h
  | 25, h, _, _ => exact h
  | 26, h, _, _ => exact h
  | 27, h, _, _ => exact h
  | 31, h, _, _ => exact cg_im_31 hg h
  | 32, h, _, _ => exact cg_im_32 hg h
  | 33, h, _, _ => exact cg_im_33 hg h
  | 34, h, _, _ => exact h
  | 35, h, _, _ => exact cg_im_35 hg h
  | 36, h, _, _ => exact cg_im_36 hg h
  | 37, h, _, _ => exact h
  | 50, h, _, _ => exact h
  | 51, h, _, _ => exact cg_im_51 hg h
  | 52, h, _, _ => exact cg_im_52 hg h
  | 53, h, _, _ => exact h
  | 54, h, _, _ => exact h
  | 55, h, _, _ => exact h
  | 56, h, _, _ => exact h
  | 57, h, _, _ => exact h
  | 58, h, _, _ => exact h
  | 59, h, _, _ => exact h
  | 60, h, _, _ => exact h
  | 61, h, _, _ => exact cg_im_61 hg h
  | 62, h, _, _ => exact h
  | 63, h, _, _ => exact h
  | 64, h, _, _ => exact h
  | 65, h, _, _ => exact h
  | 66, h, _, _ => exact h
  | 100, h, _, _ => exact h
  | 101, h, _, _ => exact h
  | 102, h, _, _ => exact h
  | 103, h, _, _ => exact h
  | 104, h, _, _ => exact h
  | 110, h, _, _ => exact h
  | 111, h, _, _ => exact h
  | 112, h, _, _ => exact h
  | 120, h, _, _ => exact cg_im_120 hg h
  | 130, h, _, _ => exact h
  | 131, h, _, _ => exact h
  | 140, h, _, _ => exact h
theorem ch_mpa_H {g g2 : w_G} (hg : w_ch [9] [4, 5] g g2) : g_H g2 = g_H g := hg.1 0 rfl
theorem ch_mpa_C {g g2 : w_G} (hg : w_ch [9] [4, 5] g g2) : g_C g2 = g_C g := hg.1 1 rfl
theorem ch_mpa_N {g g2 : w_G} (hg : w_ch [9] [4, 5] g g2) : g_N g2 = g_N g := hg.1 2 rfl
theorem ch_mpa_np {g g2 : w_G} (hg : w_ch [9] [4, 5] g g2) : g_np g2 = g_np g := hg.1 3 rfl
theorem ch_mpa_nt {g g2 : w_G} (hg : w_ch [9] [4, 5] g g2) : g_nt g2 = g_nt g := hg.1 4 rfl
theorem ch_mpa_hi {g g2 : w_G} (hg : w_ch [9] [4, 5] g g2) : g_hi g2 = g_hi g := hg.1 5 rfl
theorem ch_mpa_mH {g g2 : w_G} (hg : w_ch [9] [4, 5] g g2) : g_mH g2 = g_mH g := hg.1 6 rfl
theorem ch_mpa_mC {g g2 : w_G} (hg : w_ch [9] [4, 5] g g2) : g_mC g2 = g_mC g := hg.1 7 rfl
theorem ch_mpa_mN {g g2 : w_G} (hg : w_ch [9] [4, 5] g g2) : g_mN g2 = g_mN g := hg.1 8 rfl
theorem ch_mpa_mnt {g g2 : w_G} (hg : w_ch [9] [4, 5] g g2) : g_mnt g2 = g_mnt g := hg.1 10 rfl
theorem ch_mpa_mhi {g g2 : w_G} (hg : w_ch [9] [4, 5] g g2) : g_mhi g2 = g_mhi g := hg.1 11 rfl
theorem ch_mpa_L {g g2 : w_G} (hg : w_ch [9] [4, 5] g g2) : g_L g2 = g_L g := hg.1 12 rfl
theorem ch_mpa_T {g g2 : w_G} (hg : w_ch [9] [4, 5] g g2) (j : Int) : g_T g2 j = g_T g j := by unfold g_T; rw [hg.2.1 0 rfl]
theorem ch_mpa_PK {g g2 : w_G} (hg : w_ch [9] [4, 5] g g2) (j : Int) : g_PK g2 j = g_PK g j := by unfold g_PK; rw [hg.2.1 1 rfl]
theorem ch_mpa_PN {g g2 : w_G} (hg : w_ch [9] [4, 5] g g2) (j : Int) : g_PN g2 j = g_PN g j := by unfold g_PN; rw [hg.2.1 2 rfl]
theorem ch_mpa_mT {g g2 : w_G} (hg : w_ch [9] [4, 5] g g2) (j : Int) : g_mT g2 j = g_mT g j := by unfold g_mT; rw [hg.2.1 3 rfl]
theorem ch_mpa_mCL {g g2 : w_G} (hg : w_ch [9] [4, 5] g g2) (j : Int) : g_mCL g2 j = g_mCL g j := by unfold g_mCL; rw [hg.2.1 6 rfl]
theorem ch_mpa_rw {g g2 : w_G} (hg : w_ch [9] [4, 5] g g2) : g_rw g2 = g_rw g := by unfold g_rw; rw [hg.2.2]
theorem ch_mpa_stp {g g2 : w_G} (hg : w_ch [9] [4, 5] g g2) : g_stp g2 = g_stp g := by unfold g_stp; rw [hg.2.2]
theorem ch_mpa_ahd {g g2 : w_G} (hg : w_ch [9] [4, 5] g g2) : g_ahd g2 = g_ahd g := by unfold g_ahd; rw [hg.2.2]
theorem ch_mpa_cst {g g2 : w_G} (hg : w_ch [9] [4, 5] g g2) : g_cst g2 = g_cst g := by unfold g_cst; rw [hg.2.2]
theorem ch_mpa_chp {g g2 : w_G} (hg : w_ch [9] [4, 5] g g2) : g_chp g2 = g_chp g := by unfold g_chp; rw [hg.2.2]
theorem cg_mpa_0 {g g2 : w_G} {o : w_O} {q : Nat} {e : m_E} (hg : w_ch [9] [4, 5] g g2) (h : c_0 g o q e) : c_0 g2 o q e := by
  unfold c_0 at h ⊢
  simp only [ch_mpa_np hg, ch_mpa_nt hg, ch_mpa_hi hg]
  exact h
theorem cg_mpa_1 {g g2 : w_G} {o : w_O} {q : Nat} {e : m_E} (hg : w_ch [9] [4, 5] g g2) (h : c_1 g o q e) : c_1 g2 o q e := by
  unfold c_1 at h ⊢
  simp only [ch_mpa_H hg, ch_mpa_C hg, ch_mpa_N hg, ch_mpa_nt hg]
  exact h
theorem cg_mpa_2 {g g2 : w_G} {o : w_O} {q : Nat} {e : m_E} (hg : w_ch [9] [4, 5] g g2) (h : c_2 g o q e) : c_2 g2 o q e := by
  unfold c_2 at h ⊢
  simp only [ch_mpa_T hg]
  exact h
theorem cg_mpa_3 {g g2 : w_G} {o : w_O} {q : Nat} {e : m_E} (hg : w_ch [9] [4, 5] g g2) (h : c_3 g o q e) : c_3 g2 o q e := by
  unfold c_3 at h ⊢
  simp only [ch_mpa_C hg]
  exact h
theorem cg_mpa_5 {g g2 : w_G} {o : w_O} {q : Nat} {e : m_E} (hg : w_ch [9] [4, 5] g g2) (h : c_5 g o q e) : c_5 g2 o q e := by
  unfold c_5 at h ⊢
  simp only [ch_mpa_nt hg]
  exact h
theorem cg_mpa_7 {g g2 : w_G} {o : w_O} {q : Nat} {e : m_E} (hg : w_ch [9] [4, 5] g g2) (h : c_7 g o q e) : c_7 g2 o q e := by
  unfold c_7 at h ⊢
  simp only [ch_mpa_C hg, ch_mpa_hi hg]
  exact h
theorem cg_mpa_9 {g g2 : w_G} {o : w_O} {q : Nat} {e : m_E} (hg : w_ch [9] [4, 5] g g2) (h : c_9 g o q e) : c_9 g2 o q e := by
  unfold c_9 at h ⊢
  simp only [ch_mpa_N hg, ch_mpa_L hg, ch_mpa_rw hg, ch_mpa_stp hg, ch_mpa_ahd hg, ch_mpa_cst hg, ch_mpa_chp hg]
  exact h
theorem cg_mpa_17 {g g2 : w_G} {o : w_O} {q : Nat} {e : m_E} (hg : w_ch [9] [4, 5] g g2) (h : c_17 g o q e) : c_17 g2 o q e := by
  unfold c_17 at h ⊢
  simp only [ch_mpa_np hg]
  exact h
theorem cg_mpa_23 {g g2 : w_G} {o : w_O} {q : Nat} {e : m_E} (hg : w_ch [9] [4, 5] g g2) (h : c_23 g o q e) : c_23 g2 o q e := by
  unfold c_23 at h ⊢
  simp only [ch_mpa_nt hg]
  exact h
theorem cg_mpa_32 {g g2 : w_G} {o : w_O} {q : Nat} {e : m_E} (hg : w_ch [9] [4, 5] g g2) (h : c_32 g o q e) : c_32 g2 o q e := by
  unfold c_32 at h ⊢
  simp only [ch_mpa_mT hg]
  exact h
theorem cg_mpa_33 {g g2 : w_G} {o : w_O} {q : Nat} {e : m_E} (hg : w_ch [9] [4, 5] g g2) (h : c_33 g o q e) : c_33 g2 o q e := by
  unfold c_33 at h ⊢
  simp only [ch_mpa_mC hg]
  exact h
theorem cg_mpa_51 {g g2 : w_G} {o : w_O} {q : Nat} {e : m_E} (hg : w_ch [9] [4, 5] g g2) (h : c_51 g o q e) : c_51 g2 o q e := by
  unfold c_51 at h ⊢
  simp only [ch_mpa_mnt hg, ch_mpa_mCL hg]
  exact h
theorem cg_mpa_52 {g g2 : w_G} {o : w_O} {q : Nat} {e : m_E} (hg : w_ch [9] [4, 5] g g2) (h : c_52 g o q e) : c_52 g2 o q e := by
  unfold c_52 at h ⊢
  simp only [ch_mpa_mnt hg, ch_mpa_mCL hg]
  exact h
theorem cg_mpa_61 {g g2 : w_G} {o : w_O} {q : Nat} {e : m_E} (hg : w_ch [9] [4, 5] g g2) (h : c_61 g o q e) : c_61 g2 o q e := by
  unfold c_61 at h ⊢
  simp only [ch_mpa_mC hg, ch_mpa_mhi hg]
  exact h
theorem cg_mpa_120 {g g2 : w_G} {o : w_O} {q : Nat} {e : m_E} (hg : w_ch [9] [4, 5] g g2) (h : c_120 g o q e) : c_120 g2 o q e := by
  unfold c_120 at h ⊢
  simp only [ch_mpa_np hg, ch_mpa_PK hg, ch_mpa_PN hg]
  exact h
/-- cells: [31, 35, 36] -/
theorem ty_mpa {g g2 : w_G} {o : w_O} {q : Nat} {e : m_E} (hg : w_ch [9] [4, 5] g g2) (h31 : (o q).1 ≠ 31) (h35 : (o q).1 ≠ 35) (h36 : (o q).1 ≠ 36) (h : w_ty g o q e) : w_ty g2 o q e := by
  unfold w_ty at h ⊢
  generalize ht : (o q).1 = t at h h31 h35 h36 ⊢
  match t, h, h31, h35, h36 with
  | 0, h, _, _, _ => exact cg_mpa_0 hg h
  | 1, h, _, _, _ => exact cg_mpa_1 hg h
  | 2, h, _, _, _ => exact cg_mpa_2 hg h
  | 3, h, _, _, _ => exact cg_mpa_3 hg h
  | 4, h, _, _, _ => exact h
  | 5, h, _, _, _ => exact cg_mpa_5 hg h
  | 6, h, _, _, _ => exact h
  | 7, h, _, _, _ => exact cg_mpa_7 hg h
  | 8, h, _, _, _ => exact h
  | 9, h, _, _, _ => exact cg_mpa_9 hg h
  | 10, h, _, _, _ => exact h
  | 11, h, _, _, _ => exact h
  | 17, h, _, _, _ => exact cg_mpa_17 hg h
  | 18, h, _, _, _ => exact h
  | 19, h, _, _, _ => exact h
  | 20, h, _, _, _ => exact h
  | 21, h, _, _, _ => exact h
  | 22, h, _, _, _ => exact h
  | 23, h, _, _, _ => exact cg_mpa_23 hg h
  | 24, h, _, _, _ => exact h
  | 25, h, _, _, _ => exact h
  | 26, h, _, _, _ => exact h
  | 27, h, _, _, _ => exact h
  | 31, h, h31, _, _ => exact absurd rfl h31
  | 32, h, _, _, _ => exact cg_mpa_32 hg h
  | 33, h, _, _, _ => exact cg_mpa_33 hg h
  | 34, h, _, _, _ => exact h
  | 35, h, _, h35, _ => exact absurd rfl h35
  | 36, h, _, _, h36 => exact absurd rfl h36
  | 37, h, _, _, _ => exact h
  | 50, h, _, _, _ => exact h
  | 51, h, _, _, _ => exact cg_mpa_51 hg h
  | 52, h, _, _, _ => exact cg_mpa_52 hg h
  | 53, h, _, _, _ => exact h
  | 54, h, _, _, _ => exact h
  | 55, h, _, _, _ => exact h
  | 56, h, _, _, _ => exact h
  | 57, h, _, _, _ => exact h
  | 58, h, _, _, _ => exact h
  | 59, h, _, _, _ => exact h
  | 60, h, _, _, _ => exact h
  | 61, h, _, _, _ => exact cg_mpa_61 hg h
  | 62, h, _, _, _ => exact h
  | 63, h, _, _, _ => exact h
  | 64, h, _, _, _ => exact h
  | 65, h, _, _, _ => exact h
  | 66, h, _, _, _ => exact h
  | 100, h, _, _, _ => exact h
  | 101, h, _, _, _ => exact h
  | 102, h, _, _, _ => exact h
  | 103, h, _, _, _ => exact h
  | 104, h, _, _, _ => exact h
  | 110, h, _, _, _ => exact h
  | 111, h, _, _, _ => exact h
  | 112, h, _, _, _ => exact h
  | 120, h, _, _, _ => exact cg_mpa_120 hg h
  | 130, h, _, _, _ => exact h
  | 131, h, _, _, _ => exact h
  | 140, h, _, _, _ => exact h
theorem ch_mtx_H {g g2 : w_G} (hg : w_ch [10] [6] g g2) : g_H g2 = g_H g := hg.1 0 rfl
theorem ch_mtx_C {g g2 : w_G} (hg : w_ch [10] [6] g g2) : g_C g2 = g_C g := hg.1 1 rfl
theorem ch_mtx_N {g g2 : w_G} (hg : w_ch [10] [6] g g2) : g_N g2 = g_N g := hg.1 2 rfl
theorem ch_mtx_np {g g2 : w_G} (hg : w_ch [10] [6] g g2) : g_np g2 = g_np g := hg.1 3 rfl
theorem ch_mtx_nt {g g2 : w_G} (hg : w_ch [10] [6] g g2) : g_nt g2 = g_nt g := hg.1 4 rfl
theorem ch_mtx_hi {g g2 : w_G} (hg : w_ch [10] [6] g g2) : g_hi g2 = g_hi g := hg.1 5 rfl
theorem ch_mtx_mH {g g2 : w_G} (hg : w_ch [10] [6] g g2) : g_mH g2 = g_mH g := hg.1 6 rfl
theorem ch_mtx_mC {g g2 : w_G} (hg : w_ch [10] [6] g g2) : g_mC g2 = g_mC g := hg.1 7 rfl
theorem ch_mtx_mN {g g2 : w_G} (hg : w_ch [10] [6] g g2) : g_mN g2 = g_mN g := hg.1 8 rfl
theorem ch_mtx_mnp {g g2 : w_G} (hg : w_ch [10] [6] g g2) : g_mnp g2 = g_mnp g := hg.1 9 rfl
theorem ch_mtx_mhi {g g2 : w_G} (hg : w_ch [10] [6] g g2) : g_mhi g2 = g_mhi g := hg.1 11 rfl
theorem ch_mtx_L {g g2 : w_G} (hg : w_ch [10] [6] g g2) : g_L g2 = g_L g := hg.1 12 rfl
theorem ch_mtx_T {g g2 : w_G} (hg : w_ch [10] [6] g g2) (j : Int) : g_T g2 j = g_T g j := by unfold g_T; rw [hg.2.1 0 rfl]
theorem ch_mtx_PK {g g2 : w_G} (hg : w_ch [10] [6] g g2) (j : Int) : g_PK g2 j = g_PK g j := by unfold g_PK; rw [hg.2.1 1 rfl]
theorem ch_mtx_PN {g g2 : w_G} (hg : w_ch [10] [6] g g2) (j : Int) : g_PN g2 j = g_PN g j := by unfold g_PN; rw [hg.2.1 2 rfl]
theorem ch_mtx_mT {g g2 : w_G} (hg : w_ch [10] [6] g g2) (j : Int) : g_mT g2 j = g_mT g j := by unfold g_mT; rw [hg.2.1 3 rfl]
theorem ch_mtx_mPK {g g2 : w_G} (hg : w_ch [10] [6] g g2) (j : Int) : g_mPK g2 j = g_mPK g j := by unfold g_mPK; rw [hg.2.1 4 rfl]
theorem ch_mtx_mPN {g g2 : w_G} (hg : w_ch [10] [6] g g2) (j : Int) : g_mPN g2 j = g_mPN g j := by unfold g_mPN; rw [hg.2.1 5 rfl]
theorem ch_mtx_rw {g g2 : w_G} (hg : w_ch [10] [6] g g2) : g_rw g2 = g_rw g := by unfold g_rw; rw [hg.2.2]
theorem ch_mtx_stp {g g2 : w_G} (hg : w_ch [10] [6] g g2) : g_stp g2 = g_stp g := by unfold g_stp; rw [hg.2.2]
theorem ch_mtx_ahd {g g2 : w_G} (hg : w_ch [10] [6] g g2) : g_ahd g2 = g_ahd g := by unfold g_ahd; rw [hg.2.2]
theorem ch_mtx_cst {g g2 : w_G} (hg : w_ch [10] [6] g g2) : g_cst g2 = g_cst g := by unfold g_cst; rw [hg.2.2]
theorem ch_mtx_chp {g g2 : w_G} (hg : w_ch [10] [6] g g2) : g_chp g2 = g_chp g := by unfold g_chp; rw [hg.2.2]
theorem cg_mtx_0 {g g2 : w_G} {o : w_O} {q : Nat} {e : m_E} (hg : w_ch [10] [6] g g2) (h : c_0 g o q e) : c_0 g2 o q e := by
  unfold c_0 at h ⊢
  simp only [ch_mtx_np hg, ch_mtx_nt hg, ch_mtx_hi hg]
  exact h
theorem cg_mtx_1 {g g2 : w_G} {o : w_O} {q : Nat} {e : m_E} (hg : w_ch [10] [6] g g2) (h : c_1 g o q e) : c_1 g2 o q e := by
  unfold c_1 at h ⊢
  simp only [ch_mtx_H hg, ch_mtx_C hg, ch_mtx_N hg, ch_mtx_nt hg]
  exact h
theorem cg_mtx_2 {g g2 : w_G} {o : w_O} {q : Nat} {e : m_E} (hg : w_ch [10] [6] g g2) (h : c_2 g o q e) : c_2 g2 o q e := by
  unfold c_2 at h ⊢
  simp only [ch_mtx_T hg]
  exact h
theorem cg_mtx_3 {g g2 : w_G} {o : w_O} {q : Nat} {e : m_E} (hg : w_ch [10] [6] g g2) (h : c_3 g o q e) : c_3 g2 o q e := by
  unfold c_3 at h ⊢
  simp only [ch_mtx_C hg]
  exact h
theorem cg_mtx_5 {g g2 : w_G} {o : w_O} {q : Nat} {e : m_E} (hg : w_ch [10] [6] g g2) (h : c_5 g o q e) : c_5 g2 o q e := by
  unfold c_5 at h ⊢
  simp only [ch_mtx_nt hg]
  exact h
theorem cg_mtx_7 {g g2 : w_G} {o : w_O} {q : Nat} {e : m_E} (hg : w_ch [10] [6] g g2) (h : c_7 g o q e) : c_7 g2 o q e := by
  unfold c_7 at h ⊢
  simp only [ch_mtx_C hg, ch_mtx_hi hg]
  exact h
theorem cg_mtx_9 {g g2 : w_G} {o : w_O} {q : Nat} {e : m_E} (hg : w_ch [10] [6] g g2) (h : c_9 g o q e) : c_9 g2 o q e := by
  unfold c_9 at h ⊢
  simp only [ch_mtx_N hg, ch_mtx_L hg, ch_mtx_rw hg, ch_mtx_stp hg, ch_mtx_ahd hg, ch_mtx_cst hg, ch_mtx_chp hg]
  exact h
theorem cg_mtx_17 {g g2 : w_G} {o : w_O} {q : Nat} {e : m_E} (hg : w_ch [10] [6] g g2) (h : c_17 g o q e) : c_17 g2 o q e := by
  unfold c_17 at h ⊢
  simp only [ch_mtx_np hg]
  exact h
theorem cg_mtx_23 {g g2 : w_G} {o : w_O} {q : Nat} {e : m_E} (hg : w_ch [10] [6] g g2) (h : c_23 g o q e) : c_23 g2 o q e := by
  unfold c_23 at h ⊢
  simp only [ch_mtx_nt hg]
  exact h
theorem cg_mtx_32 {g g2 : w_G} {o : w_O} {q : Nat} {e : m_E} (hg : w_ch [10] [6] g g2) (h : c_32 g o q e) : c_32 g2 o q e := by
  unfold c_32 at h ⊢
  simp only [ch_mtx_mT hg]
  exact h
theorem cg_mtx_33 {g g2 : w_G} {o : w_O} {q : Nat} {e : m_E} (hg : w_ch [10] [6] g g2) (h : c_33 g o q e) : c_33 g2 o q e := by
  unfold c_33 at h ⊢
  simp only [ch_mtx_mC hg]
  exact h
theorem cg_mtx_35 {g g2 : w_G} {o : w_O} {q : Nat} {e : m_E} (hg : w_ch [10] [6] g g2) (h : c_35 g o q e) : c_35 g2 o q e := by
  unfold c_35 at h ⊢
  simp only [ch_mtx_mnp hg, ch_mtx_mPK hg]
  exact h
theorem cg_mtx_36 {g g2 : w_G} {o : w_O} {q : Nat} {e : m_E} (hg : w_ch [10] [6] g g2) (h : c_36 g o q e) : c_36 g2 o q e := by
  unfold c_36 at h ⊢
  simp only [ch_mtx_mnp hg, ch_mtx_mPN hg]
  exact h
theorem cg_mtx_61 {g g2 : w_G} {o : w_O} {q : Nat} {e : m_E} (hg : w_ch [10] [6] g g2) (h : c_61 g o q e) : c_61 g2 o q e := by
  unfold c_61 at h ⊢
  simp only [ch_mtx_mC hg, ch_mtx_mhi hg]
  exact h
theorem cg_mtx_120 {g g2 : w_G} {o : w_O} {q : Nat} {e : m_E} (hg : w_ch [10] [6] g g2) (h : c_120 g o q e) : c_120 g2 o q e := by
  unfold c_120 at h ⊢
  simp only [ch_mtx_np hg, ch_mtx_PK hg, ch_mtx_PN hg]
  exact h
/-- cells: [31, 51, 52] -/
theorem ty_mtx {g g2 : w_G} {o : w_O} {q : Nat} {e : m_E} (hg : w_ch [10] [6] g g2) (h31 : (o q).1 ≠ 31) (h51 : (o q).1 ≠ 51) (h52 : (o q).1 ≠ 52) (h : w_ty g o q e) : w_ty g2 o q e := by
  unfold w_ty at h ⊢
  generalize ht : (o q).1 = t at h h31 h51 h52 ⊢
  match t, h, h31, h51, h52 with
  | 0, h, _, _, _ => exact cg_mtx_0 hg h
  | 1, h, _, _, _ => exact cg_mtx_1 hg h
  | 2, h, _, _, _ => exact cg_mtx_2 hg h
  | 3, h, _, _, _ => exact cg_mtx_3 hg h
  | 4, h, _, _, _ => exact h
  | 5, h, _, _, _ => exact cg_mtx_5 hg h
  | 6, h, _, _, _ => exact h
  | 7, h, _, _, _ => exact cg_mtx_7 hg h
  | 8, h, _, _, _ => exact h
  | 9, h, _, _, _ => exact cg_mtx_9 hg h
  | 10, h, _, _, _ => exact h
  | 11, h, _, _, _ => exact h
  | 17, h, _, _, _ => exact cg_mtx_17 hg h
  | 18, h, _, _, _ => exact h
  | 19, h, _, _, _ => exact h
  | 20, h, _, _, _ => exact h
  | 21, h, _, _, _ => exact h
  | 22, h, _, _, _ => exact h
  | 23, h, _, _, _ => exact cg_mtx_23 hg h
  | 24, h, _, _, _ => exact h
  | 25, h, _, _, _ => exact h
  | 26, h, _, _, _ => exact h
  | 27, h, _, _, _ => exact h
  | 31, h, h31, _, _ => exact absurd rfl h31
  | 32, h, _, _, _ => exact cg_mtx_32 hg h
  | 33, h, _, _, _ => exact cg_mtx_33 hg h
  | 34, h, _, _, _ => exact h
  | 35, h, _, _, _ => exact cg_mtx_35 hg h
  | 36, h, _, _, _ => exact cg_mtx_36 hg h
  | 37, h, _, _, _ => exact h
  | 50, h, _, _, _ => exact h
  | 51, h, _, h51, _ => exact absurd rfl h51
  | 52, h, _, _, h52 => exact absurd rfl h52
  | 53, h, _, _, _ => exact h
  | 54, h, _, _, _ => exact h
  | 55, h, _, _, _ => exact h
  | 56, h, _, _, _ => exact h
  | 57, h, _, _, _ => exact h
  | 58, h, _, _, _ => exact h
  | 59, h, _, _, _ => exact h
  | 60, h, _, _, _ => exact h
  | 61, h, _, _, _ => exact cg_mtx_61 hg h
  | 62, h, _, _, _ => exact h
  | 63, h, _, _, _ => exact h
  | 64, h, _, _, _ => exact h
  | 65, h, _, _, _ => exact h
  | 66, h, _, _, _ => exact h
  | 100, h, _, _, _ => exact h
  | 101, h, _, _, _ => exact h
  | 102, h, _, _, _ => exact h
  | 103, h, _, _, _ => exact h
  | 104, h, _, _, _ => exact h
  | 110, h, _, _, _ => exact h
  | 111, h, _, _, _ => exact h
  | 112, h, _, _, _ => exact h
  | 120, h, _, _, _ => exact cg_mtx_120 hg h
  | 130, h, _, _, _ => exact h
  | 131, h, _, _, _ => exact h
  | 140, h, _, _, _ => exact h
theorem ch_mbu_H {g g2 : w_G} (hg : w_ch [6, 7, 8, 11] [3] g g2) : g_H g2 = g_H g := hg.1 0 rfl
theorem ch_mbu_C {g g2 : w_G} (hg : w_ch [6, 7, 8, 11] [3] g g2) : g_C g2 = g_C g := hg.1 1 rfl
theorem ch_mbu_N {g g2 : w_G} (hg : w_ch [6, 7, 8, 11] [3] g g2) : g_N g2 = g_N g := hg.1 2 rfl
theorem ch_mbu_np {g g2 : w_G} (hg : w_ch [6, 7, 8, 11] [3] g g2) : g_np g2 = g_np g := hg.1 3 rfl
theorem ch_mbu_nt {g g2 : w_G} (hg : w_ch [6, 7, 8, 11] [3] g g2) : g_nt g2 = g_nt g := hg.1 4 rfl
theorem ch_mbu_hi {g g2 : w_G} (hg : w_ch [6, 7, 8, 11] [3] g g2) : g_hi g2 = g_hi g := hg.1 5 rfl
theorem ch_mbu_mnp {g g2 : w_G} (hg : w_ch [6, 7, 8, 11] [3] g g2) : g_mnp g2 = g_mnp g := hg.1 9 rfl
theorem ch_mbu_mnt {g g2 : w_G} (hg : w_ch [6, 7, 8, 11] [3] g g2) : g_mnt g2 = g_mnt g := hg.1 10 rfl
theorem ch_mbu_L {g g2 : w_G} (hg : w_ch [6, 7, 8, 11] [3] g g2) : g_L g2 = g_L g := hg.1 12 rfl
theorem ch_mbu_T {g g2 : w_G} (hg : w_ch [6, 7, 8, 11] [3] g g2) (j : Int) : g_T g2 j = g_T g j := by unfold g_T; rw [hg.2.1 0 rfl]
theorem ch_mbu_PK {g g2 : w_G} (hg : w_ch [6, 7, 8, 11] [3] g g2) (j : Int) : g_PK g2 j = g_PK g j := by unfold g_PK; rw [hg.2.1 1 rfl]
theorem ch_mbu_PN {g g2 : w_G} (hg : w_ch [6, 7, 8, 11] [3] g g2) (j : Int) : g_PN g2 j = g_PN g j := by unfold g_PN; rw [hg.2.1 2 rfl]
theorem ch_mbu_mPK {g g2 : w_G} (hg : w_ch [6, 7, 8, 11] [3] g g2) (j : Int) : g_mPK g2 j = g_mPK g j := by unfold g_mPK; rw [hg.2.1 4 rfl]
theorem ch_mbu_mPN {g g2 : w_G} (hg : w_ch [6, 7, 8, 11] [3] g g2) (j : Int) : g_mPN g2 j = g_mPN g j := by unfold g_mPN; rw [hg.2.1 5 rfl]
theorem ch_mbu_mCL {g g2 : w_G} (hg : w_ch [6, 7, 8, 11] [3] g g2) (j : Int) : g_mCL g2 j = g_mCL g j := by unfold g_mCL; rw [hg.2.1 6 rfl]
theorem ch_mbu_rw {g g2 : w_G} (hg : w_ch [6, 7, 8, 11] [3] g g2) : g_rw g2 = g_rw g := by unfold g_rw; rw [hg.2.2]
theorem ch_mbu_stp {g g2 : w_G} (hg : w_ch [6, 7, 8, 11] [3] g g2) : g_stp g2 = g_stp g := by unfold g_stp; rw [hg.2.2]
theorem ch_mbu_ahd {g g2 : w_G} (hg : w_ch [6, 7, 8, 11] [3] g g2) : g_ahd g2 = g_ahd g := by unfold g_ahd; rw [hg.2.2]
theorem ch_mbu_cst {g g2 : w_G} (hg : w_ch [6, 7, 8, 11] [3] g g2) : g_cst g2 = g_cst g := by unfold g_cst; rw [hg.2.2]
theorem ch_mbu_chp {g g2 : w_G} (hg : w_ch [6, 7, 8, 11] [3] g g2) : g_chp g2 = g_chp g := by unfold g_chp; rw [hg.2.2]
theorem cg_mbu_0 {g g2 : w_G} {o : w_O} {q : Nat} {e : m_E} (hg : w_ch [6, 7, 8, 11] [3] g g2) (h : c_0 g o q e) : c_0 g2 o q e := by
  unfold c_0 at h ⊢
  simp only [ch_mbu_np hg, ch_mbu_nt hg, ch_mbu_hi hg]
  exact h
theorem cg_mbu_1 {g g2 : w_G} {o : w_O} {q : Nat} {e : m_E} (hg : w_ch [6, 7, 8, 11] [3] g g2) (h : c_1 g o q e) : c_1 g2 o q e := by
  unfold c_1 at h ⊢
  simp only [ch_mbu_H hg, ch_mbu_C hg, ch_mbu_N hg, ch_mbu_nt hg]
  exact h
theorem cg_mbu_2 {g g2 : w_G} {o : w_O} {q : Nat} {e : m_E} (hg : w_ch [6, 7, 8, 11] [3] g g2) (h : c_2 g o q e) : c_2 g2 o q e := by
  unfold c_2 at h ⊢
  simp only [ch_mbu_T hg]
  exact h
theorem cg_mbu_3 {g g2 : w_G} {o : w_O} {q : Nat} {e : m_E} (hg : w_ch [6, 7, 8, 11] [3] g g2) (h : c_3 g o q e) : c_3 g2 o q e := by
  unfold c_3 at h ⊢
  simp only [ch_mbu_C hg]
  exact h
theorem cg_mbu_5 {g g2 : w_G} {o : w_O} {q : Nat} {e : m_E} (hg : w_ch [6, 7, 8, 11] [3] g g2) (h : c_5 g o q e) : c_5 g2 o q e := by
  unfold c_5 at h ⊢
  simp only [ch_mbu_nt hg]
  exact h
theorem cg_mbu_7 {g g2 : w_G} {o : w_O} {q : Nat} {e : m_E} (hg : w_ch [6, 7, 8, 11] [3] g g2) (h : c_7 g o q e) : c_7 g2 o q e := by
  unfold c_7 at h ⊢
  simp only [ch_mbu_C hg, ch_mbu_hi hg]
  exact h
theorem cg_mbu_9 {g g2 : w_G} {o : w_O} {q : Nat} {e : m_E} (hg : w_ch [6, 7, 8, 11] [3] g g2) (h : c_9 g o q e) : c_9 g2 o q e := by
  unfold c_9 at h ⊢
  simp only [ch_mbu_N hg, ch_mbu_L hg, ch_mbu_rw hg, ch_mbu_stp hg, ch_mbu_ahd hg, ch_mbu_cst hg, ch_mbu_chp hg]
  exact h
theorem cg_mbu_17 {g g2 : w_G} {o : w_O} {q : Nat} {e : m_E} (hg : w_ch [6, 7, 8, 11] [3] g g2) (h : c_17 g o q e) : c_17 g2 o q e := by
  unfold c_17 at h ⊢
  simp only [ch_mbu_np hg]
  exact h
theorem cg_mbu_23 {g g2 : w_G} {o : w_O} {q : Nat} {e : m_E} (hg : w_ch [6, 7, 8, 11] [3] g g2) (h : c_23 g o q e) : c_23 g2 o q e := by
  unfold c_23 at h ⊢
  simp only [ch_mbu_nt hg]
  exact h
theorem cg_mbu_35 {g g2 : w_G} {o : w_O} {q : Nat} {e : m_E} (hg : w_ch [6, 7, 8, 11] [3] g g2) (h : c_35 g o q e) : c_35 g2 o q e := by
  unfold c_35 at h ⊢
  simp only [ch_mbu_mnp hg, ch_mbu_mPK hg]
  exact h
theorem cg_mbu_36 {g g2 : w_G} {o : w_O} {q : Nat} {e : m_E} (hg : w_ch [6, 7, 8, 11] [3] g g2) (h : c_36 g o q e) : c_36 g2 o q e := by
  unfold c_36 at h ⊢
  simp only [ch_mbu_mnp hg, ch_mbu_mPN hg]
  exact h
theorem cg_mbu_51 {g g2 : w_G} {o : w_O} {q : Nat} {e : m_E} (hg : w_ch [6, 7, 8, 11] [3] g g2) (h : c_51 g o q e) : c_51 g2 o q e := by
  unfold c_51 at h ⊢
  simp only [ch_mbu_mnt hg, ch_mbu_mCL hg]
  exact h
theorem cg_mbu_52 {g g2 : w_G} {o : w_O} {q : Nat} {e : m_E} (hg : w_ch [6, 7, 8, 11] [3] g g2) (h : c_52 g o q e) : c_52 g2 o q e := by
  unfold c_52 at h ⊢
  simp only [ch_mbu_mnt hg, ch_mbu_mCL hg]
  exact h
theorem cg_mbu_120 {g g2 : w_G} {o : w_O} {q : Nat} {e : m_E} (hg : w_ch [6, 7, 8, 11] [3] g g2) (h : c_120 g o q e) : c_120 g2 o q e := by
  unfold c_120 at h ⊢
  simp only [ch_mbu_np hg, ch_mbu_PK hg, ch_mbu_PN hg]
  exact h
/-- cells: [31, 32, 33, 61] -/
theorem ty_mbu {g g2 : w_G} {o : w_O} {q : Nat} {e : m_E} (hg : w_ch [6, 7, 8, 11] [3] g g2) (h31 : (o q).1 ≠ 31) (h32 : (o q).1 ≠ 32) (h33 : (o q).1 ≠ 33) (h61 : (o q).1 ≠ 61) (h : w_ty g o q e) : w_ty g2 o q e := by
  unfold w_ty at h ⊢
  generalize ht : (o q).1 = t at h h31 h32 h33 h61 ⊢
  match t, h, h31, h32, h33, h61 with
  | 0, h, _, _, _, _ => exact cg_mbu_0 hg h
  | 1, h, _, _, _, _ => exact cg_mbu_1 hg h
  | 2, h, _, _, _, _ => exact cg_mbu_2 hg h
  | 3, h, _, _, _, _ => exact cg_mbu_3 hg h
  | 4, h, _, _, _, _ => exact h
  | 5, h, _, _, _, _ => exact cg_mbu_5 hg h
  | 6, h, _, _, _, _ => exact h
  | 7, h, _, _, _, _ => exact cg_mbu_7 hg h
  | 8, h, _, _, _, _ => exact h
  | 9, h, _, _, _, _ => exact cg_mbu_9 hg h
  | 10, h, _, _, _, _ => exact h
  | 11, h, _, _, _, _ => exact h
  | 17, h, _, _, _, _ => exact cg_mbu_17 hg h
  | 18, h, _, _, _, _ => exact h
  | 19, h, _, _, _, _ => exact h
  | 20, h, _, _, _, _ => exact h
  | 21, h, _, _, _, _ => exact h
  | 22, h, _, _, _, _ => exact h
  | 23, h, _, _, _, _ => exact cg_mbu_23 hg h
  | 24, h, _, _, _, _ => exact h
  | 25, h, _, _, _, _ => exact h
  | 26, h, _, _, _, _ => exact h
  | 27, h, _, _, _, _ => exact h
  | 31, h, h31, _, _, _ => exact absurd rfl h31
  | 32, h, _, h32, _, _ => exact absurd rfl h32
  | 33, h, _, _, h33, _ => exact absurd rfl h33
  | 34, h, _, _, _, _ => exact h
  | 35, h, _, _, _, _ => exact cg_mbu_35 hg h
  | 36, h, _, _, _, _ => exact cg_mbu_36 hg h
  | 37, h, _, _, _, _ => exact h
  | 50, h, _, _, _, _ => exact h
  | 51, h, _, _, _, _ => exact cg_mbu_51 hg h
  | 52, h, _, _, _, _ => exact cg_mbu_52 hg h
  | 53, h, _, _, _, _ => exact h
  | 54, h, _, _, _, _ => exact h
  | 55, h, _, _, _, _ => exact h
  | 56, h, _, _, _, _ => exact h
  | 57, h, _, _, _, _ => exact h
  | 58, h, _, _, _, _ => exact h
  | 59, h, _, _, _, _ => exact h
  | 60, h, _, _, _, _ => exact h
  | 61, h, _, _, _, h61 => exact absurd rfl h61
  | 62, h, _, _, _, _ => exact h
  | 63, h, _, _, _, _ => exact h
  | 64, h, _, _, _, _ => exact h
  | 65, h, _, _, _, _ => exact h
  | 66, h, _, _, _, _ => exact h
  | 100, h, _, _, _, _ => exact h
  | 101, h, _, _, _, _ => exact h
  | 102, h, _, _, _, _ => exact h
  | 103, h, _, _, _, _ => exact h
  | 104, h, _, _, _, _ => exact h
  | 110, h, _, _, _, _ => exact h
  | 111, h, _, _, _, _ => exact h
  | 112, h, _, _, _, _ => exact h
  | 120, h, _, _, _, _ => exact cg_mbu_120 hg h
  | 130, h, _, _, _, _ => exact h
  | 131, h, _, _, _, _ => exact h
  | 140, h, _, _, _, _ => exact h
theorem ch_mto_H {g g2 : w_G} (hg : w_ch [] [3] g g2) : g_H g2 = g_H g := hg.1 0 rfl
theorem ch_mto_C {g g2 : w_G} (hg : w_ch [] [3] g g2) : g_C g2 = g_C g := hg.1 1 rfl
theorem ch_mto_N {g g2 : w_G} (hg : w_ch [] [3] g g2) : g_N g2 = g_N g := hg.1 2 rfl
theorem ch_mto_np {g g2 : w_G} (hg : w_ch [] [3] g g2) : g_np g2 = g_np g := hg.1 3 rfl
theorem ch_mto_nt {g g2 : w_G} (hg : w_ch [] [3] g g2) : g_nt g2 = g_nt g := hg.1 4 rfl
theorem ch_mto_hi {g g2 : w_G} (hg : w_ch [] [3] g g2) : g_hi g2 = g_hi g := hg.1 5 rfl
theorem ch_mto_mH {g g2 : w_G} (hg : w_ch [] [3] g g2) : g_mH g2 = g_mH g := hg.1 6 rfl
theorem ch_mto_mC {g g2 : w_G} (hg : w_ch [] [3] g g2) : g_mC g2 = g_mC g := hg.1 7 rfl
theorem ch_mto_mN {g g2 : w_G} (hg : w_ch [] [3] g g2) : g_mN g2 = g_mN g := hg.1 8 rfl
theorem ch_mto_mnp {g g2 : w_G} (hg : w_ch [] [3] g g2) : g_mnp g2 = g_mnp g := hg.1 9 rfl
theorem ch_mto_mnt {g g2 : w_G} (hg : w_ch [] [3] g g2) : g_mnt g2 = g_mnt g := hg.1 10 rfl
theorem ch_mto_mhi {g g2 : w_G} (hg : w_ch [] [3] g g2) : g_mhi g2 = g_mhi g := hg.1 11 rfl
theorem ch_mto_L {g g2 : w_G} (hg : w_ch [] [3] g g2) : g_L g2 = g_L g := hg.1 12 rfl
theorem ch_mto_T {g g2 : w_G} (hg : w_ch [] [3] g g2) (j : Int) : g_T g2 j = g_T g j := by unfold g_T; rw [hg.2.1 0 rfl]
theorem ch_mto_PK {g g2 : w_G} (hg : w_ch [] [3] g g2) (j : Int) : g_PK g2 j = g_PK g j := by unfold g_PK; rw [hg.2.1 1 rfl]
theorem ch_mto_PN {g g2 : w_G} (hg : w_ch [] [3] g g2) (j : Int) : g_PN g2 j = g_PN g j := by unfold g_PN; rw [hg.2.1 2 rfl]
theorem ch_mto_mPK {g g2 : w_G} (hg : w_ch [] [3] g g2) (j : Int) : g_mPK g2 j = g_mPK g j := by unfold g_mPK; rw [hg.2.1 4 rfl]
theorem ch_mto_mPN {g g2 : w_G} (hg : w_ch [] [3] g g2) (j : Int) : g_mPN g2 j = g_mPN g j := by unfold g_mPN; rw [hg.2.1 5 rfl]
theorem ch_mto_mCL {g g2 : w_G} (hg : w_ch [] [3] g g2) (j : Int) : g_mCL g2 j = g_mCL g j := by unfold g_mCL; rw [hg.2.1 6 rfl]
theorem ch_mto_rw {g g2 : w_G} (hg : w_ch [] [3] g g2) : g_rw g2 = g_rw g := by unfold g_rw; rw [hg.2.2]
theorem ch_mto_stp {g g2 : w_G} (hg : w_ch [] [3] g g2) : g_stp g2 = g_stp g := by unfold g_stp; rw [hg.2.2]
theorem ch_mto_ahd {g g2 : w_G} (hg : w_ch [] [3] g g2) : g_ahd g2 = g_ahd g := by unfold g_ahd; rw [hg.2.2]
theorem ch_mto_cst {g g2 : w_G} (hg : w_ch [] [3] g g2) : g_cst g2 = g_cst g := by unfold g_cst; rw [hg.2.2]
theorem ch_mto_chp {g g2 : w_G} (hg : w_ch [] [3] g g2) : g_chp g2 = g_chp g := by unfold g_chp; rw [hg.2.2]
theorem cg_mto_0 {g g2 : w_G} {o : w_O} {q : Nat} {e : m_E} (hg : w_ch [] [3] g g2) (h : c_0 g o q e) : c_0 g2 o q e := by
  unfold c_0 at h ⊢
  simp only [ch_mto_np hg, ch_mto_nt hg, ch_mto_hi hg]
  exact h
theorem cg_mto_1 {g g2 : w_G} {o : w_O} {q : Nat} {e : m_E} (hg : w_ch [] [3] g g2) (h : c_1 g o q e) : c_1 g2 o q e := by
  unfold c_1 at h ⊢
  simp only [ch_mto_H hg, ch_mto_C hg, ch_mto_N hg, ch_mto_nt hg]
  exact h
theorem cg_mto_2 {g g2 : w_G} {o : w_O} {q : Nat} {e : m_E} (hg : w_ch [] [3] g g2) (h : c_2 g o q e) : c_2 g2 o q e := by
  unfold c_2 at h ⊢
  simp only [ch_mto_T hg]
  exact h
theorem cg_mto_3 {g g2 : w_G} {o : w_O} {q : Nat} {e : m_E} (hg : w_ch [] [3] g g2) (h : c_3 g o q e) : c_3 g2 o q e := by
  unfold c_3 at h ⊢
  simp only [ch_mto_C hg]
  exact h
theorem cg_mto_5 {g g2 : w_G} {o : w_O} {q : Nat} {e : m_E} (hg : w_ch [] [3] g g2) (h : c_5 g o q e) : c_5 g2 o q e := by
  unfold c_5 at h ⊢
  simp only [ch_mto_nt hg]
  exact h
theorem cg_mto_7 {g g2 : w_G} {o : w_O} {q : Nat} {e : m_E} (hg : w_ch [] [3] g g2) (h : c_7 g o q e) : c_7 g2 o q e := by
  unfold c_7 at h ⊢
  simp only [ch_mto_C hg, ch_mto_hi hg]
  exact h
theorem cg_mto_9 {g g2 : w_G} {o : w_O} {q : Nat} {e : m_E} (hg : w_ch [] [3] g g2) (h : c_9 g o q e) : c_9 g2 o q e := by
  unfold c_9 at h ⊢
  simp only [ch_mto_N hg, ch_mto_L hg, ch_mto_rw hg, ch_mto_stp hg, ch_mto_ahd hg, ch_mto_cst hg, ch_mto_chp hg]
  exact h
theorem cg_mto_17 {g g2 : w_G} {o : w_O} {q : Nat} {e : m_E} (hg : w_ch [] [3] g g2) (h : c_17 g o q e) : c_17 g2 o q e := by
  unfold c_17 at h ⊢
  simp only [ch_mto_np hg]
  exact h
theorem cg_mto_23 {g g2 : w_G} {o : w_O} {q : Nat} {e : m_E} (hg : w_ch [] [3] g g2) (h : c_23 g o q e) : c_23 g2 o q e := by
  unfold c_23 at h ⊢
  simp only [ch_mto_nt hg]
  exact h
theorem cg_mto_31 {g g2 : w_G} {o : w_O} {q : Nat} {e : m_E} (hg : w_ch [] [3] g g2) (h : c_31 g o q e) : c_31 g2 o q e := by
  unfold c_31 at h ⊢
  simp only [ch_mto_mH hg, ch_mto_mC hg, ch_mto_mnp hg, ch_mto_mnt hg, ch_mto_mhi hg]
  exact h
theorem cg_mto_33 {g g2 : w_G} {o : w_O} {q : Nat} {e : m_E} (hg : w_ch [] [3] g g2) (h : c_33 g o q e) : c_33 g2 o q e := by
  unfold c_33 at h ⊢
  simp only [ch_mto_mC hg]
  exact h
theorem cg_mto_35 {g g2 : w_G} {o : w_O} {q : Nat} {e : m_E} (hg : w_ch [] [3] g g2) (h : c_35 g o q e) : c_35 g2 o q e := by
  unfold c_35 at h ⊢
  simp only [ch_mto_mnp hg, ch_mto_mPK hg]
  exact h
theorem cg_mto_36 {g g2 : w_G} {o : w_O} {q : Nat} {e : m_E} (hg : w_ch [] [3] g g2) (h : c_36 g o q e) : c_36 g2 o q e := by
  unfold c_36 at h ⊢
  simp only [ch_mto_mnp hg, ch_mto_mPN hg]
  exact h
theorem cg_mto_51 {g g2 : w_G} {o : w_O} {q : Nat} {e : m_E} (hg : w_ch [] [3] g g2) (h : c_51 g o q e) : c_51 g2 o q e := by
  unfold c_51 at h ⊢
  simp only [ch_mto_mnt hg, ch_mto_mCL hg]
  exact h
theorem cg_mto_52 {g g2 : w_G} {o : w_O} {q : Nat} {e : m_E} (hg : w_ch [] [3] g g2) (h : c_52 g o q e) : c_52 g2 o q e := by
  unfold c_52 at h ⊢
  simp only [ch_mto_mnt hg, ch_mto_mCL hg]
  exact h
theorem cg_mto_61 {g g2 : w_G} {o : w_O} {q : Nat} {e : m_E} (hg : w_ch [] [3] g g2) (h : c_61 g o q e) : c_61 g2 o q e := by
  unfold c_61 at h ⊢
  simp only [ch_mto_mC hg, ch_mto_mhi hg]
  exact h
theorem cg_mto_120 {g g2 : w_G} {o : w_O} {q : Nat} {e : m_E} (hg : w_ch [] [3] g g2) (h : c_120 g o q e) : c_120 g2 o q e := by
  unfold c_120 at h ⊢
  simp only [ch_mto_np hg, ch_mto_PK hg, ch_mto_PN hg]
  exact h
/-- cells: [32] -/
theorem ty_mto {g g2 : w_G} {o : w_O} {q : Nat} {e : m_E} (hg : w_ch [] [3] g g2) (h32 : (o q).1 ≠ 32) (h : w_ty g o q e) : w_ty g2 o q e := by
  unfold w_ty at h ⊢
  generalize ht : (o q).1 = t at h h32 ⊢
  match t, h, h32 with
  | 0, h, _ => exact cg_mto_0 hg h
  | 1, h, _ => exact cg_mto_1 hg h
  | 2, h, _ => exact cg_mto_2 hg h
  | 3, h, _ => exact cg_mto_3 hg h
  | 4, h, _ => exact h
  | 5, h, _ => exact cg_mto_5 hg h
  | 6, h, _ => exact h
  | 7, h, _ => exact cg_mto_7 hg h
  | 8, h, _ => exact h
  | 9, h, _ => exact cg_mto_9 hg h
  | 10, h, _ => exact h
  | 11, h, _ => exact h
  | 17, h, _ => exact cg_mto_17 hg h
  | 18, h, _ => exact h
  | 19, h, _ => exact h
  | 20, h, _ => exact h
  | 21, h, _ => exact h
  | 22, h, _ => exact h
  | 23, h, _ => exact cg_mto_23 hg h
  | 24, h, _ => exact h
  | 25, h, _ => exact h
  | 26, h, _ => exact h
  | 27, h, _ => exact h
  | 31, h, _ => exact cg_mto_31 hg h
  | 32, h, h32 => exact absurd rfl h32
  | 33, h, _ => exact cg_mto_33 hg h
  | 34, h, _ => exact h
  | 35, h, _ => exact cg_mto_35 hg h
  | 36, h, _ => exact cg_mto_36 hg h
  | 37, h, _ => exact h
  | 50, h, _ => exact h
  | 51, h, _ => exact cg_mto_51 hg h
  | 52, h, _ => exact cg_mto_52 hg h
  | 53, h, _ => exact h
  | 54, h, _ => exact h
  | 55, h, _ => exact h
  | 56, h, _ => exact h
  | 57, h, _ => exact h
  | 58, h, _ => exact h
  | 59, h, _ => exact h
  | 60, h, _ => exact h
  | 61, h, _ => exact cg_mto_61 hg h
  | 62, h, _ => exact h
  | 63, h, _ => exact h
  | 64, h, _ => exact h
  | 65, h, _ => exact h
  | 66, h, _ => exact h
  | 100, h, _ => exact h
  | 101, h, _ => exact h
  | 102, h, _ => exact h
  | 103, h, _ => exact h
  | 104, h, _ => exact h
  | 110, h, _ => exact h
  | 111, h, _ => exact h
  | 112, h, _ => exact h
  | 120, h, _ => exact cg_mto_120 hg h
  | 130, h, _ => exact h
  | 131, h, _ => exact h
  | 140, h, _ => exact h
theorem ch_mim_H {g g2 : w_G} (hg : w_ch [11] [] g g2) : g_H g2 = g_H g := hg.1 0 rfl
theorem ch_mim_C {g g2 : w_G} (hg : w_ch [11] [] g g2) : g_C g2 = g_C g := hg.1 1 rfl
theorem ch_mim_N {g g2 : w_G} (hg : w_ch [11] [] g g2) : g_N g2 = g_N g := hg.1 2 rfl
theorem ch_mim_np {g g2 : w_G} (hg : w_ch [11] [] g g2) : g_np g2 = g_np g := hg.1 3 rfl
theorem ch_mim_nt {g g2 : w_G} (hg : w_ch [11] [] g g2) : g_nt g2 = g_nt g := hg.1 4 rfl
theorem ch_mim_hi {g g2 : w_G} (hg : w_ch [11] [] g g2) : g_hi g2 = g_hi g := hg.1 5 rfl
theorem ch_mim_mH {g g2 : w_G} (hg : w_ch [11] [] g g2) : g_mH g2 = g_mH g := hg.1 6 rfl
theorem ch_mim_mC {g g2 : w_G} (hg : w_ch [11] [] g g2) : g_mC g2 = g_mC g := hg.1 7 rfl
theorem ch_mim_mN {g g2 : w_G} (hg : w_ch [11] [] g g2) : g_mN g2 = g_mN g := hg.1 8 rfl
theorem ch_mim_mnp {g g2 : w_G} (hg : w_ch [11] [] g g2) : g_mnp g2 = g_mnp g := hg.1 9 rfl
theorem ch_mim_mnt {g g2 : w_G} (hg : w_ch [11] [] g g2) : g_mnt g2 = g_mnt g := hg.1 10 rfl
theorem ch_mim_L {g g2 : w_G} (hg : w_ch [11] [] g g2) : g_L g2 = g_L g := hg.1 12 rfl
theorem ch_mim_T {g g2 : w_G} (hg : w_ch [11] [] g g2) (j : Int) : g_T g2 j = g_T g j := by unfold g_T; rw [hg.2.1 0 rfl]
theorem ch_mim_PK {g g2 : w_G} (hg : w_ch [11] [] g g2) (j : Int) : g_PK g2 j = g_PK g j := by unfold g_PK; rw [hg.2.1 1 rfl]
theorem ch_mim_PN {g g2 : w_G} (hg : w_ch [11] [] g g2) (j : Int) : g_PN g2 j = g_PN g j := by unfold g_PN; rw [hg.2.1 2 rfl]
theorem ch_mim_mT {g g2 : w_G} (hg : w_ch [11] [] g g2) (j : Int) : g_mT g2 j = g_mT g j := by unfold g_mT; rw [hg.2.1 3 rfl]
theorem ch_mim_mPK {g g2 : w_G} (hg : w_ch [11] [] g g2) (j : Int) : g_mPK g2 j = g_mPK g j := by unfold g_mPK; rw [hg.2.1 4 rfl]
theorem ch_mim_mPN {g g2 : w_G} (hg : w_ch [11] [] g g2) (j : Int) : g_mPN g2 j = g_mPN g j := by unfold g_mPN; rw [hg.2.1 5 rfl]
theorem ch_mim_mCL {g g2 : w_G} (hg : w_ch [11] [] g g2) (j : Int) : g_mCL g2 j = g_mCL g j := by unfold g_mCL; rw [hg.2.1 6 rfl]
theorem ch_mim_rw {g g2 : w_G} (hg : w_ch [11] [] g g2) : g_rw g2 = g_rw g := by unfold g_rw; rw [hg.2.2]
theorem ch_mim_stp {g g2 : w_G} (hg : w_ch [11] [] g g2) : g_stp g2 = g_stp g := by unfold g_stp; rw [hg.2.2]
theorem ch_mim_ahd {g g2 : w_G} (hg : w_ch [11] [] g g2) : g_ahd g2 = g_ahd g := by unfold g_ahd; rw [hg.2.2]
theorem ch_mim_cst {g g2 : w_G} (hg : w_ch [11] [] g g2) : g_cst g2 = g_cst g := by unfold g_cst; rw [hg.2.2]
theorem ch_mim_chp {g g2 : w_G} (hg : w_ch [11] [] g g2) : g_chp g2 = g_chp g := by unfold g_chp; rw [hg.2.2]
theorem cg_mim_0 {g g2 : w_G} {o : w_O} {q : Nat} {e : m_E} (hg : w_ch [11] [] g g2) (h : c_0 g o q e) : c_0 g2 o q e := by
  unfold c_0 at h ⊢
  simp only [ch_mim_np hg, ch_mim_nt hg, ch_mim_hi hg]
  exact h
theorem cg_mim_1 {g g2 : w_G} {o : w_O} {q : Nat} {e : m_E} (hg : w_ch [11] [] g g2) (h : c_1 g o q e) : c_1 g2 o q e := by
  unfold c_1 at h ⊢
  simp only [ch_mim_H hg, ch_mim_C hg, ch_mim_N hg, ch_mim_nt hg]
  exact h
theorem cg_mim_2 {g g2 : w_G} {o : w_O} {q : Nat} {e : m_E} (hg : w_ch [11] [] g g2) (h : c_2 g o q e) : c_2 g2 o q e := by
  unfold c_2 at h ⊢
  simp only [ch_mim_T hg]
  exact h
theorem cg_mim_3 {g g2 : w_G} {o : w_O} {q : Nat} {e : m_E} (hg : w_ch [11] [] g g2) (h : c_3 g o q e) : c_3 g2 o q e := by
  unfold c_3 at h ⊢
  simp only [ch_mim_C hg]
  exact h
theorem cg_mim_5 {g g2 : w_G} {o : w_O} {q : Nat} {e : m_E} (hg : w_ch [11] [] g g2) (h : c_5 g o q e) : c_5 g2 o q e := by
  unfold c_5 at h ⊢
  simp only [ch_mim_nt hg]
  exact h
theorem cg_mim_7 {g g2 : w_G} {o : w_O} {q : Nat} {e : m_E} (hg : w_ch [11] [] g g2) (h : c_7 g o q e) : c_7 g2 o q e := by
  unfold c_7 at h ⊢
  simp only [ch_mim_C hg, ch_mim_hi hg]
  exact h
theorem cg_mim_9 {g g2 : w_G} {o : w_O} {q : Nat} {e : m_E} (hg : w_ch [11] [] g g2) (h : c_9 g o q e) : c_9 g2 o q e := by
  unfold c_9 at h ⊢
  simp only [ch_mim_N hg, ch_mim_L hg, ch_mim_rw hg, ch_mim_stp hg, ch_mim_ahd hg, ch_mim_cst hg, ch_mim_chp hg]
  exact h
theorem cg_mim_17 {g g2 : w_G} {o : w_O} {q : Nat} {e : m_E} (hg : w_ch [11] [] g g2) (h : c_17 g o q e) : c_17 g2 o q e := by
  unfold c_17 at h ⊢
  simp only [ch_mim_np hg]
  exact h
theorem cg_mim_23 {g g2 : w_G} {o : w_O} {q : Nat} {e : m_E} (hg : w_ch [11] [] g g2) (h : c_23 g o q e) : c_23 g2 o q e := by
  unfold c_23 at h ⊢
  simp only [ch_mim_nt hg]
  exact h
theorem cg_mim_32 {g g2 : w_G} {o : w_O} {q : Nat} {e : m_E} (hg : w_ch [11] [] g g2) (h : c_32 g o q e) : c_32 g2 o q e := by
  unfold c_32 at h ⊢
  simp only [ch_mim_mT hg]
  exact h
theorem cg_mim_33 {g g2 : w_G} {o : w_O} {q : Nat} {e : m_E} (hg : w_ch [11] [] g g2) (h : c_33 g o q e) : c_33 g2 o q e := by
  unfold c_33 at h ⊢
  simp only [ch_mim_mC hg]
  exact h
theorem cg_mim_35 {g g2 : w_G} {o : w_O} {q : Nat} {e : m_E} (hg : w_ch [11] [] g g2) (h : c_35 g o q e) : c_35 g2 o q e := by
  unfold c_35 at h ⊢
  simp only [ch_mim_mnp hg, ch_mim_mPK hg]
  exact h
theorem cg_mim_36 {g g2 : w_G} {o : w_O} {q : Nat} {e : m_E} (hg : w_ch [11] [] g g2) (h : c_36 g o q e) : c_36 g2 o q e := by
  unfold c_36 at h ⊢
  simp only [ch_mim_mnp hg, ch_mim_mPN hg]
  exact h
theorem cg_mim_51 {g g2 : w_G} {o : w_O} {q : Nat} {e : m_E} (hg : w_ch [11] [] g g2) (h : c_51 g o q e) : c_51 g2 o q e := by
  unfold c_51 at h ⊢
  simp only [ch_mim_mnt hg, ch_mim_mCL hg]
  exact h
theorem cg_mim_52 {g g2 : w_G} {o : w_O} {q : Nat} {e : m_E} (hg : w_ch [11] [] g g2) (h : c_52 g o q e) : c_52 g2 o q e := by
  unfold c_52 at h ⊢
  simp only [ch_mim_mnt hg, ch_mim_mCL hg]
  exact h
theorem cg_mim_120 {g g2 : w_G} {o : w_O} {q : Nat} {e : m_E} (hg : w_ch [11] [] g g2) (h : c_120 g o q e) : c_120 g2 o q e := by
  unfold c_120 at h ⊢
  simp only [ch_mim_np hg, ch_mim_PK hg, ch_mim_PN hg]
  exact h
/-- cells: [31, 61] -/
theorem ty_mim {g g2 : w_G} {o : w_O} {q : Nat} {e : m_E} (hg : w_ch [11] [] g g2) (h31 : (o q).1 ≠ 31) (h61 : (o q).1 ≠ 61) (h : w_ty g o q e) : w_ty g2 o q e := by
  unfold w_ty at h ⊢
  generalize ht : (o q).1 = t at h h31 h61 ⊢
  match t, h, h31, h61 with
  | 0, h, _, _ => exact cg_mim_0 hg h
  | 1, h, _, _ => exact cg_mim_1 hg h
  | 2, h, _, _ => exact cg_mim_2 hg h
  | 3, h, _, _ => exact cg_mim_3 hg h
  | 4, h, _, _ => exact h
  | 5, h, _, _ => exact cg_mim_5 hg h
  | 6, h, _, _ => exact h
  | 7, h, _, _ => exact cg_mim_7 hg h
  | 8, h, _, _ => exact h
  | 9, h, _, _ => exact cg_mim_9 hg h
  | 10, h, _, _ => exact h
  | 11, h, _, _ => exact h
  | 17, h, _, _ => exact cg_mim_17 hg h
  | 18, h, _, _ => exact h
  | 19, h, _, _ => exact h
  | 20, h, _, _ => exact h
  | 21, h, _, _ => exact h
  | 22, h, _, _ => exact h
  | 23, h, _, _ => exact cg_mim_23 hg h
  | 24, h, _, _ => exact h
  | 25, h, _, _ => exact h
  | 26, h, _, _ => exact h
  | 27, h, _, _ => exact h
  | 31, h, h31, _ => exact absurd rfl h31
  | 32, h, _, _ => exact cg_mim_32 hg h
  | 33, h, _, _ => exact cg_mim_33 hg h
  | 34, h, _, _ => exact h
  | 35, h, _, _ => exact cg_mim_35 hg h
  | 36, h, _, _ => exact cg_mim_36 hg h
  | 37, h, _, _ => exact h
  | 50, h, _, _ => exact h
  | 51, h, _, _ => exact cg_mim_51 hg h
  | 52, h, _, _ => exact cg_mim_52 hg h
  | 53, h, _, _ => exact h
  | 54, h, _, _ => exact h
  | 55, h, _, _ => exact h
  | 56, h, _, _ => exact h
  | 57, h, _, _ => exact h
  | 58, h, _, _ => exact h
  | 59, h, _, _ => exact h
  | 60, h, _, _ => exact h
  | 61, h, _, h61 => exact absurd rfl h61
  | 62, h, _, _ => exact h
  | 63, h, _, _ => exact h
  | 64, h, _, _ => exact h
  | 65, h, _, _ => exact h
  | 66, h, _, _ => exact h
  | 100, h, _, _ => exact h
  | 101, h, _, _ => exact h
  | 102, h, _, _ => exact h
  | 103, h, _, _ => exact h
  | 104, h, _, _ => exact h
  | 110, h, _, _ => exact h
  | 111, h, _, _ => exact h
  | 112, h, _, _ => exact h
  | 120, h, _, _ => exact cg_mim_120 hg h
  | 130, h, _, _ => exact h
  | 131, h, _, _ => exact h
  | 140, h, _, _ => exact h
theorem tg_un {g : w_G} {o : w_O} {h : m_H} (iv : w_Inv g o h) {q c : Nat} (hc : c < 67) (hq : (o q).1 = c) : q = c := by
  by_cases hl : q < 67
  · rw [iv.2.2.1 q hl] at hq
    have key : ∀ q, q < 67 → ∀ c, c < 67 → (o_0.getD q (0, 0)).1 = c → q = c := by decide +kernel
    exact key q hl c hc hq
  · have := iv.2.2.2.2.2.2.2.2.2.2.2.2.2.2.2.2.2.2 q (by omega)
    omega
theorem inv_tx {g g2 : w_G} {o : w_O} {h h2 : m_H} (iv : w_Inv g o h) (hg : w_ch [4] [] g g2) (hwf : w_wf g2) (hm : m_wf h2.2.2 h2.1) (h1 : h2.1 = h.1) (hold : ∀ q, q ≠ 0 → q ≠ 1 → q ≠ 5 → q ≠ 23 → m_at h2.2.2 q = m_at h.2.2 q) (k0 : ∃ e, m_at h2.2.2 0 = some e ∧ c_0 g2 o 0 e) (k1 : ∃ e, m_at h2.2.2 1 = some e ∧ c_1 g2 o 1 e) (k5 : ∃ e, m_at h2.2.2 5 = some e ∧ c_5 g2 o 5 e) (k23 : ∃ e, m_at h2.2.2 23 = some e ∧ c_23 g2 o 23 e) : w_Inv g2 o h2 := by
  have hun : ∀ q c, c < 67 → (o q).1 = c → q = c := fun q c hc hq => tg_un iv hc hq
  obtain ⟨i1, i2, i3, i4, i5, i6, i7⟩ := id iv
  refine ⟨hm, hwf, i3, fun q hq => i4 q (by omega), by omega, fun q e he => ?_, ?_⟩
  · by_cases q0 : q = 0
    · subst q0
      obtain ⟨e2, a1, a2⟩ := k0
      cases a1.symm.trans he
      unfold w_ty
      rw [ow_0 iv]
      exact a2
    by_cases q1 : q = 1
    · subst q1
      obtain ⟨e2, a1, a2⟩ := k1
      cases a1.symm.trans he
      unfold w_ty
      rw [ow_1 iv]
      exact a2
    by_cases q5 : q = 5
    · subst q5
      obtain ⟨e2, a1, a2⟩ := k5
      cases a1.symm.trans he
      unfold w_ty
      rw [ow_5 iv]
      exact a2
    by_cases q23 : q = 23
    · subst q23
      obtain ⟨e2, a1, a2⟩ := k23
      cases a1.symm.trans he
      unfold w_ty
      rw [ow_23 iv]
      exact a2
    rw [hold q q0 q1 q5 q23] at he
    exact ty_tx hg (fun z => q0 (hun q 0 (by decide) z)) (fun z => q1 (hun q 1 (by decide) z)) (fun z => q5 (hun q 5 (by decide) z)) (fun z => q23 (hun q 23 (by decide) z)) (i6 q e he)
  · unfold w_wo at i7 ⊢
    simp only [ch_tx_L hg, ch_tx_rw hg, ch_tx_stp hg, ch_tx_ahd hg, ch_tx_cst hg, ch_tx_chp hg]
    exact i7
theorem inv_bu {g g2 : w_G} {o : w_O} {h h2 : m_H} (iv : w_Inv g o h) (hg : w_ch [0, 1, 2, 5] [0] g g2) (hwf : w_wf g2) (hm : m_wf h2.2.2 h2.1) (h1 : h2.1 = h.1) (hold : ∀ q, q ≠ 0 → q ≠ 1 → q ≠ 2 → q ≠ 3 → q ≠ 7 → q ≠ 9 → m_at h2.2.2 q = m_at h.2.2 q) (k0 : ∃ e, m_at h2.2.2 0 = some e ∧ c_0 g2 o 0 e) (k1 : ∃ e, m_at h2.2.2 1 = some e ∧ c_1 g2 o 1 e) (k2 : ∃ e, m_at h2.2.2 2 = some e ∧ c_2 g2 o 2 e) (k3 : ∃ e, m_at h2.2.2 3 = some e ∧ c_3 g2 o 3 e) (k7 : ∃ e, m_at h2.2.2 7 = some e ∧ c_7 g2 o 7 e) (k9 : ∃ e, m_at h2.2.2 9 = some e ∧ c_9 g2 o 9 e) : w_Inv g2 o h2 := by
  have hun : ∀ q c, c < 67 → (o q).1 = c → q = c := fun q c hc hq => tg_un iv hc hq
  obtain ⟨i1, i2, i3, i4, i5, i6, i7⟩ := id iv
  refine ⟨hm, hwf, i3, fun q hq => i4 q (by omega), by omega, fun q e he => ?_, ?_⟩
  · by_cases q0 : q = 0
    · subst q0
      obtain ⟨e2, a1, a2⟩ := k0
      cases a1.symm.trans he
      unfold w_ty
      rw [ow_0 iv]
      exact a2
    by_cases q1 : q = 1
    · subst q1
      obtain ⟨e2, a1, a2⟩ := k1
      cases a1.symm.trans he
      unfold w_ty
      rw [ow_1 iv]
      exact a2
    by_cases q2 : q = 2
    · subst q2
      obtain ⟨e2, a1, a2⟩ := k2
      cases a1.symm.trans he
      unfold w_ty
      rw [ow_2 iv]
      exact a2
    by_cases q3 : q = 3
    · subst q3
      obtain ⟨e2, a1, a2⟩ := k3
      cases a1.symm.trans he
      unfold w_ty
      rw [ow_3 iv]
      exact a2
    by_cases q7 : q = 7
    · subst q7
      obtain ⟨e2, a1, a2⟩ := k7
      cases a1.symm.trans he
      unfold w_ty
      rw [ow_7 iv]
      exact a2
    by_cases q9 : q = 9
    · subst q9
      obtain ⟨e2, a1, a2⟩ := k9
      cases a1.symm.trans he
      unfold w_ty
      rw [ow_9 iv]
      exact a2
    rw [hold q q0 q1 q2 q3 q7 q9] at he
    exact ty_bu hg (fun z => q0 (hun q 0 (by decide) z)) (fun z => q1 (hun q 1 (by decide) z)) (fun z => q2 (hun q 2 (by decide) z)) (fun z => q3 (hun q 3 (by decide) z)) (fun z => q7 (hun q 7 (by decide) z)) (fun z => q9 (hun q 9 (by decide) z)) (i6 q e he)
  · unfold w_wo at i7 ⊢
    simp only [ch_bu_L hg, ch_bu_rw hg, ch_bu_stp hg, ch_bu_ahd hg, ch_bu_cst hg, ch_bu_chp hg]
    exact i7
theorem inv_to {g g2 : w_G} {o : w_O} {h h2 : m_H} (iv : w_Inv g o h) (hg : w_ch [] [0] g g2) (hwf : w_wf g2) (hm : m_wf h2.2.2 h2.1) (h1 : h2.1 = h.1) (hold : ∀ q, q ≠ 2 → m_at h2.2.2 q = m_at h.2.2 q) (k2 : ∃ e, m_at h2.2.2 2 = some e ∧ c_2 g2 o 2 e) : w_Inv g2 o h2 := by
  have hun : ∀ q c, c < 67 → (o q).1 = c → q = c := fun q c hc hq => tg_un iv hc hq
  obtain ⟨i1, i2, i3, i4, i5, i6, i7⟩ := id iv
  refine ⟨hm, hwf, i3, fun q hq => i4 q (by omega), by omega, fun q e he => ?_, ?_⟩
  · by_cases q2 : q = 2
    · subst q2
      obtain ⟨e2, a1, a2⟩ := k2
      cases a1.symm.trans he
      unfold w_ty
      rw [ow_2 iv]
      exact a2
    rw [hold q q2] at he
    exact ty_to hg (fun z => q2 (hun q 2 (by decide) z)) (i6 q e he)
  · unfold w_wo at i7 ⊢
    simp only [ch_to_L hg, ch_to_rw hg, ch_to_stp hg, ch_to_ahd hg, ch_to_cst hg, ch_to_chp hg]
    exact i7
theorem inv_im {g g2 : w_G} {o : w_O} {h h2 : m_H} (iv : w_Inv g o h) (hg : w_ch [5] [] g g2) (hwf : w_wf g2) (hm : m_wf h2.2.2 h2.1) (h1 : h2.1 = h.1) (hold : ∀ q, q ≠ 0 → q ≠ 7 → m_at h2.2.2 q = m_at h.2.2 q) (k0 : ∃ e, m_at h2.2.2 0 = some e ∧ c_0 g2 o 0 e) (k7 : ∃ e, m_at h2.2.2 7 = some e ∧ c_7 g2 o 7 e) : w_Inv g2 o h2 := by
  have hun : ∀ q c, c < 67 → (o q).1 = c → q = c := fun q c hc hq => tg_un iv hc hq
  obtain ⟨i1, i2, i3, i4, i5, i6, i7⟩ := id iv
  refine ⟨hm, hwf, i3, fun q hq => i4 q (by omega), by omega, fun q e he => ?_, ?_⟩
  · by_cases q0 : q = 0
    · subst q0
      obtain ⟨e2, a1, a2⟩ := k0
      cases a1.symm.trans he
      unfold w_ty
      rw [ow_0 iv]
      exact a2
    by_cases q7 : q = 7
    · subst q7
      obtain ⟨e2, a1, a2⟩ := k7
      cases a1.symm.trans he
      unfold w_ty
      rw [ow_7 iv]
      exact a2
    rw [hold q q0 q7] at he
    exact ty_im hg (fun z => q0 (hun q 0 (by decide) z)) (fun z => q7 (hun q 7 (by decide) z)) (i6 q e he)
  · unfold w_wo at i7 ⊢
    simp only [ch_im_L hg, ch_im_rw hg, ch_im_stp hg, ch_im_ahd hg, ch_im_cst hg, ch_im_chp hg]
    exact i7
theorem inv_mpa {g g2 : w_G} {o : w_O} {h h2 : m_H} (iv : w_Inv g o h) (hg : w_ch [9] [4, 5] g g2) (hwf : w_wf g2) (hm : m_wf h2.2.2 h2.1) (h1 : h2.1 = h.1) (hold : ∀ q, q ≠ 31 → q ≠ 35 → q ≠ 36 → m_at h2.2.2 q = m_at h.2.2 q) (k31 : ∃ e, m_at h2.2.2 31 = some e ∧ c_31 g2 o 31 e) (k35 : ∃ e, m_at h2.2.2 35 = some e ∧ c_35 g2 o 35 e) (k36 : ∃ e, m_at h2.2.2 36 = some e ∧ c_36 g2 o 36 e) : w_Inv g2 o h2 := by
  have hun : ∀ q c, c < 67 → (o q).1 = c → q = c := fun q c hc hq => tg_un iv hc hq
  obtain ⟨i1, i2, i3, i4, i5, i6, i7⟩ := id iv
  refine ⟨hm, hwf, i3, fun q hq => i4 q (by omega), by omega, fun q e he => ?_, ?_⟩
  · by_cases q31 : q = 31
    · subst q31
      obtain ⟨e2, a1, a2⟩ := k31
      cases a1.symm.trans he
      unfold w_ty
      rw [ow_31 iv]
      exact a2
    by_cases q35 : q = 35
    · subst q35
      obtain ⟨e2, a1, a2⟩ := k35
      cases a1.symm.trans he
      unfold w_ty
      rw [ow_35 iv]
      exact a2
    by_cases q36 : q = 36
    · subst q36
      obtain ⟨e2, a1, a2⟩ := k36
      cases a1.symm.trans he
      unfold w_ty
      rw [ow_36 iv]
      exact a2
    rw [hold q q31 q35 q36] at he
    exact ty_mpa hg (fun z => q31 (hun q 31 (by decide) z)) (fun z => q35 (hun q 35 (by decide) z)) (fun z => q36 (hun q 36 (by decide) z)) (i6 q e he)
  · unfold w_wo at i7 ⊢
    simp only [ch_mpa_L hg, ch_mpa_rw hg, ch_mpa_stp hg, ch_mpa_ahd hg, ch_mpa_cst hg, ch_mpa_chp hg]
    exact i7
theorem inv_mtx {g g2 : w_G} {o : w_O} {h h2 : m_H} (iv : w_Inv g o h) (hg : w_ch [10] [6] g g2) (hwf : w_wf g2) (hm : m_wf h2.2.2 h2.1) (h1 : h2.1 = h.1) (hold : ∀ q, q ≠ 31 → q ≠ 51 → q ≠ 52 → m_at h2.2.2 q = m_at h.2.2 q) (k31 : ∃ e, m_at h2.2.2 31 = some e ∧ c_31 g2 o 31 e) (k51 : ∃ e, m_at h2.2.2 51 = some e ∧ c_51 g2 o 51 e) (k52 : ∃ e, m_at h2.2.2 52 = some e ∧ c_52 g2 o 52 e) : w_Inv g2 o h2 := by
  have hun : ∀ q c, c < 67 → (o q).1 = c → q = c := fun q c hc hq => tg_un iv hc hq
  obtain ⟨i1, i2, i3, i4, i5, i6, i7⟩ := id iv
  refine ⟨hm, hwf, i3, fun q hq => i4 q (by omega), by omega, fun q e he => ?_, ?_⟩
  · by_cases q31 : q = 31
    · subst q31
      obtain ⟨e2, a1, a2⟩ := k31
      cases a1.symm.trans he
      unfold w_ty
      rw [ow_31 iv]
      exact a2
    by_cases q51 : q = 51
    · subst q51
      obtain ⟨e2, a1, a2⟩ := k51
      cases a1.symm.trans he
      unfold w_ty
      rw [ow_51 iv]
      exact a2
    by_cases q52 : q = 52
    · subst q52
      obtain ⟨e2, a1, a2⟩ := k52
      cases a1.symm.trans he
      unfold w_ty
      rw [ow_52 iv]
      exact a2
    rw [hold q q31 q51 q52] at he
    exact ty_mtx hg (fun z => q31 (hun q 31 (by decide) z)) (fun z => q51 (hun q 51 (by decide) z)) (fun z => q52 (hun q 52 (by decide) z)) (i6 q e he)
  · unfold w_wo at i7 ⊢
    simp only [ch_mtx_L hg, ch_mtx_rw hg, ch_mtx_stp hg, ch_mtx_ahd hg, ch_mtx_cst hg, ch_mtx_chp hg]
    exact i7
theorem inv_mbu {g g2 : w_G} {o : w_O} {h h2 : m_H} (iv : w_Inv g o h) (hg : w_ch [6, 7, 8, 11] [3] g g2) (hwf : w_wf g2) (hm : m_wf h2.2.2 h2.1) (h1 : h2.1 = h.1) (hold : ∀ q, q ≠ 31 → q ≠ 32 → q ≠ 33 → q ≠ 61 → m_at h2.2.2 q = m_at h.2.2 q) (k31 : ∃ e, m_at h2.2.2 31 = some e ∧ c_31 g2 o 31 e) (k32 : ∃ e, m_at h2.2.2 32 = some e ∧ c_32 g2 o 32 e) (k33 : ∃ e, m_at h2.2.2 33 = some e ∧ c_33 g2 o 33 e) (k61 : ∃ e, m_at h2.2.2 61 = some e ∧ c_61 g2 o 61 e) : w_Inv g2 o h2 := by
  have hun : ∀ q c, c < 67 → (o q).1 = c → q = c := fun q c hc hq => tg_un iv hc hq
  obtain ⟨i1, i2, i3, i4, i5, i6, i7⟩ := id iv
  refine ⟨hm, hwf, i3, fun q hq => i4 q (by omega), by omega, fun q e he => ?_, ?_⟩
  · by_cases q31 : q = 31
    · subst q31
      obtain ⟨e2, a1, a2⟩ := k31
      cases a1.symm.trans he
      unfold w_ty
      rw [ow_31 iv]
      exact a2
    by_cases q32 : q = 32
    · subst q32
      obtain ⟨e2, a1, a2⟩ := k32
      cases a1.symm.trans he
      unfold w_ty
      rw [ow_32 iv]
      exact a2
    by_cases q33 : q = 33
    · subst q33
      obtain ⟨e2, a1, a2⟩ := k33
      cases a1.symm.trans he
      unfold w_ty
      rw [ow_33 iv]
      exact a2
    by_cases q61 : q = 61
    · subst q61
      obtain ⟨e2, a1, a2⟩ := k61
      cases a1.symm.trans he
      unfold w_ty
      rw [ow_61 iv]
      exact a2
    rw [hold q q31 q32 q33 q61] at he
    exact ty_mbu hg (fun z => q31 (hun q 31 (by decide) z)) (fun z => q32 (hun q 32 (by decide) z)) (fun z => q33 (hun q 33 (by decide) z)) (fun z => q61 (hun q 61 (by decide) z)) (i6 q e he)
  · unfold w_wo at i7 ⊢
    simp only [ch_mbu_L hg, ch_mbu_rw hg, ch_mbu_stp hg, ch_mbu_ahd hg, ch_mbu_cst hg, ch_mbu_chp hg]
    exact i7
theorem inv_mto {g g2 : w_G} {o : w_O} {h h2 : m_H} (iv : w_Inv g o h) (hg : w_ch [] [3] g g2) (hwf : w_wf g2) (hm : m_wf h2.2.2 h2.1) (h1 : h2.1 = h.1) (hold : ∀ q, q ≠ 32 → m_at h2.2.2 q = m_at h.2.2 q) (k32 : ∃ e, m_at h2.2.2 32 = some e ∧ c_32 g2 o 32 e) : w_Inv g2 o h2 := by
  have hun : ∀ q c, c < 67 → (o q).1 = c → q = c := fun q c hc hq => tg_un iv hc hq
  obtain ⟨i1, i2, i3, i4, i5, i6, i7⟩ := id iv
  refine ⟨hm, hwf, i3, fun q hq => i4 q (by omega), by omega, fun q e he => ?_, ?_⟩
  · by_cases q32 : q = 32
    · subst q32
      obtain ⟨e2, a1, a2⟩ := k32
      cases a1.symm.trans he
      unfold w_ty
      rw [ow_32 iv]
      exact a2
    rw [hold q q32] at he
    exact ty_mto hg (fun z => q32 (hun q 32 (by decide) z)) (i6 q e he)
  · unfold w_wo at i7 ⊢
    simp only [ch_mto_L hg, ch_mto_rw hg, ch_mto_stp hg, ch_mto_ahd hg, ch_mto_cst hg, ch_mto_chp hg]
    exact i7
theorem inv_mim {g g2 : w_G} {o : w_O} {h h2 : m_H} (iv : w_Inv g o h) (hg : w_ch [11] [] g g2) (hwf : w_wf g2) (hm : m_wf h2.2.2 h2.1) (h1 : h2.1 = h.1) (hold : ∀ q, q ≠ 31 → q ≠ 61 → m_at h2.2.2 q = m_at h.2.2 q) (k31 : ∃ e, m_at h2.2.2 31 = some e ∧ c_31 g2 o 31 e) (k61 : ∃ e, m_at h2.2.2 61 = some e ∧ c_61 g2 o 61 e) : w_Inv g2 o h2 := by
  have hun : ∀ q c, c < 67 → (o q).1 = c → q = c := fun q c hc hq => tg_un iv hc hq
  obtain ⟨i1, i2, i3, i4, i5, i6, i7⟩ := id iv
  refine ⟨hm, hwf, i3, fun q hq => i4 q (by omega), by omega, fun q e he => ?_, ?_⟩
  · by_cases q31 : q = 31
    · subst q31
      obtain ⟨e2, a1, a2⟩ := k31
      cases a1.symm.trans he
      unfold w_ty
      rw [ow_31 iv]
      exact a2
    by_cases q61 : q = 61
    · subst q61
      obtain ⟨e2, a1, a2⟩ := k61
      cases a1.symm.trans he
      unfold w_ty
      rw [ow_61 iv]
      exact a2
    rw [hold q q31 q61] at he
    exact ty_mim hg (fun z => q31 (hun q 31 (by decide) z)) (fun z => q61 (hun q 61 (by decide) z)) (i6 q e he)
  · unfold w_wo at i7 ⊢
    simp only [ch_mim_L hg, ch_mim_rw hg, ch_mim_stp hg, ch_mim_ahd hg, ch_mim_cst hg, ch_mim_chp hg]
    exact i7
