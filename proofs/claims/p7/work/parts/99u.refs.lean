/-! THE REFERENCE'S CALLS that change a ghost -/
theorem wf_g {g : w_G} {o : w_O} {h : m_H} (iv : w_Inv g o h) : w_wf g := iv.2.1
/-- a text more -/
def g_mtx (g : w_G) (B : Nat) : w_G := (fun k => if k = 10 then g_mnt g + 1 else g.1 k, fun k => if k = 6 then (fun j => if j < 3 * g_mnt g then g_mCL g j else a_g B j) else g.2.1 k, g.2.2)
theorem ifb_f {α : Type} {k n : Nat} {x y : α} {l : List Nat} (h : l.contains k = false) (hn : l.contains n = true) : (if k = n then x else y) = y := if_neg (fun e => by rw [e, hn] at h; cases h)
theorem ch_gmtx {g : w_G} {B : Nat} : w_ch [10] [6] g (g_mtx g B) := ⟨fun _ hk => ifb_f hk rfl, fun _ hk => ifb_f hk rfl, rfl⟩
theorem wf_gmtx {g : w_G} {B : Nat} (hw : w_wf g) (h5 : g_mnt g ≤ 5) : w_wf (g_mtx g B) := by
  have e1 : g_mnt (g_mtx g B) = g_mnt g + 1 := rfl
  unfold w_wf at hw ⊢
  simp only [e1, ch_mtx_H ch_gmtx, ch_mtx_C ch_gmtx, ch_mtx_N ch_gmtx, ch_mtx_np ch_gmtx, ch_mtx_nt ch_gmtx, ch_mtx_hi ch_gmtx, ch_mtx_mH ch_gmtx, ch_mtx_mC ch_gmtx, ch_mtx_mN ch_gmtx, ch_mtx_mnp ch_gmtx, ch_mtx_mhi ch_gmtx, ch_mtx_T ch_gmtx, ch_mtx_mT ch_gmtx, ch_mtx_mPK ch_gmtx, ch_mtx_mPN ch_gmtx]
  obtain ⟨a1, a2, a3, a4, a5, a6, a7, a8, a9, a10, a11, a12, a13, a14, a15, a16, a17, a18, a19, a20, a21, a22, a23, a24, a25, a26⟩ := hw
  exact ⟨a1, a2, a3, a4, a5, a6, a7, a8, a9, a10, a11, a12, a13, a14, a15, a16, a17, a18, a19, a20, a21, a22, a23, by omega, by omega, a26⟩
theorem mtx_fin {g : w_G} {o : w_O} {h h2 : m_H} {A B : Nat} {e : m_E} (iv : w_Inv g o h) (h5 : g_mnt g ≤ 5) (p51 : m_at h.2.2 51 = some (.inl (false, 3060, A))) (p52 : m_at h.2.2 52 = some (.inl (false, 18, B))) (hr : ∀ i : Int, 3 * g_mnt g ≤ i → i < 3 * g_mnt g + 3 → w_rp A i (a_g B i)) (hs : h_st h 31 e h2) (he : c_31 (g_mtx g B) o 31 e) : w_Inv (g_mtx g B) o h2 := by
  have W := iv_wm iv
  have q51 := hs.2.2.2.1 51 (by decide)
  have q52 := hs.2.2.2.1 52 (by decide)
  have hM := iv_51h iv p51
  have hB := iv_52h iv p52
  have e1 : g_mnt (g_mtx g B) = g_mnt g + 1 := rfl
  have eC : ∀ j, g_mCL (g_mtx g B) j = if j < 3 * g_mnt g then g_mCL g j else a_g B j := fun _ => rfl
  refine inv_mtx iv ch_gmtx (wf_gmtx iv.2.1 h5) (hs.2.2.2.2 iv.1) hs.1 (fun q h31 _ _ => hs.2.2.2.1 q h31) ⟨e, hs.2.2.1, he⟩ ⟨_, q51.trans p51, A, rfl, fun i i0 i1 => ?_⟩ ⟨_, q52.trans p52, B, rfl, fun j j0 j1 => ⟨(hB j j0 j1).1, (hB j j0 j1).2.1, fun hj => ?_⟩⟩
  · rw [eC]
    by_cases hi : i < 3 * g_mnt g
    · rw [if_pos hi]; exact hM i i0 hi
    · rw [if_neg hi]; exact hr i (by omega) (by omega)
  · rw [eC]
    by_cases hi : j < 3 * g_mnt g
    · rw [if_pos hi]; exact (hB j j0 j1).2.2 hi
    · rw [if_neg hi]
/-- a painter more -/
def g_mpa (g : w_G) (A B : Nat) : w_G := (fun k => if k = 9 then g_mnp g + 1 else g.1 k, fun k => if k = 4 then a_g A else if k = 5 then a_g B else g.2.1 k, g.2.2)
theorem ch_gmpa {g : w_G} {A B : Nat} : w_ch [9] [4, 5] g (g_mpa g A B) := ⟨fun _ hk => ifb_f hk rfl, fun _ hk => (ifb_f hk rfl).trans (ifb_f hk rfl), rfl⟩
theorem mpa_fin {g : w_G} {o : w_O} {h h2 : m_H} {A B : Nat} {e : m_E} (iv : w_Inv g o h) (h5 : g_mnp g ≤ 4) (p35 : m_at h.2.2 35 = some (.inl (false, 5, A))) (p36 : m_at h.2.2 36 = some (.inl (false, 5, B))) (hA : 0 ≤ a_g A (g_mnp g) ∧ a_g A (g_mnp g) ≤ 5) (hB : 0 ≤ a_g B (g_mnp g) ∧ a_g B (g_mnp g) ≤ 9) (hs : h_st h 31 e h2) (he : c_31 (g_mpa g A B) o 31 e) : w_Inv (g_mpa g A B) o h2 := by
  have W := iv_wm iv
  have q35 := hs.2.2.2.1 35 (by decide)
  have q36 := hs.2.2.2.1 36 (by decide)
  have e1 : g_mnp (g_mpa g A B) = g_mnp g + 1 := rfl
  have eK : ∀ j, g_mPK (g_mpa g A B) j = a_g A j := fun _ => rfl
  have eN : ∀ j, g_mPN (g_mpa g A B) j = a_g B j := fun _ => rfl
  have hA2 : ∀ j : Int, 0 ≤ j → j < 5 → j < g_mnp g → a_g A j = g_mPK g j := by
    obtain ⟨_, z, A', rfl, hz⟩ := iv_35 iv
    cases p35.symm.trans z
    exact hz
  have hB2 : ∀ j : Int, 0 ≤ j → j < 5 → j < g_mnp g → a_g B j = g_mPN g j := by
    obtain ⟨_, z, A', rfl, hz⟩ := iv_36 iv
    cases p36.symm.trans z
    exact hz
  have hP := iv_mP iv
  refine inv_mpa iv ch_gmpa ?_ (hs.2.2.2.2 iv.1) hs.1 (fun q h31 _ _ => hs.2.2.2.1 q h31) ⟨e, hs.2.2.1, he⟩ ⟨_, q35.trans p35, A, rfl, fun j j0 j1 _ => rfl⟩ ⟨_, q36.trans p36, B, rfl, fun j j0 j1 _ => rfl⟩
  have hw := iv.2.1
  unfold w_wf at hw ⊢
  simp only [e1, eK, eN, ch_mpa_H ch_gmpa, ch_mpa_C ch_gmpa, ch_mpa_N ch_gmpa, ch_mpa_np ch_gmpa, ch_mpa_nt ch_gmpa, ch_mpa_hi ch_gmpa, ch_mpa_mH ch_gmpa, ch_mpa_mC ch_gmpa, ch_mpa_mN ch_gmpa, ch_mpa_mnt ch_gmpa, ch_mpa_mhi ch_gmpa, ch_mpa_T ch_gmpa, ch_mpa_mT ch_gmpa]
  obtain ⟨a1, a2, a3, a4, a5, a6, a7, a8, a9, a10, a11, a12, a13, a14, a15, a16, a17, a18, a19, a20, a21, a22, a23, a24, a25, a26, a27, a28, a29⟩ := hw
  refine ⟨a1, a2, a3, a4, a5, a6, a7, a8, a9, a10, a11, a12, a13, a14, a15, a16, a17, a18, a19, a20, a21, by omega, by omega, a24, a25, a26, a27, a28, fun j j0 j1 => ?_⟩
  by_cases hj : j = g_mnp g
  · subst hj; exact ⟨hA.1, hA.2, hB.1, hB.2⟩
  · have := hP j j0 (by omega)
    rw [hA2 j j0 (by omega) (by omega), hB2 j j0 (by omega) (by omega)]
    exact this
/-- who touches is changed -/
def g_mto (g : w_G) (A : Nat) : w_G := (g.1, fun k => if k = 3 then a_g A else g.2.1 k, g.2.2)
theorem ch_gmto {g : w_G} {A : Nat} : w_ch [] [3] g (g_mto g A) := ⟨fun _ _ => rfl, fun _ hk => ifb_f hk rfl, rfl⟩
theorem mto_fin {g : w_G} {o : w_O} {h h2 : m_H} {A : Nat} (iv : w_Inv g o h) (hm : m_wf h2.2.2 h2.1) (h1 : h2.1 = h.1) (hold : ∀ q, q ≠ 32 → m_at h2.2.2 q = m_at h.2.2 q) (p32 : m_at h2.2.2 32 = some (.inl (false, 6, A))) (hA : ∀ j : Int, 0 ≤ j → j < 6 → 0 ≤ a_g A j ∧ a_g A j ≤ 63) : w_Inv (g_mto g A) o h2 := by
  have eT : ∀ j, g_mT (g_mto g A) j = a_g A j := fun _ => rfl
  refine inv_mto iv ch_gmto ?_ hm h1 hold ⟨_, p32, A, rfl, fun j j0 j1 => rfl⟩
  have hw := iv.2.1
  unfold w_wf at hw ⊢
  simp only [eT, ch_mto_H ch_gmto, ch_mto_C ch_gmto, ch_mto_N ch_gmto, ch_mto_np ch_gmto, ch_mto_nt ch_gmto, ch_mto_hi ch_gmto, ch_mto_mH ch_gmto, ch_mto_mC ch_gmto, ch_mto_mN ch_gmto, ch_mto_mnp ch_gmto, ch_mto_mnt ch_gmto, ch_mto_mhi ch_gmto, ch_mto_T ch_gmto, ch_mto_mPK ch_gmto, ch_mto_mPN ch_gmto]
  obtain ⟨a1, a2, a3, a4, a5, a6, a7, a8, a9, a10, a11, a12, a13, a14, a15, a16, a17, a18, a19, a20, a21, a22, a23, a24, a25, a26, a27, a28, a29⟩ := hw
  exact ⟨a1, a2, a3, a4, a5, a6, a7, a8, a9, a10, a11, a12, a13, a14, a15, a16, a17, a18, a19, a20, a21, a22, a23, a24, a25, a26, a27, hA, a29⟩
/-- an image is kept -/
def g_mim (g : w_G) : w_G := (fun k => if k = 11 then 1 else g.1 k, g.2)
theorem ch_gmim {g : w_G} : w_ch [11] [] g (g_mim g) := ⟨fun _ hk => ifb_f hk rfl, fun _ _ => rfl, rfl⟩
theorem mim_fin {g : w_G} {o : w_O} {h h2 : m_H} {A : Nat} {e : m_E} (iv : w_Inv g o h) (hm : m_wf h2.2.2 h2.1) (h1 : h2.1 = h.1) (hold : ∀ q, q ≠ 31 → q ≠ 61 → q ≠ 62 → m_at h2.2.2 q = m_at h.2.2 q) (p31 : m_at h2.2.2 31 = some e) (he : c_31 (g_mim g) o 31 e) (p61 : m_at h2.2.2 61 = some (.inl (false, 6, A))) (hA : ∀ j : Int, 0 ≤ j → j < 6 → 0 ≤ a_g A j ∧ a_g A j < g_mC g) (p62 : ∃ B : Nat, m_at h2.2.2 62 = some (.inl (false, 6, B))) : w_Inv (g_mim g) o h2 := by
  have hun : ∀ q c, c < 67 → (o q).1 = c → q = c := fun q c hc hq => tg_un iv hc hq
  have hw := iv.2.1
  obtain ⟨i1, i2, i3, i4, i5, i6, i7⟩ := id iv
  have e1 : g_mhi (g_mim g) = 1 := rfl
  refine ⟨hm, ?_, i3, fun q hq => i4 q (by omega), by omega, fun q e2 he2 => ?_, ?_⟩
  · unfold w_wf at hw ⊢
    simp only [e1, ch_mim_H ch_gmim, ch_mim_C ch_gmim, ch_mim_N ch_gmim, ch_mim_np ch_gmim, ch_mim_nt ch_gmim, ch_mim_hi ch_gmim, ch_mim_mH ch_gmim, ch_mim_mC ch_gmim, ch_mim_mN ch_gmim, ch_mim_mnp ch_gmim, ch_mim_mnt ch_gmim, ch_mim_T ch_gmim, ch_mim_mT ch_gmim, ch_mim_mPK ch_gmim, ch_mim_mPN ch_gmim]
    obtain ⟨a1, a2, a3, a4, a5, a6, a7, a8, a9, a10, a11, a12, a13, a14, a15, a16, a17, a18, a19, a20, a21, a22, a23, a24, a25, a26, a27, a28, a29⟩ := hw
    exact ⟨a1, a2, a3, a4, a5, a6, a7, a8, a9, a10, a11, a12, a13, a14, a15, a16, a17, a18, a19, a20, a21, a22, a23, a24, a25, by omega, by omega, a28, a29⟩
  · by_cases q31 : q = 31
    · subst q31
      cases p31.symm.trans he2
      unfold w_ty
      rw [ow_31 iv]
      exact he
    by_cases q61 : q = 61
    · subst q61
      cases p61.symm.trans he2
      unfold w_ty
      rw [ow_61 iv]
      exact ⟨A, rfl, fun j j0 j1 _ => hA j j0 j1⟩
    by_cases q62 : q = 62
    · subst q62
      obtain ⟨B, pB⟩ := p62
      cases pB.symm.trans he2
      unfold w_ty
      rw [ow_62 iv]
      exact ⟨B, rfl⟩
    rw [hold q q31 q61 q62] at he2
    exact ty_mim ch_gmim (fun z => q31 (hun q 31 (by decide) z)) (fun z => q61 (hun q 61 (by decide) z)) (i6 q e2 he2)
  · unfold w_wo at i7 ⊢
    simp only [ch_mim_L ch_gmim, ch_mim_rw ch_gmim, ch_mim_stp ch_gmim, ch_mim_ahd ch_gmim, ch_mim_cst ch_gmim, ch_mim_chp ch_gmim]
    exact i7
/-- another town -/
def g_mbu (g : w_G) (hh c : Int) (A : Nat) : w_G := (fun k => if k = 6 then hh else if k = 7 then c else if k = 8 then w_pw c hh else if k = 11 then 0 else g.1 k, fun k => if k = 3 then a_g A else g.2.1 k, g.2.2)
theorem ch_gmbu {g : w_G} {hh c : Int} {A : Nat} : w_ch [6, 7, 8, 11] [3] g (g_mbu g hh c A) := ⟨fun _ hk => (ifb_f hk rfl).trans ((ifb_f hk rfl).trans ((ifb_f hk rfl).trans (ifb_f hk rfl))), fun _ hk => ifb_f hk rfl, rfl⟩
theorem pw_ge2 {c n : Int} (hc : 2 ≤ c) (hn : 1 ≤ n) : 2 ≤ w_pw c n := by
  have h1 := pw_le (c := c) (m := 1) (n := n) (by omega) (by omega) hn
  have h2 : w_pw c 1 = c := by
    have := pw_s (c := c) (n := 0) (by omega)
    rw [pw_00, Int.one_mul] at this
    exact this
  omega
theorem mbu_fin {g : w_G} {o : w_O} {h h2 : m_H} {hh c : Int} {A C : Nat} {e : m_E} (iv : w_Inv g o h) (h0 : 1 ≤ hh) (h1 : hh ≤ 6) (c0 : 2 ≤ c) (c1 : c ≤ 5) (hN : w_pw c hh ≤ 4096) (hm : m_wf h2.2.2 h2.1) (hh1 : h2.1 = h.1) (hold : ∀ q, q ≠ 31 → q ≠ 32 → q ≠ 33 → q ≠ 34 → m_at h2.2.2 q = m_at h.2.2 q) (p31 : m_at h2.2.2 31 = some e) (he : c_31 (g_mbu g hh c A) o 31 e) (p32 : m_at h2.2.2 32 = some (.inl (false, 6, A))) (hA : ∀ j : Int, 0 ≤ j → j < 6 → 0 ≤ a_g A j ∧ a_g A j ≤ 63) (p33 : m_at h2.2.2 33 = some (.inl (false, 6, C))) (hC : ∀ j : Int, 0 ≤ j → j < 6 → 0 ≤ a_g C j ∧ a_g C j < c) (p34 : ∃ B : Nat, m_at h2.2.2 34 = some (.inl (false, 6, B))) : w_Inv (g_mbu g hh c A) o h2 := by
  have hun : ∀ q c, c < 67 → (o q).1 = c → q = c := fun q c hc hq => tg_un iv hc hq
  have hw := iv.2.1
  obtain ⟨i1, i2, i3, i4, i5, i6, i7⟩ := id iv
  have e1 : g_mH (g_mbu g hh c A) = hh := rfl
  have e2 : g_mC (g_mbu g hh c A) = c := rfl
  have e3 : g_mN (g_mbu g hh c A) = w_pw c hh := rfl
  have e4 : g_mhi (g_mbu g hh c A) = 0 := rfl
  have eT : ∀ j, g_mT (g_mbu g hh c A) j = a_g A j := fun _ => rfl
  have hN2 := pw_ge2 c0 h0
  refine ⟨hm, ?_, i3, fun q hq => i4 q (by omega), by omega, fun q x hx => ?_, ?_⟩
  · unfold w_wf at hw ⊢
    simp only [e1, e2, e3, e4, eT, ch_mbu_H ch_gmbu, ch_mbu_C ch_gmbu, ch_mbu_N ch_gmbu, ch_mbu_np ch_gmbu, ch_mbu_nt ch_gmbu, ch_mbu_hi ch_gmbu, ch_mbu_mnp ch_gmbu, ch_mbu_mnt ch_gmbu, ch_mbu_T ch_gmbu, ch_mbu_mPK ch_gmbu, ch_mbu_mPN ch_gmbu]
    obtain ⟨a1, a2, a3, a4, a5, a6, a7, a8, a9, a10, a11, a12, a13, a14, a15, a16, a17, a18, a19, a20, a21, a22, a23, a24, a25, a26, a27, a28, a29⟩ := hw
    exact ⟨a1, a2, a3, a4, a5, a6, a7, a8, a9, a10, a11, a12, a13, a14, h0, h1, c0, c1, trivial, hN2, hN, a22, a23, a24, a25, by omega, by omega, hA, a29⟩
  · by_cases q31 : q = 31
    · subst q31
      cases p31.symm.trans hx
      unfold w_ty
      rw [ow_31 iv]
      exact he
    by_cases q32 : q = 32
    · subst q32
      cases p32.symm.trans hx
      unfold w_ty
      rw [ow_32 iv]
      exact ⟨A, rfl, fun j j0 j1 => rfl⟩
    by_cases q33 : q = 33
    · subst q33
      cases p33.symm.trans hx
      unfold w_ty
      rw [ow_33 iv]
      exact ⟨C, rfl, hC⟩
    by_cases q34 : q = 34
    · subst q34
      obtain ⟨B, pB⟩ := p34
      cases pB.symm.trans hx
      unfold w_ty
      rw [ow_34 iv]
      exact ⟨B, rfl⟩
    rw [hold q q31 q32 q33 q34] at hx
    by_cases q61 : q = 61
    · subst q61
      have := i6 61 x hx
      unfold w_ty at this ⊢
      rw [ow_61 iv] at this ⊢
      obtain ⟨Z, hZ, _⟩ := this
      exact ⟨Z, hZ, fun j j0 j1 e => absurd e (by rw [e4]; decide)⟩
    exact ty_mbu ch_gmbu (fun z => q31 (hun q 31 (by decide) z)) (fun z => q32 (hun q 32 (by decide) z)) (fun z => q33 (hun q 33 (by decide) z)) (fun z => q61 (hun q 61 (by decide) z)) (i6 q x hx)
  · unfold w_wo at i7 ⊢
    simp only [ch_mbu_L ch_gmbu, ch_mbu_rw ch_gmbu, ch_mbu_stp ch_gmbu, ch_mbu_ahd ch_gmbu, ch_mbu_cst ch_gmbu, ch_mbu_chp ch_gmbu]
    exact i7
theorem xor_63 : ∀ x, x < 64 → ∀ b, b < 6 → m_xor x (m_shl 1 b) < 64 := by decide +kernel
theorem wf_mT {g : w_G} {o : w_O} {h : m_H} (iv : w_Inv g o h) : ∀ j : Int, 0 ≤ j → j < 6 → 0 ≤ g_mT g j ∧ g_mT g j ≤ 63 := by
  have hw := iv.2.1
  unfold w_wf at hw
  obtain ⟨-, -, -, -, -, -, -, -, -, -, -, -, -, -, -, -, -, -, -, -, -, -, -, -, -, -, -, hT, -⟩ := hw
  exact hT
theorem xr_63 {T b x1 x2 : Int} (T0 : 0 ≤ T) (T1 : T ≤ 63) (b0 : 0 ≤ b) (b1 : b < 6) (e1 : m_shl (w_i 1) (w_i b) = w_i x1) (e2 : m_xor (w_i T) (w_i x1) = w_i x2) (x0 : -2147483648 ≤ x2) (x3 : x2 ≤ 2147483647) : 0 ≤ x2 ∧ x2 ≤ 63 := by
  have h1 := xor_63 (w_i T) (by rw [wi_pos T0 (by omega)]; omega) (w_i b) (by rw [wi_pos b0 (by omega)]; omega)
  rw [show m_shl 1 (w_i b) = w_i x1 from e1, e2] at h1
  have := wi_int x2
  omega
