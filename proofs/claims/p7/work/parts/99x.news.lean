/-! NEW OBJECTS, and the class's calls that change a ghost -/
theorem ty_o {g : w_G} {o o2 : w_O} {q : Nat} {e : m_E} (ho : w_oe o o2) (h : w_ty g o q e) : w_ty g o2 q e := by
  by_cases h9 : (o q).1 = 9
  · have hq : o2 q = o q := ho q (by rw [h9]; decide)
    unfold w_ty at h ⊢
    rw [hq, h9]
    rw [h9] at h
    exact h
  · exact ty_mono pub_rf ho h9 h
theorem inv_new {g g2 : w_G} {o o2 : w_O} {h h2 : m_H} (iv : w_Inv g o h) (hwf : w_wf g2) (hm : m_wf h2.2.2 h2.1) (h1 : h.1 ≤ h2.1) (ho : w_oe o o2) (hn : ∀ q, h2.1 ≤ q → (o2 q).1 = 999) (h100 : ∀ q, h.1 ≤ q → q < h2.1 → 100 ≤ (o2 q).1) (hty : ∀ q e, m_at h2.2.2 q = some e → w_ty g2 o2 q e) (hL : g_L g2 = g_L g) (hN : g2.2.2 = g.2.2) : w_Inv g2 o2 h2 := by
  obtain ⟨i1, i2, i3, i4, i5, i6, i7⟩ := id iv
  have hlt : ∀ q, q < h.1 → o2 q = o q := fun q hq => ho q (fun z => by
    obtain ⟨e, he⟩ := wf_ex i1 hq
    have := i6 q e he
    unfold w_ty at this
    rw [z] at this
    exact this)
  have e1 : g_rw g2 = g_rw g := by unfold g_rw; rw [hN]
  have e2 : g_stp g2 = g_stp g := by unfold g_stp; rw [hN]
  have e3 : g_ahd g2 = g_ahd g := by unfold g_ahd; rw [hN]
  have e4 : g_cst g2 = g_cst g := by unfold g_cst; rw [hN]
  have e5 : g_chp g2 = g_chp g := by unfold g_chp; rw [hN]
  have t1 := ho (g_rw g) (by rw [ow_rw iv]; decide)
  have t2 := ho (g_stp g) (by rw [ow_stp iv]; decide)
  have t3 := ho (g_ahd g) (by rw [ow_ahd iv]; decide)
  have t4 := ho (g_cst g) (by rw [ow_cst iv]; decide)
  have t5 := ho (g_chp g) (by rw [ow_chp iv]; decide)
  refine ⟨hm, hwf, fun q hq => (hlt q (by omega)).trans (i3 q hq), hn, by omega, hty, ?_⟩
  unfold w_wo at i7 ⊢
  rw [hL, e1, e2, e3, e4, e5, t1, t2, t3, t4, t5]
  obtain ⟨a1, a2, a3, a4, a5, a6, a7, a8, a9, a10, a11, a12, a13⟩ := i7
  refine ⟨a1, a2, a3, a4, a5, a6, a7, a8, a9, a10, a11, a12, fun q hq => ?_⟩
  by_cases hl : q < h.1
  · rw [hlt q hl]; exact a13 q hq
  · by_cases hl2 : q < h2.1
    · exact h100 q (by omega) hl2
    · rw [hn q (by omega)]; decide
section
variable {K : m_X} {lv r' : List m_V} {h : m_H} {d q q0 c : Nat} {x : Int} {o : Option Nat} {Q : Option m_V → m_H → Prop}
theorem w_aastI {ci n : Nat} {p : Nat → Bool} {l : List (Option Nat)} (ha : m_at h.2.2 q = some (.inr (.inl (ci, n, l)))) (h0 : 0 ≤ x) (h1 : x < n) (hn : n < 4294967296) (hv : ∀ k : m_R, m_isC h.2.2 o p k = k) (hK : ∀ h', h_st h q (.inr (.inl (ci, n, l.set x.toNat o))) h' → wx d K lv r' h' Q) : wx d (x_aast ci p K) lv (.inr (.inl o) :: .inl (w_i x) :: .inr (.inl (some q)) :: r') h Q := w_aast ha (wi_lt_of h0 h1 hn) hv (by rw [wi_pos h0 (by omega)]; exact hK)
theorem isC_no {l : List (List m_E)} {p : Nat → Bool} (k : m_R) : m_isC l none p k = k := rfl
theorem isC_of {fs : List m_V} {p : Nat → Bool} (ha : m_at h.2.2 q0 = some (.inr (.inr (c, fs)))) (hp : p c = true) (k : m_R) : m_isC h.2.2 (some q0) p k = k := by
  show m_hg h.2.2 q0 _ = k
  rw [mg_at ha]
  show m_if (p c) k none = k
  rw [hp]
  rfl
end
theorem set_no {l : List (Option Nat)} {i j : Nat} {P : Nat → Prop} (hl : ∀ i : Nat, i < 4 → (l[i]? = some none ∨ ∃ p : Nat, l[i]? = some (some p) ∧ P p)) (ll : l.length = 4) {v : Option Nat} (hv : v = none ∨ ∃ p, v = some p ∧ P p) : (l.set j v).length = 4 ∧ ∀ i : Nat, i < 4 → ((l.set j v)[i]? = some none ∨ ∃ p : Nat, (l.set j v)[i]? = some (some p) ∧ P p) := by
  refine ⟨by rw [List.length_set]; exact ll, fun i hi => ?_⟩
  rw [List.getElem?_set]
  by_cases hij : j = i
  · rw [if_pos hij, if_pos (by omega)]
    rcases hv with hv | ⟨p, hv, hp⟩
    · exact Or.inl (by rw [hv])
    · exact Or.inr ⟨p, by rw [hv], hp⟩
  · rw [if_neg hij]; exact hl i hi
/-- a sheet -/
def o_sh (o : w_O) (a n : Nat) : w_O := fun q => if q = a then (130, 0) else if q = a + 1 then (131, n) else o q
theorem sh_fin {g : w_G} {o : w_O} {h h2 : m_H} {so : Int} {n : Nat} {l : List (Option Nat)} {j : Nat} (iv : w_Inv g o h) (hn : n ≤ 40) (s0 : -2147483648 ≤ so) (s1 : so ≤ 2147483647) (hm : m_wf h2.2.2 h2.1) (h1 : h2.1 = h.1 + 2) (hold : ∀ q, q < h.1 → q ≠ 24 → m_at h2.2.2 q = m_at h.2.2 q) (p24 : m_at h2.2.2 24 = some (.inr (.inl (6, 4, l.set j (some h.1))))) (ll : l.length = 4) (lp : ∀ i : Nat, i < 4 → (l[i]? = some none ∨ ∃ p : Nat, l[i]? = some (some p) ∧ (o p).1 = 130))
    (q0 : m_at h2.2.2 h.1 = some (.inr (.inr (6, [.inl (w_i so), .inr (.inl (some (h.1 + 1)))])))) (q1 : m_at h2.2.2 (h.1 + 1) = some (.inl (false, n, 0))) : w_Inv g (o_sh o h.1 n) h2 := by
  obtain ⟨i1, i2, i3, i4, i5, i6, i7⟩ := id iv
  have t0 : o_sh o h.1 n h.1 = (130, 0) := if_pos rfl
  have t1 : o_sh o h.1 n (h.1 + 1) = (131, n) := by unfold o_sh; rw [if_neg (by omega), if_pos rfl]
  have ho : w_oe o (o_sh o h.1 n) := fun q hq => by
    have : ¬ h.1 ≤ q := fun z => hq (i4 q z)
    unfold o_sh; rw [if_neg (by omega), if_neg (by omega)]
  refine inv_new iv i2 hm (by omega) ho (fun q hq => ?_) (fun q hq hq2 => ?_) (fun q e he => ?_) rfl rfl
  · unfold o_sh; rw [if_neg (by omega), if_neg (by omega)]; exact i4 q (by omega)
  · by_cases e0 : q = h.1
    · subst e0; rw [t0]; exact Nat.le_of_ble_eq_true rfl
    · obtain rfl : q = h.1 + 1 := by omega
      rw [t1]; exact Nat.le_of_ble_eq_true rfl
  · have hl := mw_lt hm he
    by_cases hq : q < h.1
    · by_cases q24 : q = 24
      · subst q24
        cases p24.symm.trans he
        unfold w_ty
        rw [show (o_sh o h.1 n 24).1 = 24 from by rw [ho 24 (by rw [ow_24 iv]; decide), ow_24 iv]]
        have hs := set_no (i := 0) (j := j) (P := fun p => (o_sh o h.1 n p).1 = 130) (fun i hi => (lp i hi).imp id (fun ⟨p, a, b⟩ => ⟨p, a, oe_1 ho b rfl⟩)) ll (v := some h.1) (Or.inr ⟨h.1, rfl, by rw [t0]⟩)
        exact ⟨_, rfl, hs.1, hs.2⟩
      · rw [hold q hq q24] at he
        exact ty_o ho (i6 q e he)
    · by_cases e0 : q = h.1
      · subst e0
        cases q0.symm.trans he
        unfold w_ty
        rw [t0]
        exact ⟨so, h.1 + 1, rfl, s0, s1, by rw [t1]⟩
      · obtain rfl : q = h.1 + 1 := by omega
        cases q1.symm.trans he
        unfold w_ty
        rw [t1]
        exact ⟨0, by rw [t1], by rw [t1]; exact hn⟩
/-- a text that has been read -/
def o_tx (o : w_O) (a n : Nat) : w_O := fun q => if q = a then (111, n) else if q = a + 1 then (110, 0) else if q = a + 2 then (112, 31) else o q
theorem rd_fin {g : w_G} {o : w_O} {h h2 : m_H} {me fe : Int} {n A : Nat} (iv : w_Inv g o h) (hn : n ≤ 160) (m0 : 0 ≤ me) (m1 : me ≤ fe) (m2 : fe ≤ (n : Int)) (hm : m_wf h2.2.2 h2.1) (h1 : h2.1 = h.1 + 3) (hold : ∀ q, q < h.1 → m_at h2.2.2 q = m_at h.2.2 q) (q0 : m_at h2.2.2 h.1 = some (.inl (false, n, A))) (hA : ∀ j : Int, 0 ≤ j → j < (n : Int) → 0 ≤ a_g A j) (q1 : m_at h2.2.2 (h.1 + 1) = some (.inr (.inr (9, [.inr (.inl (some h.1)), .inl (w_i me), .inl (w_i fe), .inr (.inl (some (h.1 + 2)))])))) (q2 : m_at h2.2.2 (h.1 + 2) = some (.inl (false, 31, 0))) : w_Inv g (o_tx o h.1 n) h2 := by
  obtain ⟨i1, i2, i3, i4, i5, i6, i7⟩ := id iv
  have t0 : o_tx o h.1 n h.1 = (111, n) := if_pos rfl
  have t1 : o_tx o h.1 n (h.1 + 1) = (110, 0) := by unfold o_tx; rw [if_neg (by omega), if_pos rfl]
  have t2 : o_tx o h.1 n (h.1 + 2) = (112, 31) := by unfold o_tx; rw [if_neg (by omega), if_neg (by omega), if_pos rfl]
  have ho : w_oe o (o_tx o h.1 n) := fun q hq => by
    have : ¬ h.1 ≤ q := fun z => hq (i4 q z)
    unfold o_tx; rw [if_neg (by omega), if_neg (by omega), if_neg (by omega)]
  refine inv_new iv i2 hm (by omega) ho (fun q hq => ?_) (fun q hq hq2 => ?_) (fun q e he => ?_) rfl rfl
  · unfold o_tx; rw [if_neg (by omega), if_neg (by omega), if_neg (by omega)]; exact i4 q (by omega)
  · by_cases e0 : q = h.1
    · subst e0; rw [t0]; exact Nat.le_of_ble_eq_true rfl
    · by_cases e1 : q = h.1 + 1
      · subst e1; rw [t1]; exact Nat.le_of_ble_eq_true rfl
      · obtain rfl : q = h.1 + 2 := by omega
        rw [t2]; exact Nat.le_of_ble_eq_true rfl
  · have hl := mw_lt hm he
    by_cases hq : q < h.1
    · rw [hold q hq] at he
      exact ty_o ho (i6 q e he)
    · by_cases e0 : q = h.1
      · subst e0
        cases q0.symm.trans he
        unfold w_ty
        rw [t0]
        exact ⟨A, by rw [t0], fun j j0 j1 => hA j j0 (by rw [t0] at j1; exact j1), by rw [t0]; exact hn⟩
      · by_cases e1 : q = h.1 + 1
        · subst e1
          cases q1.symm.trans he
          unfold w_ty
          rw [t1]
          exact ⟨me, fe, h.1, h.1 + 2, rfl, by omega, by omega, by omega, by omega, m0, m1, by rw [t0]; exact m2, by rw [t0], by rw [t2]⟩
        · obtain rfl : q = h.1 + 2 := by omega
          cases q2.symm.trans he
          unfold w_ty
          rw [t2]
          exact ⟨0, rfl⟩
/-- it is kept -/
def g_tx (g : w_G) : w_G := (fun k => if k = 4 then g_nt g + 1 else g.1 k, g.2)
theorem ch_gtx {g : w_G} : w_ch [4] [] g (g_tx g) := ⟨fun _ hk => ifb_f hk rfl, fun _ _ => rfl, rfl⟩
theorem tx_fin {g : w_G} {o : w_O} {h h2 : m_H} {p : Nat} {l : List (Option Nat)} {e : m_E} (iv : w_Inv g o h) (h5 : g_nt g ≤ 5) (hp : (o p).1 = 110) (hm : m_wf h2.2.2 h2.1) (h1 : h2.1 = h.1) (hold : ∀ q, q ≠ 0 → q ≠ 23 → m_at h2.2.2 q = m_at h.2.2 q) (p0 : m_at h2.2.2 0 = some e) (he : c_0 (g_tx g) o 0 e) (p23 : m_at h2.2.2 23 = some (.inr (.inl (9, 6, l.set (g_nt g).toNat (some p))))) (ll : l.length = 6) (lp : ∀ i : Nat, i < 6 → (i : Int) < g_nt g → ∃ p : Nat, l[i]? = some (some p) ∧ (o p).1 = 110) (ln : ∀ i : Nat, i < 6 → g_nt g ≤ i → l[i]? = some none) : w_Inv (g_tx g) o h2 := by
  have W := iv_wc iv
  have e1 : g_nt (g_tx g) = g_nt g + 1 := rfl
  refine inv_tx iv ch_gtx ?_ hm h1 (fun q a0 _ _ a23 => hold q a0 a23) ⟨e, p0, he⟩ ?_ ?_ ⟨_, p23, _, rfl, by rw [List.length_set]; exact ll, fun i hi hin => ?_, fun i hi hin => ?_⟩
  · have hw := iv.2.1
    unfold w_wf at hw ⊢
    simp only [e1, ch_tx_H ch_gtx, ch_tx_C ch_gtx, ch_tx_N ch_gtx, ch_tx_np ch_gtx, ch_tx_hi ch_gtx, ch_tx_mH ch_gtx, ch_tx_mC ch_gtx, ch_tx_mN ch_gtx, ch_tx_mnp ch_gtx, ch_tx_mnt ch_gtx, ch_tx_mhi ch_gtx, ch_tx_T ch_gtx, ch_tx_mT ch_gtx, ch_tx_mPK ch_gtx, ch_tx_mPN ch_gtx]
    obtain ⟨a1, a2, a3, a4, a5, a6, a7, a8, a9, a10, a11, rest⟩ := hw
    exact ⟨a1, a2, a3, a4, a5, a6, a7, a8, a9, by omega, by omega, rest⟩
  · obtain ⟨e2, m, c⟩ := iv_1 iv
    refine ⟨e2, (hold 1 (by decide) (by decide)).trans m, ?_⟩
    unfold c_1 at c ⊢
    rw [e1, ch_tx_H ch_gtx, ch_tx_C ch_gtx, ch_tx_N ch_gtx]
    obtain ⟨kp, sp, rl, c1, c2, c3, c4, c5, c6, c7, c8, c9⟩ := c
    exact ⟨kp, sp, rl, c1, c2, c3, c4, c5, c6, c7, c8, by omega⟩
  · obtain ⟨e2, m, c⟩ := iv_5 iv
    refine ⟨e2, (hold 5 (by decide) (by decide)).trans m, ?_⟩
    unfold c_5 at c ⊢
    rw [e1]
    obtain ⟨kp, sp, rl, c1, c2, c3, c4, c5, c6, c7, c8, c9⟩ := c
    exact ⟨kp, sp, rl, c1, c2, c3, c4, c5, c6, c7, c8, by omega⟩
  · rw [List.getElem?_set]
    by_cases hij : (g_nt g).toNat = i
    · rw [if_pos hij, if_pos (by omega)]; exact ⟨p, rfl, hp⟩
    · rw [if_neg hij]; exact lp i hi (by omega)
  · rw [List.getElem?_set, if_neg (by omega)]; exact ln i hi (by omega)
/-- a painter more -/
def g_pa (g : w_G) (kd nu : Int) : w_G := (fun k => if k = 3 then g_np g + 1 else g.1 k, fun k => if k = 1 then (fun j => if j = g_np g then kd else g_PK g j) else if k = 2 then (fun j => if j = g_np g then nu else g_PN g j) else g.2.1 k, g.2.2)
theorem ch_gpa {g : w_G} {kd nu : Int} : w_ch [3] [1, 2] g (g_pa g kd nu) := ⟨fun _ hk => ifb_f hk rfl, fun _ hk => (ifb_f hk rfl).trans (ifb_f hk rfl), rfl⟩
theorem pa_fin {g : w_G} {o : w_O} {h h2 : m_H} {kd nu kpr fnd kco : Int} {c : Nat} {l : List (Option Nat)} {e : m_E} (iv : w_Inv g o h) (h5 : g_np g ≤ 4) (n0 : 0 ≤ nu) (n1 : nu ≤ 9) (hc : (kd = 0 ∧ c = 3) ∨ (kd = 1 ∧ c = 8) ∨ (kd = 2 ∧ c = 7) ∨ (kd = 3 ∧ c = 1) ∨ (kd = 4 ∧ c = 2) ∨ (kd = 5 ∧ c = 0)) (hm : m_wf h2.2.2 h2.1) (h1 : h2.1 = h.1 + 1) (hold : ∀ q, q < h.1 → q ≠ 0 → q ≠ 9 → q ≠ 17 → m_at h2.2.2 q = m_at h.2.2 q) (p0 : m_at h2.2.2 0 = some e) (he : c_0 (g_pa g kd nu) o 0 e) (p9 : m_at h2.2.2 9 = some (e_9 g kpr (-1) fnd kco)) (k0 : 0 ≤ kpr ∧ kpr ≤ 1 ∧ 0 ≤ kco ∧ kco ≤ 1 ∧ 0 ≤ fnd ∧ fnd ≤ g_L g)
    (p17 : m_at h2.2.2 17 = some (.inr (.inl (3, 5, l.set (g_np g).toNat (some h.1))))) (ll : l.length = 5) (lp : ∀ i : Nat, i < 5 → (i : Int) < g_np g → ∃ p : Nat, l[i]? = some (some p) ∧ o p = (120, i)) (ln : ∀ i : Nat, i < 5 → g_np g ≤ i → l[i]? = some none) (q0 : m_at h2.2.2 h.1 = some (.inr (.inr (c, [.inl (w_i nu), .inl (w_i (1 + nu))])))) : w_Inv (g_pa g kd nu) (o_nw o h.1 120 (g_np g).toNat) h2 := by
  have W := iv_wc iv
  obtain ⟨i1, i2, i3, i4, i5, i6, i7⟩ := id iv
  have e1 : g_np (g_pa g kd nu) = g_np g + 1 := rfl
  have eK : ∀ j, g_PK (g_pa g kd nu) j = if j = g_np g then kd else g_PK g j := fun _ => rfl
  have eN : ∀ j, g_PN (g_pa g kd nu) j = if j = g_np g then nu else g_PN g j := fun _ => rfl
  have ho : w_oe o (o_nw o h.1 120 (g_np g).toNat) := onw_oe (g := g) i4 (Nat.le_refl _)
  have t0 : o_nw o h.1 120 (g_np g).toNat h.1 = (120, (g_np g).toNat) := onw_s
  refine inv_new iv ?_ hm (by omega) ho (fun q hq => ?_) (fun q hq hq2 => ?_) (fun q x hx => ?_) rfl rfl
  · unfold w_wf at i2 ⊢
    simp only [e1, ch_pa_H ch_gpa, ch_pa_C ch_gpa, ch_pa_N ch_gpa, ch_pa_nt ch_gpa, ch_pa_hi ch_gpa, ch_pa_mH ch_gpa, ch_pa_mC ch_gpa, ch_pa_mN ch_gpa, ch_pa_mnp ch_gpa, ch_pa_mnt ch_gpa, ch_pa_mhi ch_gpa, ch_pa_T ch_gpa, ch_pa_mT ch_gpa, ch_pa_mPK ch_gpa, ch_pa_mPN ch_gpa]
    obtain ⟨a1, a2, a3, a4, a5, a6, a7, a8, a9, rest⟩ := i2
    exact ⟨a1, a2, a3, a4, a5, a6, a7, by omega, by omega, rest⟩
  · rw [onw_ne (by omega)]; exact i4 q (by omega)
  · obtain rfl : q = h.1 := by omega
    rw [t0]; exact Nat.le_of_ble_eq_true rfl
  · have hl := mw_lt hm hx
    by_cases hq : q < h.1
    · have hun : ∀ c, c < 67 → (o_nw o h.1 120 (g_np g).toNat q).1 = c → q = c := fun c hc hz => by
        rw [onw_ne (by omega)] at hz; exact tg_un iv hc hz
      by_cases q0' : q = 0
      · subst q0'
        cases p0.symm.trans hx
        unfold w_ty
        rw [show (o_nw o h.1 120 (g_np g).toNat 0).1 = 0 from by rw [onw_ne (by omega), ow_0 iv]]
        exact he
      by_cases q9' : q = 9
      · subst q9'
        cases p9.symm.trans hx
        unfold w_ty
        rw [show (o_nw o h.1 120 (g_np g).toNat 9).1 = 9 from by rw [onw_ne (by omega), ow_9 iv]]
        exact ⟨kpr, -1, fnd, kco, rfl, by omega, by omega, by omega, by omega, by have := iv_wo iv; omega, by have := iv_wo iv; omega, by omega, by omega, k0.1, k0.2.1, k0.2.2.1, k0.2.2.2.1, k0.2.2.2.2.1, k0.2.2.2.2.2, Or.inl rfl⟩
      by_cases q17' : q = 17
      · subst q17'
        cases p17.symm.trans hx
        unfold w_ty
        rw [show (o_nw o h.1 120 (g_np g).toNat 17).1 = 17 from by rw [onw_ne (by omega), ow_17 iv]]
        refine ⟨_, rfl, by rw [List.length_set]; exact ll, fun i hi hin => ?_, fun i hi hin => ?_⟩
        · rw [List.getElem?_set]
          by_cases hij : (g_np g).toNat = i
          · rw [if_pos hij, if_pos (by omega)]; exact ⟨h.1, rfl, by rw [t0, hij]⟩
          · rw [if_neg hij]
            obtain ⟨p, a, b⟩ := lp i hi (by rw [e1] at hin; omega)
            exact ⟨p, a, (ho p (by rw [b]; show (120 : Nat) ≠ 999; decide)).trans b⟩
        · rw [e1] at hin
          rw [List.getElem?_set, if_neg (by omega)]; exact ln i hi (by omega)
      rw [hold q hq q0' q9' q17'] at hx
      have ht := i6 q x hx
      by_cases q120 : (o q).1 = 120
      · have ht2 := ty_o ho ht
        unfold w_ty at ht ⊢
        rw [show (o_nw o h.1 120 (g_np g).toNat q) = o q from onw_ne (by omega), q120]
        rw [q120] at ht
        obtain ⟨c', a1, a2, a3, a4, a5⟩ := ht
        have hne : ((o q).2 : Int) ≠ g_np g := by omega
        have oq : o_nw o h.1 120 (g_np g).toNat q = o q := onw_ne (by omega)
        refine ⟨c', ?_, ?_, ?_, ?_, ?_⟩ <;> rw [oq]
        · rw [eN, if_neg hne]; exact a1
        · rw [eN, if_neg hne]; exact a2
        · rw [eN, if_neg hne]; exact a3
        · rw [e1]; omega
        · rw [eK, if_neg hne]; exact a5
      · exact ty_pa ch_gpa (fun z => q0' (hun 0 (by decide) z)) (fun z => q17' (hun 17 (by decide) z)) (fun z => q120 (by rw [onw_ne (by omega)] at z; exact z)) (ty_o ho ht)
    · obtain rfl : q = h.1 := by omega
      cases q0.symm.trans hx
      unfold w_ty
      rw [t0]
      have e3 : (((g_np g).toNat : Nat) : Int) = g_np g := by omega
      refine ⟨c, ?_, ?_, ?_, ?_, ?_⟩ <;> rw [t0] <;> show _
      · rw [eN, e3, if_pos rfl]
      · rw [eN, e3, if_pos rfl]; exact n0
      · rw [eN, e3, if_pos rfl]; exact n1
      · rw [e1, e3]; omega
      · rw [eK, e3, if_pos rfl]; exact hc
/-- who touches is changed -/
def g_to (g : w_G) (A : Nat) : w_G := (g.1, fun k => if k = 0 then a_g A else g.2.1 k, g.2.2)
theorem ch_gto {g : w_G} {A : Nat} : w_ch [] [0] g (g_to g A) := ⟨fun _ _ => rfl, fun _ hk => ifb_f hk rfl, rfl⟩
theorem to_fin {g : w_G} {o : w_O} {h h2 : m_H} {A : Nat} (iv : w_Inv g o h) (hm : m_wf h2.2.2 h2.1) (h1 : h2.1 = h.1) (hold : ∀ q, q ≠ 2 → m_at h2.2.2 q = m_at h.2.2 q) (p2 : m_at h2.2.2 2 = some (.inl (false, 6, A))) (hA : ∀ j : Int, 0 ≤ j → j < 6 → 0 ≤ a_g A j ∧ a_g A j ≤ 63) : w_Inv (g_to g A) o h2 := by
  have eT : ∀ j, g_T (g_to g A) j = a_g A j := fun _ => rfl
  refine inv_to iv ch_gto ?_ hm h1 hold ⟨_, p2, A, rfl, fun j j0 j1 => rfl⟩
  have hw := iv.2.1
  unfold w_wf at hw ⊢
  simp only [eT, ch_to_H ch_gto, ch_to_C ch_gto, ch_to_N ch_gto, ch_to_np ch_gto, ch_to_nt ch_gto, ch_to_hi ch_gto, ch_to_mH ch_gto, ch_to_mC ch_gto, ch_to_mN ch_gto, ch_to_mnp ch_gto, ch_to_mnt ch_gto, ch_to_mhi ch_gto, ch_to_mT ch_gto, ch_to_mPK ch_gto, ch_to_mPN ch_gto]
  obtain ⟨a1, a2, a3, a4, a5, a6, a7, a8, a9, a10, a11, a12, a13, a14, rest⟩ := hw
  exact ⟨a1, a2, a3, a4, a5, a6, a7, a8, a9, a10, a11, a12, a13, hA, rest⟩
theorem wf_T {g : w_G} {o : w_O} {h : m_H} (iv : w_Inv g o h) : ∀ j : Int, 0 ≤ j → j < 6 → 0 ≤ g_T g j ∧ g_T g j ≤ 63 := by
  have hw := iv.2.1
  unfold w_wf at hw
  obtain ⟨-, -, -, -, -, -, -, -, -, -, -, -, -, hT, -⟩ := hw
  exact hT
/-- an image is kept -/
def g_im (g : w_G) : w_G := (fun k => if k = 5 then 1 else g.1 k, g.2)
theorem ch_gim {g : w_G} : w_ch [5] [] g (g_im g) := ⟨fun _ hk => ifb_f hk rfl, fun _ _ => rfl, rfl⟩
theorem im_fin {g : w_G} {o : w_O} {h h2 : m_H} {A : Nat} {e : m_E} (iv : w_Inv g o h) (p7 : m_at h.2.2 7 = some (.inl (false, 6, A))) (hA : ∀ j : Int, 0 ≤ j → j < 6 → 0 ≤ a_g A j ∧ a_g A j < g_C g) (hs : h_st h 0 e h2) (he : c_0 (g_im g) o 0 e) : w_Inv (g_im g) o h2 := by
  have e1 : g_hi (g_im g) = 1 := rfl
  refine inv_im iv ch_gim ?_ (hs.2.2.2.2 iv.1) hs.1 (fun q h0 _ => hs.2.2.2.1 q h0) ⟨e, hs.2.2.1, he⟩ ⟨_, (hs.2.2.2.1 7 (by decide)).trans p7, A, rfl, fun j j0 j1 _ => hA j j0 j1⟩
  have hw := iv.2.1
  unfold w_wf at hw ⊢
  simp only [e1, ch_im_H ch_gim, ch_im_C ch_gim, ch_im_N ch_gim, ch_im_np ch_gim, ch_im_nt ch_gim, ch_im_mH ch_gim, ch_im_mC ch_gim, ch_im_mN ch_gim, ch_im_mnp ch_gim, ch_im_mnt ch_gim, ch_im_mhi ch_gim, ch_im_T ch_gim, ch_im_mT ch_gim, ch_im_mPK ch_gim, ch_im_mPN ch_gim]
  obtain ⟨a1, a2, a3, a4, a5, a6, a7, a8, a9, a10, a11, a12, a13, rest⟩ := hw
  exact ⟨a1, a2, a3, a4, a5, a6, a7, a8, a9, a10, a11, by omega, by omega, rest⟩
/-- another town -/
def g_bu (g : w_G) (hh c N : Int) (A : Nat) : w_G := (fun k => if k = 0 then hh else if k = 1 then c else if k = 2 then N else if k = 5 then 0 else g.1 k, fun k => if k = 0 then a_g A else g.2.1 k, g.2.2)
theorem ch_gbu {g : w_G} {hh c N : Int} {A : Nat} : w_ch [0, 1, 2, 5] [0] g (g_bu g hh c N A) := ⟨fun _ hk => (ifb_f hk rfl).trans ((ifb_f hk rfl).trans ((ifb_f hk rfl).trans (ifb_f hk rfl))), fun _ hk => ifb_f hk rfl, rfl⟩
theorem bu_fin {g : w_G} {o : w_O} {h h2 : m_H} {hh c N : Int} {A C : Nat} {e0 e1 e18 e24 : m_E} {kpr fnd kco : Int} (iv : w_Inv g o h) (h0 : 1 ≤ hh) (h1 : hh ≤ 6) (c0 : 2 ≤ c) (c1 : c ≤ 5) (hN : N = w_pw c hh) (hN4 : N ≤ 4096) (hm : m_wf h2.2.2 h2.1) (hh1 : h2.1 = h.1) (hold : ∀ q, q ≠ 0 → q ≠ 1 → q ≠ 2 → q ≠ 3 → q ≠ 4 → q ≠ 9 → q ≠ 18 → q ≠ 24 → m_at h2.2.2 q = m_at h.2.2 q) (p0 : m_at h2.2.2 0 = some e0) (x0 : c_0 (g_bu g hh c N A) o 0 e0) (p1 : m_at h2.2.2 1 = some e1) (x1 : c_1 (g_bu g hh c N A) o 1 e1) (p2 : m_at h2.2.2 2 = some (.inl (false, 6, A))) (hA : ∀ j : Int, 0 ≤ j → j < 6 → 0 ≤ a_g A j ∧ a_g A j ≤ 63) (p3 : m_at h2.2.2 3 = some (.inl (false, 6, C))) (hC : ∀ j : Int, 0 ≤ j → j < 6 → 0 ≤ a_g C j ∧ a_g C j < c) (p4 : ∃ B : Nat, m_at h2.2.2 4 = some (.inl (false, 6, B)))
    (p9 : m_at h2.2.2 9 = some (e_9 g kpr (-1) fnd kco)) (k0 : 0 ≤ kpr ∧ kpr ≤ 1 ∧ 0 ≤ kco ∧ kco ≤ 1 ∧ 0 ≤ fnd ∧ fnd ≤ g_L g) (p18 : m_at h2.2.2 18 = some e18) (x18 : c_18 g o 18 e18) (p24 : m_at h2.2.2 24 = some e24) (x24 : c_24 g o 24 e24) : w_Inv (g_bu g hh c N A) o h2 := by
  have hun : ∀ q c, c < 67 → (o q).1 = c → q = c := fun q c hc hq => tg_un iv hc hq
  have hw := iv.2.1
  have hwo := iv_wo iv
  obtain ⟨i1, i2, i3, i4, i5, i6, i7⟩ := id iv
  have z1 : g_H (g_bu g hh c N A) = hh := rfl
  have z2 : g_C (g_bu g hh c N A) = c := rfl
  have z3 : g_N (g_bu g hh c N A) = N := rfl
  have z4 : g_hi (g_bu g hh c N A) = 0 := rfl
  have zT : ∀ j, g_T (g_bu g hh c N A) j = a_g A j := fun _ => rfl
  have hN2 := pw_ge2 c0 h0
  refine ⟨hm, ?_, i3, fun q hq => i4 q (by omega), by omega, fun q x hx => ?_, ?_⟩
  · unfold w_wf at hw ⊢
    simp only [z1, z2, z3, z4, zT, ch_bu_np ch_gbu, ch_bu_nt ch_gbu, ch_bu_mH ch_gbu, ch_bu_mC ch_gbu, ch_bu_mN ch_gbu, ch_bu_mhi ch_gbu, ch_bu_mnp ch_gbu, ch_bu_mnt ch_gbu, ch_bu_mT ch_gbu, ch_bu_mPK ch_gbu, ch_bu_mPN ch_gbu]
    obtain ⟨a1, a2, a3, a4, a5, a6, a7, a8, a9, a10, a11, a12, a13, a14, rest⟩ := hw
    exact ⟨h0, h1, c0, c1, hN, by omega, hN4, a8, a9, a10, a11, by omega, by omega, hA, rest⟩
  · by_cases b0 : q = 0
    · subst b0
      cases p0.symm.trans hx
      unfold w_ty; rw [ow_0 iv]; exact x0
    by_cases b1 : q = 1
    · subst b1
      cases p1.symm.trans hx
      unfold w_ty; rw [ow_1 iv]; exact x1
    by_cases b2 : q = 2
    · subst b2
      cases p2.symm.trans hx
      unfold w_ty; rw [ow_2 iv]; exact ⟨A, rfl, fun j j0 j1 => rfl⟩
    by_cases b3 : q = 3
    · subst b3
      cases p3.symm.trans hx
      unfold w_ty; rw [ow_3 iv]; exact ⟨C, rfl, hC⟩
    by_cases b4 : q = 4
    · subst b4
      obtain ⟨B, pB⟩ := p4
      cases pB.symm.trans hx
      unfold w_ty; rw [ow_4 iv]; exact ⟨B, rfl⟩
    by_cases b9 : q = 9
    · subst b9
      cases p9.symm.trans hx
      unfold w_ty; rw [ow_9 iv]
      exact ⟨kpr, -1, fnd, kco, rfl, by omega, by omega, by omega, by omega, by omega, by omega, by omega, by omega, k0.1, k0.2.1, k0.2.2.1, k0.2.2.2.1, k0.2.2.2.2.1, k0.2.2.2.2.2, Or.inl rfl⟩
    by_cases b18 : q = 18
    · subst b18
      cases p18.symm.trans hx
      unfold w_ty; rw [ow_18 iv]; exact x18
    by_cases b24 : q = 24
    · subst b24
      cases p24.symm.trans hx
      unfold w_ty; rw [ow_24 iv]; exact x24
    rw [hold q b0 b1 b2 b3 b4 b9 b18 b24] at hx
    by_cases b7 : q = 7
    · subst b7
      have := i6 7 x hx
      unfold w_ty at this ⊢
      rw [ow_7 iv] at this ⊢
      obtain ⟨Z, hZ, _⟩ := this
      exact ⟨Z, hZ, fun j j0 j1 e => absurd e (by rw [z4]; decide)⟩
    exact ty_bu ch_gbu (fun z => b0 (hun q 0 (by decide) z)) (fun z => b1 (hun q 1 (by decide) z)) (fun z => b2 (hun q 2 (by decide) z)) (fun z => b3 (hun q 3 (by decide) z)) (fun z => b7 (hun q 7 (by decide) z)) (fun z => b9 (hun q 9 (by decide) z)) (i6 q x hx)
  · unfold w_wo at i7 ⊢
    simp only [ch_bu_L ch_gbu, ch_bu_rw ch_gbu, ch_bu_stp ch_gbu, ch_bu_ahd ch_gbu, ch_bu_cst ch_gbu, ch_bu_chp ch_gbu]
    exact i7
theorem pn_1 (c : Int) : w_pw c 1 = 1 * c := by
  have := pw_s (c := c) (n := 0) (by omega)
  rw [pw_00] at this
  exact this
theorem pn_2 (c : Int) : w_pw c 2 = 1 * c * c := by have := pw_s (c := c) (n := 1) (by omega); rw [pn_1] at this; exact this
theorem pn_3 (c : Int) : w_pw c 3 = 1 * c * c * c := by have := pw_s (c := c) (n := 2) (by omega); rw [pn_2] at this; exact this
theorem pn_4 (c : Int) : w_pw c 4 = 1 * c * c * c * c := by have := pw_s (c := c) (n := 3) (by omega); rw [pn_3] at this; exact this
theorem pn_5 (c : Int) : w_pw c 5 = 1 * c * c * c * c * c := by have := pw_s (c := c) (n := 4) (by omega); rw [pn_4] at this; exact this
theorem pn_6 (c : Int) : w_pw c 6 = 1 * c * c * c * c * c * c := by have := pw_s (c := c) (n := 5) (by omega); rw [pn_5] at this; exact this
theorem lnk_63 : ∀ x, x < 64 → ∀ b, b < 6 → m_and x (m_xor (m_shl 1 b) 4294967295) < 64 ∧ m_or (m_and x (m_xor (m_shl 1 b) 4294967295)) (m_shl 1 b) < 64 ∧ m_or (m_and x (m_xor (m_shl 1 b) 4294967295)) 0 < 64 := by decide +kernel
theorem lk_63 {T b x1 x2 x3 x5 : Int} {y : Nat} (T0 : 0 ≤ T) (T1 : T ≤ 63) (b0 : 0 ≤ b) (b1 : b < 6) (e1 : m_shl (w_i 1) (w_i b) = w_i x1) (e2 : m_xor (w_i x1) (w_i (-1)) = w_i x2) (e3 : m_and (w_i T) (w_i x2) = w_i x3) (hy : y = m_shl (w_i 1) (w_i b) ∨ y = w_i 0) (e5 : m_or (w_i x3) y = w_i x5) (l5 : -2147483648 ≤ x5) (u5 : x5 ≤ 2147483647) : 0 ≤ x5 ∧ x5 ≤ 63 := by
  obtain ⟨h1, h2, h3⟩ := lnk_63 (w_i T) (by rw [wi_pos T0 (by omega)]; omega) (w_i b) (by rw [wi_pos b0 (by omega)]; omega)
  have z1 : m_shl 1 (w_i b) = w_i x1 := e1
  have z2 : m_xor (w_i x1) 4294967295 = w_i x2 := e2
  rw [z1, z2, e3] at h2 h3
  have h5 : w_i x5 < 64 := by
    rw [← e5]
    rcases hy with rfl | rfl
    · rw [e1]; exact h2
    · exact h3
  have := wi_int x5
  omega
