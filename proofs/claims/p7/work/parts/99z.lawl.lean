/-! THE LAW'S OWN WALK, without counting fuel -/
def a_s (xs : List Nat) (x : Int) : Int := s_i (xs.getD x.toNat 0)
def lx (xs : List Nat) (X : m_X) (lv st : List m_V) (h : m_H) : Prop := ∃ (N0 n0 : Nat) (h' : m_H), (∀ N n, N0 ≤ N → n0 ≤ n → X (m_lr (t_0 xs) m_cg N 1999 n) (fun key' lv' h' => m_run m_cg N 1999 key' lv' [] h') lv st h = some (some (.inl 1), h')) ∧ h'.1 ≤ 600000 ∧ h'.2.1 ≤ 7302250
def lp (xs : List Nat) (key : Nat) (lv st : List m_V) (h : m_H) : Prop := ∃ (N0 n0 : Nat) (h' : m_H), (∀ N n, N0 ≤ N → n0 ≤ n → m_lr (t_0 xs) m_cg N 1999 n key lv st h = some (some (.inl 1), h')) ∧ h'.1 ≤ 600000 ∧ h'.2.1 ≤ 7302250
section
variable {xs : List Nat} {K X : m_X} {lv lv' st r' as pads : List m_V} {h h' : m_H} {n key a b c i q t : Nat} {v w : m_V} {x y : Int}
theorem l_run (hk : t_0 xs key = X) (hX : lx xs X lv st h) : lp xs key lv st h := by
  obtain ⟨N0, n0, h', e, z⟩ := hX
  refine ⟨N0, n0 + 1, h', fun N n hN hn => ?_, z⟩
  obtain ⟨m, rfl⟩ : ∃ m, n = m + 1 := ⟨n - 1, by omega⟩
  subst hk
  exact e N m hN (by omega)
theorem l_go (hp : lp xs t lv st h) : lx xs (x_go t) lv st h := hp
theorem l_st {st' : List m_V} (e : ∀ (go : m_I) (cl : m_C), X go cl lv st h = K go cl lv' st' h) (hK : lx xs K lv' st' h) : lx xs X lv st h := by
  obtain ⟨N0, n0, h', e1, z⟩ := hK
  exact ⟨N0, n0, h', fun N n hN hn => (e _ _).trans (e1 N n hN hn), z⟩
theorem l_ic (hK : lx xs K lv (.inl n :: st) h) : lx xs (x_ic n K) lv st h := l_st (fun _ _ => rfl) hK
theorem l_icI (e : n = w_i x) (hK : lx xs K lv (.inl (w_i x) :: st) h) : lx xs (x_ic n K) lv st h := by subst e; exact l_ic hK
theorem l_il (e : ∀ f : m_V → m_R, m_get lv i f = f (.inl n)) (hK : lx xs K lv (.inl n :: st) h) : lx xs (x_il i K) lv st h := l_st (fun _ _ => e _) hK
theorem l_al {o : Option Nat} (e : ∀ f : m_V → m_R, m_get lv i f = f (.inr (.inl o))) (hK : lx xs K lv (.inr (.inl o) :: st) h) : lx xs (x_al i K) lv st h := l_st (fun _ _ => e _) hK
theorem l_als (e : ∀ f : m_V → m_R, m_get lv i f = f (.inr (.inr (.inr n)))) (hK : lx xs K lv (.inr (.inr (.inr n)) :: st) h) : lx xs (x_al i K) lv st h := l_st (fun _ _ => e _) hK
theorem l_op {f : Nat → Nat → Nat} (e : f a b = c) (hK : lx xs K lv (.inl c :: r') h) : lx xs (x_op f K) lv (.inl b :: .inl a :: r') h := l_st (fun _ _ => t_op e rfl) hK
theorem l_inc (e : ∀ f : m_V → m_R, m_get lv i f = f (.inl a)) (e1 : m_add a n = c) (e2 : ∀ f : List m_V → m_R, m_set lv i (.inl c) f = f lv') (hK : lx xs K lv' st h) : lx xs (x_inc i n K) lv st h := l_st (fun _ _ => t_inc e e1 e2 rfl) hK
theorem l_popi (hK : lx xs K lv r' h) : lx xs (x_pop K) lv (.inl n :: r') h := l_st (fun _ _ => rfl) hK
theorem l_pl2 (hK : lx xs K lv r' h) : lx xs (x_pl2 K) lv (.inr (.inr (.inl n)) :: r') h := l_st (fun _ _ => rfl) hK
theorem l_this {fs : List m_V} (e : ∀ f : Nat → m_R, m_get st n (fun v => m_pr [v] (fun q _ => f q)) = f q) (ha : m_at h.2.2 q = some (.inr (.inr (c, fs)))) (hK : lx xs K lv st h) : lx xs (x_this n c K) lv st h := l_st (fun go cl => (e (fun q => m_hg h.2.2 q (fun e => m_obj e (fun c' _ => m_if (Nat.beq c' c) (K go cl lv st h) none)))).trans ((mg_at ha).trans (by show m_if (Nat.beq c c) _ _ = _; rw [Nat.beq_refl]; rfl))) hK
theorem l_sln (hn : xs.length < 4294967296) (hK : lx xs K lv (.inl (w_i (xs.length : Int)) :: r') h) : lx xs (x_sln xs K) lv (.inr (.inr (.inr 0)) :: r') h := by
  rw [wi_nat hn] at hK
  exact l_st (fun _ _ => rfl) hK
theorem as_rg (xs : List Nat) (x : Int) : -2147483648 ≤ a_s xs x ∧ a_s xs x ≤ 2147483647 := ⟨si_lo _, si_hi _⟩
theorem l_sld (hall : ∀ a ∈ xs, a < 4294967296) (h0 : 0 ≤ x) (h1 : x < (xs.length : Int)) (hn : xs.length < 4294967296) (hK : lx xs K lv (.inl (w_i (a_s xs x)) :: r') h) : lx xs (x_sld xs K) lv (.inl (w_i x) :: .inr (.inr (.inr 0)) :: r') h := by
  refine l_st (fun go cl => ?_) hK
  show m_get xs (w_i x) (fun v => K go cl lv (.inl v :: r') h) = _
  have hl : x.toNat < xs.length := by omega
  have e1 : xs[x.toNat]? = some xs[x.toNat] := List.getElem?_eq_getElem hl
  rw [wi_pos h0 (by omega), mi_get, e1]
  unfold a_s
  rw [wi_si, List.getD_eq_getElem?_getD, e1]
  show K go cl lv (.inl xs[x.toNat] :: r') h = K go cl lv (.inl (xs[x.toNat] % 4294967296) :: r') h
  rw [Nat.mod_eq_of_lt (hall _ (List.getElem_mem hl))]
theorem l_ca (e : ∀ f : List m_V → List m_V → m_R, m_take n st pads f = f as r') (es : Nat.ble (m_ln r') 4 = true) (hc : wp 1999 key as [] h (fun v h1 => ∃ w, v = some w ∧ lx xs K lv (w :: r') h1)) : lx xs (x_ca key n pads K) lv st h := by
  obtain ⟨n1, r, h1, e1, s1, s2, w, rfl, N2, n2, h2, e2, z⟩ := hc
  exact ⟨max n1 N2, n2, h2, fun N m hN hm => t_ca e es (e1 N (by omega)) (Nat.ble_eq_true_of_le s1) (Nat.ble_eq_true_of_le s2) (e2 N m (by omega) hm), z⟩
theorem l_bgt (x0 : -2147483648 ≤ x) (x1 : x ≤ 2147483647) (y0 : -2147483648 ≤ y) (y1 : y ≤ 2147483647) (hg : y < x → lp xs t lv r' h) (hK : x ≤ y → lx xs K lv r' h) : lx xs (x_ci m_bgt t K) lv (.inl (w_i y) :: .inl (w_i x) :: r') h := by
  by_cases hx : y < x
  · obtain ⟨N0, n0, h', e1, z⟩ := hg hx
    exact ⟨N0, n0, h', fun N n hN hn => t_cit (i_gt_t hx x0 x1 y0 y1) (e1 N n hN hn), z⟩
  · exact l_st (fun _ _ => t_cif (i_gt_f (by omega) x0 x1 y0 y1) rfl) (hK (by omega))
theorem l_beq (e : a = b) (hg : lp xs t lv r' h) : lx xs (x_ci m_beq t K) lv (.inl b :: .inl a :: r') h := by
  obtain ⟨N0, n0, h', e1, z⟩ := hg
  exact ⟨N0, n0, h', fun N n hN hn => t_cit (beq_t (by rw [e])) (e1 N n hN hn), z⟩
theorem l_tsw {lo : Nat} {ts : List Nat} (e : ∀ f : Nat → m_R, m_if (Nat.ble lo (Nat.mod a 4294967296)) (m_if (Nat.ble (Nat.succ (Nat.mod a 4294967296)) (Nat.add lo ts.length)) (m_get ts (Nat.sub (Nat.mod a 4294967296) lo) f) (f n)) (f n) = f t) (hg : lp xs t lv r' h) : lx xs (x_tsw lo ts n) lv (.inl a :: r') h := by
  obtain ⟨N0, n0, h', e1, z⟩ := hg
  exact ⟨N0, n0, h', fun N m hN hn => t_tsw e (e1 N m hN hn), z⟩
theorem l_ret (h1 : h.1 ≤ 600000) (h2 : h.2.1 ≤ 7302250) : lx xs (x_ic 1 x_rz) lv [] h := ⟨0, 0, h, fun _ _ _ _ => rfl, h1, h2⟩
end
/-! how much a run can grow -/
def w_sz : List Int := [2, 3, 4, 5, 4, 9, 16, 25, 8, 27, 64, 125, 16, 81, 256, 625, 32, 243, 1024, 3125, 64, 729, 4096]
def w_Sz (L : Int) : Int := w_sz.foldr (fun s a => if s ≤ L then s + a else a) 0
theorem S_mono {l : List Int} (hl : ∀ s ∈ l, 0 ≤ s) {L N : Int} (h : L < N) : l.foldr (fun s a => if s ≤ L then s + a else a) 0 ≤ l.foldr (fun s a => if s ≤ N then s + a else a) 0 ∧ (N ∈ l → l.foldr (fun s a => if s ≤ L then s + a else a) 0 + N ≤ l.foldr (fun s a => if s ≤ N then s + a else a) 0) := by
  induction l with
  | nil => exact ⟨Int.le_refl _, fun z => absurd z List.not_mem_nil⟩
  | cons s l ih =>
    obtain ⟨i1, i2⟩ := ih (fun z hz => hl z (List.mem_cons_of_mem _ hz))
    have hs := hl s List.mem_cons_self
    simp only [List.foldr_cons]
    by_cases h1 : s ≤ L
    · rw [if_pos h1, if_pos (by omega)]
      refine ⟨by omega, fun z => ?_⟩
      rcases List.mem_cons.mp z with z | z
      · omega
      · have := i2 z; omega
    · rw [if_neg h1]
      by_cases h2 : s ≤ N
      · rw [if_pos h2]
        refine ⟨by omega, fun z => ?_⟩
        rcases List.mem_cons.mp z with z | z
        · omega
        · have := i2 z; omega
      · rw [if_neg h2]
        refine ⟨i1, fun z => ?_⟩
        rcases List.mem_cons.mp z with z | z
        · omega
        · exact i2 z
theorem S_up {L N : Int} (h : L < N) (hN : N ∈ w_sz) : w_Sz L + N ≤ w_Sz N := (S_mono (l := w_sz) (by decide) h).2 hN
theorem S_top {L : Int} (h : L ≤ 4096) : w_Sz L ≤ 10563 + 4096 := by
  have := (S_mono (l := w_sz) (by decide) (L := L) (N := 4097) (by omega)).1
  have e : w_Sz 4097 = 10583 := by decide
  unfold w_Sz at e ⊢
  omega
theorem N_sz {c n : Int} (c0 : 2 ≤ c) (c1 : c ≤ 5) (n0 : 1 ≤ n) (n1 : n ≤ 6) (hN : w_pw c n ≤ 4096) : w_pw c n ∈ w_sz := by
  have hn : n = 1 ∨ n = 2 ∨ n = 3 ∨ n = 4 ∨ n = 5 ∨ n = 6 := by omega
  have hc : c = 2 ∨ c = 3 ∨ c = 4 ∨ c = 5 := by omega
  rcases hn with rfl | rfl | rfl | rfl | rfl | rfl <;> rcases hc with rfl | rfl | rfl | rfl <;> first | decide | exact absurd hN (by decide)
/-- one call's growth -/
def w_gr (g : w_G) (h : m_H) (g2 : w_G) (h2 : m_H) : Prop := h2.1 ≤ h.1 + 5 ∧ (h2.2.1 : Int) - 5 * w_Sz (g_L g2) ≤ (h.2.1 : Int) - 5 * w_Sz (g_L g) + 200
theorem gr_rf {g : w_G} {h : m_H} : w_gr g h g h := ⟨by omega, by omega⟩
theorem gr_fr {g : w_G} {o : w_O} {h h2 : m_H} {W : List Nat} (hf : w_fr o W h h2) : w_gr g h g h2 := by
  obtain ⟨a, b, _⟩ := hf
  exact ⟨by omega, by omega⟩
theorem gr_gw {g g2 : w_G} {o : w_O} {h h2 : m_H} (iv : w_Inv g o h) (hg : w_gw g h g2 h2) : w_gr g h g2 h2 := by
  have W := iv_wc iv
  rcases hg with ⟨a, b, c⟩ | ⟨a, b, c, d⟩
  · exact ⟨by omega, by rw [c]; omega⟩
  · have := S_up c (by rw [iv_N iv]; exact N_sz (by omega) (by omega) (by omega) (by omega) (by rw [← iv_N iv]; omega))
    exact ⟨by omega, by rw [d]; omega⟩
theorem gr_ch {I F : List Nat} {g g2 : w_G} {h h2 : m_H} (hI : I.contains 12 = false) (hc : w_ch I F g g2) (h1 : h2.1 ≤ h.1 + 3) (h2' : h2.2.1 ≤ h.2.1 + 200) : w_gr g h g2 h2 := by
  have e : g_L g2 = g_L g := hc.1 12 hI
  exact ⟨by omega, by rw [e]; omega⟩
theorem gr_eq {I F : List Nat} {g g2 : w_G} {h h2 : m_H} (hI : I.contains 12 = false) (hc : w_ch I F g g2) (h1 : h2.1 = h.1) (h2' : h2.2.1 = h.2.1) : w_gr g h g2 h2 := gr_ch hI hc (by omega) (by omega)
