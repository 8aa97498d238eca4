/-! WHAT A RUN COMES TO, without counting fuel: wx a block's text, wp a place of a method -/
def wx (d : Nat) (X : m_X) (lv st : List m_V) (h : m_H) (Q : Option m_V → m_H → Prop) : Prop :=
  ∃ (n0 : Nat) (r : Option m_V) (h' : m_H), (∀ n, n0 ≤ n → X (m_run m_cg n d) (m_cl m_cg n d) lv st h = some (r, h')) ∧ h.1 ≤ h'.1 ∧ h.2.1 ≤ h'.2.1 ∧ Q r h'
def wp (d key : Nat) (lv st : List m_V) (h : m_H) (Q : Option m_V → m_H → Prop) : Prop :=
  ∃ (n0 : Nat) (r : Option m_V) (h' : m_H), (∀ n, n0 ≤ n → m_run m_cg n d key lv st h = some (r, h')) ∧ h.1 ≤ h'.1 ∧ h.2.1 ≤ h'.2.1 ∧ Q r h'
/-- a cell is written; a cell is new -/
def h_st (h : m_H) (q : Nat) (e : m_E) (h' : m_H) : Prop := h'.1 = h.1 ∧ h'.2.1 = h.2.1 ∧ m_at h'.2.2 q = some e ∧ (∀ p, p ≠ q → m_at h'.2.2 p = m_at h.2.2 p) ∧ (m_wf h.2.2 h.1 → m_wf h'.2.2 h'.1)
def h_nw (h : m_H) (e : m_E) (n : Nat) (h' : m_H) : Prop := h'.1 = h.1 + 1 ∧ h'.2.1 = h.2.1 + n ∧ m_at h'.2.2 h.1 = some e ∧ (∀ p, p < h.1 → m_at h'.2.2 p = m_at h.2.2 p) ∧ m_wf h'.2.2 h'.1
/-! numbers: an int by its value -/
def w_i (x : Int) : Nat := (x % 4294967296).toNat
def s_i (n : Nat) : Int := if n % 4294967296 < 2147483648 then ((n % 4294967296 : Nat) : Int) else ((n % 4294967296 : Nat) : Int) - 4294967296
theorem wi_lt (x : Int) : w_i x < 4294967296 := by unfold w_i; omega
theorem wi_mod (x : Int) : w_i x % 4294967296 = w_i x := Nat.mod_eq_of_lt (wi_lt x)
theorem wi_int (x : Int) : ((w_i x : Nat) : Int) = x % 4294967296 := by unfold w_i; omega
theorem wi_congr {x y : Int} (h : x % 4294967296 = y % 4294967296) : w_i x = w_i y := by unfold w_i; rw [h]
theorem wi_inj {x y : Int} (h : w_i x = w_i y) : x % 4294967296 = y % 4294967296 := by rw [← wi_int, ← wi_int, h]
theorem wi_nat {n : Nat} (h : n < 4294967296) : w_i (n : Int) = n := by unfold w_i; omega
theorem wi_si (n : Nat) : w_i (s_i n) = n % 4294967296 := by unfold w_i s_i; split <;> omega
theorem si_wi {x : Int} (h0 : -2147483648 ≤ x) (h1 : x ≤ 2147483647) : s_i (w_i x) = x := by
  unfold s_i
  rw [wi_mod]
  have := wi_int x
  split <;> omega
theorem si_lo (n : Nat) : -2147483648 ≤ s_i n := by unfold s_i; split <;> omega
theorem si_hi (n : Nat) : s_i n ≤ 2147483647 := by unfold s_i; split <;> omega
theorem i_any {n : Nat} (h : n < 4294967296) : ∃ x : Int, n = w_i x ∧ -2147483648 ≤ x ∧ x ≤ 2147483647 := ⟨s_i n, by rw [wi_si, Nat.mod_eq_of_lt h], si_lo n, si_hi n⟩
theorem wi_lt_of {x : Int} {n : Nat} (h0 : 0 ≤ x) (h1 : x < n) (hn : n < 4294967296) : w_i x < n := by unfold w_i; omega
theorem wi_pos {x : Int} (h0 : 0 ≤ x) (h1 : x < 4294967296) : w_i x = x.toNat := by unfold w_i; omega
theorem i_add (x y : Int) : m_add (w_i x) (w_i y) = w_i (x + y) := by
  show (w_i x + w_i y) % 4294967296 = _
  unfold w_i; omega
theorem i_sub (x y : Int) : m_sub (w_i x) (w_i y) = w_i (x - y) := by
  show (w_i x + 4294967296 - w_i y % 4294967296) % 4294967296 = _
  unfold w_i; omega
theorem i_neg (x : Int) : m_neg (w_i x) = w_i (-x) := by
  show (0 + 4294967296 - w_i x % 4294967296) % 4294967296 = _
  unfold w_i; omega
theorem i_mul (x y : Int) : m_mul (w_i x) (w_i y) = w_i (x * y) := by
  have e : ((m_mul (w_i x) (w_i y) : Nat) : Int) = ((w_i (x * y) : Nat) : Int) := by
    show (((w_i x * w_i y) % 4294967296 : Nat) : Int) = _
    rw [Int.natCast_emod, Int.natCast_mul, wi_int, wi_int, wi_int]
    show (x % 4294967296 * (y % 4294967296)) % 4294967296 = _
    rw [← Int.mul_emod]
  exact Int.ofNat_inj.mp e
theorem sg_wi {x : Int} (h0 : -2147483648 ≤ x) (h1 : x ≤ 2147483647) : ((m_sg (w_i x) : Nat) : Int) = x + 2147483648 := by
  show (((w_i x + 2147483648) % 4294967296 : Nat) : Int) = _
  have := wi_int x
  omega
section
variable {x y : Int} (hx0 : -2147483648 ≤ x) (hx1 : x ≤ 2147483647) (hy0 : -2147483648 ≤ y) (hy1 : y ≤ 2147483647)
theorem i_lt_t (h : x < y) (hx0 : -2147483648 ≤ x) (hx1 : x ≤ 2147483647) (hy0 : -2147483648 ≤ y) (hy1 : y ≤ 2147483647) : m_blt (w_i x) (w_i y) = true := Nat.ble_eq_true_of_le (by have := sg_wi hx0 hx1; have := sg_wi hy0 hy1; omega)
theorem i_lt_f (h : y ≤ x) (hx0 : -2147483648 ≤ x) (hx1 : x ≤ 2147483647) (hy0 : -2147483648 ≤ y) (hy1 : y ≤ 2147483647) : m_blt (w_i x) (w_i y) = false := ble_no (by have := sg_wi hx0 hx1; have := sg_wi hy0 hy1; omega)
theorem i_ge_t (h : y ≤ x) (hx0 : -2147483648 ≤ x) (hx1 : x ≤ 2147483647) (hy0 : -2147483648 ≤ y) (hy1 : y ≤ 2147483647) : m_bge (w_i x) (w_i y) = true := Nat.ble_eq_true_of_le (by have := sg_wi hx0 hx1; have := sg_wi hy0 hy1; omega)
theorem i_ge_f (h : x < y) (hx0 : -2147483648 ≤ x) (hx1 : x ≤ 2147483647) (hy0 : -2147483648 ≤ y) (hy1 : y ≤ 2147483647) : m_bge (w_i x) (w_i y) = false := ble_no (by have := sg_wi hx0 hx1; have := sg_wi hy0 hy1; omega)
theorem i_gt_t (h : y < x) (hx0 : -2147483648 ≤ x) (hx1 : x ≤ 2147483647) (hy0 : -2147483648 ≤ y) (hy1 : y ≤ 2147483647) : m_bgt (w_i x) (w_i y) = true := Nat.ble_eq_true_of_le (by have := sg_wi hx0 hx1; have := sg_wi hy0 hy1; omega)
theorem i_gt_f (h : x ≤ y) (hx0 : -2147483648 ≤ x) (hx1 : x ≤ 2147483647) (hy0 : -2147483648 ≤ y) (hy1 : y ≤ 2147483647) : m_bgt (w_i x) (w_i y) = false := ble_no (by have := sg_wi hx0 hx1; have := sg_wi hy0 hy1; omega)
theorem i_le_t (h : x ≤ y) (hx0 : -2147483648 ≤ x) (hx1 : x ≤ 2147483647) (hy0 : -2147483648 ≤ y) (hy1 : y ≤ 2147483647) : m_ble (w_i x) (w_i y) = true := Nat.ble_eq_true_of_le (by have := sg_wi hx0 hx1; have := sg_wi hy0 hy1; omega)
theorem i_le_f (h : y < x) (hx0 : -2147483648 ≤ x) (hx1 : x ≤ 2147483647) (hy0 : -2147483648 ≤ y) (hy1 : y ≤ 2147483647) : m_ble (w_i x) (w_i y) = false := ble_no (by have := sg_wi hx0 hx1; have := sg_wi hy0 hy1; omega)
theorem i_eq_t (h : x = y) : m_beq (w_i x) (w_i y) = true := beq_t (by rw [h])
theorem i_eq_f (h : x ≠ y) (hx0 : -2147483648 ≤ x) (hx1 : x ≤ 2147483647) (hy0 : -2147483648 ≤ y) (hy1 : y ≤ 2147483647) : m_beq (w_i x) (w_i y) = false := beq_f (by rw [wi_mod, wi_mod]; intro e; have := wi_inj e; omega)
theorem i_ne_t (h : x ≠ y) (hx0 : -2147483648 ≤ x) (hx1 : x ≤ 2147483647) (hy0 : -2147483648 ≤ y) (hy1 : y ≤ 2147483647) : m_bne (w_i x) (w_i y) = true := bne_t (by rw [wi_mod, wi_mod]; intro e; have := wi_inj e; omega)
theorem i_ne_f (h : x = y) : m_bne (w_i x) (w_i y) = false := bne_f (by rw [h])
end
theorem i_rem {x y : Int} (h0 : 0 ≤ x) (h1 : x ≤ 2147483647) (g0 : 1 ≤ y) (g1 : y ≤ 2147483647) : m_rem (w_i x) (w_i y) = w_i (x % y) := by
  rw [wi_pos h0 (by omega), wi_pos (by omega) (by omega), wi_pos (Int.emod_nonneg _ (by omega)) (by have := Int.emod_lt_of_pos x (show 0 < y by omega); omega)]
  unfold m_rem
  rw [show Nat.ble (Nat.succ x.toNat) 2147483648 = true from Nat.ble_eq_true_of_le (by omega), show Nat.ble (Nat.succ y.toNat) 2147483648 = true from Nat.ble_eq_true_of_le (by omega), show Nat.ble 1 y.toNat = true from Nat.ble_eq_true_of_le (by omega)]
  show x.toNat % y.toNat = _
  rw [Int.toNat_emod h0 (by omega)]
theorem i_div {x y : Int} (h0 : 0 ≤ x) (h1 : x ≤ 2147483647) (g0 : 1 ≤ y) (g1 : y ≤ 2147483647) : m_div (w_i x) (w_i y) = w_i (x / y) := by
  have e2 : x / y ≤ x := Int.ediv_le_self y h0
  have e3 : 0 ≤ x / y := Int.ediv_nonneg h0 (by omega)
  rw [wi_pos h0 (by omega), wi_pos (by omega) (by omega), wi_pos e3 (by omega)]
  unfold m_div
  rw [show Nat.ble (Nat.succ x.toNat) 2147483648 = true from Nat.ble_eq_true_of_le (by omega), show Nat.ble (Nat.succ y.toNat) 2147483648 = true from Nat.ble_eq_true_of_le (by omega), show Nat.ble 1 y.toNat = true from Nat.ble_eq_true_of_le (by omega)]
  show x.toNat / y.toNat = _
  obtain ⟨a, rfl⟩ := Int.eq_ofNat_of_zero_le h0
  obtain ⟨b, rfl⟩ := Int.eq_ofNat_of_zero_le (show 0 ≤ y by omega)
  rfl
/-! arrays by places that are ints -/
def a_g (A : Nat) (x : Int) : Int := s_i (m_ag A (w_i x))
theorem ag_lo (A : Nat) (x : Int) : -2147483648 ≤ a_g A x := si_lo _
theorem ag_hi (A : Nat) (x : Int) : a_g A x ≤ 2147483647 := si_hi _
theorem ag_wi (A : Nat) (x : Int) : w_i (a_g A x) = m_ag A (w_i x) := by unfold a_g; rw [wi_si, Nat.mod_eq_of_lt (ma_lt _ _)]
theorem ag_u {A : Nat} {x v y : Int} (hx0 : 0 ≤ x) (hx1 : x < 4294967296) (hv0 : -2147483648 ≤ v) (hv1 : v ≤ 2147483647) (hy0 : 0 ≤ y) (hy1 : y < 4294967296) : a_g (m_au A (w_i x) (w_i v)) y = if y = x then v else a_g A y := by
  unfold a_g
  rw [ma_u, wi_mod]
  by_cases h : y = x
  · subst h; rw [if_pos rfl, if_pos rfl, si_wi hv0 hv1]
  · rw [if_neg h, if_neg (by rw [wi_pos hx0 hx1, wi_pos hy0 hy1]; omega)]
theorem ag_0 (x : Int) : a_g 0 x = 0 := by unfold a_g; rw [ma_0]; rfl
/-! cells -/
theorem mg_at {l : List (List m_E)} {q : Nat} {e : m_E} {k : m_E → m_R} (h : m_at l q = some e) : m_hg l q k = k e := by
  obtain ⟨c, h1, h2⟩ := mw_at h
  show m_get l (Nat.div q 8) _ = _
  rw [mi_get, show l[Nat.div q 8]? = some c from h1]
  show m_get c (Nat.mod q 8) k = _
  rw [mi_get, show c[Nat.mod q 8]? = some e from h2]
theorem ms_at {l : List (List m_E)} {q : Nat} {e e0 : m_E} (h0 : m_at l q = some e0) : ∃ l', (∀ k : List (List m_E) → m_R, m_hs l q e k = k l') ∧ m_at l' q = some e ∧ (∀ p, p ≠ q → m_at l' p = m_at l p) ∧ ∀ a, m_wf l a → m_wf l' a := by
  obtain ⟨c, h1, h2⟩ := mw_at h0
  have key : ∀ k : List (List m_E) → m_R, m_hs l q e k = k (l.set (q / 8) (c.set (q % 8) e)) := by
    intro k
    show m_get l (Nat.div q 8) _ = _
    rw [mi_get, show l[Nat.div q 8]? = some c from h1]
    show m_set c (Nat.mod q 8) e _ = _
    rw [mi_set, mi_set]
    rfl
  obtain ⟨l', g1, g2, g3, g4⟩ := mx_hs (k := fun l' => some (none, (0, 0, l'))) (r := (none, (0, 0, l.set (q / 8) (c.set (q % 8) e)))) (key _) h0
  cases g1
  exact ⟨_, key, g2, g3, g4⟩
theorem mn_at {l : List (List m_E)} {a : Nat} {e : m_E} (hw : m_wf l a) : ∃ l', (∀ k : List (List m_E) → m_R, m_hn l a e k = k l') ∧ m_at l' a = some e ∧ (∀ p, p < a → m_at l' p = m_at l p) ∧ m_wf l' (a + 1) := by
  have key : ∃ l', ∀ k : List (List m_E) → m_R, m_hn l a e k = k l' := by
    unfold m_hn
    have hma : Nat.mod a 8 = a % 8 := rfl
    cases hm : Nat.mod a 8 with
    | zero => exact ⟨l ++ [[e]], fun k => mi_app l [e] k⟩
    | succ j =>
      have hl : a / 8 < l.length := by rw [hw.1]; omega
      refine ⟨l.set (Nat.div a 8) (l[a / 8] ++ [e]), fun k => ?_⟩
      show m_get l (Nat.div a 8) _ = k _
      rw [mi_get, show l[Nat.div a 8]? = some l[a / 8] from List.getElem?_eq_getElem hl]
      show m_app _ e _ = _
      rw [mi_app, mi_set]
  obtain ⟨l', hk⟩ := key
  obtain ⟨l2, g1, g2⟩ := mx_hn (k := fun l' => some (none, (0, 0, l'))) (r := (none, (0, 0, l'))) (hk _) hw
  cases g1
  exact ⟨l', hk, g2⟩
theorem st_fr {h h' : m_H} {q p : Nat} {e : m_E} {o : Option m_E} (hs : h_st h q e h') (ho : m_at h.2.2 p = o) (hp : p ≠ q) : m_at h'.2.2 p = o := (hs.2.2.2.1 p hp).trans ho
theorem nw_fr {h h' : m_H} {n p : Nat} {e : m_E} {o : Option m_E} (hs : h_nw h e n h') (ho : m_at h.2.2 p = o) (hp : p < h.1) : m_at h'.2.2 p = o := (hs.2.2.2.1 p hp).trans ho
theorem if_f {x y : m_R} : m_if false x y = y := rfl
/-! rules -/
section
variable {K X : m_X} {lv lv' st r' as pads : List m_V} {h h' : m_H} {n d d' key a b c i q t : Nat} {v w : m_V} {o : Option Nat} {Q Q' : Option m_V → m_H → Prop}
theorem wp_q (hp : wp d key lv st h Q') (hq : ∀ r h', Q' r h' → Q r h') : wp d key lv st h Q := by
  obtain ⟨n0, r, h', e, s1, s2, q⟩ := hp
  exact ⟨n0, r, h', e, s1, s2, hq _ _ q⟩
theorem wx_q (hp : wx d X lv st h Q') (hq : ∀ r h', Q' r h' → Q r h') : wx d X lv st h Q := by
  obtain ⟨n0, r, h', e, s1, s2, q⟩ := hp
  exact ⟨n0, r, h', e, s1, s2, hq _ _ q⟩
theorem wp_d (hp : wp d key lv st h Q) (hd : d ≤ d') : wp d' key lv st h Q := by
  obtain ⟨n0, r, h', e, s1, s2, q⟩ := hp
  exact ⟨n0, r, h', fun n hn => rn_le (e n hn) (Nat.le_refl _) hd, s1, s2, q⟩
theorem w_run (hk : m_cg key = X) (hX : wx d X lv st h Q) : wp d key lv st h Q := by
  obtain ⟨n0, r, h', e, s1, s2, q⟩ := hX
  refine ⟨n0 + 1, r, h', fun n hn => ?_, s1, s2, q⟩
  obtain ⟨m, rfl⟩ : ∃ m, n = m + 1 := ⟨n - 1, by omega⟩
  exact t_run hk (e m (by omega))
theorem w_nur (hk : m_cg key = X) (hp : wp d key lv st h Q) : wx d X lv st h Q := by
  obtain ⟨n0, r, h', e, s1, s2, q⟩ := hp
  exact ⟨n0, r, h', fun n hn => by subst hk; exact e (n + 1) (by omega), s1, s2, q⟩
theorem w_go (hp : wp d t lv st h Q) : wx d (x_go t) lv st h Q := hp
/-- a step that keeps the cells -/
theorem w_st {st' : List m_V} (e : ∀ (go : m_I) (cl : m_C), X go cl lv st h = K go cl lv' st' h) (hK : wx d K lv' st' h Q) : wx d X lv st h Q := by
  obtain ⟨n0, r, h', e1, s1, s2, q⟩ := hK
  exact ⟨n0, r, h', fun n hn => (e _ _).trans (e1 n hn), s1, s2, q⟩
/-- a step that changes them -/
theorem w_sh {st' : List m_V} (e : ∀ (go : m_I) (cl : m_C), X go cl lv st h = K go cl lv' st' h') (z1 : h.1 ≤ h'.1) (z2 : h.2.1 ≤ h'.2.1) (hK : wx d K lv' st' h' Q) : wx d X lv st h Q := by
  obtain ⟨n0, r, h2, e1, s1, s2, q⟩ := hK
  exact ⟨n0, r, h2, fun n hn => (e _ _).trans (e1 n hn), Nat.le_trans z1 s1, Nat.le_trans z2 s2, q⟩
theorem w_ic (hK : wx d K lv (.inl n :: st) h Q) : wx d (x_ic n K) lv st h Q := w_st (fun _ _ => rfl) hK
theorem w_lc (hK : wx d K lv (.inr (.inr (.inl n)) :: st) h Q) : wx d (x_lc n K) lv st h Q := w_st (fun _ _ => rfl) hK
theorem w_sc (hK : wx d K lv (.inr (.inr (.inr n)) :: st) h Q) : wx d (x_sc n K) lv st h Q := w_st (fun _ _ => rfl) hK
theorem w_nul (hK : wx d K lv (.inr (.inl none) :: st) h Q) : wx d (x_nul K) lv st h Q := w_st (fun _ _ => rfl) hK
theorem w_il (e : ∀ f : m_V → m_R, m_get lv i f = f (.inl n)) (hK : wx d K lv (.inl n :: st) h Q) : wx d (x_il i K) lv st h Q := w_st (fun _ _ => e _) hK
theorem w_al (e : ∀ f : m_V → m_R, m_get lv i f = f (.inr (.inl o))) (hK : wx d K lv (.inr (.inl o) :: st) h Q) : wx d (x_al i K) lv st h Q := w_st (fun _ _ => e _) hK
theorem w_als (e : ∀ f : m_V → m_R, m_get lv i f = f (.inr (.inr (.inr n)))) (hK : wx d K lv (.inr (.inr (.inr n)) :: st) h Q) : wx d (x_al i K) lv st h Q := w_st (fun _ _ => e _) hK
theorem w_is (e : ∀ f : List m_V → m_R, m_set lv i (.inl n) f = f lv') (hK : wx d K lv' r' h Q) : wx d (x_is i K) lv (.inl n :: r') h Q := w_st (fun _ _ => e _) hK
theorem w_as (e : ∀ f : List m_V → m_R, m_set lv i (.inr (.inl o)) f = f lv') (hK : wx d K lv' r' h Q) : wx d (x_as i K) lv (.inr (.inl o) :: r') h Q := w_st (fun _ _ => e _) hK
theorem w_inc (e : ∀ f : m_V → m_R, m_get lv i f = f (.inl a)) (e1 : m_add a n = c) (e2 : ∀ f : List m_V → m_R, m_set lv i (.inl c) f = f lv') (hK : wx d K lv' st h Q) : wx d (x_inc i n K) lv st h Q := w_st (fun _ _ => t_inc e e1 e2 rfl) hK
theorem w_op {f : Nat → Nat → Nat} (e : f a b = c) (hK : wx d K lv (.inl c :: r') h Q) : wx d (x_op f K) lv (.inl b :: .inl a :: r') h Q := w_st (fun _ _ => t_op e rfl) hK
theorem w_opz {f : Nat → Nat → Nat} (e0 : m_beq b 0 = false) (e : f a b = c) (hK : wx d K lv (.inl c :: r') h Q) : wx d (x_opz f K) lv (.inl b :: .inl a :: r') h Q := w_st (fun _ _ => t_opz e0 e rfl) hK
theorem w_un {f : Nat → Nat} (e : f a = c) (hK : wx d K lv (.inl c :: r') h Q) : wx d (x_un f K) lv (.inl a :: r') h Q := w_st (fun _ _ => t_un e rfl) hK
theorem w_itl (hK : wx d K lv (.inr (.inr (.inl (m_i2l a))) :: r') h Q) : wx d (x_i2l K) lv (.inl a :: r') h Q := w_st (fun go cl => (show x_i2l K go cl lv (.inl a :: r') h = m_f (m_i2l a) (fun n => K go cl lv (.inr (.inr (.inl n)) :: r') h) from rfl).trans mf_eq) hK
theorem w_lcmp (hK : wx d K lv (.inl (m_lcmp a b) :: r') h Q) : wx d (x_lcmp K) lv (.inr (.inr (.inl b)) :: .inr (.inr (.inl a)) :: r') h Q := w_st (fun go cl => (show x_lcmp K go cl lv (.inr (.inr (.inl b)) :: .inr (.inr (.inl a)) :: r') h = m_f (m_lcmp a b) (fun n => K go cl lv (.inl n :: r') h) from rfl).trans mf_eq) hK
theorem w_dup (e : ∀ k : m_R, m_c1 v k = k) (hK : wx d K lv (v :: v :: r') h Q) : wx d (x_dup K) lv (v :: r') h Q := w_st (fun _ _ => e _) hK
theorem w_dup2 (e : ∀ k : m_R, m_c1 v k = k) (e2 : ∀ k : m_R, m_c1 w k = k) (hK : wx d K lv (v :: w :: v :: w :: r') h Q) : wx d (x_dup2 K) lv (v :: w :: r') h Q := w_st (fun _ _ => (e _).trans (e2 _)) hK
theorem w_pop (e : ∀ k : m_R, m_c1 v k = k) (hK : wx d K lv r' h Q) : wx d (x_pop K) lv (v :: r') h Q := w_st (fun _ _ => e _) hK
theorem w_cit {p : Nat → Nat → Bool} (e : p a b = true) (hg : wp d t lv r' h Q) : wx d (x_ci p t K) lv (.inl b :: .inl a :: r') h Q := by
  obtain ⟨n0, r, h', e1, z⟩ := hg
  exact ⟨n0, r, h', fun n hn => t_cit e (e1 n hn), z⟩
theorem w_cif {p : Nat → Nat → Bool} (e : p a b = false) (hK : wx d K lv r' h Q) : wx d (x_ci p t K) lv (.inl b :: .inl a :: r') h Q := w_st (fun _ _ => t_cif e rfl) hK
theorem w_czt {p : Nat → Nat → Bool} (e : p a 0 = true) (hg : wp d t lv r' h Q) : wx d (x_cz p t K) lv (.inl a :: r') h Q := by
  obtain ⟨n0, r, h', e1, z⟩ := hg
  exact ⟨n0, r, h', fun n hn => t_czt e (e1 n hn), z⟩
theorem w_czf {p : Nat → Nat → Bool} (e : p a 0 = false) (hK : wx d K lv r' h Q) : wx d (x_cz p t K) lv (.inl a :: r') h Q := w_st (fun _ _ => t_czf e rfl) hK
/-- a branch of which nothing is known -/
theorem w_ci {p : Nat → Nat → Bool} (h1 : p a b = true → wp d t lv r' h Q) (h2 : p a b = false → wx d K lv r' h Q) : wx d (x_ci p t K) lv (.inl b :: .inl a :: r') h Q := by
  rcases hp : p a b with _ | _
  · exact w_cif hp (h2 hp)
  · exact w_cit hp (h1 hp)
theorem w_cz {p : Nat → Nat → Bool} (h1 : p a 0 = true → wp d t lv r' h Q) (h2 : p a 0 = false → wx d K lv r' h Q) : wx d (x_cz p t K) lv (.inl a :: r') h Q := by
  rcases hp : p a 0 with _ | _
  · exact w_czf hp (h2 hp)
  · exact w_czt hp (h1 hp)
theorem w_ifn0 (hg : wp d t lv r' h Q) : wx d (x_ifn t K) lv (.inr (.inl none) :: r') h Q := hg
theorem w_ifn1 (hK : wx d K lv r' h Q) : wx d (x_ifn t K) lv (.inr (.inl (some q)) :: r') h Q := hK
theorem w_ifnn0 (hK : wx d K lv r' h Q) : wx d (x_ifnn t K) lv (.inr (.inl none) :: r') h Q := hK
theorem w_ifnn1 (hg : wp d t lv r' h Q) : wx d (x_ifnn t K) lv (.inr (.inl (some q)) :: r') h Q := hg
theorem w_tsw {lo : Nat} {ts : List Nat} (e : ∀ f : Nat → m_R, m_if (Nat.ble lo (Nat.mod a 4294967296)) (m_if (Nat.ble (Nat.succ (Nat.mod a 4294967296)) (Nat.add lo ts.length)) (m_get ts (Nat.sub (Nat.mod a 4294967296) lo) f) (f n)) (f n) = f t) (hg : wp d t lv r' h Q) : wx d (x_tsw lo ts n) lv (.inl a :: r') h Q := by
  obtain ⟨n0, r, h', e1, z⟩ := hg
  exact ⟨n0, r, h', fun m hn => t_tsw e (e1 m hn), z⟩
theorem w_lsw {ps : List (Nat × Nat)} (e : ∀ f : Nat → m_R, (List.rec (motive := fun _ => m_R) (f n) (fun p _ ih => m_if (m_beq a p.1) (f p.2) ih) ps : m_R) = f t) (hg : wp d t lv r' h Q) : wx d (x_lsw ps n) lv (.inl a :: r') h Q := by
  obtain ⟨n0, r, h', e1, z⟩ := hg
  exact ⟨n0, r, h', fun m hn => t_lsw e (e1 m hn), z⟩
theorem w_getf {cs : Nat → Bool} {k : Nat} {fs : List m_V} (ha : m_at h.2.2 q = some (.inr (.inr (c, fs)))) (hc : cs c = true) (hk : ∀ f : m_V → m_R, m_get fs k f = f v) (hK : wx d K lv (v :: r') h Q) : wx d (x_getf cs k K) lv (.inr (.inl (some q)) :: r') h Q := w_st (fun _ _ => t_getf (fun f => (mg_at ha).trans (by show m_if (cs c) _ _ = _; rw [hc]; exact hk f)) rfl) hK
theorem w_putf {cs : Nat → Bool} {ty : m_V → Bool} {k : Nat} {fs : List m_V} (fs' : List m_V) (ha : m_at h.2.2 q = some (.inr (.inr (c, fs)))) (e0 : ty v = true) (hc : cs c = true) (hk : Nat.ble (Nat.succ k) fs.length = true) (hf : ∀ f : List m_V → m_R, m_set fs k v f = f fs') (hK : ∀ h', h_st h q (.inr (.inr (c, fs'))) h' → wx d K lv r' h' Q) : wx d (x_putf cs ty k K) lv (v :: .inr (.inl (some q)) :: r') h Q := by
  obtain ⟨l', g1, g2, g3, g4⟩ := ms_at (e := .inr (.inr (c, fs'))) ha
  refine w_sh (h' := (h.1, h.2.1, l')) (fun _ _ => t_putf (h.1, h.2.1, l') e0 (fun f => ?_) rfl) (Nat.le_refl _) (Nat.le_refl _) (hK _ ⟨rfl, rfl, g2, g3, g4 _⟩)
  show m_hg h.2.2 q _ = _
  rw [mg_at ha]
  show m_if (cs c) (m_if (Nat.ble (Nat.succ k) fs.length) _ _) _ = _
  rw [hc, hk]
  show m_set fs k v _ = _
  rw [hf, g1]
theorem w_new {ci : Nat} {fs : List m_V} (hw : m_wf h.2.2 h.1) (hK : ∀ h', h_nw h (.inr (.inr (ci, fs))) n h' → wx d K lv (.inr (.inl (some h.1)) :: st) h' Q) : wx d (x_new ci n fs K) lv st h Q := by
  obtain ⟨l', g1, g2, g3, g4⟩ := mn_at (e := .inr (.inr (ci, fs))) hw
  refine w_sh (h' := (h.1 + 1, h.2.1 + n, l')) (fun go cl => ?_) (Nat.le_succ _) (Nat.le_add_right _ _) (hK _ ⟨rfl, rfl, g2, g3, g4⟩)
  show m_hn h.2.2 h.1 _ _ = _
  rw [g1, mf_eq, mf_eq]
  rfl
theorem w_newa {z : Bool} (hw : m_wf h.2.2 h.1) (hn : n ≤ 1000000) (hK : ∀ h', h_nw h (.inl (z, n, 0)) n h' → wx d K lv (.inr (.inl (some h.1)) :: r') h' Q) : wx d (x_newa z K) lv (.inl n :: r') h Q := by
  obtain ⟨l', g1, g2, g3, g4⟩ := mn_at (e := .inl (z, n, 0)) hw
  refine w_sh (h' := (h.1 + 1, h.2.1 + n, l')) (fun go cl => ?_) (Nat.le_succ _) (Nat.le_add_right _ _) (hK _ ⟨rfl, rfl, g2, g3, g4⟩)
  show m_if (Nat.ble n 1000000) (m_hn h.2.2 h.1 _ _) _ = _
  rw [show Nat.ble n 1000000 = true from Nat.ble_eq_true_of_le hn, g1, if_t, mf_eq, mf_eq]
  rfl
theorem w_ald {z : Bool} {A : Nat} (ha : m_at h.2.2 q = some (.inl (z, n, A))) (hi : i < n) (hK : wx d K lv (.inl (m_ag A i) :: r') h Q) : wx d (x_ald z K) lv (.inl i :: .inr (.inl (some q)) :: r') h Q := w_st (fun _ _ => t_ald _ (fun f => (mg_at ha).trans (by show m_if (Bool.xor z z) _ (m_if (Nat.ble (Nat.succ i) n) _ _) = _; rw [Bool.xor_self, show Nat.ble (Nat.succ i) n = true from Nat.ble_eq_true_of_le hi]; exact mf_eq)) rfl) hK
theorem w_aald {ci : Nat} {l : List (Option Nat)} (ha : m_at h.2.2 q = some (.inr (.inl (ci, n, l)))) (hi : i < n) (hl : l[i]? = some o) (hK : wx d K lv (.inr (.inl o) :: r') h Q) : wx d (x_aald K) lv (.inl i :: .inr (.inl (some q)) :: r') h Q := w_st (fun _ _ => t_aald (fun f => (mg_at ha).trans (by show m_if (Nat.ble (Nat.succ i) n) _ _ = _; rw [show Nat.ble (Nat.succ i) n = true from Nat.ble_eq_true_of_le hi]; show m_get l i f = _; rw [mi_get, hl])) rfl) hK
theorem w_ast {z : Bool} {A : Nat} (ha : m_at h.2.2 q = some (.inl (z, n, A))) (hi : i < n) (hK : ∀ h', h_st h q (.inl (z, n, m_au A i (Bool.rec (motive := fun _ => Nat) c (Nat.mod c 2) z))) h' → wx d K lv r' h' Q) : wx d (x_ast z K) lv (.inl c :: .inl i :: .inr (.inl (some q)) :: r') h Q := by
  obtain ⟨l', g1, g2, g3, g4⟩ := ms_at (e := .inl (z, n, m_au A i (Bool.rec (motive := fun _ => Nat) c (Nat.mod c 2) z))) ha
  refine w_sh (h' := (h.1, h.2.1, l')) (fun _ _ => t_ast (h.1, h.2.1, l') (fun f => ?_) rfl) (Nat.le_refl _) (Nat.le_refl _) (hK _ ⟨rfl, rfl, g2, g3, g4 _⟩)
  show m_hg h.2.2 q _ = _
  rw [mg_at ha]
  show m_if (Bool.xor z z) none (m_if (Nat.ble (Nat.succ i) n) _ _) = _
  rw [Bool.xor_self, show Nat.ble (Nat.succ i) n = true from Nat.ble_eq_true_of_le hi, if_f, if_t, mf_eq, g1]
theorem w_aast {ci : Nat} {p : Nat → Bool} {l : List (Option Nat)} (ha : m_at h.2.2 q = some (.inr (.inl (ci, n, l)))) (hi : i < n) (hv : ∀ k : m_R, m_isC h.2.2 o p k = k) (hK : ∀ h', h_st h q (.inr (.inl (ci, n, l.set i o))) h' → wx d K lv r' h' Q) : wx d (x_aast ci p K) lv (.inr (.inl o) :: .inl i :: .inr (.inl (some q)) :: r') h Q := by
  obtain ⟨l', g1, g2, g3, g4⟩ := ms_at (e := .inr (.inl (ci, n, l.set i o))) ha
  refine w_sh (h' := (h.1, h.2.1, l')) (fun _ _ => t_aast (h.1, h.2.1, l') (fun f => ?_) rfl) (Nat.le_refl _) (Nat.le_refl _) (hK _ ⟨rfl, rfl, g2, g3, g4 _⟩)
  show m_isC h.2.2 o p (m_hg h.2.2 q _) = _
  rw [hv, mg_at ha]
  show m_if (Nat.beq ci ci) (m_if (Nat.ble (Nat.succ i) n) _ _) _ = _
  rw [Nat.beq_refl, show Nat.ble (Nat.succ i) n = true from Nat.ble_eq_true_of_le hi]
  show m_set l i o _ = _
  rw [mi_set, g1]
theorem w_len {z : Bool} {A : Nat} (ha : m_at h.2.2 q = some (.inl (z, n, A))) (hK : wx d K lv (.inl n :: r') h Q) : wx d (x_len K) lv (.inr (.inl (some q)) :: r') h Q := w_st (fun _ _ => t_len _ (fun f => mg_at ha) rfl) hK
theorem w_lenq {ci : Nat} {l : List (Option Nat)} (ha : m_at h.2.2 q = some (.inr (.inl (ci, n, l)))) (hK : wx d K lv (.inl n :: r') h Q) : wx d (x_len K) lv (.inr (.inl (some q)) :: r') h Q := w_st (fun _ _ => t_len _ (fun f => mg_at ha) rfl) hK
theorem w_ca (e : ∀ f : List m_V → List m_V → m_R, m_take n st pads f = f as r') (es : Nat.ble (m_ln r') 4 = true) (hc : wp d key as [] h (fun v h1 => ∃ w, v = some w ∧ wx (d + 1) K lv (w :: r') h1 Q)) : wx (d + 1) (x_ca key n pads K) lv st h Q := by
  obtain ⟨n1, r, h1, e1, s1, s2, w, rfl, n2, r2, h2, e2, t1, t2, q⟩ := hc
  exact ⟨max n1 n2, r2, h2, fun n hn => t_ca e es (t_cl (e1 n (by omega))) (Nat.ble_eq_true_of_le s1) (Nat.ble_eq_true_of_le s2) (e2 n (by omega)), Nat.le_trans s1 t1, Nat.le_trans s2 t2, q⟩
theorem w_cv (e : ∀ f : List m_V → List m_V → m_R, m_take n st pads f = f as r') (es : Nat.ble (m_ln r') 4 = true) (hc : wp d key as [] h (fun v h1 => v = none ∧ wx (d + 1) K lv r' h1 Q)) : wx (d + 1) (x_cv key n pads K) lv st h Q := by
  obtain ⟨n1, r, h1, e1, s1, s2, rfl, n2, r2, h2, e2, t1, t2, q⟩ := hc
  exact ⟨max n1 n2, r2, h2, fun n hn => t_cv e es (t_cl (e1 n (by omega))) (Nat.ble_eq_true_of_le s1) (Nat.ble_eq_true_of_le s2) (e2 n (by omega)), Nat.le_trans s1 t1, Nat.le_trans s2 t2, q⟩
theorem w_rcv (e : ∀ x : m_R, m_get st n (fun v => m_pr [v] (fun _ _ => x)) = x) (hK : wx d K lv st h Q) : wx d (x_rcv n K) lv st h Q := w_st (fun _ _ => e _) hK
theorem w_this {fs : List m_V} (e : ∀ f : Nat → m_R, m_get st n (fun v => m_pr [v] (fun q _ => f q)) = f q) (ha : m_at h.2.2 q = some (.inr (.inr (c, fs)))) (hK : wx d K lv st h Q) : wx d (x_this n c K) lv st h Q := w_st (fun go cl => (e (fun q => m_hg h.2.2 q (fun e => m_obj e (fun c' _ => m_if (Nat.beq c' c) (K go cl lv st h) none)))).trans ((mg_at ha).trans (by show m_if (Nat.beq c c) _ _ = _; rw [Nat.beq_refl]; rfl))) hK
theorem w_max {x y : Int} (hx0 : -2147483648 ≤ x) (hx1 : x ≤ 2147483647) (hy0 : -2147483648 ≤ y) (hy1 : y ≤ 2147483647) (es : Nat.ble (m_ln r') 4 = true) (hK : ∀ z : Int, (x ≤ z ∧ y ≤ z ∧ (z = x ∨ z = y)) → wx d K lv (.inl (w_i z) :: r') h Q) : wx d (x_max K) lv (.inl (w_i y) :: .inl (w_i x) :: r') h Q := by
  rcases Int.lt_or_le x y with hl | hl
  · exact w_st (fun _ _ => t_max (fun f => by rw [i_lt_t hl hx0 hx1 hy0 hy1]; rfl) es rfl) (hK y (by omega))
  · exact w_st (fun _ _ => t_max (fun f => by rw [i_lt_f hl hx0 hx1 hy0 hy1]; rfl) es rfl) (hK x (by omega))
theorem w_min {x y : Int} (hx0 : -2147483648 ≤ x) (hx1 : x ≤ 2147483647) (hy0 : -2147483648 ≤ y) (hy1 : y ≤ 2147483647) (es : Nat.ble (m_ln r') 4 = true) (hK : ∀ z : Int, (z ≤ x ∧ z ≤ y ∧ (z = x ∨ z = y)) → wx d K lv (.inl (w_i z) :: r') h Q) : wx d (x_min K) lv (.inl (w_i y) :: .inl (w_i x) :: r') h Q := by
  rcases Int.lt_or_le y x with hl | hl
  · exact w_st (fun _ _ => t_min (fun f => by rw [i_lt_t hl hy0 hy1 hx0 hx1]; rfl) es rfl) (hK y (by omega))
  · exact w_st (fun _ _ => t_min (fun f => by rw [i_lt_f hl hy0 hy1 hx0 hx1]; rfl) es rfl) (hK x (by omega))
theorem w_oi (es : Nat.ble (m_ln r') 4 = true) (hK : wx d K lv r' h Q) : wx d (x_oi K) lv (.inr (.inl (some q)) :: r') h Q := w_st (fun _ _ => by show m_if (Nat.ble (m_ln r') 4) _ _ = _; rw [es]; rfl) hK
theorem w_rv (hq : Q none h) : wx d x_rv lv [] h Q := ⟨0, none, h, fun _ _ => rfl, Nat.le_refl _, Nat.le_refl _, hq⟩
theorem w_ri (hq : Q (some (.inl n)) h) : wx d x_ri lv [.inl n] h Q := ⟨0, some (.inl n), h, fun _ _ => rfl, Nat.le_refl _, Nat.le_refl _, hq⟩
theorem w_rz (hn : Nat.ble n 1 = true) (hq : Q (some (.inl n)) h) : wx d x_rz lv [.inl n] h Q := ⟨0, some (.inl n), h, fun _ _ => by show m_if (Nat.ble n 1) _ _ = _; rw [hn]; rfl, Nat.le_refl _, Nat.le_refl _, hq⟩
theorem w_rl (hq : Q (some (.inr (.inr (.inl n)))) h) : wx d x_rl lv [.inr (.inr (.inl n))] h Q := ⟨0, _, h, fun _ _ => rfl, Nat.le_refl _, Nat.le_refl _, hq⟩
theorem w_ra (hq : Q (some (.inr (.inl o))) h) : wx d x_ra lv [.inr (.inl o)] h Q := ⟨0, _, h, fun _ _ => rfl, Nat.le_refl _, Nat.le_refl _, hq⟩
end
/-! the same at ints by their values -/
section
variable {K : m_X} {lv r' : List m_V} {h : m_H} {d t q : Nat} {x y : Int} {Q : Option m_V → m_H → Prop}
theorem w_aldI {z : Bool} {A n : Nat} (ha : m_at h.2.2 q = some (.inl (z, n, A))) (h0 : 0 ≤ x) (h1 : x < n) (hn : n < 4294967296) (hK : wx d K lv (.inl (w_i (a_g A x)) :: r') h Q) : wx d (x_ald z K) lv (.inl (w_i x) :: .inr (.inl (some q)) :: r') h Q := w_ald ha (wi_lt_of h0 h1 hn) (by rw [← ag_wi]; exact hK)
theorem w_astI {A n : Nat} {v : Int} (ha : m_at h.2.2 q = some (.inl (false, n, A))) (h0 : 0 ≤ x) (h1 : x < n) (hn : n ≤ 2147483648) (hv0 : -2147483648 ≤ v) (hv1 : v ≤ 2147483647) (hK : ∀ A' h', (∀ j : Int, 0 ≤ j → j < n → a_g A' j = if j = x then v else a_g A j) → h_st h q (.inl (false, n, A')) h' → wx d K lv r' h' Q) : wx d (x_ast false K) lv (.inl (w_i v) :: .inl (w_i x) :: .inr (.inl (some q)) :: r') h Q := w_ast ha (wi_lt_of h0 h1 (by omega)) (fun h' hs => hK _ h' (fun j j0 j1 => ag_u h0 (by omega) hv0 hv1 j0 (by omega)) hs)
theorem w_astB {A n : Nat} {v : Int} (ha : m_at h.2.2 q = some (.inl (true, n, A))) (h0 : 0 ≤ x) (h1 : x < n) (hn : n ≤ 2147483648) (hv0 : 0 ≤ v) (hv1 : v ≤ 1) (hK : ∀ A' h', (∀ j : Int, 0 ≤ j → j < n → a_g A' j = if j = x then v else a_g A j) → h_st h q (.inl (true, n, A')) h' → wx d K lv r' h' Q) : wx d (x_ast true K) lv (.inl (w_i v) :: .inl (w_i x) :: .inr (.inl (some q)) :: r') h Q := w_ast ha (wi_lt_of h0 h1 (by omega)) (fun h' hs => hK _ h' (fun j j0 j1 => by
  rw [show (Bool.rec (motive := fun _ => Nat) (w_i v) (Nat.mod (w_i v) 2) true : Nat) = w_i v from Nat.mod_eq_of_lt (by rw [wi_pos hv0 (by omega)]; omega)]
  exact ag_u h0 (by omega) (by omega) (by omega) j0 (by omega)) hs)
theorem w_cpyI {A0 A1 n0 n1 q0 q1 : Nat} {sp dp n : Int} (ha0 : m_at h.2.2 q0 = some (.inl (false, n0, A0))) (ha1 : m_at h.2.2 q1 = some (.inl (false, n1, A1))) (s0 : 0 ≤ sp) (d0 : 0 ≤ dp) (k0 : 0 ≤ n) (s1 : sp + n ≤ n0) (d1 : dp + n ≤ n1) (b0 : n0 ≤ 2147483647) (b1 : n1 ≤ 2147483647) (es : Nat.ble (m_ln r') 4 = true) (hK : ∀ A' h', (∀ j : Int, 0 ≤ j → j < n1 → a_g A' j = if dp ≤ j ∧ j < dp + n then a_g A0 (sp + (j - dp)) else a_g A1 j) → h_st h q1 (.inl (false, n1, A')) h' → wx d K lv r' h' Q) : wx d (x_copy K) lv (.inl (w_i n) :: .inl (w_i dp) :: .inr (.inl (some q1)) :: .inl (w_i sp) :: .inr (.inl (some q0)) :: r') h Q := by
  have en := wi_pos k0 (show n < 4294967296 by omega)
  have es' := wi_pos s0 (show sp < 4294967296 by omega)
  have ed := wi_pos d0 (show dp < 4294967296 by omega)
  obtain ⟨A', g1, g2⟩ : ∃ A', (∀ kc : Nat → m_R, (Nat.rec (motive := fun _ => Nat → m_R) (fun B => kc B) (fun j ih B => m_f (m_au B (Nat.add (w_i dp) j) (m_ag A0 (Nat.add (w_i sp) j))) ih) (w_i n) A1 : m_R) = kc A') ∧ ∀ j, m_ag A' j = if w_i dp ≤ j ∧ j < w_i dp + w_i n then m_ag A0 (w_i sp + (j - w_i dp)) else m_ag A1 j := by
    have key : ∀ (m B : Nat), ∃ A', ∀ kc : Nat → m_R, (Nat.rec (motive := fun _ => Nat → m_R) (fun B => kc B) (fun j ih B => m_f (m_au B (Nat.add (w_i dp) j) (m_ag A0 (Nat.add (w_i sp) j))) ih) m B : m_R) = kc A' := by
      intro m
      induction m with
      | zero => intro B; exact ⟨B, fun _ => rfl⟩
      | succ m ih =>
        intro B
        obtain ⟨A', h1⟩ := ih (m_au B (Nat.add (w_i dp) m) (m_ag A0 (Nat.add (w_i sp) m)))
        refine ⟨A', fun kc => ?_⟩
        show m_f _ (Nat.rec (motive := fun _ => Nat → m_R) (fun B => kc B) (fun j ih B => m_f (m_au B (Nat.add (w_i dp) j) (m_ag A0 (Nat.add (w_i sp) j))) ih) m) = _
        rw [mf_eq]; exact h1 kc
    obtain ⟨A', h1⟩ := key (w_i n) A1
    obtain ⟨A2, h2, h3⟩ := mc_loop (A0 := A0) (sp := w_i sp) (dp := w_i dp) (kc := fun B => some (none, (B, 0, []))) (r := (none, (A', 0, []))) (w_i n) A1 (h1 _)
    cases h2
    exact ⟨A', h1, h3⟩
  obtain ⟨l', g3, g4, g5, g6⟩ := ms_at (e := .inl (false, n1, A')) ha1
  refine w_sh (h' := (h.1, h.2.1, l')) (fun go cl => ?_) (Nat.le_refl _) (Nat.le_refl _) (hK A' _ (fun j j0 j1 => ?_) ⟨rfl, rfl, g4, g5, g6 _⟩)
  · show m_if (Nat.ble (m_ln r') 4) (m_hg h.2.2 q0 _) none = _
    rw [es, if_t, mg_at ha0]
    show m_hg h.2.2 q1 _ = _
    rw [mg_at ha1]
    show m_if (Nat.ble (Nat.add (w_i sp) (w_i n)) n0) (m_if (Nat.ble (Nat.add (w_i dp) (w_i n)) n1) _ _) _ = _
    rw [show Nat.ble (Nat.add (w_i sp) (w_i n)) n0 = true from Nat.ble_eq_true_of_le (by show w_i sp + w_i n ≤ n0; omega), show Nat.ble (Nat.add (w_i dp) (w_i n)) n1 = true from Nat.ble_eq_true_of_le (by show w_i dp + w_i n ≤ n1; omega), if_t, if_t, g1, g3]
  · unfold a_g
    have ej := wi_pos j0 (show j < 4294967296 by omega)
    rw [g2]
    by_cases hj : dp ≤ j ∧ j < dp + n
    · rw [if_pos hj, if_pos (by omega), wi_pos (show 0 ≤ sp + (j - dp) by omega) (by omega), ej, es', ed]
      congr 2
      omega
    · rw [if_neg hj, if_neg (by omega)]
end
