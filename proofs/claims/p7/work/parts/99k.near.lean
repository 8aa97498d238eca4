/-! WHAT A STEP COSTS as a number of its own, and the walk from all towns to one -/
noncomputable def w_bit (T j : Int) : Int := s_i (m_and (m_shr (w_i T) (w_i j)) (w_i 1))
theorem bit_of {A : Nat} {T j x y i : Int} (eT : a_g A i = T) (e1 : m_shr (w_i (a_g A i)) (w_i j) = w_i x) (e2 : m_and (w_i x) (w_i 1) = w_i y) (y0 : 0 ≤ y) (y1 : y ≤ 1) : w_bit T j = y := by
  unfold w_bit
  rw [← eT, e1, e2, si_wi (by omega) (by omega)]
noncomputable def w_cil (g : w_G) (S : Nat) (x i t : Int) (k : Nat) : Int := Nat.rec (motive := fun _ => Int) (a_g S (25 * i + 5 * w_dg g x i + t)) (fun j v => if 0 ≤ v ∧ w_bit (g_mT g i) j = 1 ∧ w_dg g x j = t then -5 else v) k
noncomputable def w_cip (g : w_G) (S : Nat) (x i t : Int) : Int := w_cil g S x i t (g_mH g).toNat
section
variable {g : w_G} {S : Nat} {x i t : Int}
theorem ci_s {j : Int} (j0 : 0 ≤ j) : w_cil g S x i t (j + 1).toNat = if 0 ≤ w_cil g S x i t j.toNat ∧ w_bit (g_mT g i) j = 1 ∧ w_dg g x j = t then -5 else w_cil g S x i t j.toNat := by
  obtain ⟨m, rfl⟩ := Int.eq_ofNat_of_zero_le j0
  rfl
theorem ci_neg {j : Nat} (h : w_cil g S x i t j < 0) (n : Nat) : w_cil g S x i t (j + n) = w_cil g S x i t j := by
  induction n with
  | zero => rfl
  | succ n ih =>
    have e := ci_s (g := g) (S := S) (x := x) (i := i) (t := t) (j := ((j + n : Nat) : Int)) (by omega)
    have e1 : (((j + n : Nat) : Int) + 1).toNat = j + (n + 1) := by omega
    have e2 : ((j + n : Nat) : Int).toNat = j + n := by omega
    rw [e1, e2, ih] at e
    rw [e]
    exact if_neg (fun z => absurd z.1 (by omega))
theorem ci_end {va j : Int} (ve : va = w_cil g S x i t j.toNat) (j0 : 0 ≤ j) (j1 : j ≤ g_mH g) (h : g_mH g ≤ j ∨ va < 0) : va = w_cip g S x i t := by
  unfold w_cip
  rcases h with h | h
  · rw [ve, show j = g_mH g from by omega]
  · have e := ci_neg (g := g) (S := S) (x := x) (i := i) (t := t) (j := j.toNat) (by omega) ((g_mH g).toNat - j.toNat)
    rw [show j.toNat + ((g_mH g).toNat - j.toNat) = (g_mH g).toNat from by omega] at e
    rw [e]; exact ve
theorem dg_bs {f : Int} (hc : 1 ≤ g_mC g) (f0 : 0 ≤ f) (f1 : f < g_mC g) : w_dg g (w_bs g x i f) i = f := by
  unfold w_bs
  have hu := pw_pos hc i
  have e0 : w_dg g x i = x / w_pw (g_mC g) i - g_mC g * (x / w_pw (g_mC g) i / g_mC g) := by
    have := Int.emod_def (x / w_pw (g_mC g) i) (g_mC g)
    unfold w_dg; omega
  show (x + w_pw (g_mC g) i * (f - w_dg g x i)) / w_pw (g_mC g) i % g_mC g = f
  rw [Int.add_mul_ediv_left x _ (by omega), e0]
  generalize x / w_pw (g_mC g) i = q
  rw [show q + (f - (q - g_mC g * (q / g_mC g))) = f + g_mC g * (q / g_mC g) from by omega, Int.add_mul_emod_self_left, Int.emod_eq_of_lt f0 f1]
theorem bs_bs {f : Int} (hc : 1 ≤ g_mC g) (f0 : 0 ≤ f) (f1 : f < g_mC g) : w_bs g (w_bs g x i f) i (w_dg g x i) = x := by
  have e := dg_bs (g := g) (x := x) (i := i) hc f0 f1
  unfold w_bs at e ⊢
  rw [e]
  have : w_pw (g_mC g) i * (f - w_dg g x i) + w_pw (g_mC g) i * (w_dg g x i - f) = 0 := by
    rw [← Int.mul_add, show f - w_dg g x i + (w_dg g x i - f) = 0 from by omega, Int.mul_zero]
  omega
theorem bs_rg (hc : 1 ≤ g_mC g) (i0 : 0 ≤ i) (i1 : i < g_mH g) (hN : g_mN g = w_pw (g_mC g) (g_mH g)) (x0 : 0 ≤ x) (x1 : x < g_mN g) (t0 : 0 ≤ t) (t1 : t < g_mC g) : 0 ≤ w_bs g x i t ∧ w_bs g x i t < g_mN g := by
  have := dig_st (c := g_mC g) (i := i) (n := g_mH g) (x := x) (t := t) hc i0 i1 x0 (by omega) t0 t1
  rw [← hN] at this
  exact this
end
def w_sx (g : w_G) (o : w_O) (h : m_H) (S : Nat) : Prop := m_at h.2.2 55 = some (.inl (false, 150, S))
theorem sx_fr {g : w_G} {o : w_O} {h h2 : m_H} {S : Nat} {W : List Nat} (iv : w_Inv g o h) (sx : w_sx g o h S) (hf : w_fr o W h h2) (hW : W.contains 55 = false) : w_sx g o h2 S := fr_at hf sx iv (ow_55 iv) hW rfl
/-- each town that is met has a step to one that is one nearer -/
def w_nr (g : w_G) (S A : Nat) : Prop := ∀ v : Int, 0 ≤ v → v < g_mN g → 0 < a_g A v → ∃ i t : Int, 0 ≤ i ∧ i < g_mH g ∧ 0 ≤ t ∧ t < g_mC g ∧ 0 ≤ w_cip g S v i t ∧ a_g A (w_bs g v i t) = a_g A v - 1
def w_BT (g : w_G) (o : w_O) (h : m_H) (m : Int) : Prop := ∃ S A B : Nat, w_sx g o h S ∧ m_at h.2.2 60 = some (.inl (false, 4096, A)) ∧ m_at h.2.2 59 = some (.inl (false, 4097, B)) ∧ 1 ≤ m ∧ m ≤ g_mN g ∧ w_cnt (-1) A (g_mN g).toNat = m ∧ (∀ v : Int, 0 ≤ v → v < g_mN g → -1 ≤ a_g A v ∧ a_g A v < m) ∧ (∀ j : Int, 0 ≤ j → j < m → 0 ≤ a_g B j ∧ a_g B j < g_mN g) ∧ w_nr g S A
/-- at a town so far at least from the other -/
def w_BA (g : w_G) (o : w_O) (h : m_H) (x k : Int) : Prop := ∃ S A : Nat, w_sx g o h S ∧ m_at h.2.2 60 = some (.inl (false, 4096, A)) ∧ w_nr g S A ∧ 0 ≤ x ∧ x < g_mN g ∧ k ≤ a_g A x
def w_BW (g : w_G) (o : w_O) (h : m_H) (x k s : Int) : Prop := ∃ (S A : Nat) (wi wt : Int), w_sx g o h S ∧ m_at h.2.2 60 = some (.inl (false, 4096, A)) ∧ w_nr g S A ∧ 0 ≤ x ∧ x < g_mN g ∧ k ≤ a_g A x ∧ 0 ≤ wi ∧ wi < g_mH g ∧ 0 ≤ wt ∧ wt < g_mC g ∧ 0 ≤ w_cip g S x wi wt ∧ a_g A (w_bs g x wi wt) = a_g A x - 1 ∧ 0 ≤ s ∧ s ≤ 5 * wi + wt
def w_BX (g : w_G) (o : w_O) (h : m_H) (x k s : Int) : Prop := 0 ≤ s ∧ s / 5 < g_mH g ∧ s % 5 < g_mC g ∧ w_BA g o h (w_bs g x (s / 5) (s % 5)) k
section
variable {g : w_G} {o : w_O} {h h2 : m_H} {m x k s : Int} {W : List Nat}
theorem bt_fr (iv : w_Inv g o h) (bt : w_BT g o h m) (hf : w_fr o W h h2) (hW : (W.contains 60 || W.contains 59 || W.contains 55) = false) : w_BT g o h2 m := by
  rw [Bool.or_eq_false_iff, Bool.or_eq_false_iff] at hW
  obtain ⟨S, A, B, sx, p60, p59, rest⟩ := bt
  exact ⟨S, A, B, sx_fr iv sx hf hW.2, fr_at hf p60 iv (ow_60 iv) hW.1.1 rfl, fr_at hf p59 iv (ow_59 iv) hW.1.2 rfl, rest⟩
theorem ba_fr (iv : w_Inv g o h) (ba : w_BA g o h x k) (hf : w_fr o W h h2) (hW : (W.contains 60 || W.contains 55) = false) : w_BA g o h2 x k := by
  rw [Bool.or_eq_false_iff] at hW
  obtain ⟨S, A, sx, p60, rest⟩ := ba
  exact ⟨S, A, sx_fr iv sx hf hW.2, fr_at hf p60 iv (ow_60 iv) hW.1 rfl, rest⟩
theorem bw_fr (iv : w_Inv g o h) (bw : w_BW g o h x k s) (hf : w_fr o W h h2) (hW : (W.contains 60 || W.contains 55) = false) : w_BW g o h2 x k s := by
  rw [Bool.or_eq_false_iff] at hW
  obtain ⟨S, A, wi, wt, sx, p60, rest⟩ := bw
  exact ⟨S, A, wi, wt, sx_fr iv sx hf hW.2, fr_at hf p60 iv (ow_60 iv) hW.1 rfl, rest⟩
theorem bx_fr (iv : w_Inv g o h) (bx : w_BX g o h x k s) (hf : w_fr o W h h2) (hW : (W.contains 60 || W.contains 55) = false) : w_BX g o h2 x k s := ⟨bx.1, bx.2.1, bx.2.2.1, ba_fr iv bx.2.2.2 hf hW⟩
theorem bw_of (ba : w_BA g o h x k) (hk : 1 ≤ k) : w_BW g o h x k 0 := by
  obtain ⟨S, A, sx, p60, nr, x0, x1, hx⟩ := ba
  obtain ⟨i, t, i0, i1, t0, t1, hc, ha⟩ := nr x x0 x1 (by omega)
  exact ⟨S, A, i, t, sx, p60, nr, x0, x1, hx, i0, i1, t0, t1, hc, ha, by omega, by omega⟩
theorem bt_0 {S A A1 B1 : Nat} {t : Int} (hN : g_mN g ≤ 4096) (sx : w_sx g o h S) (hA : ∀ j : Int, 0 ≤ j → j < g_mN g → a_g A j = -1) (t0 : 0 ≤ t) (t1 : t < g_mN g) (hA1 : ∀ j : Int, 0 ≤ j → j < (4096 : Nat) → a_g A1 j = if j = t then 0 else a_g A j) (p60 : m_at h.2.2 60 = some (.inl (false, 4096, A1))) (p59 : m_at h.2.2 59 = some (.inl (false, 4097, B1))) (hB : a_g B1 0 = t) : w_BT g o h 1 := by
  have e1 := cv_upd (c := -1) (A := A) (A' := A1) (x := t) (v := 0) t0 (hA t t0 t1) (by decide) (n := (g_mN g).toNat) (by omega) (fun j j0 j1 => hA1 j j0 (by omega))
  rw [cv_0 (fun j j0 j1 => hA j j0 (by omega))] at e1
  have hv : ∀ v : Int, 0 ≤ v → v < g_mN g → -1 ≤ a_g A1 v ∧ a_g A1 v < 1 := fun v v0 v1 => by
    rw [hA1 v v0 (by omega)]
    by_cases hv : v = t
    · rw [if_pos hv]; omega
    · rw [if_neg hv, hA v v0 v1]; omega
  refine ⟨S, A1, B1, sx, p60, p59, by omega, by omega, by omega, hv, fun j j0 j1 => ?_, fun v v0 v1 hp => ?_⟩
  · obtain rfl : j = 0 := by omega
    rw [hB]; exact ⟨t0, t1⟩
  · have := hv v v0 v1
    omega
theorem bt_s {S A B A1 B1 : Nat} {q f i : Int} (hc : 1 ≤ g_mC g) (hNp : g_mN g = w_pw (g_mC g) (g_mH g)) (hN : g_mN g ≤ 4096) (q1 : 1 ≤ m) (q2 : w_cnt (-1) A (g_mN g).toNat = m) (q3 : ∀ v : Int, 0 ≤ v → v < g_mN g → -1 ≤ a_g A v ∧ a_g A v < m) (q4 : ∀ j : Int, 0 ≤ j → j < m → 0 ≤ a_g B j ∧ a_g B j < g_mN g) (q6 : w_nr g S A)
    {b d cst : Int} (a0 : 0 ≤ q) (a1 : q < g_mN g) (i0 : 0 ≤ i) (i1 : i < g_mH g) (f0 : 0 ≤ f) (f1 : f < g_mC g) (hb : b = w_bs g q i f) (hb0 : a_g A b < 0) (hd : d = w_dg g q i) (hcst : cst = w_cip g S b i d) (c0 : 0 ≤ cst)
    (hA1 : ∀ j : Int, 0 ≤ j → j < (4096 : Nat) → a_g A1 j = if j = b then a_g A q + 1 else a_g A j) (hB1 : ∀ j : Int, 0 ≤ j → j < (4097 : Nat) → a_g B1 j = if j = m then b else a_g B j) (sx : w_sx g o h S) (p60 : m_at h.2.2 60 = some (.inl (false, 4096, A1))) (p59 : m_at h.2.2 59 = some (.inl (false, 4097, B1))) : w_BT g o h (m + 1) := by
  have hbr := bs_rg (g := g) (x := q) (i := i) (t := f) hc i0 i1 hNp a0 a1 f0 f1
  rw [← hb] at hbr
  have hq := (q3 b hbr.1 hbr.2).1
  have hq2 := q3 q a0 a1
  have e1 := cv_upd (c := -1) (A := A) (A' := A1) (x := b) (v := a_g A q + 1) hbr.1 (by omega) (by omega) (n := (g_mN g).toNat) (by omega) (fun j j0 j1 => hA1 j j0 (by omega))
  have e2 := (cv_le (-1) A1 (g_mN g).toNat).2
  have hback : w_bs g b i d = q := by rw [hb, hd]; exact bs_bs hc f0 f1
  have hd0 : 0 ≤ d ∧ d < g_mC g := by rw [hd]; exact ⟨Int.emod_nonneg _ (by omega), Int.emod_lt_of_pos _ (by omega)⟩
  refine ⟨S, A1, B1, sx, p60, p59, by omega, by omega, by omega, fun v v0 v1 => ?_, fun j j0 j1 => ?_, fun v v0 v1 hp => ?_⟩
  · rw [hA1 v v0 (by omega)]
    have := q3 v v0 v1
    by_cases hv : v = b
    · rw [if_pos hv]; omega
    · rw [if_neg hv]; omega
  · rw [hB1 j j0 (by omega)]
    by_cases hj : j = m
    · rw [if_pos hj]; exact hbr
    · rw [if_neg hj]; exact q4 j j0 (by omega)
  · rw [hA1 v v0 (by omega)] at hp ⊢
    by_cases hv : v = b
    · rw [if_pos hv] at hp ⊢
      refine ⟨i, d, i0, i1, hd0.1, hd0.2, by rw [hv, ← hcst]; exact c0, ?_⟩
      rw [hv, hback, hA1 q a0 (by omega), if_neg (fun e => by rw [e] at hp; omega)]
      omega
    · rw [if_neg hv] at hp ⊢
      obtain ⟨i', t', j0, j1, t0, t1, hc', ha'⟩ := q6 v v0 v1 hp
      have hr := bs_rg (g := g) (x := v) (i := i') (t := t') hc j0 j1 hNp v0 v1 t0 t1
      refine ⟨i', t', j0, j1, t0, t1, hc', ?_⟩
      rw [hA1 _ hr.1 (by omega), if_neg (fun e => by rw [e] at ha'; omega)]
      exact ha'
end
theorem bte_fr {g : w_G} {o : w_O} {h h2 : m_H} {W : List Nat} (iv : w_Inv g o h) (bt : ∃ m : Int, w_BT g o h m) (hf : w_fr o W h h2) (hW : (W.contains 60 || W.contains 59 || W.contains 55) = false) : ∃ m : Int, w_BT g o h2 m := bt.imp fun _ b => bt_fr iv b hf hW
