/-! STRING CONSTANTS' length and chars -/
theorem len_i : ∀ k, k < 13 → m_len k ≤ 37 := by decide
theorem byt_i : ∀ k, k < 13 → ∀ j, j < m_len k → (m_byt k)[j]? = some ((m_byt k).getD j 0) ∧ (m_byt k).getD j 0 < 256 := by decide
section
variable {K : m_X} {lv r' : List m_V} {h : m_H} {d sk : Nat} {x : Int} {Q : Option m_V → m_H → Prop}
theorem w_sl (hs : sk < 13) (es : Nat.ble (m_ln r') 4 = true) (hK : wx d K lv (.inl (w_i ((m_len sk : Nat) : Int)) :: r') h Q) : wx d (x_sl m_len K) lv (.inr (.inr (.inr (sk + 1))) :: r') h Q := w_st (fun go cl => by
  show m_if (Nat.ble (m_ln r') 4) (m_if (Nat.ble (Nat.succ sk) 13) (m_f (m_len sk) (fun n => K go cl lv (.inl n :: r') h)) none) none = _
  rw [es, show Nat.ble (Nat.succ sk) 13 = true from Nat.ble_eq_true_of_le hs, if_t, if_t, mf_eq, wi_nat (by have := len_i sk hs; omega)]) hK
theorem w_sch (hs : sk < 13) (x0 : 0 ≤ x) (x1 : x < ((m_len sk : Nat) : Int)) (es : Nat.ble (m_ln r') 4 = true) (hK : ∀ c : Int, 0 ≤ c → c ≤ 255 → wx d K lv (.inl (w_i c) :: r') h Q) : wx d (x_sch m_byt K) lv (.inl (w_i x) :: .inr (.inr (.inr (sk + 1))) :: r') h Q := by
  have hl := len_i sk hs
  have e := wi_pos x0 (show x < 4294967296 by omega)
  obtain ⟨h1, h2⟩ := byt_i sk hs (w_i x) (by omega)
  refine w_st (fun go cl => ?_) (hK (((m_byt sk).getD (w_i x) 0 : Nat) : Int) (by omega) (by omega))
  show m_if (Nat.ble (m_ln r') 4) (m_get (m_byt sk) (w_i x) (fun n => K go cl lv (.inl n :: r') h)) none = _
  rw [es, if_t, mi_get, h1, wi_nat (by omega)]
end
def w_wr (g : w_G) (o : w_O) (h : m_H) (b : Int) : Prop := ∃ siz atp tok flt wri : Int, m_at h.2.2 18 = some (.inr (.inr (4, [.inr (.inl (some 19)), .inl (w_i siz), .inr (.inl (some 20)), .inr (.inl (some 21)), .inl (w_i atp), .inl (w_i tok), .inl (w_i flt), .inr (.inl (some 22)), .inl (w_i wri)]))) ∧ 0 ≤ siz ∧ siz ≤ 160 ∧ 0 ≤ atp ∧ atp ≤ 160 ∧ 0 ≤ tok ∧ tok ≤ 2147483647 ∧ -2147483648 ≤ flt ∧ flt ≤ 2147483647 ∧ 0 ≤ wri ∧ wri ≤ 160 ∧ b ≤ wri
theorem wr_fr {g : w_G} {o : w_O} {h h2 : m_H} {b : Int} {W : List Nat} (iv : w_Inv g o h) (wr : w_wr g o h b) (hf : w_fr o W h h2) (hW : W.contains 18 = false) : w_wr g o h2 b := by
  obtain ⟨siz, atp, tok, flt, wri, p9, rest⟩ := wr
  exact ⟨siz, atp, tok, flt, wri, fr_at hf p9 iv (ow_18 iv) hW rfl, rest⟩
