/-! more steps -/
section
variable {K : m_X} {go : m_I} {cl : m_C} {lv st r' : List m_V} {h : m_H} {r : m_R} {n d a b c t dp sp q0 q1 : Nat}
theorem t_lsw {ps : List (Nat × Nat)} (e : ∀ f : Nat → m_R, (List.rec (motive := fun _ => m_R) (f d) (fun p _ ih => m_if (m_beq a p.1) (f p.2) ih) ps : m_R) = f t) (hg : go t lv r' h = r) : x_lsw ps d go cl lv (.inl a :: r') h = r := (e (fun t => go t lv r' h)).trans hg
theorem t_itl (e : m_i2l a = c) (hK : K go cl lv (.inr (.inr (.inl c)) :: r') h = r) : x_i2l K go cl lv (.inl a :: r') h = r := by
  subst e
  show m_f (m_i2l a) (fun n => K go cl lv (.inr (.inr (.inl n)) :: r') h) = r
  rw [mf_eq]; exact hK
theorem t_copy (h' : m_H) (es : Nat.ble (m_ln r') 4 = true) (e : ∀ f : m_H → m_R, m_hp h (fun a b hl => m_hg hl q0 (fun e0 => m_arr e0 (fun z0 n0 A0 => m_hg hl q1 (fun e1 => m_arr e1 (fun z1 n1 A1 => m_if (Bool.or z0 z1) none (m_if (Nat.ble (Nat.add sp n) n0) (m_if (Nat.ble (Nat.add dp n) n1) (Nat.rec (motive := fun _ => Nat → m_R) (fun A => m_hs hl q1 (.inl (z1, n1, A)) (fun hl' => f (a, b, hl'))) (fun j ih A => m_f (m_au A (Nat.add dp j) (m_ag A0 (Nat.add sp j))) ih) n A1) none) none)))))) = f h') (hK : K go cl lv r' h' = r) : x_copy K go cl lv (.inl n :: .inl dp :: .inr (.inl (some q1)) :: .inl sp :: .inr (.inl (some q0)) :: r') h = r := by
  show m_if (Nat.ble (m_ln r') 4) _ _ = r
  rw [es, if_t]
  exact (e (fun h => K go cl lv r' h)).trans hK
end
