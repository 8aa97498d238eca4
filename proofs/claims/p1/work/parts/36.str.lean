section OK7
variable {Γ : m_G} {tab : Nat → Option m_M} {k : Nat} {M : m_M} {pc : Nat} {K : m_X}
theorem ok_lsw {dk len : Nat} {ps : List (Nat × Nat)} {dflt : Int} {qs : Array (Int × Int)} (hd : decode M.2.1 pc = .ok (.lookupswitch dflt qs, len)) (h1 : qs.toList = ps.map (fun q : Nat × Nat => ((m_sg q.1 : Int) - 2147483648, (q.2 : Int) - ((4096 * k : Nat) : Int) - (pc : Int)))) (h2 : (Nat.ble (4096 * k) dk && Nat.ble (Nat.succ dk) (4096 * k + 4096) && decide (dflt = (dk : Int) - ((4096 * k : Nat) : Int) - (pc : Int))) = true) (h3 : (ps.all (fun q => Nat.ble (4096 * k) q.2 && Nat.ble (Nat.succ q.2) (4096 * k + 4096)) && (qs.toList.zip (qs.toList.drop 1)).all (fun (a, next) => a.1 < next.1)) = true) : m_ok Γ tab k M pc (x_lsw ps dk) := by
  sorry
theorem ok_sl {i : Nat} (hd : decode M.2.1 pc = .ok (.invokevirtual i, 3)) (hw : Cond.methodLink M.1.cls i yJ0_length_8abf5 ∈ m_T) (hK : m_ok Γ tab k M (pc + 3) K) : m_ok Γ tab k M pc (x_sl m_len K) := by
  sorry
theorem ok_sch {i : Nat} (hd : decode M.2.1 pc = .ok (.invokevirtual i, 3)) (hw : Cond.methodLink M.1.cls i yJ0_charAt_5068e ∈ m_T) (hK : m_ok Γ tab k M (pc + 3) K) : m_ok Γ tab k M pc (x_sch m_byt K) := by
  sorry
end OK7
