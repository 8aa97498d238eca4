def z_ok (o : m_R) : Bool := match o with
  | some (some (.inl n), (c, s, _)) => Nat.beq n 1 && Nat.ble c 600000 && Nat.ble s 7302250
  | _ => false
set_option maxRecDepth 100000 in
theorem z_ctor : z_ok (m_run (m_cg [12,0,0,0,0,0]) 100000 100 0 [.inr (.inr (.inr 0)), .inr (.inr (.inl 0)), .inr (.inr (.inl 0)), .inr (.inr (.inl 0))] [] (0, 0, [])) = true := by decide +kernel
