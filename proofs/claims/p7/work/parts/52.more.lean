/-! MORE FUEL for the instructions of part 32.more -/
theorem mo_vc {K : m_X} {j n : Nat} {tb : List (Nat × Nat × List m_V)} (hK : m_mo K) : m_mo (x_vc j n tb K) := fun go go' cl cl' hg hc lv st h => le_get fun _ => le_pr fun _ _ => le_hg fun _ => le_obj fun _ _ => by
  induction tb with
  | nil => exact le_none
  | cons p tb ih => exact le_if (mo_ca hK go go' cl cl' hg hc lv st h) ih
theorem mo_ins {K : m_X} {yes no : List Nat} (hK : m_mo K) : m_mo (x_ins yes no K) := fun _ _ _ _ hg hc _ _ _ => le_po fun _ _ => le_opt le_none (fun _ => le_hg fun _ => le_obj fun _ _ => le_if (hK _ _ _ _ hg hc _ _ _) (le_if (hK _ _ _ _ hg hc _ _ _) le_none))
theorem mo_pl2 {K : m_X} (hK : m_mo K) : m_mo (x_pl2 K) := fun _ _ _ _ hg hc _ _ _ => le_pl fun _ _ => hK _ _ _ _ hg hc _ _ _
