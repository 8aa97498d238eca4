/-! MORE INSTRUCTIONS: a call by the receiver's class, super.m(..), instanceof, pop2 -/
noncomputable def m_any (l : List Nat) (c : Nat) : Bool := List.rec (motive := fun _ => Bool) false (fun x _ ih => Bool.or (Nat.beq x c) ih) l
/-- j is the receiver's place on the stack; for each class the method that is run -/
noncomputable def x_vc (j n : Nat) (tb : List (Nat × Nat × List m_V)) (K : m_X) : m_X := fun go cl lv st h => m_get st j (fun v => m_pr [v] (fun q _ => m_hg h.2.2 q (fun e => m_obj e (fun c _ => (List.rec (motive := fun _ => m_R) none (fun p _ ih => m_if (Nat.beq c p.1) (x_ca p.2.1 n p.2.2 K go cl lv st h) ih) tb : m_R)))))
noncomputable def x_ins (yes no : List Nat) (K : m_X) : m_X := fun go cl lv st h => m_po st (fun o r => Option.rec (motive := fun _ => m_R) none (fun q => m_hg h.2.2 q (fun e => m_obj e (fun c _ => m_if (m_any yes c) (K go cl lv (.inl 1 :: r) h) (m_if (m_any no c) (K go cl lv (.inl 0 :: r) h) none)))) o)
noncomputable def x_pl2 (K : m_X) : m_X := fun go cl lv st h => m_pl st (fun _ r => K go cl lv r h)
section OK
variable {Γ : m_G} {tab : Nat → Option m_M} {k : Nat} {M : m_M} {pc : Nat} {K : m_X}
theorem ok_pl2 (hd : decode M.2.1 pc = .ok (.pop2, 1)) (hK : m_ok Γ tab k M (pc + 1) K) : m_ok Γ tab k M pc (x_pl2 K) := by
  refine ok_step hK ?_
  intro p l e R s m args below meth c A Q d fr go cl lv st h r hX
  obtain ⟨n, t, rfl, h2⟩ := mx_pl hX
  refine ⟨lv, _, h2, fun ad ws tys H locs ls vs ad0 cells slots _ _ hh hl hv kk => ?_⟩
  obtain ⟨w, vt, rfl, hw, hv⟩ := hv
  cases (show w = .long (lN n) from hw)
  exact lv_pop2_2 fr.1 fr.2.1 hd rfl (kk ls _ hl hv)
theorem ok_ins {i : Nat} {nm : String} {yes no : List Nat} (hd : decode M.2.1 pc = .ok (.instanceof i, 3)) (hl : Cond.classLink M.1.cls i nm ∈ m_T) (hy : ∀ c, m_any yes c = true → ∃ q : vw_C, vwCl[c]? = some q ∧ (q.1 = nm ∨ ∀ (A : Nat → Prop) (s : State), m_Ev Γ A s → va_Nw (.castable q.1 nm) s)) (hn : ∀ c, m_any no c = true → ∃ q : vw_C, vwCl[c]? = some q ∧ ∀ (A : Nat → Prop) (s : State), m_Ev Γ A s → va_Nc q.1 nm s) (hK : m_ok Γ tab k M (pc + 3) K) : m_ok Γ tab k M pc (x_ins yes no K) := by
  refine ok_gen hK ?_
  intro p l e R s m args below meth c A Q d fr go cl hck lv st h r hX
  obtain ⟨o, t, rfl, h2⟩ := mx_po hX
  cases o with
  | none => cases h2
  | some q =>
    obtain ⟨e0, h3, h4⟩ := mx_hg h2
    obtain ⟨ci, fs, rfl, h5⟩ := mx_obj h4
    rcases mx_if h5 with ⟨z, h6⟩ | ⟨z, h6⟩
    · refine ⟨lv, _, h, h6, Nat.le_refl _, Nat.le_refl _, fun ad ws tys H locs ls vs ad0 cells slots hh hl' hv hc1 hc2 kk => ?_⟩
      obtain ⟨w, vt, rfl, ⟨a, ha, rfl⟩, hv⟩ := hv
      obtain ⟨a2, gs, g1, g2, g3⟩ := hh_obj hh h3
      cases ha.symm.trans g1
      obtain ⟨q', j1, j2⟩ := hy ci z
      have hr := va_recv hh.2.2.2.1 hh.2.2.1 j1 g2
      have := kk ad ws tys H locs ls (.int 1 :: vt) hh hl' ⟨_, _, rfl, rfl, hv⟩
      simp only [Nat.sub_self, Nat.add_zero] at this
      rcases j2 with j2 | j2
      · have hk := (hh.2.2.2.1.1 ci q' j1).2
        rw [j2] at hr hk
        exact va_instS fr.1 fr.2.1 fr.2.2.2.1 (fr.2.2.2.2.1 _ hl) hk hr hd this
      · exact va_instY fr.1 fr.2.1 fr.2.2.2.1 (fr.2.2.2.2.1 _ hl) (j2 A s fr.2.2.2.2.2.2.2.2.2.1) hr hd this
    · obtain ⟨z2, h7⟩ := mx_ift h6
      refine ⟨lv, _, h, h7, Nat.le_refl _, Nat.le_refl _, fun ad ws tys H locs ls vs ad0 cells slots hh hl' hv hc1 hc2 kk => ?_⟩
      obtain ⟨w, vt, rfl, ⟨a, ha, rfl⟩, hv⟩ := hv
      obtain ⟨a2, gs, g1, g2, g3⟩ := hh_obj hh h3
      cases ha.symm.trans g1
      obtain ⟨q', j1, j2⟩ := hn ci z2
      have hr := va_recv hh.2.2.2.1 hh.2.2.1 j1 g2
      have := kk ad ws tys H locs ls (.int 0 :: vt) hh hl' ⟨_, _, rfl, rfl, hv⟩
      simp only [Nat.sub_self, Nat.add_zero] at this
      exact va_instNo fr.1 fr.2.1 fr.2.2.2.1 (fr.2.2.2.2.1 _ hl) (j2 A s fr.2.2.2.2.2.2.2.2.2.1) hr hd this
/-- by the receiver's class: each way is right -/
theorem ok_vc {j n : Nat} {tb : List (Nat × Nat × List m_V)} (hb : ∀ p ∈ tb, m_ok Γ tab k M pc (x_this j p.1 (x_ca p.2.1 n p.2.2 K))) : m_ok Γ tab k M pc (x_vc j n tb K) := by
  intro p l e R s m args below meth c A Q ad0 h0 d fr r h' hq go cl hgo hcl lv st h hX
  obtain ⟨v, h1, h2⟩ := mx_get hX
  obtain ⟨q, t0, h3, h4⟩ := mx_pr h2
  cases h3
  obtain ⟨e0, h5, h6⟩ := mx_hg h4
  obtain ⟨ci, fs, rfl, h7⟩ := mx_obj h6
  have key : ∃ pp ∈ tb, ci = pp.1 ∧ x_ca pp.2.1 n pp.2.2 K go cl lv st h = some (r, h') := by
    clear hb hX h2 h4 h6
    induction tb with
    | nil => cases h7
    | cons pp tb ih =>
      rcases mx_if h7 with ⟨z, h8⟩ | ⟨z, h8⟩
      · exact ⟨pp, List.mem_cons_self, Nat.eq_of_beq_eq_true z, h8⟩
      · obtain ⟨p2, g1, g2⟩ := ih h8
        exact ⟨p2, List.mem_cons_of_mem _ g1, g2⟩
  obtain ⟨pp, g1, rfl, g2⟩ := key
  refine hb pp g1 p l e R s m args below meth c A Q ad0 h0 d fr r h' hq go cl hgo hcl lv st h ?_
  show m_get st j (fun v => m_pr [v] (fun q _ => m_hg h.2.2 q (fun e => m_obj e (fun c _ => m_if (Nat.beq c pp.1) (x_ca pp.2.1 n pp.2.2 K go cl lv st h) none)))) = _
  rw [mi_get, h1]
  show m_hg h.2.2 q (fun e => m_obj e (fun c _ => m_if (Nat.beq c pp.1) (x_ca pp.2.1 n pp.2.2 K go cl lv st h) none)) = _
  obtain ⟨cc, i1, i2⟩ := mw_at h5
  show m_get h.2.2 (Nat.div q 8) _ = _
  rw [mi_get, show h.2.2[Nat.div q 8]? = some cc from i1]
  show m_get cc (Nat.mod q 8) _ = _
  rw [mi_get, show cc[Nat.mod q 8]? = some _ from i2]
  show m_if (Nat.beq pp.1 pp.1) _ none = _
  rw [Nat.beq_refl]
  exact g2
set_option maxRecDepth 20000 in
/-- the method that a class C has for what x names -/
theorem go_U {M2 : m_M} {n i ci : Nat} {q : vw_C} {x : MethodName} {b0 : ByteArray} {m0 : Nat} {r0 : Option FieldType} (hd : decode M.2.1 pc = .ok (.invokevirtual i, 3)) (h1 : Cond.methodLink M.1.cls i x ∈ m_T) (h2 : Cond.sameMethod x.cls x.cls x.name x.desc ∈ m_T) (h3 : Cond.instanceMethod ⟨x.cls, x.name, x.desc⟩ ∈ m_T) (h4 : Cond.selects q.1 x M2.1 ∈ m_T) (h5 : Cond.instanceMethod M2.1 ∈ m_T) (h6 : Cond.initialized M2.1.cls ∈ m_T) (h7 : Cond.code M2.1 M2.2.1 M2.2.2.1 M2.2.2.2 ∈ m_T) (h0 : Cond.code ⟨x.cls, x.name, x.desc⟩ b0 m0 r0 ∈ m_T) (hnn : x.cls ≠ "java/lang/invoke/MethodHandle" ∧ x.cls ≠ "java/lang/invoke/VarHandle" ∧ (parseMethodDescriptor x.desc).map (fun d => d.parameters.length) = some n) (hml : M2.2.2.1 ≤ 21) (hc : vwCl[ci]? = some q) : m_go Γ M pc M2 (n + 1) (m_rc ci) := by
  intro p l e R s m args below meth c A d fr as h h1' v hlen hrc hct ad0 ad ws tys H locs ls vs rest cells slots hh hls hv hsum hc1 hc2
  obtain ⟨q0, fs, t, rfl, hat⟩ := hrc
  obtain ⟨w, vt, rfl, ⟨a, ha, rfl⟩, hv2⟩ := hv
  obtain ⟨a2, gs, g1, g2, g3⟩ := hh_obj hh hat
  cases ha.symm.trans g1
  have hl2 := ms_len hv2
  simp at hlen
  have hR1 := fr.2.2.2.2.2.2.2.2.2.2.1
  have hR2 := fr.2.2.2.2.2.2.2.2.2.2.2.1
  have hpre := call_pre fr hh (.ref a :: vt)
  have hM := hct ad ws tys H.size (.ref a :: vt) ⟨_, _, rfl, ⟨a, ha, rfl⟩, hv2⟩ hh.2.1
  have hG : GoodIn m_T (va_wsO M.1.cls i q.1 x.cls x M2.1 (m_w M2)) := gi_app (gi (fun w hw => by
    simp only [List.mem_cons, List.not_mem_nil, or_false] at hw
    rcases hw with rfl | rfl | rfl | rfl | rfl | rfl <;> assumption)) (gi (gi_w h7))
  exact va_runU (g := F0 m pc ls ((.ref a :: vt).reverse ++ rest)) (As := vt) (rest := rest) (C := q.1) ⟨fr.1, fr.2.1, fr.2.2.1, fr.2.2.2.1, fr.2.2.2.2.1⟩ hM (va_cwO n fr.2.2.2.2.1 hG rfl rfl rfl h0 hnn ⟨by show d + 7 + 1 ≤ _; omega, by show 8 + (M2.2.2.1 + 11) + 40 * (d + 7) ≤ _; omega⟩) ⟨hpre.1, va_recv hh.2.2.2.1 hh.2.2.1 hc g2, hpre.2⟩ rfl (by rw [hl2]; exact hlen) hls (by simp) (lv_room hsum) hd ⟨hc1, hc2⟩
set_option maxRecDepth 20000 in
/-- super.m(..) on an object of class ci -/
theorem go_SU {M2 : m_M} {n i ci : Nat} {q : vw_C} (hd : decode M.2.1 pc = .ok (.invokespecial i, 3)) (h1 : Cond.methodLink M.1.cls i M2.1 ∈ m_T) (h2 : Cond.sameMethod M2.1.cls M2.1.cls M2.1.name M2.1.desc ∈ m_T) (h3 : Cond.superclass M.1.cls M2.1.cls ∈ m_T) (h5 : Cond.instanceMethod M2.1 ∈ m_T) (h6 : Cond.initialized M2.1.cls ∈ m_T) (h7 : Cond.code M2.1 M2.2.1 M2.2.2.1 M2.2.2.2 ∈ m_T) (hno : M2.1.name ≠ "<init>") (hnn : m_nn M2 n) (hml : M2.2.2.1 ≤ 21) (hc : vwCl[ci]? = some q) : m_go Γ M pc M2 (n + 1) (m_rc ci) := by
  intro p l e R s m args below meth c A d fr as h h1' v hlen hrc hct ad0 ad ws tys H locs ls vs rest cells slots hh hls hv hsum hc1 hc2
  obtain ⟨q0, fs, t, rfl, hat⟩ := hrc
  obtain ⟨w, vt, rfl, ⟨a, ha, rfl⟩, hv2⟩ := hv
  obtain ⟨a2, gs, g1, g2, g3⟩ := hh_obj hh hat
  cases ha.symm.trans g1
  have hl2 := ms_len hv2
  simp at hlen
  have hR1 := fr.2.2.2.2.2.2.2.2.2.2.1
  have hR2 := fr.2.2.2.2.2.2.2.2.2.2.2.1
  have hpre := call_pre fr hh (.ref a :: vt)
  have hM := hct ad ws tys H.size (.ref a :: vt) ⟨_, _, rfl, ⟨a, ha, rfl⟩, hv2⟩ hh.2.1
  have hG : GoodIn m_T (va_wsSU M.1.cls i M2.1 (m_w M2)) := gi_app (gi (fun w hw => by
    simp only [List.mem_cons, List.not_mem_nil, or_false] at hw
    rcases hw with rfl | rfl | rfl | rfl | rfl <;> assumption)) (gi (gi_w h7))
  exact va_runSU (g := F0 m pc ls ((.ref a :: vt).reverse ++ rest)) (As := vt) (rest := rest) (C := q.1) (hh.2.2.2.1.1 ci q hc).2 ⟨fr.1, fr.2.1, fr.2.2.1, fr.2.2.2.1, fr.2.2.2.2.1⟩ hM (va_cwSU n fr.2.2.2.2.1 hG rfl rfl rfl ⟨hno, hnn.2.2⟩ ⟨by show d + 7 + 1 ≤ _; omega, by show 8 + (M2.2.2.1 + 11) + 40 * (d + 7) ≤ _; omega⟩) ⟨hpre.1, va_recv hh.2.2.2.1 hh.2.2.1 hc g2, hpre.2⟩ rfl (by rw [hl2]; exact hlen) hls (by simp) (lv_room hsum) hd ⟨hc1, hc2⟩
end OK
theorem hca {l : List Nat} {P : Nat → Prop} (h : ∀ c ∈ l, P c) : ∀ c, m_any l c = true → P c := by
  intro c hc
  induction l with
  | nil => cases hc
  | cons x l ih =>
    replace hc : Bool.or (Nat.beq x c) (m_any l c) = true := hc
    cases hb : Nat.beq x c with
    | true => have e := Nat.eq_of_beq_eq_true hb; subst e; exact h _ List.mem_cons_self
    | false => rw [hb] at hc; exact ih (fun y hy => h y (List.mem_cons_of_mem _ hy)) hc
