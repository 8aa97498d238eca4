/-! STRING CONSTANTS: length and charAt, walked through the JDK's own code; a switch by pairs -/
abbrev J_coder : m_M := (⟨"java/lang/String", "coder", "()B"⟩, prog_17_method_152_code, 1, (Option.some Jvm.ClassFile.FieldType.byte))
theorem e_coder_0 : decode prog_17_method_152_code 0 = .ok (.getstatic 38, 3) := by decide +kernel
theorem e_coder_3 : decode prog_17_method_152_code 3 = .ok (.ifCond .eq 10, 3) := by decide +kernel
theorem e_coder_6 : decode prog_17_method_152_code 6 = .ok (.aload_n 0, 1) := by decide +kernel
theorem e_coder_7 : decode prog_17_method_152_code 7 = .ok (.getfield 15, 3) := by decide +kernel
theorem e_coder_10 : decode prog_17_method_152_code 10 = .ok (.goto 4, 3) := by decide +kernel
theorem e_coder_13 : decode prog_17_method_152_code 13 = .ok (.iconst 1, 1) := by decide +kernel
theorem e_coder_14 : decode prog_17_method_152_code 14 = .ok (.ireturn, 1) := by decide +kernel
theorem jn_coder : m_nn J_coder 0 := by unfold m_nn; exact ⟨by decide +kernel, by decide +kernel, by decide +kernel⟩
abbrev J_length : m_M := (⟨"java/lang/String", "length", "()I"⟩, prog_17_method_54_code, 1, (Option.some Jvm.ClassFile.FieldType.int))
theorem e_length_0 : decode prog_17_method_54_code 0 = .ok (.aload_n 0, 1) := by decide +kernel
theorem e_length_1 : decode prog_17_method_54_code 1 = .ok (.getfield 9, 3) := by decide +kernel
theorem e_length_4 : decode prog_17_method_54_code 4 = .ok (.arraylength, 1) := by decide +kernel
theorem e_length_5 : decode prog_17_method_54_code 5 = .ok (.aload_n 0, 1) := by decide +kernel
theorem e_length_6 : decode prog_17_method_54_code 6 = .ok (.invokevirtual 335, 3) := by decide +kernel
theorem e_length_9 : decode prog_17_method_54_code 9 = .ok (.ishr, 1) := by decide +kernel
theorem e_length_10 : decode prog_17_method_54_code 10 = .ok (.ireturn, 1) := by decide +kernel
theorem jn_length : m_nn J_length 0 := by unfold m_nn; exact ⟨by decide +kernel, by decide +kernel, by decide +kernel⟩
abbrev J_isLatin1 : m_M := (⟨"java/lang/String", "isLatin1", "()Z"⟩, prog_17_method_154_code, 1, (Option.some Jvm.ClassFile.FieldType.boolean))
theorem e_isLatin1_0 : decode prog_17_method_154_code 0 = .ok (.getstatic 38, 3) := by decide +kernel
theorem e_isLatin1_3 : decode prog_17_method_154_code 3 = .ok (.ifCond .eq 14, 3) := by decide +kernel
theorem e_isLatin1_6 : decode prog_17_method_154_code 6 = .ok (.aload_n 0, 1) := by decide +kernel
theorem e_isLatin1_7 : decode prog_17_method_154_code 7 = .ok (.getfield 15, 3) := by decide +kernel
theorem e_isLatin1_10 : decode prog_17_method_154_code 10 = .ok (.ifCond .ne 7, 3) := by decide +kernel
theorem e_isLatin1_13 : decode prog_17_method_154_code 13 = .ok (.iconst 1, 1) := by decide +kernel
theorem e_isLatin1_14 : decode prog_17_method_154_code 14 = .ok (.goto 4, 3) := by decide +kernel
theorem e_isLatin1_17 : decode prog_17_method_154_code 17 = .ok (.iconst 0, 1) := by decide +kernel
theorem e_isLatin1_18 : decode prog_17_method_154_code 18 = .ok (.ireturn, 1) := by decide +kernel
theorem jn_isLatin1 : m_nn J_isLatin1 0 := by unfold m_nn; exact ⟨by decide +kernel, by decide +kernel, by decide +kernel⟩
abbrev J_lch : m_M := (⟨"java/lang/StringLatin1", "charAt", "([BI)C"⟩, prog_18_method_2_code, 2, (Option.some Jvm.ClassFile.FieldType.char))
theorem e_lch_0 : decode prog_18_method_2_code 0 = .ok (.iload_n 1, 1) := by decide +kernel
theorem e_lch_1 : decode prog_18_method_2_code 1 = .ok (.aload_n 0, 1) := by decide +kernel
theorem e_lch_2 : decode prog_18_method_2_code 2 = .ok (.arraylength, 1) := by decide +kernel
theorem e_lch_3 : decode prog_18_method_2_code 3 = .ok (.invokestatic 9, 3) := by decide +kernel
theorem e_lch_6 : decode prog_18_method_2_code 6 = .ok (.aload_n 0, 1) := by decide +kernel
theorem e_lch_7 : decode prog_18_method_2_code 7 = .ok (.iload_n 1, 1) := by decide +kernel
theorem e_lch_8 : decode prog_18_method_2_code 8 = .ok (.baload, 1) := by decide +kernel
theorem e_lch_9 : decode prog_18_method_2_code 9 = .ok (.sipush 255, 3) := by decide +kernel
theorem e_lch_12 : decode prog_18_method_2_code 12 = .ok (.iand, 1) := by decide +kernel
theorem e_lch_13 : decode prog_18_method_2_code 13 = .ok (.i2c, 1) := by decide +kernel
theorem e_lch_14 : decode prog_18_method_2_code 14 = .ok (.ireturn, 1) := by decide +kernel
theorem jn_lch : m_nn J_lch 2 := by unfold m_nn; exact ⟨by decide +kernel, by decide +kernel, by decide +kernel⟩
abbrev J_chk : m_M := (⟨"java/lang/String", "checkIndex", "(II)V"⟩, prog_17_method_155_code, 2, (Option.none : Option Jvm.ClassFile.FieldType))
theorem e_chk_0 : decode prog_17_method_155_code 0 = .ok (.iload_n 0, 1) := by decide +kernel
theorem e_chk_1 : decode prog_17_method_155_code 1 = .ok (.iload_n 1, 1) := by decide +kernel
theorem e_chk_2 : decode prog_17_method_155_code 2 = .ok (.getstatic 1053, 3) := by decide +kernel
theorem e_chk_5 : decode prog_17_method_155_code 5 = .ok (.invokestatic 1059, 3) := by decide +kernel
theorem e_chk_8 : decode prog_17_method_155_code 8 = .ok (.pop, 1) := by decide +kernel
theorem e_chk_9 : decode prog_17_method_155_code 9 = .ok (.return_, 1) := by decide +kernel
theorem jn_chk : m_nn J_chk 2 := by unfold m_nn; exact ⟨by decide +kernel, by decide +kernel, by decide +kernel⟩
abbrev J_pre : m_M := (⟨"jdk/internal/util/Preconditions", "checkIndex", "(IILjava/util/function/BiFunction;)I"⟩, prog_21_method_11_code, 3, (Option.some Jvm.ClassFile.FieldType.int))
theorem e_pre_0 : decode prog_21_method_11_code 0 = .ok (.iload_n 0, 1) := by decide +kernel
theorem e_pre_1 : decode prog_21_method_11_code 1 = .ok (.ifCond .lt 8, 3) := by decide +kernel
theorem e_pre_4 : decode prog_21_method_11_code 4 = .ok (.iload_n 0, 1) := by decide +kernel
theorem e_pre_5 : decode prog_21_method_11_code 5 = .ok (.iload_n 1, 1) := by decide +kernel
theorem e_pre_6 : decode prog_21_method_11_code 6 = .ok (.if_icmp .lt 10, 3) := by decide +kernel
theorem e_pre_9 : decode prog_21_method_11_code 9 = .ok (.aload_n 2, 1) := by decide +kernel
theorem e_pre_10 : decode prog_21_method_11_code 10 = .ok (.iload_n 0, 1) := by decide +kernel
theorem e_pre_11 : decode prog_21_method_11_code 11 = .ok (.iload_n 1, 1) := by decide +kernel
theorem e_pre_12 : decode prog_21_method_11_code 12 = .ok (.invokestatic 95, 3) := by decide +kernel
theorem e_pre_16 : decode prog_21_method_11_code 16 = .ok (.iload_n 0, 1) := by decide +kernel
theorem e_pre_17 : decode prog_21_method_11_code 17 = .ok (.ireturn, 1) := by decide +kernel
theorem jn_pre : m_nn J_pre 3 := by unfold m_nn; exact ⟨by decide +kernel, by decide +kernel, by decide +kernel⟩
abbrev J_charAt : m_M := (⟨"java/lang/String", "charAt", "(I)C"⟩, prog_17_method_56_code, 2, (Option.some Jvm.ClassFile.FieldType.char))
theorem e_charAt_0 : decode prog_17_method_56_code 0 = .ok (.aload_n 0, 1) := by decide +kernel
theorem e_charAt_1 : decode prog_17_method_56_code 1 = .ok (.invokevirtual 492, 3) := by decide +kernel
theorem e_charAt_4 : decode prog_17_method_56_code 4 = .ok (.ifCond .eq 12, 3) := by decide +kernel
theorem e_charAt_7 : decode prog_17_method_56_code 7 = .ok (.aload_n 0, 1) := by decide +kernel
theorem e_charAt_8 : decode prog_17_method_56_code 8 = .ok (.getfield 9, 3) := by decide +kernel
theorem e_charAt_11 : decode prog_17_method_56_code 11 = .ok (.iload_n 1, 1) := by decide +kernel
theorem e_charAt_12 : decode prog_17_method_56_code 12 = .ok (.invokestatic 495, 3) := by decide +kernel
theorem e_charAt_15 : decode prog_17_method_56_code 15 = .ok (.ireturn, 1) := by decide +kernel
theorem e_charAt_16 : decode prog_17_method_56_code 16 = .ok (.aload_n 0, 1) := by decide +kernel
theorem e_charAt_17 : decode prog_17_method_56_code 17 = .ok (.getfield 9, 3) := by decide +kernel
theorem e_charAt_20 : decode prog_17_method_56_code 20 = .ok (.iload_n 1, 1) := by decide +kernel
theorem e_charAt_21 : decode prog_17_method_56_code 21 = .ok (.invokestatic 498, 3) := by decide +kernel
theorem e_charAt_24 : decode prog_17_method_56_code 24 = .ok (.ireturn, 1) := by decide +kernel
theorem jn_charAt : m_nn J_charAt 1 := by unfold m_nn; exact ⟨by decide +kernel, by decide +kernel, by decide +kernel⟩
def m_r2 (n : Nat) : Room := { frames := n, cells := 0, slots := 0, locals := 40 * n }
abbrev m_no : Nat → Prop := fun _ => False
theorem c_coder (l : Launch) (Γ : m_G) (i : Nat) (hi : i < 13) : Met l J_coder.1 (m_w J_coder) (m_r2 0) (va_Pc [.ref (Γ.2.2.1 i)] (fun U => m_Ev Γ m_no U)) (QcRead 0) 0 0 m_no := by
  refine va_MetF (cc := J_coder.2.1) (maxL := 1) (ret := J_coder.2.2.2) (by decide +kernel) rfl ?_
  intro p e s m args below meth c s₁ B hml hv
  obtain ⟨rfl, hE⟩ := hv
  have hx := B.exec
  have hb := B.bytes
  have hr := B.returns
  have hts : ∀ w ∈ m_T, w.before _ s = true := fun w hw => atoms_spec (ws := m_w J_coder) B.pre w (List.mem_cons_of_mem _ hw)
  have hown : s.vm.findClass J_coder.1.cls = some m.cls := findClass_of_methodNamed B.named
  have hlocks := B.notSynchronized
  have hS : va_S m_no s.heap s.heap [] := va_S.rf
  have hl := lv_entry ([.ref (Γ.2.2.1 i)]) (n := 1) (Nat.le_of_ble_eq_true rfl)
  rw [lg_entry_eq]
  generalize (lg_sl ([.ref (Γ.2.2.1 i)]) ++ List.replicate (1 - (lg_sl ([.ref (Γ.2.2.1 i)])).length) Slot.unset).toArray = ls at hl ⊢
  have hl : lv_has ls 1 [(0, .ref (Γ.2.2.1 i))] := hl
  obtain ⟨adV, hS4⟩ := hE.1
  obtain ⟨s1, s2, s3, s4⟩ := hS4.1 i hi
  refine va_gets hx hb hE.2.2.1 hS hown (hts _ w_186) (fun _ h => h) e_coder_0 ?_
  refine lv_if_eq (tgt := 13) hx hb e_coder_3 (by decide) (fun h => absurd h (by decide)) (fun _ => ?_)
  refine lv_aload_n hx hb e_coder_6 rfl (lv_at hl 0 rfl) ?_
  refine vk_getf hx hb s2 hS hown (hts _ w_1373) (fun _ h => h) e_coder_7 ?_
  refine lv_goto (tgt := 14) hx hb e_coder_10 (by decide) ?_
  exact W.zret (ty := .byte) hx hb hr rfl (fun t ht hW => ⟨rfl, ht⟩) (fun q h => by cases h) e_coder_14
theorem c_isLatin1 (l : Launch) (Γ : m_G) (i : Nat) (hi : i < 13) : Met l J_isLatin1.1 (m_w J_isLatin1) (m_r2 0) (va_Pc [.ref (Γ.2.2.1 i)] (fun U => m_Ev Γ m_no U)) (QcRead 1) 0 0 m_no := by
  refine va_MetF (cc := J_isLatin1.2.1) (maxL := 1) (ret := J_isLatin1.2.2.2) (by decide +kernel) rfl ?_
  intro p e s m args below meth c s₁ B hml hv
  obtain ⟨rfl, hE⟩ := hv
  have hx := B.exec
  have hb := B.bytes
  have hr := B.returns
  have hts : ∀ w ∈ m_T, w.before _ s = true := fun w hw => atoms_spec (ws := m_w J_isLatin1) B.pre w (List.mem_cons_of_mem _ hw)
  have hown : s.vm.findClass J_isLatin1.1.cls = some m.cls := findClass_of_methodNamed B.named
  have hlocks := B.notSynchronized
  have hS : va_S m_no s.heap s.heap [] := va_S.rf
  have hl := lv_entry ([.ref (Γ.2.2.1 i)]) (n := 1) (Nat.le_of_ble_eq_true rfl)
  rw [lg_entry_eq]
  generalize (lg_sl ([.ref (Γ.2.2.1 i)]) ++ List.replicate (1 - (lg_sl ([.ref (Γ.2.2.1 i)])).length) Slot.unset).toArray = ls at hl ⊢
  have hl : lv_has ls 1 [(0, .ref (Γ.2.2.1 i))] := hl
  obtain ⟨adV, hS4⟩ := hE.1
  obtain ⟨s1, s2, s3, s4⟩ := hS4.1 i hi
  refine va_gets hx hb hE.2.2.1 hS hown (hts _ w_186) (fun _ h => h) e_isLatin1_0 ?_
  refine lv_if_eq (tgt := 17) hx hb e_isLatin1_3 (by decide) (fun h => absurd h (by decide)) (fun _ => ?_)
  refine lv_aload_n hx hb e_isLatin1_6 rfl (lv_at hl 0 rfl) ?_
  refine vk_getf hx hb s2 hS hown (hts _ w_1373) (fun _ h => h) e_isLatin1_7 ?_
  refine lv_if_ne (tgt := 17) hx hb e_isLatin1_10 (by decide) (fun h => absurd rfl h) (fun _ => ?_)
  refine lv_iconst (v := 1) hx hb e_isLatin1_13 (by decide) ?_
  refine lv_goto (tgt := 18) hx hb e_isLatin1_14 (by decide) ?_
  exact W.zret (ty := .boolean) hx hb hr rfl (fun t ht hW => ⟨rfl, ht⟩) (fun q h => by cases h) e_isLatin1_18
theorem ev_no {Γ : m_G} {A : Nat → Prop} {s U : State} {H : Heap} {locs : List Loc} (h : m_Ev Γ A s) (hS : va_S A s.heap H locs) (hU : U.heap = H) (hW : s.WarmedH U.vm) : m_Ev Γ m_no U := h.call hS hU hW (fun _ z => z.elim)
theorem fb_ev {Γ : m_G} {vs : List Value} : FrameBlind (va_Pc vs (fun U => m_Ev Γ m_no U)) := fun a U g mk q => ⟨q.1, m_Ev.same (u := U) (U := U.calling g mk a) rfl rfl q.2⟩
theorem sh_len : ∀ i, i < 13 → Int32.ofNat (m_lenL.getD i 0) >>> ((0 : Int32) &&& 31) = nI (m_len i) := by decide +kernel
theorem w_V {M2 : m_M} {own : String} {i : Nat} (h1 : Cond.methodLink own i M2.1 ∈ m_T) (h2 : Cond.instanceMethod M2.1 ∈ m_T) (h3 : Cond.selects M2.1.cls M2.1 M2.1 ∈ m_T) (h4 : Cond.initialized M2.1.cls ∈ m_T) (h5 : Cond.code M2.1 M2.2.1 M2.2.2.1 M2.2.2.2 ∈ m_T) : GoodIn m_T (wsV own i M2.1.cls M2.1 (m_w M2)) := gi_app (gi_4 h1 h2 h3 h4) (gi (gi_w h5))
theorem w_S {M2 : m_M} {own : String} {i : Nat} (h1 : Cond.methodLink own i M2.1 ∈ m_T) (h2 : Cond.static M2.1 ∈ m_T) (h4 : Cond.initialized M2.1.cls ∈ m_T) (h5 : Cond.code M2.1 M2.2.1 M2.2.2.1 M2.2.2.2 ∈ m_T) : GoodIn m_T (va_wsS own i M2.1 (m_w M2)) := gi_app (gi_3 h1 h2 h4) (gi (gi_w h5))
theorem c_length (l : Launch) (Γ : m_G) (i : Nat) (hi : i < 13) : Met l J_length.1 (m_w J_length) (m_r2 1) (va_Pc [.ref (Γ.2.2.1 i)] (fun U => m_Ev Γ m_no U)) (QcRead (nI (m_len i))) 0 0 m_no := by
  refine va_MetF (cc := J_length.2.1) (maxL := 1) (ret := J_length.2.2.2) (by decide +kernel) rfl ?_
  intro p e s m args below meth c s₁ B hml hv
  obtain ⟨rfl, hE⟩ := hv
  have hx := B.exec
  have hb := B.bytes
  have hr := B.returns
  have hts : ∀ w ∈ m_T, w.before _ s = true := fun w hw => atoms_spec (ws := m_w J_length) B.pre w (List.mem_cons_of_mem _ hw)
  have hown : s.vm.findClass J_length.1.cls = some m.cls := findClass_of_methodNamed B.named
  have hlocks := B.notSynchronized
  have hS : va_S m_no s.heap s.heap [] := va_S.rf
  have hl := lv_entry ([.ref (Γ.2.2.1 i)]) (n := 1) (Nat.le_of_ble_eq_true rfl)
  rw [lg_entry_eq]
  generalize (lg_sl ([.ref (Γ.2.2.1 i)]) ++ List.replicate (1 - (lg_sl ([.ref (Γ.2.2.1 i)])).length) Slot.unset).toArray = ls at hl ⊢
  have hl : lv_has ls 1 [(0, .ref (Γ.2.2.1 i))] := hl
  obtain ⟨adV, hS4⟩ := hE.1
  obtain ⟨s1, s2, s3, s4⟩ := hS4.1 i hi
  refine lv_aload_n hx hb e_length_0 rfl (lv_at hl 0 rfl) ?_
  refine vk_getf hx hb s3 hS hown (hts _ w_1372) (fun _ h => h) e_length_1 ?_
  refine va_tlen hx hb s4 hS rfl e_length_4 ?_
  refine lv_aload_n hx hb e_length_5 rfl (lv_at hl 0 rfl) ?_
  refine W.callR (W.runV (As := []) (rest := [.int (Int32.ofNat (m_lenL.getD i 0))]) ⟨hx, hb, hml, hown, hts⟩ (c_coder l Γ i hi) (cwV 0 hts (w_V w_182 w_183 w_184 w_5 w_185) rfl rfl rfl ⟨rfl, jn_coder.1, jn_coder.2.1, jn_coder.2.2⟩ ⟨by decide, by decide⟩) ⟨fb_ev, vk_recv hS4 hi hS, fun U hU hW => ⟨rfl, ev_no hE hS hU hW⟩⟩ rfl rfl hl.1 rfl (lv_room (Nat.le_of_ble_eq_true rfl)) e_length_6 ⟨Nat.le_refl _, Nat.le_refl _⟩) ?_
  refine W.eq (g2 := F0 m 9 ls [.int 0, .int (Int32.ofNat (m_lenL.getD i 0))]) rfl ?_
  refine lv_ishr hx hb e_length_9 ?_
  rw [sh_len i hi]
  exact W.zret (ty := .int) hx hb hr rfl (fun t ht hW => ⟨rfl, ht⟩) (fun q h => by cases h) e_length_10
theorem c_pre (l : Launch) (Γ : m_G) (a n : Nat) (h1 : a < n) (h2 : n < 2 ^ 31) (v : Value) (hv0 : v = .null ∨ ∃ t, v = .ref t) : Met l J_pre.1 (m_w J_pre) (m_r2 0) (va_Pc [.int (nI a), .int (nI n), v] (fun _ => True)) (QcRead (nI a)) 0 0 m_no := by
  rcases hv0 with rfl | ⟨t0, rfl⟩
  · refine va_MetF (cc := J_pre.2.1) (maxL := 3) (ret := J_pre.2.2.2) (by decide +kernel) rfl ?_
    intro p e s m args below meth c s₁ B hml hv
    obtain ⟨rfl, -⟩ := hv
    have hx := B.exec
    have hb := B.bytes
    have hr := B.returns
    have hts : ∀ w ∈ m_T, w.before _ s = true := fun w hw => atoms_spec (ws := m_w J_pre) B.pre w (List.mem_cons_of_mem _ hw)
    have hown : s.vm.findClass J_pre.1.cls = some m.cls := findClass_of_methodNamed B.named
    have hlocks := B.notSynchronized
    have hS : va_S m_no s.heap s.heap [] := va_S.rf
    have hl := lv_entry ([.int (nI a), .int (nI n), .null]) (n := 3) (Nat.le_of_ble_eq_true rfl)
    rw [lg_entry_eq]
    generalize (lg_sl ([.int (nI a), .int (nI n), .null]) ++ List.replicate (3 - (lg_sl ([.int (nI a), .int (nI n), .null])).length) Slot.unset).toArray = ls at hl ⊢
    have hl : lv_has ls 3 [(0, .int (nI a)), (1, .int (nI n)), (2, .null)] := hl
    refine lv_iload_n hx hb e_pre_0 rfl (lv_at hl 0 rfl) ?_
    refine lv_if_lt (tgt := 9) hx hb e_pre_1 (by decide) (fun h => absurd h (nI_pos (by omega))) (fun _ => ?_)
    refine lv_iload_n hx hb e_pre_4 rfl (lv_at hl 0 rfl) ?_
    refine lv_iload_n hx hb e_pre_5 rfl (lv_at hl 1 rfl) ?_
    refine lv_icmp_lt (tgt := 16) hx hb e_pre_6 (by decide) (fun _ => ?_) (fun h => absurd (nI_lt h1 h2) h)
    refine lv_iload_n hx hb e_pre_16 rfl (lv_at hl 0 rfl) ?_
    exact W.zret (ty := .int) hx hb hr rfl (fun t ht hW => ⟨rfl, ht⟩) (fun q h => by cases h) e_pre_17
  · refine va_MetF (cc := J_pre.2.1) (maxL := 3) (ret := J_pre.2.2.2) (by decide +kernel) rfl ?_
    intro p e s m args below meth c s₁ B hml hv
    obtain ⟨rfl, -⟩ := hv
    have hx := B.exec
    have hb := B.bytes
    have hr := B.returns
    have hts : ∀ w ∈ m_T, w.before _ s = true := fun w hw => atoms_spec (ws := m_w J_pre) B.pre w (List.mem_cons_of_mem _ hw)
    have hown : s.vm.findClass J_pre.1.cls = some m.cls := findClass_of_methodNamed B.named
    have hlocks := B.notSynchronized
    have hS : va_S m_no s.heap s.heap [] := va_S.rf
    have hl := lv_entry ([.int (nI a), .int (nI n), .ref t0]) (n := 3) (Nat.le_of_ble_eq_true rfl)
    rw [lg_entry_eq]
    generalize (lg_sl ([.int (nI a), .int (nI n), .ref t0]) ++ List.replicate (3 - (lg_sl ([.int (nI a), .int (nI n), .ref t0])).length) Slot.unset).toArray = ls at hl ⊢
    have hl : lv_has ls 3 [(0, .int (nI a)), (1, .int (nI n)), (2, .ref t0)] := hl
    refine lv_iload_n hx hb e_pre_0 rfl (lv_at hl 0 rfl) ?_
    refine lv_if_lt (tgt := 9) hx hb e_pre_1 (by decide) (fun h => absurd h (nI_pos (by omega))) (fun _ => ?_)
    refine lv_iload_n hx hb e_pre_4 rfl (lv_at hl 0 rfl) ?_
    refine lv_iload_n hx hb e_pre_5 rfl (lv_at hl 1 rfl) ?_
    refine lv_icmp_lt (tgt := 16) hx hb e_pre_6 (by decide) (fun _ => ?_) (fun h => absurd (nI_lt h1 h2) h)
    refine lv_iload_n hx hb e_pre_16 rfl (lv_at hl 0 rfl) ?_
    exact W.zret (ty := .int) hx hb hr rfl (fun t ht hW => ⟨rfl, ht⟩) (fun q h => by cases h) e_pre_17
theorem c_chk (l : Launch) (Γ : m_G) (a n : Nat) (h1 : a < n) (h2 : n < 2 ^ 31) : Met l J_chk.1 (m_w J_chk) (m_r2 1) (va_Pc [.int (nI a), .int (nI n)] (fun U => m_Ev Γ m_no U)) (fun _ st oc t => oc = .returned none ∧ t.heap = st.heap) 0 0 m_no := by
  refine va_MetF (cc := J_chk.2.1) (maxL := 2) (ret := J_chk.2.2.2) (by decide +kernel) rfl ?_
  intro p e s m args below meth c s₁ B hml hv
  obtain ⟨rfl, hE⟩ := hv
  have hx := B.exec
  have hb := B.bytes
  have hr := B.returns
  have hts : ∀ w ∈ m_T, w.before _ s = true := fun w hw => atoms_spec (ws := m_w J_chk) B.pre w (List.mem_cons_of_mem _ hw)
  have hown : s.vm.findClass J_chk.1.cls = some m.cls := findClass_of_methodNamed B.named
  have hlocks := B.notSynchronized
  have hS : va_S m_no s.heap s.heap [] := va_S.rf
  have hl := lv_entry ([.int (nI a), .int (nI n)]) (n := 2) (Nat.le_of_ble_eq_true rfl)
  rw [lg_entry_eq]
  generalize (lg_sl ([.int (nI a), .int (nI n)]) ++ List.replicate (2 - (lg_sl ([.int (nI a), .int (nI n)])).length) Slot.unset).toArray = ls at hl ⊢
  have hl : lv_has ls 2 [(0, .int (nI a)), (1, .int (nI n))] := hl
  refine lv_iload_n hx hb e_chk_0 rfl (lv_at hl 0 rfl) ?_
  refine lv_iload_n hx hb e_chk_1 rfl (lv_at hl 1 rfl) ?_
  have go : ∀ v : Value, (v = .null ∨ ∃ t, v = .ref t) → va_Z "jdk/internal/util/Preconditions" "SIOOBE_FORMATTER" "Ljava/util/function/BiFunction;" v m_no s s.heap → W p l e (m_r2 1) s m [Value.int (nI a), Value.int (nI n)].toArray below meth c s.heap [] 0 0 (MQ below (fun _ st oc t => oc = .returned none ∧ t.heap = st.heap) [Value.int (nI a), Value.int (nI n)].toArray s 0 0 m_no) (F0 m 2 ls [.int (nI n), .int (nI a)]) := by
    intro v hv0 hZ
    refine va_gets hx hb hZ hS hown (hts _ w_202) (fun _ h => h) e_chk_2 ?_
    refine W.callR (W.runS (As := [.int (nI a), .int (nI n), v]) (rest := []) ⟨hx, hb, hml, hown, hts⟩ (c_pre l Γ a n h1 h2 v hv0) (va_cwS 3 hts (w_S w_204 w_205 w_7 w_206) rfl rfl rfl jn_pre ⟨by decide, by decide⟩) ⟨fun _ _ _ _ q => q, fun U hU hW => ⟨rfl, trivial⟩⟩ rfl rfl hl.1 rfl (lv_room (by decide)) e_chk_5 ⟨Nat.le_refl _, Nat.le_refl _⟩) ?_
    refine W.eq (g2 := F0 m 8 ls [.int (nI a)]) rfl ?_
    refine lv_pop hx hb e_chk_8 rfl ?_
    exact W.vret hx hb hr (fun t ht hW => ⟨rfl, ht⟩) (fun q h => by cases h) e_chk_9
  rcases hE.2.2.2.1 with hZ | ⟨t, hZ⟩
  · exact go _ (Or.inl rfl) hZ
  · exact go _ (Or.inr ⟨t, rfl⟩) hZ
theorem ch_n (x : Int32) : narrow .char (.int ((x &&& 255).toUInt32 % 65536).toInt32) = .int ((x &&& 255).toUInt32 % 65536).toInt32 := by rw [sc_c2]; exact sc_nar x
theorem c_lch (l : Launch) (Γ : m_G) (a0 a n : Nat) (f : Nat → Int32) (h1 : a < n) (h2 : n < 2 ^ 31) : Met l J_lch.1 (m_w J_lch) (m_r2 2) (va_Pc [.ref a0, .int (nI a)] (fun U => m_Ev Γ m_no U ∧ va_T .byte a0 n (fun j => .int (f j)) m_no U U.heap)) (QcRead ((f a &&& 255).toUInt32 % 65536).toInt32) 0 0 m_no := by
  refine va_MetF (cc := J_lch.2.1) (maxL := 2) (ret := J_lch.2.2.2) (by decide +kernel) rfl ?_
  intro p e s m args below meth c s₁ B hml hv
  obtain ⟨rfl, hE, hTT⟩ := hv
  have hx := B.exec
  have hb := B.bytes
  have hr := B.returns
  have hts : ∀ w ∈ m_T, w.before _ s = true := fun w hw => atoms_spec (ws := m_w J_lch) B.pre w (List.mem_cons_of_mem _ hw)
  have hown : s.vm.findClass J_lch.1.cls = some m.cls := findClass_of_methodNamed B.named
  have hlocks := B.notSynchronized
  have hS : va_S m_no s.heap s.heap [] := va_S.rf
  have hl := lv_entry ([.ref a0, .int (nI a)]) (n := 2) (Nat.le_of_ble_eq_true rfl)
  rw [lg_entry_eq]
  generalize (lg_sl ([.ref a0, .int (nI a)]) ++ List.replicate (2 - (lg_sl ([.ref a0, .int (nI a)])).length) Slot.unset).toArray = ls at hl ⊢
  have hl : lv_has ls 2 [(0, .ref a0), (1, .int (nI a))] := hl
  refine lv_iload_n hx hb e_lch_0 rfl (lv_at hl 1 rfl) ?_
  refine lv_aload_n hx hb e_lch_1 rfl (lv_at hl 0 rfl) ?_
  refine va_tlen hx hb hTT hS rfl e_lch_2 ?_
  refine W.callX (W.runS (As := [.int (nI a), .int (nI n)]) (rest := []) ⟨hx, hb, hml, hown, hts⟩ (c_chk l Γ a n h1 h2) (va_cwS 2 hts (w_S w_199 w_200 w_5 w_201) rfl rfl rfl jn_chk ⟨by decide, by decide⟩) ⟨fb_ev, fun U hU hW => ⟨rfl, ev_no hE hS hU hW⟩⟩ rfl rfl hl.1 rfl (lv_room (by decide)) e_lch_3 ⟨Nat.le_refl _, Nat.le_refl _⟩) (fun _ z => z.elim) (fun v st₀ t q1 q2 => ?_)
  obtain ⟨q3, q4⟩ := q2
  cases q3
  rw [q4, q1]
  refine W.eq (g2 := F0 m 6 ls []) rfl ?_
  refine lv_aload_n hx hb e_lch_6 rfl (lv_at hl 0 rfl) ?_
  refine lv_iload_n hx hb e_lch_7 rfl (lv_at hl 1 rfl) ?_
  refine va_tb hx hb hTT hS (vp_in_nI h1 h2) (v := .int (f a)) (by show Value.int (f (nI a).toNatClampNeg) = _; rw [nI_clamp (by omega)]) e_lch_8 ?_
  refine lv_sipush (v := 255) hx hb e_lch_9 (by decide) ?_
  refine lv_iand hx hb e_lch_12 ?_
  refine lv_i2c hx hb e_lch_13 rfl ?_
  exact W.zret (ty := .char) hx hb hr (ch_n _) (fun t ht hW => ⟨rfl, ht⟩) (fun q h => by cases h) e_lch_14
theorem fb_pl {Γ : m_G} {vs : List Value} {a0 n : Nat} {f : Nat → Int32} : FrameBlind (va_Pc vs (fun U => m_Ev Γ m_no U ∧ va_T .byte a0 n (fun j => .int (f j)) m_no U U.heap)) := fun a U g mk q => ⟨q.1, m_Ev.same (u := U) (U := U.calling g mk a) rfl rfl q.2.1, va_T.moved (u := U) (U := U.calling g mk a) (Vm.Alike.refl U.vm) q.2.2⟩
theorem ch_v : ∀ i, i < 13 → ∀ j, j < m_lenL.getD i 0 → (((m_bytL.getD i []).getD j 0 &&& 255).toUInt32 % 65536).toInt32 = nI ((m_byt i).getD j 0) := by decide +kernel
theorem ln_b : ∀ i, i < 13 → m_lenL.getD i 0 = (m_byt i).length := by decide +kernel
theorem ln_v : ∀ i, i < 13 → m_lenL.getD i 0 < 2 ^ 31 := by decide +kernel
theorem c_charAt (l : Launch) (Γ : m_G) (i j : Nat) (hi : i < 13) (hj : j < m_lenL.getD i 0) : Met l J_charAt.1 (m_w J_charAt) (m_r2 3) (va_Pc [.ref (Γ.2.2.1 i), .int (nI j)] (fun U => m_Ev Γ m_no U)) (QcRead (nI ((m_byt i).getD j 0))) 0 0 m_no := by
  refine va_MetF (cc := J_charAt.2.1) (maxL := 2) (ret := J_charAt.2.2.2) (by decide +kernel) rfl ?_
  intro p e s m args below meth c s₁ B hml hv
  obtain ⟨rfl, hE⟩ := hv
  have hx := B.exec
  have hb := B.bytes
  have hr := B.returns
  have hts : ∀ w ∈ m_T, w.before _ s = true := fun w hw => atoms_spec (ws := m_w J_charAt) B.pre w (List.mem_cons_of_mem _ hw)
  have hown : s.vm.findClass J_charAt.1.cls = some m.cls := findClass_of_methodNamed B.named
  have hlocks := B.notSynchronized
  have hS : va_S m_no s.heap s.heap [] := va_S.rf
  have hl := lv_entry ([.ref (Γ.2.2.1 i), .int (nI j)]) (n := 2) (Nat.le_of_ble_eq_true rfl)
  rw [lg_entry_eq]
  generalize (lg_sl ([.ref (Γ.2.2.1 i), .int (nI j)]) ++ List.replicate (2 - (lg_sl ([.ref (Γ.2.2.1 i), .int (nI j)])).length) Slot.unset).toArray = ls at hl ⊢
  have hl : lv_has ls 2 [(0, .ref (Γ.2.2.1 i)), (1, .int (nI j))] := hl
  obtain ⟨adV, hS4⟩ := hE.1
  obtain ⟨s1, s2, s3, s4⟩ := hS4.1 i hi
  refine lv_aload_n hx hb e_charAt_0 rfl (lv_at hl 0 rfl) ?_
  refine W.callR (W.runV (As := []) (rest := []) ⟨hx, hb, hml, hown, hts⟩ (c_isLatin1 l Γ i hi) (cwV 0 hts (w_V w_192 w_193 w_194 w_5 w_195) rfl rfl rfl ⟨rfl, jn_isLatin1.1, jn_isLatin1.2.1, jn_isLatin1.2.2⟩ ⟨by decide, by decide⟩) ⟨fb_ev, vk_recv hS4 hi hS, fun U hU hW => ⟨rfl, ev_no hE hS hU hW⟩⟩ rfl rfl hl.1 rfl (lv_room (by decide)) e_charAt_1 ⟨Nat.le_refl _, Nat.le_refl _⟩) ?_
  refine W.eq (g2 := F0 m 4 ls [.int 1]) rfl ?_
  refine lv_if_eq (tgt := 16) hx hb e_charAt_4 (by decide) (fun h => absurd h (by decide)) (fun _ => ?_)
  refine lv_aload_n hx hb e_charAt_7 rfl (lv_at hl 0 rfl) ?_
  refine vk_getf hx hb s3 hS hown (hts _ w_1372) (fun _ h => h) e_charAt_8 ?_
  refine lv_iload_n hx hb e_charAt_11 rfl (lv_at hl 1 rfl) ?_
  refine W.callR (W.runS (As := [.ref (adV i), .int (nI j)]) (rest := []) ⟨hx, hb, hml, hown, hts⟩ (c_lch l Γ (adV i) j (m_lenL.getD i 0) (fun j => (m_bytL.getD i []).getD j 0) hj (ln_v i hi)) (va_cwS 2 hts (w_S w_196 w_197 w_6 w_198) rfl rfl rfl jn_lch ⟨by decide, by decide⟩) ⟨fb_pl, fun U hU hW => ⟨rfl, ev_no hE hS hU hW, by rw [hU]; exact va_T.moved hW.alike s4⟩⟩ rfl rfl hl.1 rfl (lv_room (by decide)) e_charAt_12 ⟨Nat.le_refl _, Nat.le_refl _⟩) ?_
  refine W.eq (g2 := F0 m 15 ls [.int (((m_bytL.getD i []).getD j 0 &&& 255).toUInt32 % 65536).toInt32]) rfl ?_
  have hn := ch_n ((m_bytL.getD i []).getD j 0)
  rw [ch_v i hi j hj] at hn ⊢
  exact W.zret (ty := .char) hx hb hr hn (fun t ht hW => ⟨rfl, ht⟩) (fun q h => by cases h) e_charAt_15
section OK7
variable {Γ : m_G} {tab : Nat → Option m_M} {k : Nat} {M : m_M} {pc : Nat} {K : m_X}
theorem ok_lsw {dk len : Nat} {ps : List (Nat × Nat)} {dflt : Int} {qs : Array (Int × Int)} (hd : decode M.2.1 pc = .ok (.lookupswitch dflt qs, len)) (h1 : qs.toList = ps.map (fun q : Nat × Nat => ((m_sg q.1 : Int) - 2147483648, (q.2 : Int) - ((4096 * k : Nat) : Int) - (pc : Int)))) (h2 : (Nat.ble (4096 * k) dk && Nat.ble (Nat.succ dk) (4096 * k + 4096) && decide (dflt = (dk : Int) - ((4096 * k : Nat) : Int) - (pc : Int))) = true) (h3 : (ps.all (fun q => Nat.ble (4096 * k) q.2 && Nat.ble (Nat.succ q.2) (4096 * k + 4096)) && (qs.toList.zip (qs.toList.drop 1)).all (fun (a, next) => a.1 < next.1)) = true) : m_ok Γ tab k M pc (x_lsw ps dk) := by
  intro p l e R s m args below meth c A Q ad0 h0 d fr r h' hq go cl hgo hcl lv st h hX
  obtain ⟨a, u, rfl, g1⟩ := mx_pi hX
  simp only [Bool.and_eq_true, decide_eq_true_eq] at h2 h3
  obtain ⟨⟨b1, b2⟩, b3⟩ := h2
  have key : ∀ (ps : List (Nat × Nat)), ps.all (fun q => Nat.ble (4096 * k) q.2 && Nat.ble (Nat.succ q.2) (4096 * k + 4096)) = true → (List.rec (motive := fun _ => m_R) (go dk lv u h) (fun p _ ih => m_if (m_beq a p.1) (go p.2 lv u h) ih) ps : m_R) = some (r, h') → ∃ t : Nat, t < 4096 ∧ go (4096 * k + t) lv u h = some (r, h') ∧ Op.lookupswitch.offset (ps.map (fun q : Nat × Nat => ((m_sg q.1 : Int) - 2147483648, (q.2 : Int) - ((4096 * k : Nat) : Int) - (pc : Int)))) dflt (nI a).toInt = (t : Int) - (pc : Int) := by
    intro ps
    induction ps with
    | nil =>
      intro _ hg
      have b1' := Nat.le_of_ble_eq_true b1
      have b2' : dk < 4096 * k + 4096 := Nat.le_of_ble_eq_true b2
      refine ⟨dk - 4096 * k, by omega, by rw [show 4096 * k + (dk - 4096 * k) = dk by omega]; exact hg, ?_⟩
      show dflt = _
      rw [b3]
      omega
    | cons q ps ih =>
      intro hall hg
      rw [List.all_cons, Bool.and_eq_true] at hall
      obtain ⟨c1, c2⟩ := hall
      rw [Bool.and_eq_true] at c1
      have c3 := Nat.le_of_ble_eq_true c1.1
      have c4 : q.2 < 4096 * k + 4096 := Nat.le_of_ble_eq_true c1.2
      rw [List.map_cons, Op.lookupswitch.offset_cons]
      rcases mx_if hg with ⟨e1, e2⟩ | ⟨e1, e2⟩
      · have e3 := mn_beq.mp e1
        refine ⟨q.2 - 4096 * k, by omega, by rw [show 4096 * k + (q.2 - 4096 * k) = q.2 by omega]; exact e2, ?_⟩
        rw [if_pos (by rw [e3, mn_toInt])]
        omega
      · obtain ⟨t, f1, f2, f3⟩ := ih c2 e2
        refine ⟨t, f1, f2, ?_⟩
        rw [if_neg (fun z => by
          have : nI a = nI q.1 := Int32.toInt_inj.mp (by rw [← z, mn_toInt])
          rw [mn_beq.mpr this] at e1
          cases e1)]
        exact f3
  obtain ⟨t, f1, f2, f3⟩ := key ps h3.1 g1
  obtain ⟨i1, i2, i3⟩ := hgo t lv u h f1 f2
  refine ⟨i1, i2, fun a1 a2 a3 a4 ad ws tys H locs ls vs hh hl hv => ?_⟩
  obtain ⟨w, vt, rfl, hw, hv⟩ := hv
  cases (show w = .int (nI a) from hw)
  exact lv_lookup (off := (t : Int) - (pc : Int)) (tgt := t) fr.1 fr.2.1 hd h3.2 (by rw [h1]; exact f3) (by omega) (i3 a1 a2 a3 a4 ad ws tys H locs ls vt hh hl hv)
theorem ok_sl {i : Nat} (hd : decode M.2.1 pc = .ok (.invokevirtual i, 3)) (hw : Cond.methodLink M.1.cls i J_length.1 ∈ m_T) (hK : m_ok Γ tab k M (pc + 3) K) : m_ok Γ tab k M pc (x_sl m_len K) := by
  refine ok_step hK ?_
  intro p l e R s m args below meth c A Q d fr go cl lv st h r hX
  obtain ⟨v, t, rfl, h2⟩ := mx_pv hX
  obtain ⟨h3, h4⟩ := mx_short h2
  rcases v with n | o | n | j
  · cases h4
  · cases h4
  · cases h4
  · cases j with
    | zero => cases h4
    | succ j =>
      obtain ⟨hj0, h4⟩ := mx_ift (show m_if (Nat.ble (Nat.succ j) 13) (m_f (m_len j) (fun n => K go cl lv (.inl n :: t) h)) none = some r from h4)
      have hj : j < 13 := Nat.le_of_ble_eq_true hj0
      rw [mi_f] at h4
      refine ⟨lv, _, h4, fun ad ws tys H locs ls vs ad0 cells slots c1 c2 hh hl hv kk => ?_⟩
      obtain ⟨w, vt, rfl, hw1, hv⟩ := hv
      cases (show w = .ref (Γ.2.2.1 j) from hw1)
      have hs := ms_sum hv
      have hE := fr.2.2.2.2.2.2.2.2.2.1
      have hR1 := fr.2.2.2.2.2.2.2.2.2.2.1
      have hR2 := fr.2.2.2.2.2.2.2.2.2.2.2.1
      obtain ⟨adV, hS4⟩ := hE.1
      refine W.callR (W.runV (g := F0 m pc ls (.ref (Γ.2.2.1 j) :: vt)) (As := []) (rest := vt) ⟨fr.1, fr.2.1, fr.2.2.1, fr.2.2.2.1, fr.2.2.2.2.1⟩ (c_length l Γ j hj) (cwV 0 fr.2.2.2.2.1 (w_V hw w_179 w_180 w_5 w_181) rfl rfl rfl ⟨rfl, jn_length.1, jn_length.2.1, jn_length.2.2⟩ ⟨by show 1 + 1 ≤ _; omega, by show 8 + (1 + 11) + 40 * 1 ≤ _; omega⟩) ⟨fb_ev, vk_recv hS4 hj hh.2.2.2.2.2, fun U hU hW => ⟨rfl, ev_no hE hh.2.2.2.2.2 hU hW⟩⟩ rfl rfl hl.1 rfl (lv_room (by omega)) hd ⟨c1, c2⟩) ?_
      exact kk ls _ hl ⟨_, _, rfl, rfl, hv⟩
theorem ok_sch {i : Nat} (hd : decode M.2.1 pc = .ok (.invokevirtual i, 3)) (hw : Cond.methodLink M.1.cls i J_charAt.1 ∈ m_T) (hK : m_ok Γ tab k M (pc + 3) K) : m_ok Γ tab k M pc (x_sch m_byt K) := by
  refine ok_step hK ?_
  intro p l e R s m args below meth c A Q d fr go cl lv st h r hX
  obtain ⟨q, t, rfl, h1⟩ := mx_pi hX
  obtain ⟨v, t, rfl, h2⟩ := mx_pv h1
  obtain ⟨h3, h4⟩ := mx_short h2
  rcases v with n | o | n | j
  · cases h4
  · cases h4
  · cases h4
  · cases j with
    | zero => cases h4
    | succ j =>
      obtain ⟨n, h5, h6⟩ := mx_get (show m_get (m_byt j) q (fun n => K go cl lv (.inl n :: t) h) = some r from h4)
      refine ⟨lv, _, h6, fun ad ws tys H locs ls vs ad0 cells slots c1 c2 hh hl hv kk => ?_⟩
      obtain ⟨w0, vt, rfl, hw0, w, vt, rfl, hw1, hv⟩ := hv
      cases (show w0 = .int (nI q) from hw0)
      cases (show w = .ref (Γ.2.2.1 j) from hw1)
      have hs := ms_sum hv
      have hE := fr.2.2.2.2.2.2.2.2.2.1
      have hR1 := fr.2.2.2.2.2.2.2.2.2.2.1
      have hR2 := fr.2.2.2.2.2.2.2.2.2.2.2.1
      have hq := (List.getElem?_eq_some_iff.mp h5).1
      have hj : j < 13 := by
        rcases Nat.lt_or_ge j 13 with z | z
        · exact z
        · rw [show m_byt j = [] from by unfold m_byt; rw [List.getD_eq_getElem?_getD, List.getElem?_eq_none (show m_byts.length ≤ j from z)]; rfl] at hq
          cases hq
      have hln : m_lenL.getD j 0 = (m_byt j).length := ln_b j hj
      have hn : (m_byt j).getD q 0 = n := by rw [List.getD_eq_getElem?_getD, h5]; rfl
      obtain ⟨adV, hS4⟩ := hE.1
      refine W.callR (W.runV (g := F0 m pc ls (.int (nI q) :: .ref (Γ.2.2.1 j) :: vt)) (As := [.int (nI q)]) (rest := vt) ⟨fr.1, fr.2.1, fr.2.2.1, fr.2.2.2.1, fr.2.2.2.2.1⟩ (c_charAt l Γ j q hj (by rw [hln]; exact hq)) (cwV 1 fr.2.2.2.2.1 (w_V hw w_189 w_190 w_5 w_191) rfl rfl rfl ⟨rfl, jn_charAt.1, jn_charAt.2.1, jn_charAt.2.2⟩ ⟨by show 3 + 1 ≤ _; omega, by show 8 + (2 + 11) + 40 * 3 ≤ _; omega⟩) ⟨fb_ev, vk_recv hS4 hj hh.2.2.2.2.2, fun U hU hW => ⟨rfl, ev_no hE hh.2.2.2.2.2 hU hW⟩⟩ rfl rfl hl.1 rfl (lv_room (by omega)) hd ⟨c1, c2⟩) ?_
      rw [hn]
      exact kk ls _ hl ⟨_, _, rfl, rfl, hv⟩
end OK7
