/-! THE LAW'S START: what holds there (written by wip/gen/genlaw.py) -/
theorem wl_98 : (Jvm.Cond.fieldLinkNest "NeverLike" (348 : Nat) "NeverLike$Search" "knowsPrices" "Z" "NeverLike") ∈ lw_tbl := mc_1 (List.mem_of_getElem? (i := 98) rfl)
theorem wl_103 : (Jvm.Cond.fieldLinkNest "NeverLike" (203 : Nat) "NeverLike$Search" "found" "I" "NeverLike") ∈ lw_tbl := mc_1 (List.mem_of_getElem? (i := 103) rfl)
theorem wl_145 : (Jvm.Cond.fieldLinkNest "NeverLike" (174 : Nat) "NeverLike$Reader" "size" "I" "NeverLike") ∈ lw_tbl := mc_1 (List.mem_of_getElem? (i := 145) rfl)
theorem wl_151 : (Jvm.Cond.fieldLinkNest "NeverLike" (177 : Nat) "NeverLike$Reader" "fault" "I" "NeverLike") ∈ lw_tbl := mc_1 (List.mem_of_getElem? (i := 151) rfl)
theorem wl_39 : (Jvm.Cond.methodLinkNest "NeverLike$Town" (32 : Nat) ({ cls := "NeverLike", name := "townsOf", desc := "(II)I" } : Jvm.MethodName) "NeverLike") ∈ lw_tbl := mc_1 (List.mem_of_getElem? (i := 39) rfl)
theorem wl_139 : (Jvm.Cond.methodLinkNest "NeverLike" (36 : Nat) ({ cls := "NeverLike$Reader", name := "<init>", desc := "()V" } : Jvm.MethodName) "NeverLike") ∈ lw_tbl := mc_1 (List.mem_of_getElem? (i := 139) rfl)
theorem wl_177 : (Jvm.Cond.stringRef "NeverLike" (63 : Nat) "may 1 - kept ; fee 0 ; joy 1 + near ;") ∈ lw_tbl := mc_1 (List.mem_of_getElem? (i := 177) rfl)
theorem wl_256 : (Jvm.Cond.stringRef "NeverLike$Reader" (116 : Nat) "may") ∈ lw_tbl := mc_2 (List.mem_of_getElem? (i := 16) rfl)
theorem wl_263 : (Jvm.Cond.stringRef "NeverLike$Reader" (122 : Nat) "fee") ∈ lw_tbl := mc_2 (List.mem_of_getElem? (i := 23) rfl)
theorem wl_264 : (Jvm.Cond.stringRef "NeverLike$Reader" (124 : Nat) "joy") ∈ lw_tbl := mc_2 (List.mem_of_getElem? (i := 24) rfl)
theorem wl_265 : (Jvm.Cond.stringRef "NeverLike$Reader" (126 : Nat) "or") ∈ lw_tbl := mc_2 (List.mem_of_getElem? (i := 25) rfl)
theorem wl_266 : (Jvm.Cond.stringRef "NeverLike$Reader" (128 : Nat) "and") ∈ lw_tbl := mc_2 (List.mem_of_getElem? (i := 26) rfl)
theorem wl_267 : (Jvm.Cond.stringRef "NeverLike$Reader" (130 : Nat) "not") ∈ lw_tbl := mc_2 (List.mem_of_getElem? (i := 27) rfl)
theorem wl_272 : (Jvm.Cond.stringRef "NeverLike$Reader" (132 : Nat) "from") ∈ lw_tbl := mc_2 (List.mem_of_getElem? (i := 32) rfl)
theorem wl_273 : (Jvm.Cond.stringRef "NeverLike$Reader" (134 : Nat) "to") ∈ lw_tbl := mc_2 (List.mem_of_getElem? (i := 33) rfl)
theorem wl_274 : (Jvm.Cond.stringRef "NeverLike$Reader" (136 : Nat) "near") ∈ lw_tbl := mc_2 (List.mem_of_getElem? (i := 34) rfl)
theorem wl_275 : (Jvm.Cond.stringRef "NeverLike$Reader" (138 : Nat) "spring") ∈ lw_tbl := mc_2 (List.mem_of_getElem? (i := 35) rfl)
theorem wl_276 : (Jvm.Cond.stringRef "NeverLike$Reader" (140 : Nat) "kept") ∈ lw_tbl := mc_2 (List.mem_of_getElem? (i := 36) rfl)
theorem wl_277 : (Jvm.Cond.stringRef "NeverLike$Reader" (142 : Nat) "house") ∈ lw_tbl := mc_2 (List.mem_of_getElem? (i := 37) rfl)
theorem wl_136 : (Jvm.Cond.arrayOver (Jvm.ClassFile.FieldType.object "NeverLike$Painter")) ∈ lw_tbl := mc_1 (List.mem_of_getElem? (i := 136) rfl)
theorem wl_174 : (Jvm.Cond.arrayOver (Jvm.ClassFile.FieldType.object "NeverLike$Text")) ∈ lw_tbl := mc_1 (List.mem_of_getElem? (i := 174) rfl)
theorem wl_176 : (Jvm.Cond.arrayOver (Jvm.ClassFile.FieldType.object "NeverLike$Sheet")) ∈ lw_tbl := mc_1 (List.mem_of_getElem? (i := 176) rfl)
theorem wl_900 : (Jvm.Cond.arrayOver (Jvm.ClassFile.FieldType.array Jvm.ClassFile.FieldType.int)) ∈ lw_tbl := mc_4 (List.mem_of_getElem? (i := 180) rfl)
theorem wl_1369 : (Jvm.Cond.castable "NeverLike$Moody" "NeverLike$Painter") ∈ lw_tbl := mc_6 (List.mem_of_getElem? (i := 169) rfl)
theorem wl_1370 : (Jvm.Cond.castable "NeverLike$Old" "NeverLike$Painter") ∈ lw_tbl := mc_6 (List.mem_of_getElem? (i := 170) rfl)
theorem wl_1371 : (Jvm.Cond.castable "NeverLike$Green" "NeverLike$Painter") ∈ lw_tbl := mc_6 (List.mem_of_getElem? (i := 171) rfl)
theorem wl_1367 : (Jvm.Cond.castable "NeverLike$Steep" "NeverLike$Painter") ∈ lw_tbl := mc_6 (List.mem_of_getElem? (i := 167) rfl)
theorem wl_1368 : (Jvm.Cond.castable "NeverLike$Shy" "NeverLike$Painter") ∈ lw_tbl := mc_6 (List.mem_of_getElem? (i := 168) rfl)
theorem wl_1364 : (Jvm.Cond.castable "NeverLike$Moody" "NeverLike$Steep") ∈ lw_tbl := mc_6 (List.mem_of_getElem? (i := 164) rfl)
theorem wl_1366 : (Jvm.Cond.castable "NeverLike$Old" "NeverLike$Shy") ∈ lw_tbl := mc_6 (List.mem_of_getElem? (i := 166) rfl)
theorem wl_1365 : (Jvm.Cond.castable "NeverLike$Green" "NeverLike$Shy") ∈ lw_tbl := mc_6 (List.mem_of_getElem? (i := 165) rfl)
theorem wl_187 : (Jvm.Cond.laysStatic "java/lang/String" "COMPACT_STRINGS" "Z") ∈ lw_tbl := mc_1 (List.mem_of_getElem? (i := 187) rfl)
theorem wl_203 : (Jvm.Cond.laysStatic "jdk/internal/util/Preconditions" "SIOOBE_FORMATTER" "Ljava/util/function/BiFunction;") ∈ lw_tbl := mc_1 (List.mem_of_getElem? (i := 203) rfl)
/-! THE CLAIM OUT OF ONE WALK OF THE LAW'S BODY. Your part is whole_start (and what it stands on); all else here is the same for every law, but numbers. -/
def R_law : String := "NeverLikeLaw"
def lw_P (b : Addr) (xs : List Int32) (args : Array Value) (s : State) : Prop := args = #[.ref b] ∧ s.IntsAt b xs ∧ xs.length ≤ 3072 ∧ (Jvm.Cond.and given_1 narrow_1).before args s = true
def lw_Q (_ : Array Value) (s : State) (o : Outcome) (t : State) : Prop := o = .returned (some (.int 1)) ∧ Framed s o t [] 600000 7302250
def lw_Z (below : List Frame) (a : Array Value) (s : State) : State → Prop := fun t => ∃ o, t.status = .running ∧ Ended t below o ∧ lw_Q a s o t
/-- the law's own end, with 1 on the stack, nothing written that was there before, its room as the claim has it -/
theorem lw_ret {p : Program} {l : Launch} {e : Env} {s : State} {m : MethodId} {below : List Frame} {meth : Method} {c : Code} {b : Nat} (hx : p.tables.exec = Jvm.exec) (hb : c.code = code) (hr : meth.sig.returnType = ret) (hlocks : meth.locks = false) {pc : Nat} {H : Heap} {ls : Array Slot} (hdg : decode code pc = .ok (.ireturn, 1)) : W p l e room_1 s m #[Value.ref b] below meth c H [] 600000 7302250 (lw_Z below #[Value.ref b] s) (F0 m pc ls [.int 1]) := by
  intro T hT X
  obtain ⟨fs, hret, hrun, hended, hW, hframe⟩ := X.leave (v := some (.int 1)) (hlocks := hlocks) (fun h => by rw [hr] at h; cases h)
  have hmeth' : T.vm.method? m = some meth := X.method'
  refine ⟨T.setFrames fs, ?_, .returned (some (.int 1)), hrun, hended, rfl, ⟨_, rfl⟩, hW, hframe⟩
  jvm_step X.here [X.here.top, hx, hb, hdg, hmeth', hr, ret, narrow_b1]
  (try refine ⟨rfl, ?_⟩); (try refine ⟨rfl, ?_⟩)
  first | (intro acts; rw [hret _ acts rfl rfl rfl]) | rw [hret _ _ rfl rfl rfl]
  exact Steps.refl _
/-- what holds at the law's entry: the machine, the code, the tables' words (any of lw_tbl by 'hts w (by decide +kernel)'), the script of L ints xs at the cell b, what the Statement gives of the start (any of its parts by flat_of_before) -/
def lw_At (p : Program) (s : State) (m : MethodId) (meth : Method) (c : Code) (b L : Nat) (xs : Nat → Int32) : Prop :=
  p.tables.exec = Jvm.exec ∧ c.code = code ∧ meth.sig.returnType = ret ∧ c.maxLocals = 4 ∧ s.vm.findClass R_law = some m.cls ∧ (∀ w ∈ lw_tbl, w.before #[Value.ref b] s = true) ∧ va_X b L xs s s.heap ∧ b < s.heap.size ∧ meth.locks = false ∧ (Jvm.Cond.and given_1 narrow_1).before #[Value.ref b] s = true

/-- what stays, at the law's start -/
theorem lw_Ev {s : State} {b : Nat} {D : va_G} {xs : List Nat} (hts : ∀ w ∈ lw_tbl, w.before #[Value.ref b] s = true) (hgv : (Jvm.Cond.and given_1 narrow_1).before #[Value.ref b] s = true) : ∃ adK : Nat → Nat, m_Ev (D, b, adK, fun _ => 0, xs) (fun q => s.heap.size ≤ q) s := by
  have hn := flat_of_before _ hgv
  have hA : ∀ a : Nat, a < s.heap.size → ¬ (fun q => s.heap.size ≤ q) a := fun a h => Nat.not_le.mpr h
  obtain ⟨adK, adV, h1, h2⟩ := vk_Sof (args := #[Value.ref b]) (s := s) (N := 13) (tm := m_tm) (len := m_lenL) (byt := m_bytL) (A := fun q => s.heap.size ≤ q) ln_v (fun i hi => hn _ (nl_1 i hi)) (fun i hi => hn _ (nl_2 i hi)) (fun i hi => hn _ (nl_3 i hi)) (fun i hi => hn _ (nl_4 i hi)) (fun i hi j hj => hn _ (nl_5 i hi j hj)) (fun i j hi hj hij => (nl_6 i hi j hj hij).imp (hn _) (hn _)) hA
  refine ⟨adK, ⟨adV, h1⟩, fun i q hq => ?_, va_Zof (hts _ wl_187) (hts _ (mt_in w_5)) (va_eqt (hn _ nl_7)) hA, va_Zqof (hts _ wl_203) (hts _ (mt_in w_7)) (hn _ nl_8) hA, List.forall_mem_cons.mpr ⟨va_Nw.of rfl (hts _ wl_98), List.forall_mem_cons.mpr ⟨va_Nw.of rfl (hts _ wl_103), List.forall_mem_cons.mpr ⟨va_Nw.of rfl (hts _ wl_145), List.forall_mem_cons.mpr ⟨va_Nw.of rfl (hts _ wl_151), fun _ h => absurd h List.not_mem_nil⟩⟩⟩⟩, List.forall_mem_cons.mpr ⟨va_Nw.of rfl (hts _ wl_39), List.forall_mem_cons.mpr ⟨va_Nw.of rfl (hts _ wl_139), fun _ h => absurd h List.not_mem_nil⟩⟩, va_AO.of (hts _ wl_136), va_AO.of (hts _ wl_174), va_AO.of (hts _ wl_176), (hts _ wl_900), ⟨List.forall_mem_cons.mpr ⟨va_Nw.of rfl (hts _ wl_1369), List.forall_mem_cons.mpr ⟨va_Nw.of rfl (hts _ wl_1370), List.forall_mem_cons.mpr ⟨va_Nw.of rfl (hts _ wl_1371), List.forall_mem_cons.mpr ⟨va_Nw.of rfl (hts _ wl_1367), List.forall_mem_cons.mpr ⟨va_Nw.of rfl (hts _ wl_1368), List.forall_mem_cons.mpr ⟨va_Nw.of rfl (hts _ wl_1364), List.forall_mem_cons.mpr ⟨va_Nw.of rfl (hts _ wl_1366), List.forall_mem_cons.mpr ⟨va_Nw.of rfl (hts _ wl_1365), fun _ h => absurd h List.not_mem_nil⟩⟩⟩⟩⟩⟩⟩⟩, List.forall_mem_cons.mpr ⟨va_Nc.of (hn _ nc_0), List.forall_mem_cons.mpr ⟨va_Nc.of (hn _ nc_1), List.forall_mem_cons.mpr ⟨va_Nc.of (hn _ nc_2), List.forall_mem_cons.mpr ⟨va_Nc.of (hn _ nc_3), List.forall_mem_cons.mpr ⟨va_Nc.of (hn _ nc_4), List.forall_mem_cons.mpr ⟨va_Nc.of (hn _ nc_5), List.forall_mem_cons.mpr ⟨va_Nc.of (hn _ nc_6), List.forall_mem_cons.mpr ⟨va_Nc.of (hn _ nc_7), List.forall_mem_cons.mpr ⟨va_Nc.of (hn _ nc_8), List.forall_mem_cons.mpr ⟨va_Nc.of (hn _ nc_9), List.forall_mem_cons.mpr ⟨va_Nc.of (hn _ nc_10), List.forall_mem_cons.mpr ⟨va_Nc.of (hn _ nc_11), List.forall_mem_cons.mpr ⟨va_Nc.of (hn _ nc_12), List.forall_mem_cons.mpr ⟨va_Nc.of (hn _ nc_13), List.forall_mem_cons.mpr ⟨va_Nc.of (hn _ nc_14), List.forall_mem_cons.mpr ⟨va_Nc.of (hn _ nc_15), List.forall_mem_cons.mpr ⟨va_Nc.of (hn _ nc_16), List.forall_mem_cons.mpr ⟨va_Nc.of (hn _ nc_17), List.forall_mem_cons.mpr ⟨va_Nc.of (hn _ nc_18), List.forall_mem_cons.mpr ⟨va_Nc.of (hn _ nc_19), List.forall_mem_cons.mpr ⟨va_Nc.of (hn _ nc_20), List.forall_mem_cons.mpr ⟨va_Nc.of (hn _ nc_21), fun _ h => absurd h List.not_mem_nil⟩⟩⟩⟩⟩⟩⟩⟩⟩⟩⟩⟩⟩⟩⟩⟩⟩⟩⟩⟩⟩⟩⟩⟩
  match i, hq with
  | 0, hq => cases hq; exact vk_R.of (hts _ wl_177) (h2 0 (by decide))
  | 1, hq => cases hq; exact vk_R.of (hts _ wl_256) (h2 1 (by decide))
  | 2, hq => cases hq; exact vk_R.of (hts _ wl_263) (h2 2 (by decide))
  | 3, hq => cases hq; exact vk_R.of (hts _ wl_264) (h2 3 (by decide))
  | 4, hq => cases hq; exact vk_R.of (hts _ wl_265) (h2 4 (by decide))
  | 5, hq => cases hq; exact vk_R.of (hts _ wl_266) (h2 5 (by decide))
  | 6, hq => cases hq; exact vk_R.of (hts _ wl_267) (h2 6 (by decide))
  | 7, hq => cases hq; exact vk_R.of (hts _ wl_272) (h2 7 (by decide))
  | 8, hq => cases hq; exact vk_R.of (hts _ wl_273) (h2 8 (by decide))
  | 9, hq => cases hq; exact vk_R.of (hts _ wl_274) (h2 9 (by decide))
  | 10, hq => cases hq; exact vk_R.of (hts _ wl_275) (h2 10 (by decide))
  | 11, hq => cases hq; exact vk_R.of (hts _ wl_276) (h2 11 (by decide))
  | 12, hq => cases hq; exact vk_R.of (hts _ wl_277) (h2 12 (by decide))
  | i + 13, hq => exact absurd hq (by simp [m_strs])
/-- the classes, at the law's start -/
theorem lw_D {s : State} {b : Nat} (hts : ∀ w ∈ lw_tbl, w.before #[Value.ref b] s = true) : ∃ D : va_G, va_K D vwCl [] s := by
  have key : ∀ (k : Nat) (q : vw_C), vwCl[k]? = some q → ∃ x : ClassId × (Nat → Nat), u_Kn s q.1 q.2.1 q.2.2 x.1 x.2 := by
    intro k q hq
    match k, hq with
    | 0, hq =>
      cases hq
      obtain ⟨cC, iS, h⟩ := u_known (C := RX0) (T := TX0) (N := 2) (n := 2) hts (fun w hw => mt_in (in_0 w hw)) (hts _ (mt_in w_503))
      exact ⟨(cC, iS), h⟩
    | 1, hq =>
      cases hq
      obtain ⟨cC, iS, h⟩ := u_known (C := RX1) (T := TX1) (N := 2) (n := 2) hts (fun w hw => mt_in (in_1 w hw)) (hts _ (mt_in w_485))
      exact ⟨(cC, iS), h⟩
    | 2, hq =>
      cases hq
      obtain ⟨cC, iS, h⟩ := u_known (C := RX2) (T := TX2) (N := 2) (n := 2) hts (fun w hw => mt_in (in_2 w hw)) (hts _ (mt_in w_494))
      exact ⟨(cC, iS), h⟩
    | 3, hq =>
      cases hq
      obtain ⟨cC, iS, h⟩ := u_known (C := RX3) (T := TX3) (N := 2) (n := 2) hts (fun w hw => mt_in (in_3 w hw)) (hts _ (mt_in w_511))
      exact ⟨(cC, iS), h⟩
    | 4, hq =>
      cases hq
      obtain ⟨cC, iS, h⟩ := u_known (C := RX4) (T := TX4) (N := 9) (n := 9) hts (fun w hw => mt_in (in_4 w hw)) (hts _ (mt_in w_138))
      exact ⟨(cC, iS), h⟩
    | 5, hq =>
      cases hq
      obtain ⟨cC, iS, h⟩ := u_known (C := RX5) (T := TX5) (N := 12) (n := 12) hts (fun w hw => mt_in (in_5 w hw)) (hts _ (mt_in w_90))
      exact ⟨(cC, iS), h⟩
    | 6, hq =>
      cases hq
      obtain ⟨cC, iS, h⟩ := u_known (C := RX6) (T := TX6) (N := 2) (n := 2) hts (fun w hw => mt_in (in_6 w hw)) (hts _ (mt_in w_847))
      exact ⟨(cC, iS), h⟩
    | 7, hq =>
      cases hq
      obtain ⟨cC, iS, h⟩ := u_known (C := RX7) (T := TX7) (N := 2) (n := 2) hts (fun w hw => mt_in (in_7 w hw)) (hts _ (mt_in w_476))
      exact ⟨(cC, iS), h⟩
    | 8, hq =>
      cases hq
      obtain ⟨cC, iS, h⟩ := u_known (C := RX8) (T := TX8) (N := 2) (n := 2) hts (fun w hw => mt_in (in_8 w hw)) (hts _ (mt_in w_451))
      exact ⟨(cC, iS), h⟩
    | 9, hq =>
      cases hq
      obtain ⟨cC, iS, h⟩ := u_known (C := RX9) (T := TX9) (N := 4) (n := 4) hts (fun w hw => mt_in (in_9 w hw)) (hts _ (mt_in w_333))
      exact ⟨(cC, iS), h⟩
    | 10, hq =>
      cases hq
      obtain ⟨cC, iS, h⟩ := u_known (C := RX10) (T := TX10) (N := 9) (n := 9) hts (fun w hw => mt_in (in_10 w hw)) (hts _ (mt_in w_30))
      exact ⟨(cC, iS), h⟩
    | 11, hq =>
      cases hq
      obtain ⟨cC, iS, h⟩ := u_known (C := RX11) (T := TX11) (N := 13) (n := 13) hts (fun w hw => mt_in (in_11 w hw)) (hts _ (mt_in w_22))
      exact ⟨(cC, iS), h⟩
    | 12, hq =>
      cases hq
      obtain ⟨cC, iS, h⟩ := u_known (C := RX12) (T := TX12) (N := 42) (n := 42) hts (fun w hw => mt_in (in_12 w hw)) (hts _ (mt_in w_894))
      exact ⟨(cC, iS), h⟩
    | k + 13, hq => exact absurd hq (by simp [vwCl])
  obtain ⟨x0, -⟩ := key 0 _ cl_0
  obtain ⟨f, hf⟩ := Classical.axiomOfChoice (r := fun (k : Nat) (x : ClassId × (Nat → Nat)) => ∀ q, vwCl[k]? = some q → u_Kn s q.1 q.2.1 q.2.2 x.1 x.2) (fun k => by
    rcases hk : vwCl[k]? with _ | q0
    · exact ⟨x0, fun q hq => by cases hq⟩
    · obtain ⟨x, hx⟩ := key k q0 hk
      exact ⟨x, fun q hq => by cases hq; exact hx⟩)
  exact ⟨(fun k => (f k).1, fun k => (f k).2), fun k q hq => hf k q hq, fun k q h => by simp at h⟩
set_option maxRecDepth 100000 in
theorem tk_all : (m_tabL.drop 1).all (fun M => plainFor M.1 && decide (M.1.cls ≠ "NeverLikeLaw")) = true := by decide +kernel
theorem tk_ok : m_tk m_tab := by
  intro k M hk h0
  have hm : M ∈ m_tabL.drop 1 := by
    refine List.mem_of_getElem? (i := k - 1) ?_
    rw [List.getElem?_drop, show 1 + (k - 1) = k by omega]
    exact hk
  have := List.all_eq_true.mp tk_all M hm
  simp only [Bool.and_eq_true, decide_eq_true_eq] at this
  exact this
/-- the law, out of a run of the plain machine -/
theorem lw_start {p : Program} {e : Env} {s : State} {m : MethodId} {below : List Frame} {meth : Method} {c : Code} (l : Launch) {b L : Nat} {xs : Nat → Int32} (C0 : lw_At p s m meth c b L xs) (hL : L < 2 ^ 31) {N n : Nat} {h' : m_H} (hrun : m_lr (t_0 ((List.range L).map (fun j => m_n (xs j)))) m_cg N 1999 n (4096 * 0 + 0) ([.inr (.inr (.inr 0))] ++ m_un 3) [] (0, 0, []) = some (some (.inl 1), h')) (h1 : h'.1 ≤ 600000) (h2 : h'.2.1 ≤ 7302250) : W p l e room_1 s m #[Value.ref b] below meth c s.heap [] 0 0 (lw_Z below #[Value.ref b] s) (entryFrame m ([Value.ref b] : List Value).toArray 4) := by
  obtain ⟨hx, hb, hr, hml, hown, hts, hX, hbl, hlocks, hgv⟩ := C0
  obtain ⟨D, hK⟩ := lw_D hts
  obtain ⟨adK, hE⟩ := lw_Ev (D := D) (xs := (List.range L).map (fun j => m_n (xs j))) hts hgv
  have hA : ∀ q : Nat, s.heap.size ≤ q → (fun q : Nat => s.heap.size ≤ q) q := fun _ h => h
  have fr : m_fr (D, b, adK, fun _ => 0, (List.range L).map (fun j => m_n (xs j))) M_0 p l e room_1 s m #[Value.ref b] meth c (fun q => s.heap.size ≤ q) 2000 := by
    refine ⟨hx, hb, hml, hown, fun w hw => hts w (mt_in hw), hlocks, hr, fun h => absurd h (by decide), hA, hE, Nat.le_of_ble_eq_true rfl, Nat.le_of_ble_eq_true rfl, fun _ => ⟨xs, by simpa using hX, hbl, Nat.not_le.mpr hbl, by simpa using hL, fun j v hv => ?_⟩⟩
    replace hv : ((List.range L).map (fun j => m_n (xs j)))[j]? = some v := hv
    rw [List.getElem?_map] at hv
    cases hj : (List.range L)[j]? with
    | none => rw [hj] at hv; cases hv
    | some y =>
      rw [hj] at hv
      have hy : y = j := by
        have := List.getElem?_eq_some_iff.mp hj
        obtain ⟨a1, a2⟩ := this
        rw [← a2]
        simp
      cases hv
      rw [hy, mn_n]
  have hq : m_hq (D, b, adK, fun _ => 0, (List.range L).map (fun j => m_n (xs j))) M_0 p l e room_1 s m #[Value.ref b] below meth c (fun q => s.heap.size ≤ q) (lw_Z below #[Value.ref b] s) [] (0, 0, []) (some (.inl 1)) h' := by
    intro i ad ws tys H locs ls pc v hh a1 a2 a3 a4 hro hri hdec
    obtain ⟨x, rfl, hx1⟩ := hro
    cases (show x = .int (nI 1) from hx1)
    obtain ⟨rfl, -⟩ := hri
    refine va_forget (fun q hq => hh.2.2.2.2.2.2.2 q hq) ?_
    refine W.widen (k := 600000) (n := 7302250) (by show h'.1 - 0 ≤ _; omega) (by show h'.2.1 - 0 ≤ _; omega) ?_
    exact lw_ret hx hb hr hlocks hdec
  have key := lr_ok (Γ := (D, b, adK, fun _ => 0, (List.range L).map (fun j => m_n (xs j)))) (tab := m_tab) (tl := t_0 ((List.range L).map (fun j => m_n (xs j)))) (cg := m_cg) (M := M_0) tb_0 (fun pc hpc => tst_0 (4096 * 0 + pc) 0 pc M_0 rfl hpc tb_0) (fun k pc M hk hpc => tsm_cg (4096 * k + pc) k pc M rfl hpc hk) tk_ok (N := N) (d := 1999) n 0 _ [] (0, 0, []) (some (.inl 1)) h' (by decide) hrun p l e room_1 s m #[Value.ref b] below meth c (fun q => s.heap.size ≤ q) (lw_Z below #[Value.ref b] s) [] (0, 0, []) fr hq
  obtain ⟨-, -, g⟩ := key
  rw [lg_entry_eq]
  have hrs : m_rs (D, b, adK, fun _ => 0, (List.range L).map (fun j => m_n (xs j))) [] [.inr (.inr (.inr 0))] [.ref b] := ⟨_, _, rfl, rfl, rfl⟩
  have hrl := ml_entry (n := 4) hrs (fun v hv => by rw [List.mem_singleton.mp hv]; exact mc_s 0) (by decide)
  exact g (Nat.zero_le _) (Nat.zero_le _) (by show h'.1 - 0 ≤ 600000; omega) (by show h'.2.1 - 0 ≤ 7302250; omega) [] [] [] s.heap [] _ [] ⟨mp_rf [], ⟨rfl, rfl, ⟨rfl, fun i c h => by simp at h⟩, fun q e h => by simp [m_at] at h⟩, fun k q h => by simp at h, hK, ⟨fun i j p q h => by simp at h, fun k q h => by simp at h⟩, va_S.rf⟩ hrl rfl
