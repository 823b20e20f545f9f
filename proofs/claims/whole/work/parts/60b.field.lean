/-! the contract of desk.field: an answer, or NoSuchElementException -/
theorem dF_0 : decode cX10_field 0 = .ok (.aload_n 0, 1) := by decide +kernel
theorem dF_1 : decode cX10_field 1 = .ok (.getfield 35, 3) := by decide +kernel
theorem dF_4 : decode cX10_field 4 = .ok (.iload_n 1, 1) := by decide +kernel
theorem dF_5 : decode cX10_field 5 = .ok (.invokevirtual 186, 3) := by decide +kernel
theorem dF_8 : decode cX10_field 8 = .ok (.ifCond .ne 13, 3) := by decide +kernel
theorem dF_11 : decode cX10_field 11 = .ok (.new 204, 3) := by decide +kernel
theorem dF_14 : decode cX10_field 14 = .ok (.dup, 1) := by decide +kernel
theorem dF_15 : decode cX10_field 15 = .ok (.ldc 206, 2) := by decide +kernel
theorem dF_17 : decode cX10_field 17 = .ok (.invokespecial 208, 3) := by decide +kernel
theorem dF_20 : decode cX10_field 20 = .ok (.athrow, 1) := by decide +kernel
theorem dF_21 : decode cX10_field 21 = .ok (.iload_n 2, 1) := by decide +kernel
theorem dF_22 : decode cX10_field 22 = .ok (.iconst (-1), 1) := by decide +kernel
theorem dF_23 : decode cX10_field 23 = .ok (.if_icmp .ne 12, 3) := by decide +kernel
theorem dF_26 : decode cX10_field 26 = .ok (.aload_n 0, 1) := by decide +kernel
theorem dF_27 : decode cX10_field 27 = .ok (.getfield 35, 3) := by decide +kernel
theorem dF_30 : decode cX10_field 30 = .ok (.iload_n 1, 1) := by decide +kernel
theorem dF_31 : decode cX10_field 31 = .ok (.invokevirtual 211, 3) := by decide +kernel
theorem dF_34 : decode cX10_field 34 = .ok (.ireturn, 1) := by decide +kernel
theorem dF_35 : decode cX10_field 35 = .ok (.aload_n 0, 1) := by decide +kernel
theorem dF_36 : decode cX10_field 36 = .ok (.iload_n 2, 1) := by decide +kernel
theorem dF_37 : decode cX10_field 37 = .ok (.invokevirtual 189, 3) := by decide +kernel
theorem dF_40 : decode cX10_field 40 = .ok (.ifCond .ne 13, 3) := by decide +kernel
theorem dF_43 : decode cX10_field 43 = .ok (.new 204, 3) := by decide +kernel
theorem dF_46 : decode cX10_field 46 = .ok (.dup, 1) := by decide +kernel
theorem dF_47 : decode cX10_field 47 = .ok (.ldc 214, 2) := by decide +kernel
theorem dF_49 : decode cX10_field 49 = .ok (.invokespecial 208, 3) := by decide +kernel
theorem dF_52 : decode cX10_field 52 = .ok (.athrow, 1) := by decide +kernel
theorem dF_53 : decode cX10_field 53 = .ok (.aload_n 0, 1) := by decide +kernel
theorem dF_54 : decode cX10_field 54 = .ok (.getfield 35, 3) := by decide +kernel
theorem dF_57 : decode cX10_field 57 = .ok (.iload_n 1, 1) := by decide +kernel
theorem dF_58 : decode cX10_field 58 = .ok (.iload_n 2, 1) := by decide +kernel
theorem dF_59 : decode cX10_field 59 = .ok (.invokevirtual 192, 3) := by decide +kernel
theorem dF_62 : decode cX10_field 62 = .ok (.ireturn, 1) := by decide +kernel
theorem dN_0 : decode prog_27_method_4_code 0 = .ok (.aload_n 0, 1) := by decide +kernel
theorem dN_1 : decode prog_27_method_4_code 1 = .ok (.aload_n 1, 1) := by decide +kernel
theorem dN_2 : decode prog_27_method_4_code 2 = .ok (.invokespecial 13, 3) := by decide +kernel
theorem dN_5 : decode prog_27_method_4_code 5 = .ok (.return_, 1) := by decide +kernel
/-- what stands fast for the throw -/
def cf_Ex (sa sb : Nat) (A : Nat → Prop) (U : State) : Prop :=
  (∀ w ∈ cf_dec, va_Nw w U) ∧ vk_R RX10 206 "no such field" sa U ∧ vk_R RX10 214 "no such sample" sb U ∧ vx_Zq Bundle.tN "UNASSIGNED_STACK" Bundle.steD A U U.heap ∧ vx_Zq Bundle.tN "SUPPRESSED_SENTINEL" Bundle.listD A U U.heap
theorem cf_dec_on : ∀ w ∈ cf_dec, w.onTables = true := List.forall_mem_cons.mpr ⟨rfl, List.forall_mem_cons.mpr ⟨rfl, List.forall_mem_cons.mpr ⟨rfl, List.forall_mem_cons.mpr ⟨rfl, fun _ z => absurd z List.not_mem_nil⟩⟩⟩⟩
theorem cf_Ex_blind {sa sb : Nat} {A : Nat → Prop} {U : State} {g : JFrame} {mk : MethodId} {a : Array Value} (h : cf_Ex sa sb A U) : cf_Ex sa sb A (U.calling g mk a) :=
  ⟨fun w hw => va_Nw.same (U := U.calling g mk a) (cf_dec_on w hw) (u := U) rfl (h.1 w hw), vk_R.same rfl h.2.1, vk_R.same rfl h.2.2.1, vx_Zq.moved (U := U.calling g mk a) (Vm.Alike.refl U.vm) h.2.2.2.1, vx_Zq.moved (U := U.calling g mk a) (Vm.Alike.refl U.vm) h.2.2.2.2⟩
theorem cf_dec_warm {s U : State} (hW : s.WarmedH U.vm) (h : ∀ w ∈ cf_dec, va_Nw w s) : ∀ w ∈ cf_dec, va_Nw w U := by
  have h0 := h _ (List.mem_of_getElem? (i := 0) rfl)
  have h1 := h _ (List.mem_of_getElem? (i := 1) rfl)
  have h2 := h _ (List.mem_of_getElem? (i := 2) rfl)
  have h3 := h _ (List.mem_of_getElem? (i := 3) rfl)
  exact List.forall_mem_cons.mpr ⟨va_Nw.warmD hW h0, List.forall_mem_cons.mpr ⟨va_Nw.warmD hW h1, List.forall_mem_cons.mpr ⟨va_Nw.warmD hW h2, List.forall_mem_cons.mpr ⟨va_Nw.warmC hW h3, fun _ z => absurd z List.not_mem_nil⟩⟩⟩⟩
theorem cf_Ex_go {sa sb : Nat} {A B : Nat → Prop} {s U : State} {H : Heap} {locs : List Loc} (h : cf_Ex sa sb A s) (hS : va_S A s.heap H locs) (hU : U.heap = H) (hW : s.WarmedH U.vm) (hB : ∀ q, B q → A q) : cf_Ex sa sb B U := by
  obtain ⟨h1, h2, h3, h4, h5⟩ := h
  refine ⟨cf_dec_warm hW h1, vk_R.warm hW h2, vk_R.warm hW h3, ?_, ?_⟩
  · rw [hU]; exact vx_Zq.narrow (vx_Zq.moved hW.alike (h4.kept hS.2.1)) hB
  · rw [hU]; exact vx_Zq.narrow (vx_Zq.moved hW.alike (h5.kept hS.2.1)) hB
section cfA
variable {p : Program} {l : Launch} {e : Env} {R : Room} {s : State} {m : MethodId} {args : Array Value} {below : List Frame} {meth : Method} {c : Code} {H : Heap} {locs : List Loc} {cells slots : Nat} {Q : State → Prop} {D : va_G} {cy : Nat → ClassId} {ad : Nat → Nat} {fm : Value} {A : Nat → Prop} {own : String} {cc : ByteArray} {nL : Nat}
/-- what holds through a body -/
def cf_Cx (p : Program) (s : State) (m : MethodId) (args : Array Value) (c : Code) (D : va_G) (cy : Nat → ClassId) (ad : Nat → Nat) (fm : Value) (A : Nat → Prop) (own : String) (cc : ByteArray) (nL : Nat) : Prop :=
  p.tables.exec = Jvm.exec ∧ c.code = cc ∧ c.maxLocals = nL ∧ s.vm.findClass own = some m.cls ∧ (∀ w ∈ cd_big, w.before args s = true) ∧ va_K D cd_cl (cd_tys cy) s ∧ cd_St ad fm A s ∧ (∀ q, s.heap.size ≤ q → A q)
theorem cf_pre (hC : cf_Cx p s m args c D cy ad fm A own cc nL) {M : cd_M} {as : List Value} (hP : va_P D cd_cl (cd_ws cy ad M) H) (hD : va_D A (cd_ws cy ad M)) (hS : va_S A s.heap H locs) {aa : Array Value} (ha : aa = (as.map (cd_em ad fm)).toArray) : ∀ U : State, U.heap = H → s.WarmedH U.vm → cd_Pc D cy ad fm as M H.size aa U := by
  obtain ⟨hx, hb, hml, hown, hts, hK, hSt, hA⟩ := hC
  intro U hU hW
  exact ⟨ha, by rw [hU], by rw [hU]; exact hP, va_K.moved hW.alike hK, hD.weaken (fun _ _ _ _ => trivial), cd_St_go hSt hS hU hW (cd_free (ws := cd_ws cy ad M) hD hS hA)⟩
theorem cf_call (hC : cf_Cx p s m args c D cy ad fm A own cc nL) {pc idx yc k : Nat} {ls : Array Slot} {rest : List Value} {as : List Int32} {M M' : cd_M} {v : Int32} (hd : decode cc pc = .ok (.invokevirtual idx, 3)) (hyc : yc < 245)
    (w1 : Cond.methodLink own idx (cd_y yc) ∈ cd_big) (w2 : Cond.instanceMethod (cd_y yc) ∈ cd_big) (w3 : Cond.selects (cd_y yc).cls (cd_y yc) (cd_y yc) ∈ cd_big) (w4 : Cond.initialized (cd_y yc).cls ∈ cd_big) (hlen : (parseMethodDescriptor (cd_y yc).desc).map (fun d => d.parameters.length) = some as.length)
    (hk : (cd_sh k).1 = cd_own yc) (hk12 : cd_own yc < 12) (hcat : (rest.map fun v => v.category).sum ≤ 8) (hfr : cd_mf.getD yc 0 + 1 ≤ R.frames) (hlw : 8 + (cd_ml.getD yc 0 + 11) + cd_mw.getD yc 0 ≤ R.locals) (hsz : (lg_sl (.ref k :: as.map Value.int)).length ≤ cd_ml.getD yc 0) (hls : ls.size = nL)
    (hrun : ∃ n, cd_ex n yc 0 (cd_ent yc (.ref k :: as.map Value.int)) [] M = some (some (.int v), M')) (hcs : cells ≤ R.cells ∧ slots ≤ R.slots)
    (hP : va_P D cd_cl (cd_ws cy ad M) H) (hD : va_D A (cd_ws cy ad M)) (hS : va_S A s.heap H locs)
    (kk : ∀ (H1 : Heap) (locs1 : List Loc), va_P D cd_cl (cd_ws cy ad M') H1 → va_D A (cd_ws cy ad M') → va_S A s.heap H1 locs1 → W p l e R s m args below meth c H1 locs1 cells slots Q (F0 m (pc + 3) ls (.int v :: rest))) :
    W p l e R s m args below meth c H locs cells slots Q (F0 m pc ls ((as.map Value.int).reverse ++ .ref (ad k) :: rest)) := by
  have hC0 := hC
  obtain ⟨hx, hb, hml, hown, hts, hK, hSt, hA⟩ := hC
  obtain ⟨n, hn⟩ := hrun
  have hM := cd_sound hyc hsz hn l D cy ad fm H.size
  obtain ⟨o1, o2, o3, o4⟩ := cd_mOK2 yc hyc
  obtain ⟨hl1, ha, -⟩ := cd_he (cy := cy) (ad := ad) (M := M) hk hk12
  have hrecv : ∃ cellB : Cell, H[ad k]? = some cellB ∧ cellB.vm.isStatics = false ∧ s.vm.findClass (cd_y yc).cls = some cellB.cls := by
    have h1 := va_recv hK hP (cd_clF _ hk12) ha
    rw [cd_cF _ hk12] at h1
    rw [o1]
    exact h1
  have em : (as.map Value.int).map (cd_em ad fm) = as.map Value.int := by
    rw [List.map_map]
    rfl
  have hne : ¬ k = 1200 := cd_ne1200 hl1
  have hcw : CallW R s args own (cd_y yc).cls idx (cd_y yc) (cd_code yc).1 (cd_ml.getD yc 0) (cd_mr.getD yc none) (cd_wsO yc) (cd_room yc) 0 0 as.length := by
    refine cwV as.length hts ?_ rfl rfl rfl ⟨rfl, o3, o4, hlen⟩ ⟨hfr, hlw⟩
    intro w hw
    have hw : w ∈ [Cond.methodLink own idx (cd_y yc), Cond.instanceMethod (cd_y yc), Cond.selects (cd_y yc).cls (cd_y yc) (cd_y yc), Cond.initialized (cd_y yc).cls] ++ cd_wsO yc := hw
    rcases List.mem_append.mp hw with h | h
    · simp only [List.mem_cons, List.not_mem_nil, or_false] at h
      rcases h with h | h | h | h
      · rw [h]; exact cd_goodW w1
      · rw [h]; exact cd_goodW w2
      · rw [h]; exact cd_goodW w3
      · rw [h]; exact cd_goodW w4
    · exact cd_goodB yc hyc w h
  have hrun := va_runV (l := l) (e := e) (below := below) (meth := meth) (locs := locs) (cells := cells) (slots := slots) (g := F0 m pc ls ((as.map Value.int).reverse ++ .ref (ad k) :: rest)) (rest := rest) (As := as.map Value.int) (b := ad k) (nL := nL) (Ts := cd_big) ⟨hx, hb, hml, hown, hts⟩ hM hcw
    ⟨cd_blind _ _ _, hrecv, cf_pre hC0 hP hD hS (by rw [List.map_cons, cd_em_ref ad fm hne, em])⟩ rfl (by rw [List.length_map]) hls rfl (lv_room hcat) hd ⟨hcs.1, hcs.2⟩
  have hfr2 := cd_free (A := A) (ws := cd_ws cy ad M) hD hS hA
  refine cd_callG (v := some (.int v)) (B := fun t => va_P D cd_cl (cd_ws cy ad M') t.heap ∧ va_K D cd_cl (cd_tys cy) t ∧ va_D (va_A (cd_ws cy ad M) H.size) (cd_ws cy ad M')) hrun hS (fun q _ h => hfr2 q h) hfr2 (fun t H1 locs1 ht hvm hB hS1 => ?_)
  obtain ⟨hP1, hK1, hD1⟩ := hB
  rw [ht] at hP1
  exact kk H1 locs1 hP1 (hD1.weaken (fun _ q _ h => hfr2 q.1 h)) hS1
/-- desk.reel -/
theorem cf_reel (hC : cf_Cx p s m args c D cy ad fm A RX10 cX10_field nL) {pc : Nat} {ls : Array Slot} {rest : List Value} {M : cd_M} (hd : decode cX10_field pc = .ok (.getfield 35, 3)) (hP : va_P D cd_cl (cd_ws cy ad M) H)
    (kk : W p l e R s m args below meth c H locs cells slots Q (F0 m (pc + 3) ls (.ref (ad 7) :: rest))) : W p l e R s m args below meth c H locs cells slots Q (F0 m pc ls (.ref (ad 0) :: rest)) := by
  obtain ⟨hx, hb, hml, hown, hts, hK, hSt, hA⟩ := hC
  obtain ⟨hlt, ha, hn⟩ := cd_he (cy := cy) (ad := ad) (M := M) (k := 0) (ci := 10) rfl (by decide)
  exact va_get (D := D) (ci := 10) (C := (cd_F 10).1) (T := (cd_F 10).2.1) (N := (cd_F 10).2.2) (v := .ref (ad 7)) hx hb hts (cd_lay 10 (by decide)) hown hK hP 0 ha (cd_clF 10 (by decide)) 3 (by decide) (hts (.fieldLink RX10 35 "CadenceDesk" "reel" "LCadenceDesk$Reel;") (cd_m 2 73 rfl rfl)) (fun _ z => z) (cd_fs_get (by decide) fm) hd kk
end cfA
