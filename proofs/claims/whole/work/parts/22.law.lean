/-! the law's own steps -/
theorem cl_ts {args : Array Value} {s : State} (h : ∀ w ∈ lw_tbl, w.before args s = true) : ∀ w ∈ cd_big, w.before args s = true := fun w hw => h w (List.mem_filter.mp hw).1
section clA
variable {p : Program} {l : Launch} {e : Env} {s : State} {m : MethodId} {args : Array Value} {below : List Frame} {meth : Method} {c : Code} {H : Heap} {locs : List Loc} {cells slots : Nat} {Q : State → Prop} {D : va_G} {cy : Nat → ClassId} {ad : Nat → Nat} {fm : Value}
/-- what holds through the law -/
def cl_Cx (p : Program) (s : State) (m : MethodId) (args : Array Value) (meth : Method) (c : Code) (D : va_G) (cy : Nat → ClassId) (ad : Nat → Nat) (fm : Value) (b L : Nat) (xs : Nat → Int32) : Prop :=
  p.tables.exec = Jvm.exec ∧ c.code = code ∧ meth.sig.returnType = ret ∧ c.maxLocals = 7 ∧ s.vm.findClass RL = some m.cls ∧ (∀ w ∈ cd_big, w.before args s = true) ∧ meth.locks = false ∧ va_K D cd_cl (cd_tys cy) s ∧ cd_St ad fm (fun q => s.heap.size ≤ q) s ∧ va_X b L xs s s.heap ∧ b < s.heap.size ∧ L ≤ 3072
theorem cl_pre {b L : Nat} {xs : Nat → Int32} (hC : cl_Cx p s m args meth c D cy ad fm b L xs) {M : cd_M} {as : List Value} (hP : va_P D cd_cl (cd_ws cy ad M) H) (hD : va_D (fun q => s.heap.size ≤ q) (cd_ws cy ad M)) (hS : va_S (fun q => s.heap.size ≤ q) s.heap H locs) {aa : Array Value} (ha : aa = (as.map (cd_em ad fm)).toArray) : ∀ U : State, U.heap = H → s.WarmedH U.vm → cd_Pc D cy ad fm as M H.size aa U := by
  obtain ⟨hx, hb, hr, hml, hown, hts, hlk, hK, hSt, hX, hbl, hL⟩ := hC
  intro U hU hW
  exact ⟨ha, by rw [hU], by rw [hU]; exact hP, va_K.moved hW.alike hK, hD.weaken (fun _ _ _ _ => trivial), cd_St_go hSt hS hU hW (cd_free (ws := cd_ws cy ad M) hD hS (fun _ h => h))⟩
/-- a call of one of the methods of the abstract machine, out of the law -/
theorem cl_call {b L : Nat} {xs : Nat → Int32} (hC : cl_Cx p s m args meth c D cy ad fm b L xs) {pc idx yc k : Nat} {ls : Array Slot} {rest : List Value} {as : List Int32} {M M' : cd_M} {v : Int32} (hd : decode code pc = .ok (.invokevirtual idx, 3)) (hyc : yc < 245)
    (w1 : Cond.methodLink RL idx (cd_y yc) ∈ cd_big) (w2 : Cond.instanceMethod (cd_y yc) ∈ cd_big) (w3 : Cond.selects (cd_y yc).cls (cd_y yc) (cd_y yc) ∈ cd_big) (w4 : Cond.initialized (cd_y yc).cls ∈ cd_big) (hlen : (parseMethodDescriptor (cd_y yc).desc).map (fun d => d.parameters.length) = some as.length)
    (hk : (cd_sh k).1 = cd_own yc) (hk12 : cd_own yc < 12) (hcat : (rest.map fun v => v.category).sum ≤ 8) (hfr : cd_mf.getD yc 0 + 1 ≤ 12) (hlw : 8 + (cd_ml.getD yc 0 + 11) + cd_mw.getD yc 0 ≤ 432) (hsz : (lg_sl (.ref k :: as.map Value.int)).length ≤ cd_ml.getD yc 0) (hls : ls.size = 7)
    (hrun : ∃ n, cd_ex n yc 0 (cd_ent yc (.ref k :: as.map Value.int)) [] M = some (some (.int v), M')) (hcs : cells ≤ 601024 ∧ slots ≤ 7293034)
    (hP : va_P D cd_cl (cd_ws cy ad M) H) (hD : va_D (fun q => s.heap.size ≤ q) (cd_ws cy ad M)) (hS : va_S (fun q => s.heap.size ≤ q) s.heap H locs)
    (kk : ∀ (H1 : Heap) (locs1 : List Loc), va_P D cd_cl (cd_ws cy ad M') H1 → va_D (fun q => s.heap.size ≤ q) (cd_ws cy ad M') → va_S (fun q => s.heap.size ≤ q) s.heap H1 locs1 → W p l e room_1 s m args below meth c H1 locs1 cells slots Q (F0 m (pc + 3) ls (.int v :: rest))) :
    W p l e room_1 s m args below meth c H locs cells slots Q (F0 m pc ls ((as.map Value.int).reverse ++ .ref (ad k) :: rest)) := by
  have hC0 := hC
  obtain ⟨hx, hb, hr, hml, hown, hts, hlk, hK, hSt, hX, hbl, hL⟩ := hC
  obtain ⟨n, hn⟩ := hrun
  have hM := cd_sound hyc hsz hn l D cy ad fm H.size
  obtain ⟨o1, o2, o3, o4⟩ := cd_mOK2 yc hyc
  obtain ⟨hl1, ha, -⟩ := cd_he (cy := cy) (ad := ad) (M := M) hk hk12
  have hrecv : ∃ cellB : Cell, H[ad k]? = some cellB ∧ cellB.vm.isStatics = false ∧ s.vm.findClass (cd_y yc).cls = some cellB.cls := by
    have h1 := va_recv hK hP (cd_clF _ hk12) ha
    rw [cd_cF _ hk12] at h1
    rw [o1]
    exact h1
  have em : (as.map Value.int).map (cd_em ad fm) = as.map Value.int := by
    rw [List.map_map]
    rfl
  have hne : ¬ k = 1200 := cd_ne1200 hl1
  have hcw : CallW room_1 s args RL (cd_y yc).cls idx (cd_y yc) (cd_code yc).1 (cd_ml.getD yc 0) (cd_mr.getD yc none) (cd_wsO yc) (cd_room yc) 0 0 as.length := by
    refine cwV as.length hts ?_ rfl rfl rfl ⟨rfl, o3, o4, hlen⟩ ⟨hfr, hlw⟩
    intro w hw
    have hw : w ∈ [Cond.methodLink RL idx (cd_y yc), Cond.instanceMethod (cd_y yc), Cond.selects (cd_y yc).cls (cd_y yc) (cd_y yc), Cond.initialized (cd_y yc).cls] ++ cd_wsO yc := hw
    rcases List.mem_append.mp hw with h | h
    · simp only [List.mem_cons, List.not_mem_nil, or_false] at h
      rcases h with h | h | h | h
      · rw [h]; exact cd_goodW w1
      · rw [h]; exact cd_goodW w2
      · rw [h]; exact cd_goodW w3
      · rw [h]; exact cd_goodW w4
    · exact cd_goodB yc hyc w h
  have hrun := va_runV (l := l) (e := e) (below := below) (meth := meth) (locs := locs) (cells := cells) (slots := slots) (g := F0 m pc ls ((as.map Value.int).reverse ++ .ref (ad k) :: rest)) (rest := rest) (As := as.map Value.int) (b := ad k) (nL := 7) (Ts := cd_big) ⟨hx, hb, hml, hown, hts⟩ hM hcw
    ⟨cd_blind _ _ _, hrecv, cl_pre hC0 hP hD hS (by rw [List.map_cons, cd_em_ref ad fm hne, em])⟩ rfl (by rw [List.length_map]) hls rfl (lv_room hcat) hd ⟨hcs.1, hcs.2⟩
  have hfr2 := cd_free (A := fun q => s.heap.size ≤ q) (ws := cd_ws cy ad M) hD hS (fun _ h => h)
  refine cd_callG (v := some (.int v)) (B := fun t => va_P D cd_cl (cd_ws cy ad M') t.heap ∧ va_K D cd_cl (cd_tys cy) t ∧ va_D (va_A (cd_ws cy ad M) H.size) (cd_ws cy ad M')) hrun hS (fun q _ h => hfr2 q h) hfr2 (fun t H1 locs1 ht hvm hB hS1 => ?_)
  obtain ⟨hP1, hK1, hD1⟩ := hB
  rw [ht] at hP1
  exact kk H1 locs1 hP1 (hD1.weaken (fun _ q _ h => hfr2 q.1 h)) hS1
/-- an argument out of the script: script[i + k] -/
theorem cl_arg {b L : Nat} {xs : Nat → Int32} (hC : cl_Cx p s m args meth c D cy ad fm b L xs) {pc i k : Nat} {ls : Array Slot} {rest : List Value} {lv : List (Nat × Value)} (hl : lv_has ls 7 ((0, .ref b) :: (4, .int (nI i)) :: lv)) (hi : i + k < L) (d1 : decode code pc = .ok (.aload_n 0, 1)) (d2 : decode code (pc + 1) = .ok (.iload 4, 2)) (d3 : decode code (pc + 3) = .ok (.iconst (k : Int), 1)) (hk : Int32.ofInt (k : Int) = nI k) (d4 : decode code (pc + 4) = .ok (.iadd, 1)) (d5 : decode code (pc + 5) = .ok (.iaload, 1)) (hS : va_S (fun q => s.heap.size ≤ q) s.heap H locs)
    (kk : W p l e room_1 s m args below meth c H locs cells slots Q (F0 m (pc + 6) ls (.int (xs (i + k)) :: rest))) : W p l e room_1 s m args below meth c H locs cells slots Q (F0 m pc ls rest) := by
  obtain ⟨hx, hb, hr, hml, hown, hts, hlk, hK, hSt, hX, hbl, hL⟩ := hC
  refine lv_aload_n hx hb d1 rfl (lv_at hl 0 rfl) ?_
  refine lv_iload hx hb d2 (lv_at hl 1 rfl) ?_
  refine lv_iconst (v := nI k) hx hb d3 hk ?_
  refine lv_iadd hx hb d4 ?_
  rw [nI_add]
  refine va_sld (A := fun q => s.heap.size ≤ q) hx hb hX hbl (Nat.not_le.mpr hbl) hS (vp_in_nI hi (by omega)) d5 ?_
  rw [nI_clamp (by omega)]
  exact kk
end clA
theorem cl_run {y : Nat} {ls : List (Option Value)} {M : cd_M} {o : cd_RT} (h : cd_R y 0 ls [] M o) {r : Option Value × cd_M} (e : o = some r) : ∃ n, cd_ex n y 0 ls [] M = some r := h r e
