/-! the contract of law.field -/
theorem dG_0 : decode cL_field 0 = .ok (.aload_n 3, 1) := by decide +kernel
theorem dG_1 : decode cL_field 1 = .ok (.iconst 0, 1) := by decide +kernel
theorem dG_2 : decode cL_field 2 = .ok (.aload_n 0, 1) := by decide +kernel
theorem dG_3 : decode cL_field 3 = .ok (.iload_n 1, 1) := by decide +kernel
theorem dG_4 : decode cL_field 4 = .ok (.iload_n 2, 1) := by decide +kernel
theorem dG_5 : decode cL_field 5 = .ok (.invokevirtual 7, 3) := by decide +kernel
theorem dG_8 : decode cL_field 8 = .ok (.i2l, 1) := by decide +kernel
theorem dG_9 : decode cL_field 9 = .ok (.lastore, 1) := by decide +kernel
theorem dG_10 : decode cL_field 10 = .ok (.goto 7, 3) := by decide +kernel
theorem dG_13 : decode cL_field 13 = .ok (.astore 4, 2) := by decide +kernel
theorem dG_15 : decode cL_field 15 = .ok (.iconst 1, 1) := by decide +kernel
theorem dG_16 : decode cL_field 16 = .ok (.ireturn, 1) := by decide +kernel
theorem dG_17 : decode cL_field 17 = .ok (.iconst 0, 1) := by decide +kernel
theorem dG_18 : decode cL_field 18 = .ok (.ireturn, 1) := by decide +kernel
def cf_M (r : Option Int32) (M : cd_M) : cd_M := match r with
  | some x => cd_wL M 82 0 x.toInt64
  | none => M
def cf_k (r : Option Int32) : Int32 := match r with
  | some _ => 0
  | none => 1
def cg_ws : List Cond := .codeWith yL_field cL_field 5 (some .int) [(0, 10, 13, 13)] :: cd_big
def cg_rm : Room := { frames := 10, cells := 1, slots := 6, locals := 300 }
theorem cg_good : GoodIn cd_big cf_ws := by
  intro w hw
  rcases List.mem_cons.mp hw with h | h
  · rw [h]; exact cd_goodW (cd_m 5 155 rfl rfl)
  · exact cd_goodW h
set_option maxHeartbeats 1000000 in
theorem cg_field (l : Launch) (hl0 : l.stackTraces = false) (D : va_G) (cy : Nat → ClassId) (ad : Nat → Nat) (fm : Value) (sa sb : Nat) (a b : Int32) (M : cd_M) (r : Option Int32) (hr0 : cf_o a b M = some r) (sz : Nat) :
    vx_Met l yL_field cg_ws cg_rm (cf_Pc D cy ad fm sa sb [.ref (ad 0), .int a, .int b, .ref (ad 82)] M sz) (va_Qi (fun v (_ : Unit) => v = cf_k r) (cf_B D cy ad (va_A (cd_ws cy ad M) sz) (cf_M r M)) (va_A (cd_ws cy ad M) sz)) (vx_X (fun _ : Unit => False) (cf_BX D cy ad (va_A (cd_ws cy ad M) sz) M) (va_A (cd_ws cy ad M) sz)) 1 6 (va_A (cd_ws cy ad M) sz) := by
  refine vx_ofWH (cc := cL_field) (maxL := 5) (ret := some .int) (hh := [(0, 10, 13, 13)]) (by decide) rfl ?_
  intro p e s m args below meth c s₁ B hml hv
  obtain ⟨rfl, hsize, hP, hK, hD0, hSt, hE⟩ := hv
  have hts0 := atoms_spec (ws := cg_ws) B.pre
  have hts : ∀ w ∈ cd_big, w.before ([Value.ref (ad 0), .int a, .int b, .ref (ad 82)] : List Value).toArray s = true := fun w hw => hts0 w (List.mem_cons_of_mem _ hw)
  have htab : c.exceptionTable.toList = tableOf [(0, 10, 13, 13)] := vx_table (x := yL_field) B (hts0 _ List.mem_cons_self)
  have hown : s.vm.findClass RL = some m.cls := findClass_of_methodNamed B.named
  have hx := B.exec
  have hb := B.bytes
  have hr := B.returns
  have hlk := B.notSynchronized
  subst hsize
  have hD := hD0.self (sz := s.heap.size)
  have hA : ∀ q, s.heap.size ≤ q → va_A (cd_ws cy ad M) s.heap.size q := fun q hq => Or.inr hq
  have hl := lv_entry [Value.ref (ad 0), .int a, .int b, .ref (ad 82)] (n := 5) (Nat.le_of_ble_eq_true rfl)
  rw [lg_entry_eq]
  generalize ((lg_sl [Value.ref (ad 0), .int a, .int b, .ref (ad 82)] ++ List.replicate (5 - (lg_sl [Value.ref (ad 0), .int a, .int b, .ref (ad 82)]).length) Slot.unset).toArray) = ls at hl ⊢
  have hl : lv_has ls 5 [(0, .ref (ad 0)), (1, .int a), (2, .int b), (3, .ref (ad 82))] := hl
  have hS : va_S (va_A (cd_ws cy ad M) s.heap.size) s.heap s.heap [] := va_S.rf
  obtain ⟨hl1, ha, -⟩ := cd_he (cy := cy) (ad := ad) (M := M) (k := 0) (ci := 10) rfl (by decide)
  have hrecv : ∃ cellB : Cell, s.heap[ad 0]? = some cellB ∧ cellB.vm.isStatics = false ∧ s.vm.findClass RX10 = some cellB.cls := by
    have h1 := va_recv hK hP (cd_clF 10 (by decide)) ha
    rw [cd_cF 10 (by decide)] at h1
    exact h1
  refine lv_aload_n hx hb dG_0 rfl (lv_at hl 3 rfl) ?_
  refine lv_iconst (v := 0) hx hb dG_1 (by decide) ?_
  refine lv_aload_n hx hb dG_2 rfl (lv_at hl 0 rfl) ?_
  refine lv_iload_n hx hb dG_3 rfl (lv_at hl 1 rfl) ?_
  refine lv_iload_n hx hb dG_4 rfl (lv_at hl 2 rfl) ?_
  have hcw : CallW cg_rm s ([Value.ref (ad 0), .int a, .int b, .ref (ad 82)] : List Value).toArray RL RX10 7 yX10_field cX10_field 3 (some .int) cf_ws cf_rm 1 6 2 := by
    refine cwV 2 hts ?_ rfl rfl rfl (by decide +kernel) ⟨Nat.le_of_ble_eq_true rfl, Nat.le_of_ble_eq_true rfl⟩
    intro w hw
    have hw : w ∈ [Cond.methodLink RL 7 yX10_field, Cond.instanceMethod yX10_field, Cond.selects yX10_field.cls yX10_field yX10_field, Cond.initialized yX10_field.cls] ++ cf_ws := hw
    rcases List.mem_append.mp hw with h | h
    · simp only [List.mem_cons, List.not_mem_nil, or_false] at h
      rcases h with h | h | h | h
      · rw [h]; exact cd_goodW (cd_m 5 152 rfl rfl)
      · rw [h]; exact cd_goodW (cd_m 5 153 rfl rfl)
      · rw [h]; exact cd_goodW (cd_m 5 154 rfl rfl)
      · rw [h]; exact cd_goodW (cd_m 1 1 rfl rfl)
    · exact cg_good w h
  have hpre : ∀ U : State, U.heap = s.heap → s.WarmedH U.vm → cf_Pc D cy ad fm sa sb [.ref (ad 0), .int a, .int b] M s.heap.size (Value.ref (ad 0) :: [Value.int a, .int b]).toArray U := by
    intro U hU hW
    exact ⟨rfl, by rw [hU], by rw [hU]; exact hP, va_K.moved hW.alike hK, hD0, cd_St_go hSt hS hU hW (fun _ h => h), cf_Ex_go hE hS hU hW (fun _ h => h)⟩
  have hrun := vx_runV (l := l) (e := e) (below := below) (meth := meth) (locs := []) (cells := 0) (slots := 0) (g := F0 m 5 ls ([Value.int a, .int b].reverse ++ .ref (ad 0) :: [.int 0, .ref (ad 82)])) (rest := [.int 0, .ref (ad 82)]) (As := [Value.int a, .int b]) (b := ad 0) (nL := 5) (Ts := cd_big) ⟨hx, hb, hml, hown, hts⟩ (cf_field l hl0 D cy ad fm sa sb a b M r hr0 s.heap.size) hcw ⟨cf_blind _ _ _, hrecv, hpre⟩ rfl rfl hl.1 rfl (lv_room (Nat.le_of_ble_eq_true rfl)) dG_5 ⟨Nat.le_of_ble_eq_true rfl, Nat.le_of_ble_eq_true rfl⟩
  refine vx_calli hrun hS (fun _ _ h => h) (fun _ h => h) (fun _ _ h => h) (fun E ce q9 u t H1 locs1 ht hal hpx hBX hsz1 hsame hS1 hce hcv hcl => ?_) (fun v u t H1 locs1 ht hal hpost hB hsz1 hsame hS1 => ?_)
  · obtain ⟨rfl, hP1, hD1⟩ := hBX
    rw [ht] at hP1
    have hpx : r = none := hpx
    refine vx_catch (own := RL) (name := cf_N) (E := cf_N) (ce := ce) hown [] ⟨0, 10, 13, 13⟩ [] htab (fun z hz => absurd hz List.not_mem_nil) (by decide) (by decide) (hts _ (cd_m 5 151 rfl rfl)) (va_Nw.use rfl (hE.1 (.castable cf_N cf_N) (List.mem_of_getElem? (i := 3) rfl))) hce hcv hcl ?_
    refine lv_astore hx hb dG_13 hl (by decide) rfl (fun ls' hl' => ?_)
    refine lv_iconst (v := 1) hx hb dG_15 (by decide) ?_
    refine vx_ret ?_
    exact W.zret hx hb hr rfl (fun t ht hW => ⟨⟨1, (), rfl, by rw [hpx]; rfl, by rw [ht, hpx]; exact hP1, by rw [hpx]; exact hD1⟩, hS1.F ht⟩) hS1.2.2 dG_16 hlk
  · obtain ⟨hP1, hD1⟩ := hB
    rw [ht] at hP1
    have hpost : r = some v := hpost
    refine lv_i2l (v := v.toInt64) hx hb dG_8 rfl ?_
    have h82 : (cd_sh 82).1 = 21 := rfl
    have hlt : 82 < cd_NC := cd_sh_lt (by rw [h82]; decide)
    have ha := cd_ws_at (cy := cy) (ad := ad) (M := M) hlt
    rw [cd_cell21 h82] at ha
    refine va_last hx hb hK hP1 hD1 hS1 82 1 ha rfl (i := 0) (by unfold vp_in; decide) dG_9 (fun H2 locs2 hP2 hD2 hS2 => ?_)
    rw [cd_ws_set (cy := cy) (ad := ad) (M := M) (M' := cd_wL M 82 0 v.toInt64) hlt (by rw [cd_cell21 h82, cd_wL_s]; rfl) (fun a h => cd_cell_wL_ne h)] at hP2 hD2
    refine lv_goto (tgt := 17) hx hb dG_10 (by decide) ?_
    refine lv_iconst (v := 0) hx hb dG_17 (by decide) ?_
    refine vx_ret ?_
    exact W.zret hx hb hr rfl (fun t ht hW => ⟨⟨0, (), rfl, by rw [hpost]; rfl, by rw [ht, hpost]; exact hP2, by rw [hpost]; exact hD2⟩, hS2.F ht⟩) hS2.2.2 dG_18 hlk
