def cf_o (a b : Int32) (M : cd_M) : Option (Option Int32) := if f4_has_7 a M = 0 then some none else if b = -1 then (f4_parity_7 a M).map some else if f10_isSampleNumber_0 b M = 0 then some none else (f4_sample_7 a b M).map some
def cf_ws : List Cond := .code yX10_field cX10_field 3 (some .int) :: cd_big
def cf_rm : Room := { frames := 8, cells := 1, slots := 6, locals := 220 }
def cf_Pc (D : va_G) (cy : Nat → ClassId) (ad : Nat → Nat) (fm : Value) (sa sb : Nat) (av : List Value) (M : cd_M) (sz : Nat) : Array Value → State → Prop := va_Pc av (fun U => U.heap.size = sz ∧ va_P D cd_cl (cd_ws cy ad M) U.heap ∧ va_K D cd_cl (cd_tys cy) U ∧ va_D (fun _ => True) (cd_ws cy ad M) ∧ cd_St ad fm (va_A (cd_ws cy ad M) sz) U ∧ cf_Ex sa sb (va_A (cd_ws cy ad M) sz) U)
theorem cf_blind {D : va_G} {cy : Nat → ClassId} {ad : Nat → Nat} {fm : Value} {sa sb : Nat} (av : List Value) (M : cd_M) (sz : Nat) : FrameBlind (cf_Pc D cy ad fm sa sb av M sz) := by
  intro a U g mk h
  obtain ⟨h1, h2, h3, h4, h5, h6, h7⟩ := h
  exact ⟨h1, h2, h3, va_K.moved (u := U) (U := U.calling g mk a) (Vm.Alike.refl U.vm) h4, h5, cd_St_blind h6, cf_Ex_blind h7⟩
def cf_B (D : va_G) (cy : Nat → ClassId) (ad : Nat → Nat) (A : Nat → Prop) (M : cd_M) : Unit → State → Prop := fun _ t => va_P D cd_cl (cd_ws cy ad M) t.heap ∧ va_D A (cd_ws cy ad M)
def cf_BX (D : va_G) (cy : Nat → ClassId) (ad : Nat → Nat) (A : Nat → Prop) (M : cd_M) : String → Unit → State → Prop := fun E _ t => E = cf_N ∧ va_P D cd_cl (cd_ws cy ad M) t.heap ∧ va_D A (cd_ws cy ad M)
section cfB
variable {p : Program} {l : Launch} {e : Env} {R : Room} {s : State} {m : MethodId} {args : Array Value} {below : List Frame} {meth : Method} {c : Code} {H : Heap} {locs : List Loc} {cells slots : Nat} {Q : State → Prop} {D : va_G} {cy : Nat → ClassId} {ad : Nat → Nat} {fm : Value} {A : Nat → Prop} {own : String} {cc : ByteArray} {nL : Nat}
theorem cf_hat (hts : ∀ w ∈ cd_big, w.before args s = true) (h : ∀ w ∈ cf_dec, va_Nw w s) : ∀ w ∈ cf_L, w.before args s = true :=
  vx_hat (B := cf_dec) (fun w hw => hts w (List.mem_filter.mpr ⟨cf_good w hw, (List.mem_filter.mp hw).2⟩)) cf_bad (fun w hw => va_Nw.use (cf_dec_on w hw) (h w hw))
theorem cf_throw (hC : cf_Cx p s m args c D cy ad fm A RX10 cX10_field 3) (hl0 : l.stackTraces = false) {sa sb : Nat} (hE : cf_Ex sa sb A s) {text : String} {is sx pc : Nat} {ls : Array Slot} {M : cd_M} (hstr : vk_R RX10 is text sx s) (hsz : ls.size = 3) (hlk : meth.locks = false) (hout : ∀ x ∈ c.exceptionTable.toList, False)
    (d0 : decode cX10_field pc = .ok (.new 204, 3)) (d3 : decode cX10_field (pc + 3) = .ok (.dup, 1)) (d4 : decode cX10_field (pc + 4) = .ok (.ldc is, 2)) (d6 : decode cX10_field (pc + 6) = .ok (.invokespecial 208, 3)) (d9 : decode cX10_field (pc + 9) = .ok (.athrow, 1))
    {post : Int32 → Unit → Prop} {px : Unit → Prop} (hpx : px ())
    (hP : va_P D cd_cl (cd_ws cy ad M) H) (hD : va_D A (cd_ws cy ad M)) (hS : va_S A s.heap H locs) :
    W p l e cf_rm s m args below meth c H locs 0 0 (vx_MQ below (va_Qi post (cf_B D cy ad A M) A) (vx_X px (cf_BX D cy ad A M) A) args s 1 6 A) (F0 m pc ls []) := by
  obtain ⟨hx, hb, hml, hown, hts, hK, hSt, hA⟩ := hC
  refine cx_makeS (cc := cX10_field) hx hb hl0 (own := RX10) (cls := cf_N) (text := text) (ix := 13) (rx := prog_27_method_4_code) (Y9 := "java/lang/RuntimeException") (r9 := ["java/lang/Exception"]) dN_0 dN_1 dN_2 dN_5 (ik := 204) (is := is) (ic := 208) (sa := sx) (A := A) hown (by decide) (by decide) (hts _ (cd_m 5 156 rfl rfl)) (hts _ (cd_m 1 22 rfl rfl)) hstr (cf_hat hts hE.1) cf_ot hE.2.2.2.1 hE.2.2.2.2 hS (by rw [hsz, hml]) d0 d3 d4 d6 (Nat.le_of_ble_eq_true rfl) (Nat.le_of_ble_eq_true rfl) (Nat.le_of_ble_eq_true rfl) (Nat.le_of_ble_eq_true rfl) (fun q H1 ce hce hvm hcls hsz1 hsame hS1 => ?_)
  have hP1 : va_P D cd_cl (cd_ws cy ad M) H1 := hP.kept (fun k q hk => hsame q.1 (vx_lt hP hk))
  exact vx_athrow hx hb d9 (vx_out (fun x hx => absurd (hout x hx) id) hlk hce hvm hcls (fun t ht _ => ⟨(), hpx, ⟨rfl, by rw [ht]; exact hP1, hD⟩, hS1.F ht⟩) hS1.2.2 (Nat.le_refl _) (Nat.le_refl _))
end cfB
set_option maxHeartbeats 1000000 in
/-- the contract of desk.field -/
theorem cf_field (l : Launch) (hl0 : l.stackTraces = false) (D : va_G) (cy : Nat → ClassId) (ad : Nat → Nat) (fm : Value) (sa sb : Nat) (a b : Int32) (M : cd_M) (r : Option Int32) (hr0 : cf_o a b M = some r) (sz : Nat) :
    vx_Met l yX10_field cf_ws cf_rm (cf_Pc D cy ad fm sa sb [.ref (ad 0), .int a, .int b] M sz) (va_Qi (fun v (_ : Unit) => r = some v) (cf_B D cy ad (va_A (cd_ws cy ad M) sz) M) (va_A (cd_ws cy ad M) sz)) (vx_X (fun _ : Unit => r = none) (cf_BX D cy ad (va_A (cd_ws cy ad M) sz) M) (va_A (cd_ws cy ad M) sz)) 1 6 (va_A (cd_ws cy ad M) sz) := by
  refine vx_ofW (cc := cX10_field) (maxL := 3) (ret := some .int) (by decide) rfl ?_
  intro p e s m args below meth c s₁ B hml hout hv
  obtain ⟨rfl, hsize, hP, hK, hD0, hSt, hE⟩ := hv
  have hts0 := atoms_spec (ws := cf_ws) B.pre
  have hts : ∀ w ∈ cd_big, w.before ([Value.ref (ad 0), .int a, .int b] : List Value).toArray s = true := fun w hw => hts0 w (List.mem_cons_of_mem _ hw)
  have hown : s.vm.findClass RX10 = some m.cls := findClass_of_methodNamed B.named
  have hx := B.exec
  have hb := B.bytes
  have hr := B.returns
  have hlk := B.notSynchronized
  subst hsize
  have hD := hD0.self (sz := s.heap.size)
  have hC : cf_Cx p s m ([Value.ref (ad 0), .int a, .int b] : List Value).toArray c D cy ad fm (va_A (cd_ws cy ad M) s.heap.size) RX10 cX10_field 3 := ⟨hx, hb, hml, hown, hts, hK, hSt, fun q hq => Or.inr hq⟩
  have hl := lv_entry [Value.ref (ad 0), .int a, .int b] (n := 3) (Nat.le_refl _)
  rw [lg_entry_eq]
  generalize ((lg_sl [Value.ref (ad 0), .int a, .int b] ++ List.replicate (3 - (lg_sl [Value.ref (ad 0), .int a, .int b]).length) Slot.unset).toArray) = ls at hl ⊢
  have hl : lv_has ls 3 [(0, .ref (ad 0)), (1, .int a), (2, .int b)] := hl
  have hS : va_S (va_A (cd_ws cy ad M) s.heap.size) s.heap s.heap [] := va_S.rf
  have hend : ∀ {H : Heap} {locs : List Loc} {pc : Nat} {v : Int32}, decode cX10_field pc = .ok (.ireturn, 1) → r = some v → va_P D cd_cl (cd_ws cy ad M) H → va_S (va_A (cd_ws cy ad M) s.heap.size) s.heap H locs → W p l e cf_rm s m ([Value.ref (ad 0), .int a, .int b] : List Value).toArray below meth c H locs 0 0 (vx_MQ below (va_Qi (fun v (_ : Unit) => r = some v) (cf_B D cy ad (va_A (cd_ws cy ad M) s.heap.size) M) (va_A (cd_ws cy ad M) s.heap.size)) (vx_X (fun _ : Unit => r = none) (cf_BX D cy ad (va_A (cd_ws cy ad M) s.heap.size) M) (va_A (cd_ws cy ad M) s.heap.size)) ([Value.ref (ad 0), .int a, .int b] : List Value).toArray s 1 6 (va_A (cd_ws cy ad M) s.heap.size)) (F0 m pc ls [.int v]) := by
    intro H locs pc v hd hv hP hS
    refine vx_ret (W.widen (k := 1) (n := 6) (by omega) (by omega) ?_)
    exact W.zret hx hb hr rfl (fun t ht hW => ⟨⟨v, (), rfl, hv, by rw [ht]; exact hP, hD⟩, hS.F ht⟩) hS.2.2 hd hlk
  refine lv_aload_n hx hb dF_0 rfl (lv_at hl 0 rfl) ?_
  refine cf_reel hC dF_1 hP ?_
  refine lv_iload_n hx hb dF_4 rfl (lv_at hl 1 rfl) ?_
  refine cf_call (k := 7) (as := [a]) (v := f4_has_7 a M) (M := M) (M' := M) (rest := []) hC dF_5 (show 43 < 245 by decide) (cd_m 4 38 rfl rfl) (cd_m 3 230 rfl rfl) (cd_m 3 231 rfl rfl) (cd_m 1 7 rfl rfl) (show (parseMethodDescriptor (cd_y 43).desc).map (fun d => d.parameters.length) = some 1 by decide +kernel) rfl (by decide) (Nat.le_of_ble_eq_true rfl) (Nat.le_of_ble_eq_true rfl) (Nat.le_of_ble_eq_true rfl) (Nat.le_of_ble_eq_true rfl) hl.1 (cl_run (k4_has_7 a M) rfl) (by decide) hP hD hS (fun H locs hP hD hS => ?_)
  refine lv_if_ne (tgt := 21) hx hb dF_8 (by decide) (fun h1 => ?_) (fun h1 => ?_)
  · have hr1 : (if b = -1 then (f4_parity_7 a M).map some else if f10_isSampleNumber_0 b M = 0 then some none else (f4_sample_7 a b M).map some) = some r := by
      rw [← hr0]; unfold cf_o; rw [if_neg h1]
    refine lv_iload_n hx hb dF_21 rfl (lv_at hl 2 rfl) ?_
    refine lv_iconst (v := -1) hx hb dF_22 (by decide) ?_
    refine lv_icmp_ne (tgt := 35) hx hb dF_23 (by decide) (fun h2 => ?_) (fun h2 => ?_)
    · rw [if_neg h2] at hr1
      refine lv_aload_n hx hb dF_35 rfl (lv_at hl 0 rfl) ?_
      refine lv_iload_n hx hb dF_36 rfl (lv_at hl 2 rfl) ?_
      refine cf_call (k := 0) (as := [b]) (v := f10_isSampleNumber_0 b M) (M := M) (M' := M) (rest := []) hC dF_37 (show 156 < 245 by decide) (cd_m 3 153 rfl rfl) (cd_m 3 155 rfl rfl) (cd_m 0 15 rfl rfl) (cd_m 1 1 rfl rfl) (show (parseMethodDescriptor (cd_y 156).desc).map (fun d => d.parameters.length) = some 1 by decide +kernel) rfl (by decide) (Nat.le_of_ble_eq_true rfl) (Nat.le_of_ble_eq_true rfl) (Nat.le_of_ble_eq_true rfl) (Nat.le_of_ble_eq_true rfl) hl.1 (cl_run (k10_isSampleNumber_0 b M) rfl) (by decide) hP hD hS (fun H locs hP hD hS => ?_)
      refine lv_if_ne (tgt := 53) hx hb dF_40 (by decide) (fun h3 => ?_) (fun h3 => ?_)
      · rw [if_neg h3] at hr1
        refine lv_aload_n hx hb dF_53 rfl (lv_at hl 0 rfl) ?_
        refine cf_reel hC dF_54 hP ?_
        refine lv_iload_n hx hb dF_57 rfl (lv_at hl 1 rfl) ?_
        refine lv_iload_n hx hb dF_58 rfl (lv_at hl 2 rfl) ?_
        obtain ⟨v, hv, hv2⟩ := Option.map_eq_some_iff.mp hr1
        refine cf_call (k := 7) (as := [a, b]) (v := v) (M := M) (M' := M) (rest := []) hC dF_59 (show 47 < 245 by decide) (cd_m 4 39 rfl rfl) (cd_m 4 18 rfl rfl) (cd_m 4 19 rfl rfl) (cd_m 1 7 rfl rfl) (show (parseMethodDescriptor (cd_y 47).desc).map (fun d => d.parameters.length) = some 2 by decide +kernel) rfl (by decide) (Nat.le_of_ble_eq_true rfl) (Nat.le_of_ble_eq_true rfl) (Nat.le_of_ble_eq_true rfl) (Nat.le_of_ble_eq_true rfl) hl.1 (cl_run (k4_sample_7 a b M) (by rw [hv]; rfl)) (by decide) hP hD hS (fun H locs hP hD hS => ?_)
        exact hend dF_62 hv2.symm hP hS
      · rw [if_pos h3] at hr1
        exact cf_throw hC hl0 hE hE.2.2.1 hl.1 hlk hout dF_43 dF_46 dF_47 dF_49 dF_52 (Option.some.inj hr1).symm hP hD hS
    · rw [if_pos h2] at hr1
      refine lv_aload_n hx hb dF_26 rfl (lv_at hl 0 rfl) ?_
      refine cf_reel hC dF_27 hP ?_
      refine lv_iload_n hx hb dF_30 rfl (lv_at hl 1 rfl) ?_
      obtain ⟨v, hv, hv2⟩ := Option.map_eq_some_iff.mp hr1
      refine cf_call (k := 7) (as := [a]) (v := v) (M := M) (M' := M) (rest := []) hC dF_31 (show 46 < 245 by decide) (cd_m 5 134 rfl rfl) (cd_m 4 102 rfl rfl) (cd_m 4 103 rfl rfl) (cd_m 1 7 rfl rfl) (show (parseMethodDescriptor (cd_y 46).desc).map (fun d => d.parameters.length) = some 1 by decide +kernel) rfl (by decide) (Nat.le_of_ble_eq_true rfl) (Nat.le_of_ble_eq_true rfl) (Nat.le_of_ble_eq_true rfl) (Nat.le_of_ble_eq_true rfl) hl.1 (cl_run (k4_parity_7 a M) (by rw [hv]; rfl)) (by decide) hP hD hS (fun H locs hP hD hS => ?_)
      exact hend dF_34 hv2.symm hP hS
  · have hr1 : r = none := by
      have h2 := hr0
      unfold cf_o at h2
      rw [if_pos h1] at h2
      exact (Option.some.inj h2).symm
    exact cf_throw hC hl0 hE hE.2.1 hl.1 hlk hout dF_11 dF_14 dF_15 dF_17 dF_20 hr1 hP hD hS
