theorem dX3_init_0 : decode cX3_init 0 = .ok (.aload_n 0, 1) := by decide +kernel
theorem dX3_init_1 : decode cX3_init 1 = .ok (.invokespecial 3, 3) := by decide +kernel
theorem dX3_init_4 : decode cX3_init 4 = .ok (.aload_n 0, 1) := by decide +kernel
theorem dX3_init_5 : decode cX3_init 5 = .ok (.sipush 1080, 3) := by decide +kernel
theorem dX3_init_8 : decode cX3_init 8 = .ok (.newarray .long, 2) := by decide +kernel
theorem dX3_init_10 : decode cX3_init 10 = .ok (.putfield 9, 3) := by decide +kernel
theorem dX3_init_13 : decode cX3_init 13 = .ok (.aload_n 0, 1) := by decide +kernel
theorem dX3_init_14 : decode cX3_init 14 = .ok (.bipush 12, 2) := by decide +kernel
theorem dX3_init_16 : decode cX3_init 16 = .ok (.newarray .int, 2) := by decide +kernel
theorem dX3_init_18 : decode cX3_init 18 = .ok (.putfield 15, 3) := by decide +kernel
theorem dX3_init_21 : decode cX3_init 21 = .ok (.aload_n 0, 1) := by decide +kernel
theorem dX3_init_22 : decode cX3_init 22 = .ok (.iconst 0, 1) := by decide +kernel
theorem dX3_init_23 : decode cX3_init 23 = .ok (.putfield 19, 3) := by decide +kernel
theorem dX3_init_26 : decode cX3_init 26 = .ok (.aload_n 0, 1) := by decide +kernel
theorem dX3_init_27 : decode cX3_init 27 = .ok (.iconst 0, 1) := by decide +kernel
theorem dX3_init_28 : decode cX3_init 28 = .ok (.putfield 23, 3) := by decide +kernel
theorem dX3_init_31 : decode cX3_init 31 = .ok (.return_, 1) := by decide +kernel
set_option maxHeartbeats 800000 in
set_option maxRecDepth 100000 in
theorem cw_X3_init (l : Launch) (D : va_G) (cy : Nat → ClassId) (h0 : Nat) (sz : Nat) : Met l yX3_init (cw_ws yX3_init cX3_init 1) ({ frames := 1, cells := 2, slots := 1092, locals := 20 }) (cw_Pc D cy [.ref h0] [(h0, .inr (3, [.null, .null, .int 0, .int 0]))] sz) (cw_Q (va_A [(h0, .inr (3, [.null, .null, .int 0, .int 0]))] sz) (fun t => ∃ q8 q16 : Nat, cw_B D cy (va_A [(h0, .inr (3, [.null, .null, .int 0, .int 0]))] sz) [(h0, .inr (3, [.ref q8, .ref q16, .int (0), .int (0)])), (q8, .inl (cy 1, 1080, .inr (.inl (fun _ => 0)))), (q16, .inl (cy 0, 12, .inl (fun _ => 0)))] t)) 2 1092 (va_A [(h0, .inr (3, [.null, .null, .int 0, .int 0]))] sz) := by
  refine Met.ofW (cc := cX3_init) (maxL := 1) (ret := none) (by decide) rfl ?_
  intro p e s m args below meth c s₁ B hml hv
  obtain ⟨rfl, hsz, hP, hK, hD0, hNW⟩ := hv
  have hx := B.exec
  have hb := B.bytes
  have hr := B.returns
  have hts : ∀ w ∈ cd_big, w.before _ s = true := fun w hw => atoms_spec (ws := cw_ws yX3_init cX3_init 1) B.pre w (List.mem_cons_of_mem _ hw)
  have hown : s.vm.findClass RX3 = some m.cls := findClass_of_methodNamed B.named
  have hlocks := B.notSynchronized
  have hin : meth.name = "<init>" := (name_of_methodNamed B.named B.method).1
  subst hsz
  have hD := hD0.self (sz := s.heap.size)
  generalize hAe : va_A [(h0, .inr (3, [.null, .null, .int 0, .int 0]))] s.heap.size = A at hD ⊢
  have hA : ∀ q : Nat, s.heap.size ≤ q → A q := fun q h => by rw [← hAe]; exact Or.inr h
  have hS : va_S A s.heap s.heap [] := va_S.rf
  have hP : va_P D cd_cl [(h0, .inr (3, [.null, .null, .int 0, .int 0]))] s.heap := hP
  have hC : cw_Cx p s m _ meth c cX3_init 1 RX3 D cy A := ⟨hx, hb, hml, hown, hts, hK, hNW, hA⟩
  have hl := lv_entry ([.ref h0]) (n := 1) (Nat.le_of_ble_eq_true rfl)
  rw [lg_entry_eq]
  generalize (lg_sl ([.ref h0]) ++ List.replicate (1 - (lg_sl ([.ref h0])).length) Slot.unset).toArray = ls at hl ⊢
  have hl : lv_has ls 1 [(0, .ref h0)] := hl
  refine lv_aload_n hx hb dX3_init_0 rfl (lv_at hl 0 rfl) ?_
  refine W.objInit hx hb hown (hts (.methodLink RX3 3 objectInit) (cd_m 1 163 rfl rfl)) (hts (.instanceMethod objectInit) (cd_m 1 29 rfl rfl)) (hts (.code objectInit ⟨#[0xb1]⟩ 1 none) (cd_m 1 30 rfl rfl)) rfl (by rw [hml]; exact hl.1) rfl dX3_init_1 (Nat.le_of_ble_eq_true rfl) (Nat.le_of_ble_eq_true rfl) ?_
  refine W.eq (g2 := F0 m 4 ls []) rfl ?_
  refine lv_aload_n hx hb dX3_init_4 rfl (lv_at hl 0 rfl) ?_
  refine lv_sipush (v := (1080)) hx hb dX3_init_5 (by decide) ?_
  refine cw_newa (atype := .long) (ty := .long) hC rfl (cd_m 1 88 rfl rfl) 1 rfl (fun z => z) hP hD hS 1080 (1080, .inr (.inl (fun _ => 0))) (fun _ => rfl) (by decide) (by decide) (Nat.le_of_ble_eq_true rfl) (Nat.le_of_ble_eq_true rfl) (Nat.le_of_ble_eq_true rfl) dX3_init_8 (fun q8 H hP hD hS => ?_)
  have hP : va_P D cd_cl [(h0, .inr (3, [.null, .null, .int 0, .int 0])), (q8, .inl (cy 1, 1080, .inr (.inl (fun _ => 0))))] H := hP
  have hD : va_D A [(h0, .inr (3, [.null, .null, .int 0, .int 0])), (q8, .inl (cy 1, 1080, .inr (.inl (fun _ => 0))))] := hD
  refine W.widen (k := 1) (n := 1080) (by omega) (by omega) ?_
  refine va_putF (D := D) (ci := 3) (v := .ref q8) (ty := (.array .long)) (C := RX3) (T := TX3) (N := 4) hx hb hts cd_lay3 tyX3 tyX3_ok nmX3 hown hK hP hD hS 0 rfl rfl 0 (by decide) (hts (.fieldLink RX3 9 "CadenceDesk$History" "rows" "[J") (cd_m 1 164 rfl rfl)) (fun _ h9 => h9) rfl hin rfl (by decide +kernel) rfl rfl (Nat.le_of_ble_eq_true rfl) dX3_init_10 (fun H locs hP hD hS => ?_)
  have hP : va_P D cd_cl [(h0, .inr (3, [.ref q8, .null, .int 0, .int 0])), (q8, .inl (cy 1, 1080, .inr (.inl (fun _ => 0))))] H := hP
  have hD : va_D A [(h0, .inr (3, [.ref q8, .null, .int 0, .int 0])), (q8, .inl (cy 1, 1080, .inr (.inl (fun _ => 0))))] := hD
  refine lv_aload_n hx hb dX3_init_13 rfl (lv_at hl 0 rfl) ?_
  refine lv_bipush (v := (12)) hx hb dX3_init_14 (by decide) ?_
  refine cw_newa (atype := .int) (ty := .int) hC rfl (cd_m 1 65 rfl rfl) 0 rfl (fun z => z) hP hD hS 12 (12, .inl (fun _ => 0)) (fun _ => rfl) (by decide) (by decide) (Nat.le_of_ble_eq_true rfl) (Nat.le_of_ble_eq_true rfl) (Nat.le_of_ble_eq_true rfl) dX3_init_16 (fun q16 H hP hD hS => ?_)
  have hP : va_P D cd_cl [(h0, .inr (3, [.ref q8, .null, .int 0, .int 0])), (q8, .inl (cy 1, 1080, .inr (.inl (fun _ => 0)))), (q16, .inl (cy 0, 12, .inl (fun _ => 0)))] H := hP
  have hD : va_D A [(h0, .inr (3, [.ref q8, .null, .int 0, .int 0])), (q8, .inl (cy 1, 1080, .inr (.inl (fun _ => 0)))), (q16, .inl (cy 0, 12, .inl (fun _ => 0)))] := hD
  refine W.widen (k := 2) (n := 1092) (by omega) (by omega) ?_
  refine va_putF (D := D) (ci := 3) (v := .ref q16) (ty := (.array .int)) (C := RX3) (T := TX3) (N := 4) hx hb hts cd_lay3 tyX3 tyX3_ok nmX3 hown hK hP hD hS 0 rfl rfl 1 (by decide) (hts (.fieldLink RX3 15 "CadenceDesk$History" "sizes" "[I") (cd_m 1 165 rfl rfl)) (fun _ h9 => h9) rfl hin rfl (by decide +kernel) rfl rfl (Nat.le_of_ble_eq_true rfl) dX3_init_18 (fun H locs hP hD hS => ?_)
  have hP : va_P D cd_cl [(h0, .inr (3, [.ref q8, .ref q16, .int 0, .int 0])), (q8, .inl (cy 1, 1080, .inr (.inl (fun _ => 0)))), (q16, .inl (cy 0, 12, .inl (fun _ => 0)))] H := hP
  have hD : va_D A [(h0, .inr (3, [.ref q8, .ref q16, .int 0, .int 0])), (q8, .inl (cy 1, 1080, .inr (.inl (fun _ => 0)))), (q16, .inl (cy 0, 12, .inl (fun _ => 0)))] := hD
  refine lv_aload_n hx hb dX3_init_21 rfl (lv_at hl 0 rfl) ?_
  refine lv_iconst (v := (0)) hx hb dX3_init_22 (by decide) ?_
  refine va_put (D := D) (ci := 3) (v := .int (0)) (ty := .int) (C := RX3) (T := TX3) (N := 4) hx hb hts cd_lay3 tyX3 tyX3_ok nmX3 hown hK hP hD hS 0 rfl rfl 2 (by decide) (hts (.fieldLink RX3 19 "CadenceDesk$History" "next" "I") (cd_m 1 166 rfl rfl)) (fun _ h9 => h9) rfl (by decide +kernel) rfl rfl (Nat.le_of_ble_eq_true rfl) dX3_init_23 (fun H locs hP hD hS => ?_)
  have hP : va_P D cd_cl [(h0, .inr (3, [.ref q8, .ref q16, .int (0), .int 0])), (q8, .inl (cy 1, 1080, .inr (.inl (fun _ => 0)))), (q16, .inl (cy 0, 12, .inl (fun _ => 0)))] H := hP
  have hD : va_D A [(h0, .inr (3, [.ref q8, .ref q16, .int (0), .int 0])), (q8, .inl (cy 1, 1080, .inr (.inl (fun _ => 0)))), (q16, .inl (cy 0, 12, .inl (fun _ => 0)))] := hD
  refine lv_aload_n hx hb dX3_init_26 rfl (lv_at hl 0 rfl) ?_
  refine lv_iconst (v := (0)) hx hb dX3_init_27 (by decide) ?_
  refine va_put (D := D) (ci := 3) (v := .int (0)) (ty := .int) (C := RX3) (T := TX3) (N := 4) hx hb hts cd_lay3 tyX3 tyX3_ok nmX3 hown hK hP hD hS 0 rfl rfl 3 (by decide) (hts (.fieldLink RX3 23 "CadenceDesk$History" "size" "I") (cd_m 1 167 rfl rfl)) (fun _ h9 => h9) rfl (by decide +kernel) rfl rfl (Nat.le_of_ble_eq_true rfl) dX3_init_28 (fun H locs hP hD hS => ?_)
  have hP : va_P D cd_cl [(h0, .inr (3, [.ref q8, .ref q16, .int (0), .int (0)])), (q8, .inl (cy 1, 1080, .inr (.inl (fun _ => 0)))), (q16, .inl (cy 0, 12, .inl (fun _ => 0)))] H := hP
  have hD : va_D A [(h0, .inr (3, [.ref q8, .ref q16, .int (0), .int (0)])), (q8, .inl (cy 1, 1080, .inr (.inl (fun _ => 0)))), (q16, .inl (cy 0, 12, .inl (fun _ => 0)))] := hD
  have hP9 := hP.sub (ws' := [(h0, .inr (3, [.ref q8, .ref q16, .int (0), .int (0)])), (q8, .inl (cy 1, 1080, .inr (.inl (fun _ => 0)))), (q16, .inl (cy 0, 12, .inl (fun _ => 0)))]) [0, 1, 2] rfl
  have hD9 := hD.sub (ws' := [(h0, .inr (3, [.ref q8, .ref q16, .int (0), .int (0)])), (q8, .inl (cy 1, 1080, .inr (.inl (fun _ => 0)))), (q16, .inl (cy 0, 12, .inl (fun _ => 0)))]) [0, 1, 2] (by decide) rfl
  exact W.vret hx hb hr (fun t ht hW => ⟨⟨rfl, q8, q16, by rw [ht]; exact hP9, va_K.moved hW.alike hK, hD9⟩, hS.F ht⟩) hS.2.2 dX3_init_31
theorem dX6_init_0 : decode cX6_init 0 = .ok (.aload_n 0, 1) := by decide +kernel
theorem dX6_init_1 : decode cX6_init 1 = .ok (.invokespecial 3, 3) := by decide +kernel
theorem dX6_init_4 : decode cX6_init 4 = .ok (.aload_n 0, 1) := by decide +kernel
theorem dX6_init_5 : decode cX6_init 5 = .ok (.bipush 90, 2) := by decide +kernel
theorem dX6_init_7 : decode cX6_init 7 = .ok (.newarray .int, 2) := by decide +kernel
theorem dX6_init_9 : decode cX6_init 9 = .ok (.putfield 9, 3) := by decide +kernel
theorem dX6_init_12 : decode cX6_init 12 = .ok (.aload_n 0, 1) := by decide +kernel
theorem dX6_init_13 : decode cX6_init 13 = .ok (.bipush 90, 2) := by decide +kernel
theorem dX6_init_15 : decode cX6_init 15 = .ok (.newarray .int, 2) := by decide +kernel
theorem dX6_init_17 : decode cX6_init 17 = .ok (.putfield 15, 3) := by decide +kernel
theorem dX6_init_20 : decode cX6_init 20 = .ok (.aload_n 0, 1) := by decide +kernel
theorem dX6_init_21 : decode cX6_init 21 = .ok (.bipush 90, 2) := by decide +kernel
theorem dX6_init_23 : decode cX6_init 23 = .ok (.newarray .int, 2) := by decide +kernel
theorem dX6_init_25 : decode cX6_init 25 = .ok (.putfield 18, 3) := by decide +kernel
theorem dX6_init_28 : decode cX6_init 28 = .ok (.aload_n 0, 1) := by decide +kernel
theorem dX6_init_29 : decode cX6_init 29 = .ok (.bipush 90, 2) := by decide +kernel
theorem dX6_init_31 : decode cX6_init 31 = .ok (.newarray .int, 2) := by decide +kernel
theorem dX6_init_33 : decode cX6_init 33 = .ok (.putfield 21, 3) := by decide +kernel
theorem dX6_init_36 : decode cX6_init 36 = .ok (.aload_n 0, 1) := by decide +kernel
theorem dX6_init_37 : decode cX6_init 37 = .ok (.iconst 0, 1) := by decide +kernel
theorem dX6_init_38 : decode cX6_init 38 = .ok (.putfield 24, 3) := by decide +kernel
theorem dX6_init_41 : decode cX6_init 41 = .ok (.return_, 1) := by decide +kernel
set_option maxHeartbeats 800000 in
set_option maxRecDepth 100000 in
theorem cw_X6_init (l : Launch) (D : va_G) (cy : Nat → ClassId) (h0 : Nat) (sz : Nat) : Met l yX6_init (cw_ws yX6_init cX6_init 1) ({ frames := 1, cells := 4, slots := 360, locals := 20 }) (cw_Pc D cy [.ref h0] [(h0, .inr (6, [.null, .null, .null, .null, .int 0]))] sz) (cw_Q (va_A [(h0, .inr (6, [.null, .null, .null, .null, .int 0]))] sz) (fun t => ∃ q7 q15 q23 q31 : Nat, cw_B D cy (va_A [(h0, .inr (6, [.null, .null, .null, .null, .int 0]))] sz) [(h0, .inr (6, [.ref q7, .ref q15, .ref q23, .ref q31, .int (0)])), (q7, .inl (cy 0, 90, .inl (fun _ => 0))), (q15, .inl (cy 0, 90, .inl (fun _ => 0))), (q23, .inl (cy 0, 90, .inl (fun _ => 0))), (q31, .inl (cy 0, 90, .inl (fun _ => 0)))] t)) 4 360 (va_A [(h0, .inr (6, [.null, .null, .null, .null, .int 0]))] sz) := by
  refine Met.ofW (cc := cX6_init) (maxL := 1) (ret := none) (by decide) rfl ?_
  intro p e s m args below meth c s₁ B hml hv
  obtain ⟨rfl, hsz, hP, hK, hD0, hNW⟩ := hv
  have hx := B.exec
  have hb := B.bytes
  have hr := B.returns
  have hts : ∀ w ∈ cd_big, w.before _ s = true := fun w hw => atoms_spec (ws := cw_ws yX6_init cX6_init 1) B.pre w (List.mem_cons_of_mem _ hw)
  have hown : s.vm.findClass RX6 = some m.cls := findClass_of_methodNamed B.named
  have hlocks := B.notSynchronized
  have hin : meth.name = "<init>" := (name_of_methodNamed B.named B.method).1
  subst hsz
  have hD := hD0.self (sz := s.heap.size)
  generalize hAe : va_A [(h0, .inr (6, [.null, .null, .null, .null, .int 0]))] s.heap.size = A at hD ⊢
  have hA : ∀ q : Nat, s.heap.size ≤ q → A q := fun q h => by rw [← hAe]; exact Or.inr h
  have hS : va_S A s.heap s.heap [] := va_S.rf
  have hP : va_P D cd_cl [(h0, .inr (6, [.null, .null, .null, .null, .int 0]))] s.heap := hP
  have hC : cw_Cx p s m _ meth c cX6_init 1 RX6 D cy A := ⟨hx, hb, hml, hown, hts, hK, hNW, hA⟩
  have hl := lv_entry ([.ref h0]) (n := 1) (Nat.le_of_ble_eq_true rfl)
  rw [lg_entry_eq]
  generalize (lg_sl ([.ref h0]) ++ List.replicate (1 - (lg_sl ([.ref h0])).length) Slot.unset).toArray = ls at hl ⊢
  have hl : lv_has ls 1 [(0, .ref h0)] := hl
  refine lv_aload_n hx hb dX6_init_0 rfl (lv_at hl 0 rfl) ?_
  refine W.objInit hx hb hown (hts (.methodLink RX6 3 objectInit) (cd_m 1 188 rfl rfl)) (hts (.instanceMethod objectInit) (cd_m 1 29 rfl rfl)) (hts (.code objectInit ⟨#[0xb1]⟩ 1 none) (cd_m 1 30 rfl rfl)) rfl (by rw [hml]; exact hl.1) rfl dX6_init_1 (Nat.le_of_ble_eq_true rfl) (Nat.le_of_ble_eq_true rfl) ?_
  refine W.eq (g2 := F0 m 4 ls []) rfl ?_
  refine lv_aload_n hx hb dX6_init_4 rfl (lv_at hl 0 rfl) ?_
  refine lv_bipush (v := (90)) hx hb dX6_init_5 (by decide) ?_
  refine cw_newa (atype := .int) (ty := .int) hC rfl (cd_m 1 65 rfl rfl) 0 rfl (fun z => z) hP hD hS 90 (90, .inl (fun _ => 0)) (fun _ => rfl) (by decide) (by decide) (Nat.le_of_ble_eq_true rfl) (Nat.le_of_ble_eq_true rfl) (Nat.le_of_ble_eq_true rfl) dX6_init_7 (fun q7 H hP hD hS => ?_)
  have hP : va_P D cd_cl [(h0, .inr (6, [.null, .null, .null, .null, .int 0])), (q7, .inl (cy 0, 90, .inl (fun _ => 0)))] H := hP
  have hD : va_D A [(h0, .inr (6, [.null, .null, .null, .null, .int 0])), (q7, .inl (cy 0, 90, .inl (fun _ => 0)))] := hD
  refine W.widen (k := 1) (n := 90) (by omega) (by omega) ?_
  refine va_putF (D := D) (ci := 6) (v := .ref q7) (ty := (.array .int)) (C := RX6) (T := TX6) (N := 5) hx hb hts cd_lay6 tyX6 tyX6_ok nmX6 hown hK hP hD hS 0 rfl rfl 0 (by decide) (hts (.fieldLink RX6 9 "CadenceDesk$States" "places" "[I") (cd_m 1 189 rfl rfl)) (fun _ h9 => h9) rfl hin rfl (by decide +kernel) rfl rfl (Nat.le_of_ble_eq_true rfl) dX6_init_9 (fun H locs hP hD hS => ?_)
  have hP : va_P D cd_cl [(h0, .inr (6, [.ref q7, .null, .null, .null, .int 0])), (q7, .inl (cy 0, 90, .inl (fun _ => 0)))] H := hP
  have hD : va_D A [(h0, .inr (6, [.ref q7, .null, .null, .null, .int 0])), (q7, .inl (cy 0, 90, .inl (fun _ => 0)))] := hD
  refine lv_aload_n hx hb dX6_init_12 rfl (lv_at hl 0 rfl) ?_
  refine lv_bipush (v := (90)) hx hb dX6_init_13 (by decide) ?_
  refine cw_newa (atype := .int) (ty := .int) hC rfl (cd_m 1 65 rfl rfl) 0 rfl (fun z => z) hP hD hS 90 (90, .inl (fun _ => 0)) (fun _ => rfl) (by decide) (by decide) (Nat.le_of_ble_eq_true rfl) (Nat.le_of_ble_eq_true rfl) (Nat.le_of_ble_eq_true rfl) dX6_init_15 (fun q15 H hP hD hS => ?_)
  have hP : va_P D cd_cl [(h0, .inr (6, [.ref q7, .null, .null, .null, .int 0])), (q7, .inl (cy 0, 90, .inl (fun _ => 0))), (q15, .inl (cy 0, 90, .inl (fun _ => 0)))] H := hP
  have hD : va_D A [(h0, .inr (6, [.ref q7, .null, .null, .null, .int 0])), (q7, .inl (cy 0, 90, .inl (fun _ => 0))), (q15, .inl (cy 0, 90, .inl (fun _ => 0)))] := hD
  refine W.widen (k := 2) (n := 180) (by omega) (by omega) ?_
  refine va_putF (D := D) (ci := 6) (v := .ref q15) (ty := (.array .int)) (C := RX6) (T := TX6) (N := 5) hx hb hts cd_lay6 tyX6 tyX6_ok nmX6 hown hK hP hD hS 0 rfl rfl 1 (by decide) (hts (.fieldLink RX6 15 "CadenceDesk$States" "steps" "[I") (cd_m 1 190 rfl rfl)) (fun _ h9 => h9) rfl hin rfl (by decide +kernel) rfl rfl (Nat.le_of_ble_eq_true rfl) dX6_init_17 (fun H locs hP hD hS => ?_)
  have hP : va_P D cd_cl [(h0, .inr (6, [.ref q7, .ref q15, .null, .null, .int 0])), (q7, .inl (cy 0, 90, .inl (fun _ => 0))), (q15, .inl (cy 0, 90, .inl (fun _ => 0)))] H := hP
  have hD : va_D A [(h0, .inr (6, [.ref q7, .ref q15, .null, .null, .int 0])), (q7, .inl (cy 0, 90, .inl (fun _ => 0))), (q15, .inl (cy 0, 90, .inl (fun _ => 0)))] := hD
  refine lv_aload_n hx hb dX6_init_20 rfl (lv_at hl 0 rfl) ?_
  refine lv_bipush (v := (90)) hx hb dX6_init_21 (by decide) ?_
  refine cw_newa (atype := .int) (ty := .int) hC rfl (cd_m 1 65 rfl rfl) 0 rfl (fun z => z) hP hD hS 90 (90, .inl (fun _ => 0)) (fun _ => rfl) (by decide) (by decide) (Nat.le_of_ble_eq_true rfl) (Nat.le_of_ble_eq_true rfl) (Nat.le_of_ble_eq_true rfl) dX6_init_23 (fun q23 H hP hD hS => ?_)
  have hP : va_P D cd_cl [(h0, .inr (6, [.ref q7, .ref q15, .null, .null, .int 0])), (q7, .inl (cy 0, 90, .inl (fun _ => 0))), (q15, .inl (cy 0, 90, .inl (fun _ => 0))), (q23, .inl (cy 0, 90, .inl (fun _ => 0)))] H := hP
  have hD : va_D A [(h0, .inr (6, [.ref q7, .ref q15, .null, .null, .int 0])), (q7, .inl (cy 0, 90, .inl (fun _ => 0))), (q15, .inl (cy 0, 90, .inl (fun _ => 0))), (q23, .inl (cy 0, 90, .inl (fun _ => 0)))] := hD
  refine W.widen (k := 3) (n := 270) (by omega) (by omega) ?_
  refine va_putF (D := D) (ci := 6) (v := .ref q23) (ty := (.array .int)) (C := RX6) (T := TX6) (N := 5) hx hb hts cd_lay6 tyX6 tyX6_ok nmX6 hown hK hP hD hS 0 rfl rfl 2 (by decide) (hts (.fieldLink RX6 18 "CadenceDesk$States" "seens" "[I") (cd_m 1 191 rfl rfl)) (fun _ h9 => h9) rfl hin rfl (by decide +kernel) rfl rfl (Nat.le_of_ble_eq_true rfl) dX6_init_25 (fun H locs hP hD hS => ?_)
  have hP : va_P D cd_cl [(h0, .inr (6, [.ref q7, .ref q15, .ref q23, .null, .int 0])), (q7, .inl (cy 0, 90, .inl (fun _ => 0))), (q15, .inl (cy 0, 90, .inl (fun _ => 0))), (q23, .inl (cy 0, 90, .inl (fun _ => 0)))] H := hP
  have hD : va_D A [(h0, .inr (6, [.ref q7, .ref q15, .ref q23, .null, .int 0])), (q7, .inl (cy 0, 90, .inl (fun _ => 0))), (q15, .inl (cy 0, 90, .inl (fun _ => 0))), (q23, .inl (cy 0, 90, .inl (fun _ => 0)))] := hD
  refine lv_aload_n hx hb dX6_init_28 rfl (lv_at hl 0 rfl) ?_
  refine lv_bipush (v := (90)) hx hb dX6_init_29 (by decide) ?_
  refine cw_newa (atype := .int) (ty := .int) hC rfl (cd_m 1 65 rfl rfl) 0 rfl (fun z => z) hP hD hS 90 (90, .inl (fun _ => 0)) (fun _ => rfl) (by decide) (by decide) (Nat.le_of_ble_eq_true rfl) (Nat.le_of_ble_eq_true rfl) (Nat.le_of_ble_eq_true rfl) dX6_init_31 (fun q31 H hP hD hS => ?_)
  have hP : va_P D cd_cl [(h0, .inr (6, [.ref q7, .ref q15, .ref q23, .null, .int 0])), (q7, .inl (cy 0, 90, .inl (fun _ => 0))), (q15, .inl (cy 0, 90, .inl (fun _ => 0))), (q23, .inl (cy 0, 90, .inl (fun _ => 0))), (q31, .inl (cy 0, 90, .inl (fun _ => 0)))] H := hP
  have hD : va_D A [(h0, .inr (6, [.ref q7, .ref q15, .ref q23, .null, .int 0])), (q7, .inl (cy 0, 90, .inl (fun _ => 0))), (q15, .inl (cy 0, 90, .inl (fun _ => 0))), (q23, .inl (cy 0, 90, .inl (fun _ => 0))), (q31, .inl (cy 0, 90, .inl (fun _ => 0)))] := hD
  refine W.widen (k := 4) (n := 360) (by omega) (by omega) ?_
  refine va_putF (D := D) (ci := 6) (v := .ref q31) (ty := (.array .int)) (C := RX6) (T := TX6) (N := 5) hx hb hts cd_lay6 tyX6 tyX6_ok nmX6 hown hK hP hD hS 0 rfl rfl 3 (by decide) (hts (.fieldLink RX6 21 "CadenceDesk$States" "nexts" "[I") (cd_m 1 192 rfl rfl)) (fun _ h9 => h9) rfl hin rfl (by decide +kernel) rfl rfl (Nat.le_of_ble_eq_true rfl) dX6_init_33 (fun H locs hP hD hS => ?_)
  have hP : va_P D cd_cl [(h0, .inr (6, [.ref q7, .ref q15, .ref q23, .ref q31, .int 0])), (q7, .inl (cy 0, 90, .inl (fun _ => 0))), (q15, .inl (cy 0, 90, .inl (fun _ => 0))), (q23, .inl (cy 0, 90, .inl (fun _ => 0))), (q31, .inl (cy 0, 90, .inl (fun _ => 0)))] H := hP
  have hD : va_D A [(h0, .inr (6, [.ref q7, .ref q15, .ref q23, .ref q31, .int 0])), (q7, .inl (cy 0, 90, .inl (fun _ => 0))), (q15, .inl (cy 0, 90, .inl (fun _ => 0))), (q23, .inl (cy 0, 90, .inl (fun _ => 0))), (q31, .inl (cy 0, 90, .inl (fun _ => 0)))] := hD
  refine lv_aload_n hx hb dX6_init_36 rfl (lv_at hl 0 rfl) ?_
  refine lv_iconst (v := (0)) hx hb dX6_init_37 (by decide) ?_
  refine va_put (D := D) (ci := 6) (v := .int (0)) (ty := .int) (C := RX6) (T := TX6) (N := 5) hx hb hts cd_lay6 tyX6 tyX6_ok nmX6 hown hK hP hD hS 0 rfl rfl 4 (by decide) (hts (.fieldLink RX6 24 "CadenceDesk$States" "size" "I") (cd_m 1 193 rfl rfl)) (fun _ h9 => h9) rfl (by decide +kernel) rfl rfl (Nat.le_of_ble_eq_true rfl) dX6_init_38 (fun H locs hP hD hS => ?_)
  have hP : va_P D cd_cl [(h0, .inr (6, [.ref q7, .ref q15, .ref q23, .ref q31, .int (0)])), (q7, .inl (cy 0, 90, .inl (fun _ => 0))), (q15, .inl (cy 0, 90, .inl (fun _ => 0))), (q23, .inl (cy 0, 90, .inl (fun _ => 0))), (q31, .inl (cy 0, 90, .inl (fun _ => 0)))] H := hP
  have hD : va_D A [(h0, .inr (6, [.ref q7, .ref q15, .ref q23, .ref q31, .int (0)])), (q7, .inl (cy 0, 90, .inl (fun _ => 0))), (q15, .inl (cy 0, 90, .inl (fun _ => 0))), (q23, .inl (cy 0, 90, .inl (fun _ => 0))), (q31, .inl (cy 0, 90, .inl (fun _ => 0)))] := hD
  have hP9 := hP.sub (ws' := [(h0, .inr (6, [.ref q7, .ref q15, .ref q23, .ref q31, .int (0)])), (q7, .inl (cy 0, 90, .inl (fun _ => 0))), (q15, .inl (cy 0, 90, .inl (fun _ => 0))), (q23, .inl (cy 0, 90, .inl (fun _ => 0))), (q31, .inl (cy 0, 90, .inl (fun _ => 0)))]) [0, 1, 2, 3, 4] rfl
  have hD9 := hD.sub (ws' := [(h0, .inr (6, [.ref q7, .ref q15, .ref q23, .ref q31, .int (0)])), (q7, .inl (cy 0, 90, .inl (fun _ => 0))), (q15, .inl (cy 0, 90, .inl (fun _ => 0))), (q23, .inl (cy 0, 90, .inl (fun _ => 0))), (q31, .inl (cy 0, 90, .inl (fun _ => 0)))]) [0, 1, 2, 3, 4] (by decide) rfl
  exact W.vret hx hb hr (fun t ht hW => ⟨⟨rfl, q7, q15, q23, q31, by rw [ht]; exact hP9, va_K.moved hW.alike hK, hD9⟩, hS.F ht⟩) hS.2.2 dX6_init_41
theorem dX0_init_0 : decode cX0_init 0 = .ok (.aload_n 0, 1) := by decide +kernel
theorem dX0_init_1 : decode cX0_init 1 = .ok (.invokespecial 3, 3) := by decide +kernel
theorem dX0_init_4 : decode cX0_init 4 = .ok (.aload_n 0, 1) := by decide +kernel
theorem dX0_init_5 : decode cX0_init 5 = .ok (.new 9, 3) := by decide +kernel
theorem dX0_init_8 : decode cX0_init 8 = .ok (.dup, 1) := by decide +kernel
theorem dX0_init_9 : decode cX0_init 9 = .ok (.invokespecial 11, 3) := by decide +kernel
theorem dX0_init_12 : decode cX0_init 12 = .ok (.putfield 12, 3) := by decide +kernel
theorem dX0_init_15 : decode cX0_init 15 = .ok (.aload_n 0, 1) := by decide +kernel
theorem dX0_init_16 : decode cX0_init 16 = .ok (.bipush 90, 2) := by decide +kernel
theorem dX0_init_18 : decode cX0_init 18 = .ok (.newarray .int, 2) := by decide +kernel
theorem dX0_init_20 : decode cX0_init 20 = .ok (.putfield 18, 3) := by decide +kernel
theorem dX0_init_23 : decode cX0_init 23 = .ok (.aload_n 0, 1) := by decide +kernel
theorem dX0_init_24 : decode cX0_init 24 = .ok (.bipush 90, 2) := by decide +kernel
theorem dX0_init_26 : decode cX0_init 26 = .ok (.newarray .int, 2) := by decide +kernel
theorem dX0_init_28 : decode cX0_init 28 = .ok (.putfield 22, 3) := by decide +kernel
theorem dX0_init_31 : decode cX0_init 31 = .ok (.aload_n 0, 1) := by decide +kernel
theorem dX0_init_32 : decode cX0_init 32 = .ok (.sipush 180, 3) := by decide +kernel
theorem dX0_init_35 : decode cX0_init 35 = .ok (.newarray .long, 2) := by decide +kernel
theorem dX0_init_37 : decode cX0_init 37 = .ok (.putfield 25, 3) := by decide +kernel
theorem dX0_init_40 : decode cX0_init 40 = .ok (.aload_n 0, 1) := by decide +kernel
theorem dX0_init_41 : decode cX0_init 41 = .ok (.bipush 90, 2) := by decide +kernel
theorem dX0_init_43 : decode cX0_init 43 = .ok (.newarray .int, 2) := by decide +kernel
theorem dX0_init_45 : decode cX0_init 45 = .ok (.putfield 29, 3) := by decide +kernel
theorem dX0_init_48 : decode cX0_init 48 = .ok (.aload_n 0, 1) := by decide +kernel
theorem dX0_init_49 : decode cX0_init 49 = .ok (.iconst 0, 1) := by decide +kernel
theorem dX0_init_50 : decode cX0_init 50 = .ok (.putfield 32, 3) := by decide +kernel
theorem dX0_init_53 : decode cX0_init 53 = .ok (.aload_n 0, 1) := by decide +kernel
theorem dX0_init_54 : decode cX0_init 54 = .ok (.iconst 4, 1) := by decide +kernel
theorem dX0_init_55 : decode cX0_init 55 = .ok (.newarray .boolean, 2) := by decide +kernel
theorem dX0_init_57 : decode cX0_init 57 = .ok (.putfield 36, 3) := by decide +kernel
theorem dX0_init_60 : decode cX0_init 60 = .ok (.aload_n 0, 1) := by decide +kernel
theorem dX0_init_61 : decode cX0_init 61 = .ok (.iconst 4, 1) := by decide +kernel
theorem dX0_init_62 : decode cX0_init 62 = .ok (.newarray .int, 2) := by decide +kernel
theorem dX0_init_64 : decode cX0_init 64 = .ok (.putfield 40, 3) := by decide +kernel
theorem dX0_init_67 : decode cX0_init 67 = .ok (.aload_n 0, 1) := by decide +kernel
theorem dX0_init_68 : decode cX0_init 68 = .ok (.iconst 4, 1) := by decide +kernel
theorem dX0_init_69 : decode cX0_init 69 = .ok (.newarray .int, 2) := by decide +kernel
theorem dX0_init_71 : decode cX0_init 71 = .ok (.putfield 43, 3) := by decide +kernel
theorem dX0_init_74 : decode cX0_init 74 = .ok (.aload_n 0, 1) := by decide +kernel
theorem dX0_init_75 : decode cX0_init 75 = .ok (.iconst 4, 1) := by decide +kernel
theorem dX0_init_76 : decode cX0_init 76 = .ok (.newarray .int, 2) := by decide +kernel
theorem dX0_init_78 : decode cX0_init 78 = .ok (.putfield 46, 3) := by decide +kernel
theorem dX0_init_81 : decode cX0_init 81 = .ok (.return_, 1) := by decide +kernel
set_option maxHeartbeats 800000 in
set_option maxRecDepth 100000 in
theorem cw_X0_init (l : Launch) (D : va_G) (cy : Nat → ClassId) (h0 : Nat) (sz : Nat) : Met l yX0_init (cw_ws yX0_init cX0_init 1) ({ frames := 2, cells := 13, slots := 831, locals := 40 }) (cw_Pc D cy [.ref h0] [(h0, .inr (0, [.null, .null, .null, .null, .null, .int 0, .null, .null, .null, .null]))] sz) (cw_Q (va_A [(h0, .inr (0, [.null, .null, .null, .null, .null, .int 0, .null, .null, .null, .null]))] sz) (fun t => ∃ q5 q9_q7 q9_q15 q9_q23 q9_q31 q18 q26 q35 q43 q55 q62 q69 q76 : Nat, cw_B D cy (va_A [(h0, .inr (0, [.null, .null, .null, .null, .null, .int 0, .null, .null, .null, .null]))] sz) [(h0, .inr (0, [.ref q5, .ref q18, .ref q26, .ref q35, .ref q43, .int (0), .ref q55, .ref q62, .ref q69, .ref q76])), (q5, .inr (6, [.ref q9_q7, .ref q9_q15, .ref q9_q23, .ref q9_q31, .int (0)])), (q9_q7, .inl (cy 0, 90, .inl (fun _ => 0))), (q9_q15, .inl (cy 0, 90, .inl (fun _ => 0))), (q9_q23, .inl (cy 0, 90, .inl (fun _ => 0))), (q9_q31, .inl (cy 0, 90, .inl (fun _ => 0))), (q18, .inl (cy 0, 90, .inl (fun _ => 0))), (q26, .inl (cy 0, 90, .inl (fun _ => 0))), (q35, .inl (cy 1, 180, .inr (.inl (fun _ => 0)))), (q43, .inl (cy 0, 90, .inl (fun _ => 0))), (q55, .inl (cy 3, 4, .inl (fun _ => 0))), (q62, .inl (cy 0, 4, .inl (fun _ => 0))), (q69, .inl (cy 0, 4, .inl (fun _ => 0))), (q76, .inl (cy 0, 4, .inl (fun _ => 0)))] t)) 13 831 (va_A [(h0, .inr (0, [.null, .null, .null, .null, .null, .int 0, .null, .null, .null, .null]))] sz) := by
  refine Met.ofW (cc := cX0_init) (maxL := 1) (ret := none) (by decide) rfl ?_
  intro p e s m args below meth c s₁ B hml hv
  obtain ⟨rfl, hsz, hP, hK, hD0, hNW⟩ := hv
  have hx := B.exec
  have hb := B.bytes
  have hr := B.returns
  have hts : ∀ w ∈ cd_big, w.before _ s = true := fun w hw => atoms_spec (ws := cw_ws yX0_init cX0_init 1) B.pre w (List.mem_cons_of_mem _ hw)
  have hown : s.vm.findClass RX0 = some m.cls := findClass_of_methodNamed B.named
  have hlocks := B.notSynchronized
  have hin : meth.name = "<init>" := (name_of_methodNamed B.named B.method).1
  subst hsz
  have hD := hD0.self (sz := s.heap.size)
  generalize hAe : va_A [(h0, .inr (0, [.null, .null, .null, .null, .null, .int 0, .null, .null, .null, .null]))] s.heap.size = A at hD ⊢
  have hA : ∀ q : Nat, s.heap.size ≤ q → A q := fun q h => by rw [← hAe]; exact Or.inr h
  have hS : va_S A s.heap s.heap [] := va_S.rf
  have hP : va_P D cd_cl [(h0, .inr (0, [.null, .null, .null, .null, .null, .int 0, .null, .null, .null, .null]))] s.heap := hP
  have hC : cw_Cx p s m _ meth c cX0_init 1 RX0 D cy A := ⟨hx, hb, hml, hown, hts, hK, hNW, hA⟩
  have hl := lv_entry ([.ref h0]) (n := 1) (Nat.le_of_ble_eq_true rfl)
  rw [lg_entry_eq]
  generalize (lg_sl ([.ref h0]) ++ List.replicate (1 - (lg_sl ([.ref h0])).length) Slot.unset).toArray = ls at hl ⊢
  have hl : lv_has ls 1 [(0, .ref h0)] := hl
  refine lv_aload_n hx hb dX0_init_0 rfl (lv_at hl 0 rfl) ?_
  refine W.objInit hx hb hown (hts (.methodLink RX0 3 objectInit) (cd_m 1 182 rfl rfl)) (hts (.instanceMethod objectInit) (cd_m 1 29 rfl rfl)) (hts (.code objectInit ⟨#[0xb1]⟩ 1 none) (cd_m 1 30 rfl rfl)) rfl (by rw [hml]; exact hl.1) rfl dX0_init_1 (Nat.le_of_ble_eq_true rfl) (Nat.le_of_ble_eq_true rfl) ?_
  refine W.eq (g2 := F0 m 4 ls []) rfl ?_
  refine lv_aload_n hx hb dX0_init_4 rfl (lv_at hl 0 rfl) ?_
  refine va_new (ci := 6) (fs := [.null, .null, .null, .null, .int 0]) (C := RX6) (T := TX6) (N := 5) hx hb hts cd_lay6 tyX6 tyX6_ok hown (hts (.classLink RX0 9 RX6) (cd_m 1 183 rfl rfl)) (hts (.instantiable RX6 5) (cd_m 1 184 rfl rfl)) (hts (.initialized RX6) (cd_m 1 10 rfl rfl)) hK hP hD hS hA rfl (fun j hj => by rcases (show j = 0 ∨ j = 1 ∨ j = 2 ∨ j = 3 ∨ j = 4 by omega) with rfl | rfl | rfl | rfl | rfl <;> rfl) (Nat.le_of_ble_eq_true rfl) (Nat.le_of_ble_eq_true rfl) dX0_init_5 (fun q5 H hP hD hS => ?_)
  have hP : va_P D cd_cl [(h0, .inr (0, [.null, .null, .null, .null, .null, .int 0, .null, .null, .null, .null])), (q5, .inr (6, [.null, .null, .null, .null, .int 0]))] H := hP
  have hD : va_D A [(h0, .inr (0, [.null, .null, .null, .null, .null, .int 0, .null, .null, .null, .null])), (q5, .inr (6, [.null, .null, .null, .null, .int 0]))] := hD
  refine W.widen (k := 1) (n := 5) (by omega) (by omega) ?_
  refine lv_dup hx hb dX0_init_8 rfl ?_
  have hPc := hP.sub (ws' := [(q5, .inr (6, [.null, .null, .null, .null, .int 0]))]) [1] rfl
  have hDc := hD.sub (ws' := [(q5, .inr (6, [.null, .null, .null, .null, .int 0]))]) [1] (by decide) rfl
  refine cw_after (cy := cy) (wc := [(q5, .inr (6, [.null, .null, .null, .null, .int 0]))]) (wr := [(h0, .inr (0, [.null, .null, .null, .null, .null, .int 0, .null, .null, .null, .null]))]) hP hD hA [1] [0] rfl rfl (by decide) (by decide) hS (va_runIN (As := []) (rest := [.ref q5, .ref h0]) (nL := 1) (Ts := cd_big) (own := RX0) ⟨hx, hb, hml, hown, hts⟩ (cw_X6_init l D cy q5 H.size) ⟨va_cnB 0 hts (cw_good (cd_m 1 187 rfl rfl)) rfl rfl rfl (hNW (.methodLinkNest RX0 11 yX6_init RX10) (List.mem_of_getElem? (i := 5) rfl)) (hts (.initialized RX6) (cd_m 1 10 rfl rfl)) (by decide +kernel) ⟨Nat.le_of_ble_eq_true rfl, Nat.le_of_ble_eq_true rfl⟩, rfl, hts (.instanceMethod yX6_init) (cd_m 1 186 rfl rfl)⟩ ⟨cw_blind _ _ _, cw_pre hC hPc hDc rfl⟩ rfl rfl hl.1 rfl (lv_room (Nat.le_of_ble_eq_true rfl)) dX0_init_9 ⟨Nat.le_of_ble_eq_true rfl, Nat.le_of_ble_eq_true rfl⟩) (fun t H locs ht hB hJ hS => ?_)
  obtain ⟨q9_q7, q9_q15, q9_q23, q9_q31, hB⟩ := hB
  obtain ⟨hP, hD⟩ := hJ _ hB
  have hP : va_P D cd_cl [(h0, .inr (0, [.null, .null, .null, .null, .null, .int 0, .null, .null, .null, .null])), (q5, .inr (6, [.ref q9_q7, .ref q9_q15, .ref q9_q23, .ref q9_q31, .int (0)])), (q9_q7, .inl (cy 0, 90, .inl (fun _ => 0))), (q9_q15, .inl (cy 0, 90, .inl (fun _ => 0))), (q9_q23, .inl (cy 0, 90, .inl (fun _ => 0))), (q9_q31, .inl (cy 0, 90, .inl (fun _ => 0)))] H := hP
  have hD : va_D A [(h0, .inr (0, [.null, .null, .null, .null, .null, .int 0, .null, .null, .null, .null])), (q5, .inr (6, [.ref q9_q7, .ref q9_q15, .ref q9_q23, .ref q9_q31, .int (0)])), (q9_q7, .inl (cy 0, 90, .inl (fun _ => 0))), (q9_q15, .inl (cy 0, 90, .inl (fun _ => 0))), (q9_q23, .inl (cy 0, 90, .inl (fun _ => 0))), (q9_q31, .inl (cy 0, 90, .inl (fun _ => 0)))] := hD
  refine W.widen (k := 5) (n := 365) (by omega) (by omega) ?_
  refine va_putF (D := D) (ci := 0) (v := .ref q5) (ty := (.object "CadenceDesk$States")) (C := RX0) (T := TX0) (N := 10) hx hb hts cd_lay0 tyX0 tyX0_ok nmX0 hown hK hP hD hS 0 rfl rfl 0 (by decide) (hts (.fieldLink RX0 12 "CadenceDesk$Finder" "states" "LCadenceDesk$States;") (cd_m 1 205 rfl rfl)) (fun _ h9 => h9) rfl hin rfl (by decide +kernel) rfl rfl (Nat.le_of_ble_eq_true rfl) dX0_init_12 (fun H locs hP hD hS => ?_)
  have hP : va_P D cd_cl [(h0, .inr (0, [.ref q5, .null, .null, .null, .null, .int 0, .null, .null, .null, .null])), (q5, .inr (6, [.ref q9_q7, .ref q9_q15, .ref q9_q23, .ref q9_q31, .int (0)])), (q9_q7, .inl (cy 0, 90, .inl (fun _ => 0))), (q9_q15, .inl (cy 0, 90, .inl (fun _ => 0))), (q9_q23, .inl (cy 0, 90, .inl (fun _ => 0))), (q9_q31, .inl (cy 0, 90, .inl (fun _ => 0)))] H := hP
  have hD : va_D A [(h0, .inr (0, [.ref q5, .null, .null, .null, .null, .int 0, .null, .null, .null, .null])), (q5, .inr (6, [.ref q9_q7, .ref q9_q15, .ref q9_q23, .ref q9_q31, .int (0)])), (q9_q7, .inl (cy 0, 90, .inl (fun _ => 0))), (q9_q15, .inl (cy 0, 90, .inl (fun _ => 0))), (q9_q23, .inl (cy 0, 90, .inl (fun _ => 0))), (q9_q31, .inl (cy 0, 90, .inl (fun _ => 0)))] := hD
  refine lv_aload_n hx hb dX0_init_15 rfl (lv_at hl 0 rfl) ?_
  refine lv_bipush (v := (90)) hx hb dX0_init_16 (by decide) ?_
  refine cw_newa (atype := .int) (ty := .int) hC rfl (cd_m 1 65 rfl rfl) 0 rfl (fun z => z) hP hD hS 90 (90, .inl (fun _ => 0)) (fun _ => rfl) (by decide) (by decide) (Nat.le_of_ble_eq_true rfl) (Nat.le_of_ble_eq_true rfl) (Nat.le_of_ble_eq_true rfl) dX0_init_18 (fun q18 H hP hD hS => ?_)
  have hP : va_P D cd_cl [(h0, .inr (0, [.ref q5, .null, .null, .null, .null, .int 0, .null, .null, .null, .null])), (q5, .inr (6, [.ref q9_q7, .ref q9_q15, .ref q9_q23, .ref q9_q31, .int (0)])), (q9_q7, .inl (cy 0, 90, .inl (fun _ => 0))), (q9_q15, .inl (cy 0, 90, .inl (fun _ => 0))), (q9_q23, .inl (cy 0, 90, .inl (fun _ => 0))), (q9_q31, .inl (cy 0, 90, .inl (fun _ => 0))), (q18, .inl (cy 0, 90, .inl (fun _ => 0)))] H := hP
  have hD : va_D A [(h0, .inr (0, [.ref q5, .null, .null, .null, .null, .int 0, .null, .null, .null, .null])), (q5, .inr (6, [.ref q9_q7, .ref q9_q15, .ref q9_q23, .ref q9_q31, .int (0)])), (q9_q7, .inl (cy 0, 90, .inl (fun _ => 0))), (q9_q15, .inl (cy 0, 90, .inl (fun _ => 0))), (q9_q23, .inl (cy 0, 90, .inl (fun _ => 0))), (q9_q31, .inl (cy 0, 90, .inl (fun _ => 0))), (q18, .inl (cy 0, 90, .inl (fun _ => 0)))] := hD
  refine W.widen (k := 6) (n := 455) (by omega) (by omega) ?_
  refine va_putF (D := D) (ci := 0) (v := .ref q18) (ty := (.array .int)) (C := RX0) (T := TX0) (N := 10) hx hb hts cd_lay0 tyX0 tyX0_ok nmX0 hown hK hP hD hS 0 rfl rfl 1 (by decide) (hts (.fieldLink RX0 18 "CadenceDesk$Finder" "now" "[I") (cd_m 1 206 rfl rfl)) (fun _ h9 => h9) rfl hin rfl (by decide +kernel) rfl rfl (Nat.le_of_ble_eq_true rfl) dX0_init_20 (fun H locs hP hD hS => ?_)
  have hP : va_P D cd_cl [(h0, .inr (0, [.ref q5, .ref q18, .null, .null, .null, .int 0, .null, .null, .null, .null])), (q5, .inr (6, [.ref q9_q7, .ref q9_q15, .ref q9_q23, .ref q9_q31, .int (0)])), (q9_q7, .inl (cy 0, 90, .inl (fun _ => 0))), (q9_q15, .inl (cy 0, 90, .inl (fun _ => 0))), (q9_q23, .inl (cy 0, 90, .inl (fun _ => 0))), (q9_q31, .inl (cy 0, 90, .inl (fun _ => 0))), (q18, .inl (cy 0, 90, .inl (fun _ => 0)))] H := hP
  have hD : va_D A [(h0, .inr (0, [.ref q5, .ref q18, .null, .null, .null, .int 0, .null, .null, .null, .null])), (q5, .inr (6, [.ref q9_q7, .ref q9_q15, .ref q9_q23, .ref q9_q31, .int (0)])), (q9_q7, .inl (cy 0, 90, .inl (fun _ => 0))), (q9_q15, .inl (cy 0, 90, .inl (fun _ => 0))), (q9_q23, .inl (cy 0, 90, .inl (fun _ => 0))), (q9_q31, .inl (cy 0, 90, .inl (fun _ => 0))), (q18, .inl (cy 0, 90, .inl (fun _ => 0)))] := hD
  refine lv_aload_n hx hb dX0_init_23 rfl (lv_at hl 0 rfl) ?_
  refine lv_bipush (v := (90)) hx hb dX0_init_24 (by decide) ?_
  refine cw_newa (atype := .int) (ty := .int) hC rfl (cd_m 1 65 rfl rfl) 0 rfl (fun z => z) hP hD hS 90 (90, .inl (fun _ => 0)) (fun _ => rfl) (by decide) (by decide) (Nat.le_of_ble_eq_true rfl) (Nat.le_of_ble_eq_true rfl) (Nat.le_of_ble_eq_true rfl) dX0_init_26 (fun q26 H hP hD hS => ?_)
  have hP : va_P D cd_cl [(h0, .inr (0, [.ref q5, .ref q18, .null, .null, .null, .int 0, .null, .null, .null, .null])), (q5, .inr (6, [.ref q9_q7, .ref q9_q15, .ref q9_q23, .ref q9_q31, .int (0)])), (q9_q7, .inl (cy 0, 90, .inl (fun _ => 0))), (q9_q15, .inl (cy 0, 90, .inl (fun _ => 0))), (q9_q23, .inl (cy 0, 90, .inl (fun _ => 0))), (q9_q31, .inl (cy 0, 90, .inl (fun _ => 0))), (q18, .inl (cy 0, 90, .inl (fun _ => 0))), (q26, .inl (cy 0, 90, .inl (fun _ => 0)))] H := hP
  have hD : va_D A [(h0, .inr (0, [.ref q5, .ref q18, .null, .null, .null, .int 0, .null, .null, .null, .null])), (q5, .inr (6, [.ref q9_q7, .ref q9_q15, .ref q9_q23, .ref q9_q31, .int (0)])), (q9_q7, .inl (cy 0, 90, .inl (fun _ => 0))), (q9_q15, .inl (cy 0, 90, .inl (fun _ => 0))), (q9_q23, .inl (cy 0, 90, .inl (fun _ => 0))), (q9_q31, .inl (cy 0, 90, .inl (fun _ => 0))), (q18, .inl (cy 0, 90, .inl (fun _ => 0))), (q26, .inl (cy 0, 90, .inl (fun _ => 0)))] := hD
  refine W.widen (k := 7) (n := 545) (by omega) (by omega) ?_
  refine va_putF (D := D) (ci := 0) (v := .ref q26) (ty := (.array .int)) (C := RX0) (T := TX0) (N := 10) hx hb hts cd_lay0 tyX0 tyX0_ok nmX0 hown hK hP hD hS 0 rfl rfl 2 (by decide) (hts (.fieldLink RX0 22 "CadenceDesk$Finder" "later" "[I") (cd_m 1 207 rfl rfl)) (fun _ h9 => h9) rfl hin rfl (by decide +kernel) rfl rfl (Nat.le_of_ble_eq_true rfl) dX0_init_28 (fun H locs hP hD hS => ?_)
  have hP : va_P D cd_cl [(h0, .inr (0, [.ref q5, .ref q18, .ref q26, .null, .null, .int 0, .null, .null, .null, .null])), (q5, .inr (6, [.ref q9_q7, .ref q9_q15, .ref q9_q23, .ref q9_q31, .int (0)])), (q9_q7, .inl (cy 0, 90, .inl (fun _ => 0))), (q9_q15, .inl (cy 0, 90, .inl (fun _ => 0))), (q9_q23, .inl (cy 0, 90, .inl (fun _ => 0))), (q9_q31, .inl (cy 0, 90, .inl (fun _ => 0))), (q18, .inl (cy 0, 90, .inl (fun _ => 0))), (q26, .inl (cy 0, 90, .inl (fun _ => 0)))] H := hP
  have hD : va_D A [(h0, .inr (0, [.ref q5, .ref q18, .ref q26, .null, .null, .int 0, .null, .null, .null, .null])), (q5, .inr (6, [.ref q9_q7, .ref q9_q15, .ref q9_q23, .ref q9_q31, .int (0)])), (q9_q7, .inl (cy 0, 90, .inl (fun _ => 0))), (q9_q15, .inl (cy 0, 90, .inl (fun _ => 0))), (q9_q23, .inl (cy 0, 90, .inl (fun _ => 0))), (q9_q31, .inl (cy 0, 90, .inl (fun _ => 0))), (q18, .inl (cy 0, 90, .inl (fun _ => 0))), (q26, .inl (cy 0, 90, .inl (fun _ => 0)))] := hD
  refine lv_aload_n hx hb dX0_init_31 rfl (lv_at hl 0 rfl) ?_
  refine lv_sipush (v := (180)) hx hb dX0_init_32 (by decide) ?_
  refine cw_newa (atype := .long) (ty := .long) hC rfl (cd_m 1 88 rfl rfl) 1 rfl (fun z => z) hP hD hS 180 (180, .inr (.inl (fun _ => 0))) (fun _ => rfl) (by decide) (by decide) (Nat.le_of_ble_eq_true rfl) (Nat.le_of_ble_eq_true rfl) (Nat.le_of_ble_eq_true rfl) dX0_init_35 (fun q35 H hP hD hS => ?_)
  have hP : va_P D cd_cl [(h0, .inr (0, [.ref q5, .ref q18, .ref q26, .null, .null, .int 0, .null, .null, .null, .null])), (q5, .inr (6, [.ref q9_q7, .ref q9_q15, .ref q9_q23, .ref q9_q31, .int (0)])), (q9_q7, .inl (cy 0, 90, .inl (fun _ => 0))), (q9_q15, .inl (cy 0, 90, .inl (fun _ => 0))), (q9_q23, .inl (cy 0, 90, .inl (fun _ => 0))), (q9_q31, .inl (cy 0, 90, .inl (fun _ => 0))), (q18, .inl (cy 0, 90, .inl (fun _ => 0))), (q26, .inl (cy 0, 90, .inl (fun _ => 0))), (q35, .inl (cy 1, 180, .inr (.inl (fun _ => 0))))] H := hP
  have hD : va_D A [(h0, .inr (0, [.ref q5, .ref q18, .ref q26, .null, .null, .int 0, .null, .null, .null, .null])), (q5, .inr (6, [.ref q9_q7, .ref q9_q15, .ref q9_q23, .ref q9_q31, .int (0)])), (q9_q7, .inl (cy 0, 90, .inl (fun _ => 0))), (q9_q15, .inl (cy 0, 90, .inl (fun _ => 0))), (q9_q23, .inl (cy 0, 90, .inl (fun _ => 0))), (q9_q31, .inl (cy 0, 90, .inl (fun _ => 0))), (q18, .inl (cy 0, 90, .inl (fun _ => 0))), (q26, .inl (cy 0, 90, .inl (fun _ => 0))), (q35, .inl (cy 1, 180, .inr (.inl (fun _ => 0))))] := hD
  refine W.widen (k := 8) (n := 725) (by omega) (by omega) ?_
  refine va_putF (D := D) (ci := 0) (v := .ref q35) (ty := (.array .long)) (C := RX0) (T := TX0) (N := 10) hx hb hts cd_lay0 tyX0 tyX0_ok nmX0 hown hK hP hD hS 0 rfl rfl 3 (by decide) (hts (.fieldLink RX0 25 "CadenceDesk$Finder" "goings" "[J") (cd_m 1 208 rfl rfl)) (fun _ h9 => h9) rfl hin rfl (by decide +kernel) rfl rfl (Nat.le_of_ble_eq_true rfl) dX0_init_37 (fun H locs hP hD hS => ?_)
  have hP : va_P D cd_cl [(h0, .inr (0, [.ref q5, .ref q18, .ref q26, .ref q35, .null, .int 0, .null, .null, .null, .null])), (q5, .inr (6, [.ref q9_q7, .ref q9_q15, .ref q9_q23, .ref q9_q31, .int (0)])), (q9_q7, .inl (cy 0, 90, .inl (fun _ => 0))), (q9_q15, .inl (cy 0, 90, .inl (fun _ => 0))), (q9_q23, .inl (cy 0, 90, .inl (fun _ => 0))), (q9_q31, .inl (cy 0, 90, .inl (fun _ => 0))), (q18, .inl (cy 0, 90, .inl (fun _ => 0))), (q26, .inl (cy 0, 90, .inl (fun _ => 0))), (q35, .inl (cy 1, 180, .inr (.inl (fun _ => 0))))] H := hP
  have hD : va_D A [(h0, .inr (0, [.ref q5, .ref q18, .ref q26, .ref q35, .null, .int 0, .null, .null, .null, .null])), (q5, .inr (6, [.ref q9_q7, .ref q9_q15, .ref q9_q23, .ref q9_q31, .int (0)])), (q9_q7, .inl (cy 0, 90, .inl (fun _ => 0))), (q9_q15, .inl (cy 0, 90, .inl (fun _ => 0))), (q9_q23, .inl (cy 0, 90, .inl (fun _ => 0))), (q9_q31, .inl (cy 0, 90, .inl (fun _ => 0))), (q18, .inl (cy 0, 90, .inl (fun _ => 0))), (q26, .inl (cy 0, 90, .inl (fun _ => 0))), (q35, .inl (cy 1, 180, .inr (.inl (fun _ => 0))))] := hD
  refine lv_aload_n hx hb dX0_init_40 rfl (lv_at hl 0 rfl) ?_
  refine lv_bipush (v := (90)) hx hb dX0_init_41 (by decide) ?_
  refine cw_newa (atype := .int) (ty := .int) hC rfl (cd_m 1 65 rfl rfl) 0 rfl (fun z => z) hP hD hS 90 (90, .inl (fun _ => 0)) (fun _ => rfl) (by decide) (by decide) (Nat.le_of_ble_eq_true rfl) (Nat.le_of_ble_eq_true rfl) (Nat.le_of_ble_eq_true rfl) dX0_init_43 (fun q43 H hP hD hS => ?_)
  have hP : va_P D cd_cl [(h0, .inr (0, [.ref q5, .ref q18, .ref q26, .ref q35, .null, .int 0, .null, .null, .null, .null])), (q5, .inr (6, [.ref q9_q7, .ref q9_q15, .ref q9_q23, .ref q9_q31, .int (0)])), (q9_q7, .inl (cy 0, 90, .inl (fun _ => 0))), (q9_q15, .inl (cy 0, 90, .inl (fun _ => 0))), (q9_q23, .inl (cy 0, 90, .inl (fun _ => 0))), (q9_q31, .inl (cy 0, 90, .inl (fun _ => 0))), (q18, .inl (cy 0, 90, .inl (fun _ => 0))), (q26, .inl (cy 0, 90, .inl (fun _ => 0))), (q35, .inl (cy 1, 180, .inr (.inl (fun _ => 0)))), (q43, .inl (cy 0, 90, .inl (fun _ => 0)))] H := hP
  have hD : va_D A [(h0, .inr (0, [.ref q5, .ref q18, .ref q26, .ref q35, .null, .int 0, .null, .null, .null, .null])), (q5, .inr (6, [.ref q9_q7, .ref q9_q15, .ref q9_q23, .ref q9_q31, .int (0)])), (q9_q7, .inl (cy 0, 90, .inl (fun _ => 0))), (q9_q15, .inl (cy 0, 90, .inl (fun _ => 0))), (q9_q23, .inl (cy 0, 90, .inl (fun _ => 0))), (q9_q31, .inl (cy 0, 90, .inl (fun _ => 0))), (q18, .inl (cy 0, 90, .inl (fun _ => 0))), (q26, .inl (cy 0, 90, .inl (fun _ => 0))), (q35, .inl (cy 1, 180, .inr (.inl (fun _ => 0)))), (q43, .inl (cy 0, 90, .inl (fun _ => 0)))] := hD
  refine W.widen (k := 9) (n := 815) (by omega) (by omega) ?_
  refine va_putF (D := D) (ci := 0) (v := .ref q43) (ty := (.array .int)) (C := RX0) (T := TX0) (N := 10) hx hb hts cd_lay0 tyX0 tyX0_ok nmX0 hown hK hP hD hS 0 rfl rfl 4 (by decide) (hts (.fieldLink RX0 29 "CadenceDesk$Finder" "entries" "[I") (cd_m 1 209 rfl rfl)) (fun _ h9 => h9) rfl hin rfl (by decide +kernel) rfl rfl (Nat.le_of_ble_eq_true rfl) dX0_init_45 (fun H locs hP hD hS => ?_)
  have hP : va_P D cd_cl [(h0, .inr (0, [.ref q5, .ref q18, .ref q26, .ref q35, .ref q43, .int 0, .null, .null, .null, .null])), (q5, .inr (6, [.ref q9_q7, .ref q9_q15, .ref q9_q23, .ref q9_q31, .int (0)])), (q9_q7, .inl (cy 0, 90, .inl (fun _ => 0))), (q9_q15, .inl (cy 0, 90, .inl (fun _ => 0))), (q9_q23, .inl (cy 0, 90, .inl (fun _ => 0))), (q9_q31, .inl (cy 0, 90, .inl (fun _ => 0))), (q18, .inl (cy 0, 90, .inl (fun _ => 0))), (q26, .inl (cy 0, 90, .inl (fun _ => 0))), (q35, .inl (cy 1, 180, .inr (.inl (fun _ => 0)))), (q43, .inl (cy 0, 90, .inl (fun _ => 0)))] H := hP
  have hD : va_D A [(h0, .inr (0, [.ref q5, .ref q18, .ref q26, .ref q35, .ref q43, .int 0, .null, .null, .null, .null])), (q5, .inr (6, [.ref q9_q7, .ref q9_q15, .ref q9_q23, .ref q9_q31, .int (0)])), (q9_q7, .inl (cy 0, 90, .inl (fun _ => 0))), (q9_q15, .inl (cy 0, 90, .inl (fun _ => 0))), (q9_q23, .inl (cy 0, 90, .inl (fun _ => 0))), (q9_q31, .inl (cy 0, 90, .inl (fun _ => 0))), (q18, .inl (cy 0, 90, .inl (fun _ => 0))), (q26, .inl (cy 0, 90, .inl (fun _ => 0))), (q35, .inl (cy 1, 180, .inr (.inl (fun _ => 0)))), (q43, .inl (cy 0, 90, .inl (fun _ => 0)))] := hD
  refine lv_aload_n hx hb dX0_init_48 rfl (lv_at hl 0 rfl) ?_
  refine lv_iconst (v := (0)) hx hb dX0_init_49 (by decide) ?_
  refine va_put (D := D) (ci := 0) (v := .int (0)) (ty := .int) (C := RX0) (T := TX0) (N := 10) hx hb hts cd_lay0 tyX0 tyX0_ok nmX0 hown hK hP hD hS 0 rfl rfl 5 (by decide) (hts (.fieldLink RX0 32 "CadenceDesk$Finder" "best" "I") (cd_m 1 210 rfl rfl)) (fun _ h9 => h9) rfl (by decide +kernel) rfl rfl (Nat.le_of_ble_eq_true rfl) dX0_init_50 (fun H locs hP hD hS => ?_)
  have hP : va_P D cd_cl [(h0, .inr (0, [.ref q5, .ref q18, .ref q26, .ref q35, .ref q43, .int (0), .null, .null, .null, .null])), (q5, .inr (6, [.ref q9_q7, .ref q9_q15, .ref q9_q23, .ref q9_q31, .int (0)])), (q9_q7, .inl (cy 0, 90, .inl (fun _ => 0))), (q9_q15, .inl (cy 0, 90, .inl (fun _ => 0))), (q9_q23, .inl (cy 0, 90, .inl (fun _ => 0))), (q9_q31, .inl (cy 0, 90, .inl (fun _ => 0))), (q18, .inl (cy 0, 90, .inl (fun _ => 0))), (q26, .inl (cy 0, 90, .inl (fun _ => 0))), (q35, .inl (cy 1, 180, .inr (.inl (fun _ => 0)))), (q43, .inl (cy 0, 90, .inl (fun _ => 0)))] H := hP
  have hD : va_D A [(h0, .inr (0, [.ref q5, .ref q18, .ref q26, .ref q35, .ref q43, .int (0), .null, .null, .null, .null])), (q5, .inr (6, [.ref q9_q7, .ref q9_q15, .ref q9_q23, .ref q9_q31, .int (0)])), (q9_q7, .inl (cy 0, 90, .inl (fun _ => 0))), (q9_q15, .inl (cy 0, 90, .inl (fun _ => 0))), (q9_q23, .inl (cy 0, 90, .inl (fun _ => 0))), (q9_q31, .inl (cy 0, 90, .inl (fun _ => 0))), (q18, .inl (cy 0, 90, .inl (fun _ => 0))), (q26, .inl (cy 0, 90, .inl (fun _ => 0))), (q35, .inl (cy 1, 180, .inr (.inl (fun _ => 0)))), (q43, .inl (cy 0, 90, .inl (fun _ => 0)))] := hD
  refine lv_aload_n hx hb dX0_init_53 rfl (lv_at hl 0 rfl) ?_
  refine lv_iconst (v := (4)) hx hb dX0_init_54 (by decide) ?_
  refine cw_newa (atype := .boolean) (ty := .boolean) hC rfl (cd_m 1 236 rfl rfl) 3 rfl (fun z => z) hP hD hS 4 (4, .inl (fun _ => 0)) (fun _ => rfl) (by decide) (by decide) (Nat.le_of_ble_eq_true rfl) (Nat.le_of_ble_eq_true rfl) (Nat.le_of_ble_eq_true rfl) dX0_init_55 (fun q55 H hP hD hS => ?_)
  have hP : va_P D cd_cl [(h0, .inr (0, [.ref q5, .ref q18, .ref q26, .ref q35, .ref q43, .int (0), .null, .null, .null, .null])), (q5, .inr (6, [.ref q9_q7, .ref q9_q15, .ref q9_q23, .ref q9_q31, .int (0)])), (q9_q7, .inl (cy 0, 90, .inl (fun _ => 0))), (q9_q15, .inl (cy 0, 90, .inl (fun _ => 0))), (q9_q23, .inl (cy 0, 90, .inl (fun _ => 0))), (q9_q31, .inl (cy 0, 90, .inl (fun _ => 0))), (q18, .inl (cy 0, 90, .inl (fun _ => 0))), (q26, .inl (cy 0, 90, .inl (fun _ => 0))), (q35, .inl (cy 1, 180, .inr (.inl (fun _ => 0)))), (q43, .inl (cy 0, 90, .inl (fun _ => 0))), (q55, .inl (cy 3, 4, .inl (fun _ => 0)))] H := hP
  have hD : va_D A [(h0, .inr (0, [.ref q5, .ref q18, .ref q26, .ref q35, .ref q43, .int (0), .null, .null, .null, .null])), (q5, .inr (6, [.ref q9_q7, .ref q9_q15, .ref q9_q23, .ref q9_q31, .int (0)])), (q9_q7, .inl (cy 0, 90, .inl (fun _ => 0))), (q9_q15, .inl (cy 0, 90, .inl (fun _ => 0))), (q9_q23, .inl (cy 0, 90, .inl (fun _ => 0))), (q9_q31, .inl (cy 0, 90, .inl (fun _ => 0))), (q18, .inl (cy 0, 90, .inl (fun _ => 0))), (q26, .inl (cy 0, 90, .inl (fun _ => 0))), (q35, .inl (cy 1, 180, .inr (.inl (fun _ => 0)))), (q43, .inl (cy 0, 90, .inl (fun _ => 0))), (q55, .inl (cy 3, 4, .inl (fun _ => 0)))] := hD
  refine W.widen (k := 10) (n := 819) (by omega) (by omega) ?_
  refine va_putF (D := D) (ci := 0) (v := .ref q55) (ty := (.array .boolean)) (C := RX0) (T := TX0) (N := 10) hx hb hts cd_lay0 tyX0 tyX0_ok nmX0 hown hK hP hD hS 0 rfl rfl 6 (by decide) (hts (.fieldLink RX0 36 "CadenceDesk$Finder" "measured" "[Z") (cd_m 1 211 rfl rfl)) (fun _ h9 => h9) rfl hin rfl (by decide +kernel) rfl rfl (Nat.le_of_ble_eq_true rfl) dX0_init_57 (fun H locs hP hD hS => ?_)
  have hP : va_P D cd_cl [(h0, .inr (0, [.ref q5, .ref q18, .ref q26, .ref q35, .ref q43, .int (0), .ref q55, .null, .null, .null])), (q5, .inr (6, [.ref q9_q7, .ref q9_q15, .ref q9_q23, .ref q9_q31, .int (0)])), (q9_q7, .inl (cy 0, 90, .inl (fun _ => 0))), (q9_q15, .inl (cy 0, 90, .inl (fun _ => 0))), (q9_q23, .inl (cy 0, 90, .inl (fun _ => 0))), (q9_q31, .inl (cy 0, 90, .inl (fun _ => 0))), (q18, .inl (cy 0, 90, .inl (fun _ => 0))), (q26, .inl (cy 0, 90, .inl (fun _ => 0))), (q35, .inl (cy 1, 180, .inr (.inl (fun _ => 0)))), (q43, .inl (cy 0, 90, .inl (fun _ => 0))), (q55, .inl (cy 3, 4, .inl (fun _ => 0)))] H := hP
  have hD : va_D A [(h0, .inr (0, [.ref q5, .ref q18, .ref q26, .ref q35, .ref q43, .int (0), .ref q55, .null, .null, .null])), (q5, .inr (6, [.ref q9_q7, .ref q9_q15, .ref q9_q23, .ref q9_q31, .int (0)])), (q9_q7, .inl (cy 0, 90, .inl (fun _ => 0))), (q9_q15, .inl (cy 0, 90, .inl (fun _ => 0))), (q9_q23, .inl (cy 0, 90, .inl (fun _ => 0))), (q9_q31, .inl (cy 0, 90, .inl (fun _ => 0))), (q18, .inl (cy 0, 90, .inl (fun _ => 0))), (q26, .inl (cy 0, 90, .inl (fun _ => 0))), (q35, .inl (cy 1, 180, .inr (.inl (fun _ => 0)))), (q43, .inl (cy 0, 90, .inl (fun _ => 0))), (q55, .inl (cy 3, 4, .inl (fun _ => 0)))] := hD
  refine lv_aload_n hx hb dX0_init_60 rfl (lv_at hl 0 rfl) ?_
  refine lv_iconst (v := (4)) hx hb dX0_init_61 (by decide) ?_
  refine cw_newa (atype := .int) (ty := .int) hC rfl (cd_m 1 65 rfl rfl) 0 rfl (fun z => z) hP hD hS 4 (4, .inl (fun _ => 0)) (fun _ => rfl) (by decide) (by decide) (Nat.le_of_ble_eq_true rfl) (Nat.le_of_ble_eq_true rfl) (Nat.le_of_ble_eq_true rfl) dX0_init_62 (fun q62 H hP hD hS => ?_)
  have hP : va_P D cd_cl [(h0, .inr (0, [.ref q5, .ref q18, .ref q26, .ref q35, .ref q43, .int (0), .ref q55, .null, .null, .null])), (q5, .inr (6, [.ref q9_q7, .ref q9_q15, .ref q9_q23, .ref q9_q31, .int (0)])), (q9_q7, .inl (cy 0, 90, .inl (fun _ => 0))), (q9_q15, .inl (cy 0, 90, .inl (fun _ => 0))), (q9_q23, .inl (cy 0, 90, .inl (fun _ => 0))), (q9_q31, .inl (cy 0, 90, .inl (fun _ => 0))), (q18, .inl (cy 0, 90, .inl (fun _ => 0))), (q26, .inl (cy 0, 90, .inl (fun _ => 0))), (q35, .inl (cy 1, 180, .inr (.inl (fun _ => 0)))), (q43, .inl (cy 0, 90, .inl (fun _ => 0))), (q55, .inl (cy 3, 4, .inl (fun _ => 0))), (q62, .inl (cy 0, 4, .inl (fun _ => 0)))] H := hP
  have hD : va_D A [(h0, .inr (0, [.ref q5, .ref q18, .ref q26, .ref q35, .ref q43, .int (0), .ref q55, .null, .null, .null])), (q5, .inr (6, [.ref q9_q7, .ref q9_q15, .ref q9_q23, .ref q9_q31, .int (0)])), (q9_q7, .inl (cy 0, 90, .inl (fun _ => 0))), (q9_q15, .inl (cy 0, 90, .inl (fun _ => 0))), (q9_q23, .inl (cy 0, 90, .inl (fun _ => 0))), (q9_q31, .inl (cy 0, 90, .inl (fun _ => 0))), (q18, .inl (cy 0, 90, .inl (fun _ => 0))), (q26, .inl (cy 0, 90, .inl (fun _ => 0))), (q35, .inl (cy 1, 180, .inr (.inl (fun _ => 0)))), (q43, .inl (cy 0, 90, .inl (fun _ => 0))), (q55, .inl (cy 3, 4, .inl (fun _ => 0))), (q62, .inl (cy 0, 4, .inl (fun _ => 0)))] := hD
  refine W.widen (k := 11) (n := 823) (by omega) (by omega) ?_
  refine va_putF (D := D) (ci := 0) (v := .ref q62) (ty := (.array .int)) (C := RX0) (T := TX0) (N := 10) hx hb hts cd_lay0 tyX0 tyX0_ok nmX0 hown hK hP hD hS 0 rfl rfl 7 (by decide) (hts (.fieldLink RX0 40 "CadenceDesk$Finder" "costs" "[I") (cd_m 1 212 rfl rfl)) (fun _ h9 => h9) rfl hin rfl (by decide +kernel) rfl rfl (Nat.le_of_ble_eq_true rfl) dX0_init_64 (fun H locs hP hD hS => ?_)
  have hP : va_P D cd_cl [(h0, .inr (0, [.ref q5, .ref q18, .ref q26, .ref q35, .ref q43, .int (0), .ref q55, .ref q62, .null, .null])), (q5, .inr (6, [.ref q9_q7, .ref q9_q15, .ref q9_q23, .ref q9_q31, .int (0)])), (q9_q7, .inl (cy 0, 90, .inl (fun _ => 0))), (q9_q15, .inl (cy 0, 90, .inl (fun _ => 0))), (q9_q23, .inl (cy 0, 90, .inl (fun _ => 0))), (q9_q31, .inl (cy 0, 90, .inl (fun _ => 0))), (q18, .inl (cy 0, 90, .inl (fun _ => 0))), (q26, .inl (cy 0, 90, .inl (fun _ => 0))), (q35, .inl (cy 1, 180, .inr (.inl (fun _ => 0)))), (q43, .inl (cy 0, 90, .inl (fun _ => 0))), (q55, .inl (cy 3, 4, .inl (fun _ => 0))), (q62, .inl (cy 0, 4, .inl (fun _ => 0)))] H := hP
  have hD : va_D A [(h0, .inr (0, [.ref q5, .ref q18, .ref q26, .ref q35, .ref q43, .int (0), .ref q55, .ref q62, .null, .null])), (q5, .inr (6, [.ref q9_q7, .ref q9_q15, .ref q9_q23, .ref q9_q31, .int (0)])), (q9_q7, .inl (cy 0, 90, .inl (fun _ => 0))), (q9_q15, .inl (cy 0, 90, .inl (fun _ => 0))), (q9_q23, .inl (cy 0, 90, .inl (fun _ => 0))), (q9_q31, .inl (cy 0, 90, .inl (fun _ => 0))), (q18, .inl (cy 0, 90, .inl (fun _ => 0))), (q26, .inl (cy 0, 90, .inl (fun _ => 0))), (q35, .inl (cy 1, 180, .inr (.inl (fun _ => 0)))), (q43, .inl (cy 0, 90, .inl (fun _ => 0))), (q55, .inl (cy 3, 4, .inl (fun _ => 0))), (q62, .inl (cy 0, 4, .inl (fun _ => 0)))] := hD
  refine lv_aload_n hx hb dX0_init_67 rfl (lv_at hl 0 rfl) ?_
  refine lv_iconst (v := (4)) hx hb dX0_init_68 (by decide) ?_
  refine cw_newa (atype := .int) (ty := .int) hC rfl (cd_m 1 65 rfl rfl) 0 rfl (fun z => z) hP hD hS 4 (4, .inl (fun _ => 0)) (fun _ => rfl) (by decide) (by decide) (Nat.le_of_ble_eq_true rfl) (Nat.le_of_ble_eq_true rfl) (Nat.le_of_ble_eq_true rfl) dX0_init_69 (fun q69 H hP hD hS => ?_)
  have hP : va_P D cd_cl [(h0, .inr (0, [.ref q5, .ref q18, .ref q26, .ref q35, .ref q43, .int (0), .ref q55, .ref q62, .null, .null])), (q5, .inr (6, [.ref q9_q7, .ref q9_q15, .ref q9_q23, .ref q9_q31, .int (0)])), (q9_q7, .inl (cy 0, 90, .inl (fun _ => 0))), (q9_q15, .inl (cy 0, 90, .inl (fun _ => 0))), (q9_q23, .inl (cy 0, 90, .inl (fun _ => 0))), (q9_q31, .inl (cy 0, 90, .inl (fun _ => 0))), (q18, .inl (cy 0, 90, .inl (fun _ => 0))), (q26, .inl (cy 0, 90, .inl (fun _ => 0))), (q35, .inl (cy 1, 180, .inr (.inl (fun _ => 0)))), (q43, .inl (cy 0, 90, .inl (fun _ => 0))), (q55, .inl (cy 3, 4, .inl (fun _ => 0))), (q62, .inl (cy 0, 4, .inl (fun _ => 0))), (q69, .inl (cy 0, 4, .inl (fun _ => 0)))] H := hP
  have hD : va_D A [(h0, .inr (0, [.ref q5, .ref q18, .ref q26, .ref q35, .ref q43, .int (0), .ref q55, .ref q62, .null, .null])), (q5, .inr (6, [.ref q9_q7, .ref q9_q15, .ref q9_q23, .ref q9_q31, .int (0)])), (q9_q7, .inl (cy 0, 90, .inl (fun _ => 0))), (q9_q15, .inl (cy 0, 90, .inl (fun _ => 0))), (q9_q23, .inl (cy 0, 90, .inl (fun _ => 0))), (q9_q31, .inl (cy 0, 90, .inl (fun _ => 0))), (q18, .inl (cy 0, 90, .inl (fun _ => 0))), (q26, .inl (cy 0, 90, .inl (fun _ => 0))), (q35, .inl (cy 1, 180, .inr (.inl (fun _ => 0)))), (q43, .inl (cy 0, 90, .inl (fun _ => 0))), (q55, .inl (cy 3, 4, .inl (fun _ => 0))), (q62, .inl (cy 0, 4, .inl (fun _ => 0))), (q69, .inl (cy 0, 4, .inl (fun _ => 0)))] := hD
  refine W.widen (k := 12) (n := 827) (by omega) (by omega) ?_
  refine va_putF (D := D) (ci := 0) (v := .ref q69) (ty := (.array .int)) (C := RX0) (T := TX0) (N := 10) hx hb hts cd_lay0 tyX0 tyX0_ok nmX0 hown hK hP hD hS 0 rfl rfl 8 (by decide) (hts (.fieldLink RX0 43 "CadenceDesk$Finder" "firstPlaces" "[I") (cd_m 1 213 rfl rfl)) (fun _ h9 => h9) rfl hin rfl (by decide +kernel) rfl rfl (Nat.le_of_ble_eq_true rfl) dX0_init_71 (fun H locs hP hD hS => ?_)
  have hP : va_P D cd_cl [(h0, .inr (0, [.ref q5, .ref q18, .ref q26, .ref q35, .ref q43, .int (0), .ref q55, .ref q62, .ref q69, .null])), (q5, .inr (6, [.ref q9_q7, .ref q9_q15, .ref q9_q23, .ref q9_q31, .int (0)])), (q9_q7, .inl (cy 0, 90, .inl (fun _ => 0))), (q9_q15, .inl (cy 0, 90, .inl (fun _ => 0))), (q9_q23, .inl (cy 0, 90, .inl (fun _ => 0))), (q9_q31, .inl (cy 0, 90, .inl (fun _ => 0))), (q18, .inl (cy 0, 90, .inl (fun _ => 0))), (q26, .inl (cy 0, 90, .inl (fun _ => 0))), (q35, .inl (cy 1, 180, .inr (.inl (fun _ => 0)))), (q43, .inl (cy 0, 90, .inl (fun _ => 0))), (q55, .inl (cy 3, 4, .inl (fun _ => 0))), (q62, .inl (cy 0, 4, .inl (fun _ => 0))), (q69, .inl (cy 0, 4, .inl (fun _ => 0)))] H := hP
  have hD : va_D A [(h0, .inr (0, [.ref q5, .ref q18, .ref q26, .ref q35, .ref q43, .int (0), .ref q55, .ref q62, .ref q69, .null])), (q5, .inr (6, [.ref q9_q7, .ref q9_q15, .ref q9_q23, .ref q9_q31, .int (0)])), (q9_q7, .inl (cy 0, 90, .inl (fun _ => 0))), (q9_q15, .inl (cy 0, 90, .inl (fun _ => 0))), (q9_q23, .inl (cy 0, 90, .inl (fun _ => 0))), (q9_q31, .inl (cy 0, 90, .inl (fun _ => 0))), (q18, .inl (cy 0, 90, .inl (fun _ => 0))), (q26, .inl (cy 0, 90, .inl (fun _ => 0))), (q35, .inl (cy 1, 180, .inr (.inl (fun _ => 0)))), (q43, .inl (cy 0, 90, .inl (fun _ => 0))), (q55, .inl (cy 3, 4, .inl (fun _ => 0))), (q62, .inl (cy 0, 4, .inl (fun _ => 0))), (q69, .inl (cy 0, 4, .inl (fun _ => 0)))] := hD
  refine lv_aload_n hx hb dX0_init_74 rfl (lv_at hl 0 rfl) ?_
  refine lv_iconst (v := (4)) hx hb dX0_init_75 (by decide) ?_
  refine cw_newa (atype := .int) (ty := .int) hC rfl (cd_m 1 65 rfl rfl) 0 rfl (fun z => z) hP hD hS 4 (4, .inl (fun _ => 0)) (fun _ => rfl) (by decide) (by decide) (Nat.le_of_ble_eq_true rfl) (Nat.le_of_ble_eq_true rfl) (Nat.le_of_ble_eq_true rfl) dX0_init_76 (fun q76 H hP hD hS => ?_)
  have hP : va_P D cd_cl [(h0, .inr (0, [.ref q5, .ref q18, .ref q26, .ref q35, .ref q43, .int (0), .ref q55, .ref q62, .ref q69, .null])), (q5, .inr (6, [.ref q9_q7, .ref q9_q15, .ref q9_q23, .ref q9_q31, .int (0)])), (q9_q7, .inl (cy 0, 90, .inl (fun _ => 0))), (q9_q15, .inl (cy 0, 90, .inl (fun _ => 0))), (q9_q23, .inl (cy 0, 90, .inl (fun _ => 0))), (q9_q31, .inl (cy 0, 90, .inl (fun _ => 0))), (q18, .inl (cy 0, 90, .inl (fun _ => 0))), (q26, .inl (cy 0, 90, .inl (fun _ => 0))), (q35, .inl (cy 1, 180, .inr (.inl (fun _ => 0)))), (q43, .inl (cy 0, 90, .inl (fun _ => 0))), (q55, .inl (cy 3, 4, .inl (fun _ => 0))), (q62, .inl (cy 0, 4, .inl (fun _ => 0))), (q69, .inl (cy 0, 4, .inl (fun _ => 0))), (q76, .inl (cy 0, 4, .inl (fun _ => 0)))] H := hP
  have hD : va_D A [(h0, .inr (0, [.ref q5, .ref q18, .ref q26, .ref q35, .ref q43, .int (0), .ref q55, .ref q62, .ref q69, .null])), (q5, .inr (6, [.ref q9_q7, .ref q9_q15, .ref q9_q23, .ref q9_q31, .int (0)])), (q9_q7, .inl (cy 0, 90, .inl (fun _ => 0))), (q9_q15, .inl (cy 0, 90, .inl (fun _ => 0))), (q9_q23, .inl (cy 0, 90, .inl (fun _ => 0))), (q9_q31, .inl (cy 0, 90, .inl (fun _ => 0))), (q18, .inl (cy 0, 90, .inl (fun _ => 0))), (q26, .inl (cy 0, 90, .inl (fun _ => 0))), (q35, .inl (cy 1, 180, .inr (.inl (fun _ => 0)))), (q43, .inl (cy 0, 90, .inl (fun _ => 0))), (q55, .inl (cy 3, 4, .inl (fun _ => 0))), (q62, .inl (cy 0, 4, .inl (fun _ => 0))), (q69, .inl (cy 0, 4, .inl (fun _ => 0))), (q76, .inl (cy 0, 4, .inl (fun _ => 0)))] := hD
  refine W.widen (k := 13) (n := 831) (by omega) (by omega) ?_
  refine va_putF (D := D) (ci := 0) (v := .ref q76) (ty := (.array .int)) (C := RX0) (T := TX0) (N := 10) hx hb hts cd_lay0 tyX0 tyX0_ok nmX0 hown hK hP hD hS 0 rfl rfl 9 (by decide) (hts (.fieldLink RX0 46 "CadenceDesk$Finder" "firstSteps" "[I") (cd_m 1 214 rfl rfl)) (fun _ h9 => h9) rfl hin rfl (by decide +kernel) rfl rfl (Nat.le_of_ble_eq_true rfl) dX0_init_78 (fun H locs hP hD hS => ?_)
  have hP : va_P D cd_cl [(h0, .inr (0, [.ref q5, .ref q18, .ref q26, .ref q35, .ref q43, .int (0), .ref q55, .ref q62, .ref q69, .ref q76])), (q5, .inr (6, [.ref q9_q7, .ref q9_q15, .ref q9_q23, .ref q9_q31, .int (0)])), (q9_q7, .inl (cy 0, 90, .inl (fun _ => 0))), (q9_q15, .inl (cy 0, 90, .inl (fun _ => 0))), (q9_q23, .inl (cy 0, 90, .inl (fun _ => 0))), (q9_q31, .inl (cy 0, 90, .inl (fun _ => 0))), (q18, .inl (cy 0, 90, .inl (fun _ => 0))), (q26, .inl (cy 0, 90, .inl (fun _ => 0))), (q35, .inl (cy 1, 180, .inr (.inl (fun _ => 0)))), (q43, .inl (cy 0, 90, .inl (fun _ => 0))), (q55, .inl (cy 3, 4, .inl (fun _ => 0))), (q62, .inl (cy 0, 4, .inl (fun _ => 0))), (q69, .inl (cy 0, 4, .inl (fun _ => 0))), (q76, .inl (cy 0, 4, .inl (fun _ => 0)))] H := hP
  have hD : va_D A [(h0, .inr (0, [.ref q5, .ref q18, .ref q26, .ref q35, .ref q43, .int (0), .ref q55, .ref q62, .ref q69, .ref q76])), (q5, .inr (6, [.ref q9_q7, .ref q9_q15, .ref q9_q23, .ref q9_q31, .int (0)])), (q9_q7, .inl (cy 0, 90, .inl (fun _ => 0))), (q9_q15, .inl (cy 0, 90, .inl (fun _ => 0))), (q9_q23, .inl (cy 0, 90, .inl (fun _ => 0))), (q9_q31, .inl (cy 0, 90, .inl (fun _ => 0))), (q18, .inl (cy 0, 90, .inl (fun _ => 0))), (q26, .inl (cy 0, 90, .inl (fun _ => 0))), (q35, .inl (cy 1, 180, .inr (.inl (fun _ => 0)))), (q43, .inl (cy 0, 90, .inl (fun _ => 0))), (q55, .inl (cy 3, 4, .inl (fun _ => 0))), (q62, .inl (cy 0, 4, .inl (fun _ => 0))), (q69, .inl (cy 0, 4, .inl (fun _ => 0))), (q76, .inl (cy 0, 4, .inl (fun _ => 0)))] := hD
  have hP9 := hP.sub (ws' := [(h0, .inr (0, [.ref q5, .ref q18, .ref q26, .ref q35, .ref q43, .int (0), .ref q55, .ref q62, .ref q69, .ref q76])), (q5, .inr (6, [.ref q9_q7, .ref q9_q15, .ref q9_q23, .ref q9_q31, .int (0)])), (q9_q7, .inl (cy 0, 90, .inl (fun _ => 0))), (q9_q15, .inl (cy 0, 90, .inl (fun _ => 0))), (q9_q23, .inl (cy 0, 90, .inl (fun _ => 0))), (q9_q31, .inl (cy 0, 90, .inl (fun _ => 0))), (q18, .inl (cy 0, 90, .inl (fun _ => 0))), (q26, .inl (cy 0, 90, .inl (fun _ => 0))), (q35, .inl (cy 1, 180, .inr (.inl (fun _ => 0)))), (q43, .inl (cy 0, 90, .inl (fun _ => 0))), (q55, .inl (cy 3, 4, .inl (fun _ => 0))), (q62, .inl (cy 0, 4, .inl (fun _ => 0))), (q69, .inl (cy 0, 4, .inl (fun _ => 0))), (q76, .inl (cy 0, 4, .inl (fun _ => 0)))]) [0, 1, 2, 3, 4, 5, 6, 7, 8, 9, 10, 11, 12, 13] rfl
  have hD9 := hD.sub (ws' := [(h0, .inr (0, [.ref q5, .ref q18, .ref q26, .ref q35, .ref q43, .int (0), .ref q55, .ref q62, .ref q69, .ref q76])), (q5, .inr (6, [.ref q9_q7, .ref q9_q15, .ref q9_q23, .ref q9_q31, .int (0)])), (q9_q7, .inl (cy 0, 90, .inl (fun _ => 0))), (q9_q15, .inl (cy 0, 90, .inl (fun _ => 0))), (q9_q23, .inl (cy 0, 90, .inl (fun _ => 0))), (q9_q31, .inl (cy 0, 90, .inl (fun _ => 0))), (q18, .inl (cy 0, 90, .inl (fun _ => 0))), (q26, .inl (cy 0, 90, .inl (fun _ => 0))), (q35, .inl (cy 1, 180, .inr (.inl (fun _ => 0)))), (q43, .inl (cy 0, 90, .inl (fun _ => 0))), (q55, .inl (cy 3, 4, .inl (fun _ => 0))), (q62, .inl (cy 0, 4, .inl (fun _ => 0))), (q69, .inl (cy 0, 4, .inl (fun _ => 0))), (q76, .inl (cy 0, 4, .inl (fun _ => 0)))]) [0, 1, 2, 3, 4, 5, 6, 7, 8, 9, 10, 11, 12, 13] (by decide) rfl
  exact W.vret hx hb hr (fun t ht hW => ⟨⟨rfl, q5, q9_q7, q9_q15, q9_q23, q9_q31, q18, q26, q35, q43, q55, q62, q69, q76, by rw [ht]; exact hP9, va_K.moved hW.alike hK, hD9⟩, hS.F ht⟩) hS.2.2 dX0_init_81
