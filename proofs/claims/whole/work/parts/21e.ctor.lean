theorem dX9_init_0 : decode cX9_init 0 = .ok (.aload_n 0, 1) := by decide +kernel
theorem dX9_init_1 : decode cX9_init 1 = .ok (.invokespecial 3, 3) := by decide +kernel
theorem dX9_init_4 : decode cX9_init 4 = .ok (.aload_n 0, 1) := by decide +kernel
theorem dX9_init_5 : decode cX9_init 5 = .ok (.bipush 90, 2) := by decide +kernel
theorem dX9_init_7 : decode cX9_init 7 = .ok (.newarray .int, 2) := by decide +kernel
theorem dX9_init_9 : decode cX9_init 9 = .ok (.putfield 9, 3) := by decide +kernel
theorem dX9_init_12 : decode cX9_init 12 = .ok (.aload_n 0, 1) := by decide +kernel
theorem dX9_init_13 : decode cX9_init 13 = .ok (.bipush 90, 2) := by decide +kernel
theorem dX9_init_15 : decode cX9_init 15 = .ok (.newarray .int, 2) := by decide +kernel
theorem dX9_init_17 : decode cX9_init 17 = .ok (.putfield 15, 3) := by decide +kernel
theorem dX9_init_20 : decode cX9_init 20 = .ok (.aload_n 0, 1) := by decide +kernel
theorem dX9_init_21 : decode cX9_init 21 = .ok (.bipush 90, 2) := by decide +kernel
theorem dX9_init_23 : decode cX9_init 23 = .ok (.newarray .int, 2) := by decide +kernel
theorem dX9_init_25 : decode cX9_init 25 = .ok (.putfield 18, 3) := by decide +kernel
theorem dX9_init_28 : decode cX9_init 28 = .ok (.aload_n 0, 1) := by decide +kernel
theorem dX9_init_29 : decode cX9_init 29 = .ok (.bipush 90, 2) := by decide +kernel
theorem dX9_init_31 : decode cX9_init 31 = .ok (.newarray .boolean, 2) := by decide +kernel
theorem dX9_init_33 : decode cX9_init 33 = .ok (.putfield 21, 3) := by decide +kernel
theorem dX9_init_36 : decode cX9_init 36 = .ok (.aload_n 0, 1) := by decide +kernel
theorem dX9_init_37 : decode cX9_init 37 = .ok (.bipush 90, 2) := by decide +kernel
theorem dX9_init_39 : decode cX9_init 39 = .ok (.newarray .int, 2) := by decide +kernel
theorem dX9_init_41 : decode cX9_init 41 = .ok (.putfield 25, 3) := by decide +kernel
theorem dX9_init_44 : decode cX9_init 44 = .ok (.aload_n 0, 1) := by decide +kernel
theorem dX9_init_45 : decode cX9_init 45 = .ok (.bipush 90, 2) := by decide +kernel
theorem dX9_init_47 : decode cX9_init 47 = .ok (.newarray .int, 2) := by decide +kernel
theorem dX9_init_49 : decode cX9_init 49 = .ok (.putfield 28, 3) := by decide +kernel
theorem dX9_init_52 : decode cX9_init 52 = .ok (.aload_n 0, 1) := by decide +kernel
theorem dX9_init_53 : decode cX9_init 53 = .ok (.iconst 0, 1) := by decide +kernel
theorem dX9_init_54 : decode cX9_init 54 = .ok (.putfield 31, 3) := by decide +kernel
theorem dX9_init_57 : decode cX9_init 57 = .ok (.aload_n 0, 1) := by decide +kernel
theorem dX9_init_58 : decode cX9_init 58 = .ok (.iconst 0, 1) := by decide +kernel
theorem dX9_init_59 : decode cX9_init 59 = .ok (.putfield 35, 3) := by decide +kernel
theorem dX9_init_62 : decode cX9_init 62 = .ok (.aload_n 0, 1) := by decide +kernel
theorem dX9_init_63 : decode cX9_init 63 = .ok (.iconst 0, 1) := by decide +kernel
theorem dX9_init_64 : decode cX9_init 64 = .ok (.putfield 38, 3) := by decide +kernel
theorem dX9_init_67 : decode cX9_init 67 = .ok (.aload_n 0, 1) := by decide +kernel
theorem dX9_init_68 : decode cX9_init 68 = .ok (.iconst 0, 1) := by decide +kernel
theorem dX9_init_69 : decode cX9_init 69 = .ok (.putfield 41, 3) := by decide +kernel
theorem dX9_init_72 : decode cX9_init 72 = .ok (.return_, 1) := by decide +kernel
set_option maxHeartbeats 800000 in
set_option maxRecDepth 100000 in
theorem cw_X9_init (l : Launch) (D : va_G) (cy : Nat → ClassId) (h0 : Nat) (sz : Nat) : Met l yX9_init (cw_ws yX9_init cX9_init 1) ({ frames := 1, cells := 6, slots := 540, locals := 20 }) (cw_Pc D cy [.ref h0] [(h0, .inr (9, [.null, .null, .null, .null, .null, .null, .int 0, .int 0, .int 0, .int 0]))] sz) (cw_Q (va_A [(h0, .inr (9, [.null, .null, .null, .null, .null, .null, .int 0, .int 0, .int 0, .int 0]))] sz) (fun t => ∃ q7 q15 q23 q31 q39 q47 : Nat, cw_B D cy (va_A [(h0, .inr (9, [.null, .null, .null, .null, .null, .null, .int 0, .int 0, .int 0, .int 0]))] sz) [(h0, .inr (9, [.ref q7, .ref q15, .ref q23, .ref q31, .ref q39, .ref q47, .int (0), .int (0), .int (0), .int (0)])), (q7, .inl (cy 0, 90, .inl (fun _ => 0))), (q15, .inl (cy 0, 90, .inl (fun _ => 0))), (q23, .inl (cy 0, 90, .inl (fun _ => 0))), (q31, .inl (cy 3, 90, .inl (fun _ => 0))), (q39, .inl (cy 0, 90, .inl (fun _ => 0))), (q47, .inl (cy 0, 90, .inl (fun _ => 0)))] t)) 6 540 (va_A [(h0, .inr (9, [.null, .null, .null, .null, .null, .null, .int 0, .int 0, .int 0, .int 0]))] sz) := by
  refine Met.ofW (cc := cX9_init) (maxL := 1) (ret := none) (by decide) rfl ?_
  intro p e s m args below meth c s₁ B hml hv
  obtain ⟨rfl, hsz, hP, hK, hD0, hNW⟩ := hv
  have hx := B.exec
  have hb := B.bytes
  have hr := B.returns
  have hts : ∀ w ∈ cd_big, w.before _ s = true := fun w hw => atoms_spec (ws := cw_ws yX9_init cX9_init 1) B.pre w (List.mem_cons_of_mem _ hw)
  have hown : s.vm.findClass RX9 = some m.cls := findClass_of_methodNamed B.named
  have hlocks := B.notSynchronized
  have hin : meth.name = "<init>" := (name_of_methodNamed B.named B.method).1
  subst hsz
  have hD := hD0.self (sz := s.heap.size)
  generalize hAe : va_A [(h0, .inr (9, [.null, .null, .null, .null, .null, .null, .int 0, .int 0, .int 0, .int 0]))] s.heap.size = A at hD ⊢
  have hA : ∀ q : Nat, s.heap.size ≤ q → A q := fun q h => by rw [← hAe]; exact Or.inr h
  have hS : va_S A s.heap s.heap [] := va_S.rf
  have hP : va_P D cd_cl [(h0, .inr (9, [.null, .null, .null, .null, .null, .null, .int 0, .int 0, .int 0, .int 0]))] s.heap := hP
  have hC : cw_Cx p s m _ meth c cX9_init 1 RX9 D cy A := ⟨hx, hb, hml, hown, hts, hK, hNW, hA⟩
  have hl := lv_entry ([.ref h0]) (n := 1) (Nat.le_of_ble_eq_true rfl)
  rw [lg_entry_eq]
  generalize (lg_sl ([.ref h0]) ++ List.replicate (1 - (lg_sl ([.ref h0])).length) Slot.unset).toArray = ls at hl ⊢
  have hl : lv_has ls 1 [(0, .ref h0)] := hl
  refine lv_aload_n hx hb dX9_init_0 rfl (lv_at hl 0 rfl) ?_
  refine W.objInit hx hb hown (hts (.methodLink RX9 3 objectInit) (cd_m 2 2 rfl rfl)) (hts (.instanceMethod objectInit) (cd_m 1 29 rfl rfl)) (hts (.code objectInit ⟨#[0xb1]⟩ 1 none) (cd_m 1 30 rfl rfl)) rfl (by rw [hml]; exact hl.1) rfl dX9_init_1 (Nat.le_of_ble_eq_true rfl) (Nat.le_of_ble_eq_true rfl) ?_
  refine W.eq (g2 := F0 m 4 ls []) rfl ?_
  refine lv_aload_n hx hb dX9_init_4 rfl (lv_at hl 0 rfl) ?_
  refine lv_bipush (v := (90)) hx hb dX9_init_5 (by decide) ?_
  refine cw_newa (atype := .int) (ty := .int) hC rfl (cd_m 1 65 rfl rfl) 0 rfl (fun z => z) hP hD hS 90 (90, .inl (fun _ => 0)) (fun _ => rfl) (by decide) (by decide) (Nat.le_of_ble_eq_true rfl) (Nat.le_of_ble_eq_true rfl) (Nat.le_of_ble_eq_true rfl) dX9_init_7 (fun q7 H hP hD hS => ?_)
  have hP : va_P D cd_cl [(h0, .inr (9, [.null, .null, .null, .null, .null, .null, .int 0, .int 0, .int 0, .int 0])), (q7, .inl (cy 0, 90, .inl (fun _ => 0)))] H := hP
  have hD : va_D A [(h0, .inr (9, [.null, .null, .null, .null, .null, .null, .int 0, .int 0, .int 0, .int 0])), (q7, .inl (cy 0, 90, .inl (fun _ => 0)))] := hD
  refine W.widen (k := 1) (n := 90) (by omega) (by omega) ?_
  refine va_putF (D := D) (ci := 9) (v := .ref q7) (ty := (.array .int)) (C := RX9) (T := TX9) (N := 10) hx hb hts cd_lay9 tyX9 tyX9_ok nmX9 hown hK hP hD hS 0 rfl rfl 0 (by decide) (hts (.fieldLink RX9 9 "CadenceDesk$Track" "places" "[I") (cd_m 2 3 rfl rfl)) (fun _ h9 => h9) rfl hin rfl (by decide +kernel) rfl rfl (Nat.le_of_ble_eq_true rfl) dX9_init_9 (fun H locs hP hD hS => ?_)
  have hP : va_P D cd_cl [(h0, .inr (9, [.ref q7, .null, .null, .null, .null, .null, .int 0, .int 0, .int 0, .int 0])), (q7, .inl (cy 0, 90, .inl (fun _ => 0)))] H := hP
  have hD : va_D A [(h0, .inr (9, [.ref q7, .null, .null, .null, .null, .null, .int 0, .int 0, .int 0, .int 0])), (q7, .inl (cy 0, 90, .inl (fun _ => 0)))] := hD
  refine lv_aload_n hx hb dX9_init_12 rfl (lv_at hl 0 rfl) ?_
  refine lv_bipush (v := (90)) hx hb dX9_init_13 (by decide) ?_
  refine cw_newa (atype := .int) (ty := .int) hC rfl (cd_m 1 65 rfl rfl) 0 rfl (fun z => z) hP hD hS 90 (90, .inl (fun _ => 0)) (fun _ => rfl) (by decide) (by decide) (Nat.le_of_ble_eq_true rfl) (Nat.le_of_ble_eq_true rfl) (Nat.le_of_ble_eq_true rfl) dX9_init_15 (fun q15 H hP hD hS => ?_)
  have hP : va_P D cd_cl [(h0, .inr (9, [.ref q7, .null, .null, .null, .null, .null, .int 0, .int 0, .int 0, .int 0])), (q7, .inl (cy 0, 90, .inl (fun _ => 0))), (q15, .inl (cy 0, 90, .inl (fun _ => 0)))] H := hP
  have hD : va_D A [(h0, .inr (9, [.ref q7, .null, .null, .null, .null, .null, .int 0, .int 0, .int 0, .int 0])), (q7, .inl (cy 0, 90, .inl (fun _ => 0))), (q15, .inl (cy 0, 90, .inl (fun _ => 0)))] := hD
  refine W.widen (k := 2) (n := 180) (by omega) (by omega) ?_
  refine va_putF (D := D) (ci := 9) (v := .ref q15) (ty := (.array .int)) (C := RX9) (T := TX9) (N := 10) hx hb hts cd_lay9 tyX9 tyX9_ok nmX9 hown hK hP hD hS 0 rfl rfl 1 (by decide) (hts (.fieldLink RX9 15 "CadenceDesk$Track" "steps" "[I") (cd_m 2 4 rfl rfl)) (fun _ h9 => h9) rfl hin rfl (by decide +kernel) rfl rfl (Nat.le_of_ble_eq_true rfl) dX9_init_17 (fun H locs hP hD hS => ?_)
  have hP : va_P D cd_cl [(h0, .inr (9, [.ref q7, .ref q15, .null, .null, .null, .null, .int 0, .int 0, .int 0, .int 0])), (q7, .inl (cy 0, 90, .inl (fun _ => 0))), (q15, .inl (cy 0, 90, .inl (fun _ => 0)))] H := hP
  have hD : va_D A [(h0, .inr (9, [.ref q7, .ref q15, .null, .null, .null, .null, .int 0, .int 0, .int 0, .int 0])), (q7, .inl (cy 0, 90, .inl (fun _ => 0))), (q15, .inl (cy 0, 90, .inl (fun _ => 0)))] := hD
  refine lv_aload_n hx hb dX9_init_20 rfl (lv_at hl 0 rfl) ?_
  refine lv_bipush (v := (90)) hx hb dX9_init_21 (by decide) ?_
  refine cw_newa (atype := .int) (ty := .int) hC rfl (cd_m 1 65 rfl rfl) 0 rfl (fun z => z) hP hD hS 90 (90, .inl (fun _ => 0)) (fun _ => rfl) (by decide) (by decide) (Nat.le_of_ble_eq_true rfl) (Nat.le_of_ble_eq_true rfl) (Nat.le_of_ble_eq_true rfl) dX9_init_23 (fun q23 H hP hD hS => ?_)
  have hP : va_P D cd_cl [(h0, .inr (9, [.ref q7, .ref q15, .null, .null, .null, .null, .int 0, .int 0, .int 0, .int 0])), (q7, .inl (cy 0, 90, .inl (fun _ => 0))), (q15, .inl (cy 0, 90, .inl (fun _ => 0))), (q23, .inl (cy 0, 90, .inl (fun _ => 0)))] H := hP
  have hD : va_D A [(h0, .inr (9, [.ref q7, .ref q15, .null, .null, .null, .null, .int 0, .int 0, .int 0, .int 0])), (q7, .inl (cy 0, 90, .inl (fun _ => 0))), (q15, .inl (cy 0, 90, .inl (fun _ => 0))), (q23, .inl (cy 0, 90, .inl (fun _ => 0)))] := hD
  refine W.widen (k := 3) (n := 270) (by omega) (by omega) ?_
  refine va_putF (D := D) (ci := 9) (v := .ref q23) (ty := (.array .int)) (C := RX9) (T := TX9) (N := 10) hx hb hts cd_lay9 tyX9 tyX9_ok nmX9 hown hK hP hD hS 0 rfl rfl 2 (by decide) (hts (.fieldLink RX9 18 "CadenceDesk$Track" "seens" "[I") (cd_m 2 5 rfl rfl)) (fun _ h9 => h9) rfl hin rfl (by decide +kernel) rfl rfl (Nat.le_of_ble_eq_true rfl) dX9_init_25 (fun H locs hP hD hS => ?_)
  have hP : va_P D cd_cl [(h0, .inr (9, [.ref q7, .ref q15, .ref q23, .null, .null, .null, .int 0, .int 0, .int 0, .int 0])), (q7, .inl (cy 0, 90, .inl (fun _ => 0))), (q15, .inl (cy 0, 90, .inl (fun _ => 0))), (q23, .inl (cy 0, 90, .inl (fun _ => 0)))] H := hP
  have hD : va_D A [(h0, .inr (9, [.ref q7, .ref q15, .ref q23, .null, .null, .null, .int 0, .int 0, .int 0, .int 0])), (q7, .inl (cy 0, 90, .inl (fun _ => 0))), (q15, .inl (cy 0, 90, .inl (fun _ => 0))), (q23, .inl (cy 0, 90, .inl (fun _ => 0)))] := hD
  refine lv_aload_n hx hb dX9_init_28 rfl (lv_at hl 0 rfl) ?_
  refine lv_bipush (v := (90)) hx hb dX9_init_29 (by decide) ?_
  refine cw_newa (atype := .boolean) (ty := .boolean) hC rfl (cd_m 1 236 rfl rfl) 3 rfl (fun z => z) hP hD hS 90 (90, .inl (fun _ => 0)) (fun _ => rfl) (by decide) (by decide) (Nat.le_of_ble_eq_true rfl) (Nat.le_of_ble_eq_true rfl) (Nat.le_of_ble_eq_true rfl) dX9_init_31 (fun q31 H hP hD hS => ?_)
  have hP : va_P D cd_cl [(h0, .inr (9, [.ref q7, .ref q15, .ref q23, .null, .null, .null, .int 0, .int 0, .int 0, .int 0])), (q7, .inl (cy 0, 90, .inl (fun _ => 0))), (q15, .inl (cy 0, 90, .inl (fun _ => 0))), (q23, .inl (cy 0, 90, .inl (fun _ => 0))), (q31, .inl (cy 3, 90, .inl (fun _ => 0)))] H := hP
  have hD : va_D A [(h0, .inr (9, [.ref q7, .ref q15, .ref q23, .null, .null, .null, .int 0, .int 0, .int 0, .int 0])), (q7, .inl (cy 0, 90, .inl (fun _ => 0))), (q15, .inl (cy 0, 90, .inl (fun _ => 0))), (q23, .inl (cy 0, 90, .inl (fun _ => 0))), (q31, .inl (cy 3, 90, .inl (fun _ => 0)))] := hD
  refine W.widen (k := 4) (n := 360) (by omega) (by omega) ?_
  refine va_putF (D := D) (ci := 9) (v := .ref q31) (ty := (.array .boolean)) (C := RX9) (T := TX9) (N := 10) hx hb hts cd_lay9 tyX9 tyX9_ok nmX9 hown hK hP hD hS 0 rfl rfl 3 (by decide) (hts (.fieldLink RX9 21 "CadenceDesk$Track" "edited" "[Z") (cd_m 2 6 rfl rfl)) (fun _ h9 => h9) rfl hin rfl (by decide +kernel) rfl rfl (Nat.le_of_ble_eq_true rfl) dX9_init_33 (fun H locs hP hD hS => ?_)
  have hP : va_P D cd_cl [(h0, .inr (9, [.ref q7, .ref q15, .ref q23, .ref q31, .null, .null, .int 0, .int 0, .int 0, .int 0])), (q7, .inl (cy 0, 90, .inl (fun _ => 0))), (q15, .inl (cy 0, 90, .inl (fun _ => 0))), (q23, .inl (cy 0, 90, .inl (fun _ => 0))), (q31, .inl (cy 3, 90, .inl (fun _ => 0)))] H := hP
  have hD : va_D A [(h0, .inr (9, [.ref q7, .ref q15, .ref q23, .ref q31, .null, .null, .int 0, .int 0, .int 0, .int 0])), (q7, .inl (cy 0, 90, .inl (fun _ => 0))), (q15, .inl (cy 0, 90, .inl (fun _ => 0))), (q23, .inl (cy 0, 90, .inl (fun _ => 0))), (q31, .inl (cy 3, 90, .inl (fun _ => 0)))] := hD
  refine lv_aload_n hx hb dX9_init_36 rfl (lv_at hl 0 rfl) ?_
  refine lv_bipush (v := (90)) hx hb dX9_init_37 (by decide) ?_
  refine cw_newa (atype := .int) (ty := .int) hC rfl (cd_m 1 65 rfl rfl) 0 rfl (fun z => z) hP hD hS 90 (90, .inl (fun _ => 0)) (fun _ => rfl) (by decide) (by decide) (Nat.le_of_ble_eq_true rfl) (Nat.le_of_ble_eq_true rfl) (Nat.le_of_ble_eq_true rfl) dX9_init_39 (fun q39 H hP hD hS => ?_)
  have hP : va_P D cd_cl [(h0, .inr (9, [.ref q7, .ref q15, .ref q23, .ref q31, .null, .null, .int 0, .int 0, .int 0, .int 0])), (q7, .inl (cy 0, 90, .inl (fun _ => 0))), (q15, .inl (cy 0, 90, .inl (fun _ => 0))), (q23, .inl (cy 0, 90, .inl (fun _ => 0))), (q31, .inl (cy 3, 90, .inl (fun _ => 0))), (q39, .inl (cy 0, 90, .inl (fun _ => 0)))] H := hP
  have hD : va_D A [(h0, .inr (9, [.ref q7, .ref q15, .ref q23, .ref q31, .null, .null, .int 0, .int 0, .int 0, .int 0])), (q7, .inl (cy 0, 90, .inl (fun _ => 0))), (q15, .inl (cy 0, 90, .inl (fun _ => 0))), (q23, .inl (cy 0, 90, .inl (fun _ => 0))), (q31, .inl (cy 3, 90, .inl (fun _ => 0))), (q39, .inl (cy 0, 90, .inl (fun _ => 0)))] := hD
  refine W.widen (k := 5) (n := 450) (by omega) (by omega) ?_
  refine va_putF (D := D) (ci := 9) (v := .ref q39) (ty := (.array .int)) (C := RX9) (T := TX9) (N := 10) hx hb hts cd_lay9 tyX9 tyX9_ok nmX9 hown hK hP hD hS 0 rfl rfl 4 (by decide) (hts (.fieldLink RX9 25 "CadenceDesk$Track" "prices" "[I") (cd_m 2 7 rfl rfl)) (fun _ h9 => h9) rfl hin rfl (by decide +kernel) rfl rfl (Nat.le_of_ble_eq_true rfl) dX9_init_41 (fun H locs hP hD hS => ?_)
  have hP : va_P D cd_cl [(h0, .inr (9, [.ref q7, .ref q15, .ref q23, .ref q31, .ref q39, .null, .int 0, .int 0, .int 0, .int 0])), (q7, .inl (cy 0, 90, .inl (fun _ => 0))), (q15, .inl (cy 0, 90, .inl (fun _ => 0))), (q23, .inl (cy 0, 90, .inl (fun _ => 0))), (q31, .inl (cy 3, 90, .inl (fun _ => 0))), (q39, .inl (cy 0, 90, .inl (fun _ => 0)))] H := hP
  have hD : va_D A [(h0, .inr (9, [.ref q7, .ref q15, .ref q23, .ref q31, .ref q39, .null, .int 0, .int 0, .int 0, .int 0])), (q7, .inl (cy 0, 90, .inl (fun _ => 0))), (q15, .inl (cy 0, 90, .inl (fun _ => 0))), (q23, .inl (cy 0, 90, .inl (fun _ => 0))), (q31, .inl (cy 3, 90, .inl (fun _ => 0))), (q39, .inl (cy 0, 90, .inl (fun _ => 0)))] := hD
  refine lv_aload_n hx hb dX9_init_44 rfl (lv_at hl 0 rfl) ?_
  refine lv_bipush (v := (90)) hx hb dX9_init_45 (by decide) ?_
  refine cw_newa (atype := .int) (ty := .int) hC rfl (cd_m 1 65 rfl rfl) 0 rfl (fun z => z) hP hD hS 90 (90, .inl (fun _ => 0)) (fun _ => rfl) (by decide) (by decide) (Nat.le_of_ble_eq_true rfl) (Nat.le_of_ble_eq_true rfl) (Nat.le_of_ble_eq_true rfl) dX9_init_47 (fun q47 H hP hD hS => ?_)
  have hP : va_P D cd_cl [(h0, .inr (9, [.ref q7, .ref q15, .ref q23, .ref q31, .ref q39, .null, .int 0, .int 0, .int 0, .int 0])), (q7, .inl (cy 0, 90, .inl (fun _ => 0))), (q15, .inl (cy 0, 90, .inl (fun _ => 0))), (q23, .inl (cy 0, 90, .inl (fun _ => 0))), (q31, .inl (cy 3, 90, .inl (fun _ => 0))), (q39, .inl (cy 0, 90, .inl (fun _ => 0))), (q47, .inl (cy 0, 90, .inl (fun _ => 0)))] H := hP
  have hD : va_D A [(h0, .inr (9, [.ref q7, .ref q15, .ref q23, .ref q31, .ref q39, .null, .int 0, .int 0, .int 0, .int 0])), (q7, .inl (cy 0, 90, .inl (fun _ => 0))), (q15, .inl (cy 0, 90, .inl (fun _ => 0))), (q23, .inl (cy 0, 90, .inl (fun _ => 0))), (q31, .inl (cy 3, 90, .inl (fun _ => 0))), (q39, .inl (cy 0, 90, .inl (fun _ => 0))), (q47, .inl (cy 0, 90, .inl (fun _ => 0)))] := hD
  refine W.widen (k := 6) (n := 540) (by omega) (by omega) ?_
  refine va_putF (D := D) (ci := 9) (v := .ref q47) (ty := (.array .int)) (C := RX9) (T := TX9) (N := 10) hx hb hts cd_lay9 tyX9 tyX9_ok nmX9 hown hK hP hD hS 0 rfl rfl 5 (by decide) (hts (.fieldLink RX9 28 "CadenceDesk$Track" "editFields" "[I") (cd_m 2 8 rfl rfl)) (fun _ h9 => h9) rfl hin rfl (by decide +kernel) rfl rfl (Nat.le_of_ble_eq_true rfl) dX9_init_49 (fun H locs hP hD hS => ?_)
  have hP : va_P D cd_cl [(h0, .inr (9, [.ref q7, .ref q15, .ref q23, .ref q31, .ref q39, .ref q47, .int 0, .int 0, .int 0, .int 0])), (q7, .inl (cy 0, 90, .inl (fun _ => 0))), (q15, .inl (cy 0, 90, .inl (fun _ => 0))), (q23, .inl (cy 0, 90, .inl (fun _ => 0))), (q31, .inl (cy 3, 90, .inl (fun _ => 0))), (q39, .inl (cy 0, 90, .inl (fun _ => 0))), (q47, .inl (cy 0, 90, .inl (fun _ => 0)))] H := hP
  have hD : va_D A [(h0, .inr (9, [.ref q7, .ref q15, .ref q23, .ref q31, .ref q39, .ref q47, .int 0, .int 0, .int 0, .int 0])), (q7, .inl (cy 0, 90, .inl (fun _ => 0))), (q15, .inl (cy 0, 90, .inl (fun _ => 0))), (q23, .inl (cy 0, 90, .inl (fun _ => 0))), (q31, .inl (cy 3, 90, .inl (fun _ => 0))), (q39, .inl (cy 0, 90, .inl (fun _ => 0))), (q47, .inl (cy 0, 90, .inl (fun _ => 0)))] := hD
  refine lv_aload_n hx hb dX9_init_52 rfl (lv_at hl 0 rfl) ?_
  refine lv_iconst (v := (0)) hx hb dX9_init_53 (by decide) ?_
  refine va_put (D := D) (ci := 9) (v := .int (0)) (ty := .int) (C := RX9) (T := TX9) (N := 10) hx hb hts cd_lay9 tyX9 tyX9_ok nmX9 hown hK hP hD hS 0 rfl rfl 6 (by decide) (hts (.fieldLink RX9 31 "CadenceDesk$Track" "size" "I") (cd_m 2 9 rfl rfl)) (fun _ h9 => h9) rfl (by decide +kernel) rfl rfl (Nat.le_of_ble_eq_true rfl) dX9_init_54 (fun H locs hP hD hS => ?_)
  have hP : va_P D cd_cl [(h0, .inr (9, [.ref q7, .ref q15, .ref q23, .ref q31, .ref q39, .ref q47, .int (0), .int 0, .int 0, .int 0])), (q7, .inl (cy 0, 90, .inl (fun _ => 0))), (q15, .inl (cy 0, 90, .inl (fun _ => 0))), (q23, .inl (cy 0, 90, .inl (fun _ => 0))), (q31, .inl (cy 3, 90, .inl (fun _ => 0))), (q39, .inl (cy 0, 90, .inl (fun _ => 0))), (q47, .inl (cy 0, 90, .inl (fun _ => 0)))] H := hP
  have hD : va_D A [(h0, .inr (9, [.ref q7, .ref q15, .ref q23, .ref q31, .ref q39, .ref q47, .int (0), .int 0, .int 0, .int 0])), (q7, .inl (cy 0, 90, .inl (fun _ => 0))), (q15, .inl (cy 0, 90, .inl (fun _ => 0))), (q23, .inl (cy 0, 90, .inl (fun _ => 0))), (q31, .inl (cy 3, 90, .inl (fun _ => 0))), (q39, .inl (cy 0, 90, .inl (fun _ => 0))), (q47, .inl (cy 0, 90, .inl (fun _ => 0)))] := hD
  refine lv_aload_n hx hb dX9_init_57 rfl (lv_at hl 0 rfl) ?_
  refine lv_iconst (v := (0)) hx hb dX9_init_58 (by decide) ?_
  refine va_put (D := D) (ci := 9) (v := .int (0)) (ty := .int) (C := RX9) (T := TX9) (N := 10) hx hb hts cd_lay9 tyX9 tyX9_ok nmX9 hown hK hP hD hS 0 rfl rfl 7 (by decide) (hts (.fieldLink RX9 35 "CadenceDesk$Track" "edits" "I") (cd_m 2 10 rfl rfl)) (fun _ h9 => h9) rfl (by decide +kernel) rfl rfl (Nat.le_of_ble_eq_true rfl) dX9_init_59 (fun H locs hP hD hS => ?_)
  have hP : va_P D cd_cl [(h0, .inr (9, [.ref q7, .ref q15, .ref q23, .ref q31, .ref q39, .ref q47, .int (0), .int (0), .int 0, .int 0])), (q7, .inl (cy 0, 90, .inl (fun _ => 0))), (q15, .inl (cy 0, 90, .inl (fun _ => 0))), (q23, .inl (cy 0, 90, .inl (fun _ => 0))), (q31, .inl (cy 3, 90, .inl (fun _ => 0))), (q39, .inl (cy 0, 90, .inl (fun _ => 0))), (q47, .inl (cy 0, 90, .inl (fun _ => 0)))] H := hP
  have hD : va_D A [(h0, .inr (9, [.ref q7, .ref q15, .ref q23, .ref q31, .ref q39, .ref q47, .int (0), .int (0), .int 0, .int 0])), (q7, .inl (cy 0, 90, .inl (fun _ => 0))), (q15, .inl (cy 0, 90, .inl (fun _ => 0))), (q23, .inl (cy 0, 90, .inl (fun _ => 0))), (q31, .inl (cy 3, 90, .inl (fun _ => 0))), (q39, .inl (cy 0, 90, .inl (fun _ => 0))), (q47, .inl (cy 0, 90, .inl (fun _ => 0)))] := hD
  refine lv_aload_n hx hb dX9_init_62 rfl (lv_at hl 0 rfl) ?_
  refine lv_iconst (v := (0)) hx hb dX9_init_63 (by decide) ?_
  refine va_put (D := D) (ci := 9) (v := .int (0)) (ty := .int) (C := RX9) (T := TX9) (N := 10) hx hb hts cd_lay9 tyX9 tyX9_ok nmX9 hown hK hP hD hS 0 rfl rfl 8 (by decide) (hts (.fieldLink RX9 38 "CadenceDesk$Track" "dropped" "I") (cd_m 2 11 rfl rfl)) (fun _ h9 => h9) rfl (by decide +kernel) rfl rfl (Nat.le_of_ble_eq_true rfl) dX9_init_64 (fun H locs hP hD hS => ?_)
  have hP : va_P D cd_cl [(h0, .inr (9, [.ref q7, .ref q15, .ref q23, .ref q31, .ref q39, .ref q47, .int (0), .int (0), .int (0), .int 0])), (q7, .inl (cy 0, 90, .inl (fun _ => 0))), (q15, .inl (cy 0, 90, .inl (fun _ => 0))), (q23, .inl (cy 0, 90, .inl (fun _ => 0))), (q31, .inl (cy 3, 90, .inl (fun _ => 0))), (q39, .inl (cy 0, 90, .inl (fun _ => 0))), (q47, .inl (cy 0, 90, .inl (fun _ => 0)))] H := hP
  have hD : va_D A [(h0, .inr (9, [.ref q7, .ref q15, .ref q23, .ref q31, .ref q39, .ref q47, .int (0), .int (0), .int (0), .int 0])), (q7, .inl (cy 0, 90, .inl (fun _ => 0))), (q15, .inl (cy 0, 90, .inl (fun _ => 0))), (q23, .inl (cy 0, 90, .inl (fun _ => 0))), (q31, .inl (cy 3, 90, .inl (fun _ => 0))), (q39, .inl (cy 0, 90, .inl (fun _ => 0))), (q47, .inl (cy 0, 90, .inl (fun _ => 0)))] := hD
  refine lv_aload_n hx hb dX9_init_67 rfl (lv_at hl 0 rfl) ?_
  refine lv_iconst (v := (0)) hx hb dX9_init_68 (by decide) ?_
  refine va_put (D := D) (ci := 9) (v := .int (0)) (ty := .int) (C := RX9) (T := TX9) (N := 10) hx hb hts cd_lay9 tyX9 tyX9_ok nmX9 hown hK hP hD hS 0 rfl rfl 9 (by decide) (hts (.fieldLink RX9 41 "CadenceDesk$Track" "total" "I") (cd_m 2 12 rfl rfl)) (fun _ h9 => h9) rfl (by decide +kernel) rfl rfl (Nat.le_of_ble_eq_true rfl) dX9_init_69 (fun H locs hP hD hS => ?_)
  have hP : va_P D cd_cl [(h0, .inr (9, [.ref q7, .ref q15, .ref q23, .ref q31, .ref q39, .ref q47, .int (0), .int (0), .int (0), .int (0)])), (q7, .inl (cy 0, 90, .inl (fun _ => 0))), (q15, .inl (cy 0, 90, .inl (fun _ => 0))), (q23, .inl (cy 0, 90, .inl (fun _ => 0))), (q31, .inl (cy 3, 90, .inl (fun _ => 0))), (q39, .inl (cy 0, 90, .inl (fun _ => 0))), (q47, .inl (cy 0, 90, .inl (fun _ => 0)))] H := hP
  have hD : va_D A [(h0, .inr (9, [.ref q7, .ref q15, .ref q23, .ref q31, .ref q39, .ref q47, .int (0), .int (0), .int (0), .int (0)])), (q7, .inl (cy 0, 90, .inl (fun _ => 0))), (q15, .inl (cy 0, 90, .inl (fun _ => 0))), (q23, .inl (cy 0, 90, .inl (fun _ => 0))), (q31, .inl (cy 3, 90, .inl (fun _ => 0))), (q39, .inl (cy 0, 90, .inl (fun _ => 0))), (q47, .inl (cy 0, 90, .inl (fun _ => 0)))] := hD
  have hP9 := hP.sub (ws' := [(h0, .inr (9, [.ref q7, .ref q15, .ref q23, .ref q31, .ref q39, .ref q47, .int (0), .int (0), .int (0), .int (0)])), (q7, .inl (cy 0, 90, .inl (fun _ => 0))), (q15, .inl (cy 0, 90, .inl (fun _ => 0))), (q23, .inl (cy 0, 90, .inl (fun _ => 0))), (q31, .inl (cy 3, 90, .inl (fun _ => 0))), (q39, .inl (cy 0, 90, .inl (fun _ => 0))), (q47, .inl (cy 0, 90, .inl (fun _ => 0)))]) [0, 1, 2, 3, 4, 5, 6] rfl
  have hD9 := hD.sub (ws' := [(h0, .inr (9, [.ref q7, .ref q15, .ref q23, .ref q31, .ref q39, .ref q47, .int (0), .int (0), .int (0), .int (0)])), (q7, .inl (cy 0, 90, .inl (fun _ => 0))), (q15, .inl (cy 0, 90, .inl (fun _ => 0))), (q23, .inl (cy 0, 90, .inl (fun _ => 0))), (q31, .inl (cy 3, 90, .inl (fun _ => 0))), (q39, .inl (cy 0, 90, .inl (fun _ => 0))), (q47, .inl (cy 0, 90, .inl (fun _ => 0)))]) [0, 1, 2, 3, 4, 5, 6] (by decide) rfl
  exact W.vret hx hb hr (fun t ht hW => ⟨⟨rfl, q7, q15, q23, q31, q39, q47, by rw [ht]; exact hP9, va_K.moved hW.alike hK, hD9⟩, hS.F ht⟩) hS.2.2 dX9_init_72
set_option maxHeartbeats 800000 in
set_option maxRecDepth 100000 in
theorem cw_X1_init_90 (l : Launch) (D : va_G) (cy : Nat → ClassId) (h0 : Nat) (sz : Nat) : Met l yX1_init (cw_ws yX1_init cX1_init 3) ({ frames := 1, cells := 2, slots := 180, locals := 22 }) (cw_Pc D cy [.ref h0, .int (90)] [(h0, .inr (1, [.null, .null, .int 0, .int 0]))] sz) (cw_Q (va_A [(h0, .inr (1, [.null, .null, .int 0, .int 0]))] sz) (fun t => ∃ q22 q29 : Nat, cw_B D cy (va_A [(h0, .inr (1, [.null, .null, .int 0, .int 0]))] sz) [(h0, .inr (1, [.ref q22, .ref q29, .int (0), .int (0)])), (q22, .inl (cy 1, 90, .inr (.inl (fun _ => 0)))), (q29, .inl (cy 1, 90, .inr (.inl (fun _ => 0))))] t)) 2 180 (va_A [(h0, .inr (1, [.null, .null, .int 0, .int 0]))] sz) := by
  refine Met.ofW (cc := cX1_init) (maxL := 3) (ret := none) (by decide) rfl ?_
  intro p e s m args below meth c s₁ B hml hv
  obtain ⟨rfl, hsz, hP, hK, hD0, hNW⟩ := hv
  have hx := B.exec
  have hb := B.bytes
  have hr := B.returns
  have hts : ∀ w ∈ cd_big, w.before _ s = true := fun w hw => atoms_spec (ws := cw_ws yX1_init cX1_init 3) B.pre w (List.mem_cons_of_mem _ hw)
  have hown : s.vm.findClass RX1 = some m.cls := findClass_of_methodNamed B.named
  have hlocks := B.notSynchronized
  have hin : meth.name = "<init>" := (name_of_methodNamed B.named B.method).1
  subst hsz
  have hD := hD0.self (sz := s.heap.size)
  generalize hAe : va_A [(h0, .inr (1, [.null, .null, .int 0, .int 0]))] s.heap.size = A at hD ⊢
  have hA : ∀ q : Nat, s.heap.size ≤ q → A q := fun q h => by rw [← hAe]; exact Or.inr h
  have hS : va_S A s.heap s.heap [] := va_S.rf
  have hP : va_P D cd_cl [(h0, .inr (1, [.null, .null, .int 0, .int 0]))] s.heap := hP
  have hC : cw_Cx p s m _ meth c cX1_init 3 RX1 D cy A := ⟨hx, hb, hml, hown, hts, hK, hNW, hA⟩
  have hl := lv_entry ([.ref h0, .int (90)]) (n := 3) (Nat.le_of_ble_eq_true rfl)
  rw [lg_entry_eq]
  generalize (lg_sl ([.ref h0, .int (90)]) ++ List.replicate (3 - (lg_sl ([.ref h0, .int (90)])).length) Slot.unset).toArray = ls at hl ⊢
  have hl : lv_has ls 3 [(0, .ref h0), (1, .int (90))] := hl
  refine lv_aload_n hx hb dX1_init_0 rfl (lv_at hl 0 rfl) ?_
  refine W.objInit hx hb hown (hts (.methodLink RX1 1 objectInit) (cd_m 1 71 rfl rfl)) (hts (.instanceMethod objectInit) (cd_m 1 29 rfl rfl)) (hts (.code objectInit ⟨#[0xb1]⟩ 1 none) (cd_m 1 30 rfl rfl)) rfl (by rw [hml]; exact hl.1) rfl dX1_init_1 (Nat.le_of_ble_eq_true rfl) (Nat.le_of_ble_eq_true rfl) ?_
  refine W.eq (g2 := F0 m 4 ls []) rfl ?_
  refine lv_aload_n hx hb dX1_init_4 rfl (lv_at hl 0 rfl) ?_
  refine lv_iconst (v := (0)) hx hb dX1_init_5 (by decide) ?_
  refine va_put (D := D) (ci := 1) (v := .int (0)) (ty := .int) (C := RX1) (T := TX1) (N := 4) hx hb hts cd_lay1 tyX1 tyX1_ok nmX1 hown hK hP hD hS 0 rfl rfl 2 (by decide) (hts (.fieldLink RX1 7 "CadenceDesk$Frames" "width" "I") (cd_m 1 77 rfl rfl)) (fun _ h9 => h9) rfl (by decide +kernel) rfl rfl (Nat.le_of_ble_eq_true rfl) dX1_init_6 (fun H locs hP hD hS => ?_)
  have hP : va_P D cd_cl [(h0, .inr (1, [.null, .null, .int (0), .int 0]))] H := hP
  have hD : va_D A [(h0, .inr (1, [.null, .null, .int (0), .int 0]))] := hD
  refine lv_aload_n hx hb dX1_init_9 rfl (lv_at hl 0 rfl) ?_
  refine lv_iconst (v := (0)) hx hb dX1_init_10 (by decide) ?_
  refine va_put (D := D) (ci := 1) (v := .int (0)) (ty := .int) (C := RX1) (T := TX1) (N := 4) hx hb hts cd_lay1 tyX1 tyX1_ok nmX1 hown hK hP hD hS 0 rfl rfl 3 (by decide) (hts (.fieldLink RX1 13 "CadenceDesk$Frames" "size" "I") (cd_m 1 78 rfl rfl)) (fun _ h9 => h9) rfl (by decide +kernel) rfl rfl (Nat.le_of_ble_eq_true rfl) dX1_init_11 (fun H locs hP hD hS => ?_)
  have hP : va_P D cd_cl [(h0, .inr (1, [.null, .null, .int (0), .int (0)]))] H := hP
  have hD : va_D A [(h0, .inr (1, [.null, .null, .int (0), .int (0)]))] := hD
  refine lv_iconst (v := (0)) hx hb dX1_init_14 (by decide) ?_
  refine lv_iload_n hx hb dX1_init_15 rfl (lv_at hl 1 rfl) ?_
  refine va_mmax hx hb (by rw [hml]; exact hl.1.symm) hown (hts (.methodLink RX1 16 Lib.Math.max.name) (cd_m 1 72 rfl rfl)) (hts _ cd_max1) (hts _ cd_math1) (hts _ cd_max2) (Nat.le_of_ble_eq_true rfl) (Nat.le_of_ble_eq_true rfl) (Nat.le_of_ble_eq_true rfl) (Nat.le_of_ble_eq_true rfl) dX1_init_16 ?_
  refine W.eq (g2 := F0 m 19 ls [.int (90)]) (by rw [show (if ((0 : Int32) < (90)) then ((90) : Int32) else (0)) = (90) from by decide]) ?_
  refine lv_istore_n (lv' := [(2, .int (90)), (0, .ref h0), (1, .int (90))]) hx hb dX1_init_19 rfl hl (by decide) rfl (fun ls hl => ?_)
  refine lv_aload_n hx hb dX1_init_20 rfl (lv_at hl 1 rfl) ?_
  refine lv_iload_n hx hb dX1_init_21 rfl (lv_at hl 0 rfl) ?_
  refine cw_newa (atype := .long) (ty := .long) hC rfl (cd_m 1 88 rfl rfl) 1 rfl (fun z => z) hP hD hS 90 (90, .inr (.inl (fun _ => 0))) (fun _ => rfl) (by decide) (by decide) (Nat.le_of_ble_eq_true rfl) (Nat.le_of_ble_eq_true rfl) (Nat.le_of_ble_eq_true rfl) dX1_init_22 (fun q22 H hP hD hS => ?_)
  have hP : va_P D cd_cl [(h0, .inr (1, [.null, .null, .int (0), .int (0)])), (q22, .inl (cy 1, 90, .inr (.inl (fun _ => 0))))] H := hP
  have hD : va_D A [(h0, .inr (1, [.null, .null, .int (0), .int (0)])), (q22, .inl (cy 1, 90, .inr (.inl (fun _ => 0))))] := hD
  refine W.widen (k := 1) (n := 90) (by omega) (by omega) ?_
  refine va_putF (D := D) (ci := 1) (v := .ref q22) (ty := (.array .long)) (C := RX1) (T := TX1) (N := 4) hx hb hts cd_lay1 tyX1 tyX1_ok nmX1 hown hK hP hD hS 0 rfl rfl 0 (by decide) (hts (.fieldLink RX1 22 "CadenceDesk$Frames" "tops" "[J") (cd_m 1 75 rfl rfl)) (fun _ h9 => h9) rfl hin rfl (by decide +kernel) rfl rfl (Nat.le_of_ble_eq_true rfl) dX1_init_24 (fun H locs hP hD hS => ?_)
  have hP : va_P D cd_cl [(h0, .inr (1, [.ref q22, .null, .int (0), .int (0)])), (q22, .inl (cy 1, 90, .inr (.inl (fun _ => 0))))] H := hP
  have hD : va_D A [(h0, .inr (1, [.ref q22, .null, .int (0), .int (0)])), (q22, .inl (cy 1, 90, .inr (.inl (fun _ => 0))))] := hD
  refine lv_aload_n hx hb dX1_init_27 rfl (lv_at hl 1 rfl) ?_
  refine lv_iload_n hx hb dX1_init_28 rfl (lv_at hl 0 rfl) ?_
  refine cw_newa (atype := .long) (ty := .long) hC rfl (cd_m 1 88 rfl rfl) 1 rfl (fun z => z) hP hD hS 90 (90, .inr (.inl (fun _ => 0))) (fun _ => rfl) (by decide) (by decide) (Nat.le_of_ble_eq_true rfl) (Nat.le_of_ble_eq_true rfl) (Nat.le_of_ble_eq_true rfl) dX1_init_29 (fun q29 H hP hD hS => ?_)
  have hP : va_P D cd_cl [(h0, .inr (1, [.ref q22, .null, .int (0), .int (0)])), (q22, .inl (cy 1, 90, .inr (.inl (fun _ => 0)))), (q29, .inl (cy 1, 90, .inr (.inl (fun _ => 0))))] H := hP
  have hD : va_D A [(h0, .inr (1, [.ref q22, .null, .int (0), .int (0)])), (q22, .inl (cy 1, 90, .inr (.inl (fun _ => 0)))), (q29, .inl (cy 1, 90, .inr (.inl (fun _ => 0))))] := hD
  refine W.widen (k := 2) (n := 180) (by omega) (by omega) ?_
  refine va_putF (D := D) (ci := 1) (v := .ref q29) (ty := (.array .long)) (C := RX1) (T := TX1) (N := 4) hx hb hts cd_lay1 tyX1 tyX1_ok nmX1 hown hK hP hD hS 0 rfl rfl 1 (by decide) (hts (.fieldLink RX1 26 "CadenceDesk$Frames" "bottoms" "[J") (cd_m 1 76 rfl rfl)) (fun _ h9 => h9) rfl hin rfl (by decide +kernel) rfl rfl (Nat.le_of_ble_eq_true rfl) dX1_init_31 (fun H locs hP hD hS => ?_)
  have hP : va_P D cd_cl [(h0, .inr (1, [.ref q22, .ref q29, .int (0), .int (0)])), (q22, .inl (cy 1, 90, .inr (.inl (fun _ => 0)))), (q29, .inl (cy 1, 90, .inr (.inl (fun _ => 0))))] H := hP
  have hD : va_D A [(h0, .inr (1, [.ref q22, .ref q29, .int (0), .int (0)])), (q22, .inl (cy 1, 90, .inr (.inl (fun _ => 0)))), (q29, .inl (cy 1, 90, .inr (.inl (fun _ => 0))))] := hD
  have hP9 := hP.sub (ws' := [(h0, .inr (1, [.ref q22, .ref q29, .int (0), .int (0)])), (q22, .inl (cy 1, 90, .inr (.inl (fun _ => 0)))), (q29, .inl (cy 1, 90, .inr (.inl (fun _ => 0))))]) [0, 1, 2] rfl
  have hD9 := hD.sub (ws' := [(h0, .inr (1, [.ref q22, .ref q29, .int (0), .int (0)])), (q22, .inl (cy 1, 90, .inr (.inl (fun _ => 0)))), (q29, .inl (cy 1, 90, .inr (.inl (fun _ => 0))))]) [0, 1, 2] (by decide) rfl
  exact W.vret hx hb hr (fun t ht hW => ⟨⟨rfl, q22, q29, by rw [ht]; exact hP9, va_K.moved hW.alike hK, hD9⟩, hS.F ht⟩) hS.2.2 dX1_init_34
theorem dX2_init_0 : decode cX2_init 0 = .ok (.aload_n 0, 1) := by decide +kernel
theorem dX2_init_1 : decode cX2_init 1 = .ok (.invokespecial 3, 3) := by decide +kernel
theorem dX2_init_4 : decode cX2_init 4 = .ok (.aload_n 0, 1) := by decide +kernel
theorem dX2_init_5 : decode cX2_init 5 = .ok (.bipush 90, 2) := by decide +kernel
theorem dX2_init_7 : decode cX2_init 7 = .ok (.newarray .int, 2) := by decide +kernel
theorem dX2_init_9 : decode cX2_init 9 = .ok (.putfield 9, 3) := by decide +kernel
theorem dX2_init_12 : decode cX2_init 12 = .ok (.aload_n 0, 1) := by decide +kernel
theorem dX2_init_13 : decode cX2_init 13 = .ok (.bipush 90, 2) := by decide +kernel
theorem dX2_init_15 : decode cX2_init 15 = .ok (.newarray .int, 2) := by decide +kernel
theorem dX2_init_17 : decode cX2_init 17 = .ok (.putfield 15, 3) := by decide +kernel
theorem dX2_init_20 : decode cX2_init 20 = .ok (.aload_n 0, 1) := by decide +kernel
theorem dX2_init_21 : decode cX2_init 21 = .ok (.bipush 90, 2) := by decide +kernel
theorem dX2_init_23 : decode cX2_init 23 = .ok (.newarray .int, 2) := by decide +kernel
theorem dX2_init_25 : decode cX2_init 25 = .ok (.putfield 18, 3) := by decide +kernel
theorem dX2_init_28 : decode cX2_init 28 = .ok (.aload_n 0, 1) := by decide +kernel
theorem dX2_init_29 : decode cX2_init 29 = .ok (.bipush 90, 2) := by decide +kernel
theorem dX2_init_31 : decode cX2_init 31 = .ok (.newarray .int, 2) := by decide +kernel
theorem dX2_init_33 : decode cX2_init 33 = .ok (.putfield 21, 3) := by decide +kernel
theorem dX2_init_36 : decode cX2_init 36 = .ok (.aload_n 0, 1) := by decide +kernel
theorem dX2_init_37 : decode cX2_init 37 = .ok (.bipush 90, 2) := by decide +kernel
theorem dX2_init_39 : decode cX2_init 39 = .ok (.newarray .int, 2) := by decide +kernel
theorem dX2_init_41 : decode cX2_init 41 = .ok (.putfield 24, 3) := by decide +kernel
theorem dX2_init_44 : decode cX2_init 44 = .ok (.aload_n 0, 1) := by decide +kernel
theorem dX2_init_45 : decode cX2_init 45 = .ok (.new 27, 3) := by decide +kernel
theorem dX2_init_48 : decode cX2_init 48 = .ok (.dup, 1) := by decide +kernel
theorem dX2_init_49 : decode cX2_init 49 = .ok (.bipush 90, 2) := by decide +kernel
theorem dX2_init_51 : decode cX2_init 51 = .ok (.invokespecial 29, 3) := by decide +kernel
theorem dX2_init_54 : decode cX2_init 54 = .ok (.putfield 32, 3) := by decide +kernel
theorem dX2_init_57 : decode cX2_init 57 = .ok (.aload_n 0, 1) := by decide +kernel
theorem dX2_init_58 : decode cX2_init 58 = .ok (.iconst 0, 1) := by decide +kernel
theorem dX2_init_59 : decode cX2_init 59 = .ok (.putfield 36, 3) := by decide +kernel
theorem dX2_init_62 : decode cX2_init 62 = .ok (.aload_n 0, 1) := by decide +kernel
theorem dX2_init_63 : decode cX2_init 63 = .ok (.iconst 0, 1) := by decide +kernel
theorem dX2_init_64 : decode cX2_init 64 = .ok (.putfield 40, 3) := by decide +kernel
theorem dX2_init_67 : decode cX2_init 67 = .ok (.aload_n 0, 1) := by decide +kernel
theorem dX2_init_68 : decode cX2_init 68 = .ok (.iconst 0, 1) := by decide +kernel
theorem dX2_init_69 : decode cX2_init 69 = .ok (.putfield 43, 3) := by decide +kernel
theorem dX2_init_72 : decode cX2_init 72 = .ok (.return_, 1) := by decide +kernel
set_option maxHeartbeats 800000 in
set_option maxRecDepth 100000 in
theorem cw_X2_init (l : Launch) (D : va_G) (cy : Nat → ClassId) (h0 : Nat) (sz : Nat) : Met l yX2_init (cw_ws yX2_init cX2_init 1) ({ frames := 2, cells := 8, slots := 634, locals := 44 }) (cw_Pc D cy [.ref h0] [(h0, .inr (2, [.null, .null, .null, .null, .null, .null, .int 0, .int 0, .int 0]))] sz) (cw_Q (va_A [(h0, .inr (2, [.null, .null, .null, .null, .null, .null, .int 0, .int 0, .int 0]))] sz) (fun t => ∃ q7 q15 q23 q31 q39 q45 q51_q22 q51_q29 : Nat, cw_B D cy (va_A [(h0, .inr (2, [.null, .null, .null, .null, .null, .null, .int 0, .int 0, .int 0]))] sz) [(h0, .inr (2, [.ref q7, .ref q15, .ref q23, .ref q31, .ref q39, .ref q45, .int (0), .int (0), .int (0)])), (q7, .inl (cy 0, 90, .inl (fun _ => 0))), (q15, .inl (cy 0, 90, .inl (fun _ => 0))), (q23, .inl (cy 0, 90, .inl (fun _ => 0))), (q31, .inl (cy 0, 90, .inl (fun _ => 0))), (q39, .inl (cy 0, 90, .inl (fun _ => 0))), (q45, .inr (1, [.ref q51_q22, .ref q51_q29, .int (0), .int (0)])), (q51_q22, .inl (cy 1, 90, .inr (.inl (fun _ => 0)))), (q51_q29, .inl (cy 1, 90, .inr (.inl (fun _ => 0))))] t)) 8 634 (va_A [(h0, .inr (2, [.null, .null, .null, .null, .null, .null, .int 0, .int 0, .int 0]))] sz) := by
  refine Met.ofW (cc := cX2_init) (maxL := 1) (ret := none) (by decide) rfl ?_
  intro p e s m args below meth c s₁ B hml hv
  obtain ⟨rfl, hsz, hP, hK, hD0, hNW⟩ := hv
  have hx := B.exec
  have hb := B.bytes
  have hr := B.returns
  have hts : ∀ w ∈ cd_big, w.before _ s = true := fun w hw => atoms_spec (ws := cw_ws yX2_init cX2_init 1) B.pre w (List.mem_cons_of_mem _ hw)
  have hown : s.vm.findClass RX2 = some m.cls := findClass_of_methodNamed B.named
  have hlocks := B.notSynchronized
  have hin : meth.name = "<init>" := (name_of_methodNamed B.named B.method).1
  subst hsz
  have hD := hD0.self (sz := s.heap.size)
  generalize hAe : va_A [(h0, .inr (2, [.null, .null, .null, .null, .null, .null, .int 0, .int 0, .int 0]))] s.heap.size = A at hD ⊢
  have hA : ∀ q : Nat, s.heap.size ≤ q → A q := fun q h => by rw [← hAe]; exact Or.inr h
  have hS : va_S A s.heap s.heap [] := va_S.rf
  have hP : va_P D cd_cl [(h0, .inr (2, [.null, .null, .null, .null, .null, .null, .int 0, .int 0, .int 0]))] s.heap := hP
  have hC : cw_Cx p s m _ meth c cX2_init 1 RX2 D cy A := ⟨hx, hb, hml, hown, hts, hK, hNW, hA⟩
  have hl := lv_entry ([.ref h0]) (n := 1) (Nat.le_of_ble_eq_true rfl)
  rw [lg_entry_eq]
  generalize (lg_sl ([.ref h0]) ++ List.replicate (1 - (lg_sl ([.ref h0])).length) Slot.unset).toArray = ls at hl ⊢
  have hl : lv_has ls 1 [(0, .ref h0)] := hl
  refine lv_aload_n hx hb dX2_init_0 rfl (lv_at hl 0 rfl) ?_
  refine W.objInit hx hb hown (hts (.methodLink RX2 3 objectInit) (cd_m 2 39 rfl rfl)) (hts (.instanceMethod objectInit) (cd_m 1 29 rfl rfl)) (hts (.code objectInit ⟨#[0xb1]⟩ 1 none) (cd_m 1 30 rfl rfl)) rfl (by rw [hml]; exact hl.1) rfl dX2_init_1 (Nat.le_of_ble_eq_true rfl) (Nat.le_of_ble_eq_true rfl) ?_
  refine W.eq (g2 := F0 m 4 ls []) rfl ?_
  refine lv_aload_n hx hb dX2_init_4 rfl (lv_at hl 0 rfl) ?_
  refine lv_bipush (v := (90)) hx hb dX2_init_5 (by decide) ?_
  refine cw_newa (atype := .int) (ty := .int) hC rfl (cd_m 1 65 rfl rfl) 0 rfl (fun z => z) hP hD hS 90 (90, .inl (fun _ => 0)) (fun _ => rfl) (by decide) (by decide) (Nat.le_of_ble_eq_true rfl) (Nat.le_of_ble_eq_true rfl) (Nat.le_of_ble_eq_true rfl) dX2_init_7 (fun q7 H hP hD hS => ?_)
  have hP : va_P D cd_cl [(h0, .inr (2, [.null, .null, .null, .null, .null, .null, .int 0, .int 0, .int 0])), (q7, .inl (cy 0, 90, .inl (fun _ => 0)))] H := hP
  have hD : va_D A [(h0, .inr (2, [.null, .null, .null, .null, .null, .null, .int 0, .int 0, .int 0])), (q7, .inl (cy 0, 90, .inl (fun _ => 0)))] := hD
  refine W.widen (k := 1) (n := 90) (by omega) (by omega) ?_
  refine va_putF (D := D) (ci := 2) (v := .ref q7) (ty := (.array .int)) (C := RX2) (T := TX2) (N := 9) hx hb hts cd_lay2 tyX2 tyX2_ok nmX2 hown hK hP hD hS 0 rfl rfl 0 (by decide) (hts (.fieldLink RX2 9 "CadenceDesk$Groups" "groupsOf" "[I") (cd_m 2 42 rfl rfl)) (fun _ h9 => h9) rfl hin rfl (by decide +kernel) rfl rfl (Nat.le_of_ble_eq_true rfl) dX2_init_9 (fun H locs hP hD hS => ?_)
  have hP : va_P D cd_cl [(h0, .inr (2, [.ref q7, .null, .null, .null, .null, .null, .int 0, .int 0, .int 0])), (q7, .inl (cy 0, 90, .inl (fun _ => 0)))] H := hP
  have hD : va_D A [(h0, .inr (2, [.ref q7, .null, .null, .null, .null, .null, .int 0, .int 0, .int 0])), (q7, .inl (cy 0, 90, .inl (fun _ => 0)))] := hD
  refine lv_aload_n hx hb dX2_init_12 rfl (lv_at hl 0 rfl) ?_
  refine lv_bipush (v := (90)) hx hb dX2_init_13 (by decide) ?_
  refine cw_newa (atype := .int) (ty := .int) hC rfl (cd_m 1 65 rfl rfl) 0 rfl (fun z => z) hP hD hS 90 (90, .inl (fun _ => 0)) (fun _ => rfl) (by decide) (by decide) (Nat.le_of_ble_eq_true rfl) (Nat.le_of_ble_eq_true rfl) (Nat.le_of_ble_eq_true rfl) dX2_init_15 (fun q15 H hP hD hS => ?_)
  have hP : va_P D cd_cl [(h0, .inr (2, [.ref q7, .null, .null, .null, .null, .null, .int 0, .int 0, .int 0])), (q7, .inl (cy 0, 90, .inl (fun _ => 0))), (q15, .inl (cy 0, 90, .inl (fun _ => 0)))] H := hP
  have hD : va_D A [(h0, .inr (2, [.ref q7, .null, .null, .null, .null, .null, .int 0, .int 0, .int 0])), (q7, .inl (cy 0, 90, .inl (fun _ => 0))), (q15, .inl (cy 0, 90, .inl (fun _ => 0)))] := hD
  refine W.widen (k := 2) (n := 180) (by omega) (by omega) ?_
  refine va_putF (D := D) (ci := 2) (v := .ref q15) (ty := (.array .int)) (C := RX2) (T := TX2) (N := 9) hx hb hts cd_lay2 tyX2 tyX2_ok nmX2 hown hK hP hD hS 0 rfl rfl 1 (by decide) (hts (.fieldLink RX2 15 "CadenceDesk$Groups" "starts" "[I") (cd_m 2 43 rfl rfl)) (fun _ h9 => h9) rfl hin rfl (by decide +kernel) rfl rfl (Nat.le_of_ble_eq_true rfl) dX2_init_17 (fun H locs hP hD hS => ?_)
  have hP : va_P D cd_cl [(h0, .inr (2, [.ref q7, .ref q15, .null, .null, .null, .null, .int 0, .int 0, .int 0])), (q7, .inl (cy 0, 90, .inl (fun _ => 0))), (q15, .inl (cy 0, 90, .inl (fun _ => 0)))] H := hP
  have hD : va_D A [(h0, .inr (2, [.ref q7, .ref q15, .null, .null, .null, .null, .int 0, .int 0, .int 0])), (q7, .inl (cy 0, 90, .inl (fun _ => 0))), (q15, .inl (cy 0, 90, .inl (fun _ => 0)))] := hD
  refine lv_aload_n hx hb dX2_init_20 rfl (lv_at hl 0 rfl) ?_
  refine lv_bipush (v := (90)) hx hb dX2_init_21 (by decide) ?_
  refine cw_newa (atype := .int) (ty := .int) hC rfl (cd_m 1 65 rfl rfl) 0 rfl (fun z => z) hP hD hS 90 (90, .inl (fun _ => 0)) (fun _ => rfl) (by decide) (by decide) (Nat.le_of_ble_eq_true rfl) (Nat.le_of_ble_eq_true rfl) (Nat.le_of_ble_eq_true rfl) dX2_init_23 (fun q23 H hP hD hS => ?_)
  have hP : va_P D cd_cl [(h0, .inr (2, [.ref q7, .ref q15, .null, .null, .null, .null, .int 0, .int 0, .int 0])), (q7, .inl (cy 0, 90, .inl (fun _ => 0))), (q15, .inl (cy 0, 90, .inl (fun _ => 0))), (q23, .inl (cy 0, 90, .inl (fun _ => 0)))] H := hP
  have hD : va_D A [(h0, .inr (2, [.ref q7, .ref q15, .null, .null, .null, .null, .int 0, .int 0, .int 0])), (q7, .inl (cy 0, 90, .inl (fun _ => 0))), (q15, .inl (cy 0, 90, .inl (fun _ => 0))), (q23, .inl (cy 0, 90, .inl (fun _ => 0)))] := hD
  refine W.widen (k := 3) (n := 270) (by omega) (by omega) ?_
  refine va_putF (D := D) (ci := 2) (v := .ref q23) (ty := (.array .int)) (C := RX2) (T := TX2) (N := 9) hx hb hts cd_lay2 tyX2 tyX2_ok nmX2 hown hK hP hD hS 0 rfl rfl 2 (by decide) (hts (.fieldLink RX2 18 "CadenceDesk$Groups" "lengths" "[I") (cd_m 2 44 rfl rfl)) (fun _ h9 => h9) rfl hin rfl (by decide +kernel) rfl rfl (Nat.le_of_ble_eq_true rfl) dX2_init_25 (fun H locs hP hD hS => ?_)
  have hP : va_P D cd_cl [(h0, .inr (2, [.ref q7, .ref q15, .ref q23, .null, .null, .null, .int 0, .int 0, .int 0])), (q7, .inl (cy 0, 90, .inl (fun _ => 0))), (q15, .inl (cy 0, 90, .inl (fun _ => 0))), (q23, .inl (cy 0, 90, .inl (fun _ => 0)))] H := hP
  have hD : va_D A [(h0, .inr (2, [.ref q7, .ref q15, .ref q23, .null, .null, .null, .int 0, .int 0, .int 0])), (q7, .inl (cy 0, 90, .inl (fun _ => 0))), (q15, .inl (cy 0, 90, .inl (fun _ => 0))), (q23, .inl (cy 0, 90, .inl (fun _ => 0)))] := hD
  refine lv_aload_n hx hb dX2_init_28 rfl (lv_at hl 0 rfl) ?_
  refine lv_bipush (v := (90)) hx hb dX2_init_29 (by decide) ?_
  refine cw_newa (atype := .int) (ty := .int) hC rfl (cd_m 1 65 rfl rfl) 0 rfl (fun z => z) hP hD hS 90 (90, .inl (fun _ => 0)) (fun _ => rfl) (by decide) (by decide) (Nat.le_of_ble_eq_true rfl) (Nat.le_of_ble_eq_true rfl) (Nat.le_of_ble_eq_true rfl) dX2_init_31 (fun q31 H hP hD hS => ?_)
  have hP : va_P D cd_cl [(h0, .inr (2, [.ref q7, .ref q15, .ref q23, .null, .null, .null, .int 0, .int 0, .int 0])), (q7, .inl (cy 0, 90, .inl (fun _ => 0))), (q15, .inl (cy 0, 90, .inl (fun _ => 0))), (q23, .inl (cy 0, 90, .inl (fun _ => 0))), (q31, .inl (cy 0, 90, .inl (fun _ => 0)))] H := hP
  have hD : va_D A [(h0, .inr (2, [.ref q7, .ref q15, .ref q23, .null, .null, .null, .int 0, .int 0, .int 0])), (q7, .inl (cy 0, 90, .inl (fun _ => 0))), (q15, .inl (cy 0, 90, .inl (fun _ => 0))), (q23, .inl (cy 0, 90, .inl (fun _ => 0))), (q31, .inl (cy 0, 90, .inl (fun _ => 0)))] := hD
  refine W.widen (k := 4) (n := 360) (by omega) (by omega) ?_
  refine va_putF (D := D) (ci := 2) (v := .ref q31) (ty := (.array .int)) (C := RX2) (T := TX2) (N := 9) hx hb hts cd_lay2 tyX2 tyX2_ok nmX2 hown hK hP hD hS 0 rfl rfl 3 (by decide) (hts (.fieldLink RX2 21 "CadenceDesk$Groups" "mates" "[I") (cd_m 2 45 rfl rfl)) (fun _ h9 => h9) rfl hin rfl (by decide +kernel) rfl rfl (Nat.le_of_ble_eq_true rfl) dX2_init_33 (fun H locs hP hD hS => ?_)
  have hP : va_P D cd_cl [(h0, .inr (2, [.ref q7, .ref q15, .ref q23, .ref q31, .null, .null, .int 0, .int 0, .int 0])), (q7, .inl (cy 0, 90, .inl (fun _ => 0))), (q15, .inl (cy 0, 90, .inl (fun _ => 0))), (q23, .inl (cy 0, 90, .inl (fun _ => 0))), (q31, .inl (cy 0, 90, .inl (fun _ => 0)))] H := hP
  have hD : va_D A [(h0, .inr (2, [.ref q7, .ref q15, .ref q23, .ref q31, .null, .null, .int 0, .int 0, .int 0])), (q7, .inl (cy 0, 90, .inl (fun _ => 0))), (q15, .inl (cy 0, 90, .inl (fun _ => 0))), (q23, .inl (cy 0, 90, .inl (fun _ => 0))), (q31, .inl (cy 0, 90, .inl (fun _ => 0)))] := hD
  refine lv_aload_n hx hb dX2_init_36 rfl (lv_at hl 0 rfl) ?_
  refine lv_bipush (v := (90)) hx hb dX2_init_37 (by decide) ?_
  refine cw_newa (atype := .int) (ty := .int) hC rfl (cd_m 1 65 rfl rfl) 0 rfl (fun z => z) hP hD hS 90 (90, .inl (fun _ => 0)) (fun _ => rfl) (by decide) (by decide) (Nat.le_of_ble_eq_true rfl) (Nat.le_of_ble_eq_true rfl) (Nat.le_of_ble_eq_true rfl) dX2_init_39 (fun q39 H hP hD hS => ?_)
  have hP : va_P D cd_cl [(h0, .inr (2, [.ref q7, .ref q15, .ref q23, .ref q31, .null, .null, .int 0, .int 0, .int 0])), (q7, .inl (cy 0, 90, .inl (fun _ => 0))), (q15, .inl (cy 0, 90, .inl (fun _ => 0))), (q23, .inl (cy 0, 90, .inl (fun _ => 0))), (q31, .inl (cy 0, 90, .inl (fun _ => 0))), (q39, .inl (cy 0, 90, .inl (fun _ => 0)))] H := hP
  have hD : va_D A [(h0, .inr (2, [.ref q7, .ref q15, .ref q23, .ref q31, .null, .null, .int 0, .int 0, .int 0])), (q7, .inl (cy 0, 90, .inl (fun _ => 0))), (q15, .inl (cy 0, 90, .inl (fun _ => 0))), (q23, .inl (cy 0, 90, .inl (fun _ => 0))), (q31, .inl (cy 0, 90, .inl (fun _ => 0))), (q39, .inl (cy 0, 90, .inl (fun _ => 0)))] := hD
  refine W.widen (k := 5) (n := 450) (by omega) (by omega) ?_
  refine va_putF (D := D) (ci := 2) (v := .ref q39) (ty := (.array .int)) (C := RX2) (T := TX2) (N := 9) hx hb hts cd_lay2 tyX2 tyX2_ok nmX2 hown hK hP hD hS 0 rfl rfl 4 (by decide) (hts (.fieldLink RX2 24 "CadenceDesk$Groups" "framesOf" "[I") (cd_m 2 46 rfl rfl)) (fun _ h9 => h9) rfl hin rfl (by decide +kernel) rfl rfl (Nat.le_of_ble_eq_true rfl) dX2_init_41 (fun H locs hP hD hS => ?_)
  have hP : va_P D cd_cl [(h0, .inr (2, [.ref q7, .ref q15, .ref q23, .ref q31, .ref q39, .null, .int 0, .int 0, .int 0])), (q7, .inl (cy 0, 90, .inl (fun _ => 0))), (q15, .inl (cy 0, 90, .inl (fun _ => 0))), (q23, .inl (cy 0, 90, .inl (fun _ => 0))), (q31, .inl (cy 0, 90, .inl (fun _ => 0))), (q39, .inl (cy 0, 90, .inl (fun _ => 0)))] H := hP
  have hD : va_D A [(h0, .inr (2, [.ref q7, .ref q15, .ref q23, .ref q31, .ref q39, .null, .int 0, .int 0, .int 0])), (q7, .inl (cy 0, 90, .inl (fun _ => 0))), (q15, .inl (cy 0, 90, .inl (fun _ => 0))), (q23, .inl (cy 0, 90, .inl (fun _ => 0))), (q31, .inl (cy 0, 90, .inl (fun _ => 0))), (q39, .inl (cy 0, 90, .inl (fun _ => 0)))] := hD
  refine lv_aload_n hx hb dX2_init_44 rfl (lv_at hl 0 rfl) ?_
  refine va_new (ci := 1) (fs := [.null, .null, .int 0, .int 0]) (C := RX1) (T := TX1) (N := 4) hx hb hts cd_lay1 tyX1 tyX1_ok hown (hts (.classLink RX2 27 RX1) (cd_m 2 40 rfl rfl)) (hts (.instantiable RX1 4) (cd_m 1 67 rfl rfl)) (hts (.initialized RX1) (cd_m 1 4 rfl rfl)) hK hP hD hS hA rfl (fun j hj => by rcases (show j = 0 ∨ j = 1 ∨ j = 2 ∨ j = 3 by omega) with rfl | rfl | rfl | rfl <;> rfl) (Nat.le_of_ble_eq_true rfl) (Nat.le_of_ble_eq_true rfl) dX2_init_45 (fun q45 H hP hD hS => ?_)
  have hP : va_P D cd_cl [(h0, .inr (2, [.ref q7, .ref q15, .ref q23, .ref q31, .ref q39, .null, .int 0, .int 0, .int 0])), (q7, .inl (cy 0, 90, .inl (fun _ => 0))), (q15, .inl (cy 0, 90, .inl (fun _ => 0))), (q23, .inl (cy 0, 90, .inl (fun _ => 0))), (q31, .inl (cy 0, 90, .inl (fun _ => 0))), (q39, .inl (cy 0, 90, .inl (fun _ => 0))), (q45, .inr (1, [.null, .null, .int 0, .int 0]))] H := hP
  have hD : va_D A [(h0, .inr (2, [.ref q7, .ref q15, .ref q23, .ref q31, .ref q39, .null, .int 0, .int 0, .int 0])), (q7, .inl (cy 0, 90, .inl (fun _ => 0))), (q15, .inl (cy 0, 90, .inl (fun _ => 0))), (q23, .inl (cy 0, 90, .inl (fun _ => 0))), (q31, .inl (cy 0, 90, .inl (fun _ => 0))), (q39, .inl (cy 0, 90, .inl (fun _ => 0))), (q45, .inr (1, [.null, .null, .int 0, .int 0]))] := hD
  refine W.widen (k := 6) (n := 454) (by omega) (by omega) ?_
  refine lv_dup hx hb dX2_init_48 rfl ?_
  refine lv_bipush (v := (90)) hx hb dX2_init_49 (by decide) ?_
  have hPc := hP.sub (ws' := [(q45, .inr (1, [.null, .null, .int 0, .int 0]))]) [6] rfl
  have hDc := hD.sub (ws' := [(q45, .inr (1, [.null, .null, .int 0, .int 0]))]) [6] (by decide) rfl
  refine cw_after (cy := cy) (wc := [(q45, .inr (1, [.null, .null, .int 0, .int 0]))]) (wr := [(h0, .inr (2, [.ref q7, .ref q15, .ref q23, .ref q31, .ref q39, .null, .int 0, .int 0, .int 0])), (q7, .inl (cy 0, 90, .inl (fun _ => 0))), (q15, .inl (cy 0, 90, .inl (fun _ => 0))), (q23, .inl (cy 0, 90, .inl (fun _ => 0))), (q31, .inl (cy 0, 90, .inl (fun _ => 0))), (q39, .inl (cy 0, 90, .inl (fun _ => 0)))]) hP hD hA [6] [0, 1, 2, 3, 4, 5] rfl rfl (by decide) (by decide) hS (va_runI (As := [.int (90)]) (rest := [.ref q45, .ref h0]) (nL := 1) (Ts := cd_big) (own := RX2) ⟨hx, hb, hml, hown, hts⟩ (cw_X1_init_90 l D cy q45 H.size) (cwI 1 hts (cw_good (cd_m 1 70 rfl rfl)) rfl rfl rfl (hts (.initialized RX1) (cd_m 1 4 rfl rfl)) (hts (.methodLink RX2 29 yX1_init) (cd_m 2 41 rfl rfl)) (hts (.instanceMethod yX1_init) (cd_m 1 69 rfl rfl)) rfl (by decide +kernel) ⟨Nat.le_of_ble_eq_true rfl, Nat.le_of_ble_eq_true rfl⟩) ⟨cw_blind _ _ _, cw_pre hC hPc hDc rfl⟩ rfl rfl hl.1 rfl (lv_room (Nat.le_of_ble_eq_true rfl)) dX2_init_51 ⟨Nat.le_of_ble_eq_true rfl, Nat.le_of_ble_eq_true rfl⟩) (fun t H locs ht hB hJ hS => ?_)
  obtain ⟨q51_q22, q51_q29, hB⟩ := hB
  obtain ⟨hP, hD⟩ := hJ _ hB
  have hP : va_P D cd_cl [(h0, .inr (2, [.ref q7, .ref q15, .ref q23, .ref q31, .ref q39, .null, .int 0, .int 0, .int 0])), (q7, .inl (cy 0, 90, .inl (fun _ => 0))), (q15, .inl (cy 0, 90, .inl (fun _ => 0))), (q23, .inl (cy 0, 90, .inl (fun _ => 0))), (q31, .inl (cy 0, 90, .inl (fun _ => 0))), (q39, .inl (cy 0, 90, .inl (fun _ => 0))), (q45, .inr (1, [.ref q51_q22, .ref q51_q29, .int (0), .int (0)])), (q51_q22, .inl (cy 1, 90, .inr (.inl (fun _ => 0)))), (q51_q29, .inl (cy 1, 90, .inr (.inl (fun _ => 0))))] H := hP
  have hD : va_D A [(h0, .inr (2, [.ref q7, .ref q15, .ref q23, .ref q31, .ref q39, .null, .int 0, .int 0, .int 0])), (q7, .inl (cy 0, 90, .inl (fun _ => 0))), (q15, .inl (cy 0, 90, .inl (fun _ => 0))), (q23, .inl (cy 0, 90, .inl (fun _ => 0))), (q31, .inl (cy 0, 90, .inl (fun _ => 0))), (q39, .inl (cy 0, 90, .inl (fun _ => 0))), (q45, .inr (1, [.ref q51_q22, .ref q51_q29, .int (0), .int (0)])), (q51_q22, .inl (cy 1, 90, .inr (.inl (fun _ => 0)))), (q51_q29, .inl (cy 1, 90, .inr (.inl (fun _ => 0))))] := hD
  refine W.widen (k := 8) (n := 634) (by omega) (by omega) ?_
  refine va_putF (D := D) (ci := 2) (v := .ref q45) (ty := (.object "CadenceDesk$Frames")) (C := RX2) (T := TX2) (N := 9) hx hb hts cd_lay2 tyX2 tyX2_ok nmX2 hown hK hP hD hS 0 rfl rfl 5 (by decide) (hts (.fieldLink RX2 32 "CadenceDesk$Groups" "frames" "LCadenceDesk$Frames;") (cd_m 2 47 rfl rfl)) (fun _ h9 => h9) rfl hin rfl (by decide +kernel) rfl rfl (Nat.le_of_ble_eq_true rfl) dX2_init_54 (fun H locs hP hD hS => ?_)
  have hP : va_P D cd_cl [(h0, .inr (2, [.ref q7, .ref q15, .ref q23, .ref q31, .ref q39, .ref q45, .int 0, .int 0, .int 0])), (q7, .inl (cy 0, 90, .inl (fun _ => 0))), (q15, .inl (cy 0, 90, .inl (fun _ => 0))), (q23, .inl (cy 0, 90, .inl (fun _ => 0))), (q31, .inl (cy 0, 90, .inl (fun _ => 0))), (q39, .inl (cy 0, 90, .inl (fun _ => 0))), (q45, .inr (1, [.ref q51_q22, .ref q51_q29, .int (0), .int (0)])), (q51_q22, .inl (cy 1, 90, .inr (.inl (fun _ => 0)))), (q51_q29, .inl (cy 1, 90, .inr (.inl (fun _ => 0))))] H := hP
  have hD : va_D A [(h0, .inr (2, [.ref q7, .ref q15, .ref q23, .ref q31, .ref q39, .ref q45, .int 0, .int 0, .int 0])), (q7, .inl (cy 0, 90, .inl (fun _ => 0))), (q15, .inl (cy 0, 90, .inl (fun _ => 0))), (q23, .inl (cy 0, 90, .inl (fun _ => 0))), (q31, .inl (cy 0, 90, .inl (fun _ => 0))), (q39, .inl (cy 0, 90, .inl (fun _ => 0))), (q45, .inr (1, [.ref q51_q22, .ref q51_q29, .int (0), .int (0)])), (q51_q22, .inl (cy 1, 90, .inr (.inl (fun _ => 0)))), (q51_q29, .inl (cy 1, 90, .inr (.inl (fun _ => 0))))] := hD
  refine lv_aload_n hx hb dX2_init_57 rfl (lv_at hl 0 rfl) ?_
  refine lv_iconst (v := (0)) hx hb dX2_init_58 (by decide) ?_
  refine va_put (D := D) (ci := 2) (v := .int (0)) (ty := .int) (C := RX2) (T := TX2) (N := 9) hx hb hts cd_lay2 tyX2 tyX2_ok nmX2 hown hK hP hD hS 0 rfl rfl 6 (by decide) (hts (.fieldLink RX2 36 "CadenceDesk$Groups" "size" "I") (cd_m 2 48 rfl rfl)) (fun _ h9 => h9) rfl (by decide +kernel) rfl rfl (Nat.le_of_ble_eq_true rfl) dX2_init_59 (fun H locs hP hD hS => ?_)
  have hP : va_P D cd_cl [(h0, .inr (2, [.ref q7, .ref q15, .ref q23, .ref q31, .ref q39, .ref q45, .int (0), .int 0, .int 0])), (q7, .inl (cy 0, 90, .inl (fun _ => 0))), (q15, .inl (cy 0, 90, .inl (fun _ => 0))), (q23, .inl (cy 0, 90, .inl (fun _ => 0))), (q31, .inl (cy 0, 90, .inl (fun _ => 0))), (q39, .inl (cy 0, 90, .inl (fun _ => 0))), (q45, .inr (1, [.ref q51_q22, .ref q51_q29, .int (0), .int (0)])), (q51_q22, .inl (cy 1, 90, .inr (.inl (fun _ => 0)))), (q51_q29, .inl (cy 1, 90, .inr (.inl (fun _ => 0))))] H := hP
  have hD : va_D A [(h0, .inr (2, [.ref q7, .ref q15, .ref q23, .ref q31, .ref q39, .ref q45, .int (0), .int 0, .int 0])), (q7, .inl (cy 0, 90, .inl (fun _ => 0))), (q15, .inl (cy 0, 90, .inl (fun _ => 0))), (q23, .inl (cy 0, 90, .inl (fun _ => 0))), (q31, .inl (cy 0, 90, .inl (fun _ => 0))), (q39, .inl (cy 0, 90, .inl (fun _ => 0))), (q45, .inr (1, [.ref q51_q22, .ref q51_q29, .int (0), .int (0)])), (q51_q22, .inl (cy 1, 90, .inr (.inl (fun _ => 0)))), (q51_q29, .inl (cy 1, 90, .inr (.inl (fun _ => 0))))] := hD
  refine lv_aload_n hx hb dX2_init_62 rfl (lv_at hl 0 rfl) ?_
  refine lv_iconst (v := (0)) hx hb dX2_init_63 (by decide) ?_
  refine va_put (D := D) (ci := 2) (v := .int (0)) (ty := .int) (C := RX2) (T := TX2) (N := 9) hx hb hts cd_lay2 tyX2 tyX2_ok nmX2 hown hK hP hD hS 0 rfl rfl 7 (by decide) (hts (.fieldLink RX2 40 "CadenceDesk$Groups" "orphans" "I") (cd_m 2 49 rfl rfl)) (fun _ h9 => h9) rfl (by decide +kernel) rfl rfl (Nat.le_of_ble_eq_true rfl) dX2_init_64 (fun H locs hP hD hS => ?_)
  have hP : va_P D cd_cl [(h0, .inr (2, [.ref q7, .ref q15, .ref q23, .ref q31, .ref q39, .ref q45, .int (0), .int (0), .int 0])), (q7, .inl (cy 0, 90, .inl (fun _ => 0))), (q15, .inl (cy 0, 90, .inl (fun _ => 0))), (q23, .inl (cy 0, 90, .inl (fun _ => 0))), (q31, .inl (cy 0, 90, .inl (fun _ => 0))), (q39, .inl (cy 0, 90, .inl (fun _ => 0))), (q45, .inr (1, [.ref q51_q22, .ref q51_q29, .int (0), .int (0)])), (q51_q22, .inl (cy 1, 90, .inr (.inl (fun _ => 0)))), (q51_q29, .inl (cy 1, 90, .inr (.inl (fun _ => 0))))] H := hP
  have hD : va_D A [(h0, .inr (2, [.ref q7, .ref q15, .ref q23, .ref q31, .ref q39, .ref q45, .int (0), .int (0), .int 0])), (q7, .inl (cy 0, 90, .inl (fun _ => 0))), (q15, .inl (cy 0, 90, .inl (fun _ => 0))), (q23, .inl (cy 0, 90, .inl (fun _ => 0))), (q31, .inl (cy 0, 90, .inl (fun _ => 0))), (q39, .inl (cy 0, 90, .inl (fun _ => 0))), (q45, .inr (1, [.ref q51_q22, .ref q51_q29, .int (0), .int (0)])), (q51_q22, .inl (cy 1, 90, .inr (.inl (fun _ => 0)))), (q51_q29, .inl (cy 1, 90, .inr (.inl (fun _ => 0))))] := hD
  refine lv_aload_n hx hb dX2_init_67 rfl (lv_at hl 0 rfl) ?_
  refine lv_iconst (v := (0)) hx hb dX2_init_68 (by decide) ?_
  refine va_put (D := D) (ci := 2) (v := .int (0)) (ty := .int) (C := RX2) (T := TX2) (N := 9) hx hb hts cd_lay2 tyX2 tyX2_ok nmX2 hown hK hP hD hS 0 rfl rfl 8 (by decide) (hts (.fieldLink RX2 43 "CadenceDesk$Groups" "pairs" "I") (cd_m 2 50 rfl rfl)) (fun _ h9 => h9) rfl (by decide +kernel) rfl rfl (Nat.le_of_ble_eq_true rfl) dX2_init_69 (fun H locs hP hD hS => ?_)
  have hP : va_P D cd_cl [(h0, .inr (2, [.ref q7, .ref q15, .ref q23, .ref q31, .ref q39, .ref q45, .int (0), .int (0), .int (0)])), (q7, .inl (cy 0, 90, .inl (fun _ => 0))), (q15, .inl (cy 0, 90, .inl (fun _ => 0))), (q23, .inl (cy 0, 90, .inl (fun _ => 0))), (q31, .inl (cy 0, 90, .inl (fun _ => 0))), (q39, .inl (cy 0, 90, .inl (fun _ => 0))), (q45, .inr (1, [.ref q51_q22, .ref q51_q29, .int (0), .int (0)])), (q51_q22, .inl (cy 1, 90, .inr (.inl (fun _ => 0)))), (q51_q29, .inl (cy 1, 90, .inr (.inl (fun _ => 0))))] H := hP
  have hD : va_D A [(h0, .inr (2, [.ref q7, .ref q15, .ref q23, .ref q31, .ref q39, .ref q45, .int (0), .int (0), .int (0)])), (q7, .inl (cy 0, 90, .inl (fun _ => 0))), (q15, .inl (cy 0, 90, .inl (fun _ => 0))), (q23, .inl (cy 0, 90, .inl (fun _ => 0))), (q31, .inl (cy 0, 90, .inl (fun _ => 0))), (q39, .inl (cy 0, 90, .inl (fun _ => 0))), (q45, .inr (1, [.ref q51_q22, .ref q51_q29, .int (0), .int (0)])), (q51_q22, .inl (cy 1, 90, .inr (.inl (fun _ => 0)))), (q51_q29, .inl (cy 1, 90, .inr (.inl (fun _ => 0))))] := hD
  have hP9 := hP.sub (ws' := [(h0, .inr (2, [.ref q7, .ref q15, .ref q23, .ref q31, .ref q39, .ref q45, .int (0), .int (0), .int (0)])), (q7, .inl (cy 0, 90, .inl (fun _ => 0))), (q15, .inl (cy 0, 90, .inl (fun _ => 0))), (q23, .inl (cy 0, 90, .inl (fun _ => 0))), (q31, .inl (cy 0, 90, .inl (fun _ => 0))), (q39, .inl (cy 0, 90, .inl (fun _ => 0))), (q45, .inr (1, [.ref q51_q22, .ref q51_q29, .int (0), .int (0)])), (q51_q22, .inl (cy 1, 90, .inr (.inl (fun _ => 0)))), (q51_q29, .inl (cy 1, 90, .inr (.inl (fun _ => 0))))]) [0, 1, 2, 3, 4, 5, 6, 7, 8] rfl
  have hD9 := hD.sub (ws' := [(h0, .inr (2, [.ref q7, .ref q15, .ref q23, .ref q31, .ref q39, .ref q45, .int (0), .int (0), .int (0)])), (q7, .inl (cy 0, 90, .inl (fun _ => 0))), (q15, .inl (cy 0, 90, .inl (fun _ => 0))), (q23, .inl (cy 0, 90, .inl (fun _ => 0))), (q31, .inl (cy 0, 90, .inl (fun _ => 0))), (q39, .inl (cy 0, 90, .inl (fun _ => 0))), (q45, .inr (1, [.ref q51_q22, .ref q51_q29, .int (0), .int (0)])), (q51_q22, .inl (cy 1, 90, .inr (.inl (fun _ => 0)))), (q51_q29, .inl (cy 1, 90, .inr (.inl (fun _ => 0))))]) [0, 1, 2, 3, 4, 5, 6, 7, 8] (by decide) rfl
  exact W.vret hx hb hr (fun t ht hW => ⟨⟨rfl, q7, q15, q23, q31, q39, q45, q51_q22, q51_q29, by rw [ht]; exact hP9, va_K.moved hW.alike hK, hD9⟩, hS.F ht⟩) hS.2.2 dX2_init_72
