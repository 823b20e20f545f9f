theorem dX7_init_0 : decode cX7_init 0 = .ok (.aload_n 0, 1) := by decide +kernel
theorem dX7_init_1 : decode cX7_init 1 = .ok (.invokespecial 3, 3) := by decide +kernel
theorem dX7_init_4 : decode cX7_init 4 = .ok (.aload_n 0, 1) := by decide +kernel
theorem dX7_init_5 : decode cX7_init 5 = .ok (.sipush 225, 3) := by decide +kernel
theorem dX7_init_8 : decode cX7_init 8 = .ok (.newarray .int, 2) := by decide +kernel
theorem dX7_init_10 : decode cX7_init 10 = .ok (.putfield 9, 3) := by decide +kernel
theorem dX7_init_13 : decode cX7_init 13 = .ok (.aload_n 0, 1) := by decide +kernel
theorem dX7_init_14 : decode cX7_init 14 = .ok (.iconst 0, 1) := by decide +kernel
theorem dX7_init_15 : decode cX7_init 15 = .ok (.putfield 15, 3) := by decide +kernel
theorem dX7_init_18 : decode cX7_init 18 = .ok (.aload_n 0, 1) := by decide +kernel
theorem dX7_init_19 : decode cX7_init 19 = .ok (.iconst 0, 1) := by decide +kernel
theorem dX7_init_20 : decode cX7_init 20 = .ok (.putfield 19, 3) := by decide +kernel
theorem dX7_init_23 : decode cX7_init 23 = .ok (.aload_n 0, 1) := by decide +kernel
theorem dX7_init_24 : decode cX7_init 24 = .ok (.iconst 0, 1) := by decide +kernel
theorem dX7_init_25 : decode cX7_init 25 = .ok (.putfield 22, 3) := by decide +kernel
theorem dX7_init_28 : decode cX7_init 28 = .ok (.aload_n 0, 1) := by decide +kernel
theorem dX7_init_29 : decode cX7_init 29 = .ok (.iconst 0, 1) := by decide +kernel
theorem dX7_init_30 : decode cX7_init 30 = .ok (.putfield 25, 3) := by decide +kernel
theorem dX7_init_33 : decode cX7_init 33 = .ok (.aload_n 0, 1) := by decide +kernel
theorem dX7_init_34 : decode cX7_init 34 = .ok (.iconst 0, 1) := by decide +kernel
theorem dX7_init_35 : decode cX7_init 35 = .ok (.putfield 28, 3) := by decide +kernel
theorem dX7_init_38 : decode cX7_init 38 = .ok (.aload_n 0, 1) := by decide +kernel
theorem dX7_init_39 : decode cX7_init 39 = .ok (.iconst 0, 1) := by decide +kernel
theorem dX7_init_40 : decode cX7_init 40 = .ok (.putfield 31, 3) := by decide +kernel
theorem dX7_init_43 : decode cX7_init 43 = .ok (.return_, 1) := by decide +kernel
set_option maxHeartbeats 800000 in
set_option maxRecDepth 100000 in
theorem cw_X7_init (l : Launch) (D : va_G) (cy : Nat → ClassId) (h0 : Nat) (sz : Nat) : Met l yX7_init (cw_ws yX7_init cX7_init 1) ({ frames := 1, cells := 1, slots := 225, locals := 20 }) (cw_Pc D cy [.ref h0] [(h0, .inr (7, [.null, .int 0, .int 0, .int 0, .int 0, .int 0, .int 0]))] sz) (cw_Q (va_A [(h0, .inr (7, [.null, .int 0, .int 0, .int 0, .int 0, .int 0, .int 0]))] sz) (fun t => ∃ q8 : Nat, cw_B D cy (va_A [(h0, .inr (7, [.null, .int 0, .int 0, .int 0, .int 0, .int 0, .int 0]))] sz) [(h0, .inr (7, [.ref q8, .int (0), .int (0), .int (0), .int (0), .int (0), .int (0)])), (q8, .inl (cy 0, 225, .inl (fun _ => 0)))] t)) 1 225 (va_A [(h0, .inr (7, [.null, .int 0, .int 0, .int 0, .int 0, .int 0, .int 0]))] sz) := by
  refine Met.ofW (cc := cX7_init) (maxL := 1) (ret := none) (by decide) rfl ?_
  intro p e s m args below meth c s₁ B hml hv
  obtain ⟨rfl, hsz, hP, hK, hD0, hNW⟩ := hv
  have hx := B.exec
  have hb := B.bytes
  have hr := B.returns
  have hts : ∀ w ∈ cd_big, w.before _ s = true := fun w hw => atoms_spec (ws := cw_ws yX7_init cX7_init 1) B.pre w (List.mem_cons_of_mem _ hw)
  have hown : s.vm.findClass RX7 = some m.cls := findClass_of_methodNamed B.named
  have hlocks := B.notSynchronized
  have hin : meth.name = "<init>" := (name_of_methodNamed B.named B.method).1
  subst hsz
  have hD := hD0.self (sz := s.heap.size)
  generalize hAe : va_A [(h0, .inr (7, [.null, .int 0, .int 0, .int 0, .int 0, .int 0, .int 0]))] s.heap.size = A at hD ⊢
  have hA : ∀ q : Nat, s.heap.size ≤ q → A q := fun q h => by rw [← hAe]; exact Or.inr h
  have hS : va_S A s.heap s.heap [] := va_S.rf
  have hP : va_P D cd_cl [(h0, .inr (7, [.null, .int 0, .int 0, .int 0, .int 0, .int 0, .int 0]))] s.heap := hP
  have hC : cw_Cx p s m _ meth c cX7_init 1 RX7 D cy A := ⟨hx, hb, hml, hown, hts, hK, hNW, hA⟩
  have hl := lv_entry ([.ref h0]) (n := 1) (Nat.le_of_ble_eq_true rfl)
  rw [lg_entry_eq]
  generalize (lg_sl ([.ref h0]) ++ List.replicate (1 - (lg_sl ([.ref h0])).length) Slot.unset).toArray = ls at hl ⊢
  have hl : lv_has ls 1 [(0, .ref h0)] := hl
  refine lv_aload_n hx hb dX7_init_0 rfl (lv_at hl 0 rfl) ?_
  refine W.objInit hx hb hown (hts (.methodLink RX7 3 objectInit) (cd_m 1 42 rfl rfl)) (hts (.instanceMethod objectInit) (cd_m 1 29 rfl rfl)) (hts (.code objectInit ⟨#[0xb1]⟩ 1 none) (cd_m 1 30 rfl rfl)) rfl (by rw [hml]; exact hl.1) rfl dX7_init_1 (Nat.le_of_ble_eq_true rfl) (Nat.le_of_ble_eq_true rfl) ?_
  refine W.eq (g2 := F0 m 4 ls []) rfl ?_
  refine lv_aload_n hx hb dX7_init_4 rfl (lv_at hl 0 rfl) ?_
  refine lv_sipush (v := (225)) hx hb dX7_init_5 (by decide) ?_
  refine cw_newa (atype := .int) (ty := .int) hC rfl (cd_m 1 65 rfl rfl) 0 rfl (fun z => z) hP hD hS 225 (225, .inl (fun _ => 0)) (fun _ => rfl) (by decide) (by decide) (Nat.le_of_ble_eq_true rfl) (Nat.le_of_ble_eq_true rfl) (Nat.le_of_ble_eq_true rfl) dX7_init_8 (fun q8 H hP hD hS => ?_)
  have hP : va_P D cd_cl [(h0, .inr (7, [.null, .int 0, .int 0, .int 0, .int 0, .int 0, .int 0])), (q8, .inl (cy 0, 225, .inl (fun _ => 0)))] H := hP
  have hD : va_D A [(h0, .inr (7, [.null, .int 0, .int 0, .int 0, .int 0, .int 0, .int 0])), (q8, .inl (cy 0, 225, .inl (fun _ => 0)))] := hD
  refine W.widen (k := 1) (n := 225) (by omega) (by omega) ?_
  refine va_putF (D := D) (ci := 7) (v := .ref q8) (ty := (.array .int)) (C := RX7) (T := TX7) (N := 7) hx hb hts cd_lay7 tyX7 tyX7_ok nmX7 hown hK hP hD hS 0 rfl rfl 0 (by decide) (hts (.fieldLink RX7 9 "CadenceDesk$Tape" "words" "[I") (cd_m 1 43 rfl rfl)) (fun _ h9 => h9) rfl hin rfl (by decide +kernel) rfl rfl (Nat.le_of_ble_eq_true rfl) dX7_init_10 (fun H locs hP hD hS => ?_)
  have hP : va_P D cd_cl [(h0, .inr (7, [.ref q8, .int 0, .int 0, .int 0, .int 0, .int 0, .int 0])), (q8, .inl (cy 0, 225, .inl (fun _ => 0)))] H := hP
  have hD : va_D A [(h0, .inr (7, [.ref q8, .int 0, .int 0, .int 0, .int 0, .int 0, .int 0])), (q8, .inl (cy 0, 225, .inl (fun _ => 0)))] := hD
  refine lv_aload_n hx hb dX7_init_13 rfl (lv_at hl 0 rfl) ?_
  refine lv_iconst (v := (0)) hx hb dX7_init_14 (by decide) ?_
  refine va_put (D := D) (ci := 7) (v := .int (0)) (ty := .int) (C := RX7) (T := TX7) (N := 7) hx hb hts cd_lay7 tyX7 tyX7_ok nmX7 hown hK hP hD hS 0 rfl rfl 1 (by decide) (hts (.fieldLink RX7 15 "CadenceDesk$Tape" "used" "I") (cd_m 1 44 rfl rfl)) (fun _ h9 => h9) rfl (by decide +kernel) rfl rfl (Nat.le_of_ble_eq_true rfl) dX7_init_15 (fun H locs hP hD hS => ?_)
  have hP : va_P D cd_cl [(h0, .inr (7, [.ref q8, .int (0), .int 0, .int 0, .int 0, .int 0, .int 0])), (q8, .inl (cy 0, 225, .inl (fun _ => 0)))] H := hP
  have hD : va_D A [(h0, .inr (7, [.ref q8, .int (0), .int 0, .int 0, .int 0, .int 0, .int 0])), (q8, .inl (cy 0, 225, .inl (fun _ => 0)))] := hD
  refine lv_aload_n hx hb dX7_init_18 rfl (lv_at hl 0 rfl) ?_
  refine lv_iconst (v := (0)) hx hb dX7_init_19 (by decide) ?_
  refine va_put (D := D) (ci := 7) (v := .int (0)) (ty := .int) (C := RX7) (T := TX7) (N := 7) hx hb hts cd_lay7 tyX7 tyX7_ok nmX7 hown hK hP hD hS 0 rfl rfl 2 (by decide) (hts (.fieldLink RX7 19 "CadenceDesk$Tape" "end" "I") (cd_m 1 45 rfl rfl)) (fun _ h9 => h9) rfl (by decide +kernel) rfl rfl (Nat.le_of_ble_eq_true rfl) dX7_init_20 (fun H locs hP hD hS => ?_)
  have hP : va_P D cd_cl [(h0, .inr (7, [.ref q8, .int (0), .int (0), .int 0, .int 0, .int 0, .int 0])), (q8, .inl (cy 0, 225, .inl (fun _ => 0)))] H := hP
  have hD : va_D A [(h0, .inr (7, [.ref q8, .int (0), .int (0), .int 0, .int 0, .int 0, .int 0])), (q8, .inl (cy 0, 225, .inl (fun _ => 0)))] := hD
  refine lv_aload_n hx hb dX7_init_23 rfl (lv_at hl 0 rfl) ?_
  refine lv_iconst (v := (0)) hx hb dX7_init_24 (by decide) ?_
  refine va_put (D := D) (ci := 7) (v := .int (0)) (ty := .int) (C := RX7) (T := TX7) (N := 7) hx hb hts cd_lay7 tyX7 tyX7_ok nmX7 hown hK hP hD hS 0 rfl rfl 3 (by decide) (hts (.fieldLink RX7 22 "CadenceDesk$Tape" "next" "I") (cd_m 1 46 rfl rfl)) (fun _ h9 => h9) rfl (by decide +kernel) rfl rfl (Nat.le_of_ble_eq_true rfl) dX7_init_25 (fun H locs hP hD hS => ?_)
  have hP : va_P D cd_cl [(h0, .inr (7, [.ref q8, .int (0), .int (0), .int (0), .int 0, .int 0, .int 0])), (q8, .inl (cy 0, 225, .inl (fun _ => 0)))] H := hP
  have hD : va_D A [(h0, .inr (7, [.ref q8, .int (0), .int (0), .int (0), .int 0, .int 0, .int 0])), (q8, .inl (cy 0, 225, .inl (fun _ => 0)))] := hD
  refine lv_aload_n hx hb dX7_init_28 rfl (lv_at hl 0 rfl) ?_
  refine lv_iconst (v := (0)) hx hb dX7_init_29 (by decide) ?_
  refine va_put (D := D) (ci := 7) (v := .int (0)) (ty := .int) (C := RX7) (T := TX7) (N := 7) hx hb hts cd_lay7 tyX7 tyX7_ok nmX7 hown hK hP hD hS 0 rfl rfl 4 (by decide) (hts (.fieldLink RX7 25 "CadenceDesk$Tape" "start" "I") (cd_m 1 47 rfl rfl)) (fun _ h9 => h9) rfl (by decide +kernel) rfl rfl (Nat.le_of_ble_eq_true rfl) dX7_init_30 (fun H locs hP hD hS => ?_)
  have hP : va_P D cd_cl [(h0, .inr (7, [.ref q8, .int (0), .int (0), .int (0), .int (0), .int 0, .int 0])), (q8, .inl (cy 0, 225, .inl (fun _ => 0)))] H := hP
  have hD : va_D A [(h0, .inr (7, [.ref q8, .int (0), .int (0), .int (0), .int (0), .int 0, .int 0])), (q8, .inl (cy 0, 225, .inl (fun _ => 0)))] := hD
  refine lv_aload_n hx hb dX7_init_33 rfl (lv_at hl 0 rfl) ?_
  refine lv_iconst (v := (0)) hx hb dX7_init_34 (by decide) ?_
  refine va_put (D := D) (ci := 7) (v := .int (0)) (ty := .int) (C := RX7) (T := TX7) (N := 7) hx hb hts cd_lay7 tyX7 tyX7_ok nmX7 hown hK hP hD hS 0 rfl rfl 5 (by decide) (hts (.fieldLink RX7 28 "CadenceDesk$Tape" "kind" "I") (cd_m 1 48 rfl rfl)) (fun _ h9 => h9) rfl (by decide +kernel) rfl rfl (Nat.le_of_ble_eq_true rfl) dX7_init_35 (fun H locs hP hD hS => ?_)
  have hP : va_P D cd_cl [(h0, .inr (7, [.ref q8, .int (0), .int (0), .int (0), .int (0), .int (0), .int 0])), (q8, .inl (cy 0, 225, .inl (fun _ => 0)))] H := hP
  have hD : va_D A [(h0, .inr (7, [.ref q8, .int (0), .int (0), .int (0), .int (0), .int (0), .int 0])), (q8, .inl (cy 0, 225, .inl (fun _ => 0)))] := hD
  refine lv_aload_n hx hb dX7_init_38 rfl (lv_at hl 0 rfl) ?_
  refine lv_iconst (v := (0)) hx hb dX7_init_39 (by decide) ?_
  refine va_put (D := D) (ci := 7) (v := .int (0)) (ty := .int) (C := RX7) (T := TX7) (N := 7) hx hb hts cd_lay7 tyX7 tyX7_ok nmX7 hown hK hP hD hS 0 rfl rfl 6 (by decide) (hts (.fieldLink RX7 31 "CadenceDesk$Tape" "number" "I") (cd_m 1 49 rfl rfl)) (fun _ h9 => h9) rfl (by decide +kernel) rfl rfl (Nat.le_of_ble_eq_true rfl) dX7_init_40 (fun H locs hP hD hS => ?_)
  have hP : va_P D cd_cl [(h0, .inr (7, [.ref q8, .int (0), .int (0), .int (0), .int (0), .int (0), .int (0)])), (q8, .inl (cy 0, 225, .inl (fun _ => 0)))] H := hP
  have hD : va_D A [(h0, .inr (7, [.ref q8, .int (0), .int (0), .int (0), .int (0), .int (0), .int (0)])), (q8, .inl (cy 0, 225, .inl (fun _ => 0)))] := hD
  have hP9 := hP.sub (ws' := [(h0, .inr (7, [.ref q8, .int (0), .int (0), .int (0), .int (0), .int (0), .int (0)])), (q8, .inl (cy 0, 225, .inl (fun _ => 0)))]) [0, 1] rfl
  have hD9 := hD.sub (ws' := [(h0, .inr (7, [.ref q8, .int (0), .int (0), .int (0), .int (0), .int (0), .int (0)])), (q8, .inl (cy 0, 225, .inl (fun _ => 0)))]) [0, 1] (by decide) rfl
  exact W.vret hx hb hr (fun t ht hW => ⟨⟨rfl, q8, by rw [ht]; exact hP9, va_K.moved hW.alike hK, hD9⟩, hS.F ht⟩) hS.2.2 dX7_init_43
theorem dX1_init_0 : decode cX1_init 0 = .ok (.aload_n 0, 1) := by decide +kernel
theorem dX1_init_1 : decode cX1_init 1 = .ok (.invokespecial 1, 3) := by decide +kernel
theorem dX1_init_4 : decode cX1_init 4 = .ok (.aload_n 0, 1) := by decide +kernel
theorem dX1_init_5 : decode cX1_init 5 = .ok (.iconst 0, 1) := by decide +kernel
theorem dX1_init_6 : decode cX1_init 6 = .ok (.putfield 7, 3) := by decide +kernel
theorem dX1_init_9 : decode cX1_init 9 = .ok (.aload_n 0, 1) := by decide +kernel
theorem dX1_init_10 : decode cX1_init 10 = .ok (.iconst 0, 1) := by decide +kernel
theorem dX1_init_11 : decode cX1_init 11 = .ok (.putfield 13, 3) := by decide +kernel
theorem dX1_init_14 : decode cX1_init 14 = .ok (.iconst 0, 1) := by decide +kernel
theorem dX1_init_15 : decode cX1_init 15 = .ok (.iload_n 1, 1) := by decide +kernel
theorem dX1_init_16 : decode cX1_init 16 = .ok (.invokestatic 16, 3) := by decide +kernel
theorem dX1_init_19 : decode cX1_init 19 = .ok (.istore_n 2, 1) := by decide +kernel
theorem dX1_init_20 : decode cX1_init 20 = .ok (.aload_n 0, 1) := by decide +kernel
theorem dX1_init_21 : decode cX1_init 21 = .ok (.iload_n 2, 1) := by decide +kernel
theorem dX1_init_22 : decode cX1_init 22 = .ok (.newarray .long, 2) := by decide +kernel
theorem dX1_init_24 : decode cX1_init 24 = .ok (.putfield 22, 3) := by decide +kernel
theorem dX1_init_27 : decode cX1_init 27 = .ok (.aload_n 0, 1) := by decide +kernel
theorem dX1_init_28 : decode cX1_init 28 = .ok (.iload_n 2, 1) := by decide +kernel
theorem dX1_init_29 : decode cX1_init 29 = .ok (.newarray .long, 2) := by decide +kernel
theorem dX1_init_31 : decode cX1_init 31 = .ok (.putfield 26, 3) := by decide +kernel
theorem dX1_init_34 : decode cX1_init 34 = .ok (.return_, 1) := by decide +kernel
set_option maxHeartbeats 800000 in
set_option maxRecDepth 100000 in
theorem cw_X1_init_20 (l : Launch) (D : va_G) (cy : Nat → ClassId) (h0 : Nat) (sz : Nat) : Met l yX1_init (cw_ws yX1_init cX1_init 3) ({ frames := 1, cells := 2, slots := 40, locals := 22 }) (cw_Pc D cy [.ref h0, .int (20)] [(h0, .inr (1, [.null, .null, .int 0, .int 0]))] sz) (cw_Q (va_A [(h0, .inr (1, [.null, .null, .int 0, .int 0]))] sz) (fun t => ∃ q22 q29 : Nat, cw_B D cy (va_A [(h0, .inr (1, [.null, .null, .int 0, .int 0]))] sz) [(h0, .inr (1, [.ref q22, .ref q29, .int (0), .int (0)])), (q22, .inl (cy 1, 20, .inr (.inl (fun _ => 0)))), (q29, .inl (cy 1, 20, .inr (.inl (fun _ => 0))))] t)) 2 40 (va_A [(h0, .inr (1, [.null, .null, .int 0, .int 0]))] sz) := by
  refine Met.ofW (cc := cX1_init) (maxL := 3) (ret := none) (by decide) rfl ?_
  intro p e s m args below meth c s₁ B hml hv
  obtain ⟨rfl, hsz, hP, hK, hD0, hNW⟩ := hv
  have hx := B.exec
  have hb := B.bytes
  have hr := B.returns
  have hts : ∀ w ∈ cd_big, w.before _ s = true := fun w hw => atoms_spec (ws := cw_ws yX1_init cX1_init 3) B.pre w (List.mem_cons_of_mem _ hw)
  have hown : s.vm.findClass RX1 = some m.cls := findClass_of_methodNamed B.named
  have hlocks := B.notSynchronized
  have hin : meth.name = "<init>" := (name_of_methodNamed B.named B.method).1
  subst hsz
  have hD := hD0.self (sz := s.heap.size)
  generalize hAe : va_A [(h0, .inr (1, [.null, .null, .int 0, .int 0]))] s.heap.size = A at hD ⊢
  have hA : ∀ q : Nat, s.heap.size ≤ q → A q := fun q h => by rw [← hAe]; exact Or.inr h
  have hS : va_S A s.heap s.heap [] := va_S.rf
  have hP : va_P D cd_cl [(h0, .inr (1, [.null, .null, .int 0, .int 0]))] s.heap := hP
  have hC : cw_Cx p s m _ meth c cX1_init 3 RX1 D cy A := ⟨hx, hb, hml, hown, hts, hK, hNW, hA⟩
  have hl := lv_entry ([.ref h0, .int (20)]) (n := 3) (Nat.le_of_ble_eq_true rfl)
  rw [lg_entry_eq]
  generalize (lg_sl ([.ref h0, .int (20)]) ++ List.replicate (3 - (lg_sl ([.ref h0, .int (20)])).length) Slot.unset).toArray = ls at hl ⊢
  have hl : lv_has ls 3 [(0, .ref h0), (1, .int (20))] := hl
  refine lv_aload_n hx hb dX1_init_0 rfl (lv_at hl 0 rfl) ?_
  refine W.objInit hx hb hown (hts (.methodLink RX1 1 objectInit) (cd_m 1 71 rfl rfl)) (hts (.instanceMethod objectInit) (cd_m 1 29 rfl rfl)) (hts (.code objectInit ⟨#[0xb1]⟩ 1 none) (cd_m 1 30 rfl rfl)) rfl (by rw [hml]; exact hl.1) rfl dX1_init_1 (Nat.le_of_ble_eq_true rfl) (Nat.le_of_ble_eq_true rfl) ?_
  refine W.eq (g2 := F0 m 4 ls []) rfl ?_
  refine lv_aload_n hx hb dX1_init_4 rfl (lv_at hl 0 rfl) ?_
  refine lv_iconst (v := (0)) hx hb dX1_init_5 (by decide) ?_
  refine va_put (D := D) (ci := 1) (v := .int (0)) (ty := .int) (C := RX1) (T := TX1) (N := 4) hx hb hts cd_lay1 tyX1 tyX1_ok nmX1 hown hK hP hD hS 0 rfl rfl 2 (by decide) (hts (.fieldLink RX1 7 "CadenceDesk$Frames" "width" "I") (cd_m 1 77 rfl rfl)) (fun _ h9 => h9) rfl (by decide +kernel) rfl rfl (Nat.le_of_ble_eq_true rfl) dX1_init_6 (fun H locs hP hD hS => ?_)
  have hP : va_P D cd_cl [(h0, .inr (1, [.null, .null, .int (0), .int 0]))] H := hP
  have hD : va_D A [(h0, .inr (1, [.null, .null, .int (0), .int 0]))] := hD
  refine lv_aload_n hx hb dX1_init_9 rfl (lv_at hl 0 rfl) ?_
  refine lv_iconst (v := (0)) hx hb dX1_init_10 (by decide) ?_
  refine va_put (D := D) (ci := 1) (v := .int (0)) (ty := .int) (C := RX1) (T := TX1) (N := 4) hx hb hts cd_lay1 tyX1 tyX1_ok nmX1 hown hK hP hD hS 0 rfl rfl 3 (by decide) (hts (.fieldLink RX1 13 "CadenceDesk$Frames" "size" "I") (cd_m 1 78 rfl rfl)) (fun _ h9 => h9) rfl (by decide +kernel) rfl rfl (Nat.le_of_ble_eq_true rfl) dX1_init_11 (fun H locs hP hD hS => ?_)
  have hP : va_P D cd_cl [(h0, .inr (1, [.null, .null, .int (0), .int (0)]))] H := hP
  have hD : va_D A [(h0, .inr (1, [.null, .null, .int (0), .int (0)]))] := hD
  refine lv_iconst (v := (0)) hx hb dX1_init_14 (by decide) ?_
  refine lv_iload_n hx hb dX1_init_15 rfl (lv_at hl 1 rfl) ?_
  refine va_mmax hx hb (by rw [hml]; exact hl.1.symm) hown (hts (.methodLink RX1 16 Lib.Math.max.name) (cd_m 1 72 rfl rfl)) (hts _ cd_max1) (hts _ cd_math1) (hts _ cd_max2) (Nat.le_of_ble_eq_true rfl) (Nat.le_of_ble_eq_true rfl) (Nat.le_of_ble_eq_true rfl) (Nat.le_of_ble_eq_true rfl) dX1_init_16 ?_
  refine W.eq (g2 := F0 m 19 ls [.int (20)]) (by rw [show (if ((0 : Int32) < (20)) then ((20) : Int32) else (0)) = (20) from by decide]) ?_
  refine lv_istore_n (lv' := [(2, .int (20)), (0, .ref h0), (1, .int (20))]) hx hb dX1_init_19 rfl hl (by decide) rfl (fun ls hl => ?_)
  refine lv_aload_n hx hb dX1_init_20 rfl (lv_at hl 1 rfl) ?_
  refine lv_iload_n hx hb dX1_init_21 rfl (lv_at hl 0 rfl) ?_
  refine cw_newa (atype := .long) (ty := .long) hC rfl (cd_m 1 88 rfl rfl) 1 rfl (fun z => z) hP hD hS 20 (20, .inr (.inl (fun _ => 0))) (fun _ => rfl) (by decide) (by decide) (Nat.le_of_ble_eq_true rfl) (Nat.le_of_ble_eq_true rfl) (Nat.le_of_ble_eq_true rfl) dX1_init_22 (fun q22 H hP hD hS => ?_)
  have hP : va_P D cd_cl [(h0, .inr (1, [.null, .null, .int (0), .int (0)])), (q22, .inl (cy 1, 20, .inr (.inl (fun _ => 0))))] H := hP
  have hD : va_D A [(h0, .inr (1, [.null, .null, .int (0), .int (0)])), (q22, .inl (cy 1, 20, .inr (.inl (fun _ => 0))))] := hD
  refine W.widen (k := 1) (n := 20) (by omega) (by omega) ?_
  refine va_putF (D := D) (ci := 1) (v := .ref q22) (ty := (.array .long)) (C := RX1) (T := TX1) (N := 4) hx hb hts cd_lay1 tyX1 tyX1_ok nmX1 hown hK hP hD hS 0 rfl rfl 0 (by decide) (hts (.fieldLink RX1 22 "CadenceDesk$Frames" "tops" "[J") (cd_m 1 75 rfl rfl)) (fun _ h9 => h9) rfl hin rfl (by decide +kernel) rfl rfl (Nat.le_of_ble_eq_true rfl) dX1_init_24 (fun H locs hP hD hS => ?_)
  have hP : va_P D cd_cl [(h0, .inr (1, [.ref q22, .null, .int (0), .int (0)])), (q22, .inl (cy 1, 20, .inr (.inl (fun _ => 0))))] H := hP
  have hD : va_D A [(h0, .inr (1, [.ref q22, .null, .int (0), .int (0)])), (q22, .inl (cy 1, 20, .inr (.inl (fun _ => 0))))] := hD
  refine lv_aload_n hx hb dX1_init_27 rfl (lv_at hl 1 rfl) ?_
  refine lv_iload_n hx hb dX1_init_28 rfl (lv_at hl 0 rfl) ?_
  refine cw_newa (atype := .long) (ty := .long) hC rfl (cd_m 1 88 rfl rfl) 1 rfl (fun z => z) hP hD hS 20 (20, .inr (.inl (fun _ => 0))) (fun _ => rfl) (by decide) (by decide) (Nat.le_of_ble_eq_true rfl) (Nat.le_of_ble_eq_true rfl) (Nat.le_of_ble_eq_true rfl) dX1_init_29 (fun q29 H hP hD hS => ?_)
  have hP : va_P D cd_cl [(h0, .inr (1, [.ref q22, .null, .int (0), .int (0)])), (q22, .inl (cy 1, 20, .inr (.inl (fun _ => 0)))), (q29, .inl (cy 1, 20, .inr (.inl (fun _ => 0))))] H := hP
  have hD : va_D A [(h0, .inr (1, [.ref q22, .null, .int (0), .int (0)])), (q22, .inl (cy 1, 20, .inr (.inl (fun _ => 0)))), (q29, .inl (cy 1, 20, .inr (.inl (fun _ => 0))))] := hD
  refine W.widen (k := 2) (n := 40) (by omega) (by omega) ?_
  refine va_putF (D := D) (ci := 1) (v := .ref q29) (ty := (.array .long)) (C := RX1) (T := TX1) (N := 4) hx hb hts cd_lay1 tyX1 tyX1_ok nmX1 hown hK hP hD hS 0 rfl rfl 1 (by decide) (hts (.fieldLink RX1 26 "CadenceDesk$Frames" "bottoms" "[J") (cd_m 1 76 rfl rfl)) (fun _ h9 => h9) rfl hin rfl (by decide +kernel) rfl rfl (Nat.le_of_ble_eq_true rfl) dX1_init_31 (fun H locs hP hD hS => ?_)
  have hP : va_P D cd_cl [(h0, .inr (1, [.ref q22, .ref q29, .int (0), .int (0)])), (q22, .inl (cy 1, 20, .inr (.inl (fun _ => 0)))), (q29, .inl (cy 1, 20, .inr (.inl (fun _ => 0))))] H := hP
  have hD : va_D A [(h0, .inr (1, [.ref q22, .ref q29, .int (0), .int (0)])), (q22, .inl (cy 1, 20, .inr (.inl (fun _ => 0)))), (q29, .inl (cy 1, 20, .inr (.inl (fun _ => 0))))] := hD
  have hP9 := hP.sub (ws' := [(h0, .inr (1, [.ref q22, .ref q29, .int (0), .int (0)])), (q22, .inl (cy 1, 20, .inr (.inl (fun _ => 0)))), (q29, .inl (cy 1, 20, .inr (.inl (fun _ => 0))))]) [0, 1, 2] rfl
  have hD9 := hD.sub (ws' := [(h0, .inr (1, [.ref q22, .ref q29, .int (0), .int (0)])), (q22, .inl (cy 1, 20, .inr (.inl (fun _ => 0)))), (q29, .inl (cy 1, 20, .inr (.inl (fun _ => 0))))]) [0, 1, 2] (by decide) rfl
  exact W.vret hx hb hr (fun t ht hW => ⟨⟨rfl, q22, q29, by rw [ht]; exact hP9, va_K.moved hW.alike hK, hD9⟩, hS.F ht⟩) hS.2.2 dX1_init_34
theorem dX5_clear_0 : decode cX5_clear 0 = .ok (.aload_n 0, 1) := by decide +kernel
theorem dX5_clear_1 : decode cX5_clear 1 = .ok (.iconst 0, 1) := by decide +kernel
theorem dX5_clear_2 : decode cX5_clear 2 = .ok (.putfield 21, 3) := by decide +kernel
theorem dX5_clear_5 : decode cX5_clear 5 = .ok (.aload_n 0, 1) := by decide +kernel
theorem dX5_clear_6 : decode cX5_clear 6 = .ok (.getfield 18, 3) := by decide +kernel
theorem dX5_clear_9 : decode cX5_clear 9 = .ok (.iconst 0, 1) := by decide +kernel
theorem dX5_clear_10 : decode cX5_clear 10 = .ok (.iconst 0, 1) := by decide +kernel
theorem dX5_clear_11 : decode cX5_clear 11 = .ok (.iastore, 1) := by decide +kernel
theorem dX5_clear_12 : decode cX5_clear 12 = .ok (.aload_n 0, 1) := by decide +kernel
theorem dX5_clear_13 : decode cX5_clear 13 = .ok (.getfield 18, 3) := by decide +kernel
theorem dX5_clear_16 : decode cX5_clear 16 = .ok (.iconst 1, 1) := by decide +kernel
theorem dX5_clear_17 : decode cX5_clear 17 = .ok (.bipush 40, 2) := by decide +kernel
theorem dX5_clear_19 : decode cX5_clear 19 = .ok (.iastore, 1) := by decide +kernel
theorem dX5_clear_20 : decode cX5_clear 20 = .ok (.aload_n 0, 1) := by decide +kernel
theorem dX5_clear_21 : decode cX5_clear 21 = .ok (.getfield 18, 3) := by decide +kernel
theorem dX5_clear_24 : decode cX5_clear 24 = .ok (.iconst 2, 1) := by decide +kernel
theorem dX5_clear_25 : decode cX5_clear 25 = .ok (.bipush 10, 2) := by decide +kernel
theorem dX5_clear_27 : decode cX5_clear 27 = .ok (.iastore, 1) := by decide +kernel
theorem dX5_clear_28 : decode cX5_clear 28 = .ok (.aload_n 0, 1) := by decide +kernel
theorem dX5_clear_29 : decode cX5_clear 29 = .ok (.getfield 18, 3) := by decide +kernel
theorem dX5_clear_32 : decode cX5_clear 32 = .ok (.iconst 3, 1) := by decide +kernel
theorem dX5_clear_33 : decode cX5_clear 33 = .ok (.iconst 0, 1) := by decide +kernel
theorem dX5_clear_34 : decode cX5_clear 34 = .ok (.iastore, 1) := by decide +kernel
theorem dX5_clear_35 : decode cX5_clear 35 = .ok (.aload_n 0, 1) := by decide +kernel
theorem dX5_clear_36 : decode cX5_clear 36 = .ok (.getfield 18, 3) := by decide +kernel
theorem dX5_clear_39 : decode cX5_clear 39 = .ok (.iconst 4, 1) := by decide +kernel
theorem dX5_clear_40 : decode cX5_clear 40 = .ok (.iconst 0, 1) := by decide +kernel
theorem dX5_clear_41 : decode cX5_clear 41 = .ok (.iastore, 1) := by decide +kernel
theorem dX5_clear_42 : decode cX5_clear 42 = .ok (.return_, 1) := by decide +kernel
set_option maxHeartbeats 800000 in
set_option maxRecDepth 100000 in
theorem cw_X5_clear_0 (l : Launch) (D : va_G) (cy : Nat → ClassId) (h0 h1 h2 h3 : Nat) (sz : Nat) : Met l yX5_clear (cw_ws yX5_clear cX5_clear 1) ({ frames := 0, cells := 0, slots := 0, locals := 0 }) (cw_Pc D cy [.ref h0] [(h0, .inr (5, [.ref h1, .ref h2, .ref h3, .int (0)])), (h1, .inl (cy 0, 24, .inl (fun _ => 0))), (h2, .inl (cy 0, 4, .inl (fun _ => 0))), (h3, .inl (cy 0, 5, .inl (fun _ => 0)))] sz) (cw_Q (va_A [(h0, .inr (5, [.ref h1, .ref h2, .ref h3, .int (0)])), (h1, .inl (cy 0, 24, .inl (fun _ => 0))), (h2, .inl (cy 0, 4, .inl (fun _ => 0))), (h3, .inl (cy 0, 5, .inl (fun _ => 0)))] sz) (fun t => cw_B D cy (va_A [(h0, .inr (5, [.ref h1, .ref h2, .ref h3, .int (0)])), (h1, .inl (cy 0, 24, .inl (fun _ => 0))), (h2, .inl (cy 0, 4, .inl (fun _ => 0))), (h3, .inl (cy 0, 5, .inl (fun _ => 0)))] sz) [(h0, .inr (5, [.ref h1, .ref h2, .ref h3, .int (0)])), (h1, .inl (cy 0, 24, .inl (fun _ => 0))), (h2, .inl (cy 0, 4, .inl (fun _ => 0))), (h3, .inl (cy 0, 5, .inl (upd (upd (upd (upd (upd (fun _ => 0) 0 (0)) 1 (40)) 2 (10)) 3 (0)) 4 (0))))] t)) 0 0 (va_A [(h0, .inr (5, [.ref h1, .ref h2, .ref h3, .int (0)])), (h1, .inl (cy 0, 24, .inl (fun _ => 0))), (h2, .inl (cy 0, 4, .inl (fun _ => 0))), (h3, .inl (cy 0, 5, .inl (fun _ => 0)))] sz) := by
  refine Met.ofW (cc := cX5_clear) (maxL := 1) (ret := none) (by decide) rfl ?_
  intro p e s m args below meth c s₁ B hml hv
  obtain ⟨rfl, hsz, hP, hK, hD0, hNW⟩ := hv
  have hx := B.exec
  have hb := B.bytes
  have hr := B.returns
  have hts : ∀ w ∈ cd_big, w.before _ s = true := fun w hw => atoms_spec (ws := cw_ws yX5_clear cX5_clear 1) B.pre w (List.mem_cons_of_mem _ hw)
  have hown : s.vm.findClass RX5 = some m.cls := findClass_of_methodNamed B.named
  have hlocks := B.notSynchronized
  have hin : meth.name = "clear" := (name_of_methodNamed B.named B.method).1
  subst hsz
  have hD := hD0.self (sz := s.heap.size)
  generalize hAe : va_A [(h0, .inr (5, [.ref h1, .ref h2, .ref h3, .int (0)])), (h1, .inl (cy 0, 24, .inl (fun _ => 0))), (h2, .inl (cy 0, 4, .inl (fun _ => 0))), (h3, .inl (cy 0, 5, .inl (fun _ => 0)))] s.heap.size = A at hD ⊢
  have hA : ∀ q : Nat, s.heap.size ≤ q → A q := fun q h => by rw [← hAe]; exact Or.inr h
  have hS : va_S A s.heap s.heap [] := va_S.rf
  have hP : va_P D cd_cl [(h0, .inr (5, [.ref h1, .ref h2, .ref h3, .int (0)])), (h1, .inl (cy 0, 24, .inl (fun _ => 0))), (h2, .inl (cy 0, 4, .inl (fun _ => 0))), (h3, .inl (cy 0, 5, .inl (fun _ => 0)))] s.heap := hP
  have hC : cw_Cx p s m _ meth c cX5_clear 1 RX5 D cy A := ⟨hx, hb, hml, hown, hts, hK, hNW, hA⟩
  have hl := lv_entry ([.ref h0]) (n := 1) (Nat.le_of_ble_eq_true rfl)
  rw [lg_entry_eq]
  generalize (lg_sl ([.ref h0]) ++ List.replicate (1 - (lg_sl ([.ref h0])).length) Slot.unset).toArray = ls at hl ⊢
  have hl : lv_has ls 1 [(0, .ref h0)] := hl
  refine lv_aload_n hx hb dX5_clear_0 rfl (lv_at hl 0 rfl) ?_
  refine lv_iconst (v := (0)) hx hb dX5_clear_1 (by decide) ?_
  refine va_put (D := D) (ci := 5) (v := .int (0)) (ty := .int) (C := RX5) (T := TX5) (N := 4) hx hb hts cd_lay5 tyX5 tyX5_ok nmX5 hown hK hP hD hS 0 rfl rfl 3 (by decide) (hts (.fieldLink RX5 21 "CadenceDesk$Rules" "cadences" "I") (cd_m 1 110 rfl rfl)) (fun _ h9 => h9) rfl (by decide +kernel) rfl rfl (Nat.le_of_ble_eq_true rfl) dX5_clear_2 (fun H locs hP hD hS => ?_)
  have hP : va_P D cd_cl [(h0, .inr (5, [.ref h1, .ref h2, .ref h3, .int (0)])), (h1, .inl (cy 0, 24, .inl (fun _ => 0))), (h2, .inl (cy 0, 4, .inl (fun _ => 0))), (h3, .inl (cy 0, 5, .inl (fun _ => 0)))] H := hP
  have hD : va_D A [(h0, .inr (5, [.ref h1, .ref h2, .ref h3, .int (0)])), (h1, .inl (cy 0, 24, .inl (fun _ => 0))), (h2, .inl (cy 0, 4, .inl (fun _ => 0))), (h3, .inl (cy 0, 5, .inl (fun _ => 0)))] := hD
  refine lv_aload_n hx hb dX5_clear_5 rfl (lv_at hl 0 rfl) ?_
  refine va_get (D := D) (ci := 5) (v := .ref h3) (C := RX5) (T := TX5) (N := 4) hx hb hts cd_lay5 hown hK hP 0 rfl rfl 2 (by decide) (hts (.fieldLink RX5 18 "CadenceDesk$Rules" "values" "[I") (cd_m 1 109 rfl rfl)) (fun _ h9 => h9) rfl dX5_clear_6 ?_
  refine lv_iconst (v := (0)) hx hb dX5_clear_9 (by decide) ?_
  refine lv_iconst (v := (0)) hx hb dX5_clear_10 (by decide) ?_
  refine va_iast hx hb hK hP hD hS 3 0 rfl rfl (vp_in_nI (n := 0) (N := 5) (by decide) (by decide)) dX5_clear_11 (fun H locs hP hD hS => ?_)
  have hP : va_P D cd_cl [(h0, .inr (5, [.ref h1, .ref h2, .ref h3, .int (0)])), (h1, .inl (cy 0, 24, .inl (fun _ => 0))), (h2, .inl (cy 0, 4, .inl (fun _ => 0))), (h3, .inl (cy 0, 5, .inl (upd (fun _ => 0) 0 (0))))] H := hP
  have hD : va_D A [(h0, .inr (5, [.ref h1, .ref h2, .ref h3, .int (0)])), (h1, .inl (cy 0, 24, .inl (fun _ => 0))), (h2, .inl (cy 0, 4, .inl (fun _ => 0))), (h3, .inl (cy 0, 5, .inl (upd (fun _ => 0) 0 (0))))] := hD
  refine lv_aload_n hx hb dX5_clear_12 rfl (lv_at hl 0 rfl) ?_
  refine va_get (D := D) (ci := 5) (v := .ref h3) (C := RX5) (T := TX5) (N := 4) hx hb hts cd_lay5 hown hK hP 0 rfl rfl 2 (by decide) (hts (.fieldLink RX5 18 "CadenceDesk$Rules" "values" "[I") (cd_m 1 109 rfl rfl)) (fun _ h9 => h9) rfl dX5_clear_13 ?_
  refine lv_iconst (v := (1)) hx hb dX5_clear_16 (by decide) ?_
  refine lv_bipush (v := (40)) hx hb dX5_clear_17 (by decide) ?_
  refine va_iast hx hb hK hP hD hS 3 0 rfl rfl (vp_in_nI (n := 1) (N := 5) (by decide) (by decide)) dX5_clear_19 (fun H locs hP hD hS => ?_)
  have hP : va_P D cd_cl [(h0, .inr (5, [.ref h1, .ref h2, .ref h3, .int (0)])), (h1, .inl (cy 0, 24, .inl (fun _ => 0))), (h2, .inl (cy 0, 4, .inl (fun _ => 0))), (h3, .inl (cy 0, 5, .inl (upd (upd (fun _ => 0) 0 (0)) 1 (40))))] H := hP
  have hD : va_D A [(h0, .inr (5, [.ref h1, .ref h2, .ref h3, .int (0)])), (h1, .inl (cy 0, 24, .inl (fun _ => 0))), (h2, .inl (cy 0, 4, .inl (fun _ => 0))), (h3, .inl (cy 0, 5, .inl (upd (upd (fun _ => 0) 0 (0)) 1 (40))))] := hD
  refine lv_aload_n hx hb dX5_clear_20 rfl (lv_at hl 0 rfl) ?_
  refine va_get (D := D) (ci := 5) (v := .ref h3) (C := RX5) (T := TX5) (N := 4) hx hb hts cd_lay5 hown hK hP 0 rfl rfl 2 (by decide) (hts (.fieldLink RX5 18 "CadenceDesk$Rules" "values" "[I") (cd_m 1 109 rfl rfl)) (fun _ h9 => h9) rfl dX5_clear_21 ?_
  refine lv_iconst (v := (2)) hx hb dX5_clear_24 (by decide) ?_
  refine lv_bipush (v := (10)) hx hb dX5_clear_25 (by decide) ?_
  refine va_iast hx hb hK hP hD hS 3 0 rfl rfl (vp_in_nI (n := 2) (N := 5) (by decide) (by decide)) dX5_clear_27 (fun H locs hP hD hS => ?_)
  have hP : va_P D cd_cl [(h0, .inr (5, [.ref h1, .ref h2, .ref h3, .int (0)])), (h1, .inl (cy 0, 24, .inl (fun _ => 0))), (h2, .inl (cy 0, 4, .inl (fun _ => 0))), (h3, .inl (cy 0, 5, .inl (upd (upd (upd (fun _ => 0) 0 (0)) 1 (40)) 2 (10))))] H := hP
  have hD : va_D A [(h0, .inr (5, [.ref h1, .ref h2, .ref h3, .int (0)])), (h1, .inl (cy 0, 24, .inl (fun _ => 0))), (h2, .inl (cy 0, 4, .inl (fun _ => 0))), (h3, .inl (cy 0, 5, .inl (upd (upd (upd (fun _ => 0) 0 (0)) 1 (40)) 2 (10))))] := hD
  refine lv_aload_n hx hb dX5_clear_28 rfl (lv_at hl 0 rfl) ?_
  refine va_get (D := D) (ci := 5) (v := .ref h3) (C := RX5) (T := TX5) (N := 4) hx hb hts cd_lay5 hown hK hP 0 rfl rfl 2 (by decide) (hts (.fieldLink RX5 18 "CadenceDesk$Rules" "values" "[I") (cd_m 1 109 rfl rfl)) (fun _ h9 => h9) rfl dX5_clear_29 ?_
  refine lv_iconst (v := (3)) hx hb dX5_clear_32 (by decide) ?_
  refine lv_iconst (v := (0)) hx hb dX5_clear_33 (by decide) ?_
  refine va_iast hx hb hK hP hD hS 3 0 rfl rfl (vp_in_nI (n := 3) (N := 5) (by decide) (by decide)) dX5_clear_34 (fun H locs hP hD hS => ?_)
  have hP : va_P D cd_cl [(h0, .inr (5, [.ref h1, .ref h2, .ref h3, .int (0)])), (h1, .inl (cy 0, 24, .inl (fun _ => 0))), (h2, .inl (cy 0, 4, .inl (fun _ => 0))), (h3, .inl (cy 0, 5, .inl (upd (upd (upd (upd (fun _ => 0) 0 (0)) 1 (40)) 2 (10)) 3 (0))))] H := hP
  have hD : va_D A [(h0, .inr (5, [.ref h1, .ref h2, .ref h3, .int (0)])), (h1, .inl (cy 0, 24, .inl (fun _ => 0))), (h2, .inl (cy 0, 4, .inl (fun _ => 0))), (h3, .inl (cy 0, 5, .inl (upd (upd (upd (upd (fun _ => 0) 0 (0)) 1 (40)) 2 (10)) 3 (0))))] := hD
  refine lv_aload_n hx hb dX5_clear_35 rfl (lv_at hl 0 rfl) ?_
  refine va_get (D := D) (ci := 5) (v := .ref h3) (C := RX5) (T := TX5) (N := 4) hx hb hts cd_lay5 hown hK hP 0 rfl rfl 2 (by decide) (hts (.fieldLink RX5 18 "CadenceDesk$Rules" "values" "[I") (cd_m 1 109 rfl rfl)) (fun _ h9 => h9) rfl dX5_clear_36 ?_
  refine lv_iconst (v := (4)) hx hb dX5_clear_39 (by decide) ?_
  refine lv_iconst (v := (0)) hx hb dX5_clear_40 (by decide) ?_
  refine va_iast hx hb hK hP hD hS 3 0 rfl rfl (vp_in_nI (n := 4) (N := 5) (by decide) (by decide)) dX5_clear_41 (fun H locs hP hD hS => ?_)
  have hP : va_P D cd_cl [(h0, .inr (5, [.ref h1, .ref h2, .ref h3, .int (0)])), (h1, .inl (cy 0, 24, .inl (fun _ => 0))), (h2, .inl (cy 0, 4, .inl (fun _ => 0))), (h3, .inl (cy 0, 5, .inl (upd (upd (upd (upd (upd (fun _ => 0) 0 (0)) 1 (40)) 2 (10)) 3 (0)) 4 (0))))] H := hP
  have hD : va_D A [(h0, .inr (5, [.ref h1, .ref h2, .ref h3, .int (0)])), (h1, .inl (cy 0, 24, .inl (fun _ => 0))), (h2, .inl (cy 0, 4, .inl (fun _ => 0))), (h3, .inl (cy 0, 5, .inl (upd (upd (upd (upd (upd (fun _ => 0) 0 (0)) 1 (40)) 2 (10)) 3 (0)) 4 (0))))] := hD
  have hP9 := hP.sub (ws' := [(h0, .inr (5, [.ref h1, .ref h2, .ref h3, .int (0)])), (h1, .inl (cy 0, 24, .inl (fun _ => 0))), (h2, .inl (cy 0, 4, .inl (fun _ => 0))), (h3, .inl (cy 0, 5, .inl (upd (upd (upd (upd (upd (fun _ => 0) 0 (0)) 1 (40)) 2 (10)) 3 (0)) 4 (0))))]) [0, 1, 2, 3] rfl
  have hD9 := hD.sub (ws' := [(h0, .inr (5, [.ref h1, .ref h2, .ref h3, .int (0)])), (h1, .inl (cy 0, 24, .inl (fun _ => 0))), (h2, .inl (cy 0, 4, .inl (fun _ => 0))), (h3, .inl (cy 0, 5, .inl (upd (upd (upd (upd (upd (fun _ => 0) 0 (0)) 1 (40)) 2 (10)) 3 (0)) 4 (0))))]) [0, 1, 2, 3] (by decide) rfl
  exact W.vret hx hb hr (fun t ht hW => ⟨⟨rfl, by rw [ht]; exact hP9, va_K.moved hW.alike hK, hD9⟩, hS.F ht⟩) hS.2.2 dX5_clear_42
