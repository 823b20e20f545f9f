theorem dX5_addCadence_0 : decode cX5_addCadence 0 = .ok (.aload_n 0, 1) := by decide +kernel
theorem dX5_addCadence_1 : decode cX5_addCadence 1 = .ok (.getfield 21, 3) := by decide +kernel
theorem dX5_addCadence_4 : decode cX5_addCadence 4 = .ok (.iconst 4, 1) := by decide +kernel
theorem dX5_addCadence_5 : decode cX5_addCadence 5 = .ok (.if_icmp .ge 23, 3) := by decide +kernel
theorem dX5_addCadence_8 : decode cX5_addCadence 8 = .ok (.aload_n 0, 1) := by decide +kernel
theorem dX5_addCadence_9 : decode cX5_addCadence 9 = .ok (.getfield 15, 3) := by decide +kernel
theorem dX5_addCadence_12 : decode cX5_addCadence 12 = .ok (.aload_n 0, 1) := by decide +kernel
theorem dX5_addCadence_13 : decode cX5_addCadence 13 = .ok (.getfield 21, 3) := by decide +kernel
theorem dX5_addCadence_16 : decode cX5_addCadence 16 = .ok (.iconst 0, 1) := by decide +kernel
theorem dX5_addCadence_17 : decode cX5_addCadence 17 = .ok (.iastore, 1) := by decide +kernel
theorem dX5_addCadence_18 : decode cX5_addCadence 18 = .ok (.aload_n 0, 1) := by decide +kernel
theorem dX5_addCadence_19 : decode cX5_addCadence 19 = .ok (.dup, 1) := by decide +kernel
theorem dX5_addCadence_20 : decode cX5_addCadence 20 = .ok (.getfield 21, 3) := by decide +kernel
theorem dX5_addCadence_23 : decode cX5_addCadence 23 = .ok (.iconst 1, 1) := by decide +kernel
theorem dX5_addCadence_24 : decode cX5_addCadence 24 = .ok (.iadd, 1) := by decide +kernel
theorem dX5_addCadence_25 : decode cX5_addCadence 25 = .ok (.putfield 21, 3) := by decide +kernel
theorem dX5_addCadence_28 : decode cX5_addCadence 28 = .ok (.return_, 1) := by decide +kernel
set_option maxHeartbeats 800000 in
set_option maxRecDepth 100000 in
theorem cw_X5_addCadence_0 (l : Launch) (D : va_G) (cy : Nat → ClassId) (h0 h1 h2 h3 : Nat) (sz : Nat) : Met l yX5_addCadence (cw_ws yX5_addCadence cX5_addCadence 1) ({ frames := 0, cells := 0, slots := 0, locals := 0 }) (cw_Pc D cy [.ref h0] [(h0, .inr (5, [.ref h1, .ref h2, .ref h3, .int (0)])), (h1, .inl (cy 0, 24, .inl (fun _ => 0))), (h2, .inl (cy 0, 4, .inl (fun _ => 0))), (h3, .inl (cy 0, 5, .inl (upd (upd (upd (upd (upd (fun _ => 0) 0 (0)) 1 (40)) 2 (10)) 3 (0)) 4 (0))))] sz) (cw_Q (va_A [(h0, .inr (5, [.ref h1, .ref h2, .ref h3, .int (0)])), (h1, .inl (cy 0, 24, .inl (fun _ => 0))), (h2, .inl (cy 0, 4, .inl (fun _ => 0))), (h3, .inl (cy 0, 5, .inl (upd (upd (upd (upd (upd (fun _ => 0) 0 (0)) 1 (40)) 2 (10)) 3 (0)) 4 (0))))] sz) (fun t => cw_B D cy (va_A [(h0, .inr (5, [.ref h1, .ref h2, .ref h3, .int (0)])), (h1, .inl (cy 0, 24, .inl (fun _ => 0))), (h2, .inl (cy 0, 4, .inl (fun _ => 0))), (h3, .inl (cy 0, 5, .inl (upd (upd (upd (upd (upd (fun _ => 0) 0 (0)) 1 (40)) 2 (10)) 3 (0)) 4 (0))))] sz) [(h0, .inr (5, [.ref h1, .ref h2, .ref h3, .int (1)])), (h1, .inl (cy 0, 24, .inl (fun _ => 0))), (h2, .inl (cy 0, 4, .inl (upd (fun _ => 0) 0 (0)))), (h3, .inl (cy 0, 5, .inl (upd (upd (upd (upd (upd (fun _ => 0) 0 (0)) 1 (40)) 2 (10)) 3 (0)) 4 (0))))] t)) 0 0 (va_A [(h0, .inr (5, [.ref h1, .ref h2, .ref h3, .int (0)])), (h1, .inl (cy 0, 24, .inl (fun _ => 0))), (h2, .inl (cy 0, 4, .inl (fun _ => 0))), (h3, .inl (cy 0, 5, .inl (upd (upd (upd (upd (upd (fun _ => 0) 0 (0)) 1 (40)) 2 (10)) 3 (0)) 4 (0))))] sz) := by
  refine Met.ofW (cc := cX5_addCadence) (maxL := 1) (ret := none) (by decide) rfl ?_
  intro p e s m args below meth c s₁ B hml hv
  obtain ⟨rfl, hsz, hP, hK, hD0, hNW⟩ := hv
  have hx := B.exec
  have hb := B.bytes
  have hr := B.returns
  have hts : ∀ w ∈ cd_big, w.before _ s = true := fun w hw => atoms_spec (ws := cw_ws yX5_addCadence cX5_addCadence 1) B.pre w (List.mem_cons_of_mem _ hw)
  have hown : s.vm.findClass RX5 = some m.cls := findClass_of_methodNamed B.named
  have hlocks := B.notSynchronized
  have hin : meth.name = "addCadence" := (name_of_methodNamed B.named B.method).1
  subst hsz
  have hD := hD0.self (sz := s.heap.size)
  generalize hAe : va_A [(h0, .inr (5, [.ref h1, .ref h2, .ref h3, .int (0)])), (h1, .inl (cy 0, 24, .inl (fun _ => 0))), (h2, .inl (cy 0, 4, .inl (fun _ => 0))), (h3, .inl (cy 0, 5, .inl (upd (upd (upd (upd (upd (fun _ => 0) 0 (0)) 1 (40)) 2 (10)) 3 (0)) 4 (0))))] s.heap.size = A at hD ⊢
  have hA : ∀ q : Nat, s.heap.size ≤ q → A q := fun q h => by rw [← hAe]; exact Or.inr h
  have hS : va_S A s.heap s.heap [] := va_S.rf
  have hP : va_P D cd_cl [(h0, .inr (5, [.ref h1, .ref h2, .ref h3, .int (0)])), (h1, .inl (cy 0, 24, .inl (fun _ => 0))), (h2, .inl (cy 0, 4, .inl (fun _ => 0))), (h3, .inl (cy 0, 5, .inl (upd (upd (upd (upd (upd (fun _ => 0) 0 (0)) 1 (40)) 2 (10)) 3 (0)) 4 (0))))] s.heap := hP
  have hC : cw_Cx p s m _ meth c cX5_addCadence 1 RX5 D cy A := ⟨hx, hb, hml, hown, hts, hK, hNW, hA⟩
  have hl := lv_entry ([.ref h0]) (n := 1) (Nat.le_of_ble_eq_true rfl)
  rw [lg_entry_eq]
  generalize (lg_sl ([.ref h0]) ++ List.replicate (1 - (lg_sl ([.ref h0])).length) Slot.unset).toArray = ls at hl ⊢
  have hl : lv_has ls 1 [(0, .ref h0)] := hl
  refine lv_aload_n hx hb dX5_addCadence_0 rfl (lv_at hl 0 rfl) ?_
  refine va_get (D := D) (ci := 5) (v := .int (0)) (C := RX5) (T := TX5) (N := 4) hx hb hts cd_lay5 hown hK hP 0 rfl rfl 3 (by decide) (hts (.fieldLink RX5 21 "CadenceDesk$Rules" "cadences" "I") (cd_m 1 110 rfl rfl)) (fun _ h9 => h9) rfl dX5_addCadence_1 ?_
  refine lv_iconst (v := (4)) hx hb dX5_addCadence_4 (by decide) ?_
  refine lv_icmp_ge (tgt := 28) hx hb dX5_addCadence_5 (by decide) (fun z => absurd z (by decide)) (fun _ => ?_)
  refine lv_aload_n hx hb dX5_addCadence_8 rfl (lv_at hl 0 rfl) ?_
  refine va_get (D := D) (ci := 5) (v := .ref h2) (C := RX5) (T := TX5) (N := 4) hx hb hts cd_lay5 hown hK hP 0 rfl rfl 1 (by decide) (hts (.fieldLink RX5 15 "CadenceDesk$Rules" "lengths" "[I") (cd_m 1 108 rfl rfl)) (fun _ h9 => h9) rfl dX5_addCadence_9 ?_
  refine lv_aload_n hx hb dX5_addCadence_12 rfl (lv_at hl 0 rfl) ?_
  refine va_get (D := D) (ci := 5) (v := .int (0)) (C := RX5) (T := TX5) (N := 4) hx hb hts cd_lay5 hown hK hP 0 rfl rfl 3 (by decide) (hts (.fieldLink RX5 21 "CadenceDesk$Rules" "cadences" "I") (cd_m 1 110 rfl rfl)) (fun _ h9 => h9) rfl dX5_addCadence_13 ?_
  refine lv_iconst (v := (0)) hx hb dX5_addCadence_16 (by decide) ?_
  refine va_iast hx hb hK hP hD hS 2 0 rfl rfl (vp_in_nI (n := 0) (N := 4) (by decide) (by decide)) dX5_addCadence_17 (fun H locs hP hD hS => ?_)
  have hP : va_P D cd_cl [(h0, .inr (5, [.ref h1, .ref h2, .ref h3, .int (0)])), (h1, .inl (cy 0, 24, .inl (fun _ => 0))), (h2, .inl (cy 0, 4, .inl (upd (fun _ => 0) 0 (0)))), (h3, .inl (cy 0, 5, .inl (upd (upd (upd (upd (upd (fun _ => 0) 0 (0)) 1 (40)) 2 (10)) 3 (0)) 4 (0))))] H := hP
  have hD : va_D A [(h0, .inr (5, [.ref h1, .ref h2, .ref h3, .int (0)])), (h1, .inl (cy 0, 24, .inl (fun _ => 0))), (h2, .inl (cy 0, 4, .inl (upd (fun _ => 0) 0 (0)))), (h3, .inl (cy 0, 5, .inl (upd (upd (upd (upd (upd (fun _ => 0) 0 (0)) 1 (40)) 2 (10)) 3 (0)) 4 (0))))] := hD
  refine lv_aload_n hx hb dX5_addCadence_18 rfl (lv_at hl 0 rfl) ?_
  refine lv_dup hx hb dX5_addCadence_19 rfl ?_
  refine va_get (D := D) (ci := 5) (v := .int (0)) (C := RX5) (T := TX5) (N := 4) hx hb hts cd_lay5 hown hK hP 0 rfl rfl 3 (by decide) (hts (.fieldLink RX5 21 "CadenceDesk$Rules" "cadences" "I") (cd_m 1 110 rfl rfl)) (fun _ h9 => h9) rfl dX5_addCadence_20 ?_
  refine lv_iconst (v := (1)) hx hb dX5_addCadence_23 (by decide) ?_
  refine lv_iadd hx hb dX5_addCadence_24 ?_
  refine W.eq (g2 := F0 m 25 ls [.int (1), .ref h0]) (by rw [show ((0 : Int32) + (1)) = (1) from by decide]) ?_
  refine va_put (D := D) (ci := 5) (v := .int (1)) (ty := .int) (C := RX5) (T := TX5) (N := 4) hx hb hts cd_lay5 tyX5 tyX5_ok nmX5 hown hK hP hD hS 0 rfl rfl 3 (by decide) (hts (.fieldLink RX5 21 "CadenceDesk$Rules" "cadences" "I") (cd_m 1 110 rfl rfl)) (fun _ h9 => h9) rfl (by decide +kernel) rfl rfl (Nat.le_of_ble_eq_true rfl) dX5_addCadence_25 (fun H locs hP hD hS => ?_)
  have hP : va_P D cd_cl [(h0, .inr (5, [.ref h1, .ref h2, .ref h3, .int (1)])), (h1, .inl (cy 0, 24, .inl (fun _ => 0))), (h2, .inl (cy 0, 4, .inl (upd (fun _ => 0) 0 (0)))), (h3, .inl (cy 0, 5, .inl (upd (upd (upd (upd (upd (fun _ => 0) 0 (0)) 1 (40)) 2 (10)) 3 (0)) 4 (0))))] H := hP
  have hD : va_D A [(h0, .inr (5, [.ref h1, .ref h2, .ref h3, .int (1)])), (h1, .inl (cy 0, 24, .inl (fun _ => 0))), (h2, .inl (cy 0, 4, .inl (upd (fun _ => 0) 0 (0)))), (h3, .inl (cy 0, 5, .inl (upd (upd (upd (upd (upd (fun _ => 0) 0 (0)) 1 (40)) 2 (10)) 3 (0)) 4 (0))))] := hD
  have hP9 := hP.sub (ws' := [(h0, .inr (5, [.ref h1, .ref h2, .ref h3, .int (1)])), (h1, .inl (cy 0, 24, .inl (fun _ => 0))), (h2, .inl (cy 0, 4, .inl (upd (fun _ => 0) 0 (0)))), (h3, .inl (cy 0, 5, .inl (upd (upd (upd (upd (upd (fun _ => 0) 0 (0)) 1 (40)) 2 (10)) 3 (0)) 4 (0))))]) [0, 1, 2, 3] rfl
  have hD9 := hD.sub (ws' := [(h0, .inr (5, [.ref h1, .ref h2, .ref h3, .int (1)])), (h1, .inl (cy 0, 24, .inl (fun _ => 0))), (h2, .inl (cy 0, 4, .inl (upd (fun _ => 0) 0 (0)))), (h3, .inl (cy 0, 5, .inl (upd (upd (upd (upd (upd (fun _ => 0) 0 (0)) 1 (40)) 2 (10)) 3 (0)) 4 (0))))]) [0, 1, 2, 3] (by decide) rfl
  exact W.vret hx hb hr (fun t ht hW => ⟨⟨rfl, by rw [ht]; exact hP9, va_K.moved hW.alike hK, hD9⟩, hS.F ht⟩) hS.2.2 dX5_addCadence_28
theorem dX5_addNumber_0 : decode cX5_addNumber 0 = .ok (.aload_n 0, 1) := by decide +kernel
theorem dX5_addNumber_1 : decode cX5_addNumber 1 = .ok (.getfield 21, 3) := by decide +kernel
theorem dX5_addNumber_4 : decode cX5_addNumber 4 = .ok (.iconst 1, 1) := by decide +kernel
theorem dX5_addNumber_5 : decode cX5_addNumber 5 = .ok (.isub, 1) := by decide +kernel
theorem dX5_addNumber_6 : decode cX5_addNumber 6 = .ok (.istore_n 2, 1) := by decide +kernel
theorem dX5_addNumber_7 : decode cX5_addNumber 7 = .ok (.iload_n 2, 1) := by decide +kernel
theorem dX5_addNumber_8 : decode cX5_addNumber 8 = .ok (.ifCond .lt 41, 3) := by decide +kernel
theorem dX5_addNumber_11 : decode cX5_addNumber 11 = .ok (.aload_n 0, 1) := by decide +kernel
theorem dX5_addNumber_12 : decode cX5_addNumber 12 = .ok (.getfield 15, 3) := by decide +kernel
theorem dX5_addNumber_15 : decode cX5_addNumber 15 = .ok (.iload_n 2, 1) := by decide +kernel
theorem dX5_addNumber_16 : decode cX5_addNumber 16 = .ok (.iaload, 1) := by decide +kernel
theorem dX5_addNumber_17 : decode cX5_addNumber 17 = .ok (.bipush 6, 2) := by decide +kernel
theorem dX5_addNumber_19 : decode cX5_addNumber 19 = .ok (.if_icmp .ge 30, 3) := by decide +kernel
theorem dX5_addNumber_22 : decode cX5_addNumber 22 = .ok (.aload_n 0, 1) := by decide +kernel
theorem dX5_addNumber_23 : decode cX5_addNumber 23 = .ok (.getfield 9, 3) := by decide +kernel
theorem dX5_addNumber_26 : decode cX5_addNumber 26 = .ok (.iload_n 2, 1) := by decide +kernel
theorem dX5_addNumber_27 : decode cX5_addNumber 27 = .ok (.bipush 6, 2) := by decide +kernel
theorem dX5_addNumber_29 : decode cX5_addNumber 29 = .ok (.imul, 1) := by decide +kernel
theorem dX5_addNumber_30 : decode cX5_addNumber 30 = .ok (.aload_n 0, 1) := by decide +kernel
theorem dX5_addNumber_31 : decode cX5_addNumber 31 = .ok (.getfield 15, 3) := by decide +kernel
theorem dX5_addNumber_34 : decode cX5_addNumber 34 = .ok (.iload_n 2, 1) := by decide +kernel
theorem dX5_addNumber_35 : decode cX5_addNumber 35 = .ok (.iaload, 1) := by decide +kernel
theorem dX5_addNumber_36 : decode cX5_addNumber 36 = .ok (.iadd, 1) := by decide +kernel
theorem dX5_addNumber_37 : decode cX5_addNumber 37 = .ok (.iload_n 1, 1) := by decide +kernel
theorem dX5_addNumber_38 : decode cX5_addNumber 38 = .ok (.iastore, 1) := by decide +kernel
theorem dX5_addNumber_39 : decode cX5_addNumber 39 = .ok (.aload_n 0, 1) := by decide +kernel
theorem dX5_addNumber_40 : decode cX5_addNumber 40 = .ok (.getfield 15, 3) := by decide +kernel
theorem dX5_addNumber_43 : decode cX5_addNumber 43 = .ok (.iload_n 2, 1) := by decide +kernel
theorem dX5_addNumber_44 : decode cX5_addNumber 44 = .ok (.dup2, 1) := by decide +kernel
theorem dX5_addNumber_45 : decode cX5_addNumber 45 = .ok (.iaload, 1) := by decide +kernel
theorem dX5_addNumber_46 : decode cX5_addNumber 46 = .ok (.iconst 1, 1) := by decide +kernel
theorem dX5_addNumber_47 : decode cX5_addNumber 47 = .ok (.iadd, 1) := by decide +kernel
theorem dX5_addNumber_48 : decode cX5_addNumber 48 = .ok (.iastore, 1) := by decide +kernel
theorem dX5_addNumber_49 : decode cX5_addNumber 49 = .ok (.return_, 1) := by decide +kernel
set_option maxHeartbeats 800000 in
set_option maxRecDepth 100000 in
theorem cw_X5_addNumber_0 (l : Launch) (D : va_G) (cy : Nat → ClassId) (h0 h1 h2 h3 : Nat) (sz : Nat) : Met l yX5_addNumber (cw_ws yX5_addNumber cX5_addNumber 3) ({ frames := 0, cells := 0, slots := 0, locals := 0 }) (cw_Pc D cy [.ref h0, .int (2)] [(h0, .inr (5, [.ref h1, .ref h2, .ref h3, .int (1)])), (h1, .inl (cy 0, 24, .inl (fun _ => 0))), (h2, .inl (cy 0, 4, .inl (upd (fun _ => 0) 0 (0)))), (h3, .inl (cy 0, 5, .inl (upd (upd (upd (upd (upd (fun _ => 0) 0 (0)) 1 (40)) 2 (10)) 3 (0)) 4 (0))))] sz) (cw_Q (va_A [(h0, .inr (5, [.ref h1, .ref h2, .ref h3, .int (1)])), (h1, .inl (cy 0, 24, .inl (fun _ => 0))), (h2, .inl (cy 0, 4, .inl (upd (fun _ => 0) 0 (0)))), (h3, .inl (cy 0, 5, .inl (upd (upd (upd (upd (upd (fun _ => 0) 0 (0)) 1 (40)) 2 (10)) 3 (0)) 4 (0))))] sz) (fun t => cw_B D cy (va_A [(h0, .inr (5, [.ref h1, .ref h2, .ref h3, .int (1)])), (h1, .inl (cy 0, 24, .inl (fun _ => 0))), (h2, .inl (cy 0, 4, .inl (upd (fun _ => 0) 0 (0)))), (h3, .inl (cy 0, 5, .inl (upd (upd (upd (upd (upd (fun _ => 0) 0 (0)) 1 (40)) 2 (10)) 3 (0)) 4 (0))))] sz) [(h0, .inr (5, [.ref h1, .ref h2, .ref h3, .int (1)])), (h1, .inl (cy 0, 24, .inl (upd (fun _ => 0) 0 (2)))), (h2, .inl (cy 0, 4, .inl (upd (upd (fun _ => 0) 0 (0)) 0 (1)))), (h3, .inl (cy 0, 5, .inl (upd (upd (upd (upd (upd (fun _ => 0) 0 (0)) 1 (40)) 2 (10)) 3 (0)) 4 (0))))] t)) 0 0 (va_A [(h0, .inr (5, [.ref h1, .ref h2, .ref h3, .int (1)])), (h1, .inl (cy 0, 24, .inl (fun _ => 0))), (h2, .inl (cy 0, 4, .inl (upd (fun _ => 0) 0 (0)))), (h3, .inl (cy 0, 5, .inl (upd (upd (upd (upd (upd (fun _ => 0) 0 (0)) 1 (40)) 2 (10)) 3 (0)) 4 (0))))] sz) := by
  refine Met.ofW (cc := cX5_addNumber) (maxL := 3) (ret := none) (by decide) rfl ?_
  intro p e s m args below meth c s₁ B hml hv
  obtain ⟨rfl, hsz, hP, hK, hD0, hNW⟩ := hv
  have hx := B.exec
  have hb := B.bytes
  have hr := B.returns
  have hts : ∀ w ∈ cd_big, w.before _ s = true := fun w hw => atoms_spec (ws := cw_ws yX5_addNumber cX5_addNumber 3) B.pre w (List.mem_cons_of_mem _ hw)
  have hown : s.vm.findClass RX5 = some m.cls := findClass_of_methodNamed B.named
  have hlocks := B.notSynchronized
  have hin : meth.name = "addNumber" := (name_of_methodNamed B.named B.method).1
  subst hsz
  have hD := hD0.self (sz := s.heap.size)
  generalize hAe : va_A [(h0, .inr (5, [.ref h1, .ref h2, .ref h3, .int (1)])), (h1, .inl (cy 0, 24, .inl (fun _ => 0))), (h2, .inl (cy 0, 4, .inl (upd (fun _ => 0) 0 (0)))), (h3, .inl (cy 0, 5, .inl (upd (upd (upd (upd (upd (fun _ => 0) 0 (0)) 1 (40)) 2 (10)) 3 (0)) 4 (0))))] s.heap.size = A at hD ⊢
  have hA : ∀ q : Nat, s.heap.size ≤ q → A q := fun q h => by rw [← hAe]; exact Or.inr h
  have hS : va_S A s.heap s.heap [] := va_S.rf
  have hP : va_P D cd_cl [(h0, .inr (5, [.ref h1, .ref h2, .ref h3, .int (1)])), (h1, .inl (cy 0, 24, .inl (fun _ => 0))), (h2, .inl (cy 0, 4, .inl (upd (fun _ => 0) 0 (0)))), (h3, .inl (cy 0, 5, .inl (upd (upd (upd (upd (upd (fun _ => 0) 0 (0)) 1 (40)) 2 (10)) 3 (0)) 4 (0))))] s.heap := hP
  have hC : cw_Cx p s m _ meth c cX5_addNumber 3 RX5 D cy A := ⟨hx, hb, hml, hown, hts, hK, hNW, hA⟩
  have hl := lv_entry ([.ref h0, .int (2)]) (n := 3) (Nat.le_of_ble_eq_true rfl)
  rw [lg_entry_eq]
  generalize (lg_sl ([.ref h0, .int (2)]) ++ List.replicate (3 - (lg_sl ([.ref h0, .int (2)])).length) Slot.unset).toArray = ls at hl ⊢
  have hl : lv_has ls 3 [(0, .ref h0), (1, .int (2))] := hl
  refine lv_aload_n hx hb dX5_addNumber_0 rfl (lv_at hl 0 rfl) ?_
  refine va_get (D := D) (ci := 5) (v := .int (1)) (C := RX5) (T := TX5) (N := 4) hx hb hts cd_lay5 hown hK hP 0 rfl rfl 3 (by decide) (hts (.fieldLink RX5 21 "CadenceDesk$Rules" "cadences" "I") (cd_m 1 110 rfl rfl)) (fun _ h9 => h9) rfl dX5_addNumber_1 ?_
  refine lv_iconst (v := (1)) hx hb dX5_addNumber_4 (by decide) ?_
  refine lv_isub hx hb dX5_addNumber_5 ?_
  refine W.eq (g2 := F0 m 6 ls [.int (0)]) (by rw [show ((1 : Int32) - (1)) = (0) from by decide]) ?_
  refine lv_istore_n (lv' := [(2, .int (0)), (0, .ref h0), (1, .int (2))]) hx hb dX5_addNumber_6 rfl hl (by decide) rfl (fun ls hl => ?_)
  refine lv_iload_n hx hb dX5_addNumber_7 rfl (lv_at hl 0 rfl) ?_
  refine lv_if_lt (tgt := 49) hx hb dX5_addNumber_8 (by decide) (fun z => absurd z (by decide)) (fun _ => ?_)
  refine lv_aload_n hx hb dX5_addNumber_11 rfl (lv_at hl 1 rfl) ?_
  refine va_get (D := D) (ci := 5) (v := .ref h2) (C := RX5) (T := TX5) (N := 4) hx hb hts cd_lay5 hown hK hP 0 rfl rfl 1 (by decide) (hts (.fieldLink RX5 15 "CadenceDesk$Rules" "lengths" "[I") (cd_m 1 108 rfl rfl)) (fun _ h9 => h9) rfl dX5_addNumber_12 ?_
  refine lv_iload_n hx hb dX5_addNumber_15 rfl (lv_at hl 0 rfl) ?_
  refine va_iald hx hb hK hP 2 0 rfl rfl (vp_in_nI (n := 0) (N := 4) (by decide) (by decide)) dX5_addNumber_16 ?_
  refine W.eq (g2 := F0 m 17 ls [.int (0)]) rfl ?_
  refine lv_bipush (v := (6)) hx hb dX5_addNumber_17 (by decide) ?_
  refine lv_icmp_ge (tgt := 49) hx hb dX5_addNumber_19 (by decide) (fun z => absurd z (by decide)) (fun _ => ?_)
  refine lv_aload_n hx hb dX5_addNumber_22 rfl (lv_at hl 1 rfl) ?_
  refine va_get (D := D) (ci := 5) (v := .ref h1) (C := RX5) (T := TX5) (N := 4) hx hb hts cd_lay5 hown hK hP 0 rfl rfl 0 (by decide) (hts (.fieldLink RX5 9 "CadenceDesk$Rules" "numbers" "[I") (cd_m 1 107 rfl rfl)) (fun _ h9 => h9) rfl dX5_addNumber_23 ?_
  refine lv_iload_n hx hb dX5_addNumber_26 rfl (lv_at hl 0 rfl) ?_
  refine lv_bipush (v := (6)) hx hb dX5_addNumber_27 (by decide) ?_
  refine lv_imul hx hb dX5_addNumber_29 ?_
  refine W.eq (g2 := F0 m 30 ls [.int (0), .ref h1]) (by rw [show ((0 : Int32) * (6)) = (0) from by decide]) ?_
  refine lv_aload_n hx hb dX5_addNumber_30 rfl (lv_at hl 1 rfl) ?_
  refine va_get (D := D) (ci := 5) (v := .ref h2) (C := RX5) (T := TX5) (N := 4) hx hb hts cd_lay5 hown hK hP 0 rfl rfl 1 (by decide) (hts (.fieldLink RX5 15 "CadenceDesk$Rules" "lengths" "[I") (cd_m 1 108 rfl rfl)) (fun _ h9 => h9) rfl dX5_addNumber_31 ?_
  refine lv_iload_n hx hb dX5_addNumber_34 rfl (lv_at hl 0 rfl) ?_
  refine va_iald hx hb hK hP 2 0 rfl rfl (vp_in_nI (n := 0) (N := 4) (by decide) (by decide)) dX5_addNumber_35 ?_
  refine W.eq (g2 := F0 m 36 ls [.int (0), .int (0), .ref h1]) rfl ?_
  refine lv_iadd hx hb dX5_addNumber_36 ?_
  refine W.eq (g2 := F0 m 37 ls [.int (0), .ref h1]) (by rw [show ((0 : Int32) + (0)) = (0) from by decide]) ?_
  refine lv_iload_n hx hb dX5_addNumber_37 rfl (lv_at hl 2 rfl) ?_
  refine va_iast hx hb hK hP hD hS 1 0 rfl rfl (vp_in_nI (n := 0) (N := 24) (by decide) (by decide)) dX5_addNumber_38 (fun H locs hP hD hS => ?_)
  have hP : va_P D cd_cl [(h0, .inr (5, [.ref h1, .ref h2, .ref h3, .int (1)])), (h1, .inl (cy 0, 24, .inl (upd (fun _ => 0) 0 (2)))), (h2, .inl (cy 0, 4, .inl (upd (fun _ => 0) 0 (0)))), (h3, .inl (cy 0, 5, .inl (upd (upd (upd (upd (upd (fun _ => 0) 0 (0)) 1 (40)) 2 (10)) 3 (0)) 4 (0))))] H := hP
  have hD : va_D A [(h0, .inr (5, [.ref h1, .ref h2, .ref h3, .int (1)])), (h1, .inl (cy 0, 24, .inl (upd (fun _ => 0) 0 (2)))), (h2, .inl (cy 0, 4, .inl (upd (fun _ => 0) 0 (0)))), (h3, .inl (cy 0, 5, .inl (upd (upd (upd (upd (upd (fun _ => 0) 0 (0)) 1 (40)) 2 (10)) 3 (0)) 4 (0))))] := hD
  refine lv_aload_n hx hb dX5_addNumber_39 rfl (lv_at hl 1 rfl) ?_
  refine va_get (D := D) (ci := 5) (v := .ref h2) (C := RX5) (T := TX5) (N := 4) hx hb hts cd_lay5 hown hK hP 0 rfl rfl 1 (by decide) (hts (.fieldLink RX5 15 "CadenceDesk$Rules" "lengths" "[I") (cd_m 1 108 rfl rfl)) (fun _ h9 => h9) rfl dX5_addNumber_40 ?_
  refine lv_iload_n hx hb dX5_addNumber_43 rfl (lv_at hl 0 rfl) ?_
  refine lv_dup2_11 hx hb dX5_addNumber_44 rfl rfl ?_
  refine va_iald hx hb hK hP 2 0 rfl rfl (vp_in_nI (n := 0) (N := 4) (by decide) (by decide)) dX5_addNumber_45 ?_
  refine W.eq (g2 := F0 m 46 ls [.int (0), .int (0), .ref h2]) rfl ?_
  refine lv_iconst (v := (1)) hx hb dX5_addNumber_46 (by decide) ?_
  refine lv_iadd hx hb dX5_addNumber_47 ?_
  refine W.eq (g2 := F0 m 48 ls [.int (1), .int (0), .ref h2]) (by rw [show ((0 : Int32) + (1)) = (1) from by decide]) ?_
  refine va_iast hx hb hK hP hD hS 2 0 rfl rfl (vp_in_nI (n := 0) (N := 4) (by decide) (by decide)) dX5_addNumber_48 (fun H locs hP hD hS => ?_)
  have hP : va_P D cd_cl [(h0, .inr (5, [.ref h1, .ref h2, .ref h3, .int (1)])), (h1, .inl (cy 0, 24, .inl (upd (fun _ => 0) 0 (2)))), (h2, .inl (cy 0, 4, .inl (upd (upd (fun _ => 0) 0 (0)) 0 (1)))), (h3, .inl (cy 0, 5, .inl (upd (upd (upd (upd (upd (fun _ => 0) 0 (0)) 1 (40)) 2 (10)) 3 (0)) 4 (0))))] H := hP
  have hD : va_D A [(h0, .inr (5, [.ref h1, .ref h2, .ref h3, .int (1)])), (h1, .inl (cy 0, 24, .inl (upd (fun _ => 0) 0 (2)))), (h2, .inl (cy 0, 4, .inl (upd (upd (fun _ => 0) 0 (0)) 0 (1)))), (h3, .inl (cy 0, 5, .inl (upd (upd (upd (upd (upd (fun _ => 0) 0 (0)) 1 (40)) 2 (10)) 3 (0)) 4 (0))))] := hD
  have hP9 := hP.sub (ws' := [(h0, .inr (5, [.ref h1, .ref h2, .ref h3, .int (1)])), (h1, .inl (cy 0, 24, .inl (upd (fun _ => 0) 0 (2)))), (h2, .inl (cy 0, 4, .inl (upd (upd (fun _ => 0) 0 (0)) 0 (1)))), (h3, .inl (cy 0, 5, .inl (upd (upd (upd (upd (upd (fun _ => 0) 0 (0)) 1 (40)) 2 (10)) 3 (0)) 4 (0))))]) [0, 1, 2, 3] rfl
  have hD9 := hD.sub (ws' := [(h0, .inr (5, [.ref h1, .ref h2, .ref h3, .int (1)])), (h1, .inl (cy 0, 24, .inl (upd (fun _ => 0) 0 (2)))), (h2, .inl (cy 0, 4, .inl (upd (upd (fun _ => 0) 0 (0)) 0 (1)))), (h3, .inl (cy 0, 5, .inl (upd (upd (upd (upd (upd (fun _ => 0) 0 (0)) 1 (40)) 2 (10)) 3 (0)) 4 (0))))]) [0, 1, 2, 3] (by decide) rfl
  exact W.vret hx hb hr (fun t ht hW => ⟨⟨rfl, by rw [ht]; exact hP9, va_K.moved hW.alike hK, hD9⟩, hS.F ht⟩) hS.2.2 dX5_addNumber_49
set_option maxHeartbeats 800000 in
set_option maxRecDepth 100000 in
theorem cw_X5_addNumber_1 (l : Launch) (D : va_G) (cy : Nat → ClassId) (h0 h1 h2 h3 : Nat) (sz : Nat) : Met l yX5_addNumber (cw_ws yX5_addNumber cX5_addNumber 3) ({ frames := 0, cells := 0, slots := 0, locals := 0 }) (cw_Pc D cy [.ref h0, .int (3)] [(h0, .inr (5, [.ref h1, .ref h2, .ref h3, .int (1)])), (h1, .inl (cy 0, 24, .inl (upd (fun _ => 0) 0 (2)))), (h2, .inl (cy 0, 4, .inl (upd (upd (fun _ => 0) 0 (0)) 0 (1)))), (h3, .inl (cy 0, 5, .inl (upd (upd (upd (upd (upd (fun _ => 0) 0 (0)) 1 (40)) 2 (10)) 3 (0)) 4 (0))))] sz) (cw_Q (va_A [(h0, .inr (5, [.ref h1, .ref h2, .ref h3, .int (1)])), (h1, .inl (cy 0, 24, .inl (upd (fun _ => 0) 0 (2)))), (h2, .inl (cy 0, 4, .inl (upd (upd (fun _ => 0) 0 (0)) 0 (1)))), (h3, .inl (cy 0, 5, .inl (upd (upd (upd (upd (upd (fun _ => 0) 0 (0)) 1 (40)) 2 (10)) 3 (0)) 4 (0))))] sz) (fun t => cw_B D cy (va_A [(h0, .inr (5, [.ref h1, .ref h2, .ref h3, .int (1)])), (h1, .inl (cy 0, 24, .inl (upd (fun _ => 0) 0 (2)))), (h2, .inl (cy 0, 4, .inl (upd (upd (fun _ => 0) 0 (0)) 0 (1)))), (h3, .inl (cy 0, 5, .inl (upd (upd (upd (upd (upd (fun _ => 0) 0 (0)) 1 (40)) 2 (10)) 3 (0)) 4 (0))))] sz) [(h0, .inr (5, [.ref h1, .ref h2, .ref h3, .int (1)])), (h1, .inl (cy 0, 24, .inl (upd (upd (fun _ => 0) 0 (2)) 1 (3)))), (h2, .inl (cy 0, 4, .inl (upd (upd (upd (fun _ => 0) 0 (0)) 0 (1)) 0 (2)))), (h3, .inl (cy 0, 5, .inl (upd (upd (upd (upd (upd (fun _ => 0) 0 (0)) 1 (40)) 2 (10)) 3 (0)) 4 (0))))] t)) 0 0 (va_A [(h0, .inr (5, [.ref h1, .ref h2, .ref h3, .int (1)])), (h1, .inl (cy 0, 24, .inl (upd (fun _ => 0) 0 (2)))), (h2, .inl (cy 0, 4, .inl (upd (upd (fun _ => 0) 0 (0)) 0 (1)))), (h3, .inl (cy 0, 5, .inl (upd (upd (upd (upd (upd (fun _ => 0) 0 (0)) 1 (40)) 2 (10)) 3 (0)) 4 (0))))] sz) := by
  refine Met.ofW (cc := cX5_addNumber) (maxL := 3) (ret := none) (by decide) rfl ?_
  intro p e s m args below meth c s₁ B hml hv
  obtain ⟨rfl, hsz, hP, hK, hD0, hNW⟩ := hv
  have hx := B.exec
  have hb := B.bytes
  have hr := B.returns
  have hts : ∀ w ∈ cd_big, w.before _ s = true := fun w hw => atoms_spec (ws := cw_ws yX5_addNumber cX5_addNumber 3) B.pre w (List.mem_cons_of_mem _ hw)
  have hown : s.vm.findClass RX5 = some m.cls := findClass_of_methodNamed B.named
  have hlocks := B.notSynchronized
  have hin : meth.name = "addNumber" := (name_of_methodNamed B.named B.method).1
  subst hsz
  have hD := hD0.self (sz := s.heap.size)
  generalize hAe : va_A [(h0, .inr (5, [.ref h1, .ref h2, .ref h3, .int (1)])), (h1, .inl (cy 0, 24, .inl (upd (fun _ => 0) 0 (2)))), (h2, .inl (cy 0, 4, .inl (upd (upd (fun _ => 0) 0 (0)) 0 (1)))), (h3, .inl (cy 0, 5, .inl (upd (upd (upd (upd (upd (fun _ => 0) 0 (0)) 1 (40)) 2 (10)) 3 (0)) 4 (0))))] s.heap.size = A at hD ⊢
  have hA : ∀ q : Nat, s.heap.size ≤ q → A q := fun q h => by rw [← hAe]; exact Or.inr h
  have hS : va_S A s.heap s.heap [] := va_S.rf
  have hP : va_P D cd_cl [(h0, .inr (5, [.ref h1, .ref h2, .ref h3, .int (1)])), (h1, .inl (cy 0, 24, .inl (upd (fun _ => 0) 0 (2)))), (h2, .inl (cy 0, 4, .inl (upd (upd (fun _ => 0) 0 (0)) 0 (1)))), (h3, .inl (cy 0, 5, .inl (upd (upd (upd (upd (upd (fun _ => 0) 0 (0)) 1 (40)) 2 (10)) 3 (0)) 4 (0))))] s.heap := hP
  have hC : cw_Cx p s m _ meth c cX5_addNumber 3 RX5 D cy A := ⟨hx, hb, hml, hown, hts, hK, hNW, hA⟩
  have hl := lv_entry ([.ref h0, .int (3)]) (n := 3) (Nat.le_of_ble_eq_true rfl)
  rw [lg_entry_eq]
  generalize (lg_sl ([.ref h0, .int (3)]) ++ List.replicate (3 - (lg_sl ([.ref h0, .int (3)])).length) Slot.unset).toArray = ls at hl ⊢
  have hl : lv_has ls 3 [(0, .ref h0), (1, .int (3))] := hl
  refine lv_aload_n hx hb dX5_addNumber_0 rfl (lv_at hl 0 rfl) ?_
  refine va_get (D := D) (ci := 5) (v := .int (1)) (C := RX5) (T := TX5) (N := 4) hx hb hts cd_lay5 hown hK hP 0 rfl rfl 3 (by decide) (hts (.fieldLink RX5 21 "CadenceDesk$Rules" "cadences" "I") (cd_m 1 110 rfl rfl)) (fun _ h9 => h9) rfl dX5_addNumber_1 ?_
  refine lv_iconst (v := (1)) hx hb dX5_addNumber_4 (by decide) ?_
  refine lv_isub hx hb dX5_addNumber_5 ?_
  refine W.eq (g2 := F0 m 6 ls [.int (0)]) (by rw [show ((1 : Int32) - (1)) = (0) from by decide]) ?_
  refine lv_istore_n (lv' := [(2, .int (0)), (0, .ref h0), (1, .int (3))]) hx hb dX5_addNumber_6 rfl hl (by decide) rfl (fun ls hl => ?_)
  refine lv_iload_n hx hb dX5_addNumber_7 rfl (lv_at hl 0 rfl) ?_
  refine lv_if_lt (tgt := 49) hx hb dX5_addNumber_8 (by decide) (fun z => absurd z (by decide)) (fun _ => ?_)
  refine lv_aload_n hx hb dX5_addNumber_11 rfl (lv_at hl 1 rfl) ?_
  refine va_get (D := D) (ci := 5) (v := .ref h2) (C := RX5) (T := TX5) (N := 4) hx hb hts cd_lay5 hown hK hP 0 rfl rfl 1 (by decide) (hts (.fieldLink RX5 15 "CadenceDesk$Rules" "lengths" "[I") (cd_m 1 108 rfl rfl)) (fun _ h9 => h9) rfl dX5_addNumber_12 ?_
  refine lv_iload_n hx hb dX5_addNumber_15 rfl (lv_at hl 0 rfl) ?_
  refine va_iald hx hb hK hP 2 0 rfl rfl (vp_in_nI (n := 0) (N := 4) (by decide) (by decide)) dX5_addNumber_16 ?_
  refine W.eq (g2 := F0 m 17 ls [.int (1)]) rfl ?_
  refine lv_bipush (v := (6)) hx hb dX5_addNumber_17 (by decide) ?_
  refine lv_icmp_ge (tgt := 49) hx hb dX5_addNumber_19 (by decide) (fun z => absurd z (by decide)) (fun _ => ?_)
  refine lv_aload_n hx hb dX5_addNumber_22 rfl (lv_at hl 1 rfl) ?_
  refine va_get (D := D) (ci := 5) (v := .ref h1) (C := RX5) (T := TX5) (N := 4) hx hb hts cd_lay5 hown hK hP 0 rfl rfl 0 (by decide) (hts (.fieldLink RX5 9 "CadenceDesk$Rules" "numbers" "[I") (cd_m 1 107 rfl rfl)) (fun _ h9 => h9) rfl dX5_addNumber_23 ?_
  refine lv_iload_n hx hb dX5_addNumber_26 rfl (lv_at hl 0 rfl) ?_
  refine lv_bipush (v := (6)) hx hb dX5_addNumber_27 (by decide) ?_
  refine lv_imul hx hb dX5_addNumber_29 ?_
  refine W.eq (g2 := F0 m 30 ls [.int (0), .ref h1]) (by rw [show ((0 : Int32) * (6)) = (0) from by decide]) ?_
  refine lv_aload_n hx hb dX5_addNumber_30 rfl (lv_at hl 1 rfl) ?_
  refine va_get (D := D) (ci := 5) (v := .ref h2) (C := RX5) (T := TX5) (N := 4) hx hb hts cd_lay5 hown hK hP 0 rfl rfl 1 (by decide) (hts (.fieldLink RX5 15 "CadenceDesk$Rules" "lengths" "[I") (cd_m 1 108 rfl rfl)) (fun _ h9 => h9) rfl dX5_addNumber_31 ?_
  refine lv_iload_n hx hb dX5_addNumber_34 rfl (lv_at hl 0 rfl) ?_
  refine va_iald hx hb hK hP 2 0 rfl rfl (vp_in_nI (n := 0) (N := 4) (by decide) (by decide)) dX5_addNumber_35 ?_
  refine W.eq (g2 := F0 m 36 ls [.int (1), .int (0), .ref h1]) rfl ?_
  refine lv_iadd hx hb dX5_addNumber_36 ?_
  refine W.eq (g2 := F0 m 37 ls [.int (1), .ref h1]) (by rw [show ((0 : Int32) + (1)) = (1) from by decide]) ?_
  refine lv_iload_n hx hb dX5_addNumber_37 rfl (lv_at hl 2 rfl) ?_
  refine va_iast hx hb hK hP hD hS 1 0 rfl rfl (vp_in_nI (n := 1) (N := 24) (by decide) (by decide)) dX5_addNumber_38 (fun H locs hP hD hS => ?_)
  have hP : va_P D cd_cl [(h0, .inr (5, [.ref h1, .ref h2, .ref h3, .int (1)])), (h1, .inl (cy 0, 24, .inl (upd (upd (fun _ => 0) 0 (2)) 1 (3)))), (h2, .inl (cy 0, 4, .inl (upd (upd (fun _ => 0) 0 (0)) 0 (1)))), (h3, .inl (cy 0, 5, .inl (upd (upd (upd (upd (upd (fun _ => 0) 0 (0)) 1 (40)) 2 (10)) 3 (0)) 4 (0))))] H := hP
  have hD : va_D A [(h0, .inr (5, [.ref h1, .ref h2, .ref h3, .int (1)])), (h1, .inl (cy 0, 24, .inl (upd (upd (fun _ => 0) 0 (2)) 1 (3)))), (h2, .inl (cy 0, 4, .inl (upd (upd (fun _ => 0) 0 (0)) 0 (1)))), (h3, .inl (cy 0, 5, .inl (upd (upd (upd (upd (upd (fun _ => 0) 0 (0)) 1 (40)) 2 (10)) 3 (0)) 4 (0))))] := hD
  refine lv_aload_n hx hb dX5_addNumber_39 rfl (lv_at hl 1 rfl) ?_
  refine va_get (D := D) (ci := 5) (v := .ref h2) (C := RX5) (T := TX5) (N := 4) hx hb hts cd_lay5 hown hK hP 0 rfl rfl 1 (by decide) (hts (.fieldLink RX5 15 "CadenceDesk$Rules" "lengths" "[I") (cd_m 1 108 rfl rfl)) (fun _ h9 => h9) rfl dX5_addNumber_40 ?_
  refine lv_iload_n hx hb dX5_addNumber_43 rfl (lv_at hl 0 rfl) ?_
  refine lv_dup2_11 hx hb dX5_addNumber_44 rfl rfl ?_
  refine va_iald hx hb hK hP 2 0 rfl rfl (vp_in_nI (n := 0) (N := 4) (by decide) (by decide)) dX5_addNumber_45 ?_
  refine W.eq (g2 := F0 m 46 ls [.int (1), .int (0), .ref h2]) rfl ?_
  refine lv_iconst (v := (1)) hx hb dX5_addNumber_46 (by decide) ?_
  refine lv_iadd hx hb dX5_addNumber_47 ?_
  refine W.eq (g2 := F0 m 48 ls [.int (2), .int (0), .ref h2]) (by rw [show ((1 : Int32) + (1)) = (2) from by decide]) ?_
  refine va_iast hx hb hK hP hD hS 2 0 rfl rfl (vp_in_nI (n := 0) (N := 4) (by decide) (by decide)) dX5_addNumber_48 (fun H locs hP hD hS => ?_)
  have hP : va_P D cd_cl [(h0, .inr (5, [.ref h1, .ref h2, .ref h3, .int (1)])), (h1, .inl (cy 0, 24, .inl (upd (upd (fun _ => 0) 0 (2)) 1 (3)))), (h2, .inl (cy 0, 4, .inl (upd (upd (upd (fun _ => 0) 0 (0)) 0 (1)) 0 (2)))), (h3, .inl (cy 0, 5, .inl (upd (upd (upd (upd (upd (fun _ => 0) 0 (0)) 1 (40)) 2 (10)) 3 (0)) 4 (0))))] H := hP
  have hD : va_D A [(h0, .inr (5, [.ref h1, .ref h2, .ref h3, .int (1)])), (h1, .inl (cy 0, 24, .inl (upd (upd (fun _ => 0) 0 (2)) 1 (3)))), (h2, .inl (cy 0, 4, .inl (upd (upd (upd (fun _ => 0) 0 (0)) 0 (1)) 0 (2)))), (h3, .inl (cy 0, 5, .inl (upd (upd (upd (upd (upd (fun _ => 0) 0 (0)) 1 (40)) 2 (10)) 3 (0)) 4 (0))))] := hD
  have hP9 := hP.sub (ws' := [(h0, .inr (5, [.ref h1, .ref h2, .ref h3, .int (1)])), (h1, .inl (cy 0, 24, .inl (upd (upd (fun _ => 0) 0 (2)) 1 (3)))), (h2, .inl (cy 0, 4, .inl (upd (upd (upd (fun _ => 0) 0 (0)) 0 (1)) 0 (2)))), (h3, .inl (cy 0, 5, .inl (upd (upd (upd (upd (upd (fun _ => 0) 0 (0)) 1 (40)) 2 (10)) 3 (0)) 4 (0))))]) [0, 1, 2, 3] rfl
  have hD9 := hD.sub (ws' := [(h0, .inr (5, [.ref h1, .ref h2, .ref h3, .int (1)])), (h1, .inl (cy 0, 24, .inl (upd (upd (fun _ => 0) 0 (2)) 1 (3)))), (h2, .inl (cy 0, 4, .inl (upd (upd (upd (fun _ => 0) 0 (0)) 0 (1)) 0 (2)))), (h3, .inl (cy 0, 5, .inl (upd (upd (upd (upd (upd (fun _ => 0) 0 (0)) 1 (40)) 2 (10)) 3 (0)) 4 (0))))]) [0, 1, 2, 3] (by decide) rfl
  exact W.vret hx hb hr (fun t ht hW => ⟨⟨rfl, by rw [ht]; exact hP9, va_K.moved hW.alike hK, hD9⟩, hS.F ht⟩) hS.2.2 dX5_addNumber_49
