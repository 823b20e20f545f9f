theorem dX5_init_0 : decode cX5_init 0 = .ok (.aload_n 0, 1) := by decide +kernel
theorem dX5_init_1 : decode cX5_init 1 = .ok (.invokespecial 3, 3) := by decide +kernel
theorem dX5_init_4 : decode cX5_init 4 = .ok (.aload_n 0, 1) := by decide +kernel
theorem dX5_init_5 : decode cX5_init 5 = .ok (.bipush 24, 2) := by decide +kernel
theorem dX5_init_7 : decode cX5_init 7 = .ok (.newarray .int, 2) := by decide +kernel
theorem dX5_init_9 : decode cX5_init 9 = .ok (.putfield 9, 3) := by decide +kernel
theorem dX5_init_12 : decode cX5_init 12 = .ok (.aload_n 0, 1) := by decide +kernel
theorem dX5_init_13 : decode cX5_init 13 = .ok (.iconst 4, 1) := by decide +kernel
theorem dX5_init_14 : decode cX5_init 14 = .ok (.newarray .int, 2) := by decide +kernel
theorem dX5_init_16 : decode cX5_init 16 = .ok (.putfield 15, 3) := by decide +kernel
theorem dX5_init_19 : decode cX5_init 19 = .ok (.aload_n 0, 1) := by decide +kernel
theorem dX5_init_20 : decode cX5_init 20 = .ok (.iconst 5, 1) := by decide +kernel
theorem dX5_init_21 : decode cX5_init 21 = .ok (.newarray .int, 2) := by decide +kernel
theorem dX5_init_23 : decode cX5_init 23 = .ok (.putfield 18, 3) := by decide +kernel
theorem dX5_init_26 : decode cX5_init 26 = .ok (.aload_n 0, 1) := by decide +kernel
theorem dX5_init_27 : decode cX5_init 27 = .ok (.iconst 0, 1) := by decide +kernel
theorem dX5_init_28 : decode cX5_init 28 = .ok (.putfield 21, 3) := by decide +kernel
theorem dX5_init_31 : decode cX5_init 31 = .ok (.aload_n 0, 1) := by decide +kernel
theorem dX5_init_32 : decode cX5_init 32 = .ok (.invokevirtual 25, 3) := by decide +kernel
theorem dX5_init_35 : decode cX5_init 35 = .ok (.aload_n 0, 1) := by decide +kernel
theorem dX5_init_36 : decode cX5_init 36 = .ok (.invokevirtual 28, 3) := by decide +kernel
theorem dX5_init_39 : decode cX5_init 39 = .ok (.aload_n 0, 1) := by decide +kernel
theorem dX5_init_40 : decode cX5_init 40 = .ok (.iconst 2, 1) := by decide +kernel
theorem dX5_init_41 : decode cX5_init 41 = .ok (.invokevirtual 31, 3) := by decide +kernel
theorem dX5_init_44 : decode cX5_init 44 = .ok (.aload_n 0, 1) := by decide +kernel
theorem dX5_init_45 : decode cX5_init 45 = .ok (.iconst 3, 1) := by decide +kernel
theorem dX5_init_46 : decode cX5_init 46 = .ok (.invokevirtual 31, 3) := by decide +kernel
theorem dX5_init_49 : decode cX5_init 49 = .ok (.return_, 1) := by decide +kernel
set_option maxHeartbeats 800000 in
set_option maxRecDepth 100000 in
theorem cw_X5_init (l : Launch) (D : va_G) (cy : Nat → ClassId) (h0 : Nat) (sz : Nat) : Met l yX5_init (cw_ws yX5_init cX5_init 1) ({ frames := 1, cells := 3, slots := 33, locals := 22 }) (cw_Pc D cy [.ref h0] [(h0, .inr (5, [.null, .null, .null, .int 0]))] sz) (cw_Q (va_A [(h0, .inr (5, [.null, .null, .null, .int 0]))] sz) (fun t => ∃ q7 q14 q21 : Nat, cw_B D cy (va_A [(h0, .inr (5, [.null, .null, .null, .int 0]))] sz) [(h0, .inr (5, [.ref q7, .ref q14, .ref q21, .int (1)])), (q7, .inl (cy 0, 24, .inl (upd (upd (fun _ => 0) 0 (2)) 1 (3)))), (q14, .inl (cy 0, 4, .inl (upd (upd (upd (fun _ => 0) 0 (0)) 0 (1)) 0 (2)))), (q21, .inl (cy 0, 5, .inl (upd (upd (upd (upd (upd (fun _ => 0) 0 (0)) 1 (40)) 2 (10)) 3 (0)) 4 (0))))] t)) 3 33 (va_A [(h0, .inr (5, [.null, .null, .null, .int 0]))] sz) := by
  refine Met.ofW (cc := cX5_init) (maxL := 1) (ret := none) (by decide) rfl ?_
  intro p e s m args below meth c s₁ B hml hv
  obtain ⟨rfl, hsz, hP, hK, hD0, hNW⟩ := hv
  have hx := B.exec
  have hb := B.bytes
  have hr := B.returns
  have hts : ∀ w ∈ cd_big, w.before _ s = true := fun w hw => atoms_spec (ws := cw_ws yX5_init cX5_init 1) B.pre w (List.mem_cons_of_mem _ hw)
  have hown : s.vm.findClass RX5 = some m.cls := findClass_of_methodNamed B.named
  have hlocks := B.notSynchronized
  have hin : meth.name = "<init>" := (name_of_methodNamed B.named B.method).1
  subst hsz
  have hD := hD0.self (sz := s.heap.size)
  generalize hAe : va_A [(h0, .inr (5, [.null, .null, .null, .int 0]))] s.heap.size = A at hD ⊢
  have hA : ∀ q : Nat, s.heap.size ≤ q → A q := fun q h => by rw [← hAe]; exact Or.inr h
  have hS : va_S A s.heap s.heap [] := va_S.rf
  have hP : va_P D cd_cl [(h0, .inr (5, [.null, .null, .null, .int 0]))] s.heap := hP
  have hC : cw_Cx p s m _ meth c cX5_init 1 RX5 D cy A := ⟨hx, hb, hml, hown, hts, hK, hNW, hA⟩
  have hl := lv_entry ([.ref h0]) (n := 1) (Nat.le_of_ble_eq_true rfl)
  rw [lg_entry_eq]
  generalize (lg_sl ([.ref h0]) ++ List.replicate (1 - (lg_sl ([.ref h0])).length) Slot.unset).toArray = ls at hl ⊢
  have hl : lv_has ls 1 [(0, .ref h0)] := hl
  refine lv_aload_n hx hb dX5_init_0 rfl (lv_at hl 0 rfl) ?_
  refine W.objInit hx hb hown (hts (.methodLink RX5 3 objectInit) (cd_m 1 94 rfl rfl)) (hts (.instanceMethod objectInit) (cd_m 1 29 rfl rfl)) (hts (.code objectInit ⟨#[0xb1]⟩ 1 none) (cd_m 1 30 rfl rfl)) rfl (by rw [hml]; exact hl.1) rfl dX5_init_1 (Nat.le_of_ble_eq_true rfl) (Nat.le_of_ble_eq_true rfl) ?_
  refine W.eq (g2 := F0 m 4 ls []) rfl ?_
  refine lv_aload_n hx hb dX5_init_4 rfl (lv_at hl 0 rfl) ?_
  refine lv_bipush (v := (24)) hx hb dX5_init_5 (by decide) ?_
  refine cw_newa (atype := .int) (ty := .int) hC rfl (cd_m 1 65 rfl rfl) 0 rfl (fun z => z) hP hD hS 24 (24, .inl (fun _ => 0)) (fun _ => rfl) (by decide) (by decide) (Nat.le_of_ble_eq_true rfl) (Nat.le_of_ble_eq_true rfl) (Nat.le_of_ble_eq_true rfl) dX5_init_7 (fun q7 H hP hD hS => ?_)
  have hP : va_P D cd_cl [(h0, .inr (5, [.null, .null, .null, .int 0])), (q7, .inl (cy 0, 24, .inl (fun _ => 0)))] H := hP
  have hD : va_D A [(h0, .inr (5, [.null, .null, .null, .int 0])), (q7, .inl (cy 0, 24, .inl (fun _ => 0)))] := hD
  refine W.widen (k := 1) (n := 24) (by omega) (by omega) ?_
  refine va_putF (D := D) (ci := 5) (v := .ref q7) (ty := (.array .int)) (C := RX5) (T := TX5) (N := 4) hx hb hts cd_lay5 tyX5 tyX5_ok nmX5 hown hK hP hD hS 0 rfl rfl 0 (by decide) (hts (.fieldLink RX5 9 "CadenceDesk$Rules" "numbers" "[I") (cd_m 1 107 rfl rfl)) (fun _ h9 => h9) rfl hin rfl (by decide +kernel) rfl rfl (Nat.le_of_ble_eq_true rfl) dX5_init_9 (fun H locs hP hD hS => ?_)
  have hP : va_P D cd_cl [(h0, .inr (5, [.ref q7, .null, .null, .int 0])), (q7, .inl (cy 0, 24, .inl (fun _ => 0)))] H := hP
  have hD : va_D A [(h0, .inr (5, [.ref q7, .null, .null, .int 0])), (q7, .inl (cy 0, 24, .inl (fun _ => 0)))] := hD
  refine lv_aload_n hx hb dX5_init_12 rfl (lv_at hl 0 rfl) ?_
  refine lv_iconst (v := (4)) hx hb dX5_init_13 (by decide) ?_
  refine cw_newa (atype := .int) (ty := .int) hC rfl (cd_m 1 65 rfl rfl) 0 rfl (fun z => z) hP hD hS 4 (4, .inl (fun _ => 0)) (fun _ => rfl) (by decide) (by decide) (Nat.le_of_ble_eq_true rfl) (Nat.le_of_ble_eq_true rfl) (Nat.le_of_ble_eq_true rfl) dX5_init_14 (fun q14 H hP hD hS => ?_)
  have hP : va_P D cd_cl [(h0, .inr (5, [.ref q7, .null, .null, .int 0])), (q7, .inl (cy 0, 24, .inl (fun _ => 0))), (q14, .inl (cy 0, 4, .inl (fun _ => 0)))] H := hP
  have hD : va_D A [(h0, .inr (5, [.ref q7, .null, .null, .int 0])), (q7, .inl (cy 0, 24, .inl (fun _ => 0))), (q14, .inl (cy 0, 4, .inl (fun _ => 0)))] := hD
  refine W.widen (k := 2) (n := 28) (by omega) (by omega) ?_
  refine va_putF (D := D) (ci := 5) (v := .ref q14) (ty := (.array .int)) (C := RX5) (T := TX5) (N := 4) hx hb hts cd_lay5 tyX5 tyX5_ok nmX5 hown hK hP hD hS 0 rfl rfl 1 (by decide) (hts (.fieldLink RX5 15 "CadenceDesk$Rules" "lengths" "[I") (cd_m 1 108 rfl rfl)) (fun _ h9 => h9) rfl hin rfl (by decide +kernel) rfl rfl (Nat.le_of_ble_eq_true rfl) dX5_init_16 (fun H locs hP hD hS => ?_)
  have hP : va_P D cd_cl [(h0, .inr (5, [.ref q7, .ref q14, .null, .int 0])), (q7, .inl (cy 0, 24, .inl (fun _ => 0))), (q14, .inl (cy 0, 4, .inl (fun _ => 0)))] H := hP
  have hD : va_D A [(h0, .inr (5, [.ref q7, .ref q14, .null, .int 0])), (q7, .inl (cy 0, 24, .inl (fun _ => 0))), (q14, .inl (cy 0, 4, .inl (fun _ => 0)))] := hD
  refine lv_aload_n hx hb dX5_init_19 rfl (lv_at hl 0 rfl) ?_
  refine lv_iconst (v := (5)) hx hb dX5_init_20 (by decide) ?_
  refine cw_newa (atype := .int) (ty := .int) hC rfl (cd_m 1 65 rfl rfl) 0 rfl (fun z => z) hP hD hS 5 (5, .inl (fun _ => 0)) (fun _ => rfl) (by decide) (by decide) (Nat.le_of_ble_eq_true rfl) (Nat.le_of_ble_eq_true rfl) (Nat.le_of_ble_eq_true rfl) dX5_init_21 (fun q21 H hP hD hS => ?_)
  have hP : va_P D cd_cl [(h0, .inr (5, [.ref q7, .ref q14, .null, .int 0])), (q7, .inl (cy 0, 24, .inl (fun _ => 0))), (q14, .inl (cy 0, 4, .inl (fun _ => 0))), (q21, .inl (cy 0, 5, .inl (fun _ => 0)))] H := hP
  have hD : va_D A [(h0, .inr (5, [.ref q7, .ref q14, .null, .int 0])), (q7, .inl (cy 0, 24, .inl (fun _ => 0))), (q14, .inl (cy 0, 4, .inl (fun _ => 0))), (q21, .inl (cy 0, 5, .inl (fun _ => 0)))] := hD
  refine W.widen (k := 3) (n := 33) (by omega) (by omega) ?_
  refine va_putF (D := D) (ci := 5) (v := .ref q21) (ty := (.array .int)) (C := RX5) (T := TX5) (N := 4) hx hb hts cd_lay5 tyX5 tyX5_ok nmX5 hown hK hP hD hS 0 rfl rfl 2 (by decide) (hts (.fieldLink RX5 18 "CadenceDesk$Rules" "values" "[I") (cd_m 1 109 rfl rfl)) (fun _ h9 => h9) rfl hin rfl (by decide +kernel) rfl rfl (Nat.le_of_ble_eq_true rfl) dX5_init_23 (fun H locs hP hD hS => ?_)
  have hP : va_P D cd_cl [(h0, .inr (5, [.ref q7, .ref q14, .ref q21, .int 0])), (q7, .inl (cy 0, 24, .inl (fun _ => 0))), (q14, .inl (cy 0, 4, .inl (fun _ => 0))), (q21, .inl (cy 0, 5, .inl (fun _ => 0)))] H := hP
  have hD : va_D A [(h0, .inr (5, [.ref q7, .ref q14, .ref q21, .int 0])), (q7, .inl (cy 0, 24, .inl (fun _ => 0))), (q14, .inl (cy 0, 4, .inl (fun _ => 0))), (q21, .inl (cy 0, 5, .inl (fun _ => 0)))] := hD
  refine lv_aload_n hx hb dX5_init_26 rfl (lv_at hl 0 rfl) ?_
  refine lv_iconst (v := (0)) hx hb dX5_init_27 (by decide) ?_
  refine va_put (D := D) (ci := 5) (v := .int (0)) (ty := .int) (C := RX5) (T := TX5) (N := 4) hx hb hts cd_lay5 tyX5 tyX5_ok nmX5 hown hK hP hD hS 0 rfl rfl 3 (by decide) (hts (.fieldLink RX5 21 "CadenceDesk$Rules" "cadences" "I") (cd_m 1 110 rfl rfl)) (fun _ h9 => h9) rfl (by decide +kernel) rfl rfl (Nat.le_of_ble_eq_true rfl) dX5_init_28 (fun H locs hP hD hS => ?_)
  have hP : va_P D cd_cl [(h0, .inr (5, [.ref q7, .ref q14, .ref q21, .int (0)])), (q7, .inl (cy 0, 24, .inl (fun _ => 0))), (q14, .inl (cy 0, 4, .inl (fun _ => 0))), (q21, .inl (cy 0, 5, .inl (fun _ => 0)))] H := hP
  have hD : va_D A [(h0, .inr (5, [.ref q7, .ref q14, .ref q21, .int (0)])), (q7, .inl (cy 0, 24, .inl (fun _ => 0))), (q14, .inl (cy 0, 4, .inl (fun _ => 0))), (q21, .inl (cy 0, 5, .inl (fun _ => 0)))] := hD
  refine lv_aload_n hx hb dX5_init_31 rfl (lv_at hl 0 rfl) ?_
  have hPc := hP.sub (ws' := [(h0, .inr (5, [.ref q7, .ref q14, .ref q21, .int (0)])), (q7, .inl (cy 0, 24, .inl (fun _ => 0))), (q14, .inl (cy 0, 4, .inl (fun _ => 0))), (q21, .inl (cy 0, 5, .inl (fun _ => 0)))]) [0, 1, 2, 3] rfl
  have hDc := hD.sub (ws' := [(h0, .inr (5, [.ref q7, .ref q14, .ref q21, .int (0)])), (q7, .inl (cy 0, 24, .inl (fun _ => 0))), (q14, .inl (cy 0, 4, .inl (fun _ => 0))), (q21, .inl (cy 0, 5, .inl (fun _ => 0)))]) [0, 1, 2, 3] (by decide) rfl
  refine cw_after (cy := cy) (wc := [(h0, .inr (5, [.ref q7, .ref q14, .ref q21, .int (0)])), (q7, .inl (cy 0, 24, .inl (fun _ => 0))), (q14, .inl (cy 0, 4, .inl (fun _ => 0))), (q21, .inl (cy 0, 5, .inl (fun _ => 0)))]) (wr := []) hP hD hA [0, 1, 2, 3] [] rfl rfl (by decide) (by decide) hS (va_runV (C := RX5) (As := []) (rest := []) (nL := 1) (Ts := cd_big) (own := RX5) ⟨hx, hb, hml, hown, hts⟩ (cw_X5_clear_0 l D cy h0 q7 q14 q21 H.size) (cwV 0 hts (fun w hw => (List.mem_append.mp hw).elim (fun h => by
      simp only [List.mem_cons, List.not_mem_nil, or_false] at h
      rcases h with h | h | h | h
      · rw [h]; exact cd_goodW (cd_m 1 95 rfl rfl)
      · rw [h]; exact cd_goodW (cd_m 1 96 rfl rfl)
      · rw [h]; exact cd_goodW (cd_m 1 97 rfl rfl)
      · rw [h]; exact cd_goodW (cd_m 1 6 rfl rfl)) (fun h => cw_good (cd_m 1 98 rfl rfl) w h)) rfl rfl rfl (by decide +kernel) ⟨Nat.le_of_ble_eq_true rfl, Nat.le_of_ble_eq_true rfl⟩) ⟨cw_blind _ _ _, va_recv hK hPc (ci := 5) (q0 := 0) rfl rfl, cw_pre hC hPc hDc rfl⟩ rfl rfl hl.1 rfl (lv_room (Nat.le_of_ble_eq_true rfl)) dX5_init_32 ⟨Nat.le_of_ble_eq_true rfl, Nat.le_of_ble_eq_true rfl⟩) (fun t H locs ht hB hJ hS => ?_)
  obtain ⟨hP, hD⟩ := hJ _ hB
  have hP : va_P D cd_cl [(h0, .inr (5, [.ref q7, .ref q14, .ref q21, .int (0)])), (q7, .inl (cy 0, 24, .inl (fun _ => 0))), (q14, .inl (cy 0, 4, .inl (fun _ => 0))), (q21, .inl (cy 0, 5, .inl (upd (upd (upd (upd (upd (fun _ => 0) 0 (0)) 1 (40)) 2 (10)) 3 (0)) 4 (0))))] H := hP
  have hD : va_D A [(h0, .inr (5, [.ref q7, .ref q14, .ref q21, .int (0)])), (q7, .inl (cy 0, 24, .inl (fun _ => 0))), (q14, .inl (cy 0, 4, .inl (fun _ => 0))), (q21, .inl (cy 0, 5, .inl (upd (upd (upd (upd (upd (fun _ => 0) 0 (0)) 1 (40)) 2 (10)) 3 (0)) 4 (0))))] := hD
  refine lv_aload_n hx hb dX5_init_35 rfl (lv_at hl 0 rfl) ?_
  have hPc := hP.sub (ws' := [(h0, .inr (5, [.ref q7, .ref q14, .ref q21, .int (0)])), (q7, .inl (cy 0, 24, .inl (fun _ => 0))), (q14, .inl (cy 0, 4, .inl (fun _ => 0))), (q21, .inl (cy 0, 5, .inl (upd (upd (upd (upd (upd (fun _ => 0) 0 (0)) 1 (40)) 2 (10)) 3 (0)) 4 (0))))]) [0, 1, 2, 3] rfl
  have hDc := hD.sub (ws' := [(h0, .inr (5, [.ref q7, .ref q14, .ref q21, .int (0)])), (q7, .inl (cy 0, 24, .inl (fun _ => 0))), (q14, .inl (cy 0, 4, .inl (fun _ => 0))), (q21, .inl (cy 0, 5, .inl (upd (upd (upd (upd (upd (fun _ => 0) 0 (0)) 1 (40)) 2 (10)) 3 (0)) 4 (0))))]) [0, 1, 2, 3] (by decide) rfl
  refine cw_after (cy := cy) (wc := [(h0, .inr (5, [.ref q7, .ref q14, .ref q21, .int (0)])), (q7, .inl (cy 0, 24, .inl (fun _ => 0))), (q14, .inl (cy 0, 4, .inl (fun _ => 0))), (q21, .inl (cy 0, 5, .inl (upd (upd (upd (upd (upd (fun _ => 0) 0 (0)) 1 (40)) 2 (10)) 3 (0)) 4 (0))))]) (wr := []) hP hD hA [0, 1, 2, 3] [] rfl rfl (by decide) (by decide) hS (va_runV (C := RX5) (As := []) (rest := []) (nL := 1) (Ts := cd_big) (own := RX5) ⟨hx, hb, hml, hown, hts⟩ (cw_X5_addCadence_0 l D cy h0 q7 q14 q21 H.size) (cwV 0 hts (fun w hw => (List.mem_append.mp hw).elim (fun h => by
      simp only [List.mem_cons, List.not_mem_nil, or_false] at h
      rcases h with h | h | h | h
      · rw [h]; exact cd_goodW (cd_m 1 99 rfl rfl)
      · rw [h]; exact cd_goodW (cd_m 1 100 rfl rfl)
      · rw [h]; exact cd_goodW (cd_m 1 101 rfl rfl)
      · rw [h]; exact cd_goodW (cd_m 1 6 rfl rfl)) (fun h => cw_good (cd_m 1 102 rfl rfl) w h)) rfl rfl rfl (by decide +kernel) ⟨Nat.le_of_ble_eq_true rfl, Nat.le_of_ble_eq_true rfl⟩) ⟨cw_blind _ _ _, va_recv hK hPc (ci := 5) (q0 := 0) rfl rfl, cw_pre hC hPc hDc rfl⟩ rfl rfl hl.1 rfl (lv_room (Nat.le_of_ble_eq_true rfl)) dX5_init_36 ⟨Nat.le_of_ble_eq_true rfl, Nat.le_of_ble_eq_true rfl⟩) (fun t H locs ht hB hJ hS => ?_)
  obtain ⟨hP, hD⟩ := hJ _ hB
  have hP : va_P D cd_cl [(h0, .inr (5, [.ref q7, .ref q14, .ref q21, .int (1)])), (q7, .inl (cy 0, 24, .inl (fun _ => 0))), (q14, .inl (cy 0, 4, .inl (upd (fun _ => 0) 0 (0)))), (q21, .inl (cy 0, 5, .inl (upd (upd (upd (upd (upd (fun _ => 0) 0 (0)) 1 (40)) 2 (10)) 3 (0)) 4 (0))))] H := hP
  have hD : va_D A [(h0, .inr (5, [.ref q7, .ref q14, .ref q21, .int (1)])), (q7, .inl (cy 0, 24, .inl (fun _ => 0))), (q14, .inl (cy 0, 4, .inl (upd (fun _ => 0) 0 (0)))), (q21, .inl (cy 0, 5, .inl (upd (upd (upd (upd (upd (fun _ => 0) 0 (0)) 1 (40)) 2 (10)) 3 (0)) 4 (0))))] := hD
  refine lv_aload_n hx hb dX5_init_39 rfl (lv_at hl 0 rfl) ?_
  refine lv_iconst (v := (2)) hx hb dX5_init_40 (by decide) ?_
  have hPc := hP.sub (ws' := [(h0, .inr (5, [.ref q7, .ref q14, .ref q21, .int (1)])), (q7, .inl (cy 0, 24, .inl (fun _ => 0))), (q14, .inl (cy 0, 4, .inl (upd (fun _ => 0) 0 (0)))), (q21, .inl (cy 0, 5, .inl (upd (upd (upd (upd (upd (fun _ => 0) 0 (0)) 1 (40)) 2 (10)) 3 (0)) 4 (0))))]) [0, 1, 2, 3] rfl
  have hDc := hD.sub (ws' := [(h0, .inr (5, [.ref q7, .ref q14, .ref q21, .int (1)])), (q7, .inl (cy 0, 24, .inl (fun _ => 0))), (q14, .inl (cy 0, 4, .inl (upd (fun _ => 0) 0 (0)))), (q21, .inl (cy 0, 5, .inl (upd (upd (upd (upd (upd (fun _ => 0) 0 (0)) 1 (40)) 2 (10)) 3 (0)) 4 (0))))]) [0, 1, 2, 3] (by decide) rfl
  refine cw_after (cy := cy) (wc := [(h0, .inr (5, [.ref q7, .ref q14, .ref q21, .int (1)])), (q7, .inl (cy 0, 24, .inl (fun _ => 0))), (q14, .inl (cy 0, 4, .inl (upd (fun _ => 0) 0 (0)))), (q21, .inl (cy 0, 5, .inl (upd (upd (upd (upd (upd (fun _ => 0) 0 (0)) 1 (40)) 2 (10)) 3 (0)) 4 (0))))]) (wr := []) hP hD hA [0, 1, 2, 3] [] rfl rfl (by decide) (by decide) hS (va_runV (C := RX5) (As := [.int (2)]) (rest := []) (nL := 1) (Ts := cd_big) (own := RX5) ⟨hx, hb, hml, hown, hts⟩ (cw_X5_addNumber_0 l D cy h0 q7 q14 q21 H.size) (cwV 1 hts (fun w hw => (List.mem_append.mp hw).elim (fun h => by
      simp only [List.mem_cons, List.not_mem_nil, or_false] at h
      rcases h with h | h | h | h
      · rw [h]; exact cd_goodW (cd_m 1 103 rfl rfl)
      · rw [h]; exact cd_goodW (cd_m 1 104 rfl rfl)
      · rw [h]; exact cd_goodW (cd_m 1 105 rfl rfl)
      · rw [h]; exact cd_goodW (cd_m 1 6 rfl rfl)) (fun h => cw_good (cd_m 1 106 rfl rfl) w h)) rfl rfl rfl (by decide +kernel) ⟨Nat.le_of_ble_eq_true rfl, Nat.le_of_ble_eq_true rfl⟩) ⟨cw_blind _ _ _, va_recv hK hPc (ci := 5) (q0 := 0) rfl rfl, cw_pre hC hPc hDc rfl⟩ rfl rfl hl.1 rfl (lv_room (Nat.le_of_ble_eq_true rfl)) dX5_init_41 ⟨Nat.le_of_ble_eq_true rfl, Nat.le_of_ble_eq_true rfl⟩) (fun t H locs ht hB hJ hS => ?_)
  obtain ⟨hP, hD⟩ := hJ _ hB
  have hP : va_P D cd_cl [(h0, .inr (5, [.ref q7, .ref q14, .ref q21, .int (1)])), (q7, .inl (cy 0, 24, .inl (upd (fun _ => 0) 0 (2)))), (q14, .inl (cy 0, 4, .inl (upd (upd (fun _ => 0) 0 (0)) 0 (1)))), (q21, .inl (cy 0, 5, .inl (upd (upd (upd (upd (upd (fun _ => 0) 0 (0)) 1 (40)) 2 (10)) 3 (0)) 4 (0))))] H := hP
  have hD : va_D A [(h0, .inr (5, [.ref q7, .ref q14, .ref q21, .int (1)])), (q7, .inl (cy 0, 24, .inl (upd (fun _ => 0) 0 (2)))), (q14, .inl (cy 0, 4, .inl (upd (upd (fun _ => 0) 0 (0)) 0 (1)))), (q21, .inl (cy 0, 5, .inl (upd (upd (upd (upd (upd (fun _ => 0) 0 (0)) 1 (40)) 2 (10)) 3 (0)) 4 (0))))] := hD
  refine lv_aload_n hx hb dX5_init_44 rfl (lv_at hl 0 rfl) ?_
  refine lv_iconst (v := (3)) hx hb dX5_init_45 (by decide) ?_
  have hPc := hP.sub (ws' := [(h0, .inr (5, [.ref q7, .ref q14, .ref q21, .int (1)])), (q7, .inl (cy 0, 24, .inl (upd (fun _ => 0) 0 (2)))), (q14, .inl (cy 0, 4, .inl (upd (upd (fun _ => 0) 0 (0)) 0 (1)))), (q21, .inl (cy 0, 5, .inl (upd (upd (upd (upd (upd (fun _ => 0) 0 (0)) 1 (40)) 2 (10)) 3 (0)) 4 (0))))]) [0, 1, 2, 3] rfl
  have hDc := hD.sub (ws' := [(h0, .inr (5, [.ref q7, .ref q14, .ref q21, .int (1)])), (q7, .inl (cy 0, 24, .inl (upd (fun _ => 0) 0 (2)))), (q14, .inl (cy 0, 4, .inl (upd (upd (fun _ => 0) 0 (0)) 0 (1)))), (q21, .inl (cy 0, 5, .inl (upd (upd (upd (upd (upd (fun _ => 0) 0 (0)) 1 (40)) 2 (10)) 3 (0)) 4 (0))))]) [0, 1, 2, 3] (by decide) rfl
  refine cw_after (cy := cy) (wc := [(h0, .inr (5, [.ref q7, .ref q14, .ref q21, .int (1)])), (q7, .inl (cy 0, 24, .inl (upd (fun _ => 0) 0 (2)))), (q14, .inl (cy 0, 4, .inl (upd (upd (fun _ => 0) 0 (0)) 0 (1)))), (q21, .inl (cy 0, 5, .inl (upd (upd (upd (upd (upd (fun _ => 0) 0 (0)) 1 (40)) 2 (10)) 3 (0)) 4 (0))))]) (wr := []) hP hD hA [0, 1, 2, 3] [] rfl rfl (by decide) (by decide) hS (va_runV (C := RX5) (As := [.int (3)]) (rest := []) (nL := 1) (Ts := cd_big) (own := RX5) ⟨hx, hb, hml, hown, hts⟩ (cw_X5_addNumber_1 l D cy h0 q7 q14 q21 H.size) (cwV 1 hts (fun w hw => (List.mem_append.mp hw).elim (fun h => by
      simp only [List.mem_cons, List.not_mem_nil, or_false] at h
      rcases h with h | h | h | h
      · rw [h]; exact cd_goodW (cd_m 1 103 rfl rfl)
      · rw [h]; exact cd_goodW (cd_m 1 104 rfl rfl)
      · rw [h]; exact cd_goodW (cd_m 1 105 rfl rfl)
      · rw [h]; exact cd_goodW (cd_m 1 6 rfl rfl)) (fun h => cw_good (cd_m 1 106 rfl rfl) w h)) rfl rfl rfl (by decide +kernel) ⟨Nat.le_of_ble_eq_true rfl, Nat.le_of_ble_eq_true rfl⟩) ⟨cw_blind _ _ _, va_recv hK hPc (ci := 5) (q0 := 0) rfl rfl, cw_pre hC hPc hDc rfl⟩ rfl rfl hl.1 rfl (lv_room (Nat.le_of_ble_eq_true rfl)) dX5_init_46 ⟨Nat.le_of_ble_eq_true rfl, Nat.le_of_ble_eq_true rfl⟩) (fun t H locs ht hB hJ hS => ?_)
  obtain ⟨hP, hD⟩ := hJ _ hB
  have hP : va_P D cd_cl [(h0, .inr (5, [.ref q7, .ref q14, .ref q21, .int (1)])), (q7, .inl (cy 0, 24, .inl (upd (upd (fun _ => 0) 0 (2)) 1 (3)))), (q14, .inl (cy 0, 4, .inl (upd (upd (upd (fun _ => 0) 0 (0)) 0 (1)) 0 (2)))), (q21, .inl (cy 0, 5, .inl (upd (upd (upd (upd (upd (fun _ => 0) 0 (0)) 1 (40)) 2 (10)) 3 (0)) 4 (0))))] H := hP
  have hD : va_D A [(h0, .inr (5, [.ref q7, .ref q14, .ref q21, .int (1)])), (q7, .inl (cy 0, 24, .inl (upd (upd (fun _ => 0) 0 (2)) 1 (3)))), (q14, .inl (cy 0, 4, .inl (upd (upd (upd (fun _ => 0) 0 (0)) 0 (1)) 0 (2)))), (q21, .inl (cy 0, 5, .inl (upd (upd (upd (upd (upd (fun _ => 0) 0 (0)) 1 (40)) 2 (10)) 3 (0)) 4 (0))))] := hD
  have hP9 := hP.sub (ws' := [(h0, .inr (5, [.ref q7, .ref q14, .ref q21, .int (1)])), (q7, .inl (cy 0, 24, .inl (upd (upd (fun _ => 0) 0 (2)) 1 (3)))), (q14, .inl (cy 0, 4, .inl (upd (upd (upd (fun _ => 0) 0 (0)) 0 (1)) 0 (2)))), (q21, .inl (cy 0, 5, .inl (upd (upd (upd (upd (upd (fun _ => 0) 0 (0)) 1 (40)) 2 (10)) 3 (0)) 4 (0))))]) [0, 1, 2, 3] rfl
  have hD9 := hD.sub (ws' := [(h0, .inr (5, [.ref q7, .ref q14, .ref q21, .int (1)])), (q7, .inl (cy 0, 24, .inl (upd (upd (fun _ => 0) 0 (2)) 1 (3)))), (q14, .inl (cy 0, 4, .inl (upd (upd (upd (fun _ => 0) 0 (0)) 0 (1)) 0 (2)))), (q21, .inl (cy 0, 5, .inl (upd (upd (upd (upd (upd (fun _ => 0) 0 (0)) 1 (40)) 2 (10)) 3 (0)) 4 (0))))]) [0, 1, 2, 3] (by decide) rfl
  exact W.vret hx hb hr (fun t ht hW => ⟨⟨rfl, q7, q14, q21, by rw [ht]; exact hP9, va_K.moved hW.alike hK, hD9⟩, hS.F ht⟩) hS.2.2 dX5_init_49
theorem dX8_init_0 : decode cX8_init 0 = .ok (.aload_n 0, 1) := by decide +kernel
theorem dX8_init_1 : decode cX8_init 1 = .ok (.invokespecial 3, 3) := by decide +kernel
theorem dX8_init_4 : decode cX8_init 4 = .ok (.aload_n 0, 1) := by decide +kernel
theorem dX8_init_5 : decode cX8_init 5 = .ok (.new 9, 3) := by decide +kernel
theorem dX8_init_8 : decode cX8_init 8 = .ok (.dup, 1) := by decide +kernel
theorem dX8_init_9 : decode cX8_init 9 = .ok (.invokespecial 11, 3) := by decide +kernel
theorem dX8_init_12 : decode cX8_init 12 = .ok (.putfield 12, 3) := by decide +kernel
theorem dX8_init_15 : decode cX8_init 15 = .ok (.aload_n 0, 1) := by decide +kernel
theorem dX8_init_16 : decode cX8_init 16 = .ok (.new 18, 3) := by decide +kernel
theorem dX8_init_19 : decode cX8_init 19 = .ok (.dup, 1) := by decide +kernel
theorem dX8_init_20 : decode cX8_init 20 = .ok (.bipush 20, 2) := by decide +kernel
theorem dX8_init_22 : decode cX8_init 22 = .ok (.invokespecial 20, 3) := by decide +kernel
theorem dX8_init_25 : decode cX8_init 25 = .ok (.putfield 23, 3) := by decide +kernel
theorem dX8_init_28 : decode cX8_init 28 = .ok (.aload_n 0, 1) := by decide +kernel
theorem dX8_init_29 : decode cX8_init 29 = .ok (.new 27, 3) := by decide +kernel
theorem dX8_init_32 : decode cX8_init 32 = .ok (.dup, 1) := by decide +kernel
theorem dX8_init_33 : decode cX8_init 33 = .ok (.invokespecial 29, 3) := by decide +kernel
theorem dX8_init_36 : decode cX8_init 36 = .ok (.putfield 30, 3) := by decide +kernel
theorem dX8_init_39 : decode cX8_init 39 = .ok (.aload_n 0, 1) := by decide +kernel
theorem dX8_init_40 : decode cX8_init 40 = .ok (.iconst 0, 1) := by decide +kernel
theorem dX8_init_41 : decode cX8_init 41 = .ok (.putfield 34, 3) := by decide +kernel
theorem dX8_init_44 : decode cX8_init 44 = .ok (.aload_n 0, 1) := by decide +kernel
theorem dX8_init_45 : decode cX8_init 45 = .ok (.iconst 0, 1) := by decide +kernel
theorem dX8_init_46 : decode cX8_init 46 = .ok (.putfield 38, 3) := by decide +kernel
theorem dX8_init_49 : decode cX8_init 49 = .ok (.aload_n 0, 1) := by decide +kernel
theorem dX8_init_50 : decode cX8_init 50 = .ok (.iconst 0, 1) := by decide +kernel
theorem dX8_init_51 : decode cX8_init 51 = .ok (.putfield 41, 3) := by decide +kernel
theorem dX8_init_54 : decode cX8_init 54 = .ok (.return_, 1) := by decide +kernel
set_option maxHeartbeats 800000 in
set_option maxRecDepth 100000 in
theorem cw_X8_init (l : Launch) (D : va_G) (cy : Nat → ClassId) (h0 : Nat) (sz : Nat) : Met l yX8_init (cw_ws yX8_init cX8_init 1) ({ frames := 2, cells := 9, slots := 313, locals := 44 }) (cw_Pc D cy [.ref h0] [(h0, .inr (8, [.null, .null, .null, .int 0, .int 0, .int 0]))] sz) (cw_Q (va_A [(h0, .inr (8, [.null, .null, .null, .int 0, .int 0, .int 0]))] sz) (fun t => ∃ q5 q9_q8 q16 q22_q22 q22_q29 q29 q33_q7 q33_q14 q33_q21 : Nat, cw_B D cy (va_A [(h0, .inr (8, [.null, .null, .null, .int 0, .int 0, .int 0]))] sz) [(h0, .inr (8, [.ref q5, .ref q16, .ref q29, .int (0), .int (0), .int (0)])), (q5, .inr (7, [.ref q9_q8, .int (0), .int (0), .int (0), .int (0), .int (0), .int (0)])), (q9_q8, .inl (cy 0, 225, .inl (fun _ => 0))), (q16, .inr (1, [.ref q22_q22, .ref q22_q29, .int (0), .int (0)])), (q22_q22, .inl (cy 1, 20, .inr (.inl (fun _ => 0)))), (q22_q29, .inl (cy 1, 20, .inr (.inl (fun _ => 0)))), (q29, .inr (5, [.ref q33_q7, .ref q33_q14, .ref q33_q21, .int (1)])), (q33_q7, .inl (cy 0, 24, .inl (upd (upd (fun _ => 0) 0 (2)) 1 (3)))), (q33_q14, .inl (cy 0, 4, .inl (upd (upd (upd (fun _ => 0) 0 (0)) 0 (1)) 0 (2)))), (q33_q21, .inl (cy 0, 5, .inl (upd (upd (upd (upd (upd (fun _ => 0) 0 (0)) 1 (40)) 2 (10)) 3 (0)) 4 (0))))] t)) 9 313 (va_A [(h0, .inr (8, [.null, .null, .null, .int 0, .int 0, .int 0]))] sz) := by
  refine Met.ofW (cc := cX8_init) (maxL := 1) (ret := none) (by decide) rfl ?_
  intro p e s m args below meth c s₁ B hml hv
  obtain ⟨rfl, hsz, hP, hK, hD0, hNW⟩ := hv
  have hx := B.exec
  have hb := B.bytes
  have hr := B.returns
  have hts : ∀ w ∈ cd_big, w.before _ s = true := fun w hw => atoms_spec (ws := cw_ws yX8_init cX8_init 1) B.pre w (List.mem_cons_of_mem _ hw)
  have hown : s.vm.findClass RX8 = some m.cls := findClass_of_methodNamed B.named
  have hlocks := B.notSynchronized
  have hin : meth.name = "<init>" := (name_of_methodNamed B.named B.method).1
  subst hsz
  have hD := hD0.self (sz := s.heap.size)
  generalize hAe : va_A [(h0, .inr (8, [.null, .null, .null, .int 0, .int 0, .int 0]))] s.heap.size = A at hD ⊢
  have hA : ∀ q : Nat, s.heap.size ≤ q → A q := fun q h => by rw [← hAe]; exact Or.inr h
  have hS : va_S A s.heap s.heap [] := va_S.rf
  have hP : va_P D cd_cl [(h0, .inr (8, [.null, .null, .null, .int 0, .int 0, .int 0]))] s.heap := hP
  have hC : cw_Cx p s m _ meth c cX8_init 1 RX8 D cy A := ⟨hx, hb, hml, hown, hts, hK, hNW, hA⟩
  have hl := lv_entry ([.ref h0]) (n := 1) (Nat.le_of_ble_eq_true rfl)
  rw [lg_entry_eq]
  generalize (lg_sl ([.ref h0]) ++ List.replicate (1 - (lg_sl ([.ref h0])).length) Slot.unset).toArray = ls at hl ⊢
  have hl : lv_has ls 1 [(0, .ref h0)] := hl
  refine lv_aload_n hx hb dX8_init_0 rfl (lv_at hl 0 rfl) ?_
  refine W.objInit hx hb hown (hts (.methodLink RX8 3 objectInit) (cd_m 1 36 rfl rfl)) (hts (.instanceMethod objectInit) (cd_m 1 29 rfl rfl)) (hts (.code objectInit ⟨#[0xb1]⟩ 1 none) (cd_m 1 30 rfl rfl)) rfl (by rw [hml]; exact hl.1) rfl dX8_init_1 (Nat.le_of_ble_eq_true rfl) (Nat.le_of_ble_eq_true rfl) ?_
  refine W.eq (g2 := F0 m 4 ls []) rfl ?_
  refine lv_aload_n hx hb dX8_init_4 rfl (lv_at hl 0 rfl) ?_
  refine va_new (ci := 7) (fs := [.null, .int 0, .int 0, .int 0, .int 0, .int 0, .int 0]) (C := RX7) (T := TX7) (N := 7) hx hb hts cd_lay7 tyX7 tyX7_ok hown (hts (.classLink RX8 9 RX7) (cd_m 1 37 rfl rfl)) (hts (.instantiable RX7 7) (cd_m 1 38 rfl rfl)) (hts (.initialized RX7) (cd_m 1 3 rfl rfl)) hK hP hD hS hA rfl (fun j hj => by rcases (show j = 0 ∨ j = 1 ∨ j = 2 ∨ j = 3 ∨ j = 4 ∨ j = 5 ∨ j = 6 by omega) with rfl | rfl | rfl | rfl | rfl | rfl | rfl <;> rfl) (Nat.le_of_ble_eq_true rfl) (Nat.le_of_ble_eq_true rfl) dX8_init_5 (fun q5 H hP hD hS => ?_)
  have hP : va_P D cd_cl [(h0, .inr (8, [.null, .null, .null, .int 0, .int 0, .int 0])), (q5, .inr (7, [.null, .int 0, .int 0, .int 0, .int 0, .int 0, .int 0]))] H := hP
  have hD : va_D A [(h0, .inr (8, [.null, .null, .null, .int 0, .int 0, .int 0])), (q5, .inr (7, [.null, .int 0, .int 0, .int 0, .int 0, .int 0, .int 0]))] := hD
  refine W.widen (k := 1) (n := 7) (by omega) (by omega) ?_
  refine lv_dup hx hb dX8_init_8 rfl ?_
  have hPc := hP.sub (ws' := [(q5, .inr (7, [.null, .int 0, .int 0, .int 0, .int 0, .int 0, .int 0]))]) [1] rfl
  have hDc := hD.sub (ws' := [(q5, .inr (7, [.null, .int 0, .int 0, .int 0, .int 0, .int 0, .int 0]))]) [1] (by decide) rfl
  refine cw_after (cy := cy) (wc := [(q5, .inr (7, [.null, .int 0, .int 0, .int 0, .int 0, .int 0, .int 0]))]) (wr := [(h0, .inr (8, [.null, .null, .null, .int 0, .int 0, .int 0]))]) hP hD hA [1] [0] rfl rfl (by decide) (by decide) hS (va_runIN (As := []) (rest := [.ref q5, .ref h0]) (nL := 1) (Ts := cd_big) (own := RX8) ⟨hx, hb, hml, hown, hts⟩ (cw_X7_init l D cy q5 H.size) ⟨va_cnB 0 hts (cw_good (cd_m 1 41 rfl rfl)) rfl rfl rfl (hNW (.methodLinkNest RX8 11 yX7_init RX10) (List.mem_of_getElem? (i := 1) rfl)) (hts (.initialized RX7) (cd_m 1 3 rfl rfl)) (by decide +kernel) ⟨Nat.le_of_ble_eq_true rfl, Nat.le_of_ble_eq_true rfl⟩, rfl, hts (.instanceMethod yX7_init) (cd_m 1 40 rfl rfl)⟩ ⟨cw_blind _ _ _, cw_pre hC hPc hDc rfl⟩ rfl rfl hl.1 rfl (lv_room (Nat.le_of_ble_eq_true rfl)) dX8_init_9 ⟨Nat.le_of_ble_eq_true rfl, Nat.le_of_ble_eq_true rfl⟩) (fun t H locs ht hB hJ hS => ?_)
  obtain ⟨q9_q8, hB⟩ := hB
  obtain ⟨hP, hD⟩ := hJ _ hB
  have hP : va_P D cd_cl [(h0, .inr (8, [.null, .null, .null, .int 0, .int 0, .int 0])), (q5, .inr (7, [.ref q9_q8, .int (0), .int (0), .int (0), .int (0), .int (0), .int (0)])), (q9_q8, .inl (cy 0, 225, .inl (fun _ => 0)))] H := hP
  have hD : va_D A [(h0, .inr (8, [.null, .null, .null, .int 0, .int 0, .int 0])), (q5, .inr (7, [.ref q9_q8, .int (0), .int (0), .int (0), .int (0), .int (0), .int (0)])), (q9_q8, .inl (cy 0, 225, .inl (fun _ => 0)))] := hD
  refine W.widen (k := 2) (n := 232) (by omega) (by omega) ?_
  refine va_putF (D := D) (ci := 8) (v := .ref q5) (ty := (.object "CadenceDesk$Tape")) (C := RX8) (T := TX8) (N := 6) hx hb hts cd_lay8 tyX8 tyX8_ok nmX8 hown hK hP hD hS 0 rfl rfl 0 (by decide) (hts (.fieldLink RX8 12 "CadenceDesk$Telling" "tape" "LCadenceDesk$Tape;") (cd_m 1 120 rfl rfl)) (fun _ h9 => h9) rfl hin rfl (by decide +kernel) rfl rfl (Nat.le_of_ble_eq_true rfl) dX8_init_12 (fun H locs hP hD hS => ?_)
  have hP : va_P D cd_cl [(h0, .inr (8, [.ref q5, .null, .null, .int 0, .int 0, .int 0])), (q5, .inr (7, [.ref q9_q8, .int (0), .int (0), .int (0), .int (0), .int (0), .int (0)])), (q9_q8, .inl (cy 0, 225, .inl (fun _ => 0)))] H := hP
  have hD : va_D A [(h0, .inr (8, [.ref q5, .null, .null, .int 0, .int 0, .int 0])), (q5, .inr (7, [.ref q9_q8, .int (0), .int (0), .int (0), .int (0), .int (0), .int (0)])), (q9_q8, .inl (cy 0, 225, .inl (fun _ => 0)))] := hD
  refine lv_aload_n hx hb dX8_init_15 rfl (lv_at hl 0 rfl) ?_
  refine va_new (ci := 1) (fs := [.null, .null, .int 0, .int 0]) (C := RX1) (T := TX1) (N := 4) hx hb hts cd_lay1 tyX1 tyX1_ok hown (hts (.classLink RX8 18 RX1) (cd_m 1 66 rfl rfl)) (hts (.instantiable RX1 4) (cd_m 1 67 rfl rfl)) (hts (.initialized RX1) (cd_m 1 4 rfl rfl)) hK hP hD hS hA rfl (fun j hj => by rcases (show j = 0 ∨ j = 1 ∨ j = 2 ∨ j = 3 by omega) with rfl | rfl | rfl | rfl <;> rfl) (Nat.le_of_ble_eq_true rfl) (Nat.le_of_ble_eq_true rfl) dX8_init_16 (fun q16 H hP hD hS => ?_)
  have hP : va_P D cd_cl [(h0, .inr (8, [.ref q5, .null, .null, .int 0, .int 0, .int 0])), (q5, .inr (7, [.ref q9_q8, .int (0), .int (0), .int (0), .int (0), .int (0), .int (0)])), (q9_q8, .inl (cy 0, 225, .inl (fun _ => 0))), (q16, .inr (1, [.null, .null, .int 0, .int 0]))] H := hP
  have hD : va_D A [(h0, .inr (8, [.ref q5, .null, .null, .int 0, .int 0, .int 0])), (q5, .inr (7, [.ref q9_q8, .int (0), .int (0), .int (0), .int (0), .int (0), .int (0)])), (q9_q8, .inl (cy 0, 225, .inl (fun _ => 0))), (q16, .inr (1, [.null, .null, .int 0, .int 0]))] := hD
  refine W.widen (k := 3) (n := 236) (by omega) (by omega) ?_
  refine lv_dup hx hb dX8_init_19 rfl ?_
  refine lv_bipush (v := (20)) hx hb dX8_init_20 (by decide) ?_
  have hPc := hP.sub (ws' := [(q16, .inr (1, [.null, .null, .int 0, .int 0]))]) [3] rfl
  have hDc := hD.sub (ws' := [(q16, .inr (1, [.null, .null, .int 0, .int 0]))]) [3] (by decide) rfl
  refine cw_after (cy := cy) (wc := [(q16, .inr (1, [.null, .null, .int 0, .int 0]))]) (wr := [(h0, .inr (8, [.ref q5, .null, .null, .int 0, .int 0, .int 0])), (q5, .inr (7, [.ref q9_q8, .int (0), .int (0), .int (0), .int (0), .int (0), .int (0)])), (q9_q8, .inl (cy 0, 225, .inl (fun _ => 0)))]) hP hD hA [3] [0, 1, 2] rfl rfl (by decide) (by decide) hS (va_runI (As := [.int (20)]) (rest := [.ref q16, .ref h0]) (nL := 1) (Ts := cd_big) (own := RX8) ⟨hx, hb, hml, hown, hts⟩ (cw_X1_init_20 l D cy q16 H.size) (cwI 1 hts (cw_good (cd_m 1 70 rfl rfl)) rfl rfl rfl (hts (.initialized RX1) (cd_m 1 4 rfl rfl)) (hts (.methodLink RX8 20 yX1_init) (cd_m 1 68 rfl rfl)) (hts (.instanceMethod yX1_init) (cd_m 1 69 rfl rfl)) rfl (by decide +kernel) ⟨Nat.le_of_ble_eq_true rfl, Nat.le_of_ble_eq_true rfl⟩) ⟨cw_blind _ _ _, cw_pre hC hPc hDc rfl⟩ rfl rfl hl.1 rfl (lv_room (Nat.le_of_ble_eq_true rfl)) dX8_init_22 ⟨Nat.le_of_ble_eq_true rfl, Nat.le_of_ble_eq_true rfl⟩) (fun t H locs ht hB hJ hS => ?_)
  obtain ⟨q22_q22, q22_q29, hB⟩ := hB
  obtain ⟨hP, hD⟩ := hJ _ hB
  have hP : va_P D cd_cl [(h0, .inr (8, [.ref q5, .null, .null, .int 0, .int 0, .int 0])), (q5, .inr (7, [.ref q9_q8, .int (0), .int (0), .int (0), .int (0), .int (0), .int (0)])), (q9_q8, .inl (cy 0, 225, .inl (fun _ => 0))), (q16, .inr (1, [.ref q22_q22, .ref q22_q29, .int (0), .int (0)])), (q22_q22, .inl (cy 1, 20, .inr (.inl (fun _ => 0)))), (q22_q29, .inl (cy 1, 20, .inr (.inl (fun _ => 0))))] H := hP
  have hD : va_D A [(h0, .inr (8, [.ref q5, .null, .null, .int 0, .int 0, .int 0])), (q5, .inr (7, [.ref q9_q8, .int (0), .int (0), .int (0), .int (0), .int (0), .int (0)])), (q9_q8, .inl (cy 0, 225, .inl (fun _ => 0))), (q16, .inr (1, [.ref q22_q22, .ref q22_q29, .int (0), .int (0)])), (q22_q22, .inl (cy 1, 20, .inr (.inl (fun _ => 0)))), (q22_q29, .inl (cy 1, 20, .inr (.inl (fun _ => 0))))] := hD
  refine W.widen (k := 5) (n := 276) (by omega) (by omega) ?_
  refine va_putF (D := D) (ci := 8) (v := .ref q16) (ty := (.object "CadenceDesk$Frames")) (C := RX8) (T := TX8) (N := 6) hx hb hts cd_lay8 tyX8 tyX8_ok nmX8 hown hK hP hD hS 0 rfl rfl 1 (by decide) (hts (.fieldLink RX8 23 "CadenceDesk$Telling" "frames" "LCadenceDesk$Frames;") (cd_m 1 121 rfl rfl)) (fun _ h9 => h9) rfl hin rfl (by decide +kernel) rfl rfl (Nat.le_of_ble_eq_true rfl) dX8_init_25 (fun H locs hP hD hS => ?_)
  have hP : va_P D cd_cl [(h0, .inr (8, [.ref q5, .ref q16, .null, .int 0, .int 0, .int 0])), (q5, .inr (7, [.ref q9_q8, .int (0), .int (0), .int (0), .int (0), .int (0), .int (0)])), (q9_q8, .inl (cy 0, 225, .inl (fun _ => 0))), (q16, .inr (1, [.ref q22_q22, .ref q22_q29, .int (0), .int (0)])), (q22_q22, .inl (cy 1, 20, .inr (.inl (fun _ => 0)))), (q22_q29, .inl (cy 1, 20, .inr (.inl (fun _ => 0))))] H := hP
  have hD : va_D A [(h0, .inr (8, [.ref q5, .ref q16, .null, .int 0, .int 0, .int 0])), (q5, .inr (7, [.ref q9_q8, .int (0), .int (0), .int (0), .int (0), .int (0), .int (0)])), (q9_q8, .inl (cy 0, 225, .inl (fun _ => 0))), (q16, .inr (1, [.ref q22_q22, .ref q22_q29, .int (0), .int (0)])), (q22_q22, .inl (cy 1, 20, .inr (.inl (fun _ => 0)))), (q22_q29, .inl (cy 1, 20, .inr (.inl (fun _ => 0))))] := hD
  refine lv_aload_n hx hb dX8_init_28 rfl (lv_at hl 0 rfl) ?_
  refine va_new (ci := 5) (fs := [.null, .null, .null, .int 0]) (C := RX5) (T := TX5) (N := 4) hx hb hts cd_lay5 tyX5 tyX5_ok hown (hts (.classLink RX8 27 RX5) (cd_m 1 89 rfl rfl)) (hts (.instantiable RX5 4) (cd_m 1 90 rfl rfl)) (hts (.initialized RX5) (cd_m 1 6 rfl rfl)) hK hP hD hS hA rfl (fun j hj => by rcases (show j = 0 ∨ j = 1 ∨ j = 2 ∨ j = 3 by omega) with rfl | rfl | rfl | rfl <;> rfl) (Nat.le_of_ble_eq_true rfl) (Nat.le_of_ble_eq_true rfl) dX8_init_29 (fun q29 H hP hD hS => ?_)
  have hP : va_P D cd_cl [(h0, .inr (8, [.ref q5, .ref q16, .null, .int 0, .int 0, .int 0])), (q5, .inr (7, [.ref q9_q8, .int (0), .int (0), .int (0), .int (0), .int (0), .int (0)])), (q9_q8, .inl (cy 0, 225, .inl (fun _ => 0))), (q16, .inr (1, [.ref q22_q22, .ref q22_q29, .int (0), .int (0)])), (q22_q22, .inl (cy 1, 20, .inr (.inl (fun _ => 0)))), (q22_q29, .inl (cy 1, 20, .inr (.inl (fun _ => 0)))), (q29, .inr (5, [.null, .null, .null, .int 0]))] H := hP
  have hD : va_D A [(h0, .inr (8, [.ref q5, .ref q16, .null, .int 0, .int 0, .int 0])), (q5, .inr (7, [.ref q9_q8, .int (0), .int (0), .int (0), .int (0), .int (0), .int (0)])), (q9_q8, .inl (cy 0, 225, .inl (fun _ => 0))), (q16, .inr (1, [.ref q22_q22, .ref q22_q29, .int (0), .int (0)])), (q22_q22, .inl (cy 1, 20, .inr (.inl (fun _ => 0)))), (q22_q29, .inl (cy 1, 20, .inr (.inl (fun _ => 0)))), (q29, .inr (5, [.null, .null, .null, .int 0]))] := hD
  refine W.widen (k := 6) (n := 280) (by omega) (by omega) ?_
  refine lv_dup hx hb dX8_init_32 rfl ?_
  have hPc := hP.sub (ws' := [(q29, .inr (5, [.null, .null, .null, .int 0]))]) [6] rfl
  have hDc := hD.sub (ws' := [(q29, .inr (5, [.null, .null, .null, .int 0]))]) [6] (by decide) rfl
  refine cw_after (cy := cy) (wc := [(q29, .inr (5, [.null, .null, .null, .int 0]))]) (wr := [(h0, .inr (8, [.ref q5, .ref q16, .null, .int 0, .int 0, .int 0])), (q5, .inr (7, [.ref q9_q8, .int (0), .int (0), .int (0), .int (0), .int (0), .int (0)])), (q9_q8, .inl (cy 0, 225, .inl (fun _ => 0))), (q16, .inr (1, [.ref q22_q22, .ref q22_q29, .int (0), .int (0)])), (q22_q22, .inl (cy 1, 20, .inr (.inl (fun _ => 0)))), (q22_q29, .inl (cy 1, 20, .inr (.inl (fun _ => 0))))]) hP hD hA [6] [0, 1, 2, 3, 4, 5] rfl rfl (by decide) (by decide) hS (va_runI (As := []) (rest := [.ref q29, .ref h0]) (nL := 1) (Ts := cd_big) (own := RX8) ⟨hx, hb, hml, hown, hts⟩ (cw_X5_init l D cy q29 H.size) (cwI 0 hts (cw_good (cd_m 1 93 rfl rfl)) rfl rfl rfl (hts (.initialized RX5) (cd_m 1 6 rfl rfl)) (hts (.methodLink RX8 29 yX5_init) (cd_m 1 91 rfl rfl)) (hts (.instanceMethod yX5_init) (cd_m 1 92 rfl rfl)) rfl (by decide +kernel) ⟨Nat.le_of_ble_eq_true rfl, Nat.le_of_ble_eq_true rfl⟩) ⟨cw_blind _ _ _, cw_pre hC hPc hDc rfl⟩ rfl rfl hl.1 rfl (lv_room (Nat.le_of_ble_eq_true rfl)) dX8_init_33 ⟨Nat.le_of_ble_eq_true rfl, Nat.le_of_ble_eq_true rfl⟩) (fun t H locs ht hB hJ hS => ?_)
  obtain ⟨q33_q7, q33_q14, q33_q21, hB⟩ := hB
  obtain ⟨hP, hD⟩ := hJ _ hB
  have hP : va_P D cd_cl [(h0, .inr (8, [.ref q5, .ref q16, .null, .int 0, .int 0, .int 0])), (q5, .inr (7, [.ref q9_q8, .int (0), .int (0), .int (0), .int (0), .int (0), .int (0)])), (q9_q8, .inl (cy 0, 225, .inl (fun _ => 0))), (q16, .inr (1, [.ref q22_q22, .ref q22_q29, .int (0), .int (0)])), (q22_q22, .inl (cy 1, 20, .inr (.inl (fun _ => 0)))), (q22_q29, .inl (cy 1, 20, .inr (.inl (fun _ => 0)))), (q29, .inr (5, [.ref q33_q7, .ref q33_q14, .ref q33_q21, .int (1)])), (q33_q7, .inl (cy 0, 24, .inl (upd (upd (fun _ => 0) 0 (2)) 1 (3)))), (q33_q14, .inl (cy 0, 4, .inl (upd (upd (upd (fun _ => 0) 0 (0)) 0 (1)) 0 (2)))), (q33_q21, .inl (cy 0, 5, .inl (upd (upd (upd (upd (upd (fun _ => 0) 0 (0)) 1 (40)) 2 (10)) 3 (0)) 4 (0))))] H := hP
  have hD : va_D A [(h0, .inr (8, [.ref q5, .ref q16, .null, .int 0, .int 0, .int 0])), (q5, .inr (7, [.ref q9_q8, .int (0), .int (0), .int (0), .int (0), .int (0), .int (0)])), (q9_q8, .inl (cy 0, 225, .inl (fun _ => 0))), (q16, .inr (1, [.ref q22_q22, .ref q22_q29, .int (0), .int (0)])), (q22_q22, .inl (cy 1, 20, .inr (.inl (fun _ => 0)))), (q22_q29, .inl (cy 1, 20, .inr (.inl (fun _ => 0)))), (q29, .inr (5, [.ref q33_q7, .ref q33_q14, .ref q33_q21, .int (1)])), (q33_q7, .inl (cy 0, 24, .inl (upd (upd (fun _ => 0) 0 (2)) 1 (3)))), (q33_q14, .inl (cy 0, 4, .inl (upd (upd (upd (fun _ => 0) 0 (0)) 0 (1)) 0 (2)))), (q33_q21, .inl (cy 0, 5, .inl (upd (upd (upd (upd (upd (fun _ => 0) 0 (0)) 1 (40)) 2 (10)) 3 (0)) 4 (0))))] := hD
  refine W.widen (k := 9) (n := 313) (by omega) (by omega) ?_
  refine va_putF (D := D) (ci := 8) (v := .ref q29) (ty := (.object "CadenceDesk$Rules")) (C := RX8) (T := TX8) (N := 6) hx hb hts cd_lay8 tyX8 tyX8_ok nmX8 hown hK hP hD hS 0 rfl rfl 2 (by decide) (hts (.fieldLink RX8 30 "CadenceDesk$Telling" "rulesRead" "LCadenceDesk$Rules;") (cd_m 1 122 rfl rfl)) (fun _ h9 => h9) rfl hin rfl (by decide +kernel) rfl rfl (Nat.le_of_ble_eq_true rfl) dX8_init_36 (fun H locs hP hD hS => ?_)
  have hP : va_P D cd_cl [(h0, .inr (8, [.ref q5, .ref q16, .ref q29, .int 0, .int 0, .int 0])), (q5, .inr (7, [.ref q9_q8, .int (0), .int (0), .int (0), .int (0), .int (0), .int (0)])), (q9_q8, .inl (cy 0, 225, .inl (fun _ => 0))), (q16, .inr (1, [.ref q22_q22, .ref q22_q29, .int (0), .int (0)])), (q22_q22, .inl (cy 1, 20, .inr (.inl (fun _ => 0)))), (q22_q29, .inl (cy 1, 20, .inr (.inl (fun _ => 0)))), (q29, .inr (5, [.ref q33_q7, .ref q33_q14, .ref q33_q21, .int (1)])), (q33_q7, .inl (cy 0, 24, .inl (upd (upd (fun _ => 0) 0 (2)) 1 (3)))), (q33_q14, .inl (cy 0, 4, .inl (upd (upd (upd (fun _ => 0) 0 (0)) 0 (1)) 0 (2)))), (q33_q21, .inl (cy 0, 5, .inl (upd (upd (upd (upd (upd (fun _ => 0) 0 (0)) 1 (40)) 2 (10)) 3 (0)) 4 (0))))] H := hP
  have hD : va_D A [(h0, .inr (8, [.ref q5, .ref q16, .ref q29, .int 0, .int 0, .int 0])), (q5, .inr (7, [.ref q9_q8, .int (0), .int (0), .int (0), .int (0), .int (0), .int (0)])), (q9_q8, .inl (cy 0, 225, .inl (fun _ => 0))), (q16, .inr (1, [.ref q22_q22, .ref q22_q29, .int (0), .int (0)])), (q22_q22, .inl (cy 1, 20, .inr (.inl (fun _ => 0)))), (q22_q29, .inl (cy 1, 20, .inr (.inl (fun _ => 0)))), (q29, .inr (5, [.ref q33_q7, .ref q33_q14, .ref q33_q21, .int (1)])), (q33_q7, .inl (cy 0, 24, .inl (upd (upd (fun _ => 0) 0 (2)) 1 (3)))), (q33_q14, .inl (cy 0, 4, .inl (upd (upd (upd (fun _ => 0) 0 (0)) 0 (1)) 0 (2)))), (q33_q21, .inl (cy 0, 5, .inl (upd (upd (upd (upd (upd (fun _ => 0) 0 (0)) 1 (40)) 2 (10)) 3 (0)) 4 (0))))] := hD
  refine lv_aload_n hx hb dX8_init_39 rfl (lv_at hl 0 rfl) ?_
  refine lv_iconst (v := (0)) hx hb dX8_init_40 (by decide) ?_
  refine va_put (D := D) (ci := 8) (v := .int (0)) (ty := .int) (C := RX8) (T := TX8) (N := 6) hx hb hts cd_lay8 tyX8 tyX8_ok nmX8 hown hK hP hD hS 0 rfl rfl 3 (by decide) (hts (.fieldLink RX8 34 "CadenceDesk$Telling" "fault" "I") (cd_m 1 123 rfl rfl)) (fun _ h9 => h9) rfl (by decide +kernel) rfl rfl (Nat.le_of_ble_eq_true rfl) dX8_init_41 (fun H locs hP hD hS => ?_)
  have hP : va_P D cd_cl [(h0, .inr (8, [.ref q5, .ref q16, .ref q29, .int (0), .int 0, .int 0])), (q5, .inr (7, [.ref q9_q8, .int (0), .int (0), .int (0), .int (0), .int (0), .int (0)])), (q9_q8, .inl (cy 0, 225, .inl (fun _ => 0))), (q16, .inr (1, [.ref q22_q22, .ref q22_q29, .int (0), .int (0)])), (q22_q22, .inl (cy 1, 20, .inr (.inl (fun _ => 0)))), (q22_q29, .inl (cy 1, 20, .inr (.inl (fun _ => 0)))), (q29, .inr (5, [.ref q33_q7, .ref q33_q14, .ref q33_q21, .int (1)])), (q33_q7, .inl (cy 0, 24, .inl (upd (upd (fun _ => 0) 0 (2)) 1 (3)))), (q33_q14, .inl (cy 0, 4, .inl (upd (upd (upd (fun _ => 0) 0 (0)) 0 (1)) 0 (2)))), (q33_q21, .inl (cy 0, 5, .inl (upd (upd (upd (upd (upd (fun _ => 0) 0 (0)) 1 (40)) 2 (10)) 3 (0)) 4 (0))))] H := hP
  have hD : va_D A [(h0, .inr (8, [.ref q5, .ref q16, .ref q29, .int (0), .int 0, .int 0])), (q5, .inr (7, [.ref q9_q8, .int (0), .int (0), .int (0), .int (0), .int (0), .int (0)])), (q9_q8, .inl (cy 0, 225, .inl (fun _ => 0))), (q16, .inr (1, [.ref q22_q22, .ref q22_q29, .int (0), .int (0)])), (q22_q22, .inl (cy 1, 20, .inr (.inl (fun _ => 0)))), (q22_q29, .inl (cy 1, 20, .inr (.inl (fun _ => 0)))), (q29, .inr (5, [.ref q33_q7, .ref q33_q14, .ref q33_q21, .int (1)])), (q33_q7, .inl (cy 0, 24, .inl (upd (upd (fun _ => 0) 0 (2)) 1 (3)))), (q33_q14, .inl (cy 0, 4, .inl (upd (upd (upd (fun _ => 0) 0 (0)) 0 (1)) 0 (2)))), (q33_q21, .inl (cy 0, 5, .inl (upd (upd (upd (upd (upd (fun _ => 0) 0 (0)) 1 (40)) 2 (10)) 3 (0)) 4 (0))))] := hD
  refine lv_aload_n hx hb dX8_init_44 rfl (lv_at hl 0 rfl) ?_
  refine lv_iconst (v := (0)) hx hb dX8_init_45 (by decide) ?_
  refine va_put (D := D) (ci := 8) (v := .int (0)) (ty := .int) (C := RX8) (T := TX8) (N := 6) hx hb hts cd_lay8 tyX8 tyX8_ok nmX8 hown hK hP hD hS 0 rfl rfl 4 (by decide) (hts (.fieldLink RX8 38 "CadenceDesk$Telling" "taken" "I") (cd_m 1 124 rfl rfl)) (fun _ h9 => h9) rfl (by decide +kernel) rfl rfl (Nat.le_of_ble_eq_true rfl) dX8_init_46 (fun H locs hP hD hS => ?_)
  have hP : va_P D cd_cl [(h0, .inr (8, [.ref q5, .ref q16, .ref q29, .int (0), .int (0), .int 0])), (q5, .inr (7, [.ref q9_q8, .int (0), .int (0), .int (0), .int (0), .int (0), .int (0)])), (q9_q8, .inl (cy 0, 225, .inl (fun _ => 0))), (q16, .inr (1, [.ref q22_q22, .ref q22_q29, .int (0), .int (0)])), (q22_q22, .inl (cy 1, 20, .inr (.inl (fun _ => 0)))), (q22_q29, .inl (cy 1, 20, .inr (.inl (fun _ => 0)))), (q29, .inr (5, [.ref q33_q7, .ref q33_q14, .ref q33_q21, .int (1)])), (q33_q7, .inl (cy 0, 24, .inl (upd (upd (fun _ => 0) 0 (2)) 1 (3)))), (q33_q14, .inl (cy 0, 4, .inl (upd (upd (upd (fun _ => 0) 0 (0)) 0 (1)) 0 (2)))), (q33_q21, .inl (cy 0, 5, .inl (upd (upd (upd (upd (upd (fun _ => 0) 0 (0)) 1 (40)) 2 (10)) 3 (0)) 4 (0))))] H := hP
  have hD : va_D A [(h0, .inr (8, [.ref q5, .ref q16, .ref q29, .int (0), .int (0), .int 0])), (q5, .inr (7, [.ref q9_q8, .int (0), .int (0), .int (0), .int (0), .int (0), .int (0)])), (q9_q8, .inl (cy 0, 225, .inl (fun _ => 0))), (q16, .inr (1, [.ref q22_q22, .ref q22_q29, .int (0), .int (0)])), (q22_q22, .inl (cy 1, 20, .inr (.inl (fun _ => 0)))), (q22_q29, .inl (cy 1, 20, .inr (.inl (fun _ => 0)))), (q29, .inr (5, [.ref q33_q7, .ref q33_q14, .ref q33_q21, .int (1)])), (q33_q7, .inl (cy 0, 24, .inl (upd (upd (fun _ => 0) 0 (2)) 1 (3)))), (q33_q14, .inl (cy 0, 4, .inl (upd (upd (upd (fun _ => 0) 0 (0)) 0 (1)) 0 (2)))), (q33_q21, .inl (cy 0, 5, .inl (upd (upd (upd (upd (upd (fun _ => 0) 0 (0)) 1 (40)) 2 (10)) 3 (0)) 4 (0))))] := hD
  refine lv_aload_n hx hb dX8_init_49 rfl (lv_at hl 0 rfl) ?_
  refine lv_iconst (v := (0)) hx hb dX8_init_50 (by decide) ?_
  refine va_put (D := D) (ci := 8) (v := .int (0)) (ty := .int) (C := RX8) (T := TX8) (N := 6) hx hb hts cd_lay8 tyX8 tyX8_ok nmX8 hown hK hP hD hS 0 rfl rfl 5 (by decide) (hts (.fieldLink RX8 41 "CadenceDesk$Telling" "toldValues" "I") (cd_m 1 125 rfl rfl)) (fun _ h9 => h9) rfl (by decide +kernel) rfl rfl (Nat.le_of_ble_eq_true rfl) dX8_init_51 (fun H locs hP hD hS => ?_)
  have hP : va_P D cd_cl [(h0, .inr (8, [.ref q5, .ref q16, .ref q29, .int (0), .int (0), .int (0)])), (q5, .inr (7, [.ref q9_q8, .int (0), .int (0), .int (0), .int (0), .int (0), .int (0)])), (q9_q8, .inl (cy 0, 225, .inl (fun _ => 0))), (q16, .inr (1, [.ref q22_q22, .ref q22_q29, .int (0), .int (0)])), (q22_q22, .inl (cy 1, 20, .inr (.inl (fun _ => 0)))), (q22_q29, .inl (cy 1, 20, .inr (.inl (fun _ => 0)))), (q29, .inr (5, [.ref q33_q7, .ref q33_q14, .ref q33_q21, .int (1)])), (q33_q7, .inl (cy 0, 24, .inl (upd (upd (fun _ => 0) 0 (2)) 1 (3)))), (q33_q14, .inl (cy 0, 4, .inl (upd (upd (upd (fun _ => 0) 0 (0)) 0 (1)) 0 (2)))), (q33_q21, .inl (cy 0, 5, .inl (upd (upd (upd (upd (upd (fun _ => 0) 0 (0)) 1 (40)) 2 (10)) 3 (0)) 4 (0))))] H := hP
  have hD : va_D A [(h0, .inr (8, [.ref q5, .ref q16, .ref q29, .int (0), .int (0), .int (0)])), (q5, .inr (7, [.ref q9_q8, .int (0), .int (0), .int (0), .int (0), .int (0), .int (0)])), (q9_q8, .inl (cy 0, 225, .inl (fun _ => 0))), (q16, .inr (1, [.ref q22_q22, .ref q22_q29, .int (0), .int (0)])), (q22_q22, .inl (cy 1, 20, .inr (.inl (fun _ => 0)))), (q22_q29, .inl (cy 1, 20, .inr (.inl (fun _ => 0)))), (q29, .inr (5, [.ref q33_q7, .ref q33_q14, .ref q33_q21, .int (1)])), (q33_q7, .inl (cy 0, 24, .inl (upd (upd (fun _ => 0) 0 (2)) 1 (3)))), (q33_q14, .inl (cy 0, 4, .inl (upd (upd (upd (fun _ => 0) 0 (0)) 0 (1)) 0 (2)))), (q33_q21, .inl (cy 0, 5, .inl (upd (upd (upd (upd (upd (fun _ => 0) 0 (0)) 1 (40)) 2 (10)) 3 (0)) 4 (0))))] := hD
  have hP9 := hP.sub (ws' := [(h0, .inr (8, [.ref q5, .ref q16, .ref q29, .int (0), .int (0), .int (0)])), (q5, .inr (7, [.ref q9_q8, .int (0), .int (0), .int (0), .int (0), .int (0), .int (0)])), (q9_q8, .inl (cy 0, 225, .inl (fun _ => 0))), (q16, .inr (1, [.ref q22_q22, .ref q22_q29, .int (0), .int (0)])), (q22_q22, .inl (cy 1, 20, .inr (.inl (fun _ => 0)))), (q22_q29, .inl (cy 1, 20, .inr (.inl (fun _ => 0)))), (q29, .inr (5, [.ref q33_q7, .ref q33_q14, .ref q33_q21, .int (1)])), (q33_q7, .inl (cy 0, 24, .inl (upd (upd (fun _ => 0) 0 (2)) 1 (3)))), (q33_q14, .inl (cy 0, 4, .inl (upd (upd (upd (fun _ => 0) 0 (0)) 0 (1)) 0 (2)))), (q33_q21, .inl (cy 0, 5, .inl (upd (upd (upd (upd (upd (fun _ => 0) 0 (0)) 1 (40)) 2 (10)) 3 (0)) 4 (0))))]) [0, 1, 2, 3, 4, 5, 6, 7, 8, 9] rfl
  have hD9 := hD.sub (ws' := [(h0, .inr (8, [.ref q5, .ref q16, .ref q29, .int (0), .int (0), .int (0)])), (q5, .inr (7, [.ref q9_q8, .int (0), .int (0), .int (0), .int (0), .int (0), .int (0)])), (q9_q8, .inl (cy 0, 225, .inl (fun _ => 0))), (q16, .inr (1, [.ref q22_q22, .ref q22_q29, .int (0), .int (0)])), (q22_q22, .inl (cy 1, 20, .inr (.inl (fun _ => 0)))), (q22_q29, .inl (cy 1, 20, .inr (.inl (fun _ => 0)))), (q29, .inr (5, [.ref q33_q7, .ref q33_q14, .ref q33_q21, .int (1)])), (q33_q7, .inl (cy 0, 24, .inl (upd (upd (fun _ => 0) 0 (2)) 1 (3)))), (q33_q14, .inl (cy 0, 4, .inl (upd (upd (upd (fun _ => 0) 0 (0)) 0 (1)) 0 (2)))), (q33_q21, .inl (cy 0, 5, .inl (upd (upd (upd (upd (upd (fun _ => 0) 0 (0)) 1 (40)) 2 (10)) 3 (0)) 4 (0))))]) [0, 1, 2, 3, 4, 5, 6, 7, 8, 9] (by decide) rfl
  exact W.vret hx hb hr (fun t ht hW => ⟨⟨rfl, q5, q9_q8, q16, q22_q22, q22_q29, q29, q33_q7, q33_q14, q33_q21, by rw [ht]; exact hP9, va_K.moved hW.alike hK, hD9⟩, hS.F ht⟩) hS.2.2 dX8_init_54
theorem dX4_init_0 : decode cX4_init 0 = .ok (.aload_n 0, 1) := by decide +kernel
theorem dX4_init_1 : decode cX4_init 1 = .ok (.invokespecial 5, 3) := by decide +kernel
theorem dX4_init_4 : decode cX4_init 4 = .ok (.aload_n 0, 1) := by decide +kernel
theorem dX4_init_5 : decode cX4_init 5 = .ok (.bipush 90, 2) := by decide +kernel
theorem dX4_init_7 : decode cX4_init 7 = .ok (.newarray .long, 2) := by decide +kernel
theorem dX4_init_9 : decode cX4_init 9 = .ok (.putfield 11, 3) := by decide +kernel
theorem dX4_init_12 : decode cX4_init 12 = .ok (.aload_n 0, 1) := by decide +kernel
theorem dX4_init_13 : decode cX4_init 13 = .ok (.iconst 0, 1) := by decide +kernel
theorem dX4_init_14 : decode cX4_init 14 = .ok (.putfield 15, 3) := by decide +kernel
theorem dX4_init_17 : decode cX4_init 17 = .ok (.return_, 1) := by decide +kernel
set_option maxHeartbeats 800000 in
set_option maxRecDepth 100000 in
theorem cw_X4_init (l : Launch) (D : va_G) (cy : Nat → ClassId) (h0 : Nat) (sz : Nat) : Met l yX4_init (cw_ws yX4_init cX4_init 1) ({ frames := 1, cells := 1, slots := 90, locals := 20 }) (cw_Pc D cy [.ref h0] [(h0, .inr (4, [.null, .int 0]))] sz) (cw_Q (va_A [(h0, .inr (4, [.null, .int 0]))] sz) (fun t => ∃ q7 : Nat, cw_B D cy (va_A [(h0, .inr (4, [.null, .int 0]))] sz) [(h0, .inr (4, [.ref q7, .int (0)])), (q7, .inl (cy 1, 90, .inr (.inl (fun _ => 0))))] t)) 1 90 (va_A [(h0, .inr (4, [.null, .int 0]))] sz) := by
  refine Met.ofW (cc := cX4_init) (maxL := 1) (ret := none) (by decide) rfl ?_
  intro p e s m args below meth c s₁ B hml hv
  obtain ⟨rfl, hsz, hP, hK, hD0, hNW⟩ := hv
  have hx := B.exec
  have hb := B.bytes
  have hr := B.returns
  have hts : ∀ w ∈ cd_big, w.before _ s = true := fun w hw => atoms_spec (ws := cw_ws yX4_init cX4_init 1) B.pre w (List.mem_cons_of_mem _ hw)
  have hown : s.vm.findClass RX4 = some m.cls := findClass_of_methodNamed B.named
  have hlocks := B.notSynchronized
  have hin : meth.name = "<init>" := (name_of_methodNamed B.named B.method).1
  subst hsz
  have hD := hD0.self (sz := s.heap.size)
  generalize hAe : va_A [(h0, .inr (4, [.null, .int 0]))] s.heap.size = A at hD ⊢
  have hA : ∀ q : Nat, s.heap.size ≤ q → A q := fun q h => by rw [← hAe]; exact Or.inr h
  have hS : va_S A s.heap s.heap [] := va_S.rf
  have hP : va_P D cd_cl [(h0, .inr (4, [.null, .int 0]))] s.heap := hP
  have hC : cw_Cx p s m _ meth c cX4_init 1 RX4 D cy A := ⟨hx, hb, hml, hown, hts, hK, hNW, hA⟩
  have hl := lv_entry ([.ref h0]) (n := 1) (Nat.le_of_ble_eq_true rfl)
  rw [lg_entry_eq]
  generalize (lg_sl ([.ref h0]) ++ List.replicate (1 - (lg_sl ([.ref h0])).length) Slot.unset).toArray = ls at hl ⊢
  have hl : lv_has ls 1 [(0, .ref h0)] := hl
  refine lv_aload_n hx hb dX4_init_0 rfl (lv_at hl 0 rfl) ?_
  refine W.objInit hx hb hown (hts (.methodLink RX4 5 objectInit) (cd_m 1 148 rfl rfl)) (hts (.instanceMethod objectInit) (cd_m 1 29 rfl rfl)) (hts (.code objectInit ⟨#[0xb1]⟩ 1 none) (cd_m 1 30 rfl rfl)) rfl (by rw [hml]; exact hl.1) rfl dX4_init_1 (Nat.le_of_ble_eq_true rfl) (Nat.le_of_ble_eq_true rfl) ?_
  refine W.eq (g2 := F0 m 4 ls []) rfl ?_
  refine lv_aload_n hx hb dX4_init_4 rfl (lv_at hl 0 rfl) ?_
  refine lv_bipush (v := (90)) hx hb dX4_init_5 (by decide) ?_
  refine cw_newa (atype := .long) (ty := .long) hC rfl (cd_m 1 88 rfl rfl) 1 rfl (fun z => z) hP hD hS 90 (90, .inr (.inl (fun _ => 0))) (fun _ => rfl) (by decide) (by decide) (Nat.le_of_ble_eq_true rfl) (Nat.le_of_ble_eq_true rfl) (Nat.le_of_ble_eq_true rfl) dX4_init_7 (fun q7 H hP hD hS => ?_)
  have hP : va_P D cd_cl [(h0, .inr (4, [.null, .int 0])), (q7, .inl (cy 1, 90, .inr (.inl (fun _ => 0))))] H := hP
  have hD : va_D A [(h0, .inr (4, [.null, .int 0])), (q7, .inl (cy 1, 90, .inr (.inl (fun _ => 0))))] := hD
  refine W.widen (k := 1) (n := 90) (by omega) (by omega) ?_
  refine va_putF (D := D) (ci := 4) (v := .ref q7) (ty := (.array .long)) (C := RX4) (T := TX4) (N := 2) hx hb hts cd_lay4 tyX4 tyX4_ok nmX4 hown hK hP hD hS 0 rfl rfl 0 (by decide) (hts (.fieldLink RX4 11 "CadenceDesk$Reel" "fields" "[J") (cd_m 1 149 rfl rfl)) (fun _ h9 => h9) rfl hin rfl (by decide +kernel) rfl rfl (Nat.le_of_ble_eq_true rfl) dX4_init_9 (fun H locs hP hD hS => ?_)
  have hP : va_P D cd_cl [(h0, .inr (4, [.ref q7, .int 0])), (q7, .inl (cy 1, 90, .inr (.inl (fun _ => 0))))] H := hP
  have hD : va_D A [(h0, .inr (4, [.ref q7, .int 0])), (q7, .inl (cy 1, 90, .inr (.inl (fun _ => 0))))] := hD
  refine lv_aload_n hx hb dX4_init_12 rfl (lv_at hl 0 rfl) ?_
  refine lv_iconst (v := (0)) hx hb dX4_init_13 (by decide) ?_
  refine va_put (D := D) (ci := 4) (v := .int (0)) (ty := .int) (C := RX4) (T := TX4) (N := 2) hx hb hts cd_lay4 tyX4 tyX4_ok nmX4 hown hK hP hD hS 0 rfl rfl 1 (by decide) (hts (.fieldLink RX4 15 "CadenceDesk$Reel" "size" "I") (cd_m 1 151 rfl rfl)) (fun _ h9 => h9) rfl (by decide +kernel) rfl rfl (Nat.le_of_ble_eq_true rfl) dX4_init_14 (fun H locs hP hD hS => ?_)
  have hP : va_P D cd_cl [(h0, .inr (4, [.ref q7, .int (0)])), (q7, .inl (cy 1, 90, .inr (.inl (fun _ => 0))))] H := hP
  have hD : va_D A [(h0, .inr (4, [.ref q7, .int (0)])), (q7, .inl (cy 1, 90, .inr (.inl (fun _ => 0))))] := hD
  have hP9 := hP.sub (ws' := [(h0, .inr (4, [.ref q7, .int (0)])), (q7, .inl (cy 1, 90, .inr (.inl (fun _ => 0))))]) [0, 1] rfl
  have hD9 := hD.sub (ws' := [(h0, .inr (4, [.ref q7, .int (0)])), (q7, .inl (cy 1, 90, .inr (.inl (fun _ => 0))))]) [0, 1] (by decide) rfl
  exact W.vret hx hb hr (fun t ht hW => ⟨⟨rfl, q7, by rw [ht]; exact hP9, va_K.moved hW.alike hK, hD9⟩, hS.F ht⟩) hS.2.2 dX4_init_17
