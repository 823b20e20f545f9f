/-! the case field of the law -/
theorem dl_604 : decode code 604 = .ok (.aload_n 1, 1) := by decide +kernel
theorem dl_605 : decode code 605 = .ok (.aload_n 0, 1) := by decide +kernel
theorem dl_606 : decode code 606 = .ok (.iload 4, 2) := by decide +kernel
theorem dl_608 : decode code 608 = .ok (.iconst 1, 1) := by decide +kernel
theorem dl_609 : decode code 609 = .ok (.iadd, 1) := by decide +kernel
theorem dl_610 : decode code 610 = .ok (.iaload, 1) := by decide +kernel
theorem dl_611 : decode code 611 = .ok (.aload_n 0, 1) := by decide +kernel
theorem dl_612 : decode code 612 = .ok (.iload 4, 2) := by decide +kernel
theorem dl_614 : decode code 614 = .ok (.iconst 2, 1) := by decide +kernel
theorem dl_615 : decode code 615 = .ok (.iadd, 1) := by decide +kernel
theorem dl_616 : decode code 616 = .ok (.iaload, 1) := by decide +kernel
theorem dl_617 : decode code 617 = .ok (.aload_n 3, 1) := by decide +kernel
theorem dl_618 : decode code 618 = .ok (.invokestatic 71, 3) := by decide +kernel
theorem dl_621 : decode code 621 = .ok (.istore 5, 2) := by decide +kernel
theorem dl_623 : decode code 623 = .ok (.aload_n 2, 1) := by decide +kernel
theorem dl_624 : decode code 624 = .ok (.aload_n 0, 1) := by decide +kernel
theorem dl_625 : decode code 625 = .ok (.iload 4, 2) := by decide +kernel
theorem dl_627 : decode code 627 = .ok (.iconst 1, 1) := by decide +kernel
theorem dl_628 : decode code 628 = .ok (.iadd, 1) := by decide +kernel
theorem dl_629 : decode code 629 = .ok (.iaload, 1) := by decide +kernel
theorem dl_630 : decode code 630 = .ok (.aload_n 0, 1) := by decide +kernel
theorem dl_631 : decode code 631 = .ok (.iload 4, 2) := by decide +kernel
theorem dl_633 : decode code 633 = .ok (.iconst 2, 1) := by decide +kernel
theorem dl_634 : decode code 634 = .ok (.iadd, 1) := by decide +kernel
theorem dl_635 : decode code 635 = .ok (.iaload, 1) := by decide +kernel
theorem dl_636 : decode code 636 = .ok (.invokevirtual 76, 3) := by decide +kernel
theorem dl_639 : decode code 639 = .ok (.istore 6, 2) := by decide +kernel
theorem dl_641 : decode code 641 = .ok (.aload_n 2, 1) := by decide +kernel
theorem dl_642 : decode code 642 = .ok (.invokevirtual 77, 3) := by decide +kernel
theorem dl_645 : decode code 645 = .ok (.iload 5, 2) := by decide +kernel
theorem dl_647 : decode code 647 = .ok (.if_icmp .eq 5, 3) := by decide +kernel
theorem dl_650 : decode code 650 = .ok (.iconst 0, 1) := by decide +kernel
theorem dl_651 : decode code 651 = .ok (.ireturn, 1) := by decide +kernel
theorem dl_652 : decode code 652 = .ok (.iload 5, 2) := by decide +kernel
theorem dl_654 : decode code 654 = .ok (.ifCond .ne 15, 3) := by decide +kernel
theorem dl_657 : decode code 657 = .ok (.aload_n 3, 1) := by decide +kernel
theorem dl_658 : decode code 658 = .ok (.iconst 0, 1) := by decide +kernel
theorem dl_659 : decode code 659 = .ok (.laload, 1) := by decide +kernel
theorem dl_660 : decode code 660 = .ok (.iload 6, 2) := by decide +kernel
theorem dl_662 : decode code 662 = .ok (.i2l, 1) := by decide +kernel
theorem dl_663 : decode code 663 = .ok (.lcmp, 1) := by decide +kernel
theorem dl_664 : decode code 664 = .ok (.ifCond .eq 5, 3) := by decide +kernel
theorem dl_667 : decode code 667 = .ok (.iconst 0, 1) := by decide +kernel
theorem dl_668 : decode code 668 = .ok (.ireturn, 1) := by decide +kernel
theorem dl_669 : decode code 669 = .ok (.goto 400, 3) := by decide +kernel
def cl_o_field (Rel : cd_M → Prop) : Prop := ∀ (a1 : Int32) (a2 : Int32) (M : cd_M), Rel M → ∃ (r : Option Int32) (v : Int32) (M2 : cd_M), cf_o a1 a2 M = some r ∧ f11_field_15 a1 a2 (cf_M r M) = some (v, M2) ∧ M2.1 15 0 = cf_k r ∧ (∀ x, r = some x → M2.2 82 0 = v.toInt64) ∧ Rel M2
theorem cg_goodG : GoodIn cd_big (va_wsS RL 71 yL_field cg_ws) := by
  intro w hw
  have hw : w ∈ [Cond.methodLink RL 71 yL_field, Cond.static yL_field, Cond.initialized yL_field.cls] ++ cg_ws := hw
  rcases List.mem_append.mp hw with h | h
  · simp only [List.mem_cons, List.not_mem_nil, or_false] at h
    rcases h with h | h | h
    · rw [h]; exact cd_goodW (cd_m 5 148 rfl rfl)
    · rw [h]; exact cd_goodW (cd_m 5 149 rfl rfl)
    · rw [h]; exact cd_goodW (cd_m 1 0 rfl rfl)
  · rcases List.mem_cons.mp h with h | h
    · rw [h]; exact cd_goodW (cd_m 5 150 rfl rfl)
    · exact cd_goodW h
set_option maxHeartbeats 1000000 in
set_option maxRecDepth 20000 in
theorem cl_k_field {p : Program} {l : Launch} {e : Env} {s : State} {m : MethodId} {args : Array Value} {below : List Frame} {meth : Method} {c : Code} {H : Heap} {locs : List Loc} {cells slots : Nat} {Q : State → Prop} {D : va_G} {cy : Nat → ClassId} {ad : Nat → Nat} {fm : Value} {Rel : cd_M → Prop} {b L : Nat} {xs : Nat → Int32} (hC : cl_Cx p s m args meth c D cy ad fm b L xs) (hl0 : l.stackTraces = false) {sa sb : Nat} (hE : cf_Ex sa sb (fun q => s.heap.size ≤ q) s) {i : Nat} {ls : Array Slot} {M : cd_M} (hi : i + 5 < L) (hl : lv_has ls 7 [(0, .ref b), (4, .int (nI i)), (1, .ref (ad 0)), (2, .ref (ad 15)), (3, .ref (ad 82))])
    (hop : ∃ (r : Option Int32) (v : Int32) (M2 : cd_M), cf_o (xs (i + 1)) (xs (i + 2)) M = some r ∧ f11_field_15 (xs (i + 1)) (xs (i + 2)) (cf_M r M) = some (v, M2) ∧ M2.1 15 0 = cf_k r ∧ (∀ x, r = some x → M2.2 82 0 = v.toInt64) ∧ Rel M2) (hcs : cells + 1 ≤ 601024 ∧ slots + 6 ≤ 7293034)
    (hP : va_P D cd_cl (cd_ws cy ad M) H) (hD : va_D (fun q => s.heap.size ≤ q) (cd_ws cy ad M)) (hS : va_S (fun q => s.heap.size ≤ q) s.heap H locs)
    (hn : ∀ (ls1 : Array Slot) (M2 : cd_M) (H1 : Heap) (locs1 : List Loc), lv_has ls1 7 [(0, .ref b), (4, .int (nI i)), (1, .ref (ad 0)), (2, .ref (ad 15)), (3, .ref (ad 82))] → Rel M2 → va_P D cd_cl (cd_ws cy ad M2) H1 → va_D (fun q => s.heap.size ≤ q) (cd_ws cy ad M2) → va_S (fun q => s.heap.size ≤ q) s.heap H1 locs1 → W p l e room_1 s m args below meth c H1 locs1 (cells + 1) (slots + 6) Q (F0 m 1069 ls1 [])) : W p l e room_1 s m args below meth c H locs cells slots Q (F0 m 604 ls []) := by
  have hC0 := hC
  obtain ⟨hx, hb, hr, hml, hown, hts, hlk, hK, hSt, hX, hbl, hL⟩ := hC0
  obtain ⟨r, v, M2, h1, h2, h3, h4, h5⟩ := hop
  refine lv_aload_n hx hb dl_604 rfl (lv_at hl 2 rfl) ?_
  refine cl_arg (k := 1) hC hl (by omega) dl_605 dl_606 dl_608 rfl dl_609 dl_610 hS ?_
  refine cl_arg (k := 2) hC hl (by omega) dl_611 dl_612 dl_614 rfl dl_615 dl_616 hS ?_
  refine lv_aload_n hx hb dl_617 rfl (lv_at hl 4 rfl) ?_
  have hfr2 := cd_free (A := fun q => s.heap.size ≤ q) (ws := cd_ws cy ad M) hD hS (fun _ h => h)
  have hcw : vx_CSW room_1 s args RL 71 yL_field cL_field 5 (some .int) [(0, 10, 13, 13)] cg_ws cg_rm 1 6 4 := vx_cwSW 4 hts cg_goodG rfl rfl rfl (by decide +kernel) ⟨Nat.le_of_ble_eq_true rfl, Nat.le_of_ble_eq_true rfl⟩
  have hpre : ∀ U : State, U.heap = H → s.WarmedH U.vm → cf_Pc D cy ad fm sa sb [.ref (ad 0), .int (xs (i + 1)), .int (xs (i + 2)), .ref (ad 82)] M H.size [Value.ref (ad 0), .int (xs (i + 1)), .int (xs (i + 2)), .ref (ad 82)].toArray U := by
    intro U hU hW
    exact ⟨rfl, by rw [hU], by rw [hU]; exact hP, va_K.moved hW.alike hK, hD.weaken (fun _ _ _ _ => trivial), cd_St_go hSt hS hU hW hfr2, cf_Ex_go hE hS hU hW hfr2⟩
  have hrun := vx_runSX (l := l) (e := e) (below := below) (meth := meth) (locs := locs) (cells := cells) (slots := slots) (g := F0 m 618 ls ([Value.ref (ad 0), .int (xs (i + 1)), .int (xs (i + 2)), .ref (ad 82)].reverse ++ [])) (rest := []) (As := [Value.ref (ad 0), .int (xs (i + 1)), .int (xs (i + 2)), .ref (ad 82)]) (nL := 7) (Ts := cd_big) ⟨hx, hb, hml, hown, hts⟩ (cg_field l hl0 D cy ad fm sa sb (xs (i + 1)) (xs (i + 2)) M r h1 H.size) hcw ⟨cf_blind _ _ _, hpre⟩ rfl rfl hl.1 rfl (lv_room (Nat.le_of_ble_eq_true rfl)) dl_618 hcs
  refine vx_calli hrun hS (fun q _ h => hfr2 q h) hfr2 (fun q _ h => hfr2 q h) (fun E ce q9 u t H1 locs1 ht hal hpx hBX hsz1 hsame hS1 hce hcv hcl => absurd hpx id) (fun v0 u t H1 locs1 ht hal hpost hB hsz1 hsame hS1 => ?_)
  obtain ⟨hP1, hD1⟩ := hB
  rw [ht] at hP1
  have hpost : v0 = cf_k r := hpost
  subst hpost
  have hD1 := hD1.weaken (B := fun q => s.heap.size ≤ q) (fun _ q _ h => hfr2 q.1 h)
  refine lv_istore hx hb dl_621 hl (by decide) rfl (fun ls1 hl1 => ?_)
  refine lv_aload_n hx hb dl_623 rfl (lv_at hl1 4 rfl) ?_
  have hl1' := lv_sub hl1 [1, 2, 3, 4, 5, 0] rfl
  refine cl_arg (k := 1) hC hl1' (by omega) dl_624 dl_625 dl_627 rfl dl_628 dl_629 hS1 ?_
  refine cl_arg (k := 2) hC hl1' (by omega) dl_630 dl_631 dl_633 rfl dl_634 dl_635 hS1 ?_
  refine cl_call (k := 15) (as := [xs (i + 1), xs (i + 2)]) (v := v) (M := cf_M r M) (M' := M2) (rest := []) hC dl_636 (show 201 < 245 by decide) (cd_m 7 76 rfl rfl) (cd_m 7 77 rfl rfl) (cd_m 7 78 rfl rfl) (cd_m 1 13 rfl rfl) (show (parseMethodDescriptor (cd_y 201).desc).map (fun d => d.parameters.length) = some 2 by decide +kernel) rfl (by decide) (Nat.le_of_ble_eq_true rfl) (Nat.le_of_ble_eq_true rfl) (Nat.le_of_ble_eq_true rfl) (Nat.le_of_ble_eq_true rfl) hl1.1 (cl_run (k11_field_15 (xs (i + 1)) (xs (i + 2)) (cf_M r M)) (by rw [h2]; rfl)) hcs hP1 hD1 hS1 (fun H locs hP hD hS => ?_)
  refine lv_istore hx hb dl_639 hl1' (by decide) rfl (fun ls2 hl2 => ?_)
  refine lv_aload_n hx hb dl_641 rfl (lv_at hl2 4 rfl) ?_
  refine cl_call (k := 15) (as := []) (v := M2.1 15 0) (M := M2) (M' := M2) (rest := []) hC dl_642 (show 160 < 245 by decide) (cd_m 6 152 rfl rfl) (cd_m 6 153 rfl rfl) (cd_m 6 154 rfl rfl) (cd_m 1 13 rfl rfl) (show (parseMethodDescriptor (cd_y 160).desc).map (fun d => d.parameters.length) = some 0 by decide +kernel) rfl (by decide) (Nat.le_of_ble_eq_true rfl) (Nat.le_of_ble_eq_true rfl) (Nat.le_of_ble_eq_true rfl) (Nat.le_of_ble_eq_true rfl) hl2.1 (cl_run (k11_thrown_15 M2) rfl) hcs hP hD hS (fun H locs hP hD hS => ?_)
  refine lv_iload hx hb dl_645 (lv_at hl2 6 rfl) ?_
  refine lv_icmp_eq (tgt := 652) hx hb dl_647 (by decide) (fun _ => ?_) (fun z => absurd h3 z)
  refine lv_iload hx hb dl_652 (lv_at hl2 6 rfl) ?_
  have hl3 := lv_sub hl2 [1, 2, 3, 4, 5] rfl
  refine lv_if_ne (tgt := 669) hx hb dl_654 (by decide) (fun _ => ?_) (fun z => ?_)
  · refine lv_goto (tgt := 1069) hx hb dl_669 (by decide) ?_
    exact hn ls2 M2 H locs hl3 h5 hP hD hS
  · cases r with
    | none => exact absurd z (by decide)
    | some x =>
      have h82 : (cd_sh 82).1 = 21 := rfl
      have hlt : 82 < cd_NC := cd_sh_lt (by rw [h82]; decide)
      have ha := cd_ws_at (cy := cy) (ad := ad) (M := M2) hlt
      rw [cd_cell21 h82] at ha
      refine lv_aload_n hx hb dl_657 rfl (lv_at hl2 5 rfl) ?_
      refine lv_iconst (v := 0) hx hb dl_658 (by decide) ?_
      refine va_lald hx hb hK hP 82 1 ha rfl (i := 0) (by unfold vp_in; decide) dl_659 ?_
      refine lv_iload hx hb dl_660 (lv_at hl2 0 rfl) ?_
      refine lv_i2l (v := v.toInt64) hx hb dl_662 rfl ?_
      have h4' : M2.2 82 (Int32.toNatClampNeg 0) = v.toInt64 := h4 x rfl
      rw [h4']
      refine W.lcmp hx hb dl_663 ?_
      refine lv_if_eq (tgt := 669) hx hb dl_664 (by decide) (fun _ => ?_) (fun z => absurd (by unfold lg_cmp; simp) z)
      refine lv_goto (tgt := 1069) hx hb dl_669 (by decide) ?_
      exact hn ls2 M2 H locs hl3 h5 hP hD hS
