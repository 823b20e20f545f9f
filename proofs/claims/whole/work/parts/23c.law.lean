set_option maxHeartbeats 1000000 in
set_option maxRecDepth 20000 in
theorem cl_k_apart {p : Program} {l : Launch} {e : Env} {s : State} {m : MethodId} {args : Array Value} {below : List Frame} {meth : Method} {c : Code} {H : Heap} {locs : List Loc} {cells slots : Nat} {Q : State → Prop} {D : va_G} {cy : Nat → ClassId} {ad : Nat → Nat} {fm : Value} {Rel : cd_M → Prop} {b L : Nat} {xs : Nat → Int32} (hC : cl_Cx p s m args meth c D cy ad fm b L xs) {i : Nat} {ls : Array Slot} {M : cd_M} (hi : i + 5 < L) (hl : lv_has ls 7 [(0, .ref b), (4, .int (nI i)), (1, .ref (ad 0)), (2, .ref (ad 15)), (3, .ref (ad 82))]) (hop : ∃ (v : Int32) (M2 : cd_M), f10_apart_0 (xs (i + 1)) (xs (i + 2)) M = some v ∧ f11_apart_15 (xs (i + 1)) (xs (i + 2)) M = some (v, M2) ∧ Rel M2) (hcs : cells ≤ 601024 ∧ slots ≤ 7293034)
    (hP : va_P D cd_cl (cd_ws cy ad M) H) (hD : va_D (fun q => s.heap.size ≤ q) (cd_ws cy ad M)) (hS : va_S (fun q => s.heap.size ≤ q) s.heap H locs)
    (hn : ∀ (M2 : cd_M) (H1 : Heap) (locs1 : List Loc), Rel M2 → va_P D cd_cl (cd_ws cy ad M2) H1 → va_D (fun q => s.heap.size ≤ q) (cd_ws cy ad M2) → va_S (fun q => s.heap.size ≤ q) s.heap H1 locs1 → W p l e room_1 s m args below meth c H1 locs1 cells slots Q (F0 m 1069 ls [])) : W p l e room_1 s m args below meth c H locs cells slots Q (F0 m 672 ls []) := by
  have hx := hC.1
  have hb := hC.2.1
  obtain ⟨v, M2, h1, h2, h3⟩ := hop
  refine lv_aload_n hx hb dl_672 rfl (lv_at hl 2 rfl) ?_
  refine cl_arg (k := 1) hC hl (by omega) dl_673 dl_674 dl_676 rfl dl_677 dl_678 hS ?_
  refine cl_arg (k := 2) hC hl (by omega) dl_679 dl_680 dl_682 rfl dl_683 dl_684 hS ?_
  refine cl_call (k := 0) (as := [(xs (i + 1)), (xs (i + 2))]) (v := v) (M := M) (M' := M) (rest := []) hC dl_685 (show 138 < 245 by decide) (cd_m 4 53 rfl rfl) (cd_m 4 54 rfl rfl) (cd_m 4 55 rfl rfl) (cd_m 1 1 rfl rfl) (show (parseMethodDescriptor (cd_y 138).desc).map (fun d => d.parameters.length) = some 2 by decide +kernel) rfl (by decide) (Nat.le_of_ble_eq_true rfl) (Nat.le_of_ble_eq_true rfl) (Nat.le_of_ble_eq_true rfl) (Nat.le_of_ble_eq_true rfl) hl.1 (cl_run (k10_apart_0 (xs (i + 1)) (xs (i + 2)) M) (by rw [h1]; rfl)) hcs hP hD hS (fun H locs hP hD hS => ?_)
  refine lv_aload_n hx hb dl_688 rfl (lv_at hl 3 rfl) ?_
  refine cl_arg (k := 1) hC hl (by omega) dl_689 dl_690 dl_692 rfl dl_693 dl_694 hS ?_
  refine cl_arg (k := 2) hC hl (by omega) dl_695 dl_696 dl_698 rfl dl_699 dl_700 hS ?_
  refine cl_call (k := 15) (as := [(xs (i + 1)), (xs (i + 2))]) (v := v) (M := M) (M' := M2) (rest := [.int v]) hC dl_701 (show 203 < 245 by decide) (cd_m 7 85 rfl rfl) (cd_m 7 86 rfl rfl) (cd_m 7 87 rfl rfl) (cd_m 1 13 rfl rfl) (show (parseMethodDescriptor (cd_y 203).desc).map (fun d => d.parameters.length) = some 2 by decide +kernel) rfl (by decide) (Nat.le_of_ble_eq_true rfl) (Nat.le_of_ble_eq_true rfl) (Nat.le_of_ble_eq_true rfl) (Nat.le_of_ble_eq_true rfl) hl.1 (cl_run (k11_apart_15 (xs (i + 1)) (xs (i + 2)) M) (by rw [h2]; rfl)) hcs hP hD hS (fun H locs hP hD hS => ?_)
  refine lv_icmp_eq (tgt := 1069) hx hb dl_704 (by decide) (fun _ => ?_) (fun z => absurd rfl z)
  exact hn M2 H locs h3 hP hD hS
set_option maxHeartbeats 1000000 in
set_option maxRecDepth 20000 in
theorem cl_k_path {p : Program} {l : Launch} {e : Env} {s : State} {m : MethodId} {args : Array Value} {below : List Frame} {meth : Method} {c : Code} {H : Heap} {locs : List Loc} {cells slots : Nat} {Q : State → Prop} {D : va_G} {cy : Nat → ClassId} {ad : Nat → Nat} {fm : Value} {Rel : cd_M → Prop} {b L : Nat} {xs : Nat → Int32} (hC : cl_Cx p s m args meth c D cy ad fm b L xs) {i : Nat} {ls : Array Slot} {M : cd_M} (hi : i + 5 < L) (hl : lv_has ls 7 [(0, .ref b), (4, .int (nI i)), (1, .ref (ad 0)), (2, .ref (ad 15)), (3, .ref (ad 82))]) (hop : ∃ (v : Int32) (M1 M2 : cd_M), f10_path_0 (xs (i + 1)) (xs (i + 2)) M = some (v, M1) ∧ f11_path_15 (xs (i + 1)) (xs (i + 2)) M1 = some (v, M2) ∧ Rel M2) (hcs : cells ≤ 601024 ∧ slots ≤ 7293034)
    (hP : va_P D cd_cl (cd_ws cy ad M) H) (hD : va_D (fun q => s.heap.size ≤ q) (cd_ws cy ad M)) (hS : va_S (fun q => s.heap.size ≤ q) s.heap H locs)
    (hn : ∀ (M2 : cd_M) (H1 : Heap) (locs1 : List Loc), Rel M2 → va_P D cd_cl (cd_ws cy ad M2) H1 → va_D (fun q => s.heap.size ≤ q) (cd_ws cy ad M2) → va_S (fun q => s.heap.size ≤ q) s.heap H1 locs1 → W p l e room_1 s m args below meth c H1 locs1 cells slots Q (F0 m 1069 ls [])) : W p l e room_1 s m args below meth c H locs cells slots Q (F0 m 709 ls []) := by
  have hx := hC.1
  have hb := hC.2.1
  obtain ⟨v, M1, M2, h1, h2, h3⟩ := hop
  refine lv_aload_n hx hb dl_709 rfl (lv_at hl 2 rfl) ?_
  refine cl_arg (k := 1) hC hl (by omega) dl_710 dl_711 dl_713 rfl dl_714 dl_715 hS ?_
  refine cl_arg (k := 2) hC hl (by omega) dl_716 dl_717 dl_719 rfl dl_720 dl_721 hS ?_
  refine cl_call (k := 0) (as := [(xs (i + 1)), (xs (i + 2))]) (v := v) (M := M) (M' := M1) (rest := []) hC dl_722 (show 139 < 245 by decide) (cd_m 4 67 rfl rfl) (cd_m 4 68 rfl rfl) (cd_m 4 69 rfl rfl) (cd_m 1 1 rfl rfl) (show (parseMethodDescriptor (cd_y 139).desc).map (fun d => d.parameters.length) = some 2 by decide +kernel) rfl (by decide) (Nat.le_of_ble_eq_true rfl) (Nat.le_of_ble_eq_true rfl) (Nat.le_of_ble_eq_true rfl) (Nat.le_of_ble_eq_true rfl) hl.1 (cl_run (k10_path_0 (xs (i + 1)) (xs (i + 2)) M) (by rw [h1]; rfl)) hcs hP hD hS (fun H locs hP hD hS => ?_)
  refine lv_aload_n hx hb dl_725 rfl (lv_at hl 3 rfl) ?_
  refine cl_arg (k := 1) hC hl (by omega) dl_726 dl_727 dl_729 rfl dl_730 dl_731 hS ?_
  refine cl_arg (k := 2) hC hl (by omega) dl_732 dl_733 dl_735 rfl dl_736 dl_737 hS ?_
  refine cl_call (k := 15) (as := [(xs (i + 1)), (xs (i + 2))]) (v := v) (M := M1) (M' := M2) (rest := [.int v]) hC dl_738 (show 223 < 245 by decide) (cd_m 7 93 rfl rfl) (cd_m 7 94 rfl rfl) (cd_m 7 95 rfl rfl) (cd_m 1 13 rfl rfl) (show (parseMethodDescriptor (cd_y 223).desc).map (fun d => d.parameters.length) = some 2 by decide +kernel) rfl (by decide) (Nat.le_of_ble_eq_true rfl) (Nat.le_of_ble_eq_true rfl) (Nat.le_of_ble_eq_true rfl) (Nat.le_of_ble_eq_true rfl) hl.1 (cl_run (k11_path_15 (xs (i + 1)) (xs (i + 2)) M1) (by rw [h2]; rfl)) hcs hP hD hS (fun H locs hP hD hS => ?_)
  refine lv_icmp_eq (tgt := 1069) hx hb dl_741 (by decide) (fun _ => ?_) (fun z => absurd rfl z)
  exact hn M2 H locs h3 hP hD hS
set_option maxHeartbeats 1000000 in
set_option maxRecDepth 20000 in
theorem cl_k_all {p : Program} {l : Launch} {e : Env} {s : State} {m : MethodId} {args : Array Value} {below : List Frame} {meth : Method} {c : Code} {H : Heap} {locs : List Loc} {cells slots : Nat} {Q : State → Prop} {D : va_G} {cy : Nat → ClassId} {ad : Nat → Nat} {fm : Value} {Rel : cd_M → Prop} {b L : Nat} {xs : Nat → Int32} (hC : cl_Cx p s m args meth c D cy ad fm b L xs) {i : Nat} {ls : Array Slot} {M : cd_M} (hi : i + 5 < L) (hl : lv_has ls 7 [(0, .ref b), (4, .int (nI i)), (1, .ref (ad 0)), (2, .ref (ad 15)), (3, .ref (ad 82))]) (hop : ∃ (v : Int32) (M1 M2 : cd_M), f10_all_0 (xs (i + 1)) M = some (v, M1) ∧ f11_all_15 (xs (i + 1)) M1 = some (v, M2) ∧ Rel M2) (hcs : cells ≤ 601024 ∧ slots ≤ 7293034)
    (hP : va_P D cd_cl (cd_ws cy ad M) H) (hD : va_D (fun q => s.heap.size ≤ q) (cd_ws cy ad M)) (hS : va_S (fun q => s.heap.size ≤ q) s.heap H locs)
    (hn : ∀ (M2 : cd_M) (H1 : Heap) (locs1 : List Loc), Rel M2 → va_P D cd_cl (cd_ws cy ad M2) H1 → va_D (fun q => s.heap.size ≤ q) (cd_ws cy ad M2) → va_S (fun q => s.heap.size ≤ q) s.heap H1 locs1 → W p l e room_1 s m args below meth c H1 locs1 cells slots Q (F0 m 1069 ls [])) : W p l e room_1 s m args below meth c H locs cells slots Q (F0 m 746 ls []) := by
  have hx := hC.1
  have hb := hC.2.1
  obtain ⟨v, M1, M2, h1, h2, h3⟩ := hop
  refine lv_aload_n hx hb dl_746 rfl (lv_at hl 2 rfl) ?_
  refine cl_arg (k := 1) hC hl (by omega) dl_747 dl_748 dl_750 rfl dl_751 dl_752 hS ?_
  refine cl_call (k := 0) (as := [(xs (i + 1))]) (v := v) (M := M) (M' := M1) (rest := []) hC dl_753 (show 140 < 245 by decide) (cd_m 5 30 rfl rfl) (cd_m 5 31 rfl rfl) (cd_m 5 32 rfl rfl) (cd_m 1 1 rfl rfl) (show (parseMethodDescriptor (cd_y 140).desc).map (fun d => d.parameters.length) = some 1 by decide +kernel) rfl (by decide) (Nat.le_of_ble_eq_true rfl) (Nat.le_of_ble_eq_true rfl) (Nat.le_of_ble_eq_true rfl) (Nat.le_of_ble_eq_true rfl) hl.1 (cl_run (k10_all_0 (xs (i + 1)) M) (by rw [h1]; rfl)) hcs hP hD hS (fun H locs hP hD hS => ?_)
  refine lv_aload_n hx hb dl_756 rfl (lv_at hl 3 rfl) ?_
  refine cl_arg (k := 1) hC hl (by omega) dl_757 dl_758 dl_760 rfl dl_761 dl_762 hS ?_
  refine cl_call (k := 15) (as := [(xs (i + 1))]) (v := v) (M := M1) (M' := M2) (rest := [.int v]) hC dl_763 (show 224 < 245 by decide) (cd_m 7 173 rfl rfl) (cd_m 7 174 rfl rfl) (cd_m 7 175 rfl rfl) (cd_m 1 13 rfl rfl) (show (parseMethodDescriptor (cd_y 224).desc).map (fun d => d.parameters.length) = some 1 by decide +kernel) rfl (by decide) (Nat.le_of_ble_eq_true rfl) (Nat.le_of_ble_eq_true rfl) (Nat.le_of_ble_eq_true rfl) (Nat.le_of_ble_eq_true rfl) hl.1 (cl_run (k11_all_15 (xs (i + 1)) M1) (by rw [h2]; rfl)) hcs hP hD hS (fun H locs hP hD hS => ?_)
  refine lv_icmp_eq (tgt := 1069) hx hb dl_766 (by decide) (fun _ => ?_) (fun z => absurd rfl z)
  exact hn M2 H locs h3 hP hD hS
set_option maxHeartbeats 1000000 in
set_option maxRecDepth 20000 in
theorem cl_k_edit {p : Program} {l : Launch} {e : Env} {s : State} {m : MethodId} {args : Array Value} {below : List Frame} {meth : Method} {c : Code} {H : Heap} {locs : List Loc} {cells slots : Nat} {Q : State → Prop} {D : va_G} {cy : Nat → ClassId} {ad : Nat → Nat} {fm : Value} {Rel : cd_M → Prop} {b L : Nat} {xs : Nat → Int32} (hC : cl_Cx p s m args meth c D cy ad fm b L xs) {i : Nat} {ls : Array Slot} {M : cd_M} (hi : i + 5 < L) (hl : lv_has ls 7 [(0, .ref b), (4, .int (nI i)), (1, .ref (ad 0)), (2, .ref (ad 15)), (3, .ref (ad 82))]) (hop : ∃ (v : Int32) (M1 M2 : cd_M), f10_edit_0 (xs (i + 1)) M = some (v, M1) ∧ f11_edit_15 (xs (i + 1)) M1 = some (v, M2) ∧ Rel M2) (hcs : cells ≤ 601024 ∧ slots ≤ 7293034)
    (hP : va_P D cd_cl (cd_ws cy ad M) H) (hD : va_D (fun q => s.heap.size ≤ q) (cd_ws cy ad M)) (hS : va_S (fun q => s.heap.size ≤ q) s.heap H locs)
    (hn : ∀ (M2 : cd_M) (H1 : Heap) (locs1 : List Loc), Rel M2 → va_P D cd_cl (cd_ws cy ad M2) H1 → va_D (fun q => s.heap.size ≤ q) (cd_ws cy ad M2) → va_S (fun q => s.heap.size ≤ q) s.heap H1 locs1 → W p l e room_1 s m args below meth c H1 locs1 cells slots Q (F0 m 1069 ls [])) : W p l e room_1 s m args below meth c H locs cells slots Q (F0 m 771 ls []) := by
  have hx := hC.1
  have hb := hC.2.1
  obtain ⟨v, M1, M2, h1, h2, h3⟩ := hop
  refine lv_aload_n hx hb dl_771 rfl (lv_at hl 2 rfl) ?_
  refine cl_arg (k := 1) hC hl (by omega) dl_772 dl_773 dl_775 rfl dl_776 dl_777 hS ?_
  refine cl_call (k := 0) (as := [(xs (i + 1))]) (v := v) (M := M) (M' := M1) (rest := []) hC dl_778 (show 141 < 245 by decide) (cd_m 5 62 rfl rfl) (cd_m 5 63 rfl rfl) (cd_m 5 64 rfl rfl) (cd_m 1 1 rfl rfl) (show (parseMethodDescriptor (cd_y 141).desc).map (fun d => d.parameters.length) = some 1 by decide +kernel) rfl (by decide) (Nat.le_of_ble_eq_true rfl) (Nat.le_of_ble_eq_true rfl) (Nat.le_of_ble_eq_true rfl) (Nat.le_of_ble_eq_true rfl) hl.1 (cl_run (k10_edit_0 (xs (i + 1)) M) (by rw [h1]; rfl)) hcs hP hD hS (fun H locs hP hD hS => ?_)
  refine lv_aload_n hx hb dl_781 rfl (lv_at hl 3 rfl) ?_
  refine cl_arg (k := 1) hC hl (by omega) dl_782 dl_783 dl_785 rfl dl_786 dl_787 hS ?_
  refine cl_call (k := 15) (as := [(xs (i + 1))]) (v := v) (M := M1) (M' := M2) (rest := [.int v]) hC dl_788 (show 225 < 245 by decide) (cd_m 7 177 rfl rfl) (cd_m 7 178 rfl rfl) (cd_m 7 179 rfl rfl) (cd_m 1 13 rfl rfl) (show (parseMethodDescriptor (cd_y 225).desc).map (fun d => d.parameters.length) = some 1 by decide +kernel) rfl (by decide) (Nat.le_of_ble_eq_true rfl) (Nat.le_of_ble_eq_true rfl) (Nat.le_of_ble_eq_true rfl) (Nat.le_of_ble_eq_true rfl) hl.1 (cl_run (k11_edit_15 (xs (i + 1)) M1) (by rw [h2]; rfl)) hcs hP hD hS (fun H locs hP hD hS => ?_)
  refine lv_icmp_eq (tgt := 1069) hx hb dl_791 (by decide) (fun _ => ?_) (fun z => absurd rfl z)
  exact hn M2 H locs h3 hP hD hS
set_option maxHeartbeats 1000000 in
set_option maxRecDepth 20000 in
theorem cl_k_group {p : Program} {l : Launch} {e : Env} {s : State} {m : MethodId} {args : Array Value} {below : List Frame} {meth : Method} {c : Code} {H : Heap} {locs : List Loc} {cells slots : Nat} {Q : State → Prop} {D : va_G} {cy : Nat → ClassId} {ad : Nat → Nat} {fm : Value} {Rel : cd_M → Prop} {b L : Nat} {xs : Nat → Int32} (hC : cl_Cx p s m args meth c D cy ad fm b L xs) {i : Nat} {ls : Array Slot} {M : cd_M} (hi : i + 5 < L) (hl : lv_has ls 7 [(0, .ref b), (4, .int (nI i)), (1, .ref (ad 0)), (2, .ref (ad 15)), (3, .ref (ad 82))]) (hop : ∃ (v : Int32) (M1 M2 : cd_M), f10_group_0 (xs (i + 1)) (xs (i + 2)) M = some (v, M1) ∧ f11_group_15 (xs (i + 1)) (xs (i + 2)) M1 = some (v, M2) ∧ Rel M2) (hcs : cells ≤ 601024 ∧ slots ≤ 7293034)
    (hP : va_P D cd_cl (cd_ws cy ad M) H) (hD : va_D (fun q => s.heap.size ≤ q) (cd_ws cy ad M)) (hS : va_S (fun q => s.heap.size ≤ q) s.heap H locs)
    (hn : ∀ (M2 : cd_M) (H1 : Heap) (locs1 : List Loc), Rel M2 → va_P D cd_cl (cd_ws cy ad M2) H1 → va_D (fun q => s.heap.size ≤ q) (cd_ws cy ad M2) → va_S (fun q => s.heap.size ≤ q) s.heap H1 locs1 → W p l e room_1 s m args below meth c H1 locs1 cells slots Q (F0 m 1069 ls [])) : W p l e room_1 s m args below meth c H locs cells slots Q (F0 m 796 ls []) := by
  have hx := hC.1
  have hb := hC.2.1
  obtain ⟨v, M1, M2, h1, h2, h3⟩ := hop
  refine lv_aload_n hx hb dl_796 rfl (lv_at hl 2 rfl) ?_
  refine cl_arg (k := 1) hC hl (by omega) dl_797 dl_798 dl_800 rfl dl_801 dl_802 hS ?_
  refine cl_arg (k := 2) hC hl (by omega) dl_803 dl_804 dl_806 rfl dl_807 dl_808 hS ?_
  refine cl_call (k := 0) (as := [(xs (i + 1)), (xs (i + 2))]) (v := v) (M := M) (M' := M1) (rest := []) hC dl_809 (show 142 < 245 by decide) (cd_m 5 70 rfl rfl) (cd_m 5 71 rfl rfl) (cd_m 5 72 rfl rfl) (cd_m 1 1 rfl rfl) (show (parseMethodDescriptor (cd_y 142).desc).map (fun d => d.parameters.length) = some 2 by decide +kernel) rfl (by decide) (Nat.le_of_ble_eq_true rfl) (Nat.le_of_ble_eq_true rfl) (Nat.le_of_ble_eq_true rfl) (Nat.le_of_ble_eq_true rfl) hl.1 (cl_run (k10_group_0 (xs (i + 1)) (xs (i + 2)) M) (by rw [h1]; rfl)) hcs hP hD hS (fun H locs hP hD hS => ?_)
  refine lv_aload_n hx hb dl_812 rfl (lv_at hl 3 rfl) ?_
  refine cl_arg (k := 1) hC hl (by omega) dl_813 dl_814 dl_816 rfl dl_817 dl_818 hS ?_
  refine cl_arg (k := 2) hC hl (by omega) dl_819 dl_820 dl_822 rfl dl_823 dl_824 hS ?_
  refine cl_call (k := 15) (as := [(xs (i + 1)), (xs (i + 2))]) (v := v) (M := M1) (M' := M2) (rest := [.int v]) hC dl_825 (show 226 < 245 by decide) (cd_m 7 181 rfl rfl) (cd_m 7 182 rfl rfl) (cd_m 7 183 rfl rfl) (cd_m 1 13 rfl rfl) (show (parseMethodDescriptor (cd_y 226).desc).map (fun d => d.parameters.length) = some 2 by decide +kernel) rfl (by decide) (Nat.le_of_ble_eq_true rfl) (Nat.le_of_ble_eq_true rfl) (Nat.le_of_ble_eq_true rfl) (Nat.le_of_ble_eq_true rfl) hl.1 (cl_run (k11_group_15 (xs (i + 1)) (xs (i + 2)) M1) (by rw [h2]; rfl)) hcs hP hD hS (fun H locs hP hD hS => ?_)
  refine lv_icmp_eq (tgt := 1069) hx hb dl_828 (by decide) (fun _ => ?_) (fun z => absurd rfl z)
  exact hn M2 H locs h3 hP hD hS
set_option maxHeartbeats 1000000 in
set_option maxRecDepth 20000 in
theorem cl_k_found {p : Program} {l : Launch} {e : Env} {s : State} {m : MethodId} {args : Array Value} {below : List Frame} {meth : Method} {c : Code} {H : Heap} {locs : List Loc} {cells slots : Nat} {Q : State → Prop} {D : va_G} {cy : Nat → ClassId} {ad : Nat → Nat} {fm : Value} {Rel : cd_M → Prop} {b L : Nat} {xs : Nat → Int32} (hC : cl_Cx p s m args meth c D cy ad fm b L xs) {i : Nat} {ls : Array Slot} {M : cd_M} (hi : i + 5 < L) (hl : lv_has ls 7 [(0, .ref b), (4, .int (nI i)), (1, .ref (ad 0)), (2, .ref (ad 15)), (3, .ref (ad 82))]) (hop : ∃ (v : Int32) (M1 M2 : cd_M), f10_found_0 (xs (i + 1)) (xs (i + 2)) (xs (i + 3)) M = some (v, M1) ∧ f11_found_15 (xs (i + 1)) (xs (i + 2)) (xs (i + 3)) M1 = some (v, M2) ∧ Rel M2) (hcs : cells ≤ 601024 ∧ slots ≤ 7293034)
    (hP : va_P D cd_cl (cd_ws cy ad M) H) (hD : va_D (fun q => s.heap.size ≤ q) (cd_ws cy ad M)) (hS : va_S (fun q => s.heap.size ≤ q) s.heap H locs)
    (hn : ∀ (M2 : cd_M) (H1 : Heap) (locs1 : List Loc), Rel M2 → va_P D cd_cl (cd_ws cy ad M2) H1 → va_D (fun q => s.heap.size ≤ q) (cd_ws cy ad M2) → va_S (fun q => s.heap.size ≤ q) s.heap H1 locs1 → W p l e room_1 s m args below meth c H1 locs1 cells slots Q (F0 m 1069 ls [])) : W p l e room_1 s m args below meth c H locs cells slots Q (F0 m 833 ls []) := by
  have hx := hC.1
  have hb := hC.2.1
  obtain ⟨v, M1, M2, h1, h2, h3⟩ := hop
  refine lv_aload_n hx hb dl_833 rfl (lv_at hl 2 rfl) ?_
  refine cl_arg (k := 1) hC hl (by omega) dl_834 dl_835 dl_837 rfl dl_838 dl_839 hS ?_
  refine cl_arg (k := 2) hC hl (by omega) dl_840 dl_841 dl_843 rfl dl_844 dl_845 hS ?_
  refine cl_arg (k := 3) hC hl (by omega) dl_846 dl_847 dl_849 rfl dl_850 dl_851 hS ?_
  refine cl_call (k := 0) (as := [(xs (i + 1)), (xs (i + 2)), (xs (i + 3))]) (v := v) (M := M) (M' := M1) (rest := []) hC dl_852 (show 143 < 245 by decide) (cd_m 5 88 rfl rfl) (cd_m 5 89 rfl rfl) (cd_m 5 90 rfl rfl) (cd_m 1 1 rfl rfl) (show (parseMethodDescriptor (cd_y 143).desc).map (fun d => d.parameters.length) = some 3 by decide +kernel) rfl (by decide) (Nat.le_of_ble_eq_true rfl) (Nat.le_of_ble_eq_true rfl) (Nat.le_of_ble_eq_true rfl) (Nat.le_of_ble_eq_true rfl) hl.1 (cl_run (k10_found_0 (xs (i + 1)) (xs (i + 2)) (xs (i + 3)) M) (by rw [h1]; rfl)) hcs hP hD hS (fun H locs hP hD hS => ?_)
  refine lv_aload_n hx hb dl_855 rfl (lv_at hl 3 rfl) ?_
  refine cl_arg (k := 1) hC hl (by omega) dl_856 dl_857 dl_859 rfl dl_860 dl_861 hS ?_
  refine cl_arg (k := 2) hC hl (by omega) dl_862 dl_863 dl_865 rfl dl_866 dl_867 hS ?_
  refine cl_arg (k := 3) hC hl (by omega) dl_868 dl_869 dl_871 rfl dl_872 dl_873 hS ?_
  refine cl_call (k := 15) (as := [(xs (i + 1)), (xs (i + 2)), (xs (i + 3))]) (v := v) (M := M1) (M' := M2) (rest := [.int v]) hC dl_874 (show 227 < 245 by decide) (cd_m 7 185 rfl rfl) (cd_m 7 186 rfl rfl) (cd_m 7 187 rfl rfl) (cd_m 1 13 rfl rfl) (show (parseMethodDescriptor (cd_y 227).desc).map (fun d => d.parameters.length) = some 3 by decide +kernel) rfl (by decide) (Nat.le_of_ble_eq_true rfl) (Nat.le_of_ble_eq_true rfl) (Nat.le_of_ble_eq_true rfl) (Nat.le_of_ble_eq_true rfl) hl.1 (cl_run (k11_found_15 (xs (i + 1)) (xs (i + 2)) (xs (i + 3)) M1) (by rw [h2]; rfl)) hcs hP hD hS (fun H locs hP hD hS => ?_)
  refine lv_icmp_eq (tgt := 1069) hx hb dl_877 (by decide) (fun _ => ?_) (fun z => absurd rfl z)
  exact hn M2 H locs h3 hP hD hS
set_option maxHeartbeats 1000000 in
set_option maxRecDepth 20000 in
theorem cl_k_known {p : Program} {l : Launch} {e : Env} {s : State} {m : MethodId} {args : Array Value} {below : List Frame} {meth : Method} {c : Code} {H : Heap} {locs : List Loc} {cells slots : Nat} {Q : State → Prop} {D : va_G} {cy : Nat → ClassId} {ad : Nat → Nat} {fm : Value} {Rel : cd_M → Prop} {b L : Nat} {xs : Nat → Int32} (hC : cl_Cx p s m args meth c D cy ad fm b L xs) {i : Nat} {ls : Array Slot} {M : cd_M} (hi : i + 5 < L) (hl : lv_has ls 7 [(0, .ref b), (4, .int (nI i)), (1, .ref (ad 0)), (2, .ref (ad 15)), (3, .ref (ad 82))]) (hop : ∃ (v : Int32) (M1 M2 : cd_M), f10_known_0 (xs (i + 1)) M = some (v, M1) ∧ f11_known_15 (xs (i + 1)) M1 = some (v, M2) ∧ Rel M2) (hcs : cells ≤ 601024 ∧ slots ≤ 7293034)
    (hP : va_P D cd_cl (cd_ws cy ad M) H) (hD : va_D (fun q => s.heap.size ≤ q) (cd_ws cy ad M)) (hS : va_S (fun q => s.heap.size ≤ q) s.heap H locs)
    (hn : ∀ (M2 : cd_M) (H1 : Heap) (locs1 : List Loc), Rel M2 → va_P D cd_cl (cd_ws cy ad M2) H1 → va_D (fun q => s.heap.size ≤ q) (cd_ws cy ad M2) → va_S (fun q => s.heap.size ≤ q) s.heap H1 locs1 → W p l e room_1 s m args below meth c H1 locs1 cells slots Q (F0 m 1069 ls [])) : W p l e room_1 s m args below meth c H locs cells slots Q (F0 m 882 ls []) := by
  have hx := hC.1
  have hb := hC.2.1
  obtain ⟨v, M1, M2, h1, h2, h3⟩ := hop
  refine lv_aload_n hx hb dl_882 rfl (lv_at hl 2 rfl) ?_
  refine cl_arg (k := 1) hC hl (by omega) dl_883 dl_884 dl_886 rfl dl_887 dl_888 hS ?_
  refine cl_call (k := 0) (as := [(xs (i + 1))]) (v := v) (M := M) (M' := M1) (rest := []) hC dl_889 (show 144 < 245 by decide) (cd_m 5 92 rfl rfl) (cd_m 5 93 rfl rfl) (cd_m 5 94 rfl rfl) (cd_m 1 1 rfl rfl) (show (parseMethodDescriptor (cd_y 144).desc).map (fun d => d.parameters.length) = some 1 by decide +kernel) rfl (by decide) (Nat.le_of_ble_eq_true rfl) (Nat.le_of_ble_eq_true rfl) (Nat.le_of_ble_eq_true rfl) (Nat.le_of_ble_eq_true rfl) hl.1 (cl_run (k10_known_0 (xs (i + 1)) M) (by rw [h1]; rfl)) hcs hP hD hS (fun H locs hP hD hS => ?_)
  refine lv_aload_n hx hb dl_892 rfl (lv_at hl 3 rfl) ?_
  refine cl_arg (k := 1) hC hl (by omega) dl_893 dl_894 dl_896 rfl dl_897 dl_898 hS ?_
  refine cl_call (k := 15) (as := [(xs (i + 1))]) (v := v) (M := M1) (M' := M2) (rest := [.int v]) hC dl_899 (show 229 < 245 by decide) (cd_m 7 189 rfl rfl) (cd_m 7 190 rfl rfl) (cd_m 7 191 rfl rfl) (cd_m 1 13 rfl rfl) (show (parseMethodDescriptor (cd_y 229).desc).map (fun d => d.parameters.length) = some 1 by decide +kernel) rfl (by decide) (Nat.le_of_ble_eq_true rfl) (Nat.le_of_ble_eq_true rfl) (Nat.le_of_ble_eq_true rfl) (Nat.le_of_ble_eq_true rfl) hl.1 (cl_run (k11_known_15 (xs (i + 1)) M1) (by rw [h2]; rfl)) hcs hP hD hS (fun H locs hP hD hS => ?_)
  refine lv_icmp_eq (tgt := 1069) hx hb dl_902 (by decide) (fun _ => ?_) (fun z => absurd rfl z)
  exact hn M2 H locs h3 hP hD hS
set_option maxHeartbeats 1000000 in
set_option maxRecDepth 20000 in
theorem cl_k_restored {p : Program} {l : Launch} {e : Env} {s : State} {m : MethodId} {args : Array Value} {below : List Frame} {meth : Method} {c : Code} {H : Heap} {locs : List Loc} {cells slots : Nat} {Q : State → Prop} {D : va_G} {cy : Nat → ClassId} {ad : Nat → Nat} {fm : Value} {Rel : cd_M → Prop} {b L : Nat} {xs : Nat → Int32} (hC : cl_Cx p s m args meth c D cy ad fm b L xs) {i : Nat} {ls : Array Slot} {M : cd_M} (hi : i + 5 < L) (hl : lv_has ls 7 [(0, .ref b), (4, .int (nI i)), (1, .ref (ad 0)), (2, .ref (ad 15)), (3, .ref (ad 82))]) (hop : ∃ (v : Int32) (M1 M2 : cd_M), f10_restored_0 M = some (v, M1) ∧ f11_restored_15 M1 = some (v, M2) ∧ Rel M2) (hcs : cells ≤ 601024 ∧ slots ≤ 7293034)
    (hP : va_P D cd_cl (cd_ws cy ad M) H) (hD : va_D (fun q => s.heap.size ≤ q) (cd_ws cy ad M)) (hS : va_S (fun q => s.heap.size ≤ q) s.heap H locs)
    (hn : ∀ (M2 : cd_M) (H1 : Heap) (locs1 : List Loc), Rel M2 → va_P D cd_cl (cd_ws cy ad M2) H1 → va_D (fun q => s.heap.size ≤ q) (cd_ws cy ad M2) → va_S (fun q => s.heap.size ≤ q) s.heap H1 locs1 → W p l e room_1 s m args below meth c H1 locs1 cells slots Q (F0 m 1069 ls [])) : W p l e room_1 s m args below meth c H locs cells slots Q (F0 m 907 ls []) := by
  have hx := hC.1
  have hb := hC.2.1
  obtain ⟨v, M1, M2, h1, h2, h3⟩ := hop
  refine lv_aload_n hx hb dl_907 rfl (lv_at hl 2 rfl) ?_
  refine cl_call (k := 0) (as := []) (v := v) (M := M) (M' := M1) (rest := []) hC dl_908 (show 145 < 245 by decide) (cd_m 5 100 rfl rfl) (cd_m 5 101 rfl rfl) (cd_m 5 102 rfl rfl) (cd_m 1 1 rfl rfl) (show (parseMethodDescriptor (cd_y 145).desc).map (fun d => d.parameters.length) = some 0 by decide +kernel) rfl (by decide) (Nat.le_of_ble_eq_true rfl) (Nat.le_of_ble_eq_true rfl) (Nat.le_of_ble_eq_true rfl) (Nat.le_of_ble_eq_true rfl) hl.1 (cl_run (k10_restored_0 M) (by rw [h1]; rfl)) hcs hP hD hS (fun H locs hP hD hS => ?_)
  refine lv_aload_n hx hb dl_911 rfl (lv_at hl 3 rfl) ?_
  refine cl_call (k := 15) (as := []) (v := v) (M := M1) (M' := M2) (rest := [.int v]) hC dl_912 (show 230 < 245 by decide) (cd_m 7 197 rfl rfl) (cd_m 7 198 rfl rfl) (cd_m 7 199 rfl rfl) (cd_m 1 13 rfl rfl) (show (parseMethodDescriptor (cd_y 230).desc).map (fun d => d.parameters.length) = some 0 by decide +kernel) rfl (by decide) (Nat.le_of_ble_eq_true rfl) (Nat.le_of_ble_eq_true rfl) (Nat.le_of_ble_eq_true rfl) (Nat.le_of_ble_eq_true rfl) hl.1 (cl_run (k11_restored_15 M1) (by rw [h2]; rfl)) hcs hP hD hS (fun H locs hP hD hS => ?_)
  refine lv_icmp_eq (tgt := 1069) hx hb dl_915 (by decide) (fun _ => ?_) (fun z => absurd rfl z)
  exact hn M2 H locs h3 hP hD hS
set_option maxHeartbeats 1000000 in
set_option maxRecDepth 20000 in
theorem cl_k_costs {p : Program} {l : Launch} {e : Env} {s : State} {m : MethodId} {args : Array Value} {below : List Frame} {meth : Method} {c : Code} {H : Heap} {locs : List Loc} {cells slots : Nat} {Q : State → Prop} {D : va_G} {cy : Nat → ClassId} {ad : Nat → Nat} {fm : Value} {Rel : cd_M → Prop} {b L : Nat} {xs : Nat → Int32} (hC : cl_Cx p s m args meth c D cy ad fm b L xs) {i : Nat} {ls : Array Slot} {M : cd_M} (hi : i + 5 < L) (hl : lv_has ls 7 [(0, .ref b), (4, .int (nI i)), (1, .ref (ad 0)), (2, .ref (ad 15)), (3, .ref (ad 82))]) (hop : ∃ (v : Int32) (M1 M2 : cd_M), f10_costs_0 (xs (i + 1)) M = some (v, M1) ∧ f11_costs__15 (xs (i + 1)) M1 = some (v, M2) ∧ Rel M2) (hcs : cells ≤ 601024 ∧ slots ≤ 7293034)
    (hP : va_P D cd_cl (cd_ws cy ad M) H) (hD : va_D (fun q => s.heap.size ≤ q) (cd_ws cy ad M)) (hS : va_S (fun q => s.heap.size ≤ q) s.heap H locs)
    (hn : ∀ (M2 : cd_M) (H1 : Heap) (locs1 : List Loc), Rel M2 → va_P D cd_cl (cd_ws cy ad M2) H1 → va_D (fun q => s.heap.size ≤ q) (cd_ws cy ad M2) → va_S (fun q => s.heap.size ≤ q) s.heap H1 locs1 → W p l e room_1 s m args below meth c H1 locs1 cells slots Q (F0 m 1069 ls [])) : W p l e room_1 s m args below meth c H locs cells slots Q (F0 m 920 ls []) := by
  have hx := hC.1
  have hb := hC.2.1
  obtain ⟨v, M1, M2, h1, h2, h3⟩ := hop
  refine lv_aload_n hx hb dl_920 rfl (lv_at hl 2 rfl) ?_
  refine cl_arg (k := 1) hC hl (by omega) dl_921 dl_922 dl_924 rfl dl_925 dl_926 hS ?_
  refine cl_call (k := 0) (as := [(xs (i + 1))]) (v := v) (M := M) (M' := M1) (rest := []) hC dl_927 (show 146 < 245 by decide) (cd_m 5 109 rfl rfl) (cd_m 5 110 rfl rfl) (cd_m 5 111 rfl rfl) (cd_m 1 1 rfl rfl) (show (parseMethodDescriptor (cd_y 146).desc).map (fun d => d.parameters.length) = some 1 by decide +kernel) rfl (by decide) (Nat.le_of_ble_eq_true rfl) (Nat.le_of_ble_eq_true rfl) (Nat.le_of_ble_eq_true rfl) (Nat.le_of_ble_eq_true rfl) hl.1 (cl_run (k10_costs_0 (xs (i + 1)) M) (by rw [h1]; rfl)) hcs hP hD hS (fun H locs hP hD hS => ?_)
  refine lv_aload_n hx hb dl_930 rfl (lv_at hl 3 rfl) ?_
  refine cl_arg (k := 1) hC hl (by omega) dl_931 dl_932 dl_934 rfl dl_935 dl_936 hS ?_
  refine cl_call (k := 15) (as := [(xs (i + 1))]) (v := v) (M := M1) (M' := M2) (rest := [.int v]) hC dl_937 (show 231 < 245 by decide) (cd_m 7 201 rfl rfl) (cd_m 7 202 rfl rfl) (cd_m 7 203 rfl rfl) (cd_m 1 13 rfl rfl) (show (parseMethodDescriptor (cd_y 231).desc).map (fun d => d.parameters.length) = some 1 by decide +kernel) rfl (by decide) (Nat.le_of_ble_eq_true rfl) (Nat.le_of_ble_eq_true rfl) (Nat.le_of_ble_eq_true rfl) (Nat.le_of_ble_eq_true rfl) hl.1 (cl_run (k11_costs__15 (xs (i + 1)) M1) (by rw [h2]; rfl)) hcs hP hD hS (fun H locs hP hD hS => ?_)
  refine lv_icmp_eq (tgt := 1069) hx hb dl_940 (by decide) (fun _ => ?_) (fun z => absurd rfl z)
  exact hn M2 H locs h3 hP hD hS
set_option maxHeartbeats 1000000 in
set_option maxRecDepth 20000 in
theorem cl_k_guess {p : Program} {l : Launch} {e : Env} {s : State} {m : MethodId} {args : Array Value} {below : List Frame} {meth : Method} {c : Code} {H : Heap} {locs : List Loc} {cells slots : Nat} {Q : State → Prop} {D : va_G} {cy : Nat → ClassId} {ad : Nat → Nat} {fm : Value} {Rel : cd_M → Prop} {b L : Nat} {xs : Nat → Int32} (hC : cl_Cx p s m args meth c D cy ad fm b L xs) {i : Nat} {ls : Array Slot} {M : cd_M} (hi : i + 5 < L) (hl : lv_has ls 7 [(0, .ref b), (4, .int (nI i)), (1, .ref (ad 0)), (2, .ref (ad 15)), (3, .ref (ad 82))]) (hop : ∃ (v : Int32) (M1 M2 : cd_M), f10_guess_0 (xs (i + 1)) M = some (v, M1) ∧ f11_guess_15 (xs (i + 1)) M1 = some (v, M2) ∧ Rel M2) (hcs : cells ≤ 601024 ∧ slots ≤ 7293034)
    (hP : va_P D cd_cl (cd_ws cy ad M) H) (hD : va_D (fun q => s.heap.size ≤ q) (cd_ws cy ad M)) (hS : va_S (fun q => s.heap.size ≤ q) s.heap H locs)
    (hn : ∀ (M2 : cd_M) (H1 : Heap) (locs1 : List Loc), Rel M2 → va_P D cd_cl (cd_ws cy ad M2) H1 → va_D (fun q => s.heap.size ≤ q) (cd_ws cy ad M2) → va_S (fun q => s.heap.size ≤ q) s.heap H1 locs1 → W p l e room_1 s m args below meth c H1 locs1 cells slots Q (F0 m 1069 ls [])) : W p l e room_1 s m args below meth c H locs cells slots Q (F0 m 945 ls []) := by
  have hx := hC.1
  have hb := hC.2.1
  obtain ⟨v, M1, M2, h1, h2, h3⟩ := hop
  refine lv_aload_n hx hb dl_945 rfl (lv_at hl 2 rfl) ?_
  refine cl_arg (k := 1) hC hl (by omega) dl_946 dl_947 dl_949 rfl dl_950 dl_951 hS ?_
  refine cl_call (k := 0) (as := [(xs (i + 1))]) (v := v) (M := M) (M' := M1) (rest := []) hC dl_952 (show 147 < 245 by decide) (cd_m 5 118 rfl rfl) (cd_m 5 119 rfl rfl) (cd_m 5 120 rfl rfl) (cd_m 1 1 rfl rfl) (show (parseMethodDescriptor (cd_y 147).desc).map (fun d => d.parameters.length) = some 1 by decide +kernel) rfl (by decide) (Nat.le_of_ble_eq_true rfl) (Nat.le_of_ble_eq_true rfl) (Nat.le_of_ble_eq_true rfl) (Nat.le_of_ble_eq_true rfl) hl.1 (cl_run (k10_guess_0 (xs (i + 1)) M) (by rw [h1]; rfl)) hcs hP hD hS (fun H locs hP hD hS => ?_)
  refine lv_aload_n hx hb dl_955 rfl (lv_at hl 3 rfl) ?_
  refine cl_arg (k := 1) hC hl (by omega) dl_956 dl_957 dl_959 rfl dl_960 dl_961 hS ?_
  refine cl_call (k := 15) (as := [(xs (i + 1))]) (v := v) (M := M1) (M' := M2) (rest := [.int v]) hC dl_962 (show 232 < 245 by decide) (cd_m 7 205 rfl rfl) (cd_m 7 206 rfl rfl) (cd_m 7 207 rfl rfl) (cd_m 1 13 rfl rfl) (show (parseMethodDescriptor (cd_y 232).desc).map (fun d => d.parameters.length) = some 1 by decide +kernel) rfl (by decide) (Nat.le_of_ble_eq_true rfl) (Nat.le_of_ble_eq_true rfl) (Nat.le_of_ble_eq_true rfl) (Nat.le_of_ble_eq_true rfl) hl.1 (cl_run (k11_guess_15 (xs (i + 1)) M1) (by rw [h2]; rfl)) hcs hP hD hS (fun H locs hP hD hS => ?_)
  refine lv_icmp_eq (tgt := 1069) hx hb dl_965 (by decide) (fun _ => ?_) (fun z => absurd rfl z)
  exact hn M2 H locs h3 hP hD hS
set_option maxHeartbeats 1000000 in
set_option maxRecDepth 20000 in
theorem cl_k_anew {p : Program} {l : Launch} {e : Env} {s : State} {m : MethodId} {args : Array Value} {below : List Frame} {meth : Method} {c : Code} {H : Heap} {locs : List Loc} {cells slots : Nat} {Q : State → Prop} {D : va_G} {cy : Nat → ClassId} {ad : Nat → Nat} {fm : Value} {Rel : cd_M → Prop} {b L : Nat} {xs : Nat → Int32} (hC : cl_Cx p s m args meth c D cy ad fm b L xs) {i : Nat} {ls : Array Slot} {M : cd_M} (hi : i + 5 < L) (hl : lv_has ls 7 [(0, .ref b), (4, .int (nI i)), (1, .ref (ad 0)), (2, .ref (ad 15)), (3, .ref (ad 82))]) (hop : ∃ (v : Int32) (M1 M2 : cd_M), f10_anew_0 (xs (i + 1)) (xs (i + 2)) (xs (i + 3)) M = some (v, M1) ∧ f11_anew_15 (xs (i + 1)) (xs (i + 2)) (xs (i + 3)) M1 = some (v, M2) ∧ Rel M2) (hcs : cells ≤ 601024 ∧ slots ≤ 7293034)
    (hP : va_P D cd_cl (cd_ws cy ad M) H) (hD : va_D (fun q => s.heap.size ≤ q) (cd_ws cy ad M)) (hS : va_S (fun q => s.heap.size ≤ q) s.heap H locs)
    (hn : ∀ (M2 : cd_M) (H1 : Heap) (locs1 : List Loc), Rel M2 → va_P D cd_cl (cd_ws cy ad M2) H1 → va_D (fun q => s.heap.size ≤ q) (cd_ws cy ad M2) → va_S (fun q => s.heap.size ≤ q) s.heap H1 locs1 → W p l e room_1 s m args below meth c H1 locs1 cells slots Q (F0 m 1069 ls [])) : W p l e room_1 s m args below meth c H locs cells slots Q (F0 m 970 ls []) := by
  have hx := hC.1
  have hb := hC.2.1
  obtain ⟨v, M1, M2, h1, h2, h3⟩ := hop
  refine lv_aload_n hx hb dl_970 rfl (lv_at hl 2 rfl) ?_
  refine cl_arg (k := 1) hC hl (by omega) dl_971 dl_972 dl_974 rfl dl_975 dl_976 hS ?_
  refine cl_arg (k := 2) hC hl (by omega) dl_977 dl_978 dl_980 rfl dl_981 dl_982 hS ?_
  refine cl_arg (k := 3) hC hl (by omega) dl_983 dl_984 dl_986 rfl dl_987 dl_988 hS ?_
  refine cl_call (k := 0) (as := [(xs (i + 1)), (xs (i + 2)), (xs (i + 3))]) (v := v) (M := M) (M' := M1) (rest := []) hC dl_989 (show 148 < 245 by decide) (cd_m 5 130 rfl rfl) (cd_m 5 131 rfl rfl) (cd_m 5 132 rfl rfl) (cd_m 1 1 rfl rfl) (show (parseMethodDescriptor (cd_y 148).desc).map (fun d => d.parameters.length) = some 3 by decide +kernel) rfl (by decide) (Nat.le_of_ble_eq_true rfl) (Nat.le_of_ble_eq_true rfl) (Nat.le_of_ble_eq_true rfl) (Nat.le_of_ble_eq_true rfl) hl.1 (cl_run (k10_anew_0 (xs (i + 1)) (xs (i + 2)) (xs (i + 3)) M) (by rw [h1]; rfl)) hcs hP hD hS (fun H locs hP hD hS => ?_)
  refine lv_aload_n hx hb dl_992 rfl (lv_at hl 3 rfl) ?_
  refine cl_arg (k := 1) hC hl (by omega) dl_993 dl_994 dl_996 rfl dl_997 dl_998 hS ?_
  refine cl_arg (k := 2) hC hl (by omega) dl_999 dl_1000 dl_1002 rfl dl_1003 dl_1004 hS ?_
  refine cl_arg (k := 3) hC hl (by omega) dl_1005 dl_1006 dl_1008 rfl dl_1009 dl_1010 hS ?_
  refine cl_call (k := 15) (as := [(xs (i + 1)), (xs (i + 2)), (xs (i + 3))]) (v := v) (M := M1) (M' := M2) (rest := [.int v]) hC dl_1011 (show 235 < 245 by decide) (cd_m 7 209 rfl rfl) (cd_m 7 210 rfl rfl) (cd_m 7 211 rfl rfl) (cd_m 1 13 rfl rfl) (show (parseMethodDescriptor (cd_y 235).desc).map (fun d => d.parameters.length) = some 3 by decide +kernel) rfl (by decide) (Nat.le_of_ble_eq_true rfl) (Nat.le_of_ble_eq_true rfl) (Nat.le_of_ble_eq_true rfl) (Nat.le_of_ble_eq_true rfl) hl.1 (cl_run (k11_anew_15 (xs (i + 1)) (xs (i + 2)) (xs (i + 3)) M1) (by rw [h2]; rfl)) hcs hP hD hS (fun H locs hP hD hS => ?_)
  refine lv_icmp_eq (tgt := 1069) hx hb dl_1014 (by decide) (fun _ => ?_) (fun z => absurd rfl z)
  exact hn M2 H locs h3 hP hD hS
set_option maxHeartbeats 1000000 in
set_option maxRecDepth 20000 in
theorem cl_k_isClean {p : Program} {l : Launch} {e : Env} {s : State} {m : MethodId} {args : Array Value} {below : List Frame} {meth : Method} {c : Code} {H : Heap} {locs : List Loc} {cells slots : Nat} {Q : State → Prop} {D : va_G} {cy : Nat → ClassId} {ad : Nat → Nat} {fm : Value} {Rel : cd_M → Prop} {b L : Nat} {xs : Nat → Int32} (hC : cl_Cx p s m args meth c D cy ad fm b L xs) {i : Nat} {ls : Array Slot} {M : cd_M} (hi : i + 5 < L) (hl : lv_has ls 7 [(0, .ref b), (4, .int (nI i)), (1, .ref (ad 0)), (2, .ref (ad 15)), (3, .ref (ad 82))]) (hop : ∃ (v : Int32) (M1 M2 : cd_M), f10_isClean_0 (xs (i + 1)) M = some (v, M1) ∧ f11_isClean_15 (xs (i + 1)) M1 = some (v, M2) ∧ Rel M2) (hcs : cells ≤ 601024 ∧ slots ≤ 7293034)
    (hP : va_P D cd_cl (cd_ws cy ad M) H) (hD : va_D (fun q => s.heap.size ≤ q) (cd_ws cy ad M)) (hS : va_S (fun q => s.heap.size ≤ q) s.heap H locs)
    (hn : ∀ (M2 : cd_M) (H1 : Heap) (locs1 : List Loc), Rel M2 → va_P D cd_cl (cd_ws cy ad M2) H1 → va_D (fun q => s.heap.size ≤ q) (cd_ws cy ad M2) → va_S (fun q => s.heap.size ≤ q) s.heap H1 locs1 → W p l e room_1 s m args below meth c H1 locs1 cells slots Q (F0 m 1069 ls [])) : W p l e room_1 s m args below meth c H locs cells slots Q (F0 m 1019 ls []) := by
  have hx := hC.1
  have hb := hC.2.1
  obtain ⟨v, M1, M2, h1, h2, h3⟩ := hop
  refine lv_aload_n hx hb dl_1019 rfl (lv_at hl 2 rfl) ?_
  refine cl_arg (k := 1) hC hl (by omega) dl_1020 dl_1021 dl_1023 rfl dl_1024 dl_1025 hS ?_
  refine cl_call (k := 0) (as := [(xs (i + 1))]) (v := v) (M := M) (M' := M1) (rest := []) hC dl_1026 (show 149 < 245 by decide) (cd_m 5 135 rfl rfl) (cd_m 5 136 rfl rfl) (cd_m 5 137 rfl rfl) (cd_m 1 1 rfl rfl) (show (parseMethodDescriptor (cd_y 149).desc).map (fun d => d.parameters.length) = some 1 by decide +kernel) rfl (by decide) (Nat.le_of_ble_eq_true rfl) (Nat.le_of_ble_eq_true rfl) (Nat.le_of_ble_eq_true rfl) (Nat.le_of_ble_eq_true rfl) hl.1 (cl_run (k10_isClean_0 (xs (i + 1)) M) (by rw [h1]; rfl)) hcs hP hD hS (fun H locs hP hD hS => ?_)
  refine lv_aload_n hx hb dl_1029 rfl (lv_at hl 3 rfl) ?_
  refine cl_arg (k := 1) hC hl (by omega) dl_1030 dl_1031 dl_1033 rfl dl_1034 dl_1035 hS ?_
  refine cl_call (k := 15) (as := [(xs (i + 1))]) (v := v) (M := M1) (M' := M2) (rest := [.int v]) hC dl_1036 (show 236 < 245 by decide) (cd_m 7 221 rfl rfl) (cd_m 7 222 rfl rfl) (cd_m 7 223 rfl rfl) (cd_m 1 13 rfl rfl) (show (parseMethodDescriptor (cd_y 236).desc).map (fun d => d.parameters.length) = some 1 by decide +kernel) rfl (by decide) (Nat.le_of_ble_eq_true rfl) (Nat.le_of_ble_eq_true rfl) (Nat.le_of_ble_eq_true rfl) (Nat.le_of_ble_eq_true rfl) hl.1 (cl_run (k11_isClean_15 (xs (i + 1)) M1) (by rw [h2]; rfl)) hcs hP hD hS (fun H locs hP hD hS => ?_)
  refine lv_icmp_eq (tgt := 1069) hx hb dl_1039 (by decide) (fun _ => ?_) (fun z => absurd rfl z)
  exact hn M2 H locs h3 hP hD hS
set_option maxHeartbeats 1000000 in
set_option maxRecDepth 20000 in
theorem cl_k_count {p : Program} {l : Launch} {e : Env} {s : State} {m : MethodId} {args : Array Value} {below : List Frame} {meth : Method} {c : Code} {H : Heap} {locs : List Loc} {cells slots : Nat} {Q : State → Prop} {D : va_G} {cy : Nat → ClassId} {ad : Nat → Nat} {fm : Value} {Rel : cd_M → Prop} {b L : Nat} {xs : Nat → Int32} (hC : cl_Cx p s m args meth c D cy ad fm b L xs) {i : Nat} {ls : Array Slot} {M : cd_M} (hi : i + 5 < L) (hl : lv_has ls 7 [(0, .ref b), (4, .int (nI i)), (1, .ref (ad 0)), (2, .ref (ad 15)), (3, .ref (ad 82))]) (hop : ∃ (v : Int32) (M2 : cd_M), f10_count_0 (xs (i + 1)) M = some v ∧ f11_count_15 (xs (i + 1)) M = some (v, M2) ∧ Rel M2) (hcs : cells ≤ 601024 ∧ slots ≤ 7293034)
    (hP : va_P D cd_cl (cd_ws cy ad M) H) (hD : va_D (fun q => s.heap.size ≤ q) (cd_ws cy ad M)) (hS : va_S (fun q => s.heap.size ≤ q) s.heap H locs)
    (hn : ∀ (M2 : cd_M) (H1 : Heap) (locs1 : List Loc), Rel M2 → va_P D cd_cl (cd_ws cy ad M2) H1 → va_D (fun q => s.heap.size ≤ q) (cd_ws cy ad M2) → va_S (fun q => s.heap.size ≤ q) s.heap H1 locs1 → W p l e room_1 s m args below meth c H1 locs1 cells slots Q (F0 m 1069 ls [])) : W p l e room_1 s m args below meth c H locs cells slots Q (F0 m 1044 ls []) := by
  have hx := hC.1
  have hb := hC.2.1
  obtain ⟨v, M2, h1, h2, h3⟩ := hop
  refine lv_aload_n hx hb dl_1044 rfl (lv_at hl 2 rfl) ?_
  refine cl_arg (k := 1) hC hl (by omega) dl_1045 dl_1046 dl_1048 rfl dl_1049 dl_1050 hS ?_
  refine cl_call (k := 0) (as := [(xs (i + 1))]) (v := v) (M := M) (M' := M) (rest := []) hC dl_1051 (show 150 < 245 by decide) (cd_m 5 143 rfl rfl) (cd_m 5 144 rfl rfl) (cd_m 5 145 rfl rfl) (cd_m 1 1 rfl rfl) (show (parseMethodDescriptor (cd_y 150).desc).map (fun d => d.parameters.length) = some 1 by decide +kernel) rfl (by decide) (Nat.le_of_ble_eq_true rfl) (Nat.le_of_ble_eq_true rfl) (Nat.le_of_ble_eq_true rfl) (Nat.le_of_ble_eq_true rfl) hl.1 (cl_run (k10_count_0 (xs (i + 1)) M) (by rw [h1]; rfl)) hcs hP hD hS (fun H locs hP hD hS => ?_)
  refine lv_aload_n hx hb dl_1054 rfl (lv_at hl 3 rfl) ?_
  refine cl_arg (k := 1) hC hl (by omega) dl_1055 dl_1056 dl_1058 rfl dl_1059 dl_1060 hS ?_
  refine cl_call (k := 15) (as := [(xs (i + 1))]) (v := v) (M := M) (M' := M2) (rest := [.int v]) hC dl_1061 (show 237 < 245 by decide) (cd_m 7 225 rfl rfl) (cd_m 7 226 rfl rfl) (cd_m 7 227 rfl rfl) (cd_m 1 13 rfl rfl) (show (parseMethodDescriptor (cd_y 237).desc).map (fun d => d.parameters.length) = some 1 by decide +kernel) rfl (by decide) (Nat.le_of_ble_eq_true rfl) (Nat.le_of_ble_eq_true rfl) (Nat.le_of_ble_eq_true rfl) (Nat.le_of_ble_eq_true rfl) hl.1 (cl_run (k11_count_15 (xs (i + 1)) M) (by rw [h2]; rfl)) hcs hP hD hS (fun H locs hP hD hS => ?_)
  refine lv_icmp_eq (tgt := 1069) hx hb dl_1064 (by decide) (fun _ => ?_) (fun z => absurd rfl z)
  exact hn M2 H locs h3 hP hD hS
