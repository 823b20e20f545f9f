/-! the law's loop -/
theorem cl_top {a L : Nat} (ha : a < 2 ^ 31) (hL : L ≤ 3072) : (nI L - 6 < nI a) ↔ L < a + 6 := by
  have e : (nI L - 6 : Int32).toInt = (L : Int) - 6 := by
    by_cases h : 6 ≤ L
    · have e1 : nI L = nI (L - 6) + nI 6 := by rw [nI_add, show L - 6 + 6 = L by omega]
      rw [e1, show (6 : Int32) = nI 6 from rfl, Int32.add_sub_cancel, nI_toInt (by omega)]
      omega
    · rcases (show L = 0 ∨ L = 1 ∨ L = 2 ∨ L = 3 ∨ L = 4 ∨ L = 5 by omega) with rfl | rfl | rfl | rfl | rfl | rfl <;> decide
  rw [Int32.lt_iff_toInt_lt, e, nI_toInt ha]
  omega
set_option maxHeartbeats 4000000 in
set_option maxRecDepth 20000 in
theorem cl_loop {p : Program} {l : Launch} {e : Env} {s : State} {m : MethodId} {below : List Frame} {meth : Method} {c : Code} {D : va_G} {cy : Nat → ClassId} {ad : Nat → Nat} {fm : Value} {b L : Nat} {xs : Nat → Int32} (hC : cl_Cx p s m #[Value.ref b] meth c D cy ad fm b L xs) (hl0 : l.stackTraces = false) {sa sb : Nat} (hE : cf_Ex sa sb (fun q => s.heap.size ≤ q) s) :
    ∀ (n i : Nat) (ls : Array Slot) (M : cd_M) (H : Heap) (locs : List Loc) (cells slots : Nat), L ≤ i + n → i ≤ L + 6 → lv_has ls 7 [(0, .ref b), (4, .int (nI i)), (1, .ref (ad 0)), (2, .ref (ad 15)), (3, .ref (ad 82))] → cells ≤ 1000 + i → slots ≤ 40000 + i → Rel M → va_P D cd_cl (cd_ws cy ad M) H → va_D (fun q => s.heap.size ≤ q) (cd_ws cy ad M) → va_S (fun q => s.heap.size ≤ q) s.heap H locs → W p l e room_1 s m #[Value.ref b] below meth c H locs cells slots (lw_Z below #[Value.ref b] s) (F0 m 23 ls []) := by
  intro n
  induction n with
  | zero =>
    intro i ls M H locs cells slots hn hi6 hl hc hs hR hP hD hS
    have hC0 := hC
    obtain ⟨hx, hb, hr, hml, hown, hts, hlk, hK, hSt, hX, hbl, hL⟩ := hC0
    refine lv_iload hx hb dl_23 (lv_at hl 1 rfl) ?_
    refine lv_aload_n hx hb dl_25 rfl (lv_at hl 0 rfl) ?_
    refine va_slen (A := fun q => s.heap.size ≤ q) hx hb hX hbl (Nat.not_le.mpr hbl) hS dl_26 ?_
    refine lv_bipush (v := 6) hx hb dl_27 (by decide) ?_
    refine lv_isub hx hb dl_29 ?_
    refine lv_icmp_gt (tgt := 1075) hx hb dl_30 (by decide) (fun _ => ?_) (fun z => absurd ((cl_top (a := i) (by omega) hL).mpr (by omega)) z)
    refine lv_iconst (v := 1) hx hb dl_1075 (by decide) ?_
    exact va_forget hS.2.2 (W.widen (k := 601024) (n := 7293034) (by omega) (by omega) (lw_ret hx hb hr hlk dl_1076))
  | succ n ih =>
    intro i ls M H locs cells slots hn hi6 hl hc hs hR hP hD hS
    have hC0 := hC
    obtain ⟨hx, hb, hr, hml, hown, hts, hlk, hK, hSt, hX, hbl, hL⟩ := hC0
    refine lv_iload hx hb dl_23 (lv_at hl 1 rfl) ?_
    refine lv_aload_n hx hb dl_25 rfl (lv_at hl 0 rfl) ?_
    refine va_slen (A := fun q => s.heap.size ≤ q) hx hb hX hbl (Nat.not_le.mpr hbl) hS dl_26 ?_
    refine lv_bipush (v := 6) hx hb dl_27 (by decide) ?_
    refine lv_isub hx hb dl_29 ?_
    refine lv_icmp_gt (tgt := 1075) hx hb dl_30 (by decide) (fun _ => ?_) (fun z => ?_)
    · refine lv_iconst (v := 1) hx hb dl_1075 (by decide) ?_
      exact va_forget hS.2.2 (W.widen (k := 601024) (n := 7293034) (by omega) (by omega) (lw_ret hx hb hr hlk dl_1076))
    have hi : i + 5 < L := by
      have := mt (cl_top (a := i) (by omega) hL).mpr z
      omega
    have hn1 : ∀ (ls1 : Array Slot) (M2 : cd_M) (H1 : Heap) (locs1 : List Loc) (cells1 slots1 : Nat), lv_has ls1 7 [(0, .ref b), (4, .int (nI i)), (1, .ref (ad 0)), (2, .ref (ad 15)), (3, .ref (ad 82))] → cells1 ≤ 1000 + (i + 6) → slots1 ≤ 40000 + (i + 6) → Rel M2 → va_P D cd_cl (cd_ws cy ad M2) H1 → va_D (fun q => s.heap.size ≤ q) (cd_ws cy ad M2) → va_S (fun q => s.heap.size ≤ q) s.heap H1 locs1 → W p l e room_1 s m #[Value.ref b] below meth c H1 locs1 cells1 slots1 (lw_Z below #[Value.ref b] s) (F0 m 1069 ls1 []) := by
      intro ls1 M2 H1 locs1 cells1 slots1 hl1 hc1 hs1 hR1 hP1 hD1 hS1
      refine lv_iinc (k := 1) (v := nI (i + 6)) hx hb dl_1069 hl1 rfl (by rw [show Int32.ofInt 6 = nI 6 from rfl, nI_add]) (by decide) rfl (fun ls2 hl2 => ?_)
      refine lv_goto (tgt := 23) hx hb dl_1072 (by decide) ?_
      exact ih (i + 6) ls2 M2 H1 locs1 cells1 slots1 (by omega) (by omega) (lv_sub hl2 [1, 0, 2, 3, 4] rfl) hc1 hs1 hR1 hP1 hD1 hS1
    have hn2 : ∀ (M2 : cd_M) (H1 : Heap) (locs1 : List Loc), Rel M2 → va_P D cd_cl (cd_ws cy ad M2) H1 → va_D (fun q => s.heap.size ≤ q) (cd_ws cy ad M2) → va_S (fun q => s.heap.size ≤ q) s.heap H1 locs1 → W p l e room_1 s m #[Value.ref b] below meth c H1 locs1 cells slots (lw_Z below #[Value.ref b] s) (F0 m 1069 ls []) := fun M2 H1 locs1 g1 g2 g3 g4 => hn1 ls M2 H1 locs1 cells slots hl (by omega) (by omega) g1 g2 g3 g4
    have hcs : cells ≤ 601024 ∧ slots ≤ 7293034 := ⟨by omega, by omega⟩
    refine lv_aload_n hx hb dl_33 rfl (lv_at hl 0 rfl) ?_
    refine lv_iload hx hb dl_34 (lv_at hl 1 rfl) ?_
    refine va_sld (A := fun q => s.heap.size ≤ q) hx hb hX hbl (Nat.not_le.mpr hbl) hS (vp_in_nI (show i < L by omega) (by omega)) dl_36 ?_
    refine lv_bipush (v := 31) hx hb dl_37 (by decide) ?_
    refine lv_iand hx hb dl_39 ?_
    generalize (xs (nI i).toNatClampNeg &&& 31) = y
    by_cases hy : y.toInt < 0 ∨ 25 < y.toInt
    · exact lv_tableOut (tgt := 1069) hx hb dl_40 hy (by decide) (hn2 M H locs hR hP hD hS)
    obtain ⟨j, hj, hj2⟩ : ∃ j : Nat, y.toInt = (j : Int) ∧ j ≤ 25 := ⟨y.toInt.toNat, by omega, by omega⟩
    have h1 : ¬ y.toInt < 0 := fun q => hy (Or.inl q)
    have h2 : ¬ 25 < y.toInt := fun q => hy (Or.inr q)
    rcases (show j = 0 ∨ j = 1 ∨ j = 2 ∨ j = 3 ∨ j = 4 ∨ j = 5 ∨ j = 6 ∨ j = 7 ∨ j = 8 ∨ j = 9 ∨ j = 10 ∨ j = 11 ∨ j = 12 ∨ j = 13 ∨ j = 14 ∨ j = 15 ∨ j = 16 ∨ j = 17 ∨ j = 18 ∨ j = 19 ∨ j = 20 ∨ j = 21 ∨ j = 22 ∨ j = 23 ∨ j = 24 ∨ j = 25 by omega) with rfl | rfl | rfl | rfl | rfl | rfl | rfl | rfl | rfl | rfl | rfl | rfl | rfl | rfl | rfl | rfl | rfl | rfl | rfl | rfl | rfl | rfl | rfl | rfl | rfl | rfl
    · refine lv_tableIn (off := 120) (tgt := 160) hx hb dl_40 h1 h2 (by rw [hj]; rfl) (by decide) ?_
      exact cl_k_feed hC hi hl (o_feed (xs (i + 1)) (xs (i + 2)) (xs (i + 3)) (xs (i + 4)) (xs (i + 5)) M hR) hcs hP hD hS hn2
    · refine lv_tableIn (off := 193) (tgt := 233) hx hb dl_40 h1 h2 (by rw [hj]; rfl) (by decide) ?_
      exact cl_k_film hC hi hl (o_film (xs (i + 1)) M hR) hcs hP hD hS hn2
    · refine lv_tableIn (off := 218) (tgt := 258) hx hb dl_40 h1 h2 (by rw [hj]; rfl) (by decide) ?_
      exact cl_k_rules hC hi hl (o_rules (xs (i + 1)) M hR) hcs hP hD hS hn2
    · refine lv_tableIn (off := 243) (tgt := 283) hx hb dl_40 h1 h2 (by rw [hj]; rfl) (by decide) ?_
      exact cl_k_frame hC hi hl (o_frame (xs (i + 1)) (xs (i + 2)) (xs (i + 3)) M hR) hcs hP hD hS hn2
    · refine lv_tableIn (off := 292) (tgt := 332) hx hb dl_40 h1 h2 (by rw [hj]; rfl) (by decide) ?_
      exact cl_k_cadence hC hi hl (o_cadence (xs (i + 1)) (xs (i + 2)) M hR) hcs hP hD hS hn2
    · refine lv_tableIn (off := 329) (tgt := 369) hx hb dl_40 h1 h2 (by rw [hj]; rfl) (by decide) ?_
      exact cl_k_force hC hi hl (o_force (xs (i + 1)) M hR) hcs hP hD hS hn2
    · refine lv_tableIn (off := 354) (tgt := 394) hx hb dl_40 h1 h2 (by rw [hj]; rfl) (by decide) ?_
      exact cl_k_carry hC hi hl (o_carry (xs (i + 1)) (xs (i + 2)) M hR) hcs hP hD hS hn2
    · refine lv_tableIn (off := 391) (tgt := 431) hx hb dl_40 h1 h2 (by rw [hj]; rfl) (by decide) ?_
      exact cl_k_cut hC hi hl (o_cut (xs (i + 1)) (xs (i + 2)) M hR) hcs hP hD hS hn2
    · refine lv_tableIn (off := 428) (tgt := 468) hx hb dl_40 h1 h2 (by rw [hj]; rfl) (by decide) ?_
      exact cl_k_doubled hC hi hl (o_doubled (xs (i + 1)) (xs (i + 2)) M hR) hcs hP hD hS hn2
    · refine lv_tableIn (off := 465) (tgt := 505) hx hb dl_40 h1 h2 (by rw [hj]; rfl) (by decide) ?_
      exact cl_k_noise hC hi hl (o_noise (xs (i + 1)) (xs (i + 2)) M hR) hcs hP hD hS hn2
    · refine lv_tableIn (off := 502) (tgt := 542) hx hb dl_40 h1 h2 (by rw [hj]; rfl) (by decide) ?_
      exact cl_k_set hC hi hl (o_set (xs (i + 1)) (xs (i + 2)) (xs (i + 3)) M hR) hcs hP hD hS hn2
    · refine lv_tableIn (off := 551) (tgt := 591) hx hb dl_40 h1 h2 (by rw [hj]; rfl) (by decide) ?_
      exact cl_k_undo hC hi hl (o_undo M hR) hcs hP hD hS hn2
    · refine lv_tableIn (off := 564) (tgt := 604) hx hb dl_40 h1 h2 (by rw [hj]; rfl) (by decide) ?_
      exact cl_k_field hC hl0 hE hi hl (o_field (xs (i + 1)) (xs (i + 2)) M hR) ⟨by omega, by omega⟩ hP hD hS (fun ls1 M2 H1 locs1 g0 g1 g2 g3 g4 => hn1 ls1 M2 H1 locs1 (cells + 1) (slots + 6) g0 (by omega) (by omega) g1 g2 g3 g4)
    · refine lv_tableIn (off := 632) (tgt := 672) hx hb dl_40 h1 h2 (by rw [hj]; rfl) (by decide) ?_
      exact cl_k_apart hC hi hl (o_apart (xs (i + 1)) (xs (i + 2)) M hR) hcs hP hD hS hn2
    · refine lv_tableIn (off := 669) (tgt := 709) hx hb dl_40 h1 h2 (by rw [hj]; rfl) (by decide) ?_
      exact cl_k_path hC hi hl (o_path (xs (i + 1)) (xs (i + 2)) M hR) hcs hP hD hS hn2
    · refine lv_tableIn (off := 706) (tgt := 746) hx hb dl_40 h1 h2 (by rw [hj]; rfl) (by decide) ?_
      exact cl_k_all hC hi hl (o_all (xs (i + 1)) M hR) hcs hP hD hS hn2
    · refine lv_tableIn (off := 731) (tgt := 771) hx hb dl_40 h1 h2 (by rw [hj]; rfl) (by decide) ?_
      exact cl_k_edit hC hi hl (o_edit (xs (i + 1)) M hR) hcs hP hD hS hn2
    · refine lv_tableIn (off := 756) (tgt := 796) hx hb dl_40 h1 h2 (by rw [hj]; rfl) (by decide) ?_
      exact cl_k_group hC hi hl (o_group (xs (i + 1)) (xs (i + 2)) M hR) hcs hP hD hS hn2
    · refine lv_tableIn (off := 793) (tgt := 833) hx hb dl_40 h1 h2 (by rw [hj]; rfl) (by decide) ?_
      exact cl_k_found hC hi hl (o_found (xs (i + 1)) (xs (i + 2)) (xs (i + 3)) M hR) hcs hP hD hS hn2
    · refine lv_tableIn (off := 842) (tgt := 882) hx hb dl_40 h1 h2 (by rw [hj]; rfl) (by decide) ?_
      exact cl_k_known hC hi hl (o_known (xs (i + 1)) M hR) hcs hP hD hS hn2
    · refine lv_tableIn (off := 867) (tgt := 907) hx hb dl_40 h1 h2 (by rw [hj]; rfl) (by decide) ?_
      exact cl_k_restored hC hi hl (o_restored M hR) hcs hP hD hS hn2
    · refine lv_tableIn (off := 880) (tgt := 920) hx hb dl_40 h1 h2 (by rw [hj]; rfl) (by decide) ?_
      exact cl_k_costs hC hi hl (o_costs (xs (i + 1)) M hR) hcs hP hD hS hn2
    · refine lv_tableIn (off := 905) (tgt := 945) hx hb dl_40 h1 h2 (by rw [hj]; rfl) (by decide) ?_
      exact cl_k_guess hC hi hl (o_guess (xs (i + 1)) M hR) hcs hP hD hS hn2
    · refine lv_tableIn (off := 930) (tgt := 970) hx hb dl_40 h1 h2 (by rw [hj]; rfl) (by decide) ?_
      exact cl_k_anew hC hi hl (o_anew (xs (i + 1)) (xs (i + 2)) (xs (i + 3)) M hR) hcs hP hD hS hn2
    · refine lv_tableIn (off := 979) (tgt := 1019) hx hb dl_40 h1 h2 (by rw [hj]; rfl) (by decide) ?_
      exact cl_k_isClean hC hi hl (o_isClean (xs (i + 1)) M hR) hcs hP hD hS hn2
    · refine lv_tableIn (off := 1004) (tgt := 1044) hx hb dl_40 h1 h2 (by rw [hj]; rfl) (by decide) ?_
      exact cl_k_count hC hi hl (o_count (xs (i + 1)) M hR) hcs hP hD hS hn2
