/-! the calls, then every step, then every method -/
theorem cd_cF : ∀ ci, ci < 12 → (cd_F ci).1 = cd_c ci
  | 0, _ => rfl | 1, _ => rfl | 2, _ => rfl | 3, _ => rfl | 4, _ => rfl | 5, _ => rfl | 6, _ => rfl | 7, _ => rfl | 8, _ => rfl | 9, _ => rfl | 10, _ => rfl | 11, _ => rfl
  | k + 12, h => absurd h (by omega)
section cdR
variable {p : Program} {l : Launch} {e : Env} {s : State} {m : MethodId} {args : Array Value} {below : List Frame} {meth : Method} {c : Code} {y : Nat} {D : va_G} {cy : Nat → ClassId} {ad : Nat → Nat} {fm : Value} {A : Nat → Prop}
theorem cd_ts (hC : cd_Cx p s m args meth c y D cy ad fm A) : ∀ w ∈ cd_big, w.before args s = true := hC.2.2.2.2.2.1
theorem cd_pre_go (hC : cd_Cx p s m args meth c y D cy ad fm A) {M : cd_M} {as : List Value} {H : Heap} {locs : List Loc} (hP : va_P D cd_cl (cd_ws cy ad M) H) (hD : va_D A (cd_ws cy ad M)) (hS : va_S A s.heap H locs) {aa : Array Value} (ha : aa = (as.map (cd_em ad fm)).toArray) : ∀ U : State, U.heap = H → s.WarmedH U.vm → cd_Pc D cy ad fm as M H.size aa U := by
  obtain ⟨hx, hb, hr, hml, hown, hts, hlk, hK, hSt, hA, hy⟩ := hC
  intro U hU hW
  exact ⟨ha, by rw [hU], by rw [hU]; exact hP, va_K.moved hW.alike hK, hD.weaken (fun _ _ _ _ => trivial), cd_St_go hSt hS hU hW (cd_free (ws := cd_ws cy ad M) hD hS hA)⟩
theorem cd_s_callV (hC : cd_Cx p s m args meth c y D cy ad fm A) {pc idx yc k : Nat} {q : Nat × Nat × Nat × Nat} {ls : List (Option Value)} {rs as : List Value} {M : cd_M} {r r1 : Option Value × cd_M} (hd : decode (cd_code y).1 pc = .ok (.invokevirtual idx, 3)) (he : (cd_own y, idx, yc, 0, q) ∈ cd_lkT) (hn : ls.length = cd_ml.getD y 0)
    (hna : as.length + 1 = cd_mn.getD yc 0) (hk : cd_isR k (cd_own yc) = true) (hcat : cd_cat rs ≤ 8) (hfr : cd_mf.getD yc 0 + 1 ≤ cd_mf.getD y 0) (hlw : 8 + (cd_ml.getD yc 0 + 11) + cd_mw.getD yc 0 ≤ cd_mw.getD y 0) (hM : cd_Mt l D cy ad fm yc (.ref k :: as) M r1)
    (kk : cd_OK p l e s m args below meth c y D cy ad fm A (pc + 3) ls (r1.1.toList ++ rs) r1.2 r) : cd_OK p l e s m args below meth c y D cy ad fm A pc ls (as.reverse ++ .ref k :: rs) M r := by
  have hC0 := hC
  obtain ⟨hx, hb, hr, hml, hown, hts, hlk, hK, hSt, hA, hy⟩ := hC
  intro H locs la hP hD hS hl
  obtain ⟨hyc, hini, hv, -⟩ := cd_lkOK _ he
  dsimp only at hyc hini hv
  obtain ⟨w1, w2, w3, w4⟩ := hv rfl
  obtain ⟨o1, o2, o3, o4⟩ := cd_mOK2 yc hyc
  have hlen : (parseMethodDescriptor (cd_y yc).desc).map (fun d => d.parameters.length) = some as.length := by
    cases hp : parseMethodDescriptor (cd_y yc).desc with
    | none => rw [hp] at w4; cases w4
    | some d =>
      rw [hp] at w4
      have h1 : d.parameters.length + 1 = cd_mn.getD yc 0 := Option.some.inj w4
      show some d.parameters.length = some as.length
      rw [show d.parameters.length = as.length by omega]
  have hrecv : ∃ cellB : Cell, H[ad k]? = some cellB ∧ cellB.vm.isStatics = false ∧ s.vm.findClass (cd_y yc).cls = some cellB.cls := by
    unfold cd_isR at hk
    cases hb9 : Nat.ble 1000 k with
    | true =>
      rw [hb9] at hk
      have hk : (Nat.beq (cd_own yc) 12 && Nat.ble (k + 1) 1013) = true := hk
      simp only [Bool.and_eq_true] at hk
      have e1 := Nat.eq_of_beq_eq_true hk.1
      have e2 := Nat.le_of_ble_eq_true hk.2
      have e3 := Nat.le_of_ble_eq_true hb9
      have h1 := vk_recv (i := k - 1000) hSt.2.2.1 (by omega) hS
      rw [show 1000 + (k - 1000) = k by omega] at h1
      rw [o1, show cd_mo.getD yc 99 = 12 from e1]
      exact h1
    | false =>
      rw [hb9] at hk
      have e1 : (cd_sh k).1 = cd_own yc := Nat.eq_of_beq_eq_true hk
      have hlt : cd_own yc < 12 := by
        by_cases hz : cd_own yc < 12
        · exact hz
        · exfalso
          have h2 : ∀ z, z < 245 → cd_mo.getD z 99 < 15 := by decide +kernel
          have h3 := h2 yc hyc
          have h4 : ∀ z, z < 83 → (cd_sh z).1 < 12 ∨ 15 ≤ (cd_sh z).1 := by decide +kernel
          have h5 : cd_own yc = cd_mo.getD yc 99 := rfl
          have hkl : k < 83 := cd_sh_lt (by omega)
          rcases h4 k hkl with h6 | h6 <;> omega
      obtain ⟨hl1, ha, -⟩ := cd_he (cy := cy) (ad := ad) (M := M) e1 hlt
      have h1 := va_recv hK hP (cd_clF _ hlt) ha
      rw [cd_cF _ hlt] at h1
      rw [o1]
      exact h1
  have hne : ¬ k = 1200 := by
    intro z
    rw [z] at hk
    exact absurd hk (by
      unfold cd_isR
      show ¬ (Nat.beq (cd_own yc) 12 && Nat.ble (1200 + 1) 1013) = true
      rw [show Nat.ble (1200 + 1) 1013 = false from rfl, Bool.and_false]
      decide)
  have est : (as.reverse ++ .ref k :: rs).map (cd_em ad fm) = (as.map (cd_em ad fm)).reverse ++ .ref (ad k) :: rs.map (cd_em ad fm) := by
    rw [List.map_append, List.map_reverse, List.map_cons, cd_em_ref ad fm hne]
  rw [est]
  have hcw : CallW (cd_room y) s args (cd_c (cd_own y)) (cd_y yc).cls idx (cd_y yc) (cd_code yc).1 (cd_ml.getD yc 0) (cd_mr.getD yc none) (cd_wsO yc) (cd_room yc) 0 0 as.length := by
    refine cwV as.length hts ?_ rfl rfl rfl ⟨rfl, o3, o4, hlen⟩ ⟨hfr, hlw⟩
    intro w hw
    have hw : w ∈ [Cond.methodLink (cd_c (cd_own y)) idx (cd_y yc), Cond.instanceMethod (cd_y yc), Cond.selects (cd_y yc).cls (cd_y yc) (cd_y yc), Cond.initialized (cd_y yc).cls] ++ cd_wsO yc := hw
    rcases List.mem_append.mp hw with h | h
    · simp only [List.mem_cons, List.not_mem_nil, or_false] at h
      rcases h with h | h | h | h
      · rw [h]; exact cd_goodW w1
      · rw [h]; exact cd_goodW w2
      · rw [h]; exact cd_goodW w3
      · rw [h]; exact cd_goodW hini
    · exact cd_goodB yc hyc w h
  have hrun := va_runV (l := l) (e := e) (below := below) (meth := meth) (locs := locs) (cells := 0) (slots := 0) (g := F0 m pc la ((as.map (cd_em ad fm)).reverse ++ .ref (ad k) :: rs.map (cd_em ad fm))) (rest := rs.map (cd_em ad fm)) (As := as.map (cd_em ad fm)) (b := ad k) (nL := cd_ml.getD y 0) (Ts := cd_big) ⟨hx, hb, hml, hown, hts⟩ (hM H.size) hcw
    ⟨cd_blind _ _ _, hrecv, cd_pre_go hC0 hP hD hS (by rw [List.map_cons, cd_em_ref ad fm hne])⟩ rfl (by rw [List.length_map]) (by show la.size = _; rw [hl.1, hn]) rfl (lv_room (by rw [cd_cat_em ad fm hSt.1]; exact hcat)) hd ⟨Nat.le_refl _, Nat.le_refl _⟩
  exact cd_after kk hD hS hA hl hrun
theorem cd_s_callS (hC : cd_Cx p s m args meth c y D cy ad fm A) {pc idx yc kd : Nat} {q : Nat × Nat × Nat × Nat} {ls : List (Option Value)} {rs as : List Value} {M : cd_M} {r r1 : Option Value × cd_M} (hd : decode (cd_code y).1 pc = .ok (.invokestatic idx, 3)) (he : (cd_own y, idx, yc, kd, q) ∈ cd_lkT) (hkd : ¬ kd = 0) (hn : ls.length = cd_ml.getD y 0)
    (hna : as.length = cd_mn.getD yc 0) (hcat : cd_cat rs ≤ 8) (hfr : cd_mf.getD yc 0 + 1 ≤ cd_mf.getD y 0) (hlw : 8 + (cd_ml.getD yc 0 + 11) + cd_mw.getD yc 0 ≤ cd_mw.getD y 0) (hM : cd_Mt l D cy ad fm yc as M r1)
    (kk : cd_OK p l e s m args below meth c y D cy ad fm A (pc + 3) ls (r1.1.toList ++ rs) r1.2 r) : cd_OK p l e s m args below meth c y D cy ad fm A pc ls (as.reverse ++ rs) M r := by
  have hC0 := hC
  obtain ⟨hx, hb, hr, hml, hown, hts, hlk, hK, hSt, hA, hy⟩ := hC
  intro H locs la hP hD hS hl
  obtain ⟨hyc, hini, -, hv⟩ := cd_lkOK _ he
  dsimp only at hyc hini hv
  obtain ⟨w1, w4, w2, w3⟩ := hv hkd
  obtain ⟨o1, o2, o3, o4⟩ := cd_mOK2 yc hyc
  have est : (as.reverse ++ rs).map (cd_em ad fm) = (as.map (cd_em ad fm)).reverse ++ rs.map (cd_em ad fm) := by
    rw [List.map_append, List.map_reverse]
  rw [est]
  have hp : PreS s H (cd_Pc D cy ad fm as M H.size) (as.map (cd_em ad fm)) := ⟨cd_blind _ _ _, cd_pre_go hC0 hP hD hS rfl⟩
  have hlen : (parseMethodDescriptor (cd_y yc).desc).map (fun d => d.parameters.length) = some as.length := by rw [hna]; exact w4
  by_cases h1 : kd = 1
  · obtain ⟨-, w5⟩ := w3 (by omega)
    have hcw : CallB (cd_room y) s args (cd_c (cd_own y)) idx (cd_y yc) (cd_code yc).1 (cd_ml.getD yc 0) (cd_mr.getD yc none) (cd_wsO yc) (cd_room yc) 0 0 as.length ∧ (Cond.static (cd_y yc)).before args s = true := by
      refine va_cwS as.length hts ?_ rfl rfl rfl ⟨o3, o4, hlen⟩ ⟨hfr, hlw⟩
      intro w hw
      have hw : w ∈ [Cond.methodLink (cd_c (cd_own y)) idx (cd_y yc), Cond.static (cd_y yc), Cond.initialized (cd_y yc).cls] ++ cd_wsO yc := hw
      rcases List.mem_append.mp hw with h | h
      · simp only [List.mem_cons, List.not_mem_nil, or_false] at h
        rcases h with h | h | h
        · rw [h]; exact cd_goodW w5
        · rw [h]; exact cd_goodW w1
        · rw [h]; exact cd_goodW hini
      · exact cd_goodB yc hyc w h
    have hrun := va_runS (l := l) (e := e) (below := below) (meth := meth) (locs := locs) (cells := 0) (slots := 0) (g := F0 m pc la ((as.map (cd_em ad fm)).reverse ++ rs.map (cd_em ad fm))) (rest := rs.map (cd_em ad fm)) (As := as.map (cd_em ad fm)) (nL := cd_ml.getD y 0) (Ts := cd_big) ⟨hx, hb, hml, hown, hts⟩ (hM H.size) hcw
      hp rfl (by rw [List.length_map]) (by show la.size = _; rw [hl.1, hn]) rfl (lv_room (by rw [cd_cat_em ad fm hSt.1]; exact hcat)) hd ⟨Nat.le_refl _, Nat.le_refl _⟩
    exact cd_after kk hD hS hA hl hrun
  · obtain ⟨-, w5⟩ := w2 h1
    have hcw : va_CN (cd_room y) s args (cd_c (cd_own y)) idx (cd_y yc) RX10 (cd_code yc).1 (cd_ml.getD yc 0) (cd_mr.getD yc none) (cd_wsO yc) (cd_room yc) 0 0 as.length :=
      va_cnB as.length hts (cd_goodB yc hyc) rfl rfl rfl (hSt.2.1 _ w5) (hts _ hini) ⟨o3, o4, hlen⟩ ⟨hfr, hlw⟩
    have hrun := va_runSN (l := l) (e := e) (below := below) (meth := meth) (locs := locs) (cells := 0) (slots := 0) (g := F0 m pc la ((as.map (cd_em ad fm)).reverse ++ rs.map (cd_em ad fm))) (rest := rs.map (cd_em ad fm)) (As := as.map (cd_em ad fm)) (nL := cd_ml.getD y 0) (Ts := cd_big) ⟨hx, hb, hml, hown, hts⟩ (hM H.size) ⟨hcw, hts _ w1, trivial⟩
      hp rfl (by rw [List.length_map]) (by show la.size = _; rw [hl.1, hn]) rfl (lv_room (by rw [cd_cat_em ad fm hSt.1]; exact hcat)) hd ⟨Nat.le_refl _, Nat.le_refl _⟩
    exact cd_after kk hD hS hA hl hrun
end cdR
