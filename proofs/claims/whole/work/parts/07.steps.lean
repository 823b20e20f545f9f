theorem cd_sv9 : Cond.fieldLink RJ0 9 "java/lang/String" "value" "[B" ∈ cd_big := cd_m 8 5 rfl rfl
theorem cd_sv15 : Cond.fieldLink RJ0 15 "java/lang/String" "coder" "B" ∈ cd_big := cd_m 8 6 rfl rfl
theorem cd_sv38 : Cond.fieldLink RJ0 38 "java/lang/String" "COMPACT_STRINGS" "Z" ∈ cd_big := cd_m 2 187 rfl rfl
theorem cd_sv1053 : Cond.fieldLink RJ0 1053 "jdk/internal/util/Preconditions" "SIOOBE_FORMATTER" "Ljava/util/function/BiFunction;" ∈ cd_big := cd_m 2 203 rfl rfl
/-! fields, loads, stores, ends -/
section cdV
variable {p : Program} {l : Launch} {e : Env} {s : State} {m : MethodId} {args : Array Value} {below : List Frame} {meth : Method} {c : Code} {y : Nat} {D : va_G} {cy : Nat → ClassId} {ad : Nat → Nat} {fm : Value} {A : Nat → Prop}
theorem cd_he {M : cd_M} {k ci : Nat} (hk : (cd_sh k).1 = ci) (hci : ci < 12) : k < cd_NC ∧ (cd_ws cy ad M)[k]? = some (ad k, .inr (ci, cd_fs ad M k)) ∧ (cd_sh k).2 = (cd_F ci).2.2 := by
  have hlt : k < cd_NC := cd_sh_lt (by omega)
  refine ⟨hlt, ?_, ?_⟩
  · rw [cd_ws_at hlt, cd_cellO (by omega), hk]
  · have h := cd_shN k hlt (by omega)
    rw [hk] at h
    exact h
theorem cd_s_getO (hC : cd_Cx p s m args meth c y D cy ad fm A) {pc : Nat} {ls : List (Option Value)} {rs : List Value} {M : cd_M} {r : Option Value × cd_M} {k idx ci sl q : Nat} (hd : decode (cd_code y).1 pc = .ok (.getfield idx, 3)) (he : (cd_own y, idx, ci, sl, q) ∈ cd_fl) (hk : (cd_sh k).1 = ci)
    (kk : cd_OK p l e s m args below meth c y D cy ad fm A (pc + 3) ls (cd_fv M k sl :: rs) M r) : cd_OK p l e s m args below meth c y D cy ad fm A pc ls (.ref k :: rs) M r := by
  obtain ⟨hx, hb, hr, hml, hown, hts, hlk, hK, hSt, hA, hy⟩ := hC
  intro H locs la hP hD hS hl
  obtain ⟨hw, hci, hsl⟩ := cd_flOK _ he
  dsimp only at hw hci hsl
  obtain ⟨hlt, ha, hn⟩ := cd_he (cy := cy) (ad := ad) (M := M) hk hci
  have h9 := kk H locs la hP hD hS hl
  show W p l e (cd_room y) s m args below meth c H locs 0 0 _ (F0 m pc la (cd_em ad fm (.ref k) :: rs.map (cd_em ad fm)))
  rw [cd_em_ref ad fm (cd_ne1200 hlt)]
  exact va_get (D := D) (ci := ci) (C := (cd_F ci).1) (T := (cd_F ci).2.1) (N := (cd_F ci).2.2) hx hb hts (cd_lay ci hci) hown hK hP k ha (cd_clF ci hci) sl hsl (hts _ hw) (fun _ z => z) (cd_fs_get (by omega) fm) hd h9
theorem cd_s_getN (hC : cd_Cx p s m args meth c y D cy ad fm A) {pc : Nat} {ls : List (Option Value)} {rs : List Value} {M : cd_M} {r : Option Value × cd_M} {k idx ci sl : Nat} (hd : decode (cd_code y).1 pc = .ok (.getfield idx, 3)) (he : (cd_own y, idx, ci, sl) ∈ cd_fn) (hk : (cd_sh k).1 = ci)
    (kk : cd_OK p l e s m args below meth c y D cy ad fm A (pc + 3) ls (cd_fv M k sl :: rs) M r) : cd_OK p l e s m args below meth c y D cy ad fm A pc ls (.ref k :: rs) M r := by
  obtain ⟨hx, hb, hr, hml, hown, hts, hlk, hK, hSt, hA, hy⟩ := hC
  intro H locs la hP hD hS hl
  obtain ⟨hw, hci, hsl⟩ := cd_fnOK _ he
  dsimp only at hw hci hsl
  obtain ⟨hlt, ha, hn⟩ := cd_he (cy := cy) (ad := ad) (M := M) hk hci
  have h9 := kk H locs la hP hD hS hl
  have h8 := va_Nw.use rfl (A := args) (hSt.2.1 _ hw)
  show W p l e (cd_room y) s m args below meth c H locs 0 0 _ (F0 m pc la (cd_em ad fm (.ref k) :: rs.map (cd_em ad fm)))
  rw [cd_em_ref ad fm (cd_ne1200 hlt)]
  exact va_getN (D := D) (ci := ci) (C := (cd_F ci).1) (T := (cd_F ci).2.1) (N := (cd_F ci).2.2) (host := RX10) hx hb hts (cd_lay ci hci) hown hK hP k ha (cd_clF ci hci) sl hsl h8 (fun _ z => z) (cd_fs_get (by omega) fm) hd h9
theorem cd_narI (x : Int32) : narrow .int (.int x) = .int x ∧ fits .int (.int x) = true := ⟨rfl, rfl⟩
theorem cd_narZ {x : Int32} (h : x = 0 ∨ x = 1) : narrow .boolean (.int x) = .int x ∧ fits .boolean (.int x) = true := by
  rcases h with rfl | rfl <;> exact ⟨by decide, by decide⟩
theorem cd_s_putO (hC : cd_Cx p s m args meth c y D cy ad fm A) {pc : Nat} {ls : List (Option Value)} {rs : List Value} {M : cd_M} {r : Option Value × cd_M} {k idx ci sl q : Nat} {x : Int32} (hd : decode (cd_code y).1 pc = .ok (.putfield idx, 3)) (he : (cd_own y, idx, ci, sl, q) ∈ cd_fl) (hk : (cd_sh k).1 = ci) (hrf : cd_rf k sl = none) {ty : FieldType} (hty : ty = .int ∨ ty = .boolean) (hf : cd_fty ci sl = some ty) (hn : narrow ty (.int x) = .int x ∧ fits ty (.int x) = true)
    (kk : cd_OK p l e s m args below meth c y D cy ad fm A (pc + 3) ls rs (cd_wI M k sl x) r) : cd_OK p l e s m args below meth c y D cy ad fm A pc ls (.int x :: .ref k :: rs) M r := by
  obtain ⟨hx, hb, hr, hml, hown, hts, hlk, hK, hSt, hA, hy⟩ := hC
  intro H locs la hP hD hS hl
  obtain ⟨hw, hci, hsl⟩ := cd_flOK _ he
  dsimp only at hw hci hsl
  obtain ⟨hlt, ha, hnn⟩ := cd_he (cy := cy) (ad := ad) (M := M) hk hci
  have hd9 : parseFieldDescriptor ((cd_F ci).2.1 sl).2.2.1 = some ty := by
    unfold cd_fty at hf
    rw [cd_clF ci hci] at hf
    exact hf
  have ht0 : cd_ty0 ci sl = ty := Option.some.inj ((cd_ty0_ok ci hci sl hsl).symm.trans hd9)
  show W p l e (cd_room y) s m args below meth c H locs 0 0 _ (F0 m pc la (.int x :: cd_em ad fm (.ref k) :: rs.map (cd_em ad fm)))
  rw [cd_em_ref ad fm (cd_ne1200 hlt)]
  refine va_put (D := D) (ci := ci) (C := (cd_F ci).1) (T := (cd_F ci).2.1) (N := (cd_F ci).2.2) hx hb hts (cd_lay ci hci) (cd_ty0 ci) (cd_ty0_ok ci hci) (cd_nm_ok ci hci) hown hK hP hD hS k ha (cd_clF ci hci) sl hsl (hts _ hw) (fun _ z => z) (cd_fin_ok ci hci sl hsl (by rw [ht0]; exact hty)) hd9 hn.1 hn.2 (by unfold cd_fs; simp; omega) hd (fun H1 locs1 hP1 hD1 hS1 => ?_)
  have ew := cd_ws_set (cy := cy) (ad := ad) (M := M) (M' := cd_wI M k sl x) hlt (by rw [cd_cellO (by omega), hk, cd_fs_set x hrf]) (fun a h => cd_cell_wI_ne h)
  rw [ew] at hP1 hD1
  exact kk H1 locs1 la hP1 hD1 hS1 hl
theorem cd_s_putN (hC : cd_Cx p s m args meth c y D cy ad fm A) {pc : Nat} {ls : List (Option Value)} {rs : List Value} {M : cd_M} {r : Option Value × cd_M} {k idx ci sl : Nat} {x : Int32} (hd : decode (cd_code y).1 pc = .ok (.putfield idx, 3)) (he : (cd_own y, idx, ci, sl) ∈ cd_fn) (hk : (cd_sh k).1 = ci) (hrf : cd_rf k sl = none) {ty : FieldType} (hty : ty = .int ∨ ty = .boolean) (hf : cd_fty ci sl = some ty) (hn : narrow ty (.int x) = .int x ∧ fits ty (.int x) = true)
    (kk : cd_OK p l e s m args below meth c y D cy ad fm A (pc + 3) ls rs (cd_wI M k sl x) r) : cd_OK p l e s m args below meth c y D cy ad fm A pc ls (.int x :: .ref k :: rs) M r := by
  obtain ⟨hx, hb, hr, hml, hown, hts, hlk, hK, hSt, hA, hy⟩ := hC
  intro H locs la hP hD hS hl
  obtain ⟨hw, hci, hsl⟩ := cd_fnOK _ he
  dsimp only at hw hci hsl
  obtain ⟨hlt, ha, hnn⟩ := cd_he (cy := cy) (ad := ad) (M := M) hk hci
  have hd9 : parseFieldDescriptor ((cd_F ci).2.1 sl).2.2.1 = some ty := by
    unfold cd_fty at hf
    rw [cd_clF ci hci] at hf
    exact hf
  have ht0 : cd_ty0 ci sl = ty := Option.some.inj ((cd_ty0_ok ci hci sl hsl).symm.trans hd9)
  have h8 := va_Nw.use rfl (A := args) (hSt.2.1 _ hw)
  show W p l e (cd_room y) s m args below meth c H locs 0 0 _ (F0 m pc la (.int x :: cd_em ad fm (.ref k) :: rs.map (cd_em ad fm)))
  rw [cd_em_ref ad fm (cd_ne1200 hlt)]
  refine va_putN (D := D) (ci := ci) (C := (cd_F ci).1) (T := (cd_F ci).2.1) (N := (cd_F ci).2.2) (host := RX10) hx hb hts (cd_lay ci hci) (cd_ty0 ci) (cd_ty0_ok ci hci) (cd_nm_ok ci hci) hown hK hP hD hS k ha (cd_clF ci hci) sl hsl h8 (fun _ z => z) (cd_fin_ok ci hci sl hsl (by rw [ht0]; exact hty)) hd9 hn.1 hn.2 (by unfold cd_fs; simp; omega) hd (fun H1 locs1 hP1 hD1 hS1 => ?_)
  have ew := cd_ws_set (cy := cy) (ad := ad) (M := M) (M' := cd_wI M k sl x) hlt (by rw [cd_cellO (by omega), hk, cd_fs_set x hrf]) (fun a h => cd_cell_wI_ne h)
  rw [ew] at hP1 hD1
  exact kk H1 locs1 la hP1 hD1 hS1 hl
theorem cd_s_sval (hC : cd_Cx p s m args meth c y D cy ad fm A) {pc : Nat} {ls : List (Option Value)} {rs : List Value} {M : cd_M} {r : Option Value × cd_M} {k : Nat} (hd : decode (cd_code y).1 pc = .ok (.getfield 9, 3)) (ho : cd_own y = 12) (hk : 1000 ≤ k ∧ k < 1013) (kk : cd_OK p l e s m args below meth c y D cy ad fm A (pc + 3) ls (.ref (k + 100) :: rs) M r) : cd_OK p l e s m args below meth c y D cy ad fm A pc ls (.ref k :: rs) M r := by
  obtain ⟨hx, hb, hr, hml, hown, hts, hlk, hK, hSt, hA, hy⟩ := hC
  intro H locs la hP hD hS hl
  obtain ⟨hfm, hnw, hks, hvr, hz1, hz2⟩ := hSt
  have h1 := (hks.1 (k - 1000) (by omega)).2.2.1
  dsimp only at h1
  rw [show 1000 + (k - 1000) = k by omega, show 1100 + (k - 1000) = k + 100 by omega] at h1
  have h9 := kk H locs la hP hD hS hl
  rw [List.map_cons, cd_em_ref ad fm (show ¬ k + 100 = 1200 by omega)] at h9
  show W p l e (cd_room y) s m args below meth c H locs 0 0 _ (F0 m pc la (cd_em ad fm (.ref k) :: rs.map (cd_em ad fm)))
  rw [cd_em_ref ad fm (by omega)]
  rw [ho] at hown
  exact vk_getf hx hb h1 hS hown (hts (.fieldLink RJ0 9 "java/lang/String" "value" "[B") cd_sv9) (fun _ z => z) hd h9
theorem cd_s_scod (hC : cd_Cx p s m args meth c y D cy ad fm A) {pc : Nat} {ls : List (Option Value)} {rs : List Value} {M : cd_M} {r : Option Value × cd_M} {k : Nat} (hd : decode (cd_code y).1 pc = .ok (.getfield 15, 3)) (ho : cd_own y = 12) (hk : 1000 ≤ k ∧ k < 1013) (kk : cd_OK p l e s m args below meth c y D cy ad fm A (pc + 3) ls (.int 0 :: rs) M r) : cd_OK p l e s m args below meth c y D cy ad fm A pc ls (.ref k :: rs) M r := by
  obtain ⟨hx, hb, hr, hml, hown, hts, hlk, hK, hSt, hA, hy⟩ := hC
  intro H locs la hP hD hS hl
  obtain ⟨hfm, hnw, hks, hvr, hz1, hz2⟩ := hSt
  have h1 := (hks.1 (k - 1000) (by omega)).2.1
  dsimp only at h1
  rw [show 1000 + (k - 1000) = k by omega] at h1
  have h9 := kk H locs la hP hD hS hl
  show W p l e (cd_room y) s m args below meth c H locs 0 0 _ (F0 m pc la (cd_em ad fm (.ref k) :: rs.map (cd_em ad fm)))
  rw [cd_em_ref ad fm (by omega)]
  rw [ho] at hown
  exact vk_getf hx hb h1 hS hown (hts (.fieldLink RJ0 15 "java/lang/String" "coder" "B") cd_sv15) (fun _ z => z) hd h9
theorem cd_s_cmp (hC : cd_Cx p s m args meth c y D cy ad fm A) {pc : Nat} {ls : List (Option Value)} {rs : List Value} {M : cd_M} {r : Option Value × cd_M} (hd : decode (cd_code y).1 pc = .ok (.getstatic 38, 3)) (ho : cd_own y = 12) (kk : cd_OK p l e s m args below meth c y D cy ad fm A (pc + 3) ls (.int 1 :: rs) M r) : cd_OK p l e s m args below meth c y D cy ad fm A pc ls rs M r := by
  obtain ⟨hx, hb, hr, hml, hown, hts, hlk, hK, hSt, hA, hy⟩ := hC
  intro H locs la hP hD hS hl
  obtain ⟨hfm, hnw, hks, hvr, hz1, hz2⟩ := hSt
  rw [ho] at hown
  exact va_gets hx hb hz1 hS hown (hts (.fieldLink RJ0 38 "java/lang/String" "COMPACT_STRINGS" "Z") cd_sv38) (fun _ z => z) hd (kk H locs la hP hD hS hl)
theorem cd_s_fmt (hC : cd_Cx p s m args meth c y D cy ad fm A) {pc : Nat} {ls : List (Option Value)} {rs : List Value} {M : cd_M} {r : Option Value × cd_M} (hd : decode (cd_code y).1 pc = .ok (.getstatic 1053, 3)) (ho : cd_own y = 12) (kk : cd_OK p l e s m args below meth c y D cy ad fm A (pc + 3) ls (.ref 1200 :: rs) M r) : cd_OK p l e s m args below meth c y D cy ad fm A pc ls rs M r := by
  obtain ⟨hx, hb, hr, hml, hown, hts, hlk, hK, hSt, hA, hy⟩ := hC
  intro H locs la hP hD hS hl
  obtain ⟨hfm, hnw, hks, hvr, hz1, hz2⟩ := hSt
  rw [ho] at hown
  exact va_gets hx hb hz2 hS hown (hts (.fieldLink RJ0 1053 "jdk/internal/util/Preconditions" "SIOOBE_FORMATTER" "Ljava/util/function/BiFunction;") cd_sv1053) (fun _ z => z) hd (kk H locs la hP hD hS hl)
end cdV
