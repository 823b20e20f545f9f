/-! the abstract machine is the machine: what cd_ex comes to, the method does -/
theorem cd_lk_ok {cc : ByteArray × List (Nat × Instr × Nat)} {pc : Nat} {x : Instr × Nat} (hc : cc ∈ cd_codes ∨ cc.2 = []) (h : cd_lk cc.2 pc = some x) : decode cc.1 pc = .ok x := by
  rcases hc with hc | hc
  · exact cd_codes_ok cc hc (pc, x) (cd_lk_mem _ _ _ h)
  · rw [hc] at h
    cases h
theorem cd_code_in (y : Nat) : cd_code y ∈ cd_codes ∨ (cd_code y).2 = [] := by
  unfold cd_code
  generalize cd_codes = L
  by_cases hy : y < L.length
  · left
    rw [List.getD_eq_getElem?_getD, List.getElem?_eq_getElem hy]
    exact List.getElem_mem hy
  · right
    rw [List.getD_eq_getElem?_getD, List.getElem?_eq_none (Nat.not_lt.mp hy)]
    rfl
theorem cd_code_ok {y pc : Nat} {i : Instr} {n : Nat} (h : cd_tab y pc = some (i, n)) : decode (cd_code y).1 pc = .ok (i, n) ∧ cd_lenOK i n = true := by
  unfold cd_tab at h
  have hi := cd_code_in y
  generalize cd_code y = cc at h hi
  cases hk : cd_lk cc.2 pc with
  | none => rw [hk] at h; cases h
  | some x =>
    obtain ⟨i', n'⟩ := x
    rw [hk] at h
    have h : (bif cd_lenOK i' n' then some (i', n') else none) = some (i, n) := h
    cases hq : cd_lenOK i' n' with
    | false => rw [hq] at h; cases h
    | true =>
      rw [hq] at h
      have e : (i', n') = (i, n) := Option.some.inj h
      rw [e] at hk
      have e1 : i' = i := congrArg Prod.fst e
      have e2 : n' = n := congrArg Prod.snd e
      rw [e1, e2] at hq
      exact ⟨cd_lk_ok hi hk, hq⟩
/-- the world's cells -/
def cd_cell (cy : Nat → ClassId) (ad : Nat → Nat) (M : cd_M) (k : Nat) : va_E :=
  if (cd_sh k).1 = 20 then .inl (cy 0, (cd_sh k).2, .inl (M.1 k))
  else if (cd_sh k).1 = 21 then .inl (cy 1, (cd_sh k).2, .inr (.inl (M.2 k)))
  else if (cd_sh k).1 = 22 then .inl (cy 2, (cd_sh k).2, .inl (M.1 k))
  else if (cd_sh k).1 = 23 then .inl (cy 3, (cd_sh k).2, .inl (M.1 k))
  else .inr ((cd_sh k).1, (List.range (cd_sh k).2).map (fun j => match cd_rf k j with
    | some q => .ref (ad q)
    | none => .int (M.1 k j)))
def cd_ws (cy : Nat → ClassId) (ad : Nat → Nat) (M : cd_M) : va_W := (List.range cd_NC).map (fun k => (ad k, cd_cell cy ad M k))
def cd_tys (cy : Nat → ClassId) : List (ClassId × FieldType) := [(cy 0, .int), (cy 1, .long), (cy 2, .byte), (cy 3, .boolean)]
def cd_em (ad : Nat → Nat) (fm : Value) : Value → Value
  | .ref k => if k = 1200 then fm else .ref (ad k)
  | v => v
theorem cd_em_cat (ad : Nat → Nat) (fm : Value) (hf : fm = .null ∨ ∃ a, fm = .ref a) (v : Value) : (cd_em ad fm v).category = v.category := by
  cases v with
  | ref k =>
    show (if k = 1200 then fm else Value.ref (ad k)).category = 1
    split
    · rcases hf with rfl | ⟨a, rfl⟩ <;> rfl
    · rfl
  | _ => rfl
theorem cd_em_ref (ad : Nat → Nat) (fm : Value) {k : Nat} (h : ¬ k = 1200) : cd_em ad fm (.ref k) = .ref (ad k) := if_neg h
theorem cd_sh_lt {k : Nat} (h : (cd_sh k).1 < 99) : k < cd_NC := by
  by_cases hk : k < cd_NC
  · exact hk
  · exfalso
    unfold cd_sh at h
    rw [List.getD_eq_getElem?_getD, List.getElem?_eq_none (by rw [show cd_shT.length = cd_NC by decide]; omega)] at h
    exact absurd h (by decide)
theorem cd_ne1200 {k : Nat} (h : k < cd_NC) : ¬ k = 1200 := by
  have : cd_NC = 83 := rfl
  omega
theorem cd_ws_at {cy : Nat → ClassId} {ad : Nat → Nat} {M : cd_M} {k : Nat} (h : k < cd_NC) : (cd_ws cy ad M)[k]? = some (ad k, cd_cell cy ad M k) := by
  unfold cd_ws
  rw [List.getElem?_map, List.getElem?_range h]
  rfl
theorem cd_ws_set {cy : Nat → ClassId} {ad : Nat → Nat} {M M' : cd_M} {k : Nat} (h : k < cd_NC) {x : va_E} (hx : cd_cell cy ad M' k = x) (ho : ∀ a, ¬ a = k → cd_cell cy ad M' a = cd_cell cy ad M a) : (cd_ws cy ad M).set k (ad k, x) = cd_ws cy ad M' := by
  apply List.ext_getElem?
  intro j
  have hl : (cd_ws cy ad M).length = cd_NC := by unfold cd_ws; simp
  by_cases hj : j = k
  · subst hj
    rw [List.getElem?_set_self (by rw [hl]; exact h), cd_ws_at h, hx]
  · rw [List.getElem?_set_ne (fun q => hj q.symm)]
    by_cases hjl : j < cd_NC
    · rw [cd_ws_at hjl, cd_ws_at hjl, ho j hj]
    · have hl' : (cd_ws cy ad M').length = cd_NC := by unfold cd_ws; simp
      rw [List.getElem?_eq_none (by omega), List.getElem?_eq_none (by omega)]
theorem cd_cell_wI_ne {cy : Nat → ClassId} {ad : Nat → Nat} {M : cd_M} {k j : Nat} {v : Int32} {a : Nat} (h : ¬ a = k) : cd_cell cy ad (cd_wI M k j v) a = cd_cell cy ad M a := by
  have e : (cd_wI M k j v).1 a = M.1 a := if_neg h
  unfold cd_cell
  rw [e]
  rfl
theorem cd_cell_wL_ne {cy : Nat → ClassId} {ad : Nat → Nat} {M : cd_M} {k j : Nat} {v : Int64} {a : Nat} (h : ¬ a = k) : cd_cell cy ad (cd_wL M k j v) a = cd_cell cy ad M a := by
  have e : (cd_wL M k j v).2 a = M.2 a := if_neg h
  unfold cd_cell
  rw [e]
  rfl
theorem cd_cell_cI_ne {cy : Nat → ClassId} {ad : Nat → Nat} {M : cd_M} {k0 k sp dp n : Nat} {a : Nat} (h : ¬ a = k) : cd_cell cy ad (cd_cI M k0 k sp dp n) a = cd_cell cy ad M a := by
  have e : (cd_cI M k0 k sp dp n).1 a = M.1 a := if_neg h
  unfold cd_cell
  rw [e]
  rfl
theorem cd_cell_cL_ne {cy : Nat → ClassId} {ad : Nat → Nat} {M : cd_M} {k0 k sp dp n : Nat} {a : Nat} (h : ¬ a = k) : cd_cell cy ad (cd_cL M k0 k sp dp n) a = cd_cell cy ad M a := by
  have e : (cd_cL M k0 k sp dp n).2 a = M.2 a := if_neg h
  unfold cd_cell
  rw [e]
  rfl
theorem cd_wI_s (M : cd_M) (k j : Nat) (v : Int32) : (cd_wI M k j v).1 k = upd (M.1 k) j v := if_pos rfl
theorem cd_wL_s (M : cd_M) (k j : Nat) (v : Int64) : (cd_wL M k j v).2 k = vp_updL (M.2 k) j v := if_pos rfl
theorem cd_cI_s (M : cd_M) (k0 k sp dp n : Nat) : (cd_cI M k0 k sp dp n).1 k = va_cpy (M.1 k0) (M.1 k) sp dp n := if_pos rfl
theorem cd_cL_s (M : cd_M) (k0 k sp dp n : Nat) : (cd_cL M k0 k sp dp n).2 k = va_cpy (M.2 k0) (M.2 k) sp dp n := if_pos rfl
theorem cd_cell20 {cy : Nat → ClassId} {ad : Nat → Nat} {M : cd_M} {k : Nat} (h : (cd_sh k).1 = 20) : cd_cell cy ad M k = .inl (cy 0, (cd_sh k).2, .inl (M.1 k)) := if_pos h
theorem cd_cell21 {cy : Nat → ClassId} {ad : Nat → Nat} {M : cd_M} {k : Nat} (h : (cd_sh k).1 = 21) : cd_cell cy ad M k = .inl (cy 1, (cd_sh k).2, .inr (.inl (M.2 k))) := by
  unfold cd_cell
  rw [if_neg (by omega), if_pos h]
theorem cd_cell22 {cy : Nat → ClassId} {ad : Nat → Nat} {M : cd_M} {k : Nat} (h : (cd_sh k).1 = 22) : cd_cell cy ad M k = .inl (cy 2, (cd_sh k).2, .inl (M.1 k)) := by
  unfold cd_cell
  rw [if_neg (by omega), if_neg (by omega), if_pos h]
theorem cd_cell23 {cy : Nat → ClassId} {ad : Nat → Nat} {M : cd_M} {k : Nat} (h : (cd_sh k).1 = 23) : cd_cell cy ad M k = .inl (cy 3, (cd_sh k).2, .inl (M.1 k)) := by
  unfold cd_cell
  rw [if_neg (by omega), if_neg (by omega), if_neg (by omega), if_pos h]
def cd_fs (ad : Nat → Nat) (M : cd_M) (k : Nat) : List Value := (List.range (cd_sh k).2).map (fun j => match cd_rf k j with
    | some q => .ref (ad q)
    | none => .int (M.1 k j))
theorem cd_cellO {cy : Nat → ClassId} {ad : Nat → Nat} {M : cd_M} {k : Nat} (h : (cd_sh k).1 < 12) : cd_cell cy ad M k = .inr ((cd_sh k).1, cd_fs ad M k) := by
  unfold cd_cell
  rw [if_neg (by omega), if_neg (by omega), if_neg (by omega), if_neg (by omega)]
  rfl
set_option maxRecDepth 100000 in
theorem cd_shN : ∀ k, k < 83 → (cd_sh k).1 < 12 → (cd_sh k).2 = (cd_F (cd_sh k).1).2.2 := by decide +kernel
set_option maxRecDepth 100000 in
theorem cd_rfB : ∀ r ∈ cd_rfT, ∀ x ∈ r, ∀ q, x = some q → q < 83 := by
  have h : ∀ r ∈ cd_rfT, ∀ x ∈ r, x.getD 0 < 83 := by decide +kernel
  intro r hr x hx q e
  have h1 := h r hr x hx
  rw [e] at h1
  exact h1
theorem cd_rf_lt {k j q : Nat} (h : cd_rf k j = some q) : q < 83 := by
  unfold cd_rf at h
  have h1 : some q ∈ cd_rfT.getD k [] := by
    rw [List.getD_eq_getElem?_getD] at h ⊢
    rw [List.getD_eq_getElem?_getD] at h
    cases hx : (cd_rfT[k]?.getD [])[j]? with
    | none => rw [hx] at h; cases h
    | some x =>
      rw [hx] at h
      have : x = some q := h
      rw [← this]
      exact List.mem_of_getElem? hx
  by_cases hk : k < cd_rfT.length
  · refine cd_rfB _ ?_ _ h1 q rfl
    rw [List.getD_eq_getElem?_getD, List.getElem?_eq_getElem hk]
    exact List.getElem_mem hk
  · rw [List.getD_eq_getElem?_getD, List.getElem?_eq_none (Nat.not_lt.mp hk)] at h1
    cases h1
theorem cd_clF : ∀ ci, ci < 12 → cd_cl[ci]? = some (cd_F ci)
  | 0, _ => rfl | 1, _ => rfl | 2, _ => rfl | 3, _ => rfl | 4, _ => rfl | 5, _ => rfl | 6, _ => rfl | 7, _ => rfl | 8, _ => rfl | 9, _ => rfl | 10, _ => rfl | 11, _ => rfl
  | k + 12, h => absurd h (by omega)
theorem cd_lay : ∀ ci, ci < 12 → ∀ w ∈ u_ws (cd_F ci).1 (cd_F ci).2.1 (cd_F ci).2.2, w ∈ cd_big
  | 0, _ => cd_lay0 | 1, _ => cd_lay1 | 2, _ => cd_lay2 | 3, _ => cd_lay3 | 4, _ => cd_lay4 | 5, _ => cd_lay5 | 6, _ => cd_lay6 | 7, _ => cd_lay7 | 8, _ => cd_lay8 | 9, _ => cd_lay9 | 10, _ => cd_lay10 | 11, _ => cd_lay11
  | k + 12, h => absurd h (by omega)
def cd_ty0 : Nat → Nat → FieldType
  | 0 => tyX0 | 1 => tyX1 | 2 => tyX2 | 3 => tyX3 | 4 => tyX4 | 5 => tyX5 | 6 => tyX6 | 7 => tyX7 | 8 => tyX8 | 9 => tyX9 | 10 => tyX10 | _ => tyX11
theorem cd_ty0_ok : ∀ ci, ci < 12 → ∀ k, k < (cd_F ci).2.2 → parseFieldDescriptor ((cd_F ci).2.1 k).2.2.1 = some (cd_ty0 ci k)
  | 0, _ => tyX0_ok | 1, _ => tyX1_ok | 2, _ => tyX2_ok | 3, _ => tyX3_ok | 4, _ => tyX4_ok | 5, _ => tyX5_ok | 6, _ => tyX6_ok | 7, _ => tyX7_ok | 8, _ => tyX8_ok | 9, _ => tyX9_ok | 10, _ => tyX10_ok | 11, _ => tyX11_ok
  | k + 12, h => absurd h (by omega)
theorem cd_nm_ok : ∀ ci, ci < 12 → ∀ a, a < (cd_F ci).2.2 → ∀ b, b < (cd_F ci).2.2 → a ≠ b → ((cd_F ci).2.1 a).2.1 ≠ ((cd_F ci).2.1 b).2.1
  | 0, _ => nmX0 | 1, _ => nmX1 | 2, _ => nmX2 | 3, _ => nmX3 | 4, _ => nmX4 | 5, _ => nmX5 | 6, _ => nmX6 | 7, _ => nmX7 | 8, _ => nmX8 | 9, _ => nmX9 | 10, _ => nmX10 | 11, _ => nmX11
  | k + 12, h => absurd h (by omega)
set_option maxRecDepth 100000 in
theorem cd_fin_ok : ∀ ci, ci < 12 → ∀ k, k < (cd_F ci).2.2 → (cd_ty0 ci k = .int ∨ cd_ty0 ci k = .boolean) → ((cd_F ci).2.1 k).2.2.2 = false := by decide +kernel
theorem cd_fs_get {ad : Nat → Nat} {M : cd_M} {k sl : Nat} (h : sl < (cd_sh k).2) (fm : Value) : (cd_fs ad M k)[sl]? = some (cd_em ad fm (cd_fv M k sl)) := by
  unfold cd_fs cd_fv
  rw [List.getElem?_map, List.getElem?_range h]
  cases hq : cd_rf k sl with
  | none => simp [hq, cd_em]
  | some q =>
    have h1 : ¬ q = 1200 := by have := cd_rf_lt hq; omega
    simp [hq, cd_em, h1]
theorem cd_fs_set {ad : Nat → Nat} {M : cd_M} {k sl : Nat} (x : Int32) (hq : cd_rf k sl = none) : cd_fs ad (cd_wI M k sl x) k = (cd_fs ad M k).set sl (.int x) := by
  apply List.ext_getElem?
  intro j
  unfold cd_fs
  by_cases hj : j < (cd_sh k).2
  · by_cases e : j = sl
    · subst e
      rw [List.getElem?_set_self (by simpa using hj), List.getElem?_map, List.getElem?_range hj]
      simp [hq, cd_wI_s, upd]
    · rw [List.getElem?_set_ne (fun z => e z.symm), List.getElem?_map, List.getElem?_map, List.getElem?_range hj]
      have e2 : (cd_wI M k sl x).1 k j = M.1 k j := by rw [cd_wI_s]; simp [upd, e]
      simp [e2]
  · rw [List.getElem?_eq_none (by simpa using hj), List.getElem?_eq_none (by simpa using hj)]
/-- what stands fast: nest words, text constants, two statics of the JDK -/
def cd_St (ad : Nat → Nat) (fm : Value) (A : Nat → Prop) (U : State) : Prop :=
  (fm = .null ∨ ∃ a, fm = .ref a) ∧ (∀ w ∈ cd_nest, va_Nw w U) ∧ vk_S 13 cd_sl cd_sb (fun i => ad (1000 + i)) (fun i => ad (1100 + i)) A U U.heap ∧
  (∀ q ∈ cd_strI, vk_R (cd_c q.1) q.2.1 (cd_str.getD q.2.2 (0, 0, "")).2.2 (ad (1000 + q.2.2)) U) ∧
  va_Z RJ0 "COMPACT_STRINGS" "Z" (.int 1) A U U.heap ∧ va_Z RJ3 "SIOOBE_FORMATTER" "Ljava/util/function/BiFunction;" fm A U U.heap
