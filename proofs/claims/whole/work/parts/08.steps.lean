/-! loads, stores, ends, Math, arraycopy -/
theorem cd_sto_len (ls : List (Option Value)) (k : Nat) (v : Value) : (cd_sto ls k v).length = ls.length := by
  unfold cd_sto
  cases k <;> cases (Nat.beq (cd_ty v) 1) <;> simp [cd_pre]
theorem cd_l1_get {ls : List (Option Value)} {k i : Nat} {w : Value} (h : (cd_pre ls k)[i]? = some (some w)) : ls[i]? = some (some w) ∧ ¬ (i + 1 = k ∧ w.category = 2) := by
  cases k with
  | zero => exact ⟨h, fun z => by omega⟩
  | succ j =>
    have h : (ls.set j (cd_kill (ls.getD j none)))[i]? = some (some w) := h
    by_cases e : i = j
    · subst e
      have hl : i < ls.length := by
        have := (List.getElem?_eq_some_iff.mp h).1
        simpa using this
      rw [List.getElem?_set_self hl] at h
      have h := Option.some.inj h
      rw [List.getD_eq_getElem?_getD, List.getElem?_eq_getElem hl] at h
      rw [List.getElem?_eq_getElem hl]
      revert h
      generalize ls[i] = x
      intro h
      cases x with
      | none => cases h
      | some u =>
        cases u with
        | long z => cases h
        | double z => cases h
        | _ =>
          have h := Option.some.inj h
          exact ⟨by rw [← h], fun z => by rw [← h] at z; exact absurd z.2 (fun q => by cases q)⟩
    · rw [List.getElem?_set_ne (fun z => e z.symm)] at h
      exact ⟨h, fun z => e (by omega)⟩
theorem cd_sto_get {ls : List (Option Value)} {k i : Nat} {v w : Value} (hk : k < ls.length) (h : (cd_sto ls k v)[i]? = some (some w)) : (i = k ∧ w = v) ∨ (¬ i = k ∧ ls[i]? = some (some w) ∧ ¬ (i + 1 = k ∧ w.category = 2) ∧ (cd_ty v = 1 → ¬ i = k + 1)) := by
  unfold cd_sto at h
  have hl1 : (cd_pre ls k).length = ls.length := by cases k <;> simp [cd_pre]
  have key := @cd_l1_get ls k i w
  generalize cd_pre ls k = l1 at h hl1 key
  cases hb : Nat.beq (cd_ty v) 1 with
  | true =>
    rw [hb] at h
    have h : ((l1.set k (some v)).set (k + 1) none)[i]? = some (some w) := h
    by_cases e1 : i = k + 1
    · subst e1
      have hl : k + 1 < ((l1.set k (some v)).set (k + 1) none).length := (List.getElem?_eq_some_iff.mp h).1
      rw [List.getElem?_set_self (by simpa using hl)] at h
      cases h
    · rw [List.getElem?_set_ne (fun z => e1 z.symm)] at h
      by_cases e : i = k
      · subst e
        rw [List.getElem?_set_self (by omega)] at h
        exact Or.inl ⟨rfl, (Option.some.inj (Option.some.inj h)).symm⟩
      · rw [List.getElem?_set_ne (fun z => e z.symm)] at h
        exact Or.inr ⟨e, (key h).1, (key h).2, fun _ => e1⟩
  | false =>
    rw [hb] at h
    have h : (l1.set k (some v))[i]? = some (some w) := h
    by_cases e : i = k
    · subst e
      rw [List.getElem?_set_self (by omega)] at h
      exact Or.inl ⟨rfl, (Option.some.inj (Option.some.inj h)).symm⟩
    · rw [List.getElem?_set_ne (fun z => e z.symm)] at h
      refine Or.inr ⟨e, (key h).1, (key h).2, fun z => ?_⟩
      rw [z] at hb
      cases hb
def cd_prs (ad : Nat → Nat) (fm : Value) (ls : List (Option Value)) : List (Nat × Value) := (List.range ls.length).filterMap (fun i => (ls.getD i none).map (fun v => (i, cd_em ad fm v)))
theorem cd_prs_in {ad : Nat → Nat} {fm : Value} {ls : List (Option Value)} {i : Nat} {v : Value} : (ls[i]? = some (some v)) → (i, cd_em ad fm v) ∈ cd_prs ad fm ls := by
  intro h
  have hl := (List.getElem?_eq_some_iff.mp h).1
  refine List.mem_filterMap.mpr ⟨i, List.mem_range.mpr hl, ?_⟩
  rw [List.getD_eq_getElem?_getD, h]
  rfl
theorem cd_lr_has {ad : Nat → Nat} {fm : Value} {la : Array Slot} {ls : List (Option Value)} (h : cd_lr ad fm la ls) : lv_has la ls.length (cd_prs ad fm ls) := by
  refine ⟨h.1, h.2.1, fun q hq => ?_⟩
  obtain ⟨i, hi, e⟩ := List.mem_filterMap.mp hq
  have hi := List.mem_range.mp hi
  rw [List.getD_eq_getElem?_getD] at e
  cases hx : ls[i]? with
  | none => rw [hx] at e; cases e
  | some x =>
    rw [hx] at e
    cases x with
    | none => cases e
    | some v =>
      have e : (i, cd_em ad fm v) = q := Option.some.inj e
      rw [← e]
      exact h.2.2 i v hx
theorem cd_sto_lr1 {ad : Nat → Nat} {fm : Value} {la' : Array Slot} {ls : List (Option Value)} {k : Nat} {v : Value} (hf : fm = .null ∨ ∃ a, fm = .ref a) (hk : k < ls.length)
    (hl : lv_has la' ls.length ((k, cd_em ad fm v) :: (cd_prs ad fm ls).filter (fun q => !(q.1 == k) && !(q.1 + 1 == k && q.2.category == 2)))) : cd_lr ad fm la' (cd_sto ls k v) := by
  refine ⟨by rw [cd_sto_len]; exact hl.1, hl.2.1, fun i w hw => ?_⟩
  rcases cd_sto_get hk hw with ⟨rfl, rfl⟩ | ⟨e, h1, h2, -⟩
  · exact hl.2.2 _ List.mem_cons_self
  · refine hl.2.2 (i, cd_em ad fm w) (List.mem_cons_of_mem _ (List.mem_filter.mpr ⟨cd_prs_in h1, ?_⟩))
    by_cases e2 : i + 1 = k
    · have h3 : ¬ (cd_em ad fm w).category = 2 := by
        rw [cd_em_cat ad fm hf]
        exact fun z => h2 ⟨e2, z⟩
      simp [e, e2, h3]
    · simp [e, e2]
theorem cd_sto_lr2 {ad : Nat → Nat} {fm : Value} {la' : Array Slot} {ls : List (Option Value)} {k : Nat} {v : Value} (hf : fm = .null ∨ ∃ a, fm = .ref a) (hk : k < ls.length) (hv : cd_ty v = 1)
    (hl : lv_has la' ls.length ((k, cd_em ad fm v) :: (cd_prs ad fm ls).filter (fun q => !(q.1 == k) && (!(q.1 == k + 1) && !(q.1 + 1 == k && q.2.category == 2))))) : cd_lr ad fm la' (cd_sto ls k v) := by
  refine ⟨by rw [cd_sto_len]; exact hl.1, hl.2.1, fun i w hw => ?_⟩
  rcases cd_sto_get hk hw with ⟨rfl, rfl⟩ | ⟨e, h1, h2, h4⟩
  · exact hl.2.2 _ List.mem_cons_self
  · refine hl.2.2 (i, cd_em ad fm w) (List.mem_cons_of_mem _ (List.mem_filter.mpr ⟨cd_prs_in h1, ?_⟩))
    have h5 := h4 hv
    by_cases e2 : i + 1 = k
    · have h3 : ¬ (cd_em ad fm w).category = 2 := by
        rw [cd_em_cat ad fm hf]
        exact fun z => h2 ⟨e2, z⟩
      simp [e, e2, h3, h5]
    · simp [e, e2, h5]
theorem cd_cat_em (ad : Nat → Nat) (fm : Value) (hf : fm = .null ∨ ∃ a, fm = .ref a) : ∀ st : List Value, ((st.map (cd_em ad fm)).map fun v => v.category).sum = cd_cat st
  | [] => rfl
  | v :: st => by
    have h := cd_cat_em ad fm hf st
    unfold cd_cat at h ⊢
    simp only [List.map_cons, List.sum_cons]
    rw [h, cd_em_cat ad fm hf]
section cdU
variable {p : Program} {l : Launch} {e : Env} {s : State} {m : MethodId} {args : Array Value} {below : List Frame} {meth : Method} {c : Code} {y : Nat} {D : va_G} {cy : Nat → ClassId} {ad : Nat → Nat} {fm : Value} {A : Nat → Prop}
theorem cd_getD_e {ls : List (Option Value)} {k : Nat} {v : Value} (h : ls.getD k none = some v) : ls[k]? = some (some v) := by
  rw [List.getD_eq_getElem?_getD] at h
  cases hx : ls[k]? with
  | none => rw [hx] at h; cases h
  | some x => rw [hx] at h; rw [show x = some v from h]
theorem cd_s_load (hC : cd_Cx p s m args meth c y D cy ad fm A) {pc len t k : Nat} {i : Instr} {ls : List (Option Value)} {rs : List Value} {M : cd_M} {r : Option Value × cd_M} {v : Value} (hd : decode (cd_code y).1 pc = .ok (i, len)) (hn : cd_lenOK i len = true) (hi : cd_loc i = some (0, t, k)) (hv : ls.getD k none = some v) (ht : cd_ty v = t)
    (kk : cd_OK p l e s m args below meth c y D cy ad fm A (pc + len) ls (v :: rs) M r) : cd_OK p l e s m args below meth c y D cy ad fm A pc ls rs M r := by
  obtain ⟨hx, hb, hr, hml, hown, hts, hlk, hK, hSt, hA, hy⟩ := hC
  intro H locs la hP hD hS hl
  have h9 := kk H locs la hP hD hS hl
  have h8 := hl.2.2 k v (cd_getD_e hv)
  rw [List.map_cons] at h9
  have href : t = 2 → cd_em ad fm v = .null ∨ ∃ a, cd_em ad fm v = .ref a := by
    intro z
    subst z
    cases v with
    | ref q =>
      by_cases e : q = 1200
      · rw [show cd_em ad fm (.ref q) = fm from if_pos e]; exact hSt.1
      · exact Or.inr ⟨_, cd_em_ref ad fm e⟩
    | _ => cases ht
  have hint : t = 0 → ∃ x, cd_em ad fm v = .int x := by
    intro z
    subst z
    cases v with
    | int x => exact ⟨x, rfl⟩
    | _ => cases ht
  have hlong : t = 1 → ∃ x, cd_em ad fm v = .long x := by
    intro z
    subst z
    cases v with
    | long x => exact ⟨x, rfl⟩
    | _ => cases ht
  generalize cd_em ad fm v = u at h8 h9 href hint hlong
  cases i with
  | iload_n q =>
    cases hi
    obtain ⟨x, rfl⟩ := hint rfl
    cases cd_len1 hn
    exact lv_iload_n hx hb hd rfl h8 h9
  | iload q =>
    cases hi
    obtain ⟨x, rfl⟩ := hint rfl
    cases cd_len1 hn
    exact lv_iload hx hb hd h8 h9
  | lload_n q =>
    cases hi
    obtain ⟨x, rfl⟩ := hlong rfl
    cases cd_len1 hn
    exact lv_lload_n hx hb hd rfl h8 h9
  | lload q =>
    cases hi
    obtain ⟨x, rfl⟩ := hlong rfl
    cases cd_len1 hn
    exact lv_lload hx hb hd h8 h9
  | aload_n q =>
    cases hi
    cases cd_len1 hn
    rcases href rfl with rfl | ⟨x, rfl⟩
    · exact lv_aload_nN hx hb hd rfl h8 h9
    · exact lv_aload_n hx hb hd rfl h8 h9
  | aload q =>
    cases hi
    cases cd_len1 hn
    rcases href rfl with rfl | ⟨x, rfl⟩
    · exact lv_aloadN hx hb hd h8 h9
    · exact lv_aload hx hb hd h8 h9
  | _ => cases hi
theorem cd_s_store (hC : cd_Cx p s m args meth c y D cy ad fm A) {pc len t k o : Nat} {i : Instr} {ls : List (Option Value)} {rs : List Value} {M : cd_M} {r : Option Value × cd_M} {v : Value} (hd : decode (cd_code y).1 pc = .ok (i, len)) (hn : cd_lenOK i len = true) (hi : cd_loc i = some (o + 1, t, k)) (ht : cd_ty v = t) (hk : k + v.category ≤ ls.length)
    (kk : cd_OK p l e s m args below meth c y D cy ad fm A (pc + len) (cd_sto ls k v) rs M r) : cd_OK p l e s m args below meth c y D cy ad fm A pc ls (v :: rs) M r := by
  obtain ⟨hx, hb, hr, hml, hown, hts, hlk, hK, hSt, hA, hy⟩ := hC
  intro H locs la hP hD hS hl
  have hh := cd_lr_has hl
  have h9 := fun la' hl' => kk H locs la' hP hD hS hl'
  have hkl : k < ls.length := by
    have := lv_cat v
    omega
  show W p l e (cd_room y) s m args below meth c H locs 0 0 _ (F0 m pc la (cd_em ad fm v :: rs.map (cd_em ad fm)))
  cases i with
  | istore_n q =>
    cases hi
    cases cd_len1 hn
    cases v with
    | int x => exact lv_istore_n hx hb hd rfl hh hkl rfl (fun la' hl' => h9 la' (cd_sto_lr1 (v := .int x) hSt.1 hkl hl'))
    | _ => cases ht
  | istore q =>
    cases hi
    cases cd_len1 hn
    cases v with
    | int x => exact lv_istore hx hb hd hh hkl rfl (fun la' hl' => h9 la' (cd_sto_lr1 (v := .int x) hSt.1 hkl hl'))
    | _ => cases ht
  | lstore_n q =>
    cases hi
    cases cd_len1 hn
    cases v with
    | long x => exact lv_lstore_n hx hb hd rfl hh hk rfl (fun la' hl' => h9 la' (cd_sto_lr2 (v := .long x) hSt.1 hkl rfl hl'))
    | _ => cases ht
  | lstore q =>
    cases hi
    cases cd_len1 hn
    cases v with
    | long x => exact lv_lstore hx hb hd hh hk rfl (fun la' hl' => h9 la' (cd_sto_lr2 (v := .long x) hSt.1 hkl rfl hl'))
    | _ => cases ht
  | astore_n q =>
    cases hi
    cases cd_len1 hn
    cases v with
    | ref x =>
      have hc := fun la' hl' => h9 la' (cd_sto_lr1 (v := .ref x) hSt.1 hkl hl')
      have href : cd_em ad fm (.ref x) = .null ∨ ∃ a, cd_em ad fm (.ref x) = .ref a := by
        by_cases e : x = 1200
        · rw [show cd_em ad fm (.ref x) = fm from if_pos e]; exact hSt.1
        · exact Or.inr ⟨_, cd_em_ref ad fm e⟩
      generalize cd_em ad fm (.ref x) = u at hc href ⊢
      rcases href with rfl | ⟨a, rfl⟩
      · exact lv_astore_nN hx hb hd rfl hh hkl rfl hc
      · exact lv_astore_n hx hb hd rfl hh hkl rfl hc
    | _ => cases ht
  | astore q =>
    cases hi
    cases cd_len1 hn
    cases v with
    | ref x =>
      have hc := fun la' hl' => h9 la' (cd_sto_lr1 (v := .ref x) hSt.1 hkl hl')
      have href : cd_em ad fm (.ref x) = .null ∨ ∃ a, cd_em ad fm (.ref x) = .ref a := by
        by_cases e : x = 1200
        · rw [show cd_em ad fm (.ref x) = fm from if_pos e]; exact hSt.1
        · exact Or.inr ⟨_, cd_em_ref ad fm e⟩
      generalize cd_em ad fm (.ref x) = u at hc href ⊢
      rcases href with rfl | ⟨a, rfl⟩
      · exact lv_astoreN hx hb hd hh hkl rfl hc
      · exact lv_astore hx hb hd hh hkl rfl hc
    | _ => cases ht
  | _ => cases hi
theorem cd_s_iinc (hC : cd_Cx p s m args meth c y D cy ad fm A) {pc k : Nat} {d : Int} {ls : List (Option Value)} {rs : List Value} {M : cd_M} {r : Option Value × cd_M} {x : Int32} (hd : decode (cd_code y).1 pc = .ok (.iinc k d, 3)) (hv : ls.getD k none = some (.int x)) (hk : k + 1 ≤ ls.length)
    (kk : cd_OK p l e s m args below meth c y D cy ad fm A (pc + 3) (cd_sto ls k (.int (x + Int32.ofInt d))) rs M r) : cd_OK p l e s m args below meth c y D cy ad fm A pc ls rs M r := by
  obtain ⟨hx, hb, hr, hml, hown, hts, hlk, hK, hSt, hA, hy⟩ := hC
  intro H locs la hP hD hS hl
  have hh := cd_lr_has hl
  obtain ⟨j, hj⟩ := List.getElem?_of_mem (cd_prs_in (ad := ad) (fm := fm) (cd_getD_e hv))
  exact lv_iinc hx hb hd hh hj rfl (by omega) rfl (fun la' hl' => kk H locs la' hP hD hS (cd_sto_lr1 (v := .int (x + Int32.ofInt d)) hSt.1 (by omega) hl'))
theorem cd_s_iret (hC : cd_Cx p s m args meth c y D cy ad fm A) {pc : Nat} {ls : List (Option Value)} {M : cd_M} {v : Int32} (hd : decode (cd_code y).1 pc = .ok (.ireturn, 1)) {ty : FieldType} (hr' : cd_mr.getD y none = some ty) (hn : narrow ty (.int v) = .int v) : cd_OK p l e s m args below meth c y D cy ad fm A pc ls [.int v] M (some (.int v), M) := by
  obtain ⟨hx, hb, hr, hml, hown, hts, hlk, hK, hSt, hA, hy⟩ := hC
  intro H locs la hP hD hS hl
  exact W.zret hx hb (hr.trans hr') hn (fun t ht hW => ⟨⟨rfl, by rw [ht]; exact hP, va_K.moved hW.alike hK, hD⟩, hS.F ht⟩) hS.2.2 hd hlk
theorem cd_s_lret (hC : cd_Cx p s m args meth c y D cy ad fm A) {pc : Nat} {ls : List (Option Value)} {M : cd_M} {v : Int64} (hd : decode (cd_code y).1 pc = .ok (.lreturn, 1)) (hr' : cd_mr.getD y none = some .long) : cd_OK p l e s m args below meth c y D cy ad fm A pc ls [.long v] M (some (.long v), M) := by
  obtain ⟨hx, hb, hr, hml, hown, hts, hlk, hK, hSt, hA, hy⟩ := hC
  intro H locs la hP hD hS hl
  exact W.lret hx hb (hr.trans hr') (fun t ht hW => ⟨⟨rfl, by rw [ht]; exact hP, va_K.moved hW.alike hK, hD⟩, hS.F ht⟩) hS.2.2 hd hlk
theorem cd_s_aret (hC : cd_Cx p s m args meth c y D cy ad fm A) {pc k : Nat} {ls : List (Option Value)} {M : cd_M} {q : String} (hd : decode (cd_code y).1 pc = .ok (.areturn, 1)) (hr' : cd_mr.getD y none = some (.object q)) : cd_OK p l e s m args below meth c y D cy ad fm A pc ls [.ref k] M (some (.ref k), M) := by
  obtain ⟨hx, hb, hr, hml, hown, hts, hlk, hK, hSt, hA, hy⟩ := hC
  intro H locs la hP hD hS hl
  have href : cd_em ad fm (.ref k) = .null ∨ ∃ a, cd_em ad fm (.ref k) = .ref a := by
    by_cases e : k = 1200
    · rw [show cd_em ad fm (.ref k) = fm from if_pos e]; exact hSt.1
    · exact Or.inr ⟨_, cd_em_ref ad fm e⟩
  exact W.aret (v := cd_em ad fm (.ref k)) hx hb (hr.trans hr') (Or.inl ⟨q, rfl⟩) href (fun t ht hW => ⟨⟨rfl, by rw [ht]; exact hP, va_K.moved hW.alike hK, hD⟩, hS.F ht⟩) hS.2.2 hd hlk
theorem cd_s_vret (hC : cd_Cx p s m args meth c y D cy ad fm A) {pc : Nat} {ls : List (Option Value)} {M : cd_M} (hd : decode (cd_code y).1 pc = .ok (.return_, 1)) (hr' : cd_mr.getD y none = none) : cd_OK p l e s m args below meth c y D cy ad fm A pc ls [] M (none, M) := by
  obtain ⟨hx, hb, hr, hml, hown, hts, hlk, hK, hSt, hA, hy⟩ := hC
  intro H locs la hP hD hS hl
  exact W.vret hx hb (hr.trans hr') (fun t ht hW => ⟨⟨rfl, by rw [ht]; exact hP, va_K.moved hW.alike hK, hD⟩, hS.F ht⟩) hS.2.2 hd hlk
end cdU
