/-! every run, every method -/
theorem cd_sl_em (ad : Nat → Nat) (fm : Value) (hf : fm = .null ∨ ∃ a, fm = .ref a) : ∀ as : List Value, lg_sl (as.map (cd_em ad fm)) = (lg_sl as).map (fun x => match x with | .val v => .val (cd_em ad fm v) | z => z)
  | [] => rfl
  | v :: as => by
    have h := cd_sl_em ad fm hf as
    unfold lg_sl at h ⊢
    simp only [List.map_cons, List.flatMap_cons, List.map_append]
    rw [h, cd_em_cat ad fm hf]
    by_cases hc : v.category = 2
    · simp [hc]
    · simp [hc]
theorem cd_ent_len {y : Nat} {as : List Value} (h : (lg_sl as).length ≤ cd_ml.getD y 0) : (cd_ent y as).length = cd_ml.getD y 0 := by
  unfold cd_ent
  rw [List.length_append, List.length_map, List.length_replicate]
  omega
theorem cd_ent_lr {ad : Nat → Nat} {fm : Value} (hf : fm = .null ∨ ∃ a, fm = .ref a) {y : Nat} {as : List Value} (h : (lg_sl as).length ≤ cd_ml.getD y 0) {la : Array Slot} (hw : lv_wf la) (hla : la = (lg_sl (as.map (cd_em ad fm)) ++ List.replicate (cd_ml.getD y 0 - (lg_sl (as.map (cd_em ad fm))).length) Slot.unset).toArray) : cd_lr ad fm la (cd_ent y as) := by
  have hs := cd_sl_em ad fm hf as
  have hlen : (lg_sl (as.map (cd_em ad fm))).length = (lg_sl as).length := by rw [hs, List.length_map]
  refine ⟨?_, hw, fun i v hi => ?_⟩
  · rw [cd_ent_len h, hla]
    simp only [List.size_toArray, List.length_append, List.length_replicate]
    omega
  · rw [hla, List.getElem?_toArray]
    unfold cd_ent at hi
    by_cases hl : i < (lg_sl as).length
    · rw [List.getElem?_append_left (by rw [List.length_map]; exact hl), List.getElem?_map] at hi
      rw [List.getElem?_append_left (by omega), hs, List.getElem?_map]
      rw [List.getElem?_eq_getElem hl] at hi ⊢
      revert hi
      generalize (lg_sl as)[i] = x
      intro hi
      cases x with
      | val w =>
        have hi : w = v := Option.some.inj (Option.some.inj hi)
        rw [hi]
        rfl
      | _ => cases hi
    · rw [List.getElem?_append_right (by rw [List.length_map]; omega)] at hi
      have h1 := List.mem_of_getElem? hi
      have h2 := (List.mem_replicate.mp h1).2
      cases h2
theorem cd_own_name {y : Nat} (hy : y < 245) : (cd_y y).cls = cd_c (cd_own y) := (cd_mOK2 y hy).1
def cd_Snd (n : Nat) : Prop := ∀ (y pc : Nat) (ls : List (Option Value)) (st : List Value) (M : cd_M) (r : Option Value × cd_M), cd_ex n y pc ls st M = some r → ls.length = cd_ml.getD y 0 →
  ∀ (p : Program) (l : Launch) (e : Env) (s : State) (m : MethodId) (args : Array Value) (below : List Frame) (meth : Method) (c : Code) (D : va_G) (cy : Nat → ClassId) (ad : Nat → Nat) (fm : Value) (A : Nat → Prop), cd_Cx p s m args meth c y D cy ad fm A → cd_OK p l e s m args below meth c y D cy ad fm A pc ls st M r
/-- a run of a method's body gives its contract -/
theorem cd_met {n : Nat} (hS : cd_Snd n) {y : Nat} (hy : y < 245) {as : List Value} {M : cd_M} {r : Option Value × cd_M} (hsz : (lg_sl as).length ≤ cd_ml.getD y 0) (h : cd_ex n y 0 (cd_ent y as) [] M = some r) (l : Launch) (D : va_G) (cy : Nat → ClassId) (ad : Nat → Nat) (fm : Value) : cd_Mt l D cy ad fm y as M r := by
  intro sz
  refine Met.ofW (cc := (cd_code y).1) (maxL := cd_ml.getD y 0) (ret := cd_mr.getD y none) (cd_mOK2 y hy).2.1 rfl ?_
  intro p e s m args below meth c s₁ B hml hv
  obtain ⟨rfl, hsize, hP, hK, hD0, hSt⟩ := hv
  have hts := atoms_spec (ws := cd_wsO y) B.pre
  have hown : s.vm.findClass (cd_y y).cls = some m.cls := findClass_of_methodNamed B.named
  rw [cd_own_name hy] at hown
  subst hsize
  have hD := hD0.self (sz := s.heap.size)
  have hf := hSt.1
  have hC : cd_Cx p s m (as.map (cd_em ad fm)).toArray meth c y D cy ad fm (va_A (cd_ws cy ad M) s.heap.size) := ⟨B.exec, B.bytes, B.returns, hml, hown, fun w hw => hts w (List.mem_cons_of_mem _ hw), B.notSynchronized, hK, hSt, fun q hq => Or.inr hq, hy⟩
  have hsl : (lg_sl (as.map (cd_em ad fm))).length ≤ cd_ml.getD y 0 := by rw [cd_sl_em ad fm hf, List.length_map]; exact hsz
  have hl := lv_entry (as.map (cd_em ad fm)) (n := cd_ml.getD y 0) hsl
  rw [lg_entry_eq]
  exact hS y 0 (cd_ent y as) [] M r h (cd_ent_len hsz) p l e s m _ below meth c D cy ad fm _ hC s.heap [] _ hP hD va_S.rf (cd_ent_lr hf hsz hl.2.1 rfl)
theorem cd_snd : ∀ n, cd_Snd n
  | 0 => fun y pc ls st M r h => by cases h
  | n + 1 => by
    have ih := cd_snd n
    intro y pc ls st M r h hn p l e s m args below meth c D cy ad fm A hC
    rw [cd_ex] at h
    cases ht : cd_tab y pc with
    | none => rw [ht] at h; cases h
    | some q =>
      obtain ⟨i, len⟩ := q
      rw [ht] at h
      obtain ⟨hd, hlen⟩ := cd_code_ok ht
      dsimp only at h
      cases hloc : cd_loc i with
      | some q =>
        obtain ⟨o, t, k⟩ := q
        rw [hloc] at h
        cases o with
        | zero =>
          dsimp only at h
          cases hv : ls.getD k none with
          | none => rw [hv] at h; cases h
          | some v =>
            rw [hv] at h
            obtain ⟨hty, h2⟩ := cd_bif_e h
            exact cd_s_load hC hd hlen hloc hv (Nat.eq_of_beq_eq_true hty) (ih _ _ _ _ _ _ h2 hn p l e s m args below meth c D cy ad fm A hC)
        | succ o =>
          dsimp only at h
          cases st with
          | nil => cases h
          | cons v st =>
            obtain ⟨hty, h2⟩ := cd_bif_e h
            simp only [Bool.and_eq_true] at hty
            exact cd_s_store hC hd hlen hloc (Nat.eq_of_beq_eq_true hty.1) (Nat.le_of_ble_eq_true hty.2) (ih _ _ _ _ _ _ h2 (by rw [cd_sto_len]; exact hn) p l e s m args below meth c D cy ad fm A hC)
      | none =>
        rw [hloc] at h
        dsimp only at h
        cases hinc : cd_inc i with
        | some q =>
          obtain ⟨k, d⟩ := q
          rw [hinc] at h
          dsimp only at h
          have hi : i = .iinc k d := by
            cases i with
            | iinc k' d' =>
              have h3 : (k', d') = (k, d) := Option.some.inj hinc
              cases h3
              rfl
            | _ => cases hinc
          subst hi
          have h3 : len = 3 := cd_len1 hlen
          subst h3
          cases hv : ls.getD k none with
          | none => rw [hv] at h; cases h
          | some v =>
            rw [hv] at h
            cases v with
            | int x =>
              obtain ⟨hb, h2⟩ := cd_bif_e h
              exact cd_s_iinc hC hd hv (Nat.le_of_ble_eq_true hb) (ih _ _ _ _ _ _ h2 (by rw [cd_sto_len]; exact hn) p l e s m args below meth c D cy ad fm A hC)
            | _ => cases h
        | none =>
          rw [hinc] at h
          dsimp only at h
          cases ho : cd_oth y pc len i st M with
          | none => rw [ho] at h; cases h
          | some a =>
            rw [ho] at h
            have hth := cd_oth_snd (l := l) (e := e) (below := below) hC hd hlen hn ho
            cases a with
            | inl q =>
              obtain ⟨pc', st', M'⟩ := q
              exact hth r (ih _ _ _ _ _ _ h hn p l e s m args below meth c D cy ad fm A hC)
            | inr a =>
              cases a with
              | inl q =>
                have h2 : q = r := Option.some.inj h
                rw [← h2]
                exact hth
              | inr q =>
                obtain ⟨yc, as, rs⟩ := q
                obtain ⟨hy2, hs2, hth⟩ := hth
                dsimp only at h hy2 hs2 hth
                cases hc : cd_ex n yc 0 (cd_ent yc as) [] M with
                | none => rw [hc] at h; cases h
                | some r1 =>
                  obtain ⟨v, M'⟩ := r1
                  rw [hc] at h
                  exact hth (v, M') r (cd_met ih hy2 hs2 hc l D cy ad fm) (ih _ _ _ _ _ _ h hn p l e s m args below meth c D cy ad fm A hC)
/-- THE ABSTRACT MACHINE IS THE MACHINE -/
theorem cd_sound {n y : Nat} (hy : y < 245) {as : List Value} {M : cd_M} {r : Option Value × cd_M} (hsz : (lg_sl as).length ≤ cd_ml.getD y 0) (h : cd_ex n y 0 (cd_ent y as) [] M = some r) (l : Launch) (D : va_G) (cy : Nat → ClassId) (ad : Nat → Nat) (fm : Value) : cd_Mt l D cy ad fm y as M r := cd_met (cd_snd n) hy hsz h l D cy ad fm
