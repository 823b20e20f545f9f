/-! every instruction, then every run, then every method -/
section cdQ
variable {p : Program} {l : Launch} {e : Env} {s : State} {m : MethodId} {args : Array Value} {below : List Frame} {meth : Method} {c : Code} {y : Nat} {D : va_G} {cy : Nat → ClassId} {ad : Nat → Nat} {fm : Value} {A : Nat → Prop}
def cd_Th (p : Program) (l : Launch) (e : Env) (s : State) (m : MethodId) (args : Array Value) (below : List Frame) (meth : Method) (c : Code) (y : Nat) (D : va_G) (cy : Nat → ClassId) (ad : Nat → Nat) (fm : Value) (A : Nat → Prop) (pc : Nat) (ls : List (Option Value)) (st : List Value) (M : cd_M) : cd_A → Prop
  | .inl q => ∀ r, cd_OK p l e s m args below meth c y D cy ad fm A q.1 ls q.2.1 q.2.2 r → cd_OK p l e s m args below meth c y D cy ad fm A pc ls st M r
  | .inr (.inl r) => cd_OK p l e s m args below meth c y D cy ad fm A pc ls st M r
  | .inr (.inr q) => q.1 < 245 ∧ (lg_sl q.2.1).length ≤ cd_ml.getD q.1 0 ∧ ∀ r1 r, cd_Mt l D cy ad fm q.1 q.2.1 M r1 → cd_OK p l e s m args below meth c y D cy ad fm A (pc + 3) ls (r1.1.toList ++ q.2.2) r1.2 r → cd_OK p l e s m args below meth c y D cy ad fm A pc ls st M r
theorem cd_ite_e {α : Type} {c : Prop} [Decidable c] {a b : Option α} {x : α} (h : (if c then a else b) = some x) : (c ∧ a = some x) ∨ (¬ c ∧ b = some x) := by
  split at h
  · exact Or.inl ⟨by assumption, h⟩
  · exact Or.inr ⟨by assumption, h⟩
theorem cd_split {st : List Value} {na : Nat} (h : na ≤ st.length) : st = (st.take na).reverse.reverse ++ st.drop na := by rw [List.reverse_reverse, List.take_append_drop]
theorem cd_call_snd (hC : cd_Cx p s m args meth c y D cy ad fm A) {pc idx : Nat} {vir : Bool} {ls : List (Option Value)} {st : List Value} {M : cd_M} {a : cd_A} (hd : decode (cd_code y).1 pc = .ok (if vir then .invokevirtual idx else .invokestatic idx, 3)) (hn : ls.length = cd_ml.getD y 0) (h : cd_call y idx vir st = some a) : cd_Th p l e s m args below meth c y D cy ad fm A pc ls st M a := by
  unfold cd_call at h
  cases hq : cd_at2 cd_lkT (cd_own y) idx with
  | none => rw [hq] at h; cases h
  | some q =>
    obtain ⟨yc, kind, q2⟩ := q
    rw [hq] at h
    have he := cd_at2_mem _ _ _ _ hq
    dsimp only at h
    obtain ⟨hc, h⟩ := cd_bif_e h
    have h := (Option.some.inj h).symm
    subst h
    simp only [Bool.and_eq_true] at hc
    obtain ⟨⟨⟨⟨⟨c1, c2⟩, c3⟩, c4⟩, c5⟩, c6⟩ := hc
    have c1 := Nat.le_of_ble_eq_true c1
    have c2 := Nat.le_of_ble_eq_true c2
    have c3 := Nat.le_of_ble_eq_true c3
    have c4 := Nat.le_of_ble_eq_true c4
    have c5 := Nat.le_of_ble_eq_true c5
    have hyc : yc < 245 := (cd_lkOK _ he).1
    refine ⟨hyc, c3, fun r1 r hM kk => ?_⟩
    dsimp only at hM kk
    have hlen : ((st.take (cd_mn.getD yc 0)).reverse).length = cd_mn.getD yc 0 := by rw [List.length_reverse, List.length_take]; omega
    have hsp := cd_split c1
    generalize hg : (st.take (cd_mn.getD yc 0)).reverse = as at hM hlen hsp c6
    generalize st.drop (cd_mn.getD yc 0) = rs at kk hsp c2
    rw [hsp]
    cases vir with
    | true =>
      cases as with
      | nil =>
        have c6 : (Nat.beq kind 0 && false) = true := c6
        rw [Bool.and_false] at c6
        cases c6
      | cons v as =>
        cases v with
        | ref k =>
          have c6 : (Nat.beq kind 0 && cd_isR k (cd_own yc)) = true := c6
          simp only [Bool.and_eq_true] at c6
          obtain ⟨k0, c6⟩ := c6
          have k0 := Nat.eq_of_beq_eq_true k0
          subst k0
          rw [List.reverse_cons, List.append_assoc]
          exact cd_s_callV hC hd he hn hlen c6 c2 c4 c5 hM kk
        | _ =>
          have c6 : (Nat.beq kind 0 && false) = true := c6
          rw [Bool.and_false] at c6
          cases c6
    | false =>
      have c6 : (!(Nat.beq kind 0)) = true := c6
      have k0 : ¬ kind = 0 := by
        intro z
        rw [z] at c6
        cases c6
      exact cd_s_callS hC hd he k0 hn hlen c2 c4 c5 hM kk
set_option maxHeartbeats 4000000 in
theorem cd_math_snd (hC : cd_Cx p s m args meth c y D cy ad fm A) {pc idx n q : Nat} {ls : List (Option Value)} {st : List Value} {M : cd_M} {a : cd_A} (hd : decode (cd_code y).1 pc = .ok (.invokestatic idx, 3)) (hn : ls.length = cd_ml.getD y 0) (he : (cd_own y, idx, n, q) ∈ cd_nat) (h : cd_math n st y pc M = some a) : cd_Th p l e s m args below meth c y D cy ad fm A pc ls st M a := by
  have h4 := (cd_natOK _ he).2
  dsimp only at h4
  rcases (show n = 0 ∨ n = 1 ∨ n = 2 ∨ n = 3 by omega) with rfl | rfl | rfl | rfl
  · obtain ⟨x, z, r, rfl, h⟩ := cd_i2_e h
    obtain ⟨hc, h⟩ := cd_bif_e h
    cases cd_go_e h
    simp only [Bool.and_eq_true] at hc
    exact fun r kk => cd_s_max hC hd he hn (Nat.le_of_ble_eq_true hc.1) (Nat.le_of_ble_eq_true hc.2) kk
  · obtain ⟨x, z, r, rfl, h⟩ := cd_i2_e h
    obtain ⟨hc, h⟩ := cd_bif_e h
    cases cd_go_e h
    simp only [Bool.and_eq_true] at hc
    exact fun r kk => cd_s_min hC hd he hn (Nat.le_of_ble_eq_true hc.1) (Nat.le_of_ble_eq_true hc.2) kk
  · obtain ⟨x, r, rfl, h⟩ := cd_i1_e h
    obtain ⟨hc, h⟩ := cd_bif_e h
    cases cd_go_e h
    simp only [Bool.and_eq_true] at hc
    exact fun r kk => cd_s_abs hC hd he hn (Nat.le_of_ble_eq_true hc.1) (Nat.le_of_ble_eq_true hc.2) kk
  · obtain ⟨k0, sp, k1, dp, n, r, rfl, h⟩ := cd_cpyA_e h
    obtain ⟨hc, h⟩ := cd_bif_e h
    obtain ⟨⟨g0, g1, g2, g3, g4, g5⟩, h⟩ := cd_if_e h
    simp only [Bool.and_eq_true] at hc
    rcases cd_ite_e h with ⟨g6, h⟩ | ⟨-, h⟩
    · cases cd_go_e h
      exact fun r kk => cd_s_cpyI hC hd he hn (Nat.le_of_ble_eq_true hc.1) (Nat.le_of_ble_eq_true hc.2) g6 (g0 ▸ g6) g1 g2 g3 g4 g5 kk
    · obtain ⟨g6, h⟩ := cd_if_e h
      cases cd_go_e h
      exact fun r kk => cd_s_cpyL hC hd he hn (Nat.le_of_ble_eq_true hc.1) (Nat.le_of_ble_eq_true hc.2) g6 (g0 ▸ g6) g1 g2 g3 g4 g5 kk
theorem cd_get_snd (hC : cd_Cx p s m args meth c y D cy ad fm A) {pc idx k : Nat} {ls : List (Option Value)} {rs : List Value} {M : cd_M} {a : cd_A} (hd : decode (cd_code y).1 pc = .ok (.getfield idx, 3)) (h : cd_get y idx pc k rs M = some a) : cd_Th p l e s m args below meth c y D cy ad fm A pc ls (.ref k :: rs) M a := by
  unfold cd_get at h
  cases hb : Nat.ble 1000 k with
  | true =>
    rw [hb] at h
    have hk := Nat.le_of_ble_eq_true hb
    obtain ⟨hc, h⟩ := cd_bif_e (c := Nat.beq (cd_own y) 12 && Nat.ble (k + 1) 1013) h
    simp only [Bool.and_eq_true] at hc
    have ho := Nat.eq_of_beq_eq_true hc.1
    have hk2 := Nat.le_of_ble_eq_true hc.2
    cases h9 : Nat.beq idx 9 with
    | true =>
      rw [h9] at h
      have e9 := Nat.eq_of_beq_eq_true h9
      subst e9
      cases cd_go_e h
      exact fun r kk => cd_s_sval hC hd ho ⟨hk, by omega⟩ kk
    | false =>
      rw [h9] at h
      obtain ⟨h15, h⟩ := cd_bif_e (c := Nat.beq idx 15) h
      have e9 := Nat.eq_of_beq_eq_true h15
      subst e9
      cases cd_go_e h
      exact fun r kk => cd_s_scod hC hd ho ⟨hk, by omega⟩ kk
  | false =>
    rw [hb] at h
    cases hq : cd_at2 cd_fl (cd_own y) idx with
    | some q =>
      obtain ⟨ci, sl, q⟩ := q
      rw [hq] at h
      obtain ⟨hk, h⟩ := cd_if_e (c := (cd_sh k).1 = ci) h
      cases cd_go_e h
      exact fun r kk => cd_s_getO hC hd (cd_at2_mem _ _ _ _ hq) hk kk
    | none =>
      rw [hq] at h
      cases hq2 : cd_at2 cd_fn (cd_own y) idx with
      | none => rw [hq2] at h; cases h
      | some q =>
        obtain ⟨ci, sl⟩ := q
        rw [hq2] at h
        obtain ⟨hk, h⟩ := cd_if_e (c := (cd_sh k).1 = ci) h
        cases cd_go_e h
        exact fun r kk => cd_s_getN hC hd (cd_at2_mem _ _ _ _ hq2) hk kk
theorem cd_put2_e {ci sl pc k : Nat} {x : Int32} {rs : List Value} {M : cd_M} {a : cd_A} (h : cd_put2 ci sl pc k x rs M = some a) : (cd_sh k).1 = ci ∧ cd_rf k sl = none ∧ a = .inl (pc + 3, rs, cd_wI M k sl x) ∧ ∃ ty, (ty = .int ∨ ty = .boolean) ∧ cd_fty ci sl = some ty ∧ (narrow ty (.int x) = .int x ∧ fits ty (.int x) = true) := by
  unfold cd_put2 at h
  obtain ⟨⟨h1, h2⟩, h⟩ := cd_if_e h
  refine ⟨h1, h2, ?_⟩
  split at h
  · rename_i hf
    exact ⟨cd_go_e h, .int, Or.inl rfl, hf, cd_narI x⟩
  · rename_i hf
    obtain ⟨hx, h⟩ := cd_if_e h
    exact ⟨cd_go_e h, .boolean, Or.inr rfl, hf, cd_narZ hx⟩
  · cases h
theorem cd_put_snd (hC : cd_Cx p s m args meth c y D cy ad fm A) {pc idx k : Nat} {x : Int32} {ls : List (Option Value)} {rs : List Value} {M : cd_M} {a : cd_A} (hd : decode (cd_code y).1 pc = .ok (.putfield idx, 3)) (h : cd_put y idx pc k x rs M = some a) : cd_Th p l e s m args below meth c y D cy ad fm A pc ls (.int x :: .ref k :: rs) M a := by
  unfold cd_put at h
  cases hq : cd_at2 cd_fl (cd_own y) idx with
  | some q =>
    obtain ⟨ci, sl, q⟩ := q
    rw [hq] at h
    obtain ⟨h1, h2, rfl, ty, h3, h4, h5⟩ := cd_put2_e h
    exact fun r kk => cd_s_putO hC hd (cd_at2_mem _ _ _ _ hq) h1 h2 h3 h4 h5 kk
  | none =>
    rw [hq] at h
    cases hq2 : cd_at2 cd_fn (cd_own y) idx with
    | none => rw [hq2] at h; cases h
    | some q =>
      obtain ⟨ci, sl⟩ := q
      rw [hq2] at h
      obtain ⟨h1, h2, rfl, ty, h3, h4, h5⟩ := cd_put2_e h
      exact fun r kk => cd_s_putN hC hd (cd_at2_mem _ _ _ _ hq2) h1 h2 h3 h4 h5 kk
set_option maxHeartbeats 8000000 in
set_option maxRecDepth 20000 in
theorem cd_oth_snd (hC : cd_Cx p s m args meth c y D cy ad fm A) {pc len : Nat} {i : Instr} {ls : List (Option Value)} {st : List Value} {M : cd_M} {a : cd_A} (hd : decode (cd_code y).1 pc = .ok (i, len)) (hl : cd_lenOK i len = true) (hn : ls.length = cd_ml.getD y 0) (h : cd_oth y pc len i st M = some a) : cd_Th p l e s m args below meth c y D cy ad fm A pc ls st M a := by
  cases i with
  | iconst n =>
    cases cd_len1 hl
    cases cd_go_e h
    exact fun r kk => cd_s_iconst hC hd kk
  | bipush n =>
    cases cd_len1 hl
    cases cd_go_e h
    exact fun r kk => cd_s_bipush hC hd kk
  | sipush n =>
    cases cd_len1 hl
    cases cd_go_e h
    exact fun r kk => cd_s_sipush hC hd kk
  | lconst n =>
    cases cd_len1 hl
    cases cd_go_e h
    exact fun r kk => cd_s_lconst hC hd kk
  | ldc n =>
    cases cd_len1 hl
    have h : (match cd_at2 cd_kI (cd_own y) n with
      | some (v, _) => cd_go (pc + 2) (.int v :: st) M
      | none => match cd_at2 cd_strI (cd_own y) n with
        | some j => cd_go (pc + 2) (.ref (1000 + j) :: st) M
        | none => none) = some a := h
    cases hq : cd_at2 cd_kI (cd_own y) n with
    | some q =>
      obtain ⟨v, q⟩ := q
      rw [hq] at h
      cases cd_go_e h
      exact fun r kk => cd_s_ldcI hC (cd_kIOK _ (cd_at2_mem _ _ _ _ hq)) hd kk
    | none =>
      rw [hq] at h
      cases hq2 : cd_at2 cd_strI (cd_own y) n with
      | none => rw [hq2] at h; cases h
      | some j =>
        rw [hq2] at h
        cases cd_go_e h
        have hm := cd_at2_mem _ _ _ _ hq2
        have hj : ∀ q ∈ cd_strI, q.2.2 < 13 := by decide
        exact fun r kk => cd_s_ldcS hC (hj _ hm) hm hd kk
  | ldc_w n =>
    cases cd_len1 hl
    have h : (match cd_at2 cd_kI (cd_own y) n with
      | some (v, _) => cd_go (pc + 3) (.int v :: st) M
      | none => none) = some a := h
    cases hq : cd_at2 cd_kI (cd_own y) n with
    | some q =>
      obtain ⟨v, q⟩ := q
      rw [hq] at h
      cases cd_go_e h
      exact fun r kk => cd_s_ldcwI hC (cd_kIOK _ (cd_at2_mem _ _ _ _ hq)) hd kk
    | none => rw [hq] at h; cases h
  | ldc2_w n =>
    cases cd_len1 hl
    have h : (match cd_at2 cd_kL (cd_own y) n with
      | some (v, _) => cd_go (pc + 3) (.long v :: st) M
      | none => none) = some a := h
    cases hq : cd_at2 cd_kL (cd_own y) n with
    | some q =>
      obtain ⟨v, q⟩ := q
      rw [hq] at h
      cases cd_go_e h
      exact fun r kk => cd_s_ldc2 hC (cd_kLOK _ (cd_at2_mem _ _ _ _ hq)) hd kk
    | none => rw [hq] at h; cases h
  | iadd =>
    cases cd_len1 hl
    obtain ⟨x, z, r, hst, h9⟩ := cd_i2_e h
    clear h
    subst hst
    have h := h9
    clear h9
    cases cd_go_e h
    exact fun r kk => cd_s_iadd hC hd kk
  | isub =>
    cases cd_len1 hl
    obtain ⟨x, z, r, hst, h9⟩ := cd_i2_e h
    clear h
    subst hst
    have h := h9
    clear h9
    cases cd_go_e h
    exact fun r kk => cd_s_isub hC hd kk
  | imul =>
    cases cd_len1 hl
    obtain ⟨x, z, r, hst, h9⟩ := cd_i2_e h
    clear h
    subst hst
    have h := h9
    clear h9
    cases cd_go_e h
    exact fun r kk => cd_s_imul hC hd kk
  | iand =>
    cases cd_len1 hl
    obtain ⟨x, z, r, hst, h9⟩ := cd_i2_e h
    clear h
    subst hst
    have h := h9
    clear h9
    cases cd_go_e h
    exact fun r kk => cd_s_iand hC hd kk
  | ior =>
    cases cd_len1 hl
    obtain ⟨x, z, r, hst, h9⟩ := cd_i2_e h
    clear h
    subst hst
    have h := h9
    clear h9
    cases cd_go_e h
    exact fun r kk => cd_s_ior hC hd kk
  | ishl =>
    cases cd_len1 hl
    obtain ⟨x, z, r, hst, h9⟩ := cd_i2_e h
    clear h
    subst hst
    have h := h9
    clear h9
    cases cd_go_e h
    exact fun r kk => cd_s_ishl hC hd kk
  | ishr =>
    cases cd_len1 hl
    obtain ⟨x, z, r, hst, h9⟩ := cd_i2_e h
    clear h
    subst hst
    have h := h9
    clear h9
    cases cd_go_e h
    exact fun r kk => cd_s_ishr hC hd kk
  | iushr =>
    cases cd_len1 hl
    obtain ⟨x, z, r, hst, h9⟩ := cd_i2_e h
    clear h
    subst hst
    have h := h9
    clear h9
    cases cd_go_e h
    exact fun r kk => cd_s_iushr hC hd kk
  | idiv =>
    cases cd_len1 hl
    obtain ⟨x, z, r, hst, h9⟩ := cd_i2_e h
    clear h
    subst hst
    have h := h9
    clear h9
    obtain ⟨h0, h⟩ := cd_ifn_e h
    cases cd_go_e h
    exact fun r kk => cd_s_idiv hC h0 hd kk
  | irem =>
    cases cd_len1 hl
    obtain ⟨x, z, r, hst, h9⟩ := cd_i2_e h
    clear h
    subst hst
    have h := h9
    clear h9
    obtain ⟨h0, h⟩ := cd_ifn_e h
    cases cd_go_e h
    exact fun r kk => cd_s_irem hC h0 hd kk
  | ineg =>
    cases cd_len1 hl
    obtain ⟨x, r, hst, h9⟩ := cd_i1_e h
    clear h
    subst hst
    have h := h9
    clear h9
    cases cd_go_e h
    exact fun r kk => cd_s_ineg hC hd kk
  | i2l =>
    cases cd_len1 hl
    obtain ⟨x, r, hst, h9⟩ := cd_i1_e h
    clear h
    subst hst
    have h := h9
    clear h9
    cases cd_go_e h
    exact fun r kk => cd_s_i2l hC hd kk
  | i2b =>
    cases cd_len1 hl
    obtain ⟨x, r, hst, h9⟩ := cd_i1_e h
    clear h
    subst hst
    have h := h9
    clear h9
    cases cd_go_e h
    exact fun r kk => cd_s_i2b hC hd kk
  | i2c =>
    cases cd_len1 hl
    obtain ⟨x, r, hst, h9⟩ := cd_i1_e h
    clear h
    subst hst
    have h := h9
    clear h9
    cases cd_go_e h
    exact fun r kk => cd_s_i2c hC hd kk
  | l2i =>
    cases cd_len1 hl
    obtain ⟨x, r, hst, h9⟩ := cd_l1_e h
    clear h
    subst hst
    have h := h9
    clear h9
    cases cd_go_e h
    exact fun r kk => cd_s_l2i hC hd kk
  | land =>
    cases cd_len1 hl
    obtain ⟨x, z, r, hst, h9⟩ := cd_l2_e h
    clear h
    subst hst
    have h := h9
    clear h9
    cases cd_go_e h
    exact fun r kk => cd_s_land hC hd kk
  | lor =>
    cases cd_len1 hl
    obtain ⟨x, z, r, hst, h9⟩ := cd_l2_e h
    clear h
    subst hst
    have h := h9
    clear h9
    cases cd_go_e h
    exact fun r kk => cd_s_lor hC hd kk
  | lxor =>
    cases cd_len1 hl
    obtain ⟨x, z, r, hst, h9⟩ := cd_l2_e h
    clear h
    subst hst
    have h := h9
    clear h9
    cases cd_go_e h
    exact fun r kk => cd_s_lxor hC hd kk
  | lcmp =>
    cases cd_len1 hl
    obtain ⟨x, z, r, hst, h9⟩ := cd_l2_e h
    clear h
    subst hst
    have h := h9
    clear h9
    cases cd_go_e h
    exact fun r kk => cd_s_lcmp hC hd kk
  | lshl =>
    cases cd_len1 hl
    obtain ⟨x, z, r, hst, h9⟩ := cd_li_e h
    clear h
    subst hst
    have h := h9
    clear h9
    cases cd_go_e h
    exact fun r kk => cd_s_lshl hC hd kk
  | lushr =>
    cases cd_len1 hl
    obtain ⟨x, z, r, hst, h9⟩ := cd_li_e h
    clear h
    subst hst
    have h := h9
    clear h9
    cases cd_go_e h
    exact fun r kk => cd_s_lushr hC hd kk
  | goto off =>
    cases cd_len1 hl
    obtain ⟨t, ht, h⟩ := cd_to_e (f := fun t => cd_go t st M) h
    cases cd_go_e h
    exact fun r kk => cd_s_goto hC ht hd kk
  | ifCond cnd off =>
    cases cd_len1 hl
    cases cnd with
    | eq =>
      obtain ⟨x, r, hst, h9⟩ := cd_i1_e (f := fun a r => cd_to pc off fun t => if a = 0 then cd_go t r M else cd_go (pc + 3) r M) h
      clear h
      subst hst
      have h := h9
      clear h9
      obtain ⟨t, ht, h⟩ := cd_to_e h
      rcases cd_ite_e h with ⟨hz, h⟩ | ⟨hz, h⟩
      · cases cd_go_e h
        exact fun r kk => cd_s_if_eq hC ht hd (fun _ => kk) (fun q => absurd hz q)
      · cases cd_go_e h
        exact fun r kk => cd_s_if_eq hC ht hd (fun q => absurd q hz) (fun _ => kk)
    | ne =>
      obtain ⟨x, r, hst, h9⟩ := cd_i1_e (f := fun a r => cd_to pc off fun t => if a = 0 then cd_go (pc + 3) r M else cd_go t r M) h
      clear h
      subst hst
      have h := h9
      clear h9
      obtain ⟨t, ht, h⟩ := cd_to_e h
      rcases cd_ite_e h with ⟨hz, h⟩ | ⟨hz, h⟩
      · cases cd_go_e h
        exact fun r kk => cd_s_if_ne hC ht hd (fun q => absurd hz q) (fun _ => kk)
      · cases cd_go_e h
        exact fun r kk => cd_s_if_ne hC ht hd (fun _ => kk) (fun q => absurd q hz)
    | lt =>
      obtain ⟨x, r, hst, h9⟩ := cd_i1_e (f := fun a r => cd_to pc off fun t => if a < 0 then cd_go t r M else cd_go (pc + 3) r M) h
      clear h
      subst hst
      have h := h9
      clear h9
      obtain ⟨t, ht, h⟩ := cd_to_e h
      rcases cd_ite_e h with ⟨hz, h⟩ | ⟨hz, h⟩
      · cases cd_go_e h
        exact fun r kk => cd_s_if_lt hC ht hd (fun _ => kk) (fun q => absurd hz q)
      · cases cd_go_e h
        exact fun r kk => cd_s_if_lt hC ht hd (fun q => absurd q hz) (fun _ => kk)
    | ge =>
      obtain ⟨x, r, hst, h9⟩ := cd_i1_e (f := fun a r => cd_to pc off fun t => if 0 ≤ a then cd_go t r M else cd_go (pc + 3) r M) h
      clear h
      subst hst
      have h := h9
      clear h9
      obtain ⟨t, ht, h⟩ := cd_to_e h
      rcases cd_ite_e h with ⟨hz, h⟩ | ⟨hz, h⟩
      · cases cd_go_e h
        exact fun r kk => cd_s_if_ge hC ht hd (fun _ => kk) (fun q => absurd hz q)
      · cases cd_go_e h
        exact fun r kk => cd_s_if_ge hC ht hd (fun q => absurd q hz) (fun _ => kk)
    | gt =>
      obtain ⟨x, r, hst, h9⟩ := cd_i1_e (f := fun a r => cd_to pc off fun t => if 0 < a then cd_go t r M else cd_go (pc + 3) r M) h
      clear h
      subst hst
      have h := h9
      clear h9
      obtain ⟨t, ht, h⟩ := cd_to_e h
      rcases cd_ite_e h with ⟨hz, h⟩ | ⟨hz, h⟩
      · cases cd_go_e h
        exact fun r kk => cd_s_if_gt hC ht hd (fun _ => kk) (fun q => absurd hz q)
      · cases cd_go_e h
        exact fun r kk => cd_s_if_gt hC ht hd (fun q => absurd q hz) (fun _ => kk)
    | le =>
      obtain ⟨x, r, hst, h9⟩ := cd_i1_e (f := fun a r => cd_to pc off fun t => if a ≤ 0 then cd_go t r M else cd_go (pc + 3) r M) h
      clear h
      subst hst
      have h := h9
      clear h9
      obtain ⟨t, ht, h⟩ := cd_to_e h
      rcases cd_ite_e h with ⟨hz, h⟩ | ⟨hz, h⟩
      · cases cd_go_e h
        exact fun r kk => cd_s_if_le hC ht hd (fun _ => kk) (fun q => absurd hz q)
      · cases cd_go_e h
        exact fun r kk => cd_s_if_le hC ht hd (fun q => absurd q hz) (fun _ => kk)
  | if_icmp cnd off =>
    cases cd_len1 hl
    cases cnd with
    | eq =>
      obtain ⟨x, z, r, hst, h9⟩ := cd_i2_e (f := fun a b r => cd_to pc off fun t => if a = b then cd_go t r M else cd_go (pc + 3) r M) h
      clear h
      subst hst
      have h := h9
      clear h9
      obtain ⟨t, ht, h⟩ := cd_to_e h
      rcases cd_ite_e h with ⟨hz, h⟩ | ⟨hz, h⟩
      · cases cd_go_e h
        exact fun r kk => cd_s_icmp_eq hC ht hd (fun _ => kk) (fun q => absurd hz q)
      · cases cd_go_e h
        exact fun r kk => cd_s_icmp_eq hC ht hd (fun q => absurd q hz) (fun _ => kk)
    | ne =>
      obtain ⟨x, z, r, hst, h9⟩ := cd_i2_e (f := fun a b r => cd_to pc off fun t => if a = b then cd_go (pc + 3) r M else cd_go t r M) h
      clear h
      subst hst
      have h := h9
      clear h9
      obtain ⟨t, ht, h⟩ := cd_to_e h
      rcases cd_ite_e h with ⟨hz, h⟩ | ⟨hz, h⟩
      · cases cd_go_e h
        exact fun r kk => cd_s_icmp_ne hC ht hd (fun q => absurd hz q) (fun _ => kk)
      · cases cd_go_e h
        exact fun r kk => cd_s_icmp_ne hC ht hd (fun _ => kk) (fun q => absurd q hz)
    | lt =>
      obtain ⟨x, z, r, hst, h9⟩ := cd_i2_e (f := fun a b r => cd_to pc off fun t => if a < b then cd_go t r M else cd_go (pc + 3) r M) h
      clear h
      subst hst
      have h := h9
      clear h9
      obtain ⟨t, ht, h⟩ := cd_to_e h
      rcases cd_ite_e h with ⟨hz, h⟩ | ⟨hz, h⟩
      · cases cd_go_e h
        exact fun r kk => cd_s_icmp_lt hC ht hd (fun _ => kk) (fun q => absurd hz q)
      · cases cd_go_e h
        exact fun r kk => cd_s_icmp_lt hC ht hd (fun q => absurd q hz) (fun _ => kk)
    | ge =>
      obtain ⟨x, z, r, hst, h9⟩ := cd_i2_e (f := fun a b r => cd_to pc off fun t => if b ≤ a then cd_go t r M else cd_go (pc + 3) r M) h
      clear h
      subst hst
      have h := h9
      clear h9
      obtain ⟨t, ht, h⟩ := cd_to_e h
      rcases cd_ite_e h with ⟨hz, h⟩ | ⟨hz, h⟩
      · cases cd_go_e h
        exact fun r kk => cd_s_icmp_ge hC ht hd (fun _ => kk) (fun q => absurd hz q)
      · cases cd_go_e h
        exact fun r kk => cd_s_icmp_ge hC ht hd (fun q => absurd q hz) (fun _ => kk)
    | gt =>
      obtain ⟨x, z, r, hst, h9⟩ := cd_i2_e (f := fun a b r => cd_to pc off fun t => if b < a then cd_go t r M else cd_go (pc + 3) r M) h
      clear h
      subst hst
      have h := h9
      clear h9
      obtain ⟨t, ht, h⟩ := cd_to_e h
      rcases cd_ite_e h with ⟨hz, h⟩ | ⟨hz, h⟩
      · cases cd_go_e h
        exact fun r kk => cd_s_icmp_gt hC ht hd (fun _ => kk) (fun q => absurd hz q)
      · cases cd_go_e h
        exact fun r kk => cd_s_icmp_gt hC ht hd (fun q => absurd q hz) (fun _ => kk)
    | le =>
      obtain ⟨x, z, r, hst, h9⟩ := cd_i2_e (f := fun a b r => cd_to pc off fun t => if a ≤ b then cd_go t r M else cd_go (pc + 3) r M) h
      clear h
      subst hst
      have h := h9
      clear h9
      obtain ⟨t, ht, h⟩ := cd_to_e h
      rcases cd_ite_e h with ⟨hz, h⟩ | ⟨hz, h⟩
      · cases cd_go_e h
        exact fun r kk => cd_s_icmp_le hC ht hd (fun _ => kk) (fun q => absurd hz q)
      · cases cd_go_e h
        exact fun r kk => cd_s_icmp_le hC ht hd (fun q => absurd q hz) (fun _ => kk)
  | tableswitch dflt lo hi offs =>
    obtain ⟨x, r, hst, h9⟩ := cd_i1_e h
    clear h
    subst hst
    have h := h9
    clear h9
    rcases cd_ite_e h with ⟨hz, h⟩ | ⟨hz, h⟩
    · obtain ⟨t, ht, h⟩ := cd_to_e h
      cases cd_go_e h
      exact fun r kk => cd_s_swOut hC hz ht hd kk
    · cases ho : offs[(x.toInt - lo).toNat]? with
      | none => rw [ho] at h; cases h
      | some off =>
        rw [ho] at h
        obtain ⟨t, ht, h⟩ := cd_to_e h
        cases cd_go_e h
        exact fun r kk => cd_s_swIn hC hz ho ht hd kk
  | dup =>
    cases cd_len1 hl
    cases st with
    | nil => cases h
    | cons v r =>
      obtain ⟨hv, h⟩ := cd_if_e (c := v.category = 1) h
      cases cd_go_e h
      exact fun r kk => cd_s_dup hC hv hd kk
  | pop =>
    cases cd_len1 hl
    cases st with
    | nil => cases h
    | cons v r =>
      obtain ⟨hv, h⟩ := cd_if_e (c := v.category = 1) h
      cases cd_go_e h
      exact fun r kk => cd_s_pop hC hv hd kk
  | dup2 =>
    cases cd_len1 hl
    cases st with
    | nil => cases h
    | cons v r =>
      cases r with
      | nil => cases h
      | cons w r =>
        obtain ⟨hv, h⟩ := cd_if_e (c := v.category = 1 ∧ w.category = 1) h
        cases cd_go_e h
        exact fun r kk => cd_s_dup2 hC hv.1 hv.2 hd kk
  | iaload =>
    cases cd_len1 hl
    obtain ⟨k, j, r, hst, h9⟩ := cd_ri_e h
    clear h
    subst hst
    have h := h9
    clear h9
    obtain ⟨hk, h⟩ := cd_if_e h
    cases cd_go_e h
    exact fun r kk => cd_s_iald hC hk.1 (cd_in_e hk.2) hd kk
  | laload =>
    cases cd_len1 hl
    obtain ⟨k, j, r, hst, h9⟩ := cd_ri_e h
    clear h
    subst hst
    have h := h9
    clear h9
    obtain ⟨hk, h⟩ := cd_if_e h
    cases cd_go_e h
    exact fun r kk => cd_s_lald hC hk.1 (cd_in_e hk.2) hd kk
  | baload =>
    cases cd_len1 hl
    obtain ⟨k, j, r, hst, h9⟩ := cd_ri_e (f := fun k j r => bif Nat.ble 1100 k then (if k < 1113 ∧ cd_in j (cd_sl.getD (k - 1100) 0) = true then cd_go (pc + 1) (.int (cd_sbyte k j) :: r) M else none) else if ((cd_sh k).1 = 22 ∨ (cd_sh k).1 = 23) ∧ cd_in j (cd_sh k).2 = true then cd_go (pc + 1) (.int (M.1 k j.toNatClampNeg) :: r) M else none) h
    clear h
    subst hst
    have h := h9
    clear h9
    cases hb : Nat.ble 1100 k with
    | true =>
      rw [hb] at h
      obtain ⟨hk, h⟩ := cd_if_e (c := k < 1113 ∧ cd_in j (cd_sl.getD (k - 1100) 0) = true) h
      cases cd_go_e h
      exact fun r kk => cd_s_sbald hC ⟨Nat.le_of_ble_eq_true hb, hk.1⟩ (cd_in_e hk.2) hd kk
    | false =>
      rw [hb] at h
      obtain ⟨hk, h⟩ := cd_if_e (c := ((cd_sh k).1 = 22 ∨ (cd_sh k).1 = 23) ∧ cd_in j (cd_sh k).2 = true) h
      cases cd_go_e h
      rcases hk with ⟨hk | hk, hj⟩
      · exact fun r kk => cd_s_bald hC hk (cd_in_e hj) hd kk
      · exact fun r kk => cd_s_zald hC hk (cd_in_e hj) hd kk
  | iastore =>
    cases cd_len1 hl
    obtain ⟨k, j, x, r, hst, h9⟩ := cd_rii_e h
    clear h
    subst hst
    have h := h9
    clear h9
    obtain ⟨hk, h⟩ := cd_if_e h
    cases cd_go_e h
    exact fun r kk => cd_s_iast hC hk.1 (cd_in_e hk.2) hd kk
  | lastore =>
    cases cd_len1 hl
    obtain ⟨k, j, x, r, hst, h9⟩ := cd_ril_e h
    clear h
    subst hst
    have h := h9
    clear h9
    obtain ⟨hk, h⟩ := cd_if_e h
    cases cd_go_e h
    exact fun r kk => cd_s_last hC hk.1 (cd_in_e hk.2) hd kk
  | bastore =>
    cases cd_len1 hl
    obtain ⟨k, j, x, r, hst, h9⟩ := cd_rii_e h
    clear h
    subst hst
    have h := h9
    clear h9
    rcases cd_ite_e h with ⟨hk, h⟩ | ⟨-, h⟩
    · cases cd_go_e h
      exact fun r kk => cd_s_bast hC hk.1 (cd_in_e hk.2) hd kk
    · obtain ⟨hk, h⟩ := cd_if_e h
      cases cd_go_e h
      exact fun r kk => cd_s_zast hC hk.1 (cd_in_e hk.2) hd kk
  | arraylength =>
    cases cd_len1 hl
    obtain ⟨k, r, hst, h9⟩ := cd_r1_e (f := fun k r => bif Nat.ble 1100 k then (if k < 1113 then cd_go (pc + 1) (.int (Int32.ofNat (cd_sl.getD (k - 1100) 0)) :: r) M else none) else if 20 ≤ (cd_sh k).1 ∧ (cd_sh k).1 ≤ 23 then cd_go (pc + 1) (.int (Int32.ofNat (cd_sh k).2) :: r) M else none) h
    clear h
    subst hst
    have h := h9
    clear h9
    cases hb : Nat.ble 1100 k with
    | true =>
      rw [hb] at h
      obtain ⟨hk, h⟩ := cd_if_e (c := k < 1113) h
      cases cd_go_e h
      exact fun r kk => cd_s_salen hC ⟨Nat.le_of_ble_eq_true hb, hk⟩ hd kk
    | false =>
      rw [hb] at h
      obtain ⟨hk, h⟩ := cd_if_e (c := 20 ≤ (cd_sh k).1 ∧ (cd_sh k).1 ≤ 23) h
      cases cd_go_e h
      exact fun r kk => cd_s_alen hC hk hd kk
  | getfield idx =>
    cases cd_len1 hl
    obtain ⟨k, r, hst, h9⟩ := cd_r1_e (f := fun k r => cd_get y idx pc k r M) h
    clear h
    subst hst
    have h := h9
    clear h9
    exact cd_get_snd hC hd h
  | putfield idx =>
    cases cd_len1 hl
    obtain ⟨k, x, r, hst, h9⟩ := cd_fi_e (f := fun k x r => cd_put y idx pc k x r M) h
    clear h
    subst hst
    have h := h9
    clear h9
    exact cd_put_snd hC hd h
  | getstatic idx =>
    cases cd_len1 hl
    have h : (bif Nat.beq (cd_own y) 12 && Nat.beq idx 38 then cd_go (pc + 3) (.int 1 :: st) M else bif Nat.beq (cd_own y) 12 && Nat.beq idx 1053 then cd_go (pc + 3) (.ref 1200 :: st) M else none) = some a := h
    cases hb : Nat.beq (cd_own y) 12 && Nat.beq idx 38 with
    | true =>
      rw [hb] at h
      simp only [Bool.and_eq_true] at hb
      have e1 := Nat.eq_of_beq_eq_true hb.1
      have e2 := Nat.eq_of_beq_eq_true hb.2
      subst e2
      cases cd_go_e h
      exact fun r kk => cd_s_cmp hC hd e1 kk
    | false =>
      rw [hb] at h
      obtain ⟨hb2, h9⟩ := cd_bif_e (c := Nat.beq (cd_own y) 12 && Nat.beq idx 1053) h
      clear h
      simp only [Bool.and_eq_true] at hb2
      have e1 := Nat.eq_of_beq_eq_true hb2.1
      have e2 := Nat.eq_of_beq_eq_true hb2.2
      subst e2
      cases cd_go_e h9
      exact fun r kk => cd_s_fmt hC hd e1 kk
  | invokevirtual idx =>
    cases cd_len1 hl
    exact cd_call_snd (vir := true) hC hd hn h
  | invokestatic idx =>
    cases cd_len1 hl
    have h : (match cd_at2 cd_nat (cd_own y) idx with
      | some (n, _) => cd_math n st y pc M
      | none => cd_call y idx false st) = some a := h
    cases hq : cd_at2 cd_nat (cd_own y) idx with
    | some q =>
      obtain ⟨n, q⟩ := q
      rw [hq] at h
      exact cd_math_snd hC hd hn (cd_at2_mem _ _ _ _ hq) h
    | none =>
      rw [hq] at h
      exact cd_call_snd (vir := false) hC hd hn h
  | ireturn =>
    cases cd_len1 hl
    cases st with
    | nil => cases h
    | cons v r =>
      cases v with
      | int v =>
        cases r with
        | cons w r => cases h
        | nil =>
          have h : (match cd_mr.getD y none with
            | some .int => some (.inr (.inl (some (.int v), M)))
            | some .boolean => if v = 0 ∨ v = 1 then some (.inr (.inl (some (.int v), M))) else none
            | some .char => if narrow .char (.int v) = .int v then some (.inr (.inl (some (.int v), M))) else none
            | some .byte => if narrow .byte (.int v) = .int v then some (.inr (.inl (some (.int v), M))) else none
            | _ => none) = some a := h
          split at h
          · rename_i hr
            cases Option.some.inj h
            exact cd_s_iret hC hd hr rfl
          · rename_i hr
            obtain ⟨hv, h⟩ := cd_if_e h
            cases Option.some.inj h
            exact cd_s_iret hC hd hr (cd_narZ hv).1
          · rename_i hr
            obtain ⟨hv, h⟩ := cd_if_e h
            cases Option.some.inj h
            exact cd_s_iret hC hd hr hv
          · rename_i hr
            obtain ⟨hv, h⟩ := cd_if_e h
            cases Option.some.inj h
            exact cd_s_iret hC hd hr hv
          · cases h
      | _ => cases r <;> cases h
  | lreturn =>
    cases cd_len1 hl
    cases st with
    | nil => cases h
    | cons v r =>
      cases v with
      | long v =>
        cases r with
        | cons w r => cases h
        | nil =>
          have h : (match cd_mr.getD y none with
            | some .long => some (.inr (.inl (some (.long v), M)))
            | _ => none) = some a := h
          split at h
          · rename_i hr
            cases Option.some.inj h
            exact cd_s_lret hC hd hr
          · cases h
      | _ => cases r <;> cases h
  | areturn =>
    cases cd_len1 hl
    cases st with
    | nil => cases h
    | cons v r =>
      cases v with
      | ref v =>
        cases r with
        | cons w r => cases h
        | nil =>
          have h : (match cd_mr.getD y none with
            | some (.object _) => some (.inr (.inl (some (.ref v), M)))
            | _ => none) = some a := h
          split at h
          · rename_i hr
            cases Option.some.inj h
            exact cd_s_aret hC hd hr
          · cases h
      | _ => cases r <;> cases h
  | return_ =>
    cases cd_len1 hl
    cases st with
    | cons v r => cases h
    | nil =>
      have h : (match cd_mr.getD y none with
        | none => bif Nat.ble y 244 then some (.inr (.inl (none, M))) else none
        | _ => none) = some a := h
      split at h
      · rename_i hr
        obtain ⟨-, h⟩ := cd_bif_e h
        cases Option.some.inj h
        exact cd_s_vret hC hd hr
      · cases h
  | _ => cases h
end cdQ
