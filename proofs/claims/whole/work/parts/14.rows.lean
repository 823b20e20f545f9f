/-! rows with typed answers: W makes the end out of the answer -/
abbrev cd_RT : Type := Option (Option Value × cd_M)
def w_TI (M : cd_M) (v : Int32) : cd_RT := some (some (.int v), M)
def w_PI (M : cd_M) (v : Option Int32) : cd_RT := v.bind (w_TI M)
def w_TL (M : cd_M) (v : Int64) : cd_RT := some (some (.long v), M)
def w_PL (M : cd_M) (v : Option Int64) : cd_RT := v.bind (w_TL M)
def w_TM (q : Int32 × cd_M) : cd_RT := some (some (.int q.1), q.2)
def w_PM (v : Option (Int32 × cd_M)) : cd_RT := v.bind w_TM
def w_TV (M : cd_M) : cd_RT := some (none, M)
def w_PV (v : Option cd_M) : cd_RT := v.bind w_TV
def w_PU (M : cd_M) (v : Option Unit) : cd_RT := v.bind fun _ => some (none, M)
def w_TR (M : cd_M) (k : Nat) : cd_RT := some (some (.ref k), M)
/-- an end of a method that answers a boolean is 0 or 1 -/
theorem cd_oth_z {y pc len : Nat} {i : Instr} {st : List Value} {M : cd_M} {q : Option Value × cd_M} (hy : cd_mr.getD y none = some .boolean) (h : cd_oth y pc len i st M = some (.inr (.inl q))) : ∃ v : Int32, q.1 = some (.int v) ∧ (v = 0 ∨ v = 1) := by
  have hgo : ∀ {pc' : Nat} {st' : List Value} {M' : cd_M}, ¬ cd_go pc' st' M' = some (.inr (.inl q)) := fun {_ _ _} z => by cases z
  have hcall : ∀ {idx : Nat} {vir : Bool}, ¬ cd_call y idx vir st = some (.inr (.inl q)) := by
    intro idx vir z
    unfold cd_call at z
    split at z
    · dsimp only at z
      obtain ⟨-, z⟩ := cd_bif_e z
      cases z
    · cases z
  cases i with
  | ireturn =>
    cases st with
    | nil => cases h
    | cons v r =>
      cases v with
      | int v =>
        cases r with
        | cons w r => cases h
        | nil =>
          have h : ((match cd_mr.getD y none with
            | some .int => some (.inr (.inl (some (.int v), M)))
            | some .boolean => if v = 0 ∨ v = 1 then some (.inr (.inl (some (.int v), M))) else none
            | some .char => if narrow .char (.int v) = .int v then some (.inr (.inl (some (.int v), M))) else none
            | some .byte => if narrow .byte (.int v) = .int v then some (.inr (.inl (some (.int v), M))) else none
            | _ => none) : Option cd_A) = some (.inr (.inl q)) := h
          rw [hy] at h
          obtain ⟨hv, h⟩ := cd_if_e (c := v = 0 ∨ v = 1) h
          cases h
          exact ⟨v, rfl, hv⟩
      | _ => cases r <;> cases h
  | lreturn =>
    cases st with
    | nil => cases h
    | cons v r =>
      cases v with
      | long v =>
        cases r with
        | cons w r => cases h
        | nil =>
          have h : ((match cd_mr.getD y none with
            | some .long => some (.inr (.inl (some (.long v), M)))
            | _ => none) : Option cd_A) = some (.inr (.inl q)) := h
          rw [hy] at h
          cases h
      | _ => cases r <;> cases h
  | areturn =>
    cases st with
    | nil => cases h
    | cons v r =>
      cases v with
      | ref v =>
        cases r with
        | cons w r => cases h
        | nil =>
          have h : ((match cd_mr.getD y none with
            | some (.object _) => some (.inr (.inl (some (.ref v), M)))
            | _ => none) : Option cd_A) = some (.inr (.inl q)) := h
          rw [hy] at h
          cases h
      | _ => cases r <;> cases h
  | return_ =>
    cases st with
    | cons v r => cases h
    | nil =>
      have h : ((match cd_mr.getD y none with
        | none => bif Nat.ble y 244 then some (.inr (.inl (none, M))) else none
        | _ => none) : Option cd_A) = some (.inr (.inl q)) := h
      rw [hy] at h
      cases h
  | ineg =>
    obtain ⟨x, r, -, h9⟩ := cd_i1_e h
    cases h9
  | i2l =>
    obtain ⟨x, r, -, h9⟩ := cd_i1_e h
    cases h9
  | i2b =>
    obtain ⟨x, r, -, h9⟩ := cd_i1_e h
    cases h9
  | i2c =>
    obtain ⟨x, r, -, h9⟩ := cd_i1_e h
    cases h9
  | iadd =>
    obtain ⟨x, z, r, -, h9⟩ := cd_i2_e h
    cases h9
  | isub =>
    obtain ⟨x, z, r, -, h9⟩ := cd_i2_e h
    cases h9
  | imul =>
    obtain ⟨x, z, r, -, h9⟩ := cd_i2_e h
    cases h9
  | iand =>
    obtain ⟨x, z, r, -, h9⟩ := cd_i2_e h
    cases h9
  | ior =>
    obtain ⟨x, z, r, -, h9⟩ := cd_i2_e h
    cases h9
  | ishl =>
    obtain ⟨x, z, r, -, h9⟩ := cd_i2_e h
    cases h9
  | ishr =>
    obtain ⟨x, z, r, -, h9⟩ := cd_i2_e h
    cases h9
  | iushr =>
    obtain ⟨x, z, r, -, h9⟩ := cd_i2_e h
    cases h9
  | l2i =>
    obtain ⟨x, r, -, h9⟩ := cd_l1_e h
    cases h9
  | land =>
    obtain ⟨x, z, r, -, h9⟩ := cd_l2_e h
    cases h9
  | lor =>
    obtain ⟨x, z, r, -, h9⟩ := cd_l2_e h
    cases h9
  | lxor =>
    obtain ⟨x, z, r, -, h9⟩ := cd_l2_e h
    cases h9
  | lcmp =>
    obtain ⟨x, z, r, -, h9⟩ := cd_l2_e h
    cases h9
  | lshl =>
    obtain ⟨x, z, r, -, h9⟩ := cd_li_e h
    cases h9
  | lushr =>
    obtain ⟨x, z, r, -, h9⟩ := cd_li_e h
    cases h9
  | idiv =>
    obtain ⟨x, z, r, -, h9⟩ := cd_i2_e h
    obtain ⟨-, h9⟩ := cd_ifn_e h9
    cases h9
  | irem =>
    obtain ⟨x, z, r, -, h9⟩ := cd_i2_e h
    obtain ⟨-, h9⟩ := cd_ifn_e h9
    cases h9
  | iconst n => cases h
  | bipush n => cases h
  | sipush n => cases h
  | lconst n => cases h
  | ldc n =>
    have h : (match cd_at2 cd_kI (cd_own y) n with
      | some (v, _) => cd_go (pc + len) (.int v :: st) M
      | none => match cd_at2 cd_strI (cd_own y) n with
        | some j => cd_go (pc + len) (.ref (1000 + j) :: st) M
        | none => none) = some (.inr (.inl q)) := h
    split at h
    · exact absurd h hgo
    · split at h
      · exact absurd h hgo
      · cases h
  | ldc_w n =>
    have h : (match cd_at2 cd_kI (cd_own y) n with
      | some (v, _) => cd_go (pc + len) (.int v :: st) M
      | none => none) = some (.inr (.inl q)) := h
    split at h
    · exact absurd h hgo
    · cases h
  | ldc2_w n =>
    have h : (match cd_at2 cd_kL (cd_own y) n with
      | some (v, _) => cd_go (pc + len) (.long v :: st) M
      | none => none) = some (.inr (.inl q)) := h
    split at h
    · exact absurd h hgo
    · cases h
  | goto off =>
    obtain ⟨t, -, h9⟩ := cd_to_e (f := fun t => cd_go t st M) h
    cases h9
  | ifCond cnd off =>
    cases cnd with
    | eq =>
      obtain ⟨x, r, -, h9⟩ := cd_i1_e (f := fun a r => cd_to pc off fun t => if a = 0 then cd_go t r M else cd_go (pc + len) r M) h
      obtain ⟨t, -, h9⟩ := cd_to_e h9
      rcases cd_ite_e h9 with ⟨-, h9⟩ | ⟨-, h9⟩ <;> cases h9
    | ne =>
      obtain ⟨x, r, -, h9⟩ := cd_i1_e (f := fun a r => cd_to pc off fun t => if a = 0 then cd_go (pc + len) r M else cd_go t r M) h
      obtain ⟨t, -, h9⟩ := cd_to_e h9
      rcases cd_ite_e h9 with ⟨-, h9⟩ | ⟨-, h9⟩ <;> cases h9
    | lt =>
      obtain ⟨x, r, -, h9⟩ := cd_i1_e (f := fun a r => cd_to pc off fun t => if a < 0 then cd_go t r M else cd_go (pc + len) r M) h
      obtain ⟨t, -, h9⟩ := cd_to_e h9
      rcases cd_ite_e h9 with ⟨-, h9⟩ | ⟨-, h9⟩ <;> cases h9
    | ge =>
      obtain ⟨x, r, -, h9⟩ := cd_i1_e (f := fun a r => cd_to pc off fun t => if 0 ≤ a then cd_go t r M else cd_go (pc + len) r M) h
      obtain ⟨t, -, h9⟩ := cd_to_e h9
      rcases cd_ite_e h9 with ⟨-, h9⟩ | ⟨-, h9⟩ <;> cases h9
    | gt =>
      obtain ⟨x, r, -, h9⟩ := cd_i1_e (f := fun a r => cd_to pc off fun t => if 0 < a then cd_go t r M else cd_go (pc + len) r M) h
      obtain ⟨t, -, h9⟩ := cd_to_e h9
      rcases cd_ite_e h9 with ⟨-, h9⟩ | ⟨-, h9⟩ <;> cases h9
    | le =>
      obtain ⟨x, r, -, h9⟩ := cd_i1_e (f := fun a r => cd_to pc off fun t => if a ≤ 0 then cd_go t r M else cd_go (pc + len) r M) h
      obtain ⟨t, -, h9⟩ := cd_to_e h9
      rcases cd_ite_e h9 with ⟨-, h9⟩ | ⟨-, h9⟩ <;> cases h9
  | if_icmp cnd off =>
    cases cnd with
    | eq =>
      obtain ⟨x, z, r, -, h9⟩ := cd_i2_e (f := fun a b r => cd_to pc off fun t => if a = b then cd_go t r M else cd_go (pc + len) r M) h
      obtain ⟨t, -, h9⟩ := cd_to_e h9
      rcases cd_ite_e h9 with ⟨-, h9⟩ | ⟨-, h9⟩ <;> cases h9
    | ne =>
      obtain ⟨x, z, r, -, h9⟩ := cd_i2_e (f := fun a b r => cd_to pc off fun t => if a = b then cd_go (pc + len) r M else cd_go t r M) h
      obtain ⟨t, -, h9⟩ := cd_to_e h9
      rcases cd_ite_e h9 with ⟨-, h9⟩ | ⟨-, h9⟩ <;> cases h9
    | lt =>
      obtain ⟨x, z, r, -, h9⟩ := cd_i2_e (f := fun a b r => cd_to pc off fun t => if a < b then cd_go t r M else cd_go (pc + len) r M) h
      obtain ⟨t, -, h9⟩ := cd_to_e h9
      rcases cd_ite_e h9 with ⟨-, h9⟩ | ⟨-, h9⟩ <;> cases h9
    | ge =>
      obtain ⟨x, z, r, -, h9⟩ := cd_i2_e (f := fun a b r => cd_to pc off fun t => if b ≤ a then cd_go t r M else cd_go (pc + len) r M) h
      obtain ⟨t, -, h9⟩ := cd_to_e h9
      rcases cd_ite_e h9 with ⟨-, h9⟩ | ⟨-, h9⟩ <;> cases h9
    | gt =>
      obtain ⟨x, z, r, -, h9⟩ := cd_i2_e (f := fun a b r => cd_to pc off fun t => if b < a then cd_go t r M else cd_go (pc + len) r M) h
      obtain ⟨t, -, h9⟩ := cd_to_e h9
      rcases cd_ite_e h9 with ⟨-, h9⟩ | ⟨-, h9⟩ <;> cases h9
    | le =>
      obtain ⟨x, z, r, -, h9⟩ := cd_i2_e (f := fun a b r => cd_to pc off fun t => if a ≤ b then cd_go t r M else cd_go (pc + len) r M) h
      obtain ⟨t, -, h9⟩ := cd_to_e h9
      rcases cd_ite_e h9 with ⟨-, h9⟩ | ⟨-, h9⟩ <;> cases h9
  | tableswitch dflt lo hi offs =>
    obtain ⟨x, r, -, h9⟩ := cd_i1_e h
    rcases cd_ite_e h9 with ⟨hz, h9⟩ | ⟨hz, h9⟩
    · obtain ⟨t, ht, h9⟩ := cd_to_e h9
      cases h9
    · cases ho : offs[(x.toInt - lo).toNat]? with
      | none => rw [ho] at h9; cases h9
      | some off =>
        rw [ho] at h9
        obtain ⟨t, ht, h9⟩ := cd_to_e h9
        cases h9
  | dup =>
    cases st with
    | nil => cases h
    | cons v r =>
      obtain ⟨-, h9⟩ := cd_if_e (c := v.category = 1) h
      cases h9
  | pop =>
    cases st with
    | nil => cases h
    | cons v r =>
      obtain ⟨-, h9⟩ := cd_if_e (c := v.category = 1) h
      cases h9
  | dup2 =>
    cases st with
    | nil => cases h
    | cons v r =>
      cases r with
      | nil => cases h
      | cons w r =>
        obtain ⟨-, h9⟩ := cd_if_e (c := v.category = 1 ∧ w.category = 1) h
        cases h9
  | iaload =>
    obtain ⟨k, j, r, -, h9⟩ := cd_ri_e h
    obtain ⟨-, h9⟩ := cd_if_e h9
    cases h9
  | laload =>
    obtain ⟨k, j, r, -, h9⟩ := cd_ri_e h
    obtain ⟨-, h9⟩ := cd_if_e h9
    cases h9
  | baload =>
    obtain ⟨k, j, r, -, h9⟩ := cd_ri_e (f := fun k j r => bif Nat.ble 1100 k then (if k < 1113 ∧ cd_in j (cd_sl.getD (k - 1100) 0) = true then cd_go (pc + len) (.int (cd_sbyte k j) :: r) M else none) else if ((cd_sh k).1 = 22 ∨ (cd_sh k).1 = 23) ∧ cd_in j (cd_sh k).2 = true then cd_go (pc + len) (.int (M.1 k j.toNatClampNeg) :: r) M else none) h
    cases hb : Nat.ble 1100 k with
    | true =>
      rw [hb] at h9
      obtain ⟨-, h9⟩ := cd_if_e (c := k < 1113 ∧ cd_in j (cd_sl.getD (k - 1100) 0) = true) h9
      cases h9
    | false =>
      rw [hb] at h9
      obtain ⟨-, h9⟩ := cd_if_e (c := ((cd_sh k).1 = 22 ∨ (cd_sh k).1 = 23) ∧ cd_in j (cd_sh k).2 = true) h9
      cases h9
  | iastore =>
    obtain ⟨k, j, x, r, -, h9⟩ := cd_rii_e h
    obtain ⟨-, h9⟩ := cd_if_e h9
    cases h9
  | lastore =>
    obtain ⟨k, j, x, r, -, h9⟩ := cd_ril_e h
    obtain ⟨-, h9⟩ := cd_if_e h9
    cases h9
  | bastore =>
    obtain ⟨k, j, x, r, -, h9⟩ := cd_rii_e h
    rcases cd_ite_e h9 with ⟨-, h9⟩ | ⟨-, h9⟩
    · cases h9
    · obtain ⟨-, h9⟩ := cd_if_e h9
      cases h9
  | arraylength =>
    obtain ⟨k, r, -, h9⟩ := cd_r1_e (f := fun k r => bif Nat.ble 1100 k then (if k < 1113 then cd_go (pc + len) (.int (Int32.ofNat (cd_sl.getD (k - 1100) 0)) :: r) M else none) else if 20 ≤ (cd_sh k).1 ∧ (cd_sh k).1 ≤ 23 then cd_go (pc + len) (.int (Int32.ofNat (cd_sh k).2) :: r) M else none) h
    cases hb : Nat.ble 1100 k with
    | true =>
      rw [hb] at h9
      obtain ⟨-, h9⟩ := cd_if_e (c := k < 1113) h9
      cases h9
    | false =>
      rw [hb] at h9
      obtain ⟨-, h9⟩ := cd_if_e (c := 20 ≤ (cd_sh k).1 ∧ (cd_sh k).1 ≤ 23) h9
      cases h9
  | getfield idx =>
    obtain ⟨k, r, -, h9⟩ := cd_r1_e (f := fun k r => cd_get y idx pc k r M) h
    unfold cd_get at h9
    cases hb : Nat.ble 1000 k with
    | true =>
      rw [hb] at h9
      obtain ⟨-, h9⟩ := cd_bif_e (c := Nat.beq (cd_own y) 12 && Nat.ble (k + 1) 1013) h9
      cases h8 : Nat.beq idx 9 with
      | true => rw [h8] at h9; cases h9
      | false =>
        rw [h8] at h9
        obtain ⟨-, h9⟩ := cd_bif_e (c := Nat.beq idx 15) h9
        cases h9
    | false =>
      rw [hb] at h9
      cases hq : cd_at2 cd_fl (cd_own y) idx with
      | some q9 =>
        obtain ⟨ci, sl, q9⟩ := q9
        rw [hq] at h9
        obtain ⟨-, h9⟩ := cd_if_e (c := (cd_sh k).1 = ci) h9
        cases h9
      | none =>
        rw [hq] at h9
        cases hq2 : cd_at2 cd_fn (cd_own y) idx with
        | none => rw [hq2] at h9; cases h9
        | some q9 =>
          obtain ⟨ci, sl⟩ := q9
          rw [hq2] at h9
          obtain ⟨-, h9⟩ := cd_if_e (c := (cd_sh k).1 = ci) h9
          cases h9
  | putfield idx =>
    obtain ⟨k, x, r, -, h9⟩ := cd_fi_e (f := fun k x r => cd_put y idx pc k x r M) h
    unfold cd_put at h9
    cases hq : cd_at2 cd_fl (cd_own y) idx with
    | some q9 =>
      obtain ⟨ci, sl, q9⟩ := q9
      rw [hq] at h9
      obtain ⟨-, -, e, -⟩ := cd_put2_e h9
      cases e
    | none =>
      rw [hq] at h9
      cases hq2 : cd_at2 cd_fn (cd_own y) idx with
      | none => rw [hq2] at h9; cases h9
      | some q9 =>
        obtain ⟨ci, sl⟩ := q9
        rw [hq2] at h9
        obtain ⟨-, -, e, -⟩ := cd_put2_e h9
        cases e
  | getstatic idx =>
    have h : (bif Nat.beq (cd_own y) 12 && Nat.beq idx 38 then cd_go (pc + len) (.int 1 :: st) M else bif Nat.beq (cd_own y) 12 && Nat.beq idx 1053 then cd_go (pc + len) (.ref 1200 :: st) M else none) = some (.inr (.inl q)) := h
    cases hb : Nat.beq (cd_own y) 12 && Nat.beq idx 38 with
    | true => rw [hb] at h; cases h
    | false =>
      rw [hb] at h
      obtain ⟨-, h9⟩ := cd_bif_e (c := Nat.beq (cd_own y) 12 && Nat.beq idx 1053) h
      cases h9
  | invokevirtual idx => exact absurd h hcall
  | invokestatic idx =>
    have h : (match cd_at2 cd_nat (cd_own y) idx with
      | some (n, _) => cd_math n st y pc M
      | none => cd_call y idx false st) = some (.inr (.inl q)) := h
    split at h
    · rename_i n q9 hq9
      unfold cd_math at h
      split at h
      · obtain ⟨x, z, r, -, h9⟩ := cd_i2_e h
        obtain ⟨-, h9⟩ := cd_bif_e h9
        cases h9
      · obtain ⟨x, z, r, -, h9⟩ := cd_i2_e h
        obtain ⟨-, h9⟩ := cd_bif_e h9
        cases h9
      · obtain ⟨x, r, -, h9⟩ := cd_i1_e h
        obtain ⟨-, h9⟩ := cd_bif_e h9
        cases h9
      · obtain ⟨k0, sp, k1, dp, n, r, -, h9⟩ := cd_cpyA_e h
        obtain ⟨-, h9⟩ := cd_bif_e h9
        obtain ⟨-, h9⟩ := cd_if_e h9
        rcases cd_ite_e h9 with ⟨-, h9⟩ | ⟨-, h9⟩
        · cases h9
        · obtain ⟨-, h9⟩ := cd_if_e h9
          cases h9
    · exact absurd h hcall
  | _ => cases h
theorem cd_ex_z : ∀ (n y pc : Nat) (ls : List (Option Value)) (st : List Value) (M : cd_M) (r : Option Value × cd_M), cd_mr.getD y none = some .boolean → cd_ex n y pc ls st M = some r → ∃ v : Int32, r.1 = some (.int v) ∧ (v = 0 ∨ v = 1)
  | 0, _, _, _, _, _, _, _, h => by cases h
  | n + 1, y, pc, ls, st, M, r, hy, h => by
    have ih := cd_ex_z n
    rw [cd_ex] at h
    cases ht : cd_tab y pc with
    | none => rw [ht] at h; cases h
    | some q =>
      obtain ⟨i, len⟩ := q
      rw [ht] at h
      dsimp only at h
      cases hloc : cd_loc i with
      | some q =>
        obtain ⟨o, t, k⟩ := q
        rw [hloc] at h
        cases o with
        | zero =>
          dsimp only at h
          cases hv : ls.getD k none with
          | none => rw [hv] at h; cases h
          | some v =>
            rw [hv] at h
            obtain ⟨hty, h2⟩ := cd_bif_e h
            exact ih _ _ _ _ _ _ hy h2
        | succ o =>
          dsimp only at h
          cases st with
          | nil => cases h
          | cons v st =>
            obtain ⟨hty, h2⟩ := cd_bif_e h
            exact ih _ _ _ _ _ _ hy h2
      | none =>
        rw [hloc] at h
        dsimp only at h
        cases hinc : cd_inc i with
        | some q =>
          obtain ⟨k, d⟩ := q
          rw [hinc] at h
          dsimp only at h
          cases hv : ls.getD k none with
          | none => rw [hv] at h; cases h
          | some v =>
            rw [hv] at h
            cases v with
            | int x =>
              obtain ⟨hb, h2⟩ := cd_bif_e h
              exact ih _ _ _ _ _ _ hy h2
            | _ => cases h
        | none =>
          rw [hinc] at h
          dsimp only at h
          cases ho : cd_oth y pc len i st M with
          | none => rw [ho] at h; cases h
          | some a =>
            rw [ho] at h
            cases a with
            | inl q =>
              obtain ⟨pc', st', M'⟩ := q
              exact ih _ _ _ _ _ _ hy h
            | inr a =>
              cases a with
              | inr q =>
                obtain ⟨yc, as, rs⟩ := q
                dsimp only at h
                cases hc : cd_ex n yc 0 (cd_ent yc as) [] M with
                | none => rw [hc] at h; cases h
                | some r1 =>
                  obtain ⟨v, M'⟩ := r1
                  rw [hc] at h
                  exact ih _ _ _ _ _ _ hy h
              | inl q =>
                have h : q = r := Option.some.inj h
                subst h
                exact cd_oth_z hy ho
/-- an end of a method that answers a boolean is 0 or 1 -/
theorem cd_oth_c {y pc len : Nat} {i : Instr} {st : List Value} {M : cd_M} {q : Option Value × cd_M} (hy : cd_mr.getD y none = some .char) (h : cd_oth y pc len i st M = some (.inr (.inl q))) : ∃ v : Int32, q.1 = some (.int v) ∧ narrow .char (.int v) = .int v := by
  have hgo : ∀ {pc' : Nat} {st' : List Value} {M' : cd_M}, ¬ cd_go pc' st' M' = some (.inr (.inl q)) := fun {_ _ _} z => by cases z
  have hcall : ∀ {idx : Nat} {vir : Bool}, ¬ cd_call y idx vir st = some (.inr (.inl q)) := by
    intro idx vir z
    unfold cd_call at z
    split at z
    · dsimp only at z
      obtain ⟨-, z⟩ := cd_bif_e z
      cases z
    · cases z
  cases i with
  | ireturn =>
    cases st with
    | nil => cases h
    | cons v r =>
      cases v with
      | int v =>
        cases r with
        | cons w r => cases h
        | nil =>
          have h : ((match cd_mr.getD y none with
            | some .int => some (.inr (.inl (some (.int v), M)))
            | some .boolean => if v = 0 ∨ v = 1 then some (.inr (.inl (some (.int v), M))) else none
            | some .char => if narrow .char (.int v) = .int v then some (.inr (.inl (some (.int v), M))) else none
            | some .byte => if narrow .byte (.int v) = .int v then some (.inr (.inl (some (.int v), M))) else none
            | _ => none) : Option cd_A) = some (.inr (.inl q)) := h
          rw [hy] at h
          obtain ⟨hv, h⟩ := cd_if_e (c := narrow .char (.int v) = .int v) h
          cases h
          exact ⟨v, rfl, hv⟩
      | _ => cases r <;> cases h
  | lreturn =>
    cases st with
    | nil => cases h
    | cons v r =>
      cases v with
      | long v =>
        cases r with
        | cons w r => cases h
        | nil =>
          have h : ((match cd_mr.getD y none with
            | some .long => some (.inr (.inl (some (.long v), M)))
            | _ => none) : Option cd_A) = some (.inr (.inl q)) := h
          rw [hy] at h
          cases h
      | _ => cases r <;> cases h
  | areturn =>
    cases st with
    | nil => cases h
    | cons v r =>
      cases v with
      | ref v =>
        cases r with
        | cons w r => cases h
        | nil =>
          have h : ((match cd_mr.getD y none with
            | some (.object _) => some (.inr (.inl (some (.ref v), M)))
            | _ => none) : Option cd_A) = some (.inr (.inl q)) := h
          rw [hy] at h
          cases h
      | _ => cases r <;> cases h
  | return_ =>
    cases st with
    | cons v r => cases h
    | nil =>
      have h : ((match cd_mr.getD y none with
        | none => bif Nat.ble y 244 then some (.inr (.inl (none, M))) else none
        | _ => none) : Option cd_A) = some (.inr (.inl q)) := h
      rw [hy] at h
      cases h
  | ineg =>
    obtain ⟨x, r, -, h9⟩ := cd_i1_e h
    cases h9
  | i2l =>
    obtain ⟨x, r, -, h9⟩ := cd_i1_e h
    cases h9
  | i2b =>
    obtain ⟨x, r, -, h9⟩ := cd_i1_e h
    cases h9
  | i2c =>
    obtain ⟨x, r, -, h9⟩ := cd_i1_e h
    cases h9
  | iadd =>
    obtain ⟨x, z, r, -, h9⟩ := cd_i2_e h
    cases h9
  | isub =>
    obtain ⟨x, z, r, -, h9⟩ := cd_i2_e h
    cases h9
  | imul =>
    obtain ⟨x, z, r, -, h9⟩ := cd_i2_e h
    cases h9
  | iand =>
    obtain ⟨x, z, r, -, h9⟩ := cd_i2_e h
    cases h9
  | ior =>
    obtain ⟨x, z, r, -, h9⟩ := cd_i2_e h
    cases h9
  | ishl =>
    obtain ⟨x, z, r, -, h9⟩ := cd_i2_e h
    cases h9
  | ishr =>
    obtain ⟨x, z, r, -, h9⟩ := cd_i2_e h
    cases h9
  | iushr =>
    obtain ⟨x, z, r, -, h9⟩ := cd_i2_e h
    cases h9
  | l2i =>
    obtain ⟨x, r, -, h9⟩ := cd_l1_e h
    cases h9
  | land =>
    obtain ⟨x, z, r, -, h9⟩ := cd_l2_e h
    cases h9
  | lor =>
    obtain ⟨x, z, r, -, h9⟩ := cd_l2_e h
    cases h9
  | lxor =>
    obtain ⟨x, z, r, -, h9⟩ := cd_l2_e h
    cases h9
  | lcmp =>
    obtain ⟨x, z, r, -, h9⟩ := cd_l2_e h
    cases h9
  | lshl =>
    obtain ⟨x, z, r, -, h9⟩ := cd_li_e h
    cases h9
  | lushr =>
    obtain ⟨x, z, r, -, h9⟩ := cd_li_e h
    cases h9
  | idiv =>
    obtain ⟨x, z, r, -, h9⟩ := cd_i2_e h
    obtain ⟨-, h9⟩ := cd_ifn_e h9
    cases h9
  | irem =>
    obtain ⟨x, z, r, -, h9⟩ := cd_i2_e h
    obtain ⟨-, h9⟩ := cd_ifn_e h9
    cases h9
  | iconst n => cases h
  | bipush n => cases h
  | sipush n => cases h
  | lconst n => cases h
  | ldc n =>
    have h : (match cd_at2 cd_kI (cd_own y) n with
      | some (v, _) => cd_go (pc + len) (.int v :: st) M
      | none => match cd_at2 cd_strI (cd_own y) n with
        | some j => cd_go (pc + len) (.ref (1000 + j) :: st) M
        | none => none) = some (.inr (.inl q)) := h
    split at h
    · exact absurd h hgo
    · split at h
      · exact absurd h hgo
      · cases h
  | ldc_w n =>
    have h : (match cd_at2 cd_kI (cd_own y) n with
      | some (v, _) => cd_go (pc + len) (.int v :: st) M
      | none => none) = some (.inr (.inl q)) := h
    split at h
    · exact absurd h hgo
    · cases h
  | ldc2_w n =>
    have h : (match cd_at2 cd_kL (cd_own y) n with
      | some (v, _) => cd_go (pc + len) (.long v :: st) M
      | none => none) = some (.inr (.inl q)) := h
    split at h
    · exact absurd h hgo
    · cases h
  | goto off =>
    obtain ⟨t, -, h9⟩ := cd_to_e (f := fun t => cd_go t st M) h
    cases h9
  | ifCond cnd off =>
    cases cnd with
    | eq =>
      obtain ⟨x, r, -, h9⟩ := cd_i1_e (f := fun a r => cd_to pc off fun t => if a = 0 then cd_go t r M else cd_go (pc + len) r M) h
      obtain ⟨t, -, h9⟩ := cd_to_e h9
      rcases cd_ite_e h9 with ⟨-, h9⟩ | ⟨-, h9⟩ <;> cases h9
    | ne =>
      obtain ⟨x, r, -, h9⟩ := cd_i1_e (f := fun a r => cd_to pc off fun t => if a = 0 then cd_go (pc + len) r M else cd_go t r M) h
      obtain ⟨t, -, h9⟩ := cd_to_e h9
      rcases cd_ite_e h9 with ⟨-, h9⟩ | ⟨-, h9⟩ <;> cases h9
    | lt =>
      obtain ⟨x, r, -, h9⟩ := cd_i1_e (f := fun a r => cd_to pc off fun t => if a < 0 then cd_go t r M else cd_go (pc + len) r M) h
      obtain ⟨t, -, h9⟩ := cd_to_e h9
      rcases cd_ite_e h9 with ⟨-, h9⟩ | ⟨-, h9⟩ <;> cases h9
    | ge =>
      obtain ⟨x, r, -, h9⟩ := cd_i1_e (f := fun a r => cd_to pc off fun t => if 0 ≤ a then cd_go t r M else cd_go (pc + len) r M) h
      obtain ⟨t, -, h9⟩ := cd_to_e h9
      rcases cd_ite_e h9 with ⟨-, h9⟩ | ⟨-, h9⟩ <;> cases h9
    | gt =>
      obtain ⟨x, r, -, h9⟩ := cd_i1_e (f := fun a r => cd_to pc off fun t => if 0 < a then cd_go t r M else cd_go (pc + len) r M) h
      obtain ⟨t, -, h9⟩ := cd_to_e h9
      rcases cd_ite_e h9 with ⟨-, h9⟩ | ⟨-, h9⟩ <;> cases h9
    | le =>
      obtain ⟨x, r, -, h9⟩ := cd_i1_e (f := fun a r => cd_to pc off fun t => if a ≤ 0 then cd_go t r M else cd_go (pc + len) r M) h
      obtain ⟨t, -, h9⟩ := cd_to_e h9
      rcases cd_ite_e h9 with ⟨-, h9⟩ | ⟨-, h9⟩ <;> cases h9
  | if_icmp cnd off =>
    cases cnd with
    | eq =>
      obtain ⟨x, z, r, -, h9⟩ := cd_i2_e (f := fun a b r => cd_to pc off fun t => if a = b then cd_go t r M else cd_go (pc + len) r M) h
      obtain ⟨t, -, h9⟩ := cd_to_e h9
      rcases cd_ite_e h9 with ⟨-, h9⟩ | ⟨-, h9⟩ <;> cases h9
    | ne =>
      obtain ⟨x, z, r, -, h9⟩ := cd_i2_e (f := fun a b r => cd_to pc off fun t => if a = b then cd_go (pc + len) r M else cd_go t r M) h
      obtain ⟨t, -, h9⟩ := cd_to_e h9
      rcases cd_ite_e h9 with ⟨-, h9⟩ | ⟨-, h9⟩ <;> cases h9
    | lt =>
      obtain ⟨x, z, r, -, h9⟩ := cd_i2_e (f := fun a b r => cd_to pc off fun t => if a < b then cd_go t r M else cd_go (pc + len) r M) h
      obtain ⟨t, -, h9⟩ := cd_to_e h9
      rcases cd_ite_e h9 with ⟨-, h9⟩ | ⟨-, h9⟩ <;> cases h9
    | ge =>
      obtain ⟨x, z, r, -, h9⟩ := cd_i2_e (f := fun a b r => cd_to pc off fun t => if b ≤ a then cd_go t r M else cd_go (pc + len) r M) h
      obtain ⟨t, -, h9⟩ := cd_to_e h9
      rcases cd_ite_e h9 with ⟨-, h9⟩ | ⟨-, h9⟩ <;> cases h9
    | gt =>
      obtain ⟨x, z, r, -, h9⟩ := cd_i2_e (f := fun a b r => cd_to pc off fun t => if b < a then cd_go t r M else cd_go (pc + len) r M) h
      obtain ⟨t, -, h9⟩ := cd_to_e h9
      rcases cd_ite_e h9 with ⟨-, h9⟩ | ⟨-, h9⟩ <;> cases h9
    | le =>
      obtain ⟨x, z, r, -, h9⟩ := cd_i2_e (f := fun a b r => cd_to pc off fun t => if a ≤ b then cd_go t r M else cd_go (pc + len) r M) h
      obtain ⟨t, -, h9⟩ := cd_to_e h9
      rcases cd_ite_e h9 with ⟨-, h9⟩ | ⟨-, h9⟩ <;> cases h9
  | tableswitch dflt lo hi offs =>
    obtain ⟨x, r, -, h9⟩ := cd_i1_e h
    rcases cd_ite_e h9 with ⟨hz, h9⟩ | ⟨hz, h9⟩
    · obtain ⟨t, ht, h9⟩ := cd_to_e h9
      cases h9
    · cases ho : offs[(x.toInt - lo).toNat]? with
      | none => rw [ho] at h9; cases h9
      | some off =>
        rw [ho] at h9
        obtain ⟨t, ht, h9⟩ := cd_to_e h9
        cases h9
  | dup =>
    cases st with
    | nil => cases h
    | cons v r =>
      obtain ⟨-, h9⟩ := cd_if_e (c := v.category = 1) h
      cases h9
  | pop =>
    cases st with
    | nil => cases h
    | cons v r =>
      obtain ⟨-, h9⟩ := cd_if_e (c := v.category = 1) h
      cases h9
  | dup2 =>
    cases st with
    | nil => cases h
    | cons v r =>
      cases r with
      | nil => cases h
      | cons w r =>
        obtain ⟨-, h9⟩ := cd_if_e (c := v.category = 1 ∧ w.category = 1) h
        cases h9
  | iaload =>
    obtain ⟨k, j, r, -, h9⟩ := cd_ri_e h
    obtain ⟨-, h9⟩ := cd_if_e h9
    cases h9
  | laload =>
    obtain ⟨k, j, r, -, h9⟩ := cd_ri_e h
    obtain ⟨-, h9⟩ := cd_if_e h9
    cases h9
  | baload =>
    obtain ⟨k, j, r, -, h9⟩ := cd_ri_e (f := fun k j r => bif Nat.ble 1100 k then (if k < 1113 ∧ cd_in j (cd_sl.getD (k - 1100) 0) = true then cd_go (pc + len) (.int (cd_sbyte k j) :: r) M else none) else if ((cd_sh k).1 = 22 ∨ (cd_sh k).1 = 23) ∧ cd_in j (cd_sh k).2 = true then cd_go (pc + len) (.int (M.1 k j.toNatClampNeg) :: r) M else none) h
    cases hb : Nat.ble 1100 k with
    | true =>
      rw [hb] at h9
      obtain ⟨-, h9⟩ := cd_if_e (c := k < 1113 ∧ cd_in j (cd_sl.getD (k - 1100) 0) = true) h9
      cases h9
    | false =>
      rw [hb] at h9
      obtain ⟨-, h9⟩ := cd_if_e (c := ((cd_sh k).1 = 22 ∨ (cd_sh k).1 = 23) ∧ cd_in j (cd_sh k).2 = true) h9
      cases h9
  | iastore =>
    obtain ⟨k, j, x, r, -, h9⟩ := cd_rii_e h
    obtain ⟨-, h9⟩ := cd_if_e h9
    cases h9
  | lastore =>
    obtain ⟨k, j, x, r, -, h9⟩ := cd_ril_e h
    obtain ⟨-, h9⟩ := cd_if_e h9
    cases h9
  | bastore =>
    obtain ⟨k, j, x, r, -, h9⟩ := cd_rii_e h
    rcases cd_ite_e h9 with ⟨-, h9⟩ | ⟨-, h9⟩
    · cases h9
    · obtain ⟨-, h9⟩ := cd_if_e h9
      cases h9
  | arraylength =>
    obtain ⟨k, r, -, h9⟩ := cd_r1_e (f := fun k r => bif Nat.ble 1100 k then (if k < 1113 then cd_go (pc + len) (.int (Int32.ofNat (cd_sl.getD (k - 1100) 0)) :: r) M else none) else if 20 ≤ (cd_sh k).1 ∧ (cd_sh k).1 ≤ 23 then cd_go (pc + len) (.int (Int32.ofNat (cd_sh k).2) :: r) M else none) h
    cases hb : Nat.ble 1100 k with
    | true =>
      rw [hb] at h9
      obtain ⟨-, h9⟩ := cd_if_e (c := k < 1113) h9
      cases h9
    | false =>
      rw [hb] at h9
      obtain ⟨-, h9⟩ := cd_if_e (c := 20 ≤ (cd_sh k).1 ∧ (cd_sh k).1 ≤ 23) h9
      cases h9
  | getfield idx =>
    obtain ⟨k, r, -, h9⟩ := cd_r1_e (f := fun k r => cd_get y idx pc k r M) h
    unfold cd_get at h9
    cases hb : Nat.ble 1000 k with
    | true =>
      rw [hb] at h9
      obtain ⟨-, h9⟩ := cd_bif_e (c := Nat.beq (cd_own y) 12 && Nat.ble (k + 1) 1013) h9
      cases h8 : Nat.beq idx 9 with
      | true => rw [h8] at h9; cases h9
      | false =>
        rw [h8] at h9
        obtain ⟨-, h9⟩ := cd_bif_e (c := Nat.beq idx 15) h9
        cases h9
    | false =>
      rw [hb] at h9
      cases hq : cd_at2 cd_fl (cd_own y) idx with
      | some q9 =>
        obtain ⟨ci, sl, q9⟩ := q9
        rw [hq] at h9
        obtain ⟨-, h9⟩ := cd_if_e (c := (cd_sh k).1 = ci) h9
        cases h9
      | none =>
        rw [hq] at h9
        cases hq2 : cd_at2 cd_fn (cd_own y) idx with
        | none => rw [hq2] at h9; cases h9
        | some q9 =>
          obtain ⟨ci, sl⟩ := q9
          rw [hq2] at h9
          obtain ⟨-, h9⟩ := cd_if_e (c := (cd_sh k).1 = ci) h9
          cases h9
  | putfield idx =>
    obtain ⟨k, x, r, -, h9⟩ := cd_fi_e (f := fun k x r => cd_put y idx pc k x r M) h
    unfold cd_put at h9
    cases hq : cd_at2 cd_fl (cd_own y) idx with
    | some q9 =>
      obtain ⟨ci, sl, q9⟩ := q9
      rw [hq] at h9
      obtain ⟨-, -, e, -⟩ := cd_put2_e h9
      cases e
    | none =>
      rw [hq] at h9
      cases hq2 : cd_at2 cd_fn (cd_own y) idx with
      | none => rw [hq2] at h9; cases h9
      | some q9 =>
        obtain ⟨ci, sl⟩ := q9
        rw [hq2] at h9
        obtain ⟨-, -, e, -⟩ := cd_put2_e h9
        cases e
  | getstatic idx =>
    have h : (bif Nat.beq (cd_own y) 12 && Nat.beq idx 38 then cd_go (pc + len) (.int 1 :: st) M else bif Nat.beq (cd_own y) 12 && Nat.beq idx 1053 then cd_go (pc + len) (.ref 1200 :: st) M else none) = some (.inr (.inl q)) := h
    cases hb : Nat.beq (cd_own y) 12 && Nat.beq idx 38 with
    | true => rw [hb] at h; cases h
    | false =>
      rw [hb] at h
      obtain ⟨-, h9⟩ := cd_bif_e (c := Nat.beq (cd_own y) 12 && Nat.beq idx 1053) h
      cases h9
  | invokevirtual idx => exact absurd h hcall
  | invokestatic idx =>
    have h : (match cd_at2 cd_nat (cd_own y) idx with
      | some (n, _) => cd_math n st y pc M
      | none => cd_call y idx false st) = some (.inr (.inl q)) := h
    split at h
    · rename_i n q9 hq9
      unfold cd_math at h
      split at h
      · obtain ⟨x, z, r, -, h9⟩ := cd_i2_e h
        obtain ⟨-, h9⟩ := cd_bif_e h9
        cases h9
      · obtain ⟨x, z, r, -, h9⟩ := cd_i2_e h
        obtain ⟨-, h9⟩ := cd_bif_e h9
        cases h9
      · obtain ⟨x, r, -, h9⟩ := cd_i1_e h
        obtain ⟨-, h9⟩ := cd_bif_e h9
        cases h9
      · obtain ⟨k0, sp, k1, dp, n, r, -, h9⟩ := cd_cpyA_e h
        obtain ⟨-, h9⟩ := cd_bif_e h9
        obtain ⟨-, h9⟩ := cd_if_e h9
        rcases cd_ite_e h9 with ⟨-, h9⟩ | ⟨-, h9⟩
        · cases h9
        · obtain ⟨-, h9⟩ := cd_if_e h9
          cases h9
    · exact absurd h hcall
  | _ => cases h
theorem cd_ex_c : ∀ (n y pc : Nat) (ls : List (Option Value)) (st : List Value) (M : cd_M) (r : Option Value × cd_M), cd_mr.getD y none = some .char → cd_ex n y pc ls st M = some r → ∃ v : Int32, r.1 = some (.int v) ∧ narrow .char (.int v) = .int v
  | 0, _, _, _, _, _, _, _, h => by cases h
  | n + 1, y, pc, ls, st, M, r, hy, h => by
    have ih := cd_ex_c n
    rw [cd_ex] at h
    cases ht : cd_tab y pc with
    | none => rw [ht] at h; cases h
    | some q =>
      obtain ⟨i, len⟩ := q
      rw [ht] at h
      dsimp only at h
      cases hloc : cd_loc i with
      | some q =>
        obtain ⟨o, t, k⟩ := q
        rw [hloc] at h
        cases o with
        | zero =>
          dsimp only at h
          cases hv : ls.getD k none with
          | none => rw [hv] at h; cases h
          | some v =>
            rw [hv] at h
            obtain ⟨hty, h2⟩ := cd_bif_e h
            exact ih _ _ _ _ _ _ hy h2
        | succ o =>
          dsimp only at h
          cases st with
          | nil => cases h
          | cons v st =>
            obtain ⟨hty, h2⟩ := cd_bif_e h
            exact ih _ _ _ _ _ _ hy h2
      | none =>
        rw [hloc] at h
        dsimp only at h
        cases hinc : cd_inc i with
        | some q =>
          obtain ⟨k, d⟩ := q
          rw [hinc] at h
          dsimp only at h
          cases hv : ls.getD k none with
          | none => rw [hv] at h; cases h
          | some v =>
            rw [hv] at h
            cases v with
            | int x =>
              obtain ⟨hb, h2⟩ := cd_bif_e h
              exact ih _ _ _ _ _ _ hy h2
            | _ => cases h
        | none =>
          rw [hinc] at h
          dsimp only at h
          cases ho : cd_oth y pc len i st M with
          | none => rw [ho] at h; cases h
          | some a =>
            rw [ho] at h
            cases a with
            | inl q =>
              obtain ⟨pc', st', M'⟩ := q
              exact ih _ _ _ _ _ _ hy h
            | inr a =>
              cases a with
              | inr q =>
                obtain ⟨yc, as, rs⟩ := q
                dsimp only at h
                cases hc : cd_ex n yc 0 (cd_ent yc as) [] M with
                | none => rw [hc] at h; cases h
                | some r1 =>
                  obtain ⟨v, M'⟩ := r1
                  rw [hc] at h
                  exact ih _ _ _ _ _ _ hy h
              | inl q =>
                have h : q = r := Option.some.inj h
                subst h
                exact cd_oth_c hy ho
def cd_u2 {α : Type} (f : Int32 → cd_M → α) (q : Int32 × cd_M) : α := f q.1 q.2
section cdN
variable {y pc : Nat} {ls : List (Option Value)} {st : List Value} {M : cd_M} {o : cd_RT}
theorem q_none {α : Type} (W : Option α → cd_RT) (hW : W none = none) : cd_R y pc ls st M (W none) := by rw [hW]; exact r_none
theorem q_wr {α : Type} (W : α → cd_RT) (i : Instr) (len : Nat) (ht : cd_tab y pc = some (i, len)) (hl : cd_loc i = none) (hi : cd_inc i = none) (pc' : Nat) (st' : List Value) (M' : cd_M) (ho : cd_oth y pc len i st M = some (.inl (pc', st', M'))) {K : cd_M → α} (k : ∀ M1, cd_R y pc' ls st' M1 (W (K M1))) : cd_R y pc ls st M (W (cd_lt M' K)) := r_wr i len ht hl hi pc' st' M' ho (K := fun M1 => W (K M1)) k
theorem q_br {α : Type} (W : α → cd_RT) (i : Instr) (len : Nat) (ht : cd_tab y pc = some (i, len)) (hl : cd_loc i = none) (hi : cd_inc i = none) (c : Prop) [Decidable c] (t f : Nat) (st' : List Value) (ho : cd_oth y pc len i st M = if c then cd_go t st' M else cd_go f st' M) {a b : α} (kt : c → cd_R y t ls st' M (W a)) (kf : ¬ c → cd_R y f ls st' M (W b)) : cd_R y pc ls st M (W (if c then a else b)) := by
  by_cases hc : c
  · rw [if_pos hc] at ho ⊢
    exact r_go i len ht hl hi t st' ho (kt hc)
  · rw [if_neg hc] at ho ⊢
    exact r_go i len ht hl hi f st' ho (kf hc)
theorem q_or {α : Type} (W : α → cd_RT) (c : Prop) [Decidable c] {a b : α} (kt : c → cd_R y pc ls st M (W a)) (kf : ¬ c → cd_R y pc ls st M (W b)) : cd_R y pc ls st M (W (if c then a else b)) := by
  by_cases hc : c
  · rw [if_pos hc]
    exact kt hc
  · rw [if_neg hc]
    exact kf hc
theorem q_stB {α : Type} (W : α → cd_RT) (i : Instr) (len t k : Nat) {x : Int32} (ht : cd_tab y pc = some (i, len)) (hl : cd_loc i = some (1, t, k)) (hty : ∀ x : Int32, (Nat.beq (cd_ty (.int x)) t && Nat.ble (k + (Value.int x).category) ls.length) = true) (pc' : Nat) (hp : pc + len = pc') (ls' : Int32 → List (Option Value)) (hs : ∀ x, cd_sto ls k (.int x) = ls' x) {K : Int32 → α} (kk : ∀ x, cd_R y pc' (ls' x) st M (W (K x))) : cd_R y pc ls (.int x :: st) M (W (cd_lt x K)) := r_st i len t k ht hl (hty x) pc' hp (ls' x) (hs x) (kk x)
theorem q_stBL {α : Type} (W : α → cd_RT) (i : Instr) (len t k : Nat) {x : Int64} (ht : cd_tab y pc = some (i, len)) (hl : cd_loc i = some (1, t, k)) (hty : ∀ x : Int64, (Nat.beq (cd_ty (.long x)) t && Nat.ble (k + (Value.long x).category) ls.length) = true) (pc' : Nat) (hp : pc + len = pc') (ls' : Int64 → List (Option Value)) (hs : ∀ x, cd_sto ls k (.long x) = ls' x) {K : Int64 → α} (kk : ∀ x, cd_R y pc' (ls' x) st M (W (K x))) : cd_R y pc ls (.long x :: st) M (W (cd_lt x K)) := r_st i len t k ht hl (hty x) pc' hp (ls' x) (hs x) (kk x)
theorem q_inc {α : Type} (W : α → cd_RT) (k : Nat) (d : Int) (x : Int32) (ht : cd_tab y pc = some (.iinc k d, 3)) (hv : ls.getD k none = some (.int x)) (hk : Nat.ble (k + 1) ls.length = true) (pc' : Nat) (hp : pc + 3 = pc') (d' : Int32) (hd : Int32.ofInt d = d') (ls' : Int32 → List (Option Value)) (hs : ∀ x, cd_sto ls k (.int x) = ls' x) {K : Int32 → α} (kk : ∀ x, cd_R y pc' (ls' x) st M (W (K x))) : cd_R y pc ls st M (W (cd_lt (x + d') K)) := r_inc k d x ht hv hk pc' hp d' hd ls' hs (K := fun x => W (K x)) kk
theorem q_const (i : Instr) (len : Nat) (ht : cd_tab y pc = some (i, len)) (hl : cd_loc i = none) (hi : cd_inc i = none) (pc' : Nat) (v v' : Int32) (ho : cd_oth y pc len i st M = some (.inl (pc', .int v' :: st, M))) (hv : v' = v) (k : cd_R y pc' ls (.int v :: st) M o) : cd_R y pc ls st M o := r_go i len ht hl hi pc' _ ho (hv ▸ k)
/-- rows -/
theorem q_iald {β : Type} (W : Option β → cd_RT) (hW : W none = none) (ht : cd_tab y pc = some (.iaload, 1)) (k n : Nat) (hk : cd_sh k = (20, n)) {j : Int32} {x : Option β} (kk : cd_R y (pc + 1) ls (.int (M.1 k j.toNatClampNeg) :: st) M (W x)) : cd_R y pc ls (.int j :: .ref k :: st) M (W (if cd_in j n = true then x else none)) := by
  by_cases hc : cd_in j n = true
  · rw [if_pos hc]
    exact r_go .iaload 1 ht rfl rfl (pc + 1) _ (if_pos ⟨by rw [hk], by rw [hk]; exact hc⟩) kk
  · rw [if_neg hc]; exact q_none W hW
theorem q_lald {β : Type} (W : Option β → cd_RT) (hW : W none = none) (ht : cd_tab y pc = some (.laload, 1)) (k n : Nat) (hk : cd_sh k = (21, n)) {j : Int32} {x : Option β} (kk : cd_R y (pc + 1) ls (.long (M.2 k j.toNatClampNeg) :: st) M (W x)) : cd_R y pc ls (.int j :: .ref k :: st) M (W (if cd_in j n = true then x else none)) := by
  by_cases hc : cd_in j n = true
  · rw [if_pos hc]
    exact r_go .laload 1 ht rfl rfl (pc + 1) _ (if_pos ⟨by rw [hk], by rw [hk]; exact hc⟩) kk
  · rw [if_neg hc]; exact q_none W hW
theorem q_bald {β : Type} (W : Option β → cd_RT) (hW : W none = none) (ht : cd_tab y pc = some (.baload, 1)) (k n t : Nat) (hk : cd_sh k = (t, n)) (hb : Nat.ble 1100 k = false) (hk2 : t = 22 ∨ t = 23) {j : Int32} {x : Option β} (kk : cd_R y (pc + 1) ls (.int (M.1 k j.toNatClampNeg) :: st) M (W x)) : cd_R y pc ls (.int j :: .ref k :: st) M (W (if cd_in j n = true then x else none)) := by
  by_cases hc : cd_in j n = true
  · rw [if_pos hc]
    refine r_go .baload 1 ht rfl rfl (pc + 1) _ ?_ kk
    show (bif Nat.ble 1100 k then (if k < 1113 ∧ cd_in j (cd_sl.getD (k - 1100) 0) = true then cd_go (pc + 1) (.int (cd_sbyte k j) :: st) M else none)
      else if ((cd_sh k).1 = 22 ∨ (cd_sh k).1 = 23) ∧ cd_in j (cd_sh k).2 = true then cd_go (pc + 1) (.int (M.1 k j.toNatClampNeg) :: st) M else none) = _
    rw [hb]
    exact if_pos ⟨by rw [hk]; exact hk2, by rw [hk]; exact hc⟩
  · rw [if_neg hc]; exact q_none W hW
theorem q_sbald {β : Type} (W : Option β → cd_RT) (hW : W none = none) (ht : cd_tab y pc = some (.baload, 1)) (k n : Nat) (hn : cd_sl.getD (k - 1100) 0 = n) (hb : Nat.ble 1100 k = true) (hk : k < 1113) {j : Int32} {x : Option β} (kk : cd_R y (pc + 1) ls (.int (cd_sbyte k j) :: st) M (W x)) : cd_R y pc ls (.int j :: .ref k :: st) M (W (if cd_in j n = true then x else none)) := by
  by_cases hc : cd_in j n = true
  · rw [if_pos hc]
    refine r_go .baload 1 ht rfl rfl (pc + 1) _ ?_ kk
    show (bif Nat.ble 1100 k then (if k < 1113 ∧ cd_in j (cd_sl.getD (k - 1100) 0) = true then cd_go (pc + 1) (.int (cd_sbyte k j) :: st) M else none)
      else if ((cd_sh k).1 = 22 ∨ (cd_sh k).1 = 23) ∧ cd_in j (cd_sh k).2 = true then cd_go (pc + 1) (.int (M.1 k j.toNatClampNeg) :: st) M else none) = _
    rw [hb]
    exact if_pos ⟨hk, by rw [hn]; exact hc⟩
  · rw [if_neg hc]; exact q_none W hW
theorem q_iast {β : Type} (W : Option β → cd_RT) (hW : W none = none) (ht : cd_tab y pc = some (.iastore, 1)) (k n : Nat) (hk : cd_sh k = (20, n)) {j x : Int32} {K : cd_M → Option β} (kk : ∀ M1, cd_R y (pc + 1) ls st M1 (W (K M1))) : cd_R y pc ls (.int x :: .int j :: .ref k :: st) M (W (if cd_in j n = true then cd_lt (cd_wI M k j.toNatClampNeg x) K else none)) := by
  by_cases hc : cd_in j n = true
  · rw [if_pos hc]
    refine q_wr W .iastore 1 ht rfl rfl (pc + 1) st _ ?_ kk
    exact if_pos ⟨by rw [hk], by rw [hk]; exact hc⟩
  · rw [if_neg hc]; exact q_none W hW
theorem q_last {β : Type} (W : Option β → cd_RT) (hW : W none = none) (ht : cd_tab y pc = some (.lastore, 1)) (k n : Nat) (hk : cd_sh k = (21, n)) {j : Int32} {x : Int64} {K : cd_M → Option β} (kk : ∀ M1, cd_R y (pc + 1) ls st M1 (W (K M1))) : cd_R y pc ls (.long x :: .int j :: .ref k :: st) M (W (if cd_in j n = true then cd_lt (cd_wL M k j.toNatClampNeg x) K else none)) := by
  by_cases hc : cd_in j n = true
  · rw [if_pos hc]
    refine q_wr W .lastore 1 ht rfl rfl (pc + 1) st _ ?_ kk
    exact if_pos ⟨by rw [hk], by rw [hk]; exact hc⟩
  · rw [if_neg hc]; exact q_none W hW
theorem q_bast {β : Type} (W : Option β → cd_RT) (hW : W none = none) (ht : cd_tab y pc = some (.bastore, 1)) (k n : Nat) (hk : cd_sh k = (22, n)) {j x : Int32} {K : cd_M → Option β} (kk : ∀ M1, cd_R y (pc + 1) ls st M1 (W (K M1))) : cd_R y pc ls (.int x :: .int j :: .ref k :: st) M (W (if cd_in j n = true then cd_lt (cd_wI M k j.toNatClampNeg (vp_nar .byte x)) K else none)) := by
  by_cases hc : cd_in j n = true
  · rw [if_pos hc]
    refine q_wr W .bastore 1 ht rfl rfl (pc + 1) st _ ?_ kk
    exact if_pos ⟨by rw [hk], by rw [hk]; exact hc⟩
  · rw [if_neg hc]; exact q_none W hW
theorem q_zast {β : Type} (W : Option β → cd_RT) (hW : W none = none) (ht : cd_tab y pc = some (.bastore, 1)) (k n : Nat) (hk : cd_sh k = (23, n)) {j x : Int32} {K : cd_M → Option β} (kk : ∀ M1, cd_R y (pc + 1) ls st M1 (W (K M1))) : cd_R y pc ls (.int x :: .int j :: .ref k :: st) M (W (if cd_in j n = true then cd_lt (cd_wI M k j.toNatClampNeg (vp_nar .boolean x)) K else none)) := by
  by_cases hc : cd_in j n = true
  · rw [if_pos hc]
    refine q_wr W .bastore 1 ht rfl rfl (pc + 1) st _ ?_ kk
    show (if (cd_sh k).1 = 22 ∧ cd_in j (cd_sh k).2 = true then cd_go (pc + 1) st (cd_wI M k j.toNatClampNeg (vp_nar .byte x))
      else if (cd_sh k).1 = 23 ∧ cd_in j (cd_sh k).2 = true then cd_go (pc + 1) st (cd_wI M k j.toNatClampNeg (vp_nar .boolean x)) else none) = _
    rw [if_neg (by rw [hk]; exact fun z => absurd (show 23 = 22 from z.1) (by decide)), if_pos ⟨by rw [hk], by rw [hk]; exact hc⟩]
    rfl
  · rw [if_neg hc]; exact q_none W hW
theorem q_div {β : Type} (W : Option β → cd_RT) (hW : W none = none) (ht : cd_tab y pc = some (.idiv, 1)) {a b : Int32} {x : Option β} (kk : cd_R y (pc + 1) ls (.int (a / b) :: st) M (W x)) : cd_R y pc ls (.int b :: .int a :: st) M (W (if b = 0 then none else x)) := by
  by_cases hc : b = 0
  · rw [if_pos hc]; exact q_none W hW
  · rw [if_neg hc]
    exact r_go .idiv 1 ht rfl rfl (pc + 1) _ (if_neg hc) kk
theorem q_rem {β : Type} (W : Option β → cd_RT) (hW : W none = none) (ht : cd_tab y pc = some (.irem, 1)) {a b : Int32} {x : Option β} (kk : cd_R y (pc + 1) ls (.int (a - a / b * b) :: st) M (W x)) : cd_R y pc ls (.int b :: .int a :: st) M (W (if b = 0 then none else x)) := by
  by_cases hc : b = 0
  · rw [if_pos hc]; exact q_none W hW
  · rw [if_neg hc]
    exact r_go .irem 1 ht rfl rfl (pc + 1) _ (if_neg hc) kk
theorem q_divK (ht : cd_tab y pc = some (.idiv, 1)) {a b : Int32} (hb : ¬ b = 0) (kk : cd_R y (pc + 1) ls (.int (a / b) :: st) M o) : cd_R y pc ls (.int b :: .int a :: st) M o := r_go .idiv 1 ht rfl rfl (pc + 1) _ (if_neg hb) kk
theorem q_remK (ht : cd_tab y pc = some (.irem, 1)) {a b : Int32} (hb : ¬ b = 0) (kk : cd_R y (pc + 1) ls (.int (a - a / b * b) :: st) M o) : cd_R y pc ls (.int b :: .int a :: st) M o := r_go .irem 1 ht rfl rfl (pc + 1) _ (if_neg hb) kk
abbrev cd_cpOK (sp dp n : Int32) (n0 n1 : Nat) : Prop := ¬ sp < 0 ∧ ¬ dp < 0 ∧ ¬ n < 0 ∧ sp.toNatClampNeg + n.toNatClampNeg ≤ n0 ∧ dp.toNatClampNeg + n.toNatClampNeg ≤ n1
theorem q_cpy {β : Type} (W : Option β → cd_RT) (hW : W none = none) (i : Instr) (ht : cd_tab y pc = some (i, 3)) (hl : cd_loc i = none) (hi : cd_inc i = none) (k0 n0 k1 n1 t : Nat) (hk0 : cd_sh k0 = (t, n0)) (hk1 : cd_sh k1 = (t, n1)) {sp dp n : Int32} (M' : cd_M) (ho : cd_cpOK sp dp n n0 n1 → cd_oth y pc 3 i (.int n :: .int dp :: .ref k1 :: .int sp :: .ref k0 :: st) M = some (.inl (pc + 3, st, M'))) [Decidable (cd_cpOK sp dp n n0 n1)] {K : cd_M → Option β} (kk : ∀ M1, cd_R y (pc + 3) ls st M1 (W (K M1))) : cd_R y pc ls (.int n :: .int dp :: .ref k1 :: .int sp :: .ref k0 :: st) M (W (if cd_cpOK sp dp n n0 n1 then cd_lt M' K else none)) := by
  by_cases hc : cd_cpOK sp dp n n0 n1
  · rw [if_pos hc]
    exact q_wr W i 3 ht hl hi (pc + 3) st M' (ho hc) kk
  · rw [if_neg hc]; exact q_none W hW
/-- calls -/
theorem q_call (i : Instr) (ht : cd_tab y pc = some (i, 3)) (hl : cd_loc i = none) (hi : cd_inc i = none) (yc : Nat) (as rs : List Value) (ho : cd_oth y pc 3 i st M = some (.inr (.inr (yc, as, rs)))) (v : Option Value) (M' : cd_M) (hc : cd_R yc 0 (cd_ent yc as) [] M (some (v, M'))) (k : (cd_mr.getD yc none = some .boolean → ∃ x : Int32, v = some (.int x) ∧ (x = 0 ∨ x = 1)) → cd_R y (pc + 3) ls (v.toList ++ rs) M' o) : cd_R y pc ls st M o := fun r hr => by
  obtain ⟨n, hn⟩ := hc (v, M') rfl
  obtain ⟨n2, hn2⟩ := k (fun hz => cd_ex_z n yc 0 _ _ _ _ hz hn) r hr
  refine ⟨max n n2 + 1, ?_⟩
  rw [cd_ex, ht]
  dsimp only
  rw [hl, hi, ho]
  dsimp only
  rw [cd_ex_le (Nat.le_max_left n n2) hn]
  exact cd_ex_le (Nat.le_max_right n n2) hn2
theorem q_cTI (i : Instr) (ht : cd_tab y pc = some (i, 3)) (hl : cd_loc i = none) (hi : cd_inc i = none) (yc : Nat) (as rs : List Value) (ho : cd_oth y pc 3 i st M = some (.inr (.inr (yc, as, rs)))) {v : Int32} (hc : cd_R yc 0 (cd_ent yc as) [] M (w_TI M v)) (k : cd_R y (pc + 3) ls (.int v :: rs) M o) : cd_R y pc ls st M o := q_call i ht hl hi yc as rs ho _ _ hc (fun _ => k)
theorem q_cTIz (i : Instr) (ht : cd_tab y pc = some (i, 3)) (hl : cd_loc i = none) (hi : cd_inc i = none) (yc : Nat) (hz : cd_mr.getD yc none = some .boolean) (as rs : List Value) (ho : cd_oth y pc 3 i st M = some (.inr (.inr (yc, as, rs)))) {v : Int32} (hc : cd_R yc 0 (cd_ent yc as) [] M (w_TI M v)) (k : (v = 0 ∨ v = 1) → cd_R y (pc + 3) ls (.int v :: rs) M o) : cd_R y pc ls st M o := q_call i ht hl hi yc as rs ho _ _ hc (fun h => k (by
  obtain ⟨x, e, h⟩ := h hz
  cases e
  exact h))
theorem q_cTL (i : Instr) (ht : cd_tab y pc = some (i, 3)) (hl : cd_loc i = none) (hi : cd_inc i = none) (yc : Nat) (as rs : List Value) (ho : cd_oth y pc 3 i st M = some (.inr (.inr (yc, as, rs)))) {v : Int64} (hc : cd_R yc 0 (cd_ent yc as) [] M (w_TL M v)) (k : cd_R y (pc + 3) ls (.long v :: rs) M o) : cd_R y pc ls st M o := q_call i ht hl hi yc as rs ho _ _ hc (fun _ => k)
theorem q_cTR (i : Instr) (ht : cd_tab y pc = some (i, 3)) (hl : cd_loc i = none) (hi : cd_inc i = none) (yc : Nat) (as rs : List Value) (ho : cd_oth y pc 3 i st M = some (.inr (.inr (yc, as, rs)))) {q : Nat} (hc : cd_R yc 0 (cd_ent yc as) [] M (w_TR M q)) (k : cd_R y (pc + 3) ls (.ref q :: rs) M o) : cd_R y pc ls st M o := q_call i ht hl hi yc as rs ho _ _ hc (fun _ => k)
theorem q_cTM {α : Type} (W : α → cd_RT) (i : Instr) (ht : cd_tab y pc = some (i, 3)) (hl : cd_loc i = none) (hi : cd_inc i = none) (yc : Nat) (as rs : List Value) (ho : cd_oth y pc 3 i st M = some (.inr (.inr (yc, as, rs)))) {F : Int32 × cd_M} (hc : cd_R yc 0 (cd_ent yc as) [] M (w_TM F)) {K : Int32 → cd_M → α} (k : ∀ v M', cd_R y (pc + 3) ls (.int v :: rs) M' (W (K v M'))) : cd_R y pc ls st M (W (cd_lt F (cd_u2 K))) := q_call i ht hl hi yc as rs ho _ _ hc (fun _ => k F.1 F.2)
theorem q_cTMz {α : Type} (W : α → cd_RT) (i : Instr) (ht : cd_tab y pc = some (i, 3)) (hl : cd_loc i = none) (hi : cd_inc i = none) (yc : Nat) (hz : cd_mr.getD yc none = some .boolean) (as rs : List Value) (ho : cd_oth y pc 3 i st M = some (.inr (.inr (yc, as, rs)))) {F : Int32 × cd_M} (hc : cd_R yc 0 (cd_ent yc as) [] M (w_TM F)) {K : Int32 → cd_M → α} (k : ∀ v M', (v = 0 ∨ v = 1) → cd_R y (pc + 3) ls (.int v :: rs) M' (W (K v M'))) : cd_R y pc ls st M (W (cd_lt F (cd_u2 K))) := q_call i ht hl hi yc as rs ho _ _ hc (fun h => k F.1 F.2 (by
  obtain ⟨x, e, h⟩ := h hz
  cases e
  exact h))
theorem q_cTV {α : Type} (W : α → cd_RT) (i : Instr) (ht : cd_tab y pc = some (i, 3)) (hl : cd_loc i = none) (hi : cd_inc i = none) (yc : Nat) (as rs : List Value) (ho : cd_oth y pc 3 i st M = some (.inr (.inr (yc, as, rs)))) {F : cd_M} (hc : cd_R yc 0 (cd_ent yc as) [] M (w_TV F)) {K : cd_M → α} (k : ∀ M', cd_R y (pc + 3) ls rs M' (W (K M'))) : cd_R y pc ls st M (W (cd_lt F K)) := q_call i ht hl hi yc as rs ho _ _ hc (fun _ => k F)
theorem q_cI {β : Type} (W : Option β → cd_RT) (hW : W none = none) (i : Instr) (ht : cd_tab y pc = some (i, 3)) (hl : cd_loc i = none) (hi : cd_inc i = none) (yc : Nat) (as rs : List Value) (ho : cd_oth y pc 3 i st M = some (.inr (.inr (yc, as, rs)))) {F : Option Int32} (hc : cd_R yc 0 (cd_ent yc as) [] M (w_PI M F)) {K : Int32 → Option β} (k : ∀ v, cd_R y (pc + 3) ls (.int v :: rs) M (W (K v))) : cd_R y pc ls st M (W (F.bind K)) := by
  cases F with
  | none => exact q_none W hW
  | some v => exact q_cTI i ht hl hi yc as rs ho hc (k v)
theorem q_cIz {β : Type} (W : Option β → cd_RT) (hW : W none = none) (i : Instr) (ht : cd_tab y pc = some (i, 3)) (hl : cd_loc i = none) (hi : cd_inc i = none) (yc : Nat) (hz : cd_mr.getD yc none = some .boolean) (as rs : List Value) (ho : cd_oth y pc 3 i st M = some (.inr (.inr (yc, as, rs)))) {F : Option Int32} (hc : cd_R yc 0 (cd_ent yc as) [] M (w_PI M F)) {K : Int32 → Option β} (k : ∀ v, (v = 0 ∨ v = 1) → cd_R y (pc + 3) ls (.int v :: rs) M (W (K v))) : cd_R y pc ls st M (W (F.bind K)) := by
  cases F with
  | none => exact q_none W hW
  | some v => exact q_cTIz i ht hl hi yc hz as rs ho hc (k v)
theorem q_cL {β : Type} (W : Option β → cd_RT) (hW : W none = none) (i : Instr) (ht : cd_tab y pc = some (i, 3)) (hl : cd_loc i = none) (hi : cd_inc i = none) (yc : Nat) (as rs : List Value) (ho : cd_oth y pc 3 i st M = some (.inr (.inr (yc, as, rs)))) {F : Option Int64} (hc : cd_R yc 0 (cd_ent yc as) [] M (w_PL M F)) {K : Int64 → Option β} (k : ∀ v, cd_R y (pc + 3) ls (.long v :: rs) M (W (K v))) : cd_R y pc ls st M (W (F.bind K)) := by
  cases F with
  | none => exact q_none W hW
  | some v => exact q_cTL i ht hl hi yc as rs ho hc (k v)
theorem q_cM {β : Type} (W : Option β → cd_RT) (hW : W none = none) (i : Instr) (ht : cd_tab y pc = some (i, 3)) (hl : cd_loc i = none) (hi : cd_inc i = none) (yc : Nat) (as rs : List Value) (ho : cd_oth y pc 3 i st M = some (.inr (.inr (yc, as, rs)))) {F : Option (Int32 × cd_M)} (hc : cd_R yc 0 (cd_ent yc as) [] M (w_PM F)) {K : Int32 → cd_M → Option β} (k : ∀ v M', cd_R y (pc + 3) ls (.int v :: rs) M' (W (K v M'))) : cd_R y pc ls st M (W (F.bind (cd_u2 K))) := by
  cases F with
  | none => exact q_none W hW
  | some F => exact q_cTM W i ht hl hi yc as rs ho hc k
theorem q_cMz {β : Type} (W : Option β → cd_RT) (hW : W none = none) (i : Instr) (ht : cd_tab y pc = some (i, 3)) (hl : cd_loc i = none) (hi : cd_inc i = none) (yc : Nat) (hz : cd_mr.getD yc none = some .boolean) (as rs : List Value) (ho : cd_oth y pc 3 i st M = some (.inr (.inr (yc, as, rs)))) {F : Option (Int32 × cd_M)} (hc : cd_R yc 0 (cd_ent yc as) [] M (w_PM F)) {K : Int32 → cd_M → Option β} (k : ∀ v M', (v = 0 ∨ v = 1) → cd_R y (pc + 3) ls (.int v :: rs) M' (W (K v M'))) : cd_R y pc ls st M (W (F.bind (cd_u2 K))) := by
  cases F with
  | none => exact q_none W hW
  | some F => exact q_cTMz W i ht hl hi yc hz as rs ho hc k
theorem q_cV {β : Type} (W : Option β → cd_RT) (hW : W none = none) (i : Instr) (ht : cd_tab y pc = some (i, 3)) (hl : cd_loc i = none) (hi : cd_inc i = none) (yc : Nat) (as rs : List Value) (ho : cd_oth y pc 3 i st M = some (.inr (.inr (yc, as, rs)))) {F : Option cd_M} (hc : cd_R yc 0 (cd_ent yc as) [] M (w_PV F)) {K : cd_M → Option β} (k : ∀ M', cd_R y (pc + 3) ls rs M' (W (K M'))) : cd_R y pc ls st M (W (F.bind K)) := by
  cases F with
  | none => exact q_none W hW
  | some F => exact q_cTV W i ht hl hi yc as rs ho hc k
theorem q_cU {β : Type} (W : Option β → cd_RT) (hW : W none = none) (i : Instr) (ht : cd_tab y pc = some (i, 3)) (hl : cd_loc i = none) (hi : cd_inc i = none) (yc : Nat) (as rs : List Value) (ho : cd_oth y pc 3 i st M = some (.inr (.inr (yc, as, rs)))) {F : Option Unit} (hc : cd_R yc 0 (cd_ent yc as) [] M (w_PU M F)) {K : Unit → Option β} (k : cd_R y (pc + 3) ls rs M (W (K ()))) : cd_R y pc ls st M (W (F.bind K)) := by
  cases F with
  | none => exact q_none W hW
  | some v => exact q_call i ht hl hi yc as rs ho _ _ hc (fun _ => k)
theorem q_cIc {β : Type} (W : Option β → cd_RT) (hW : W none = none) (i : Instr) (ht : cd_tab y pc = some (i, 3)) (hl : cd_loc i = none) (hi : cd_inc i = none) (yc : Nat) (hz : cd_mr.getD yc none = some .char) (as rs : List Value) (ho : cd_oth y pc 3 i st M = some (.inr (.inr (yc, as, rs)))) {F : Option Int32} (hc : cd_R yc 0 (cd_ent yc as) [] M (w_PI M F)) {K : Int32 → Option β} (k : ∀ v : Int32, narrow .char (.int v) = .int v → cd_R y (pc + 3) ls (.int v :: rs) M (W (K v))) : cd_R y pc ls st M (W (F.bind K)) := by
  cases F with
  | none => exact q_none W hW
  | some v =>
    intro r hr
    obtain ⟨n, hn⟩ := hc (some (.int v), M) rfl
    obtain ⟨x, e, h⟩ := cd_ex_c n yc 0 _ _ _ _ hz hn
    cases e
    obtain ⟨n2, hn2⟩ := k v h r hr
    refine ⟨max n n2 + 1, ?_⟩
    rw [cd_ex, ht]
    dsimp only
    rw [hl, hi, ho]
    dsimp only
    rw [cd_ex_le (Nat.le_max_left n n2) hn]
    exact cd_ex_le (Nat.le_max_right n n2) hn2
/-- a table of jumps, outside its range -/
theorem cd_neI {x : Int32} (j : Nat) (hj : j < 1000) (h : ¬ x = nI j) : ¬ x.toInt = (j : Int) := by
  intro z
  apply h
  apply Int32.toInt_inj.mp
  rw [z, nI_toInt (by omega)]
theorem q_swD (d hi : Int) (offs : Array Int) (len : Nat) {x : Int32} (ht : cd_tab y pc = some (.tableswitch d 0 hi offs, len)) (hx : x.toInt < 0 ∨ hi < x.toInt) (pc' : Nat) (hp : (pc : Int) + d = (pc' : Int)) (k : cd_R y pc' ls st M o) : cd_R y pc ls (.int x :: st) M o := by
  refine r_go (.tableswitch d 0 hi offs) len ht rfl rfl pc' st ?_ k
  show (if x.toInt < 0 ∨ hi < x.toInt then cd_to pc d fun t => cd_go t st M else _) = _
  rw [if_pos hx]
  unfold cd_to
  rw [hp]
  exact if_pos rfl
end cdN
