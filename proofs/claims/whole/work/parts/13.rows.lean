/-! runs of the abstract machine, goal first: cd_R y pc ls st M o: if o is some r, the run from here comes to r -/
theorem cd_ex_up : ∀ (n y pc : Nat) (ls : List (Option Value)) (st : List Value) (M : cd_M) (r : Option Value × cd_M), cd_ex n y pc ls st M = some r → cd_ex (n + 1) y pc ls st M = some r
  | 0, _, _, _, _, _, _, h => by cases h
  | n + 1, y, pc, ls, st, M, r, h => by
    have ih := cd_ex_up n
    rw [cd_ex] at h
    rw [cd_ex]
    cases ht : cd_tab y pc with
    | none => rw [ht] at h; cases h
    | some q =>
      obtain ⟨i, len⟩ := q
      rw [ht] at h
      dsimp only at h ⊢
      cases hloc : cd_loc i with
      | some q =>
        obtain ⟨o, t, k⟩ := q
        rw [hloc] at h
        cases o with
        | zero =>
          dsimp only at h ⊢
          cases hv : ls.getD k none with
          | none => rw [hv] at h; cases h
          | some v =>
            rw [hv] at h
            dsimp only at h ⊢
            obtain ⟨hty, h2⟩ := cd_bif_e h
            rw [hty]
            exact ih _ _ _ _ _ _ h2
        | succ o =>
          dsimp only at h ⊢
          cases st with
          | nil => cases h
          | cons v st =>
            dsimp only at h ⊢
            obtain ⟨hty, h2⟩ := cd_bif_e h
            rw [hty]
            exact ih _ _ _ _ _ _ h2
      | none =>
        rw [hloc] at h
        dsimp only at h ⊢
        cases hinc : cd_inc i with
        | some q =>
          obtain ⟨k, d⟩ := q
          rw [hinc] at h
          dsimp only at h ⊢
          cases hv : ls.getD k none with
          | none => rw [hv] at h; cases h
          | some v =>
            rw [hv] at h
            cases v with
            | int x =>
              dsimp only at h ⊢
              obtain ⟨hb, h2⟩ := cd_bif_e h
              rw [hb]
              exact ih _ _ _ _ _ _ h2
            | _ => cases h
        | none =>
          rw [hinc] at h
          dsimp only at h ⊢
          cases ho : cd_oth y pc len i st M with
          | none => rw [ho] at h; cases h
          | some a =>
            rw [ho] at h
            cases a with
            | inl q =>
              obtain ⟨pc', st', M'⟩ := q
              exact ih _ _ _ _ _ _ h
            | inr a =>
              cases a with
              | inl q => exact h
              | inr q =>
                obtain ⟨yc, as, rs⟩ := q
                dsimp only at h ⊢
                cases hc : cd_ex n yc 0 (cd_ent yc as) [] M with
                | none => rw [hc] at h; cases h
                | some r1 =>
                  obtain ⟨v, M'⟩ := r1
                  rw [hc] at h
                  rw [ih _ _ _ _ _ _ hc]
                  exact ih _ _ _ _ _ _ h
theorem cd_ex_le {n k : Nat} (hk : n ≤ k) {y pc : Nat} {ls : List (Option Value)} {st : List Value} {M : cd_M} {r : Option Value × cd_M} (h : cd_ex n y pc ls st M = some r) : cd_ex k y pc ls st M = some r := by
  induction hk with
  | refl => exact h
  | step _ ih => exact cd_ex_up _ _ _ _ _ _ _ ih
def cd_le (a b : List (Option Value)) : Prop := a.length = b.length ∧ ∀ (i : Nat) (v : Value), a[i]? = some (some v) → b[i]? = some (some v)
theorem cd_le_0 : cd_le [] [] := ⟨rfl, fun _ _ h => h⟩
theorem cd_le_n {a b : List (Option Value)} {x : Option Value} (h : cd_le a b) : cd_le (none :: a) (x :: b) := ⟨by simp [h.1], fun i v hi => by
  cases i with
  | zero => cases hi
  | succ i => exact h.2 i v hi⟩
theorem cd_le_s {a b : List (Option Value)} {x : Option Value} (h : cd_le a b) : cd_le (x :: a) (x :: b) := ⟨by simp [h.1], fun i v hi => by
  cases i with
  | zero => exact hi
  | succ i => exact h.2 i v hi⟩
theorem cd_pre_put {ls : List (Option Value)} {k i : Nat} {w : Value} (h : ls[i]? = some (some w)) (hc : ¬ (i + 1 = k ∧ w.category = 2)) : (cd_pre ls k)[i]? = some (some w) := by
  cases k with
  | zero => exact h
  | succ j =>
    show (ls.set j (cd_kill (ls.getD j none)))[i]? = some (some w)
    by_cases e : i = j
    · subst e
      have hl := (List.getElem?_eq_some_iff.mp h).1
      rw [List.getElem?_set_self hl, List.getD_eq_getElem?_getD, h]
      have h2 : ¬ w.category = 2 := fun z => hc ⟨rfl, z⟩
      cases w with
      | long z => exact absurd rfl h2
      | double z => exact absurd rfl h2
      | _ => rfl
    · rw [List.getElem?_set_ne (fun z => e z.symm)]
      exact h
theorem cd_sto_put {ls : List (Option Value)} {k i : Nat} {v w : Value} (hk : k < ls.length) (h : (i = k ∧ w = v) ∨ (¬ i = k ∧ ls[i]? = some (some w) ∧ ¬ (i + 1 = k ∧ w.category = 2) ∧ (cd_ty v = 1 → ¬ i = k + 1))) : (cd_sto ls k v)[i]? = some (some w) := by
  have hl1 : (cd_pre ls k).length = ls.length := by cases k <;> simp [cd_pre]
  unfold cd_sto
  rcases h with ⟨rfl, rfl⟩ | ⟨e, h1, h2, h3⟩
  · cases hb : Nat.beq (cd_ty w) 1 with
    | true =>
      show (((cd_pre ls i).set i (some w)).set (i + 1) none)[i]? = some (some w)
      rw [List.getElem?_set_ne (by omega), List.getElem?_set_self (by omega)]
    | false =>
      show ((cd_pre ls i).set i (some w))[i]? = some (some w)
      rw [List.getElem?_set_self (by omega)]
  · have h5 := cd_pre_put h1 h2
    cases hb : Nat.beq (cd_ty v) 1 with
    | true =>
      have h6 := h3 (Nat.eq_of_beq_eq_true hb)
      show (((cd_pre ls k).set k (some v)).set (k + 1) none)[i]? = some (some w)
      rw [List.getElem?_set_ne (by omega), List.getElem?_set_ne (by omega)]
      exact h5
    | false =>
      show ((cd_pre ls k).set k (some v))[i]? = some (some w)
      rw [List.getElem?_set_ne (by omega)]
      exact h5
theorem cd_sto_le {a b : List (Option Value)} {k : Nat} {v : Value} (h : cd_le a b) (hk : k < a.length) : cd_le (cd_sto a k v) (cd_sto b k v) := by
  refine ⟨by rw [cd_sto_len, cd_sto_len, h.1], fun i w hi => ?_⟩
  refine cd_sto_put (by rw [← h.1]; exact hk) ?_
  rcases cd_sto_get hk hi with ⟨e1, e2⟩ | ⟨e, h1, h2, h3⟩
  · exact Or.inl ⟨e1, e2⟩
  · exact Or.inr ⟨e, h.2 i w h1, h2, h3⟩
theorem cd_getD_i {ls : List (Option Value)} {k : Nat} {v : Value} (h : ls[k]? = some (some v)) : ls.getD k none = some v := by
  rw [List.getD_eq_getElem?_getD, h]
  rfl
theorem cd_ex_w : ∀ (n y pc : Nat) (a b : List (Option Value)) (st : List Value) (M : cd_M) (r : Option Value × cd_M), cd_le a b → cd_ex n y pc a st M = some r → cd_ex n y pc b st M = some r
  | 0, _, _, _, _, _, _, _, _, h => by cases h
  | n + 1, y, pc, a, b, st, M, r, hab, h => by
    have ih := cd_ex_w n
    rw [cd_ex] at h
    rw [cd_ex]
    cases ht : cd_tab y pc with
    | none => rw [ht] at h; cases h
    | some q =>
      obtain ⟨i, len⟩ := q
      rw [ht] at h
      dsimp only at h ⊢
      cases hloc : cd_loc i with
      | some q =>
        obtain ⟨o, t, k⟩ := q
        rw [hloc] at h
        cases o with
        | zero =>
          dsimp only at h ⊢
          cases hv : a.getD k none with
          | none => rw [hv] at h; cases h
          | some v =>
            rw [hv] at h
            rw [cd_getD_i (hab.2 k v (cd_getD_e hv))]
            dsimp only at h ⊢
            obtain ⟨hty, h2⟩ := cd_bif_e h
            rw [hty]
            exact ih _ _ _ _ _ _ _ hab h2
        | succ o =>
          dsimp only at h ⊢
          cases st with
          | nil => cases h
          | cons v st =>
            dsimp only at h ⊢
            obtain ⟨hty, h2⟩ := cd_bif_e h
            rw [← hab.1, hty]
            simp only [Bool.and_eq_true] at hty
            have h3 := Nat.le_of_ble_eq_true hty.2
            have h4 := lv_cat v
            exact ih _ _ _ _ _ _ _ (cd_sto_le hab (by omega)) h2
      | none =>
        rw [hloc] at h
        dsimp only at h ⊢
        cases hinc : cd_inc i with
        | some q =>
          obtain ⟨k, d⟩ := q
          rw [hinc] at h
          dsimp only at h ⊢
          cases hv : a.getD k none with
          | none => rw [hv] at h; cases h
          | some v =>
            rw [hv] at h
            rw [cd_getD_i (hab.2 k v (cd_getD_e hv))]
            cases v with
            | int x =>
              dsimp only at h ⊢
              obtain ⟨hb, h2⟩ := cd_bif_e h
              rw [← hab.1, hb]
              have h3 := Nat.le_of_ble_eq_true hb
              exact ih _ _ _ _ _ _ _ (cd_sto_le hab (by omega)) h2
            | _ => cases h
        | none =>
          rw [hinc] at h
          dsimp only at h ⊢
          cases ho : cd_oth y pc len i st M with
          | none => rw [ho] at h; cases h
          | some q =>
            rw [ho] at h
            cases q with
            | inl q =>
              obtain ⟨pc', st', M'⟩ := q
              exact ih _ _ _ _ _ _ _ hab h
            | inr q =>
              cases q with
              | inl q => exact h
              | inr q =>
                obtain ⟨yc, as, rs⟩ := q
                dsimp only at h ⊢
                cases hc : cd_ex n yc 0 (cd_ent yc as) [] M with
                | none => rw [hc] at h; cases h
                | some r1 =>
                  obtain ⟨v, M'⟩ := r1
                  rw [hc] at h
                  exact ih _ _ _ _ _ _ _ hab h
def cd_R (y pc : Nat) (ls : List (Option Value)) (st : List Value) (M : cd_M) (o : Option (Option Value × cd_M)) : Prop := ∀ r, o = some r → ∃ n, cd_ex n y pc ls st M = some r
def cd_lt {α β : Type} (v : α) (k : α → β) : β := k v
section cdP
variable {y pc : Nat} {ls : List (Option Value)} {st : List Value} {M : cd_M} {o : Option (Option Value × cd_M)}
theorem r_none : cd_R y pc ls st M none := fun r h => by cases h
theorem r_w {a : List (Option Value)} (h : cd_R y pc a st M o) (hab : cd_le a ls) : cd_R y pc ls st M o := fun r hr => by
  obtain ⟨n, hn⟩ := h r hr
  exact ⟨n, cd_ex_w n _ _ _ _ _ _ _ hab hn⟩
theorem r_go (i : Instr) (len : Nat) (ht : cd_tab y pc = some (i, len)) (hl : cd_loc i = none) (hi : cd_inc i = none) (pc' : Nat) (st' : List Value) (ho : cd_oth y pc len i st M = some (.inl (pc', st', M))) (k : cd_R y pc' ls st' M o) : cd_R y pc ls st M o := fun r hr => by
  obtain ⟨n, hn⟩ := k r hr
  refine ⟨n + 1, ?_⟩
  rw [cd_ex, ht]
  dsimp only
  rw [hl, hi, ho]
  exact hn
/-- a write: the new memory gets a name -/
theorem r_wr (i : Instr) (len : Nat) (ht : cd_tab y pc = some (i, len)) (hl : cd_loc i = none) (hi : cd_inc i = none) (pc' : Nat) (st' : List Value) (M' : cd_M) (ho : cd_oth y pc len i st M = some (.inl (pc', st', M'))) {K : cd_M → Option (Option Value × cd_M)} (k : ∀ M1, cd_R y pc' ls st' M1 (K M1)) : cd_R y pc ls st M (cd_lt M' K) := fun r hr => by
  obtain ⟨n, hn⟩ := k M' r hr
  refine ⟨n + 1, ?_⟩
  rw [cd_ex, ht]
  dsimp only
  rw [hl, hi, ho]
  exact hn
/-- a step that may fail -/
theorem r_if (i : Instr) (len : Nat) (ht : cd_tab y pc = some (i, len)) (hl : cd_loc i = none) (hi : cd_inc i = none) {c : Prop} [Decidable c] (pc' : Nat) (st' : List Value) (ho : c → cd_oth y pc len i st M = some (.inl (pc', st', M))) (k : cd_R y pc' ls st' M o) : cd_R y pc ls st M (if c then o else none) := fun r hr => by
  obtain ⟨hc, hr⟩ := cd_if_e hr
  obtain ⟨n, hn⟩ := k r hr
  refine ⟨n + 1, ?_⟩
  rw [cd_ex, ht]
  dsimp only
  rw [hl, hi, ho hc]
  exact hn
theorem r_wif (i : Instr) (len : Nat) (ht : cd_tab y pc = some (i, len)) (hl : cd_loc i = none) (hi : cd_inc i = none) {c : Prop} [Decidable c] (pc' : Nat) (st' : List Value) (M' : cd_M) (ho : c → cd_oth y pc len i st M = some (.inl (pc', st', M'))) {K : cd_M → Option (Option Value × cd_M)} (k : ∀ M1, cd_R y pc' ls st' M1 (K M1)) : cd_R y pc ls st M (if c then cd_lt M' K else none) := fun r hr => by
  obtain ⟨hc, hr⟩ := cd_if_e hr
  exact r_wr i len ht hl hi pc' st' M' (ho hc) k r hr
/-- a branch -/
theorem r_br (i : Instr) (len : Nat) (ht : cd_tab y pc = some (i, len)) (hl : cd_loc i = none) (hi : cd_inc i = none) (c : Prop) [Decidable c] (t f : Nat) (st' : List Value) (ho : cd_oth y pc len i st M = if c then cd_go t st' M else cd_go f st' M) {a b : Option (Option Value × cd_M)} (kt : cd_R y t ls st' M a) (kf : cd_R y f ls st' M b) : cd_R y pc ls st M (if c then a else b) := fun r hr => by
  by_cases hc : c
  · rw [if_pos hc] at hr ho
    exact r_go i len ht hl hi t st' ho kt r hr
  · rw [if_neg hc] at hr ho
    exact r_go i len ht hl hi f st' ho kf r hr
theorem r_or (c : Prop) [Decidable c] {a b : Option (Option Value × cd_M)} (kt : c → cd_R y pc ls st M a) (kf : ¬ c → cd_R y pc ls st M b) : cd_R y pc ls st M (if c then a else b) := fun r hr => by
  by_cases hc : c
  · rw [if_pos hc] at hr
    exact kt hc r hr
  · rw [if_neg hc] at hr
    exact kf hc r hr
theorem r_ld (i : Instr) (len t k : Nat) (v : Value) (ht : cd_tab y pc = some (i, len)) (hl : cd_loc i = some (0, t, k)) (hv : ls.getD k none = some v) (hty : Nat.beq (cd_ty v) t = true) (pc' : Nat) (hp : pc + len = pc') (kk : cd_R y pc' ls (v :: st) M o) : cd_R y pc ls st M o := fun r hr => by
  subst hp
  obtain ⟨n, hn⟩ := kk r hr
  refine ⟨n + 1, ?_⟩
  rw [cd_ex, ht]
  dsimp only
  rw [hl]
  dsimp only
  rw [hv]
  dsimp only
  rw [hty]
  exact hn
theorem r_st (i : Instr) (len t k : Nat) {v : Value} (ht : cd_tab y pc = some (i, len)) (hl : cd_loc i = some (1, t, k)) (hty : (Nat.beq (cd_ty v) t && Nat.ble (k + v.category) ls.length) = true) (pc' : Nat) (hp : pc + len = pc') (ls' : List (Option Value)) (hs : cd_sto ls k v = ls') (kk : cd_R y pc' ls' st M o) : cd_R y pc ls (v :: st) M o := fun r hr => by
  subst hp
  obtain ⟨n, hn⟩ := kk r hr
  refine ⟨n + 1, ?_⟩
  rw [cd_ex, ht]
  dsimp only
  rw [hl]
  dsimp only
  rw [hty, hs]
  exact hn
/-- a store of a computed int: it gets a name -/
theorem r_stB (i : Instr) (len t k : Nat) {x : Int32} (ht : cd_tab y pc = some (i, len)) (hl : cd_loc i = some (1, t, k)) (hty : ∀ x : Int32, (Nat.beq (cd_ty (.int x)) t && Nat.ble (k + (Value.int x).category) ls.length) = true) (pc' : Nat) (hp : pc + len = pc') (ls' : Int32 → List (Option Value)) (hs : ∀ x, cd_sto ls k (.int x) = ls' x) {K : Int32 → Option (Option Value × cd_M)} (kk : ∀ x, cd_R y pc' (ls' x) st M (K x)) : cd_R y pc ls (.int x :: st) M (cd_lt x K) := r_st i len t k ht hl (hty x) pc' hp (ls' x) (hs x) (kk x)
theorem r_stBL (i : Instr) (len t k : Nat) {x : Int64} (ht : cd_tab y pc = some (i, len)) (hl : cd_loc i = some (1, t, k)) (hty : ∀ x : Int64, (Nat.beq (cd_ty (.long x)) t && Nat.ble (k + (Value.long x).category) ls.length) = true) (pc' : Nat) (hp : pc + len = pc') (ls' : Int64 → List (Option Value)) (hs : ∀ x, cd_sto ls k (.long x) = ls' x) {K : Int64 → Option (Option Value × cd_M)} (kk : ∀ x, cd_R y pc' (ls' x) st M (K x)) : cd_R y pc ls (.long x :: st) M (cd_lt x K) := r_st i len t k ht hl (hty x) pc' hp (ls' x) (hs x) (kk x)
theorem r_inc (k : Nat) (d : Int) (x : Int32) (ht : cd_tab y pc = some (.iinc k d, 3)) (hv : ls.getD k none = some (.int x)) (hk : Nat.ble (k + 1) ls.length = true) (pc' : Nat) (hp : pc + 3 = pc') (d' : Int32) (hd : Int32.ofInt d = d') (ls' : Int32 → List (Option Value)) (hs : ∀ x, cd_sto ls k (.int x) = ls' x) {K : Int32 → Option (Option Value × cd_M)} (kk : ∀ x, cd_R y pc' (ls' x) st M (K x)) : cd_R y pc ls st M (cd_lt (x + d') K) := fun r hr => by
  subst hp
  subst hd
  obtain ⟨n, hn⟩ := kk (x + Int32.ofInt d) r hr
  refine ⟨n + 1, ?_⟩
  rw [cd_ex, ht]
  dsimp only [cd_loc, cd_inc]
  rw [hv]
  dsimp only
  rw [hk, hs]
  exact hn
theorem r_ret (i : Instr) (len : Nat) (ht : cd_tab y pc = some (i, len)) (hl : cd_loc i = none) (hi : cd_inc i = none) (q : Option Value × cd_M) (ho : cd_oth y pc len i st M = some (.inr (.inl q))) : cd_R y pc ls st M (some q) := fun r hr => by
  refine ⟨1, ?_⟩
  rw [cd_ex, ht]
  dsimp only
  rw [hl, hi, ho]
  exact hr
/-- an end that wants a 0 or 1 -/
theorem r_retZ {v : Int32} (ht : cd_tab y pc = some (.ireturn, 1)) (hr : cd_mr.getD y none = some .boolean) (hv : v = 0 ∨ v = 1) : cd_R y pc ls [.int v] M (some (some (.int v), M)) := by
  refine r_ret .ireturn 1 ht rfl rfl _ ?_
  show ((match cd_mr.getD y none with
      | some .int => some (.inr (.inl (some (.int v), M)))
      | some .boolean => if v = 0 ∨ v = 1 then some (.inr (.inl (some (.int v), M))) else none
      | some .char => if narrow .char (.int v) = .int v then some (.inr (.inl (some (.int v), M))) else none
      | some .byte => if narrow .byte (.int v) = .int v then some (.inr (.inl (some (.int v), M))) else none
      | _ => none) : Option cd_A) = some (.inr (.inl (some (.int v), M)))
  rw [hr]
  exact if_pos hv
theorem r_retC {v : Int32} (ht : cd_tab y pc = some (.ireturn, 1)) (hr : cd_mr.getD y none = some .char) (hv : narrow .char (.int v) = .int v) : cd_R y pc ls [.int v] M (some (some (.int v), M)) := by
  refine r_ret .ireturn 1 ht rfl rfl _ ?_
  show ((match cd_mr.getD y none with
      | some .int => some (.inr (.inl (some (.int v), M)))
      | some .boolean => if v = 0 ∨ v = 1 then some (.inr (.inl (some (.int v), M))) else none
      | some .char => if narrow .char (.int v) = .int v then some (.inr (.inl (some (.int v), M))) else none
      | some .byte => if narrow .byte (.int v) = .int v then some (.inr (.inl (some (.int v), M))) else none
      | _ => none) : Option cd_A) = some (.inr (.inl (some (.int v), M)))
  rw [hr]
  exact if_pos hv
theorem r_retB {v : Int32} (ht : cd_tab y pc = some (.ireturn, 1)) (hr : cd_mr.getD y none = some .byte) (hv : narrow .byte (.int v) = .int v) : cd_R y pc ls [.int v] M (some (some (.int v), M)) := by
  refine r_ret .ireturn 1 ht rfl rfl _ ?_
  show ((match cd_mr.getD y none with
      | some .int => some (.inr (.inl (some (.int v), M)))
      | some .boolean => if v = 0 ∨ v = 1 then some (.inr (.inl (some (.int v), M))) else none
      | some .char => if narrow .char (.int v) = .int v then some (.inr (.inl (some (.int v), M))) else none
      | some .byte => if narrow .byte (.int v) = .int v then some (.inr (.inl (some (.int v), M))) else none
      | _ => none) : Option cd_A) = some (.inr (.inl (some (.int v), M)))
  rw [hr]
  exact if_pos hv
/-- a call: what the callee comes to, then the rest -/
theorem r_call (i : Instr) (ht : cd_tab y pc = some (i, 3)) (hl : cd_loc i = none) (hi : cd_inc i = none) (yc : Nat) (as rs : List Value) (ho : cd_oth y pc 3 i st M = some (.inr (.inr (yc, as, rs)))) {F : Option (Option Value × cd_M)} (hc : cd_R yc 0 (cd_ent yc as) [] M F) {K : Option Value → cd_M → Option (Option Value × cd_M)} (k : ∀ v M', F = some (v, M') → cd_R y (pc + 3) ls (v.toList ++ rs) M' (K v M')) : cd_R y pc ls st M (F.bind fun q => K q.1 q.2) := fun r hr => by
  cases hF : F with
  | none => rw [hF] at hr; cases hr
  | some q =>
    obtain ⟨v, M'⟩ := q
    rw [hF] at hr
    obtain ⟨n, hn⟩ := hc (v, M') hF
    obtain ⟨n2, hn2⟩ := k v M' hF r hr
    refine ⟨max n n2 + 1, ?_⟩
    rw [cd_ex, ht]
    dsimp only
    rw [hl, hi, ho]
    dsimp only
    rw [cd_ex_le (Nat.le_max_left n n2) hn]
    exact cd_ex_le (Nat.le_max_right n n2) hn2
end cdP
/-- ends -/
def cd_oI (M : cd_M) (v : Int32) : Option Value × cd_M := (some (.int v), M)
def cd_oL (M : cd_M) (v : Int64) : Option Value × cd_M := (some (.long v), M)
def cd_oIM (q : Int32 × cd_M) : Option Value × cd_M := (some (.int q.1), q.2)
def cd_oV (M : cd_M) : Option Value × cd_M := (none, M)
section cdO
variable {y pc : Nat} {ls : List (Option Value)} {st : List Value} {M : cd_M} {o : Option (Option Value × cd_M)}
/-- calls by the callee's kind: total and pure, pure, with a new memory, without an answer -/
theorem r_cTI (i : Instr) (ht : cd_tab y pc = some (i, 3)) (hl : cd_loc i = none) (hi : cd_inc i = none) (yc : Nat) (as rs : List Value) (ho : cd_oth y pc 3 i st M = some (.inr (.inr (yc, as, rs)))) {v : Int32} (hc : cd_R yc 0 (cd_ent yc as) [] M (some (cd_oI M v))) (k : cd_R y (pc + 3) ls (.int v :: rs) M o) : cd_R y pc ls st M o := r_call i ht hl hi yc as rs ho (F := some (cd_oI M v)) (K := fun _ _ => o) hc (fun v' M' e => by
  cases e
  exact k)
theorem r_cTL (i : Instr) (ht : cd_tab y pc = some (i, 3)) (hl : cd_loc i = none) (hi : cd_inc i = none) (yc : Nat) (as rs : List Value) (ho : cd_oth y pc 3 i st M = some (.inr (.inr (yc, as, rs)))) {v : Int64} (hc : cd_R yc 0 (cd_ent yc as) [] M (some (cd_oL M v))) (k : cd_R y (pc + 3) ls (.long v :: rs) M o) : cd_R y pc ls st M o := r_call i ht hl hi yc as rs ho (F := some (cd_oL M v)) (K := fun _ _ => o) hc (fun v' M' e => by
  cases e
  exact k)
theorem r_cTR (i : Instr) (ht : cd_tab y pc = some (i, 3)) (hl : cd_loc i = none) (hi : cd_inc i = none) (yc : Nat) (as rs : List Value) (ho : cd_oth y pc 3 i st M = some (.inr (.inr (yc, as, rs)))) {q : Nat} (hc : cd_R yc 0 (cd_ent yc as) [] M (some (some (.ref q), M))) (k : cd_R y (pc + 3) ls (.ref q :: rs) M o) : cd_R y pc ls st M o := r_call i ht hl hi yc as rs ho (F := some (some (.ref q), M)) (K := fun _ _ => o) hc (fun v' M' e => by
  cases e
  exact k)
theorem r_cTM (i : Instr) (ht : cd_tab y pc = some (i, 3)) (hl : cd_loc i = none) (hi : cd_inc i = none) (yc : Nat) (as rs : List Value) (ho : cd_oth y pc 3 i st M = some (.inr (.inr (yc, as, rs)))) {F : Int32 × cd_M} (hc : cd_R yc 0 (cd_ent yc as) [] M (some (cd_oIM F))) {K : Int32 × cd_M → Option (Option Value × cd_M)} (k : ∀ v M', cd_R y (pc + 3) ls (.int v :: rs) M' (K (v, M'))) : cd_R y pc ls st M (cd_lt F K) := r_call i ht hl hi yc as rs ho (F := some (cd_oIM F)) (K := fun _ _ => K F) hc (fun v' M' e => by
  obtain ⟨v, M2⟩ := F
  cases e
  exact k v M2)
theorem r_cTV (i : Instr) (ht : cd_tab y pc = some (i, 3)) (hl : cd_loc i = none) (hi : cd_inc i = none) (yc : Nat) (as rs : List Value) (ho : cd_oth y pc 3 i st M = some (.inr (.inr (yc, as, rs)))) {F : cd_M} (hc : cd_R yc 0 (cd_ent yc as) [] M (some (cd_oV F))) {K : cd_M → Option (Option Value × cd_M)} (k : ∀ M', cd_R y (pc + 3) ls rs M' (K M')) : cd_R y pc ls st M (cd_lt F K) := r_call i ht hl hi yc as rs ho (F := some (cd_oV F)) (K := fun _ _ => K F) hc (fun v' M' e => by
  cases e
  exact k F)
theorem r_cI (i : Instr) (ht : cd_tab y pc = some (i, 3)) (hl : cd_loc i = none) (hi : cd_inc i = none) (yc : Nat) (as rs : List Value) (ho : cd_oth y pc 3 i st M = some (.inr (.inr (yc, as, rs)))) {F : Option Int32} (hc : cd_R yc 0 (cd_ent yc as) [] M (F.map (cd_oI M))) {K : Int32 → Option (Option Value × cd_M)} (k : ∀ v, cd_R y (pc + 3) ls (.int v :: rs) M (K v)) : cd_R y pc ls st M (F.bind K) := by
  cases F with
  | none => exact r_none
  | some v => exact r_cTI i ht hl hi yc as rs ho hc (k v)
theorem r_cL (i : Instr) (ht : cd_tab y pc = some (i, 3)) (hl : cd_loc i = none) (hi : cd_inc i = none) (yc : Nat) (as rs : List Value) (ho : cd_oth y pc 3 i st M = some (.inr (.inr (yc, as, rs)))) {F : Option Int64} (hc : cd_R yc 0 (cd_ent yc as) [] M (F.map (cd_oL M))) {K : Int64 → Option (Option Value × cd_M)} (k : ∀ v, cd_R y (pc + 3) ls (.long v :: rs) M (K v)) : cd_R y pc ls st M (F.bind K) := by
  cases F with
  | none => exact r_none
  | some v => exact r_cTL i ht hl hi yc as rs ho hc (k v)
theorem r_cM (i : Instr) (ht : cd_tab y pc = some (i, 3)) (hl : cd_loc i = none) (hi : cd_inc i = none) (yc : Nat) (as rs : List Value) (ho : cd_oth y pc 3 i st M = some (.inr (.inr (yc, as, rs)))) {F : Option (Int32 × cd_M)} (hc : cd_R yc 0 (cd_ent yc as) [] M (F.map cd_oIM)) {K : Int32 × cd_M → Option (Option Value × cd_M)} (k : ∀ v M', cd_R y (pc + 3) ls (.int v :: rs) M' (K (v, M'))) : cd_R y pc ls st M (F.bind K) := by
  cases F with
  | none => exact r_none
  | some F => exact r_cTM i ht hl hi yc as rs ho hc k
theorem r_cV (i : Instr) (ht : cd_tab y pc = some (i, 3)) (hl : cd_loc i = none) (hi : cd_inc i = none) (yc : Nat) (as rs : List Value) (ho : cd_oth y pc 3 i st M = some (.inr (.inr (yc, as, rs)))) {F : Option cd_M} (hc : cd_R yc 0 (cd_ent yc as) [] M (F.map cd_oV)) {K : cd_M → Option (Option Value × cd_M)} (k : ∀ M', cd_R y (pc + 3) ls rs M' (K M')) : cd_R y pc ls st M (F.bind K) := by
  cases F with
  | none => exact r_none
  | some F => exact r_cTV i ht hl hi yc as rs ho hc k
end cdO
