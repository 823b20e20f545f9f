/-! total and partial correctness of the functions of parts 16; which cells a function may write -/
def cw {α : Type} (o : Option α) (Q : α → Prop) : Prop := ∃ r, o = some r ∧ Q r
def cp {α : Type} (o : Option α) (Q : α → Prop) : Prop := ∀ r, o = some r → Q r
def ci_ {α : Type} (v : α) (Q : α → Prop) : Prop := Q v
theorem cw_some {α : Type} {a : α} {Q : α → Prop} : cw (some a) Q ↔ Q a := ⟨fun ⟨_, h, q⟩ => (by cases h; exact q), fun q => ⟨a, rfl, q⟩⟩
theorem cw_none {α : Type} {Q : α → Prop} : cw (none : Option α) Q ↔ False := ⟨fun ⟨_, h, _⟩ => (by cases h), fun h => False.elim h⟩
theorem cw_bind {α β : Type} {o : Option α} {k : α → Option β} {Q : β → Prop} : cw (o.bind k) Q ↔ cw o (fun a => cw (k a) Q) := by
  constructor
  · rintro ⟨r, h, q⟩
    obtain ⟨a, ha, hk⟩ := Option.bind_eq_some_iff.mp h
    exact ⟨a, ha, r, hk, q⟩
  · rintro ⟨a, ha, r, hk, q⟩
    exact ⟨r, by rw [ha]; exact hk, q⟩
theorem cw_mono {α : Type} {o : Option α} {P Q : α → Prop} (h : cw o P) (k : ∀ r, P r → Q r) : cw o Q := by
  obtain ⟨r, h1, h2⟩ := h
  exact ⟨r, h1, k r h2⟩
theorem cw_cp {α : Type} {o : Option α} {P Q : α → Prop} (h : cw o P) (k : cp o Q) : cw o (fun r => P r ∧ Q r) := by
  obtain ⟨r, h1, h2⟩ := h
  exact ⟨r, h1, h2, k r h1⟩
theorem cw_if {α : Type} {c : Prop} {_ : Decidable c} {a b : Option α} {Q : α → Prop} (h1 : c → cw a Q) (h2 : ¬ c → cw b Q) : cw (if c then a else b) Q := by
  by_cases h : c
  · rw [if_pos h]; exact h1 h
  · rw [if_neg h]; exact h2 h
theorem cp_none {α : Type} {Q : α → Prop} : cp (none : Option α) Q := fun _ h => by cases h
theorem cp_some {α : Type} {a : α} {Q : α → Prop} (h : Q a) : cp (some a) Q := fun _ e => by cases e; exact h
theorem ci_some {α : Type} {a : α} {Q : α → Prop} (h : Q a) : ci_ a Q := h
theorem cp_ite {α : Type} {c : Prop} {_ : Decidable c} {a b : Option α} {Q : α → Prop} (h1 : c → cp a Q) (h2 : ¬ c → cp b Q) : cp (if c then a else b) Q := by
  by_cases h : c
  · rw [if_pos h]; exact h1 h
  · rw [if_neg h]; exact h2 h
theorem ci_ite {α : Type} {c : Prop} {_ : Decidable c} {a b : α} {Q : α → Prop} (h1 : c → ci_ a Q) (h2 : ¬ c → ci_ b Q) : ci_ (if c then a else b) Q := by
  by_cases h : c
  · rw [if_pos h]; exact h1 h
  · rw [if_neg h]; exact h2 h
/-- the cells that a list covers -/
def cf_jb (j : Option Nat) (i : Nat) : Bool := match j with
  | none => true
  | some j => Nat.beq j i
def cf_qb (j i : Option Nat) : Bool := match j with
  | none => (match i with | none => true | some _ => false)
  | some a => (match i with | none => false | some b => Nat.beq a b)
def cf_cov (ws : List (Nat × Option Nat)) (x i : Nat) : Bool := match ws with
  | [] => false
  | q :: r => (Nat.beq q.1 x && cf_jb q.2 i) || cf_cov r x i
def cf_ (ws : List (Nat × Option Nat)) (M M1 : cd_M) : Prop := ∀ x i, cf_cov ws x i = false → M1.1 x i = M.1 x i ∧ M1.2 x i = M.2 x i
def cf_has (ws : List (Nat × Option Nat)) (q : Nat × Option Nat) : Bool := match ws with
  | [] => false
  | p :: r => (Nat.beq p.1 q.1 && cf_qb p.2 q.2) || cf_has r q
def cf_sub (a b : List (Nat × Option Nat)) : Bool := match a with
  | [] => true
  | q :: r => cf_has b q && cf_sub r b
theorem cf_qb_iff {j i : Option Nat} : cf_qb j i = true ↔ i = j := by
  cases j with
  | none => cases i with
    | none => exact ⟨fun _ => rfl, fun _ => rfl⟩
    | some b => exact ⟨fun h => (by cases h), fun h => (by cases h)⟩
  | some a => cases i with
    | none => exact ⟨fun h => (by cases h), fun h => (by cases h)⟩
    | some b => exact ⟨fun h => congrArg some (Nat.eq_of_beq_eq_true h).symm, fun h => (by cases h; exact Nat.beq_refl a)⟩
theorem cf_jb_iff {j : Option Nat} {i : Nat} : cf_jb j i = true ↔ (j = none ∨ j = some i) := by
  cases j <;> simp [cf_jb, Nat.beq_eq]
theorem cf_has_mem {ws : List (Nat × Option Nat)} {q : Nat × Option Nat} : cf_has ws q = true ↔ q ∈ ws := by
  induction ws with
  | nil => simp [cf_has]
  | cons p r ih =>
    have e : cf_has (p :: r) q = ((Nat.beq p.1 q.1 && cf_qb p.2 q.2) || cf_has r q) := rfl
    rw [e, Bool.or_eq_true, ih, List.mem_cons, Bool.and_eq_true, Nat.beq_eq, cf_qb_iff]
    constructor
    · rintro (⟨h1, h2⟩ | h)
      · exact Or.inl (Prod.ext h1.symm h2)
      · exact Or.inr h
    · rintro (h | h)
      · rw [h]; exact Or.inl ⟨rfl, rfl⟩
      · exact Or.inr h
theorem cf_sub_mem {a b : List (Nat × Option Nat)} : cf_sub a b = true ↔ ∀ q ∈ a, q ∈ b := by
  induction a with
  | nil => simp [cf_sub]
  | cons q r ih =>
    have e : cf_sub (q :: r) b = (cf_has b q && cf_sub r b) := rfl
    rw [e, Bool.and_eq_true, ih, cf_has_mem]
    simp
theorem cf_cov_iff {ws : List (Nat × Option Nat)} {x i : Nat} : cf_cov ws x i = true ↔ (x, none) ∈ ws ∨ (x, some i) ∈ ws := by
  induction ws with
  | nil => simp [cf_cov]
  | cons p r ih =>
    have e : cf_cov (p :: r) x i = ((Nat.beq p.1 x && cf_jb p.2 i) || cf_cov r x i) := rfl
    rw [e, Bool.or_eq_true, ih, Bool.and_eq_true, Nat.beq_eq, cf_jb_iff, List.mem_cons, List.mem_cons]
    obtain ⟨k, j⟩ := p
    constructor
    · rintro (⟨h1, h2 | h2⟩ | h | h)
      · exact Or.inl (Or.inl (Prod.ext h1.symm h2.symm))
      · exact Or.inr (Or.inl (Prod.ext h1.symm h2.symm))
      · exact Or.inl (Or.inr h)
      · exact Or.inr (Or.inr h)
    · rintro ((h | h) | (h | h))
      · rw [← h]; exact Or.inl ⟨rfl, Or.inl rfl⟩
      · exact Or.inr (Or.inl h)
      · rw [← h]; exact Or.inl ⟨rfl, Or.inr rfl⟩
      · exact Or.inr (Or.inr h)
theorem cf_tr {a b c : List (Nat × Option Nat)} (h : cf_sub a b = true) (k : cf_sub b c = true) : cf_sub a c = true := cf_sub_mem.mpr (fun q hq => cf_sub_mem.mp k q (cf_sub_mem.mp h q hq))
theorem cf_refl {ws : List (Nat × Option Nat)} {M : cd_M} : cf_ ws M M := fun _ _ _ => ⟨rfl, rfl⟩
theorem cf_trans {ws : List (Nat × Option Nat)} {M M1 M2 : cd_M} (h : cf_ ws M M1) (k : cf_ ws M1 M2) : cf_ ws M M2 := fun x i hx => ⟨(k x i hx).1.trans (h x i hx).1, (k x i hx).2.trans (h x i hx).2⟩
theorem cf_le {ws wt : List (Nat × Option Nat)} {M M1 : cd_M} (hs : cf_sub ws wt = true) (h : cf_ ws M M1) : cf_ wt M M1 := by
  intro x i hx
  apply h
  cases e : cf_cov ws x i with
  | false => rfl
  | true =>
    rcases cf_cov_iff.mp e with q | q
    · rw [cf_cov_iff.mpr (Or.inl (cf_sub_mem.mp hs _ q))] at hx; cases hx
    · rw [cf_cov_iff.mpr (Or.inr (cf_sub_mem.mp hs _ q))] at hx; cases hx
theorem cf_ne {ws : List (Nat × Option Nat)} {x i k j : Nat} (h : cf_cov ws x i = false) (hk : cf_cov ws k j = true) : ¬ (x = k ∧ i = j) := by
  rintro ⟨rfl, rfl⟩
  rw [hk] at h
  cases h
theorem cd_wI_at {M : cd_M} {k j : Nat} {v : Int32} {x i : Nat} : (cd_wI M k j v).1 x i = if x = k ∧ i = j then v else M.1 x i := by
  show (if x = k then upd (M.1 x) j v else M.1 x) i = _
  by_cases h : x = k
  · rw [if_pos h]
    show (if i = j then v else M.1 x i) = _
    by_cases h2 : i = j
    · rw [if_pos h2, if_pos ⟨h, h2⟩]
    · rw [if_neg h2, if_neg (fun q => h2 q.2)]
  · rw [if_neg h, if_neg (fun q => h q.1)]
theorem cd_wL_at {M : cd_M} {k j : Nat} {v : Int64} {x i : Nat} : (cd_wL M k j v).2 x i = if x = k ∧ i = j then v else M.2 x i := by
  show (if x = k then vp_updL (M.2 x) j v else M.2 x) i = _
  by_cases h : x = k
  · rw [if_pos h]
    show (if i = j then v else M.2 x i) = _
    by_cases h2 : i = j
    · rw [if_pos h2, if_pos ⟨h, h2⟩]
    · rw [if_neg h2, if_neg (fun q => h2 q.2)]
  · rw [if_neg h, if_neg (fun q => h q.1)]
section cfA
variable {ws wg : List (Nat × Option Nat)} {M0 M : cd_M} {k j : Nat}
theorem cf_wcI {v : Int32} (hc : cf_cov ws k j = true) (h : cf_ ws M0 M) : cf_ ws M0 (cd_wI M k j v) := by
  intro x i hx
  rw [cd_wI_at, if_neg (cf_ne hx hc)]
  exact h x i hx
theorem cf_wcL {v : Int64} (hc : cf_cov ws k j = true) (h : cf_ ws M0 M) : cf_ ws M0 (cd_wL M k j v) := by
  intro x i hx
  rw [cd_wL_at, if_neg (cf_ne hx hc)]
  exact h x i hx
theorem cf_wI {v : Int32} (hs : cf_sub wg ws = true) (hm : cf_has wg (k, none) = true) (h : cf_ ws M0 M) : cf_ ws M0 (cd_wI M k j v) := cf_wcI (cf_cov_iff.mpr (Or.inl (cf_sub_mem.mp hs _ (cf_has_mem.mp hm)))) h
theorem cf_wL {v : Int64} (hs : cf_sub wg ws = true) (hm : cf_has wg (k, none) = true) (h : cf_ ws M0 M) : cf_ ws M0 (cd_wL M k j v) := cf_wcL (cf_cov_iff.mpr (Or.inl (cf_sub_mem.mp hs _ (cf_has_mem.mp hm)))) h
theorem cf_wF {v : Int32} (hs : cf_sub wg ws = true) (hm : cf_has wg (k, some j) = true) (h : cf_ ws M0 M) : cf_ ws M0 (cd_wI M k j v) := cf_wcI (cf_cov_iff.mpr (Or.inr (cf_sub_mem.mp hs _ (cf_has_mem.mp hm)))) h
theorem cf_cI {k0 k1 sp dp n : Nat} (hs : cf_sub wg ws = true) (hm : cf_has wg (k1, none) = true) (h : cf_ ws M0 M) : cf_ ws M0 (cd_cI M k0 k1 sp dp n) := by
  intro x i hx
  have hc : x ≠ k1 := by
    rintro rfl
    rw [cf_cov_iff.mpr (Or.inl (cf_sub_mem.mp hs _ (cf_has_mem.mp hm)))] at hx
    cases hx
  have e : (cd_cI M k0 k1 sp dp n).1 x = M.1 x := by
    show (if x = k1 then _ else M.1 x) = _
    rw [if_neg hc]
  rw [e]
  exact h x i hx
theorem cf_cL {k0 k1 sp dp n : Nat} (hs : cf_sub wg ws = true) (hm : cf_has wg (k1, none) = true) (h : cf_ ws M0 M) : cf_ ws M0 (cd_cL M k0 k1 sp dp n) := by
  intro x i hx
  have hc : x ≠ k1 := by
    rintro rfl
    rw [cf_cov_iff.mpr (Or.inl (cf_sub_mem.mp hs _ (cf_has_mem.mp hm)))] at hx
    cases hx
  have e : (cd_cL M k0 k1 sp dp n).2 x = M.2 x := by
    show (if x = k1 then _ else M.2 x) = _
    rw [if_neg hc]
  rw [e]
  exact h x i hx
end cfA
section cfB
variable {ws : List (Nat × Option Nat)} {M0 : cd_M}
theorem cp_ltM {β : Type} {v : cd_M} {K : cd_M → Option β} {Q : β → Prop} (h : cf_ ws M0 v) (k : ∀ M1, cf_ ws M0 M1 → cp (K M1) Q) : cp (cd_lt v K) Q := k v h
theorem cp_ltX {α β : Type} {v : α} {K : α → Option β} {Q : β → Prop} (k : ∀ x, cp (K x) Q) : cp (cd_lt v K) Q := k v
theorem cp_ltU {β : Type} {v : Int32 × cd_M} {K : Int32 → cd_M → Option β} {Q : β → Prop} (h : ci_ v (fun r => cf_ ws M0 r.2)) (k : ∀ x M1, cf_ ws M0 M1 → cp (K x M1) Q) : cp (cd_lt v (cd_u2 K)) Q := k v.1 v.2 h
theorem ci_ltM {β : Type} {v : cd_M} {K : cd_M → β} {Q : β → Prop} (h : cf_ ws M0 v) (k : ∀ M1, cf_ ws M0 M1 → ci_ (K M1) Q) : ci_ (cd_lt v K) Q := k v h
theorem ci_ltX {α β : Type} {v : α} {K : α → β} {Q : β → Prop} (k : ∀ x, ci_ (K x) Q) : ci_ (cd_lt v K) Q := k v
theorem ci_ltU {β : Type} {v : Int32 × cd_M} {K : Int32 → cd_M → β} {Q : β → Prop} (h : ci_ v (fun r => cf_ ws M0 r.2)) (k : ∀ x M1, cf_ ws M0 M1 → ci_ (K x M1) Q) : ci_ (cd_lt v (cd_u2 K)) Q := k v.1 v.2 h
theorem cp_bindX {α β : Type} {o : Option α} {K : α → Option β} {Q : β → Prop} (k : ∀ x, cp (K x) Q) : cp (o.bind K) Q := by
  intro r h
  obtain ⟨a, ha, hk⟩ := Option.bind_eq_some_iff.mp h
  exact k a r hk
theorem cp_bindM {β : Type} {o : Option cd_M} {K : cd_M → Option β} {Q : β → Prop} (h : cp o (cf_ ws M0)) (k : ∀ M1, cf_ ws M0 M1 → cp (K M1) Q) : cp (o.bind K) Q := by
  intro r e
  obtain ⟨a, ha, hk⟩ := Option.bind_eq_some_iff.mp e
  exact k a (h a ha) r hk
theorem cp_bindU {β : Type} {o : Option (Int32 × cd_M)} {K : Int32 → cd_M → Option β} {Q : β → Prop} (h : cp o (fun r => cf_ ws M0 r.2)) (k : ∀ x M1, cf_ ws M0 M1 → cp (K x M1) Q) : cp (o.bind (cd_u2 K)) Q := by
  intro r e
  obtain ⟨a, ha, hk⟩ := Option.bind_eq_some_iff.mp e
  exact k a.1 a.2 (h a ha) r hk
end cfB
