/-! groups over plain numbers -/
section grA
variable {P : Nat → Bool} {k b : Nat}
theorem sel_up (h : sel_ P k b < b) : sel_ P k (b + 1) = sel_ P k b := by
  show (if sel_ P k b < b then sel_ P k b else _) = _
  rw [if_pos h]
theorem sel_ge : ∀ {b : Nat}, cnt_ P b ≤ k → sel_ P k b = b
  | 0, _ => rfl
  | b + 1, h => by
    have h1 : cnt_ P b ≤ k := Nat.le_trans (cnt_mono (Nat.le_succ b)) h
    have ih := sel_ge (b := b) h1
    show (if sel_ P k b < b then sel_ P k b else if P b = true ∧ cnt_ P b = k then b else b + 1) = b + 1
    rw [if_neg (by omega), if_neg]
    rintro ⟨z1, z2⟩
    have := cnt_succ z1
    omega
theorem sel_lt : ∀ {b : Nat}, k < cnt_ P b → sel_ P k b < b ∧ P (sel_ P k b) = true ∧ cnt_ P (sel_ P k b) = k
  | 0, h => absurd h (Nat.not_lt_zero k)
  | b + 1, h => by
    by_cases q : k < cnt_ P b
    · have ih := sel_lt (b := b) q
      rw [sel_up ih.1]
      exact ⟨by omega, ih.2⟩
    · have e := sel_ge (P := P) (k := k) (b := b) (by omega)
      have pb : P b = true := by
        by_cases z : P b = true
        · exact z
        · rw [cnt_same z] at h; omega
      have ck := cnt_succ pb
      have es : sel_ P k (b + 1) = b := by
        show (if sel_ P k b < b then sel_ P k b else if P b = true ∧ cnt_ P b = k then b else b + 1) = b
        rw [if_neg (by omega), if_pos ⟨pb, by omega⟩]
      rw [es]
      exact ⟨by omega, pb, by omega⟩
theorem sel_P (h : P b = true) : sel_ P (cnt_ P b) (b + 1) = b := by
  have e := sel_ge (P := P) (k := cnt_ P b) (b := b) (Nat.le_refl _)
  show (if sel_ P _ b < b then sel_ P _ b else if P b = true ∧ cnt_ P b = cnt_ P b then b else b + 1) = b
  rw [if_neg (by omega), if_pos ⟨h, rfl⟩]
theorem sel_keep {c : Nat} (h : k < cnt_ P b) : b ≤ c → sel_ P k c = sel_ P k b := by
  intro hc
  induction c with
  | zero => rw [show b = 0 by omega]
  | succ c ih =>
    by_cases z : b = c + 1
    · rw [z]
    · have e := ih (by omega)
      have l := (sel_lt h).1
      rw [sel_up (by omega), e]
theorem sel_is {i : Nat} (h : P i = true) (hi : i < b) : sel_ P (cnt_ P i) b = i := by
  have e := sel_P h
  have l : cnt_ P i < cnt_ P (i + 1) := by rw [cnt_succ h]; omega
  rw [sel_keep l (by omega), e]
theorem sel_le : ∀ {b : Nat}, sel_ P k b ≤ b
  | 0 => Nat.le_refl _
  | b + 1 => by
    have := sel_le (b := b)
    show (if sel_ P k b < b then sel_ P k b else if P b = true ∧ cnt_ P b = k then b else b + 1) ≤ b + 1
    split
    · omega
    · split <;> omega
/-- starts of groups go up -/
theorem sel_mono (h : k < cnt_ P b) : sel_ P k b < sel_ P (k + 1) b := by
  have a := sel_lt h
  by_cases q : k + 1 < cnt_ P b
  · have c := sel_lt q
    rcases Nat.lt_trichotomy (sel_ P k b) (sel_ P (k + 1) b) with z | z | z
    · exact z
    · rw [z] at a; omega
    · have := cnt_mono (P := P) (Nat.le_of_lt z); omega
  · rw [sel_ge (k := k + 1) (by omega)]; exact a.1
end grA
section grB
variable {n : Nat} {pa fr rp : Nat → Nat} {L : Nat} {nu : Nat → Nat} {ed : Nat}
theorem fi_0 (h : okc_ L nu) : fi_ (sts_ n pa fr rp L nu ed) 0 = true := by
  unfold fi_
  rw [decide_eq_true_eq]
  exact (ent_iff.mp (en_spec h 0).1).2
/-- within a group: one more is seen, of the other parity -/
theorem fi_stp (h : okc_ L nu) {f : Nat} (hf : ¬ fi_ (sts_ n pa fr rp L nu ed) (f + 1) = true) : sts_ n pa fr rp L nu ed (f + 1) % 5 = sts_ n pa fr rp L nu ed f % 5 + 1 ∧ pa (f + 1) ≠ pa f := by
  unfold fi_ at hf
  rw [decide_eq_true_eq] at hf
  have q : edt_ n pa fr rp L nu ed (f + 1) = false := by
    cases z : edt_ n pa fr rp L nu ed (f + 1) with
    | false => rfl
    | true =>
      exfalso
      have e2 : edt_ n pa fr rp L nu ed (f + 1) = !on_ n pa fr rp L nu ed f (sts_ n pa fr rp L nu ed f) := rfl
      have e1 : sts_ n pa fr rp L nu ed (f + 1) = if on_ n pa fr rp L nu ed f (sts_ n pa fr rp L nu ed f) = true then ons_ L nu (sts_ n pa fr rp L nu ed f) else en_ n pa fr rp L nu ed (f + 1) := rfl
      rw [e2] at z
      have o : on_ n pa fr rp L nu ed f (sts_ n pa fr rp L nu ed f) = false := by
        cases u : on_ n pa fr rp L nu ed f (sts_ n pa fr rp L nu ed f) with
        | true => rw [u] at z; cases z
        | false => rfl
      rw [e1, o, if_neg (by decide)] at hf
      exact hf (ent_iff.mp (en_spec h (f + 1)).1).2
  obtain ⟨p1, p2⟩ := edt_par q
  refine ⟨?_, p1⟩
  rw [p2] at hf ⊢
  have v := sts_vld (n := n) (pa := pa) (fr := fr) (rp := rp) (ed := ed) h f
  have h5 := (h.2.2 _ v.1).2
  have v3 := v.2.2
  unfold ons_ at hf ⊢
  by_cases z : sts_ n pa fr rp L nu ed f / 5 % 5 + 1 < nu (sts_ n pa fr rp L nu ed f / 25)
  · rw [if_pos z]; omega
  · rw [if_neg z] at hf; omega
end grB
/-- what paths must be for groups: seen counts on within a group, parities change there -/
def sq_ (n : Nat) (pa ss : Nat → Nat) : Prop := (0 < n → fi_ ss 0 = true) ∧ ∀ f, f + 1 < n → ¬ fi_ ss (f + 1) = true → ss (f + 1) % 5 = ss f % 5 + 1 ∧ pa (f + 1) ≠ pa f
theorem sq_sts {n : Nat} {pa fr rp : Nat → Nat} {L : Nat} {nu : Nat → Nat} {ed : Nat} (h : okc_ L nu) : sq_ n pa (sts_ n pa fr rp L nu ed) := ⟨fun _ => fi_0 h, fun f _ q => fi_stp h q⟩
section grC
variable {n : Nat} {pa ss : Nat → Nat}
theorem cnt_pos (h : sq_ n pa ss) {f : Nat} (hf : f < n) : 1 ≤ cnt_ (fi_ ss) (f + 1) := by
  have := cnt_succ (h.1 (by omega))
  have := cnt_mono (P := fi_ ss) (show 0 + 1 ≤ f + 1 by omega)
  omega
/-- how far a field is behind its group's first -/
theorem seen_sel (h : sq_ n pa ss) : ∀ f, f < n → sel_ (fi_ ss) (cnt_ (fi_ ss) (f + 1) - 1) (f + 1) + ss f % 5 = f
  | 0, h0 => by
    have p0 := h.1 h0
    have e := sel_P p0
    have c0 : cnt_ (fi_ ss) 0 = 0 := rfl
    have c1 := cnt_succ p0
    rw [c1, c0, show 0 + 1 - 1 = 0 by omega]
    rw [c0] at e
    rw [e]
    unfold fi_ at p0
    rw [decide_eq_true_eq] at p0
    omega
  | f + 1, hf => by
    have ih := seen_sel h f (by omega)
    have cp := cnt_pos h (f := f) (by omega)
    by_cases q : fi_ ss (f + 1) = true
    · have e := sel_P q
      have c1 := cnt_succ q
      rw [c1, show cnt_ (fi_ ss) (f + 1) + 1 - 1 = cnt_ (fi_ ss) (f + 1) by omega, e]
      unfold fi_ at q
      rw [decide_eq_true_eq] at q
      omega
    · have c1 := cnt_same q
      have l := sel_lt (P := fi_ ss) (k := cnt_ (fi_ ss) (f + 1) - 1) (b := f + 1) (by omega)
      rw [c1, sel_up l.1, (h.2 f hf q).1]
      omega
end grC
section grE
variable {w n : Nat} {sm : Nat → Nat → Nat} {pa vl : Nat → Nat} {P : Nat → Bool}
theorem mt_eq (g : Nat) : mt_ w n sm pa vl P g = (!sec_ w n sm pa vl P g && can_ w n sm pa vl P g) := by
  cases g with
  | zero => show can_ w n sm pa vl P 0 = (!false && can_ w n sm pa vl P 0); simp
  | succ g => rfl
theorem mt_can {g : Nat} (h : mt_ w n sm pa vl P g = true) : sec_ w n sm pa vl P g = false ∧ can_ w n sm pa vl P g = true := by
  rw [mt_eq, Bool.and_eq_true, Bool.not_eq_true'] at h
  exact h
theorem gs_lt {g : Nat} (h : g < cnt_ P n) : gs_ n P g < n := (sel_lt h).1
theorem gs_mono {g : Nat} (h : g < cnt_ P n) : gs_ n P g < gs_ n P (g + 1) := sel_mono h
theorem gs_le {g : Nat} : gs_ n P g ≤ n := sel_le
theorem pt_lt {g : Nat} (h : g < cnt_ P n) : pt_ w n sm pa vl P g < n := by
  have a := gs_lt h
  have b := gs_mono h
  have c := gs_le (n := n) (P := P) (g := g + 1)
  unfold pt_
  by_cases q : orp_ n P g = true
  · rw [if_pos q]
    by_cases z : mt_ w n sm pa vl P g = true
    · rw [if_pos z]
      have := (mt_can z).2
      unfold can_ at this
      rw [decide_eq_true_eq] at this
      exact gs_lt this.1
    · rw [if_neg z]; exact a
  · rw [if_neg q]
    unfold orp_ at q
    rw [decide_eq_true_eq] at q
    omega
theorem ff_lt {g p : Nat} (h : g < cnt_ P n) : ff_ w n sm pa vl P g p < n := by
  unfold ff_
  split
  · exact gs_lt h
  · exact pt_lt h
theorem fx_lt {x p : Nat} (h : x < cnt_ (nsc_ w n sm pa vl P) (cnt_ P n)) : fx_ w n sm pa vl P x p < n := ff_lt (sel_lt h).1
end grE
