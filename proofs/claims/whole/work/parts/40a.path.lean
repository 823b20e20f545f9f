/-! the path over plain numbers: least ones, weights, where it goes -/
theorem fst_spec {P : Nat → Bool} {V : Nat → Nat} (h0 : P 0 = true) : ∀ b, 0 < b → P (fst_ P V b) = true ∧ fst_ P V b < b ∧ (∀ j, j < b → P j = true → V (fst_ P V b) ≤ V j) ∧ ∀ j, j < fst_ P V b → P j = true → V (fst_ P V b) < V j
  | 0, h => absurd h (Nat.lt_irrefl 0)
  | 1, _ => by
    have e : fst_ P V 1 = 0 := by
      show (if P 0 = true ∧ V 0 < V (fst_ P V 0) then 0 else fst_ P V 0) = 0
      by_cases q : P 0 = true ∧ V 0 < V (fst_ P V 0)
      · rw [if_pos q]
      · rw [if_neg q]; rfl
    rw [e]
    refine ⟨h0, by omega, fun j hj _ => ?_, fun j hj _ => absurd hj (Nat.not_lt_zero j)⟩
    rw [show j = 0 by omega]
    exact Nat.le_refl _
  | b + 2, _ => by
    obtain ⟨i1, i2, i3, i4⟩ := fst_spec (P := P) (V := V) h0 (b + 1) (by omega)
    have e : fst_ P V (b + 2) = if P (b + 1) = true ∧ V (b + 1) < V (fst_ P V (b + 1)) then b + 1 else fst_ P V (b + 1) := rfl
    by_cases q : P (b + 1) = true ∧ V (b + 1) < V (fst_ P V (b + 1))
    · rw [e, if_pos q]
      refine ⟨q.1, by omega, fun j hj pj => ?_, fun j hj pj => ?_⟩
      · by_cases z : j = b + 1
        · rw [z]; exact Nat.le_refl _
        · have := i3 j (by omega) pj; omega
      · have := i3 j (by omega) pj; omega
    · rw [e, if_neg q]
      refine ⟨i1, by omega, fun j hj pj => ?_, i4⟩
      by_cases z : j = b + 1
      · rw [z] at pj ⊢
        by_cases y : V (b + 1) < V (fst_ P V (b + 1))
        · exact absurd ⟨pj, y⟩ q
        · omega
      · exact i3 j (by omega) pj
/-- the first of the least ones is one alone -/
theorem fst_uniq {C : Nat → Prop} {V : Nat → Nat} {B a b : Nat} (ha : C a ∧ a < B ∧ (∀ j, j < B → C j → V a ≤ V j) ∧ ∀ j, j < a → C j → V a < V j) (hb : C b ∧ b < B ∧ (∀ j, j < B → C j → V b ≤ V j) ∧ ∀ j, j < b → C j → V b < V j) : a = b := by
  obtain ⟨a1, a2, a3, a4⟩ := ha
  obtain ⟨b1, b2, b3, b4⟩ := hb
  rcases Nat.lt_trichotomy a b with h | h | h
  · have := b4 a h a1; have := a3 b b2 b1; omega
  · exact h
  · have := a4 b h b1; have := b3 a a2 a1; omega
/-- a cadence as it may be -/
def okc_ (L : Nat) (nu : Nat → Nat) : Prop := 1 ≤ L ∧ L ≤ 6 ∧ ∀ p, p < L → 2 ≤ nu p ∧ nu p ≤ 5
section pwA
variable {L : Nat} {nu : Nat → Nat}
theorem vld_0 (h : okc_ L nu) : vld_ L nu 0 := ⟨by show 0 < L; have := h.1; omega, by show 0 < nu 0; have := (h.2.2 0 h.1).1; omega, Nat.le_refl _⟩
theorem ent_iff {st : Nat} : ent_ L nu st = true ↔ vld_ L nu st ∧ st % 5 = 0 := by unfold ent_; rw [decide_eq_true_eq]
theorem ent_0 (h : okc_ L nu) : ent_ L nu 0 = true := ent_iff.mpr ⟨vld_0 h, rfl⟩
theorem vld_lt (h : okc_ L nu) {st : Nat} (v : vld_ L nu st) : st < 150 := by
  have := h.2.1
  have := v.1
  omega
theorem vld_ons (h : okc_ L nu) {st : Nat} (v : vld_ L nu st) : vld_ L nu (ons_ L nu st) := by
  obtain ⟨v1, v2, v3⟩ := v
  have h5 := (h.2.2 _ v1).2
  unfold ons_
  by_cases q : st / 5 % 5 + 1 < nu (st / 25)
  · rw [if_pos q]
    have e1 : (st + 6) / 25 = st / 25 := by omega
    have e2 : (st + 6) / 5 % 5 = st / 5 % 5 + 1 := by omega
    have e3 : (st + 6) % 5 = st % 5 + 1 := by omega
    exact ⟨by rw [e1]; exact v1, by rw [e1, e2]; exact q, by rw [e2, e3]; omega⟩
  · rw [if_neg q]
    have hp : (st / 25 + 1) % L < L := Nat.mod_lt _ (by omega)
    generalize (st / 25 + 1) % L = x at hp
    have e1 : 25 * x / 25 = x := by omega
    have e2 : 25 * x / 5 % 5 = 0 := by omega
    have e3 : 25 * x % 5 = 0 := by omega
    have := (h.2.2 _ hp).1
    exact ⟨by rw [e1]; exact hp, by rw [e1, e2]; omega, by rw [e2, e3]; omega⟩
end pwA
section pwB
variable {n : Nat} {pa fr rp : Nat → Nat} {L : Nat} {nu : Nat → Nat} {ed : Nat}
theorem en_spec (h : okc_ L nu) (f : Nat) : ent_ L nu (en_ n pa fr rp L nu ed f) = true ∧ en_ n pa fr rp L nu ed f < 150 ∧ (∀ j, j < 150 → ent_ L nu j = true → W_ n pa fr rp L nu ed f (en_ n pa fr rp L nu ed f) ≤ W_ n pa fr rp L nu ed f j) ∧ ∀ j, j < en_ n pa fr rp L nu ed f → ent_ L nu j = true → W_ n pa fr rp L nu ed f (en_ n pa fr rp L nu ed f) < W_ n pa fr rp L nu ed f j := fst_spec (ent_0 h) 150 (by omega)
theorem W_last (hn : 0 < n) (st : Nat) : W_ n pa fr rp L nu ed (n - 1) st = 128 * ca_ fr rp (n - 1) st := by
  unfold W_
  rw [show n - 1 - (n - 1) = 0 by omega]
  rfl
theorem W_step {f : Nat} (hf : f + 1 < n) (st : Nat) : W_ n pa fr rp L nu ed f st = 128 * ca_ fr rp f st + (if pa (f + 1) ≠ pa f ∧ W_ n pa fr rp L nu ed (f + 1) (ons_ L nu st) < bye_ n pa fr rp L nu ed (f + 1) then W_ n pa fr rp L nu ed (f + 1) (ons_ L nu st) else bye_ n pa fr rp L nu ed (f + 1)) := by
  obtain ⟨g, hg⟩ : ∃ g, n - 1 - (f + 1) = g := ⟨_, rfl⟩
  have e1 : n - 1 - f = g + 1 := by omega
  have e2 : n - 1 - g = f + 1 := by omega
  have e3 : n - 1 - (g + 1) = f := by omega
  unfold bye_ en_ W_
  rw [hg, e1]
  show 128 * ca_ fr rp (n - 1 - (g + 1)) st + (if pa (n - 1 - g) ≠ pa (n - 1 - (g + 1)) ∧ _ then _ else _) = _
  rw [e2, e3]
theorem W_on {f : Nat} (hf : f + 1 < n) (st : Nat) : W_ n pa fr rp L nu ed f st = 128 * ca_ fr rp f st + (if on_ n pa fr rp L nu ed f st = true then W_ n pa fr rp L nu ed (f + 1) (ons_ L nu st) else bye_ n pa fr rp L nu ed (f + 1)) := by
  rw [W_step hf]
  congr 1
  unfold on_
  simp only [decide_eq_true_eq]
  by_cases q : pa (f + 1) ≠ pa f
  · by_cases q2 : W_ n pa fr rp L nu ed (f + 1) (ons_ L nu st) < bye_ n pa fr rp L nu ed (f + 1)
    · rw [if_pos ⟨q, q2⟩, if_pos ⟨q, Or.inl q2⟩]
    · rw [if_neg (fun z => q2 z.2)]
      by_cases q3 : W_ n pa fr rp L nu ed (f + 1) (ons_ L nu st) = bye_ n pa fr rp L nu ed (f + 1) ∧ ons_ L nu st < en_ n pa fr rp L nu ed (f + 1)
      · rw [if_pos ⟨q, Or.inr q3⟩, q3.1]
      · rw [if_neg (fun z => z.2.elim q2 q3)]
  · rw [if_neg (fun z => q z.1), if_neg (fun z => q z.1)]
/-- what a field costs is less than a thousand -/
def lo_ (fr rp : Nat → Nat) (ed : Nat) : Prop := (∀ f, fr f ≤ 999) ∧ (∀ f, rp f ≤ 999) ∧ ed ≤ 999
theorem ca_le (h : lo_ fr rp ed) (f st : Nat) : ca_ fr rp f st ≤ 999 := by
  unfold ca_
  by_cases q : st % 5 < 2
  · rw [if_pos q]; exact h.1 f
  · rw [if_neg q]; exact h.2.1 f
theorem wt_le (h : lo_ fr rp ed) : ∀ g st, wt_ n pa fr rp L nu ed g st ≤ (g + 1) * 255745
  | 0, st => by
    have := ca_le h (n - 1) st
    show 128 * ca_ fr rp (n - 1) st ≤ _
    omega
  | g + 1, st => by
    have h1 := ca_le h (n - 1 - (g + 1)) st
    have h2 := wt_le h g (fst_ (ent_ L nu) (wt_ n pa fr rp L nu ed g) 150)
    have h3 := wt_le h g (ons_ L nu st)
    have h4 := h.2.2
    show 128 * ca_ fr rp (n - 1 - (g + 1)) st + (if pa (n - 1 - g) ≠ pa (n - 1 - (g + 1)) ∧ wt_ n pa fr rp L nu ed g (ons_ L nu st) < wt_ n pa fr rp L nu ed g (fst_ (ent_ L nu) (wt_ n pa fr rp L nu ed g) 150) + 128 * ed + 1 then wt_ n pa fr rp L nu ed g (ons_ L nu st) else wt_ n pa fr rp L nu ed g (fst_ (ent_ L nu) (wt_ n pa fr rp L nu ed g) 150) + 128 * ed + 1) ≤ _
    split <;> omega
theorem W_le (h : lo_ fr rp ed) (hn : n ≤ 90) (f st : Nat) : W_ n pa fr rp L nu ed f st ≤ 23017050 := by
  have := wt_le (n := n) (pa := pa) (L := L) (nu := nu) h (n - 1 - f) st
  have : (n - 1 - f + 1) * 255745 ≤ 90 * 255745 := Nat.mul_le_mul_right _ (by omega)
  unfold W_
  omega
theorem bye_le (h : lo_ fr rp ed) (hn : n ≤ 90) (f : Nat) : bye_ n pa fr rp L nu ed f ≤ 23144923 := by
  have := W_le (pa := pa) (L := L) (nu := nu) h hn f (en_ n pa fr rp L nu ed f)
  have := h.2.2
  unfold bye_
  omega
theorem sts_vld (h : okc_ L nu) : ∀ f, vld_ L nu (sts_ n pa fr rp L nu ed f)
  | 0 => (ent_iff.mp (en_spec h 0).1).1
  | f + 1 => by
    show vld_ L nu (if on_ n pa fr rp L nu ed f (sts_ n pa fr rp L nu ed f) = true then ons_ L nu (sts_ n pa fr rp L nu ed f) else en_ n pa fr rp L nu ed (f + 1))
    by_cases q : on_ n pa fr rp L nu ed f (sts_ n pa fr rp L nu ed f) = true
    · rw [if_pos q]; exact vld_ons h (sts_vld h f)
    · rw [if_neg q]; exact (ent_iff.mp (en_spec h (f + 1)).1).1
/-- where it goes: the first of the least ones among the entries and what going on comes to -/
def gC_ (L : Nat) (nu : Nat → Nat) (q : Prop) (on o : Nat) : Prop := vld_ L nu o ∧ (o % 5 = 0 ∨ (q ∧ o = on))
theorem goes_1 (h : okc_ L nu) {f st : Nat} (v : vld_ L nu st) {x : Nat} (hx : x = if on_ n pa fr rp L nu ed f st = true then ons_ L nu st else en_ n pa fr rp L nu ed (f + 1)) {V : Nat → Nat} (hV1 : ∀ o, pa (f + 1) ≠ pa f ∧ o = ons_ L nu st → V o = W_ n pa fr rp L nu ed (f + 1) o) (hV2 : ∀ o, ¬ (pa (f + 1) ≠ pa f ∧ o = ons_ L nu st) → V o = W_ n pa fr rp L nu ed (f + 1) o + 128 * ed + 1) :
    (gC_ L nu (pa (f + 1) ≠ pa f) (ons_ L nu st) x ∧ x < 150 ∧ (∀ j, j < 150 → gC_ L nu (pa (f + 1) ≠ pa f) (ons_ L nu st) j → V x ≤ V j) ∧ ∀ j, j < x → gC_ L nu (pa (f + 1) ≠ pa f) (ons_ L nu st) j → V x < V j) ∧ ((pa (f + 1) ≠ pa f ∧ x = ons_ L nu st) ↔ on_ n pa fr rp L nu ed f st = true) := by
  obtain ⟨e1, e2, e3, e4⟩ := en_spec (n := n) (pa := pa) (fr := fr) (rp := rp) (ed := ed) h (f + 1)
  have vo := vld_ons h v
  have ev : ∀ j, ¬ (pa (f + 1) ≠ pa f ∧ j = ons_ L nu st) → gC_ L nu (pa (f + 1) ≠ pa f) (ons_ L nu st) j → ent_ L nu j = true := fun j hj c => ent_iff.mpr ⟨c.1, c.2.resolve_right hj⟩
  have hb : bye_ n pa fr rp L nu ed (f + 1) = W_ n pa fr rp L nu ed (f + 1) (en_ n pa fr rp L nu ed (f + 1)) + 128 * ed + 1 := rfl
  by_cases q : on_ n pa fr rp L nu ed f st = true
  · rw [if_pos q] at hx
    have q' := q
    unfold on_ at q'
    rw [decide_eq_true_eq] at q'
    obtain ⟨q1, q2⟩ := q'
    have vx : V x = W_ n pa fr rp L nu ed (f + 1) (ons_ L nu st) := by rw [hV1 x ⟨q1, hx⟩, hx]
    refine ⟨⟨⟨by rw [hx]; exact vo, Or.inr ⟨q1, hx⟩⟩, by rw [hx]; exact vld_lt h vo, fun j hj c => ?_, fun j hj c => ?_⟩, fun _ => q, fun _ => ⟨q1, hx⟩⟩
    · by_cases z : pa (f + 1) ≠ pa f ∧ j = ons_ L nu st
      · rw [vx, hV1 j z, z.2]; exact Nat.le_refl _
      · have := e3 j hj (ev j z c)
        rw [vx, hV2 j z]
        omega
    · have z : ¬ (pa (f + 1) ≠ pa f ∧ j = ons_ L nu st) := fun z => by omega
      have := e3 j (by have := vld_lt h c.1; omega) (ev j z c)
      rw [vx, hV2 j z]
      rcases q2 with q2 | q2
      · omega
      · have := e4 j (by omega) (ev j z c)
        omega
  · rw [if_neg q] at hx
    have q' := q
    unfold on_ at q'
    rw [decide_eq_true_eq] at q'
    have ne : ¬ (pa (f + 1) ≠ pa f ∧ x = ons_ L nu st) := by
      rintro ⟨z1, z2⟩
      apply q'
      refine ⟨z1, Or.inl ?_⟩
      rw [hb, ← z2, hx]
      omega
    have vx : V x = bye_ n pa fr rp L nu ed (f + 1) := by rw [hV2 x ne, hb, hx]
    refine ⟨⟨⟨by rw [hx]; exact (ent_iff.mp e1).1, Or.inl (by rw [hx]; exact (ent_iff.mp e1).2)⟩, by rw [hx]; exact e2, fun j hj c => ?_, fun j hj c => ?_⟩, fun z => absurd z ne, fun z => absurd z q⟩
    · by_cases z : pa (f + 1) ≠ pa f ∧ j = ons_ L nu st
      · have : ¬ W_ n pa fr rp L nu ed (f + 1) (ons_ L nu st) < bye_ n pa fr rp L nu ed (f + 1) := fun y => q' ⟨z.1, Or.inl y⟩
        rw [vx, hV1 j z, z.2]
        omega
      · have := e3 j hj (ev j z c)
        rw [vx, hV2 j z]
        omega
    · by_cases z : pa (f + 1) ≠ pa f ∧ j = ons_ L nu st
      · have y1 : ¬ W_ n pa fr rp L nu ed (f + 1) (ons_ L nu st) < bye_ n pa fr rp L nu ed (f + 1) := fun y => q' ⟨z.1, Or.inl y⟩
        have y2 : ¬ (W_ n pa fr rp L nu ed (f + 1) (ons_ L nu st) = bye_ n pa fr rp L nu ed (f + 1)) := fun y => q' ⟨z.1, Or.inr ⟨y, by rw [← z.2, ← hx]; exact hj⟩⟩
        rw [vx, hV1 j z, z.2]
        omega
      · have := e4 j (by rw [← hx]; exact hj) (ev j z c)
        rw [vx, hV2 j z]
        omega
/-- the weight of the first field is the whole path's -/
theorem W_tot (hn : 0 < n) : ∀ k, k ≤ n → 128 * sig_ (cst_ n pa fr rp L nu ed) k + cnt_ (edt_ n pa fr rp L nu ed) k + (if k < n then W_ n pa fr rp L nu ed k (sts_ n pa fr rp L nu ed k) + (if edt_ n pa fr rp L nu ed k = true then 128 * ed + 1 else 0) else 0) = W_ n pa fr rp L nu ed 0 (en_ n pa fr rp L nu ed 0)
  | 0, _ => by
    rw [if_pos hn]
    show 128 * 0 + 0 + (W_ n pa fr rp L nu ed 0 (en_ n pa fr rp L nu ed 0) + (if false = true then 128 * ed + 1 else 0)) = _
    rw [if_neg (by decide)]
    omega
  | k + 1, hk => by
    have ih := W_tot hn k (by omega)
    rw [if_pos (by omega)] at ih
    have es : sig_ (cst_ n pa fr rp L nu ed) (k + 1) = sig_ (cst_ n pa fr rp L nu ed) k + cst_ n pa fr rp L nu ed k := rfl
    have ec : cnt_ (edt_ n pa fr rp L nu ed) (k + 1) = cnt_ (edt_ n pa fr rp L nu ed) k + (if edt_ n pa fr rp L nu ed k = true then 1 else 0) := rfl
    have et : cst_ n pa fr rp L nu ed k = ca_ fr rp k (sts_ n pa fr rp L nu ed k) + (if edt_ n pa fr rp L nu ed k = true then ed else 0) := rfl
    rw [es, ec, et, ← ih]
    have key : W_ n pa fr rp L nu ed k (sts_ n pa fr rp L nu ed k) = 128 * ca_ fr rp k (sts_ n pa fr rp L nu ed k) + (if k + 1 < n then W_ n pa fr rp L nu ed (k + 1) (sts_ n pa fr rp L nu ed (k + 1)) + (if edt_ n pa fr rp L nu ed (k + 1) = true then 128 * ed + 1 else 0) else 0) := by
      by_cases q : k + 1 < n
      · rw [if_pos q, W_on q]
        have e1 : sts_ n pa fr rp L nu ed (k + 1) = if on_ n pa fr rp L nu ed k (sts_ n pa fr rp L nu ed k) = true then ons_ L nu (sts_ n pa fr rp L nu ed k) else en_ n pa fr rp L nu ed (k + 1) := rfl
        have e2 : edt_ n pa fr rp L nu ed (k + 1) = !on_ n pa fr rp L nu ed k (sts_ n pa fr rp L nu ed k) := rfl
        rw [e1, e2]
        cases on_ n pa fr rp L nu ed k (sts_ n pa fr rp L nu ed k) with
        | true => rw [if_pos rfl, if_pos rfl, if_neg (by decide)]; omega
        | false =>
          rw [if_neg (by decide), if_neg (by decide), if_pos (by decide)]
          unfold bye_
          omega
      · have ek : k = n - 1 := by omega
        rw [if_neg q]
        have := W_last (pa := pa) (fr := fr) (rp := rp) (L := L) (nu := nu) (ed := ed) hn (sts_ n pa fr rp L nu ed k)
        rw [← ek] at this
        rw [this]
        omega
    rw [key]
    split <;> omega
theorem cnt_le {P : Nat → Bool} : ∀ k, cnt_ P k ≤ k
  | 0 => Nat.le_refl _
  | k + 1 => by
    have := cnt_le (P := P) k
    show cnt_ P k + (if P k = true then 1 else 0) ≤ k + 1
    split <;> omega
theorem W_sum (hn : 0 < n) (h9 : n ≤ 90) : W_ n pa fr rp L nu ed 0 (en_ n pa fr rp L nu ed 0) / 128 = sig_ (cst_ n pa fr rp L nu ed) n := by
  have h := W_tot (pa := pa) (fr := fr) (rp := rp) (L := L) (nu := nu) (ed := ed) hn n (Nat.le_refl _)
  rw [if_neg (Nat.lt_irrefl n)] at h
  have := cnt_le (P := edt_ n pa fr rp L nu ed) n
  omega
/-- going on asks for the other parity -/
theorem edt_par {f : Nat} (h : edt_ n pa fr rp L nu ed (f + 1) = false) : pa (f + 1) ≠ pa f ∧ sts_ n pa fr rp L nu ed (f + 1) = ons_ L nu (sts_ n pa fr rp L nu ed f) := by
  have e2 : edt_ n pa fr rp L nu ed (f + 1) = !on_ n pa fr rp L nu ed f (sts_ n pa fr rp L nu ed f) := rfl
  have e1 : sts_ n pa fr rp L nu ed (f + 1) = if on_ n pa fr rp L nu ed f (sts_ n pa fr rp L nu ed f) = true then ons_ L nu (sts_ n pa fr rp L nu ed f) else en_ n pa fr rp L nu ed (f + 1) := rfl
  rw [e2] at h
  have q : on_ n pa fr rp L nu ed f (sts_ n pa fr rp L nu ed f) = true := by
    cases z : on_ n pa fr rp L nu ed f (sts_ n pa fr rp L nu ed f) with
    | true => rfl
    | false => rw [z] at h; cases h
  rw [e1, if_pos q]
  unfold on_ at q
  rw [decide_eq_true_eq] at q
  exact ⟨q.1, rfl⟩
end pwB
