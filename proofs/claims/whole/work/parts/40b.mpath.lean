/-! the path in the reference: what is least behind each state, where it goes -/
/-- fields and the cadence, as the path reads them -/
def MP (N : cd_M) (n : Nat) (pa : Nat → Nat) (c L : Nat) (nu : Nat → Nat) (ed : Nat) : Prop := N.1 15 24 = nI n ∧ (∀ i, i < n → N.1 64 (7 * i + 6) = nI (pa i)) ∧ N.1 15 29 = nI c ∧ N.1 60 c = nI L ∧ (∀ p, p < L → N.1 61 (6 * c + p) = nI (nu p)) ∧ N.1 62 1 = nI ed
def BP (n : Nat) (pa : Nat → Nat) (c L : Nat) (nu : Nat → Nat) (ed : Nat) (fr rp : Nat → Nat) : Prop := n ≤ 90 ∧ (∀ i, i < n → pa i < 2) ∧ c < 4 ∧ okc_ L nu ∧ lo_ fr rp ed
theorem MP_c {N N1 : cd_M} {n : Nat} {pa : Nat → Nat} {c L : Nat} {nu : Nat → Nat} {ed : Nat} (e : ∀ x i, (x = 60 ∨ x = 61 ∨ x = 62 ∨ x = 64 ∨ (x = 15 ∧ (i = 24 ∨ i = 29))) → N1.1 x i = N.1 x i) (h : MP N n pa c L nu ed) : MP N1 n pa c L nu ed := by
  obtain ⟨h1, h2, h3, h4, h5, h6⟩ := h
  refine ⟨?_, fun i hi => ?_, ?_, ?_, fun p hp => ?_, ?_⟩
  · rw [e _ _ (by omega)]; exact h1
  · rw [e _ _ (by omega)]; exact h2 i hi
  · rw [e _ _ (by omega)]; exact h3
  · rw [e _ _ (by omega)]; exact h4
  · rw [e _ _ (by omega)]; exact h5 p hp
  · rw [e _ _ (by omega)]; exact h6
theorem nI_nm1 {a : Nat} (h : a < 2 ^ 31) : ¬ nI a = -1 := fun z => nI_pos h (by rw [z]; decide)
theorem d25 {st : Nat} (h : st < 1000) : nI st / 25 = nI (st / 25) := pk_div (d := 25) (by omega) (by decide) (by decide)
theorem d5 {st : Nat} (h : st < 1000) : nI st / 5 = nI (st / 5) := pk_div (d := 5) (by omega) (by decide) (by decide)
theorem d55 {st : Nat} (h : st < 1000) : nI st / 5 - nI st / 5 / 5 * 5 = nI (st / 5 % 5) := by
  rw [d5 h]
  exact pk_rem (d := 5) (by omega) (by decide) (by decide)
theorem m5 {st : Nat} (h : st < 1000) : nI st - nI st / 5 * 5 = nI (st % 5) := pk_rem (d := 5) (by omega) (by decide) (by decide)
section mpA
variable {N : cd_M} {n : Nat} {pa fr rp : Nat → Nat} {c L : Nat} {nu : Nat → Nat} {ed : Nat}
theorem numAt (h : MP N n pa c L nu ed) (hB : BP n pa c L nu ed fr rp) {p : Nat} (hp : p < L) : f11_numberAt_15 (nI p) N = some (nI (nu p)) := by
  have h6 := hB.2.2.2.1.2.1
  have h4 := hB.2.2.1
  unfold f11_numberAt_15
  have e : (6 : Int32) * N.1 15 29 + nI p = nI (6 * c + p) := by rw [h.2.2.1, show (6 : Int32) = nI 6 from rfl, pk_mul, nI_add]
  rw [e, if_pos (by rw [ci_nI (by omega)]; omega), nI_clamp (by omega), h.2.2.2.2.1 p hp]
theorem byL (h : MP N n pa c L nu ed) (hB : BP n pa c L nu ed fr rp) : cd_in (N.1 15 29) 8 = true ∧ N.1 60 (N.1 15 29 : Int32).toNatClampNeg = nI L := by
  have h4 := hB.2.2.1
  rw [h.2.2.1, nI_clamp (by omega), h.2.2.2.1]
  exact ⟨by rw [ci_nI (by omega)]; omega, rfl⟩
theorem isSt (h : MP N n pa c L nu ed) (hB : BP n pa c L nu ed fr rp) {st : Nat} (hs : st < 150) : f11_isState_15 (nI st / 25) (nI st / 5 - nI st / 5 / 5 * 5) (nI st - nI st / 5 * 5) N = some (if vld_ L nu st then 1 else 0) := by
  have h6 := hB.2.2.2.1.2.1
  rw [d25 (by omega), d55 (by omega), m5 (by omega)]
  unfold f11_isState_15
  obtain ⟨b1, b2⟩ := byL h hB
  rw [if_pos b1, b2]
  by_cases q : st / 25 < L
  · have h5 := hB.2.2.2.1.2.2 _ q
    rw [if_neg (nI_ge q (by omega)), numAt h hB q, bind_p]
    by_cases q2 : st / 5 % 5 < nu (st / 25)
    · rw [if_neg (nI_ge q2 (by omega))]
      by_cases q3 : st % 5 ≤ st / 5 % 5
      · rw [if_neg (nI_nlt q3 (by omega)), if_pos ⟨q, q2, q3⟩]
      · rw [if_pos (nI_lt (by omega) (by omega)), if_neg (fun z => q3 z.2.2)]
    · rw [if_pos (nI_le (by omega) (by omega)), if_neg (fun z => q2 z.2.1)]
  · rw [if_pos (nI_le (by omega) (by omega)), if_neg (fun z => q z.1)]
theorem parM (h : MP N n pa c L nu ed) (hB : BP n pa c L nu ed fr rp) {i : Nat} (hi : i < n) : f11_parityOf_15 (nI i) N = some (nI (pa i)) := by
  have h9 := hB.1
  unfold f11_parityOf_15
  have e : (7 : Int32) * nI i + 6 = nI (7 * i + 6) := by rw [show (7 : Int32) = nI 7 from rfl, pk_mul, show (6 : Int32) = nI 6 from rfl, nI_add]
  rw [e, if_pos (by rw [ci_nI (by omega)]; omega), nI_clamp (by omega), h.2.1 i hi]
/-- what on answers -/
def onI_ (L : Nat) (nu : Nat → Nat) (pa : Nat → Nat) (f st : Nat) : Int32 := if pa (f + 1) = pa f then -1 else nI (ons_ L nu st)
theorem onM (h : MP N n pa c L nu ed) (hB : BP n pa c L nu ed fr rp) {f st : Nat} (hf : f + 1 < n) (v : vld_ L nu st) : f11_on_15 (nI (f + 1)) (nI st) N = some (onI_ L nu pa f st) := by
  have hs := vld_lt hB.2.2.2.1 v
  have h6 := hB.2.2.2.1.2.1
  have h5 := hB.2.2.2.1.2.2 _ v.1
  have p1 := hB.2.1 f (by omega)
  have p2 := hB.2.1 (f + 1) hf
  unfold f11_on_15 onI_
  rw [nI_pred, parM h hB hf, parM h hB (i := f) (by omega), bind_p, bind_p]
  by_cases q : pa (f + 1) = pa f
  · rw [if_pos q, if_pos (by rw [q])]
  · rw [if_neg q, if_neg (fun z => q ((nI_eq (by omega) (by omega)).mp z))]
    simp only [cd_lt_p]
    rw [d55 (by omega), m5 (by omega), d25 (by omega), numAt h hB v.1, bind_p, nI_1]
    unfold ons_ f11_stateOf
    by_cases q2 : st / 5 % 5 + 1 < nu (st / 25)
    · rw [if_pos q2, if_neg (nI_ge q2 (by omega)), nI_1]
      rw [show (25 : Int32) = nI 25 from rfl, show (5 : Int32) = nI 5 from rfl, pk_mul, pk_mul, nI_add, nI_add]
      congr 2
      omega
    · obtain ⟨b1, b2⟩ := byL h hB
      have hL := hB.2.2.2.1.1
      rw [if_neg q2, if_pos (nI_le (by omega) (by omega)), if_pos b1, b2, if_neg (nI_ne0 (by omega) (by omega)), nI_1, pk_rem (by omega) (by omega) (by omega)]
      rw [show (25 : Int32) = nI 25 from rfl, show (5 : Int32) = nI 5 from rfl, show (0 : Int32) = nI 0 from rfl, pk_mul, pk_mul, nI_add, nI_add]
      rfl
/-- the costs laid -/
def MD (N : cd_M) (k : Nat) (fr rp : Nat → Nat) : Prop := ∀ i, i < k → N.1 67 i = nI (fr i) ∧ N.1 68 i = nI (rp i)
theorem costAtM {f st : Nat} (hd : MD N n fr rp) (hB : BP n pa c L nu ed fr rp) (hf : f < n) (hs : st < 150) : f11_costAt_15 (nI f) (nI st) N = some (nI (ca_ fr rp f st)) := by
  have h9 := hB.1
  unfold f11_costAt_15 ca_
  rw [m5 (by omega), show (2 : Int32) = nI 2 from rfl, if_pos (show cd_in (nI f) 90 = true by rw [ci_nI (by omega)]; omega), if_pos (show cd_in (nI f) 90 = true by rw [ci_nI (by omega)]; omega), nI_clamp (by omega), (hd f hf).1, (hd f hf).2]
  by_cases q : st % 5 < 2
  · rw [if_pos q, if_neg (nI_ge q (by omega))]
  · rw [if_neg q, if_pos (nI_le (by omega) (by omega))]
/-- what is least behind each state of field f -/
def MW (N : cd_M) (n : Nat) (pa fr rp : Nat → Nat) (L : Nat) (nu : Nat → Nat) (ed f : Nat) : Prop := ∀ st, vld_ L nu st → N.1 69 (150 * f + st) = nI (W_ n pa fr rp L nu ed f st - 128 * ca_ fr rp f st)
theorem ca_W {f : Nat} (hf : f < n) (st : Nat) : 128 * ca_ fr rp f st ≤ W_ n pa fr rp L nu ed f st := by
  by_cases q : f + 1 < n
  · rw [W_step q]; omega
  · rw [show f = n - 1 by omega, W_last (by omega)]; exact Nat.le_refl _
/-- a state's weight with an edit or without -/
def Ve_ (n : Nat) (pa fr rp : Nat → Nat) (L : Nat) (nu : Nat → Nat) (ed f : Nat) (e : Nat) (st : Nat) : Nat := W_ n pa fr rp L nu ed f st + (if e = 0 then 0 else 128 * ed + 1)
theorem costsM {f st e : Nat} (h : MP N n pa c L nu ed) (hd : MD N n fr rp) (hB : BP n pa c L nu ed fr rp) (hf : f < n) (v : vld_ L nu st) (hW : MW N n pa fr rp L nu ed f) (he : e < 2) : f11_costs_15 (nI f) (nI st) (nI e) N = some (nI (Ve_ n pa fr rp L nu ed f e st)) := by
  have h9 := hB.1
  have hs := vld_lt hB.2.2.2.1 v
  have hw := ca_W (n := n) (pa := pa) (fr := fr) (rp := rp) (L := L) (nu := nu) (ed := ed) hf st
  have e0 : e = 0 ∨ e = 1 := by omega
  have e1 : (150 : Int32) * nI f + nI st = nI (150 * f + st) := by rw [show (150 : Int32) = nI 150 from rfl, pk_mul, nI_add]
  unfold f11_costs_15 Ve_
  rw [costAtM hd hB hf hs, bind_p]
  rcases e0 with rfl | rfl
  · rw [if_pos (show nI 0 = 0 from rfl)]
    unfold f11_costs_15_L23 f11_costs_15_L34
    rw [if_pos (show nI 0 = 0 from rfl), e1, if_pos (by rw [ci_nI (by omega)]; omega), nI_clamp (by omega), hW st v, if_pos rfl]
    rw [show (128 : Int32) = nI 128 from rfl, show (0 : Int32) = nI 0 from rfl, nI_add, pk_mul, nI_add, nI_add]
    congr 2
    omega
  · rw [if_neg (show ¬ nI 1 = 0 by decide), if_pos (show cd_in 1 10 = true by decide), show Int32.toNatClampNeg 1 = 1 from rfl, h.2.2.2.2.2]
    unfold f11_costs_15_L23 f11_costs_15_L34
    rw [if_neg (show ¬ nI 1 = 0 by decide), e1, if_pos (by rw [ci_nI (by omega)]; omega), nI_clamp (by omega), hW st v, if_neg (by decide)]
    rw [show (128 : Int32) = nI 128 from rfl, show (1 : Int32) = nI 1 from rfl, nI_add, pk_mul, nI_add, nI_add]
    congr 2
    omega
/-- the least behind: what a part of the entries gives -/
def lbI_ (n : Nat) (pa fr rp : Nat → Nat) (L : Nat) (nu : Nat → Nat) (ed f st : Nat) (X m0 b m : Nat) : Prop := X ≤ m ∧ m ≤ m0 ∧ ∀ o, o < b → ent_ L nu o = true → ¬ (pa (f + 1) ≠ pa f ∧ o = ons_ L nu st) → m ≤ W_ n pa fr rp L nu ed (f + 1) o + 128 * ed + 1
theorem lb_46 {f st p X m0 : Nat} (h : MP N n pa c L nu ed) (hd : MD N n fr rp) (hB : BP n pa c L nu ed fr rp) (hf : f + 1 < n) (hW : MW N n pa fr rp L nu ed (f + 1)) (hX : X ≤ bye_ n pa fr rp L nu ed (f + 1)) (hm0 : m0 ≤ 1000000000) (vo : ons_ L nu st < 150) (hp : p < L) {r29 : Int32 → Int32 → Int32 → Int32 → cd_M → Option Int32} {Q : Option Int32 → Prop} : ∀ (r fu s m : Nat), s + r = nu p → r < fu → lbI_ n pa fr rp L nu ed f st X m0 (25 * p + 5 * s) m →
    (∀ m', lbI_ n pa fr rp L nu ed f st X m0 (25 * (p + 1)) m' → Q (r29 (nI (f + 1)) (onI_ L nu pa f st) (nI m') (nI (p + 1)) N)) → Q (f11_leastBehind_15_L46 r29 fu (nI (f + 1)) (onI_ L nu pa f st) (nI m) (nI p) (nI s) N) := by
  intro r
  have h6 := hB.2.2.2.1.2.1
  have h5 := hB.2.2.2.1.2.2 p hp
  induction r with
  | zero =>
    intro fu s m hs hfu hI H
    obtain ⟨fu, rfl⟩ := Nat.exists_eq_succ_of_ne_zero (show fu ≠ 0 by omega)
    rw [f11_leastBehind_15_L46, numAt h hB hp, bind_p, if_pos (nI_le (by omega) (by omega))]
    simp only [cd_lt_p]
    rw [nI_1]
    apply H
    refine ⟨hI.1, hI.2.1, fun o ho he hne => ?_⟩
    by_cases z : o < 25 * p + 5 * s
    · exact hI.2.2 o z he hne
    · have v := (ent_iff.mp he).1
      have v2 := v.2.1
      rw [show o / 25 = p by omega] at v2
      omega
  | succ r ih =>
    intro fu s m hs hfu hI H
    obtain ⟨fu, rfl⟩ := Nat.exists_eq_succ_of_ne_zero (show fu ≠ 0 by omega)
    have eo : f11_stateOf (nI p) (nI s) 0 N = nI (25 * p + 5 * s) := by
      unfold f11_stateOf
      rw [show (25 : Int32) = nI 25 from rfl, show (5 : Int32) = nI 5 from rfl, show (0 : Int32) = nI 0 from rfl, pk_mul, pk_mul, nI_add, nI_add]
      rfl
    have hv : vld_ L nu (25 * p + 5 * s) := by
      refine ⟨by rw [show (25 * p + 5 * s) / 25 = p by omega]; exact hp, ?_, by omega⟩
      rw [show (25 * p + 5 * s) / 25 = p by omega]
      omega
    have he : ent_ L nu (25 * p + 5 * s) = true := ent_iff.mpr ⟨hv, by omega⟩
    rw [f11_leastBehind_15_L46, numAt h hB hp, bind_p, if_neg (nI_ge (by omega) (by omega))]
    simp only [cd_lt_p]
    rw [eo]
    have step : ∀ m', X ≤ m' → m' ≤ m → (¬ (pa (f + 1) ≠ pa f ∧ 25 * p + 5 * s = ons_ L nu st) → m' ≤ W_ n pa fr rp L nu ed (f + 1) (25 * p + 5 * s) + 128 * ed + 1) → lbI_ n pa fr rp L nu ed f st X m0 (25 * p + 5 * (s + 1)) m' := by
      intro m' a1 a2 a3
      refine ⟨a1, Nat.le_trans a2 hI.2.1, fun o ho he hne => ?_⟩
      by_cases z : o < 25 * p + 5 * s
      · exact Nat.le_trans a2 (hI.2.2 o z he hne)
      · have v := (ent_iff.mp he).2
        have eo : o = 25 * p + 5 * s := by omega
        rw [eo] at hne ⊢
        exact a3 hne
    by_cases q : pa (f + 1) ≠ pa f ∧ 25 * p + 5 * s = ons_ L nu st
    · have e1 : onI_ L nu pa f st = nI (25 * p + 5 * s) := by unfold onI_; rw [if_neg q.1, q.2]
      rw [if_pos e1.symm]
      unfold f11_leastBehind_15_L102
      simp only [cd_lt_p]
      rw [nI_1]
      exact ih fu (s + 1) m (by omega) (by omega) (step m hI.1 (Nat.le_refl _) (fun z => absurd q z)) H
    · have e1 : ¬ nI (25 * p + 5 * s) = onI_ L nu pa f st := by
        unfold onI_
        by_cases z : pa (f + 1) = pa f
        · rw [if_pos z]; exact nI_nm1 (by omega)
        · rw [if_neg z]
          exact fun y => q ⟨z, (nI_eq (by omega) (by omega)).mp y⟩
      rw [if_neg e1]
      have ec := costsM (e := 1) h hd hB hf hv hW (by decide)
      rw [show (1 : Int32) = nI 1 from rfl, ec, bind_p]
      have ev : Ve_ n pa fr rp L nu ed (f + 1) 1 (25 * p + 5 * s) = W_ n pa fr rp L nu ed (f + 1) (25 * p + 5 * s) + 128 * ed + 1 := by unfold Ve_; rw [if_neg (by decide)]; omega
      have hw := W_le (pa := pa) (L := L) (nu := nu) hB.2.2.2.2 hB.1 (f + 1) (25 * p + 5 * s)
      have hed := hB.2.2.2.2.2.2
      have hbye : bye_ n pa fr rp L nu ed (f + 1) ≤ W_ n pa fr rp L nu ed (f + 1) (25 * p + 5 * s) + 128 * ed + 1 := by
        have := (en_spec (n := n) (pa := pa) (fr := fr) (rp := rp) (ed := ed) hB.2.2.2.1 (f + 1)).2.2.1 (25 * p + 5 * s) (by omega) he
        unfold bye_
        omega
      rw [ev]
      have hm := hI.2.1
      unfold f11_leastBehind_15_L100 f11_leastBehind_15_L102
      simp only [cd_lt_p]
      rw [nI_1]
      by_cases y : m ≤ W_ n pa fr rp L nu ed (f + 1) (25 * p + 5 * s) + 128 * ed + 1
      · rw [if_pos (nI_le y (by omega))]
        exact ih fu (s + 1) m (by omega) (by omega) (step m hI.1 (Nat.le_refl _) (fun _ => y)) H
      · rw [if_neg (nI_ge (by omega) (by omega))]
        exact ih fu (s + 1) _ (by omega) (by omega) (step _ (by omega) (by omega) (fun _ => Nat.le_refl _)) H
theorem lb_29 {f st X m0 : Nat} (h : MP N n pa c L nu ed) (hd : MD N n fr rp) (hB : BP n pa c L nu ed fr rp) (hf : f + 1 < n) (hW : MW N n pa fr rp L nu ed (f + 1)) (hX : X ≤ bye_ n pa fr rp L nu ed (f + 1)) (hm0 : m0 ≤ 1000000000) (vo : ons_ L nu st < 150) : ∀ (r fu p m : Nat), p + r = L → r < fu → lbI_ n pa fr rp L nu ed f st X m0 (25 * p) m → ∃ m', f11_leastBehind_15_L29 fu (nI (f + 1)) (onI_ L nu pa f st) (nI m) (nI p) N = some (nI m') ∧ lbI_ n pa fr rp L nu ed f st X m0 (25 * L) m' := by
  intro r
  have h6 := hB.2.2.2.1.2.1
  obtain ⟨b1, b2⟩ := byL h hB
  induction r with
  | zero =>
    intro fu p m hp hfu hI
    obtain ⟨fu, rfl⟩ := Nat.exists_eq_succ_of_ne_zero (show fu ≠ 0 by omega)
    rw [f11_leastBehind_15_L29, if_pos b1, b2, if_pos (nI_le (by omega) (by omega))]
    exact ⟨m, rfl, by rw [show 25 * L = 25 * p by omega]; exact hI⟩
  | succ r ih =>
    intro fu p m hp hfu hI
    obtain ⟨fu, rfl⟩ := Nat.exists_eq_succ_of_ne_zero (show fu ≠ 0 by omega)
    rw [f11_leastBehind_15_L29, if_pos b1, b2, if_neg (nI_ge (by omega) (by omega))]
    have h5 := hB.2.2.2.1.2.2 p (by omega)
    exact lb_46 h hd hB hf hW hX hm0 vo (p := p) (by omega) (Q := fun o => ∃ m', o = some (nI m') ∧ lbI_ n pa fr rp L nu ed f st X m0 (25 * L) m') (nu p) cd_fu 0 m (by omega) (by unfold cd_fu; omega) hI (fun m' hm' => ih fu (p + 1) m' (by omega) (by omega) hm')
/-- what is least behind field f by state st -/
def X_ (n : Nat) (pa fr rp : Nat → Nat) (L : Nat) (nu : Nat → Nat) (ed f st : Nat) : Nat := if pa (f + 1) ≠ pa f ∧ W_ n pa fr rp L nu ed (f + 1) (ons_ L nu st) < bye_ n pa fr rp L nu ed (f + 1) then W_ n pa fr rp L nu ed (f + 1) (ons_ L nu st) else bye_ n pa fr rp L nu ed (f + 1)
theorem lbM {f st : Nat} (h : MP N n pa c L nu ed) (hd : MD N n fr rp) (hB : BP n pa c L nu ed fr rp) (hf : f + 1 < n) (v : vld_ L nu st) (hW : MW N n pa fr rp L nu ed (f + 1)) : f11_leastBehind_15 (nI (f + 1)) (nI st) N = some (nI (X_ n pa fr rp L nu ed f st)) := by
  have vo := vld_ons hB.2.2.2.1 v
  have hol := vld_lt hB.2.2.2.1 vo
  have hbl := bye_le (n := n) (pa := pa) (L := L) (nu := nu) hB.2.2.2.2 hB.1 (f + 1)
  have hwl := W_le (n := n) (pa := pa) (L := L) (nu := nu) hB.2.2.2.2 hB.1 (f + 1) (ons_ L nu st)
  obtain ⟨e1, e2, -, -⟩ := en_spec (n := n) (pa := pa) (fr := fr) (rp := rp) (ed := ed) hB.2.2.2.1 (f + 1)
  have hX : X_ n pa fr rp L nu ed f st ≤ bye_ n pa fr rp L nu ed (f + 1) := by
    unfold X_
    split <;> omega
  have hb : bye_ n pa fr rp L nu ed (f + 1) = W_ n pa fr rp L nu ed (f + 1) (en_ n pa fr rp L nu ed (f + 1)) + 128 * ed + 1 := rfl
  have h25 : ∀ o, ent_ L nu o = true → o < 25 * L := fun o ho => by
    have := (ent_iff.mp ho).1.1
    omega
  unfold f11_leastBehind_15
  rw [onM h hB hf v, bind_p]
  by_cases q : pa (f + 1) = pa f
  · have eo : onI_ L nu pa f st = -1 := by unfold onI_; rw [if_pos q]
    have eX : X_ n pa fr rp L nu ed f st = bye_ n pa fr rp L nu ed (f + 1) := by unfold X_; rw [if_neg (fun z => z.1 q)]
    rw [eo, if_neg (by decide), ← eo]
    unfold f11_leastBehind_15_L24
    obtain ⟨m', k1, k2⟩ := lb_29 (X := X_ n pa fr rp L nu ed f st) (m0 := 1000000000) h hd hB hf hW hX (Nat.le_refl _) hol L cd_fu 0 1000000000 (by omega) (by unfold cd_fu; have := hB.2.2.2.1.2.1; omega) ⟨by omega, Nat.le_refl _, fun o ho => by omega⟩
    rw [show (1000000000 : Int32) = nI 1000000000 from rfl]
    refine k1.trans ?_
    have := k2.2.2 _ (h25 _ e1) e1 (fun z => z.1 q)
    rw [show m' = X_ n pa fr rp L nu ed f st by have := k2.1; omega]
  · have eo : onI_ L nu pa f st = nI (ons_ L nu st) := by unfold onI_; rw [if_neg q]
    rw [eo, if_pos (nI_pos' (by omega)), show (0 : Int32) = nI 0 from rfl, costsM (e := 0) h hd hB hf vo hW (by decide), bind_p, ← eo]
    have ev : Ve_ n pa fr rp L nu ed (f + 1) 0 (ons_ L nu st) = W_ n pa fr rp L nu ed (f + 1) (ons_ L nu st) := by unfold Ve_; rw [if_pos rfl]; omega
    rw [ev]
    unfold f11_leastBehind_15_L24
    have hXW : X_ n pa fr rp L nu ed f st ≤ W_ n pa fr rp L nu ed (f + 1) (ons_ L nu st) := by
      unfold X_
      by_cases z : pa (f + 1) ≠ pa f ∧ W_ n pa fr rp L nu ed (f + 1) (ons_ L nu st) < bye_ n pa fr rp L nu ed (f + 1)
      · rw [if_pos z]; exact Nat.le_refl _
      · rw [if_neg z]
        have : ¬ W_ n pa fr rp L nu ed (f + 1) (ons_ L nu st) < bye_ n pa fr rp L nu ed (f + 1) := fun y => z ⟨q, y⟩
        omega
    obtain ⟨m', k1, k2⟩ := lb_29 (X := X_ n pa fr rp L nu ed f st) (m0 := W_ n pa fr rp L nu ed (f + 1) (ons_ L nu st)) h hd hB hf hW hX (by omega) hol L cd_fu 0 (W_ n pa fr rp L nu ed (f + 1) (ons_ L nu st)) (by omega) (by unfold cd_fu; have := hB.2.2.2.1.2.1; omega) ⟨hXW, Nat.le_refl _, fun o ho => by omega⟩
    refine k1.trans ?_
    have a1 := k2.1
    have a2 := k2.2.1
    have a3 : m' ≤ X_ n pa fr rp L nu ed f st := by
      unfold X_
      by_cases z : pa (f + 1) ≠ pa f ∧ W_ n pa fr rp L nu ed (f + 1) (ons_ L nu st) < bye_ n pa fr rp L nu ed (f + 1)
      · rw [if_pos z]; exact a2
      · rw [if_neg z]
        by_cases y : en_ n pa fr rp L nu ed (f + 1) = ons_ L nu st
        · exfalso
          apply z
          refine ⟨q, ?_⟩
          rw [hb, y]
          omega
        · have := k2.2.2 _ (h25 _ e1) e1 (fun u => y u.2)
          rw [hb]
          omega
    rw [show m' = X_ n pa fr rp L nu ed f st by omega]
theorem W_X {f : Nat} (hf : f + 1 < n) (st : Nat) : W_ n pa fr rp L nu ed f st - 128 * ca_ fr rp f st = X_ n pa fr rp L nu ed f st := by
  rw [W_step hf]
  unfold X_
  omega
end mpA
