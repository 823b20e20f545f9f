/-! the reference: laysRest, goes, laysPath -/
section mrA
variable {n : Nat} {pa fr rp : Nat → Nat} {c L : Nat} {nu : Nat → Nat} {ed : Nat}
theorem MD_c {N N1 : cd_M} {k : Nat} (e1 : ∀ i, N1.1 67 i = N.1 67 i) (e2 : ∀ i, N1.1 68 i = N.1 68 i) (h : MD N k fr rp) : MD N1 k fr rp := fun i hi => by rw [e1, e2]; exact h i hi
theorem MW_c {N N1 : cd_M} {f : Nat} (e : ∀ i, 150 * f ≤ i → i < 150 * f + 150 → N1.1 69 i = N.1 69 i) (hB : okc_ L nu) (h : MW N n pa fr rp L nu ed f) : MW N1 n pa fr rp L nu ed f := fun st v => by
  have := vld_lt hB v
  rw [e _ (by omega) (by omega)]
  exact h st v
theorem lr_13 {f : Nat} (hB : BP n pa c L nu ed fr rp) (hf : f < n) {r7 : Int32 → cd_M → Option cd_M} {Q : cd_M → Prop} : ∀ (r fu st : Nat) (N : cd_M), st + r = 150 → r < fu → MP N n pa c L nu ed → MD N n fr rp → (∀ f', f < f' → f' < n → MW N n pa fr rp L nu ed f') → (∀ s, s < st → vld_ L nu s → N.1 69 (150 * f + s) = nI (W_ n pa fr rp L nu ed f s - 128 * ca_ fr rp f s)) →
    (∀ N1, MP N1 n pa c L nu ed → MD N1 n fr rp → (∀ f', f ≤ f' → f' < n → MW N1 n pa fr rp L nu ed f') → cw (r7 (nI f + (-1)) N1) Q) → cw (f11_laysRest_15_L13 r7 fu (nI f) (nI st) N) Q := by
  intro r
  have h9 := hB.1
  induction r with
  | zero =>
    intro fu st N hs hfu h hd hW hdn H
    obtain ⟨fu, rfl⟩ := Nat.exists_eq_succ_of_ne_zero (show fu ≠ 0 by omega)
    rw [f11_laysRest_15_L13, show (150 : Int32) = nI 150 from rfl, if_pos (nI_le (by omega) (by omega))]
    simp only [cd_lt_p]
    refine H N h hd (fun f' h1 h2 => ?_)
    by_cases z : f' = f
    · rw [z]; exact fun s v => hdn s (by have := vld_lt hB.2.2.2.1 v; omega) v
    · exact hW f' (by omega) h2
  | succ r ih =>
    intro fu st N hs hfu h hd hW hdn H
    obtain ⟨fu, rfl⟩ := Nat.exists_eq_succ_of_ne_zero (show fu ≠ 0 by omega)
    rw [f11_laysRest_15_L13, show (150 : Int32) = nI 150 from rfl, if_neg (nI_ge (by omega) (by omega)), isSt h hB (by omega), bind_p]
    by_cases v : vld_ L nu st
    · rw [if_pos v, if_neg (by decide)]
      have e1 : nI 150 * nI f + nI st = nI (150 * f + st) := by rw [pk_mul, nI_add]
      have wr : cw (f11_laysRest_15_L75 r7 (f11_laysRest_15_L13 r7 fu) (nI f) (nI st) (nI (W_ n pa fr rp L nu ed f st - 128 * ca_ fr rp f st)) (nI (150 * f + st)) N) Q := by
        unfold f11_laysRest_15_L75 f11_laysRest_15_L76
        rw [if_pos (by rw [ci_nI (by omega)]; omega), nI_clamp (by omega)]
        simp only [cd_lt_p]
        rw [nI_1]
        refine ih fu (st + 1) _ (by omega) (by omega) ?_ ?_ (fun f' h1 h2 => ?_) (fun s hs' vs => ?_) H
        · exact MP_c (fun x i hx => by rw [cd_wI_at, if_neg (by omega)]) h
        · exact MD_c (fun i => by rw [cd_wI_at, if_neg (by omega)]) (fun i => by rw [cd_wI_at, if_neg (by omega)]) hd
        · exact MW_c (fun i i1 i2 => by rw [cd_wI_at, if_neg (by omega)]) hB.2.2.2.1 (hW f' h1 h2)
        · rw [cd_wI_at]
          by_cases z : s = st
          · rw [if_pos ⟨rfl, by rw [z]⟩, z]
          · rw [if_neg (by omega)]; exact hdn s (by omega) vs
      rw [h.1, e1]
      by_cases q : f + 1 < n
      · have e2 : ¬ nI f = nI n - 1 := by
          rw [show n = (n - 1) + 1 by omega, nI_pred]
          exact fun z => absurd ((nI_eq (by omega) (by omega)).mp z) (by omega)
        rw [if_neg e2, nI_1, lbM h hd hB q v (hW (f + 1) (by omega) q), bind_p, ← W_X q]
        exact wr
      · have e2 : nI f = nI n - 1 := by
          rw [show n = (n - 1) + 1 by omega, nI_pred]
          congr 1
          omega
        rw [if_pos e2]
        have e3 : W_ n pa fr rp L nu ed f st - 128 * ca_ fr rp f st = 0 := by
          rw [show f = n - 1 by omega, W_last (by omega)]
          omega
        rw [e3] at wr
        exact wr
    · rw [if_neg v, if_pos rfl]
      unfold f11_laysRest_15_L76
      simp only [cd_lt_p]
      rw [nI_1]
      refine ih fu (st + 1) _ (by omega) (by omega) h hd hW (fun s hs' vs => ?_) H
      by_cases z : s = st
      · rw [z] at vs; exact absurd vs v
      · exact hdn s (by omega) vs
theorem I_m1 (x : Int32) : x + (-1) = x - 1 := (Int32.sub_eq_add_neg x 1).symm
theorem lr_7 (hB : BP n pa c L nu ed fr rp) : ∀ (k fu : Nat) (N : cd_M), k ≤ n → k < fu → MP N n pa c L nu ed → MD N n fr rp → (∀ f', k ≤ f' → f' < n → MW N n pa fr rp L nu ed f') → cw (f11_laysRest_15_L7 fu (nI k - 1) N) (fun N1 => MP N1 n pa c L nu ed ∧ MD N1 n fr rp ∧ ∀ f', f' < n → MW N1 n pa fr rp L nu ed f') := by
  intro k
  have h9 := hB.1
  induction k with
  | zero =>
    intro fu N hk hfu h hd hW
    obtain ⟨fu, rfl⟩ := Nat.exists_eq_succ_of_ne_zero (show fu ≠ 0 by omega)
    rw [f11_laysRest_15_L7, if_pos (show nI 0 - 1 < 0 by decide)]
    exact cw_some.mpr ⟨h, hd, fun f' hf' => hW f' (by omega) hf'⟩
  | succ k ih =>
    intro fu N hk hfu h hd hW
    obtain ⟨fu, rfl⟩ := Nat.exists_eq_succ_of_ne_zero (show fu ≠ 0 by omega)
    rw [f11_laysRest_15_L7, nI_pred, if_neg (nI_pos (by omega))]
    refine lr_13 hB (f := k) (by omega) 150 cd_fu 0 N (by omega) (by unfold cd_fu; omega) h hd (fun f' h1 h2 => hW f' (by omega) h2) (fun s hs => absurd hs (Nat.not_lt_zero s)) (fun N1 k1 k2 k3 => ?_)
    rw [I_m1]
    exact ih fu N1 (by omega) (by omega) k1 k2 k3
theorem restM {N : cd_M} (hB : BP n pa c L nu ed fr rp) (h : MP N n pa c L nu ed) (hd : MD N n fr rp) : cw (f11_laysRest_15 N) (fun N1 => MP N1 n pa c L nu ed ∧ MD N1 n fr rp ∧ ∀ f', f' < n → MW N1 n pa fr rp L nu ed f') := by
  unfold f11_laysRest_15
  simp only [cd_lt_p]
  rw [h.1]
  exact lr_7 hB n cd_fu N (Nat.le_refl _) (by unfold cd_fu; have := hB.1; omega) h hd (fun f' h1 h2 => by omega)
/-- the scan for the first of the least ones -/
def fl_ (f : Nat) (q : Prop) [Decidable q] (on o : Nat) : Nat := if f = 0 ∨ (q ∧ o = on) then 0 else 1
theorem go_29 {N : cd_M} {f on : Nat} {q : Prop} [Decidable q] {oI : Int32} (hq0 : f = 0 → ¬ q) (hoI : oI = if q then nI on else -1) (hon : on < 150) (hB : BP n pa c L nu ed fr rp) (hf : f < n) (h : MP N n pa c L nu ed) (hd : MD N n fr rp) (hW : MW N n pa fr rp L nu ed f) {x : Nat}
    (hx : gC_ L nu q on x ∧ x < 150 ∧ (∀ j, j < 150 → gC_ L nu q on j → Ve_ n pa fr rp L nu ed f (fl_ f q on x) x ≤ Ve_ n pa fr rp L nu ed f (fl_ f q on j) j) ∧ ∀ j, j < x → gC_ L nu q on j → Ve_ n pa fr rp L nu ed f (fl_ f q on x) x < Ve_ n pa fr rp L nu ed f (fl_ f q on j) j) : ∀ (r fu o : Nat) (b l e : Int32), o + r = 150 → r < fu →
    ((o = 0 ∧ l = nI 1000000000) ∨ ∃ y, y < o ∧ b = nI y ∧ l = nI (Ve_ n pa fr rp L nu ed f (fl_ f q on y) y) ∧ e = nI (fl_ f q on y) ∧ gC_ L nu q on y ∧ (∀ j, j < o → gC_ L nu q on j → Ve_ n pa fr rp L nu ed f (fl_ f q on y) y ≤ Ve_ n pa fr rp L nu ed f (fl_ f q on j) j) ∧ ∀ j, j < y → gC_ L nu q on j → Ve_ n pa fr rp L nu ed f (fl_ f q on y) y < Ve_ n pa fr rp L nu ed f (fl_ f q on j) j) →
    cw (f11_goes_15_L29 fu (nI f) oI b l e (nI o) N) (fun N1 => (N1.1 70 f = nI x ∧ N1.1 71 f = nI (fl_ f q on x)) ∧ cf_ [(70, some f), (71, some f)] N N1) := by
  intro r
  have h9 := hB.1
  have fl1 : ∀ o, fl_ f q on o < 2 := fun o => by unfold fl_; split <;> omega
  have hVl : ∀ o, Ve_ n pa fr rp L nu ed f (fl_ f q on o) o < 1000000000 := fun o => by
    have h1 := W_le (n := n) (pa := pa) (L := L) (nu := nu) hB.2.2.2.2 hB.1 f o
    have h2 := hB.2.2.2.2.2.2
    unfold Ve_
    split <;> omega
  induction r with
  | zero =>
    intro fu o b l e hs hfu hI
    obtain ⟨fu, rfl⟩ := Nat.exists_eq_succ_of_ne_zero (show fu ≠ 0 by omega)
    rw [f11_goes_15_L29, show (150 : Int32) = nI 150 from rfl, if_pos (nI_le (by omega) (by omega))]
    rcases hI with ⟨z, -⟩ | ⟨y, y1, y2, y3, y4, y5, y6, y7⟩
    · omega
    · have ey : y = x := fst_uniq (C := gC_ L nu q on) (V := fun j => Ve_ n pa fr rp L nu ed f (fl_ f q on j) j) (B := 150) ⟨y5, by omega, fun j hj => y6 j (by omega), y7⟩ hx
      have en : vp_nar .boolean (nI (fl_ f q on x)) = nI (fl_ f q on x) := by
        have := fl1 x
        rcases (show fl_ f q on x = 0 ∨ fl_ f q on x = 1 by omega) with z | z <;> rw [z] <;> rfl
      rw [if_pos (show cd_in (nI f) 90 = true by rw [ci_nI (by omega)]; omega)]
      simp only [cd_lt_p]
      rw [if_pos (show cd_in (nI f) 90 = true by rw [ci_nI (by omega)]; omega), nI_clamp (by omega), y2, y4, ey, en]
      refine cw_some.mpr ⟨⟨?_, ?_⟩, ?_⟩
      · rw [cd_wI_at, if_neg (by omega), cd_wI_at, if_pos ⟨rfl, rfl⟩]
      · rw [cd_wI_at, if_pos ⟨rfl, rfl⟩]
      · exact cf_wcI (cf_cov_iff.mpr (Or.inr (by simp))) (cf_wcI (cf_cov_iff.mpr (Or.inr (by simp))) cf_refl)
  | succ r ih =>
    intro fu o b l e hs hfu hI
    obtain ⟨fu, rfl⟩ := Nat.exists_eq_succ_of_ne_zero (show fu ≠ 0 by omega)
    rw [f11_goes_15_L29, show (150 : Int32) = nI 150 from rfl, if_neg (nI_ge (by omega) (by omega)), isSt h hB (by omega), bind_p]
    have eqI : nI o = oI ↔ (q ∧ o = on) := by
      rw [hoI]
      by_cases z : q
      · rw [if_pos z, nI_eq (by omega) (by omega)]
        exact ⟨fun y => ⟨z, y⟩, fun y => y.2⟩
      · rw [if_neg z]
        exact ⟨fun y => absurd y (nI_nm1 (by omega)), fun y => absurd y.1 z⟩
    have o0 : o = 0 → gC_ L nu q on o := fun z => by rw [z]; exact ⟨vld_0 hB.2.2.2.1, Or.inl rfl⟩
    by_cases cc : gC_ L nu q on o
    · have v := cc.1
      have hnew : cw (f11_goes_15_L90 (f11_goes_15_L29 fu) (nI f) oI b l e (nI o) (nI (fl_ f q on o)) N) (fun N1 => (N1.1 70 f = nI x ∧ N1.1 71 f = nI (fl_ f q on x)) ∧ cf_ [(70, some f), (71, some f)] N N1) := by
        unfold f11_goes_15_L90 f11_goes_15_L125
        rw [costsM h hd hB hf v hW (fl1 o), bind_p]
        simp only [cd_lt_p]
        rw [nI_1]
        rcases hI with ⟨z1, z2⟩ | ⟨y, y1, y2, y3, y4, y5, y6, y7⟩
        · rw [z2, if_pos (nI_lt (hVl o) (by omega))]
          refine ih fu (o + 1) _ _ _ (by omega) (by omega) (Or.inr ⟨o, by omega, rfl, rfl, rfl, cc, fun j hj cj => ?_, fun j hj => by omega⟩)
          rw [show j = o by omega]
          exact Nat.le_refl _
        · rw [y3]
          have b1 := hVl y
          have b2 := hVl o
          by_cases z : Ve_ n pa fr rp L nu ed f (fl_ f q on o) o < Ve_ n pa fr rp L nu ed f (fl_ f q on y) y
          · rw [if_pos (nI_lt z (by omega))]
            refine ih fu (o + 1) _ _ _ (by omega) (by omega) (Or.inr ⟨o, by omega, rfl, rfl, rfl, cc, fun j hj cj => ?_, fun j hj cj => ?_⟩)
            · by_cases u : j = o
              · rw [u]; exact Nat.le_refl _
              · have := y6 j (by omega) cj; omega
            · have := y6 j (by omega) cj; omega
          · rw [if_neg (nI_nlt (by omega) (by omega))]
            refine ih fu (o + 1) _ _ _ (by omega) (by omega) (Or.inr ⟨y, by omega, y2, rfl, y4, y5, fun j hj cj => ?_, y7⟩)
            by_cases u : j = o
            · rw [u]; omega
            · exact y6 j (by omega) cj
      have h75 : cw (f11_goes_15_L75 (f11_goes_15_L29 fu) (nI f) oI b l e (nI o) N) (fun N1 => (N1.1 70 f = nI x ∧ N1.1 71 f = nI (fl_ f q on x)) ∧ cf_ [(70, some f), (71, some f)] N N1) := by
        unfold f11_goes_15_L75 f11_goes_15_L89
        by_cases z : f = 0
        · have e0 : fl_ f q on o = 0 := by unfold fl_; rw [if_pos (Or.inl z)]
          rw [e0] at hnew
          rw [if_pos (show nI f ≤ 0 by rw [z]; decide)]
          exact hnew
        · rw [if_neg (nI_nle (by omega) (by omega))]
          by_cases u : q ∧ o = on
          · have e0 : fl_ f q on o = 0 := by unfold fl_; rw [if_pos (Or.inr u)]
            rw [e0] at hnew
            rw [if_pos (eqI.mpr u)]
            exact hnew
          · have e0 : fl_ f q on o = 1 := by unfold fl_; rw [if_neg (fun y => y.elim z u)]
            rw [e0] at hnew
            rw [if_neg (fun y => u (eqI.mp y))]
            exact hnew
      rw [if_pos v, if_neg (by decide), m5 (by omega)]
      by_cases u : o % 5 = 0
      · rw [if_pos (show nI (o % 5) ≤ 0 by rw [u]; decide)]
        exact h75
      · rw [if_neg (nI_nle (by omega) (by omega)), if_pos (eqI.mpr (cc.2.resolve_left u))]
        exact h75
    · have hskip : cw (f11_goes_15_L125 (f11_goes_15_L29 fu) (nI f) oI b l e (nI o) N) (fun N1 => (N1.1 70 f = nI x ∧ N1.1 71 f = nI (fl_ f q on x)) ∧ cf_ [(70, some f), (71, some f)] N N1) := by
        unfold f11_goes_15_L125
        simp only [cd_lt_p]
        rw [nI_1]
        rcases hI with ⟨z1, z2⟩ | ⟨y, y1, y2, y3, y4, y5, y6, y7⟩
        · exact absurd (o0 z1) cc
        · refine ih fu (o + 1) _ _ _ (by omega) (by omega) (Or.inr ⟨y, by omega, y2, y3, y4, y5, fun j hj cj => ?_, y7⟩)
          by_cases u : j = o
          · rw [u] at cj; exact absurd cj cc
          · exact y6 j (by omega) cj
      by_cases v : vld_ L nu o
      · have u : ¬ o % 5 = 0 := fun z => cc ⟨v, Or.inl z⟩
        rw [if_pos v, if_neg (by decide), m5 (by omega), if_neg (nI_nle (by omega) (by omega)), if_neg (fun y => cc ⟨v, Or.inr (eqI.mp y)⟩)]
        exact hskip
      · rw [if_neg v, if_pos rfl]
        exact hskip
end mrA
