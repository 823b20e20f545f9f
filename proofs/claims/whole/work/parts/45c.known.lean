/-! found, known, restored -/
/-- the samples of found frames -/
def fdr_ (w n : Nat) (sm : Nat → Nat → Nat) (pa vl : Nat → Nat) (L : Nat) (nu : Nat → Nat) (x p : Nat) : Nat → Nat := sm (fx_ w n sm pa vl (fi_ (SS w n sm pa vl L nu)) x p)
/-- how many there are -/
def fnr_ (w n : Nat) (sm : Nat → Nat → Nat) (pa vl : Nat → Nat) (L : Nat) (nu : Nat → Nat) : Nat := cnt_ (nsc_ w n sm pa vl (fi_ (SS w n sm pa vl L nu))) (cnt_ (fi_ (SS w n sm pa vl L nu)) n)
theorem fnr_le {w n : Nat} {sm : Nat → Nat → Nat} {pa vl : Nat → Nat} {L : Nat} {nu : Nat → Nat} : fnr_ w n sm pa vl L nu ≤ n := Nat.le_trans (cnt_le _) (cnt_le _)
theorem GR_13 {M : cd_M} {w n : Nat} {sm : Nat → Nat → Nat} {pa vl : Nat → Nat} {L : Nat} {nu : Nat → Nat} (h : GR M w n sm pa vl (fi_ (SS w n sm pa vl L nu))) : CG13 M w (fnr_ w n sm pa vl L nu) (fdr_ w n sm pa vl L nu) := ⟨h.2.2.2.2.1, h.2.2.2.2.2⟩
theorem BG_13 {w n : Nat} {sm : Nat → Nat → Nat} {pa vl : Nat → Nat} {L : Nat} {nu : Nat → Nat} (hw : w ≤ 6) (hb : BL w n sm pa) : BG13 w (fnr_ w n sm pa vl L nu) (fdr_ w n sm pa vl L nu) := ⟨hw, Nat.le_trans fnr_le hb.1, fun f p k hf hp hk => hb.2.1 _ k (fx_lt hf) hk⟩
theorem o_found : cl_o_found Rel := by
  intro a1 a2 a3
  refine op_path (w1 := f10_found_0_w) (w2 := f11_found_15_w) (by decide) (by decide) (fun M => w_f10_found_0 (by decide) cf_refl) (fun M => w_f11_found_15 (by decide) cf_refl) ?_
  intro M N h
  have h' := Rel2_t (v := 0) h
  unfold f10_found_0 f11_found_15 f10_sampleOfFrame_0_13
  simp only [cd_lt_p]
  generalize cd_wI N 15 0 0 = N0 at h'
  refine look2 h' ?_
  intro w nf fl nc fo ln nb vl n sm pa M1 N1 lk
  obtain ⟨kF, kR, kL, tk, gr, la⟩ := lk
  have h9 := kL.2.2.1
  have hw := kF.2.2.1
  have g13 := GR_13 gr
  have b13 := BG_13 (vl := vl) (L := ln fo) (nu := nb fo) hw kL.2.2
  have fl90 : fnr_ w n sm pa vl (ln fo) (nb fo) ≤ 90 := b13.2.1
  have e44 : N1.1 15 44 = nI (fnr_ w n sm pa vl (ln fo) (nb fo)) := la.2.2.2.2.2.2.2.2.2.1
  have e1 : (1 : Int64) = (nI 2 - 1).toInt64 := rfl
  rw [e44, kF.2.1.1]
  by_cases hx : inr_ a1 (fnr_ w n sm pa vl (ln fo) (nb fo))
  · rw [if_neg (fun q => (hasG13 g13 b13).mp q hx), if_neg (fun q => (wi_in (by omega)).mp q hx)]
    by_cases hp : inr_ a2 2
    · rw [if_neg (fun q => isPar.mp q hp), e1, if_neg (fun q => (wi_in (by omega)).mp q hp)]
      by_cases hs : inr_ a3 w
      · rw [if_neg (fun q => (isSmp kF.1 kF.2.2).mp q hs), if_neg (fun q => (wi_in (by omega)).mp q hs)]
        obtain ⟨x, hx, rfl⟩ := hx
        obtain ⟨p, hp, rfl⟩ := hp
        obtain ⟨k, hs, rfl⟩ := hs
        have e2 : (2 : Int32) * nI x + nI p = nI (2 * x + p) := by rw [show (2 : Int32) = nI 2 from rfl, pk_mul, nI_add]
        have e78 : N1.1 78 (2 * x + p) = nI (fx_ w n sm pa vl (fi_ (SS w n sm pa vl (ln fo) (nb fo))) x p) := la.2.2.2.2.2.2.2.2.2.2 x hx p hp
        have ok : ∀ j, j < w → fdr_ w n sm pa vl (ln fo) (nb fo) x p j < 128 := fun j hj => by have := b13.2.2 x p j hx hp hj; omega
        rw [rowG13 g13 b13 hx hp, bind_p, e2, if_pos (by rw [ci_nI (by omega)]; omega), nI_clamp (by omega), e78, sample15 kL.2.1 kL.2.2 hw (fx_lt hx) hs, bind_p, sm_of (rw_lt63 ok hw) (by omega), dg_rw ok hs]
        exact ⟨_, _, _, rfl, cf_refl, rfl, cf_refl⟩
      · rw [if_pos ((isSmp kF.1 kF.2.2).mpr hs), if_pos ((wi_in (by omega)).mpr hs)]
        exact ⟨_, _, _, rfl, cf_refl, rfl, cf_refl⟩
    · rw [if_pos (isPar.mpr hp), e1, if_pos ((wi_in (by omega)).mpr hp)]
      exact ⟨_, _, _, rfl, cf_refl, rfl, cf_refl⟩
  · rw [if_pos ((hasG13 g13 b13).mpr hx), if_pos ((wi_in (by omega)).mpr hx)]
    exact ⟨_, _, _, rfl, cf_refl, rfl, cf_refl⟩
/-- rows alike below w -/
def eqr_ (a b : Nat → Nat) : Nat → Bool
  | 0 => true
  | k + 1 => eqr_ a b k && decide (a k = b k)
theorem eqr_iff {a b : Nat → Nat} : ∀ {w : Nat}, eqr_ a b w = true ↔ ∀ k, k < w → a k = b k
  | 0 => ⟨fun _ k hk => absurd hk (Nat.not_lt_zero k), fun _ => rfl⟩
  | w + 1 => by
    show (eqr_ a b w && decide (a w = b w)) = true ↔ _
    rw [Bool.and_eq_true, decide_eq_true_eq, eqr_iff]
    constructor
    · rintro ⟨h1, h2⟩ k hk
      by_cases z : k = w
      · rw [z]; exact h2
      · exact h1 k (by omega)
    · exact fun h => ⟨fun k hk => h k (by omega), h w (by omega)⟩
def eqf_ (w : Nat) (fl fd : Nat → Nat → Nat → Nat) (f x : Nat) : Bool := eqr_ (fl f 0) (fd x 0) w && eqr_ (fl f 1) (fd x 1) w
section knA
variable {w nf F : Nat} {fl fd : Nat → Nat → Nat → Nat}
theorem rcmp {a b : Nat → Nat} (hw : w ≤ 6) (ha : ∀ k, k < w → a k < 128) (hb : ∀ k, k < w → b k < 128) : lg_cmp (lN (rw_ a w)) (lN (rw_ b w)) = 0 ↔ eqr_ a b w = true := by
  rw [lg_cmp_eq, pk_lEQ (rw_lt63 ha hw) (rw_lt63 hb hw), rw_ext2 ha hb, eqr_iff]
theorem sameC {M : cd_M} {f x : Nat} (h5 : CF M w nf fl) (b5 : BF w nf fl) (h13 : CG13 M w F fd) (b13 : BG13 w F fd) (hf : f < nf) (hx : x < F) : f1_isSame_5_13 (nI f) (nI x) M = some (if eqf_ w fl fd f x = true then 1 else 0) := by
  have hw := b5.1
  have o5 : ∀ p, p < 2 → ∀ k, k < w → fl f p k < 128 := fun p hp => row5_ok b5 hf hp
  have o13 : ∀ p, p < 2 → ∀ k, k < w → fd x p k < 128 := fun p hp k hk => by have := b13.2.2 x p k hx hp hk; omega
  unfold f1_isSame_5_13 eqf_
  have r0 : f1_row_5 (nI f) 0 M = some (lN (rw_ (fl f 0) w)) := row5 h5 b5 hf (p := 0) (by decide)
  have r1 : f1_row_5 (nI f) 1 M = some (lN (rw_ (fl f 1) w)) := row5 h5 b5 hf (p := 1) (by decide)
  have s0 : f1_row_13 (nI x) 0 M = some (lN (rw_ (fd x 0) w)) := rowG13 h13 b13 hx (p := 0) (by decide)
  have s1 : f1_row_13 (nI x) 1 M = some (lN (rw_ (fd x 1) w)) := rowG13 h13 b13 hx (p := 1) (by decide)
  rw [r0, r1, s0, s1]
  simp only [bind_p]
  by_cases q0 : eqr_ (fl f 0) (fd x 0) w = true
  · rw [if_pos ((rcmp hw (o5 0 (by decide)) (o13 0 (by decide))).mpr q0), q0, Bool.true_and]
    by_cases q1 : eqr_ (fl f 1) (fd x 1) w = true
    · rw [if_pos ((rcmp hw (o5 1 (by decide)) (o13 1 (by decide))).mpr q1), if_pos q1]
    · rw [if_neg (fun z => q1 ((rcmp hw (o5 1 (by decide)) (o13 1 (by decide))).mp z)), if_neg q1]
  · rw [if_neg (fun z => q0 ((rcmp hw (o5 0 (by decide)) (o13 0 (by decide))).mp z)), if_neg]
    intro z
    rw [Bool.and_eq_true] at z
    exact q0 z.1
/-- what areSame reads -/
def SA (N : cd_M) (w nf F : Nat) (fl fd : Nat → Nat → Nat → Nat) (n : Nat) (sm : Nat → Nat → Nat) (pa : Nat → Nat) (fx : Nat → Nat → Nat) : Prop := MF N w nf fl ∧ ML N w n sm pa ∧ (∀ x, x < F → ∀ p, p < 2 → N.1 78 (2 * x + p) = nI (fx x p) ∧ fx x p < n ∧ fd x p = sm (fx x p)) ∧ F ≤ 90
theorem as_10 {N : cd_M} {n : Nat} {sm : Nat → Nat → Nat} {pa : Nat → Nat} {fx : Nat → Nat → Nat} {f x p : Nat} (hF : BF w nf fl) (hb : BL w n sm pa) (h : SA N w nf F fl fd n sm pa fx) (hf : f < nf) (hx : x < F) (hp : p < 2) {r2 : Int32 → Int32 → Int32 → cd_M → Option Int32} : ∀ (r fu k : Nat), k + r = w → r < fu → (∀ j, j < k → fl f p j = fd x p j) → f11_areSame_15_L10 r2 fu (nI f) (nI x) (nI p) (nI k) N = if eqr_ (fl f p) (fd x p) w = true then r2 (nI f) (nI x) (nI (p + 1)) N else some 0 := by
  intro r
  obtain ⟨h1, h2, h3, h4⟩ := h
  have hw := hF.1
  have hnf := hF.2.1
  induction r with
  | zero =>
    intro fu k hk hfu hd
    obtain ⟨fu, rfl⟩ := Nat.exists_eq_succ_of_ne_zero (show fu ≠ 0 by omega)
    rw [f11_areSame_15_L10, h1.1, if_pos (nI_le (by omega) (by omega)), if_pos (eqr_iff.mpr (fun j hj => hd j (by omega)))]
    simp only [cd_lt_p]
    rw [nI_1]
  | succ r ih =>
    intro fu k hk hfu hd
    obtain ⟨fu, rfl⟩ := Nat.exists_eq_succ_of_ne_zero (show fu ≠ 0 by omega)
    obtain ⟨x1, x2, x3⟩ := h3 x hx p hp
    have e2 : (2 : Int32) * nI x + nI p = nI (2 * x + p) := by rw [show (2 : Int32) = nI 2 from rfl, pk_mul, nI_add]
    have b1 := hF.2.2 f p k hf hp (by omega)
    have b2 := hb.2.1 _ k x2 (show k < w by omega)
    rw [f11_areSame_15_L10, h1.1, if_neg (nI_ge (by omega) (by omega)), filmAt_n, if_pos (by rw [ci_nI (by omega)]; omega), e2, if_pos (by rw [ci_nI (by omega)]; omega), nI_clamp (by omega), nI_clamp (by omega), x1, sample15 h2 hb hw x2 (by omega), bind_p, h1.2.2 f p k hf hp (by omega)]
    simp only [cd_lt_p]
    rw [nI_1, ← x3]
    rw [← x3] at b2
    by_cases q : fl f p k = fd x p k
    · rw [if_pos (by rw [q])]
      refine ih fu (k + 1) (by omega) (by omega) (fun j hj => ?_)
      by_cases z : j = k
      · rw [z]; exact q
      · exact hd j (by omega)
    · rw [if_neg (fun z => q ((nI_eq (by omega) (by omega)).mp z)), if_neg]
      intro z
      exact q (eqr_iff.mp z k (by omega))
theorem sameM {N : cd_M} {n : Nat} {sm : Nat → Nat → Nat} {pa : Nat → Nat} {fx : Nat → Nat → Nat} {f x : Nat} (hF : BF w nf fl) (hb : BL w n sm pa) (h : SA N w nf F fl fd n sm pa fx) (hf : f < nf) (hx : x < F) : f11_areSame_15 (nI f) (nI x) N = some (if eqf_ w fl fd f x = true then 1 else 0) := by
  have hw := hF.1
  unfold f11_areSame_15 eqf_
  have ef : cd_fu = 19997 + 1 + 1 + 1 := rfl
  rw [show f11_areSame_15_L2 cd_fu (nI f) (nI x) 0 N = f11_areSame_15_L2 (19997 + 1 + 1 + 1) (nI f) (nI x) (nI 0) N by rw [ef]; rfl]
  rw [f11_areSame_15_L2, if_neg (by decide)]
  have A := as_10 (p := 0) hF hb h hf hx (by decide) (r2 := f11_areSame_15_L2 (19997 + 1 + 1)) w cd_fu 0 (by omega) (by unfold cd_fu; omega) (fun j hj => absurd hj (Nat.not_lt_zero j))
  refine Eq.trans A ?_
  by_cases q0 : eqr_ (fl f 0) (fd x 0) w = true
  · rw [if_pos q0, q0, Bool.true_and, f11_areSame_15_L2, if_neg (by decide)]
    have B := as_10 (p := 1) hF hb h hf hx (by decide) (r2 := f11_areSame_15_L2 (19997 + 1)) w cd_fu 0 (by omega) (by unfold cd_fu; omega) (fun j hj => absurd hj (Nat.not_lt_zero j))
    refine Eq.trans B ?_
    by_cases q1 : eqr_ (fl f 1) (fd x 1) w = true
    · rw [if_pos q1, if_pos q1, f11_areSame_15_L2, if_pos (by decide)]
    · rw [if_neg q1, if_neg q1]
  · rw [if_neg q0, if_neg]
    intro z
    rw [Bool.and_eq_true] at z
    exact q0 z.1
theorem kn_2 {M N : cd_M} {n : Nat} {sm : Nat → Nat → Nat} {pa : Nat → Nat} {fx : Nat → Nat → Nat} {x : Nat} (h5 : CF M w nf fl) (b5 : BF w nf fl) (h13 : CG13 M w F fd) (b13 : BG13 w F fd) (hb : BL w n sm pa) (h : SA N w nf F fl fd n sm pa fx) (hx : x < F) : ∀ (r fu gu f : Nat), f + r = nf → r < fu → r < gu → ∃ v, f10_known_0_L24 fu (nI x) (nI f) M = some (v, M) ∧ f11_known_15_L29 gu (nI x) (nI f) N = some (v, N) := by
  intro r
  have hnf := b5.2.1
  induction r with
  | zero =>
    intro fu gu f hf hfu hgu
    obtain ⟨fu, rfl⟩ := Nat.exists_eq_succ_of_ne_zero (show fu ≠ 0 by omega)
    obtain ⟨gu, rfl⟩ := Nat.exists_eq_succ_of_ne_zero (show gu ≠ 0 by omega)
    rw [f10_known_0_L24, f11_known_15_L29]
    unfold f1_size_5
    rw [h5.2.1, h.1.2.1, if_pos (nI_le (by omega) (by omega)), if_pos (nI_le (by omega) (by omega))]
    exact ⟨_, rfl, rfl⟩
  | succ r ih =>
    intro fu gu f hf hfu hgu
    obtain ⟨fu, rfl⟩ := Nat.exists_eq_succ_of_ne_zero (show fu ≠ 0 by omega)
    obtain ⟨gu, rfl⟩ := Nat.exists_eq_succ_of_ne_zero (show gu ≠ 0 by omega)
    rw [f10_known_0_L24, f11_known_15_L29]
    unfold f1_size_5
    rw [h5.2.1, h.1.2.1, if_neg (nI_ge (by omega) (by omega)), if_neg (nI_ge (by omega) (by omega)), sameC h5 b5 h13 b13 (by omega) hx, sameM b5 hb h (by omega) hx, bind_p, bind_p]
    simp only [cd_lt_p]
    rw [nI_1]
    by_cases q : eqf_ w fl fd f x = true
    · rw [if_pos q, if_neg (by decide), if_neg (by decide)]
      exact ⟨_, rfl, rfl⟩
    · rw [if_neg q, if_pos rfl, if_pos rfl]
      exact ih fu gu (f + 1) (by omega) (by omega) (by omega)
end knA
theorem LK_SA {M N : cd_M} {w nf : Nat} {fl : Nat → Nat → Nat → Nat} {nc fo : Nat} {ln : Nat → Nat} {nb : Nat → Nat → Nat} {vl : Nat → Nat} {n : Nat} {sm : Nat → Nat → Nat} {pa : Nat → Nat} (h : LK M N w nf fl nc fo ln nb vl n sm pa) : SA N w nf (fnr_ w n sm pa vl (ln fo) (nb fo)) fl (fdr_ w n sm pa vl (ln fo) (nb fo)) n sm pa (fx_ w n sm pa vl (fi_ (SS w n sm pa vl (ln fo) (nb fo)))) := by
  obtain ⟨kF, kR, kL, tk, gr, la⟩ := h
  exact ⟨kF.2.1, kL.2.1, fun x hx p hp => ⟨la.2.2.2.2.2.2.2.2.2.2 x hx p hp, fx_lt hx, rfl⟩, Nat.le_trans fnr_le kL.2.2.1⟩
theorem o_known : cl_o_known Rel := by
  intro a1
  refine op_path (w1 := f10_known_0_w) (w2 := f11_known_15_w) (by decide) (by decide) (fun M => w_f10_known_0 (by decide) cf_refl) (fun M => w_f11_known_15 (by decide) cf_refl) ?_
  intro M N h
  have h' := Rel2_t (v := 0) h
  unfold f10_known_0 f11_known_15
  simp only [cd_lt_p]
  generalize cd_wI N 15 0 0 = N0 at h'
  refine look2 h' ?_
  intro w nf fl nc fo ln nb vl n sm pa M1 N1 lk
  have sa := LK_SA lk
  obtain ⟨kF, kR, kL, tk, gr, la⟩ := lk
  have h9 := kL.2.2.1
  have hw := kF.2.2.1
  have g13 := GR_13 gr
  have b13 := BG_13 (vl := vl) (L := ln fo) (nu := nb fo) hw kL.2.2
  have fl90 : fnr_ w n sm pa vl (ln fo) (nb fo) ≤ 90 := b13.2.1
  have e44 : N1.1 15 44 = nI (fnr_ w n sm pa vl (ln fo) (nb fo)) := la.2.2.2.2.2.2.2.2.2.1
  rw [e44]
  by_cases hx : inr_ a1 (fnr_ w n sm pa vl (ln fo) (nb fo))
  · rw [if_neg (fun q => (hasG13 g13 b13).mp q hx), if_neg (fun q => (wi_in (by omega)).mp q hx)]
    obtain ⟨x, hx, rfl⟩ := hx
    have hnf := kF.2.2.2.1
    obtain ⟨v, k1, k2⟩ := kn_2 kF.1 kF.2.2 g13 b13 kL.2.2 sa hx nf cd_fu cd_fu 0 (by omega) (by unfold cd_fu; omega) (by unfold cd_fu; omega)
    exact ⟨v, M1, N1, k1, cf_refl, k2, cf_refl⟩
  · rw [if_pos ((hasG13 g13 b13).mpr hx), if_pos ((wi_in (by omega)).mpr hx)]
    exact ⟨_, _, _, rfl, cf_refl, rfl, cf_refl⟩
/-! restored -/
def lcs_ (E : Nat → Nat → Bool) : Nat → Nat → Nat
  | 0, _ => 0
  | _ + 1, 0 => 0
  | i + 1, j + 1 => if E i j = true then lcs_ E i j + 1 else (if lcs_ E i (j + 1) < lcs_ E (i + 1) j then lcs_ E (i + 1) j else lcs_ E i (j + 1))
theorem lcs_0 {E : Nat → Nat → Bool} : ∀ i, lcs_ E i 0 = 0
  | 0 => by rw [lcs_]
  | i + 1 => by rw [lcs_]
theorem lcs_le {E : Nat → Nat → Bool} : ∀ i j, lcs_ E i j ≤ i
  | 0, _ => by rw [lcs_]; exact Nat.le_refl _
  | i + 1, 0 => by rw [lcs_]; omega
  | i + 1, j + 1 => by
    have a := lcs_le (E := E) i j
    have b := lcs_le (E := E) (i + 1) j
    have c := lcs_le (E := E) i (j + 1)
    rw [lcs_]
    split
    · omega
    · split <;> omega
section rsA
variable {w nf F : Nat} {fl fd : Nat → Nat → Nat → Nat}
theorem rc_36 {M0 : cd_M} {x : Nat} (h5 : CF M0 w nf fl) (b5 : BF w nf fl) (h13 : CG13 M0 w F fd) (b13 : BG13 w F fd) (hx : x < F) {r23 : Int32 → cd_M → Option (Int32 × cd_M)} {Q : Int32 × cd_M → Prop} : ∀ (r fu i : Nat) (M : cd_M), i + r = nf → r + 1 < fu → cf_ [(16, none)] M0 M → (∀ j, j ≤ i → M.1 16 j = nI (lcs_ (eqf_ w fl fd) j (x + 1))) → (∀ j, i < j → j ≤ nf → M.1 16 j = nI (lcs_ (eqf_ w fl fd) j x)) →
    (∀ M1, cf_ [(16, none)] M0 M1 → (∀ j, j ≤ nf → M1.1 16 j = nI (lcs_ (eqf_ w fl fd) j (x + 1))) → cw (r23 (nI (x + 1)) M1) Q) → cw (f10_mostInOrder_0_13_L36 r23 fu (nI x) (nI (lcs_ (eqf_ w fl fd) i x)) (nI (i + 1)) M) Q := by
  intro r
  have hnf := b5.2.1
  induction r with
  | zero =>
    intro fu i M hi hfu hf hd hn H
    obtain ⟨fu, rfl⟩ := Nat.exists_eq_succ_of_ne_zero (show fu ≠ 0 by omega)
    rw [f10_mostInOrder_0_13_L36]
    unfold f1_size_5
    rw [(CF_f hf (by decide) h5).2.1, if_pos (nI_lt (by omega) (by omega))]
    simp only [cd_lt_p]
    rw [nI_1]
    exact H M hf (fun j hj => hd j (by omega))
  | succ r ih =>
    intro fu i M hi hfu hf hd hn H
    obtain ⟨fu, rfl⟩ := Nat.exists_eq_succ_of_ne_zero (show fu ≠ 0 by omega)
    have F5 := CF_f hf (by decide) h5
    have F13 : CG13 M w F fd := ⟨(hf 13 3 (by decide)).1.trans h13.1, fun f hf' => ⟨(hf 54 f (na_cov (by decide) f)).2.trans (h13.2 f hf').1, (hf 55 f (na_cov (by decide) f)).2.trans (h13.2 f hf').2⟩⟩
    have l1 := lcs_le (E := eqf_ w fl fd) (i + 1) x
    have l2 := lcs_le (E := eqf_ w fl fd) i (x + 1)
    have cin : cd_in (nI (i + 1)) 21 = true := by rw [ci_nI (by omega)]; omega
    rw [f10_mostInOrder_0_13_L36]
    unfold f1_size_5 f10_mostInOrder_0_13_L103
    rw [F5.2.1, if_neg (nI_nlt (by omega) (by omega)), if_pos cin, nI_pred, sameC F5 b5 F13 b13 (by omega) hx, nI_clamp (by omega)]
    simp only [cd_lt_p, bind_p]
    rw [hn (i + 1) (by omega) (by omega), if_pos cin, if_pos cin, if_pos (show cd_in (nI i) 21 = true by rw [ci_nI (by omega)]; omega), nI_clamp (by omega), hd i (Nat.le_refl _), nI_1, nI_1]
    have el : lcs_ (eqf_ w fl fd) (i + 1) (x + 1) = if eqf_ w fl fd i x = true then lcs_ (eqf_ w fl fd) i x + 1 else (if lcs_ (eqf_ w fl fd) i (x + 1) < lcs_ (eqf_ w fl fd) (i + 1) x then lcs_ (eqf_ w fl fd) (i + 1) x else lcs_ (eqf_ w fl fd) i (x + 1)) := by rw [lcs_]
    have go : ∀ v : Int32, v = nI (lcs_ (eqf_ w fl fd) (i + 1) (x + 1)) → cw (f10_mostInOrder_0_13_L36 r23 fu (nI x) (nI (lcs_ (eqf_ w fl fd) (i + 1) x)) (nI (i + 1 + 1)) (cd_wI M 16 (i + 1) v)) Q := by
      rintro v rfl
      refine ih fu (i + 1) _ (by omega) (by omega) (cf_wcI (cf_cov_iff.mpr (Or.inl (by simp))) hf) (fun j hj => ?_) (fun j hj hj2 => ?_) H
      · rw [cd_wI_at]
        by_cases z : j = i + 1
        · rw [if_pos ⟨rfl, z⟩, z]
        · rw [if_neg (fun y => z y.2)]; exact hd j (by omega)
      · rw [cd_wI_at, if_neg (by omega)]; exact hn j (by omega) hj2
    by_cases q : eqf_ w fl fd i x = true
    · rw [if_pos q, if_neg (by decide)]
      exact go _ (by rw [el, if_pos q])
    · rw [if_neg q, if_pos rfl]
      rw [if_neg q] at el
      refine go _ ?_
      rw [el]
      rcases Nat.lt_trichotomy (lcs_ (eqf_ w fl fd) (i + 1) x) (lcs_ (eqf_ w fl fd) i (x + 1)) with z | z | z
      · rw [if_pos (nI_lt z (by omega)), if_neg (by omega)]
      · rw [z, if_neg (nI_nlt (Nat.le_refl _) (by omega)), if_neg (by omega)]
      · rw [if_neg (nI_nlt (by omega) (by omega)), if_pos z]
theorem rc_23 {M0 : cd_M} (h5 : CF M0 w nf fl) (b5 : BF w nf fl) (h13 : CG13 M0 w F fd) (b13 : BG13 w F fd) : ∀ (r fu x : Nat) (M : cd_M), x + r = F → r < fu → cf_ [(16, none)] M0 M → (∀ j, j ≤ nf → M.1 16 j = nI (lcs_ (eqf_ w fl fd) j x)) → cw (f10_mostInOrder_0_13_L23 fu (nI x) M) (fun v => v.1 = nI (lcs_ (eqf_ w fl fd) nf F) ∧ cf_ [(16, none)] M0 v.2) := by
  intro r
  have hnf := b5.2.1
  have hF := b13.2.1
  induction r with
  | zero =>
    intro fu x M hx hfu hf hd
    obtain ⟨fu, rfl⟩ := Nat.exists_eq_succ_of_ne_zero (show fu ≠ 0 by omega)
    have ex : x = F := by omega
    rw [f10_mostInOrder_0_13_L23]
    unfold f1_size_13 f1_size_5
    rw [(hf 13 3 (by decide)).1, h13.1, if_pos (nI_le (by omega) (by omega)), (CF_f hf (by decide) h5).2.1, if_pos (by rw [ci_nI (by omega)]; omega), nI_clamp (by omega), hd nf (Nat.le_refl _), ex]
    exact cw_some.mpr ⟨rfl, hf⟩
  | succ r ih =>
    intro fu x M hx hfu hf hd
    obtain ⟨fu, rfl⟩ := Nat.exists_eq_succ_of_ne_zero (show fu ≠ 0 by omega)
    rw [f10_mostInOrder_0_13_L23]
    unfold f1_size_13
    rw [(hf 13 3 (by decide)).1, h13.1, if_neg (nI_ge (by omega) (by omega))]
    have e0 : lcs_ (eqf_ w fl fd) 0 x = 0 := by rw [lcs_]
    have K := rc_36 (x := x) h5 b5 h13 b13 (by omega) (r23 := f10_mostInOrder_0_13_L23 fu) (Q := fun v => v.1 = nI (lcs_ (eqf_ w fl fd) nf F) ∧ cf_ [(16, none)] M0 v.2) nf cd_fu 0 M (by omega) (by unfold cd_fu; omega) hf (fun j hj => by rw [show j = 0 by omega, hd 0 (Nat.zero_le _), e0, show lcs_ (eqf_ w fl fd) 0 (x + 1) = 0 by rw [lcs_]]) (fun j _ hj => hd j hj) (fun M1 m1 m2 => ih fu (x + 1) M1 (by omega) (by omega) m1 m2)
    rw [e0] at K
    exact K
theorem rc_2 {M0 : cd_M} (h5 : CF M0 w nf fl) (b5 : BF w nf fl) (h13 : CG13 M0 w F fd) (b13 : BG13 w F fd) : ∀ (r fu i : Nat) (M : cd_M), i + r = 21 → r < fu → cf_ [(16, none)] M0 M → (∀ j, j < i → M.1 16 j = nI 0) → cw (f10_mostInOrder_0_13_L2 fu (nI i) M) (fun v => v.1 = nI (lcs_ (eqf_ w fl fd) nf F) ∧ cf_ [(16, none)] M0 v.2) := by
  intro r
  have hnf := b5.2.1
  have hF := b13.2.1
  induction r with
  | zero =>
    intro fu i M hi hfu hf hd
    obtain ⟨fu, rfl⟩ := Nat.exists_eq_succ_of_ne_zero (show fu ≠ 0 by omega)
    rw [f10_mostInOrder_0_13_L2, show (20 : Int32) = nI 20 from rfl, if_pos (nI_lt (by omega) (by omega))]
    exact rc_23 h5 b5 h13 b13 F cd_fu 0 M (by omega) (by unfold cd_fu; omega) hf (fun j hj => by rw [hd j (by omega), lcs_0])
  | succ r ih =>
    intro fu i M hi hfu hf hd
    obtain ⟨fu, rfl⟩ := Nat.exists_eq_succ_of_ne_zero (show fu ≠ 0 by omega)
    rw [f10_mostInOrder_0_13_L2, show (20 : Int32) = nI 20 from rfl, if_neg (nI_nlt (by omega) (by omega)), if_pos (by rw [ci_nI (by omega)]; omega), nI_clamp (by omega)]
    simp only [cd_lt_p]
    rw [nI_1]
    refine ih fu (i + 1) _ (by omega) (by omega) (cf_wcI (cf_cov_iff.mpr (Or.inl (by simp))) hf) (fun j hj => ?_)
    rw [cd_wI_at]
    by_cases z : j = i
    · rw [if_pos ⟨rfl, z⟩]; rfl
    · rw [if_neg (fun y => z y.2)]; exact hd j (by omega)
theorem rm_55 {N0 : cd_M} {n : Nat} {sm : Nat → Nat → Nat} {pa : Nat → Nat} {fx : Nat → Nat → Nat} {f : Nat} (b5 : BF w nf fl) (hb : BL w n sm pa) (h : SA N0 w nf F fl fd n sm pa fx) (h44 : N0.1 15 44 = nI F) (hf : f < nf) {r43 : Int32 → cd_M → Option (Int32 × cd_M)} {Q : Int32 × cd_M → Prop} : ∀ (r fu g : Nat) (N : cd_M), g + r = F → r + 1 < fu → cf_ [(79, none)] N0 N → (∀ j, j ≤ g → N.1 79 j = nI (lcs_ (eqf_ w fl fd) (f + 1) j)) → (∀ j, g < j → j ≤ F → N.1 79 j = nI (lcs_ (eqf_ w fl fd) f j)) →
    (∀ N1, cf_ [(79, none)] N0 N1 → (∀ j, j ≤ F → N1.1 79 j = nI (lcs_ (eqf_ w fl fd) (f + 1) j)) → cw (r43 (nI (f + 1)) N1) Q) → cw (f11_restored_15_L55 r43 fu (nI f) (nI (lcs_ (eqf_ w fl fd) f g)) (nI (g + 1)) N) Q := by
  intro r
  have hnf := b5.2.1
  have hF := h.2.2.2
  induction r with
  | zero =>
    intro fu g N hg hfu hc hd hn H
    obtain ⟨fu, rfl⟩ := Nat.exists_eq_succ_of_ne_zero (show fu ≠ 0 by omega)
    rw [f11_restored_15_L55, (hc 15 44 (by decide)).1, h44, if_pos (nI_lt (by omega) (by omega))]
    simp only [cd_lt_p]
    rw [nI_1]
    exact H N hc (fun j hj => hd j (by omega))
  | succ r ih =>
    intro fu g N hg hfu hc hd hn H
    obtain ⟨fu, rfl⟩ := Nat.exists_eq_succ_of_ne_zero (show fu ≠ 0 by omega)
    have sa : SA N w nf F fl fd n sm pa fx := ⟨MF_f hc (by decide) h.1, ML_f hc (by decide) h.2.1, fun x hx p hp => ⟨(hc 78 _ (na_cov (by decide) _)).1.trans (h.2.2.1 x hx p hp).1, (h.2.2.1 x hx p hp).2⟩, hF⟩
    have l1 := lcs_le (E := eqf_ w fl fd) f (g + 1)
    have l2 := lcs_le (E := eqf_ w fl fd) (f + 1) g
    have cin : cd_in (nI (g + 1)) 91 = true := by rw [ci_nI (by omega)]; omega
    have cin2 : cd_in (nI g) 91 = true := by rw [ci_nI (by omega)]; omega
    rw [f11_restored_15_L55, (hc 15 44 (by decide)).1, h44, if_neg (nI_nlt (by omega) (by omega)), if_pos cin, nI_pred, sameM b5 hb sa hf (by omega), nI_clamp (by omega)]
    unfold f11_restored_15_L125
    simp only [cd_lt_p, bind_p]
    rw [hn (g + 1) (by omega) (by omega), if_pos cin2, if_pos cin, if_pos cin2, if_pos cin, if_pos cin, nI_clamp (by omega), hd g (Nat.le_refl _), nI_1, nI_1]
    have el : lcs_ (eqf_ w fl fd) (f + 1) (g + 1) = if eqf_ w fl fd f g = true then lcs_ (eqf_ w fl fd) f g + 1 else (if lcs_ (eqf_ w fl fd) f (g + 1) < lcs_ (eqf_ w fl fd) (f + 1) g then lcs_ (eqf_ w fl fd) (f + 1) g else lcs_ (eqf_ w fl fd) f (g + 1)) := by rw [lcs_]
    have go : ∀ N1 : cd_M, cf_ [(79, none)] N0 N1 → N1.1 79 (g + 1) = nI (lcs_ (eqf_ w fl fd) (f + 1) (g + 1)) → (∀ j, j ≠ g + 1 → N1.1 79 j = N.1 79 j) → cw (f11_restored_15_L55 r43 fu (nI f) (nI (lcs_ (eqf_ w fl fd) f (g + 1))) (nI (g + 1 + 1)) N1) Q := by
      intro N1 c1 v1 v2
      refine ih fu (g + 1) N1 (by omega) (by omega) c1 (fun j hj => ?_) (fun j hj hj2 => ?_) H
      · by_cases z : j = g + 1
        · rw [z]; exact v1
        · rw [v2 j z]; exact hd j (by omega)
      · rw [v2 j (by omega)]; exact hn j (by omega) hj2
    have wr : ∀ v : Int32, v = nI (lcs_ (eqf_ w fl fd) (f + 1) (g + 1)) → cw (f11_restored_15_L55 r43 fu (nI f) (nI (lcs_ (eqf_ w fl fd) f (g + 1))) (nI (g + 1 + 1)) (cd_wI N 79 (g + 1) v)) Q := fun v hv => go _ (cf_wcI (cf_cov_iff.mpr (Or.inl (by simp))) hc) (by rw [cd_wI_at, if_pos ⟨rfl, rfl⟩]; exact hv) (fun j hj => by rw [cd_wI_at, if_neg (fun y => hj y.2)])
    by_cases q : eqf_ w fl fd f g = true
    · rw [if_pos q, if_neg (by decide)]
      exact wr _ (by rw [el, if_pos q])
    · rw [if_neg q, if_pos rfl]
      rw [if_neg q] at el
      by_cases z : lcs_ (eqf_ w fl fd) (f + 1) g ≤ lcs_ (eqf_ w fl fd) f (g + 1)
      · rw [if_pos (nI_le z (by omega))]
        exact go N hc (by rw [hn (g + 1) (by omega) (by omega), el, if_neg (by omega)]) (fun j _ => rfl)
      · rw [if_neg (nI_ge (by omega) (by omega))]
        exact wr _ (by rw [el, if_pos (by omega)])
theorem rm_43 {N0 : cd_M} {n : Nat} {sm : Nat → Nat → Nat} {pa : Nat → Nat} {fx : Nat → Nat → Nat} (b5 : BF w nf fl) (hb : BL w n sm pa) (h : SA N0 w nf F fl fd n sm pa fx) (h44 : N0.1 15 44 = nI F) : ∀ (r fu f : Nat) (N : cd_M), f + r = nf → r < fu → cf_ [(79, none)] N0 N → (∀ j, j ≤ F → N.1 79 j = nI (lcs_ (eqf_ w fl fd) f j)) → cw (f11_restored_15_L43 fu (nI f) N) (fun v => v.1 = nI (lcs_ (eqf_ w fl fd) nf F) ∧ cf_ [(79, none)] N0 v.2) := by
  intro r
  have hnf := b5.2.1
  have hF := h.2.2.2
  induction r with
  | zero =>
    intro fu f N hf hfu hc hd
    obtain ⟨fu, rfl⟩ := Nat.exists_eq_succ_of_ne_zero (show fu ≠ 0 by omega)
    have ef : f = nf := by omega
    rw [f11_restored_15_L43, (MF_f hc (by decide) h.1).2.1, if_pos (nI_le (by omega) (by omega)), (hc 15 44 (by decide)).1, h44, if_pos (by rw [ci_nI (by omega)]; omega), nI_clamp (by omega), hd F (Nat.le_refl _), ef]
    exact cw_some.mpr ⟨rfl, hc⟩
  | succ r ih =>
    intro fu f N hf hfu hc hd
    obtain ⟨fu, rfl⟩ := Nat.exists_eq_succ_of_ne_zero (show fu ≠ 0 by omega)
    rw [f11_restored_15_L43, (MF_f hc (by decide) h.1).2.1, if_neg (nI_ge (by omega) (by omega))]
    have K := rm_55 (f := f) b5 hb h h44 (by omega) (r43 := f11_restored_15_L43 fu) (Q := fun v => v.1 = nI (lcs_ (eqf_ w fl fd) nf F) ∧ cf_ [(79, none)] N0 v.2) F cd_fu 0 N (by omega) (by unfold cd_fu; omega) hc (fun j hj => by rw [show j = 0 by omega, hd 0 (Nat.zero_le _), lcs_0, lcs_0]) (fun j _ hj => hd j hj) (fun N1 m1 m2 => ih fu (f + 1) N1 (by omega) (by omega) m1 m2)
    rw [lcs_0] at K
    exact K
theorem rm_20 {N0 : cd_M} {n : Nat} {sm : Nat → Nat → Nat} {pa : Nat → Nat} {fx : Nat → Nat → Nat} (b5 : BF w nf fl) (hb : BL w n sm pa) (h : SA N0 w nf F fl fd n sm pa fx) (h44 : N0.1 15 44 = nI F) : ∀ (r fu g : Nat) (N : cd_M), g + r = F + 1 → r < fu → cf_ [(79, none)] N0 N → (∀ j, j < g → N.1 79 j = nI 0) → cw (f11_restored_15_L20 fu (nI g) N) (fun v => v.1 = nI (lcs_ (eqf_ w fl fd) nf F) ∧ cf_ [(79, none)] N0 v.2) := by
  intro r
  have hnf := b5.2.1
  have hF := h.2.2.2
  induction r with
  | zero =>
    intro fu g N hg hfu hc hd
    obtain ⟨fu, rfl⟩ := Nat.exists_eq_succ_of_ne_zero (show fu ≠ 0 by omega)
    rw [f11_restored_15_L20, (hc 15 44 (by decide)).1, h44, if_pos (nI_lt (by omega) (by omega))]
    exact rm_43 b5 hb h h44 nf cd_fu 0 N (by omega) (by unfold cd_fu; omega) hc (fun j hj => by rw [hd j (by omega), lcs_])
  | succ r ih =>
    intro fu g N hg hfu hc hd
    obtain ⟨fu, rfl⟩ := Nat.exists_eq_succ_of_ne_zero (show fu ≠ 0 by omega)
    rw [f11_restored_15_L20, (hc 15 44 (by decide)).1, h44, if_neg (nI_nlt (by omega) (by omega)), if_pos (by rw [ci_nI (by omega)]; omega), nI_clamp (by omega)]
    simp only [cd_lt_p]
    rw [nI_1]
    refine ih fu (g + 1) _ (by omega) (by omega) (cf_wcI (cf_cov_iff.mpr (Or.inl (by simp))) hc) (fun j hj => ?_)
    rw [cd_wI_at]
    by_cases z : j = g
    · rw [if_pos ⟨rfl, z⟩]; rfl
    · rw [if_neg (fun y => z y.2)]; exact hd j (by omega)
end rsA
theorem o_restored : cl_o_restored Rel := by
  refine op_path (w1 := f10_restored_0_w) (w2 := f11_restored_15_w) (by decide) (by decide) (fun M => w_f10_restored_0 (by decide) cf_refl) (fun M => w_f11_restored_15 (by decide) cf_refl) ?_
  intro M N h
  have h' := Rel2_t (v := 0) h
  unfold f10_restored_0 f11_restored_15
  simp only [cd_lt_p]
  generalize cd_wI N 15 0 0 = N0 at h'
  have hk := h'
  obtain ⟨t, b, w, nf, fl, nc, fo, ln, nb, vl, n, sm, pa, u, x, hn, hs, hp, hT, hF, hR, hL, hH, hCM, hX⟩ := h'
  have hnf := hF.2.2.2.1
  unfold f1_size_5
  rw [hF.1.2.1, hF.2.1.2.1]
  by_cases q : nf = 0
  · subst q
    rw [if_pos (show nI 0 = 0 from rfl), if_pos (show nI 0 = 0 from rfl)]
    exact ⟨_, cw_some.mpr ⟨rfl, cw_some.mpr ⟨rfl, hk⟩⟩⟩
  · rw [if_neg (nI_ne0 (by omega) (by omega)), if_neg (nI_ne0 (by omega) (by omega))]
    refine look1 hT hF hR hL hH hCM hX ?_
    intro M1 N1 lk
    have sa := LK_SA lk
    obtain ⟨kF, kR, kL, tk, gr, la⟩ := lk
    have hw := kF.2.2.1
    have b13 := BG_13 (vl := vl) (L := ln fo) (nu := nb fo) hw kL.2.2
    have fl90 : fnr_ w n sm pa vl (ln fo) (nb fo) ≤ 90 := b13.2.1
    obtain ⟨r1, e1, v1, c1⟩ := rc_2 kF.1 kF.2.2 (GR_13 gr) b13 21 cd_fu 0 M1 (by omega) (by unfold cd_fu; omega) cf_refl (fun j hj => absurd hj (Nat.not_lt_zero j))
    obtain ⟨r2, e2, v2, c2⟩ := rm_20 kF.2.2 kL.2.2 sa la.2.2.2.2.2.2.2.2.2.1 (fnr_ w n sm pa vl (ln fo) (nb fo) + 1) cd_fu 0 N1 (by omega) (by unfold cd_fu; omega) cf_refl (fun j hj => absurd hj (Nat.not_lt_zero j))
    refine ⟨nI (lcs_ (eqf_ w fl (fdr_ w n sm pa vl (ln fo) (nb fo))) nf (fnr_ w n sm pa vl (ln fo) (nb fo))), r1.2, r2.2, ?_, cf_le (by decide) c1, ?_, cf_le (by decide) c2⟩
    · have e1' : f10_mostInOrder_0_13 M1 = some r1 := e1
      rw [e1', bind_p]
      show some (r1.1, r1.2) = _
      rw [v1]
    · have e2' : f11_restored_15_L20 cd_fu 0 N1 = some r2 := e2
      rw [e2', ← v2]
