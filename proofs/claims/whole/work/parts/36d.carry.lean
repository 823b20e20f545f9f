/-! carry: the reference's side -/
section cmA
variable {N : cd_M} {w nf : Nat} {fl : Nat → Nat → Nat → Nat} {nc fo : Nat} {ln : Nat → Nat} {nb : Nat → Nat → Nat} {vl : Nat → Nat}
/-- what stays through it -/
def MC (N : cd_M) (w nf : Nat) (fl : Nat → Nat → Nat → Nat) (nc fo : Nat) (ln : Nat → Nat) (nb : Nat → Nat → Nat) (vl : Nat → Nat) (n : Nat) (sm : Nat → Nat → Nat) (pa : Nat → Nat) : Prop := ML N w n sm pa ∧ BL w n sm pa ∧ MF N w nf fl ∧ MR N nc fo ln nb vl
theorem filmAt_n {f s k : Nat} : f11_filmAt (nI f) (nI s) (nI k) N = nI (6 * (2 * f + s) + k) := by
  unfold f11_filmAt
  rw [show (6 : Int32) = nI 6 from rfl, show (2 : Int32) = nI 2 from rfl, pk_mul, nI_add, pk_mul, nI_add]
theorem cry_L105 {f s i p n : Nat} {sm : Nat → Nat → Nat} {pa : Nat → Nat} (hF : BF w nf fl) (hf : f < nf) (hs : s < 2) (hn : n < 90) {r62 : Int32 → Int32 → Int32 → cd_M → Option (Int32 × cd_M)} {r74 : Int32 → Int32 → Int32 → Int32 → cd_M → Option (Int32 × cd_M)} {Q : Int32 × cd_M → Prop} : ∀ (r fu k : Nat) (N : cd_M), k + r = w → r < fu → MC N w nf fl nc fo ln nb vl n sm pa → (∀ k', k' < k → N.1 64 (7 * n + k') = nI (fl f s k')) →
    (∀ N1 : cd_M, MC N1 w nf fl nc fo ln nb vl (n + 1) (fun i => if i = n then fl f s else sm i) (fun i => if i = n then s else pa i) → cw (r74 (nI p) (nI (1 - s)) (nI f) (nI (i + 1)) N1) Q) → cw (f11_carry_15_L105 r62 r74 fu (nI p) (nI s) (nI f) (nI i) (nI k) N) Q := by
  intro r
  have hw := hF.1
  have hnf := hF.2.1
  induction r with
  | zero =>
    intro fu k N hk hfu h hd H
    obtain ⟨fu, rfl⟩ := Nat.exists_eq_succ_of_ne_zero (show fu ≠ 0 by omega)
    obtain ⟨h1, h2, h3, h4⟩ := h
    rw [f11_carry_15_L105, h3.1, if_pos (nI_le (by omega) (by omega))]
    have e : (7 : Int32) * N.1 15 24 + 6 = nI (7 * n + 6) := by rw [h1.1, show (7 : Int32) = nI 7 from rfl, pk_mul, show (6 : Int32) = nI 6 from rfl, nI_add]
    have e2 : (1 : Int32) - nI s = nI (1 - s) := pk_sub (a := 1) (by omega)
    simp only [cd_lt_p]
    rw [e, if_pos (by rw [ci_nI (by omega)]; omega), nI_clamp (by omega), e2, nI_1]
    have e3 : (cd_wI N 64 (7 * n + 6) (nI s)).1 15 24 + 1 = nI (n + 1) := by rw [cd_wI_at, if_neg (by omega), h1.1, nI_1]
    rw [e3]
    apply H
    have g : ∀ x i, ¬ (x = 64) → ¬ (x = 15 ∧ i = 24) → (cd_wI (cd_wI N 64 (7 * n + 6) (nI s)) 15 24 (nI (n + 1))).1 x i = N.1 x i := fun x i z1 z2 => by rw [cd_wI_at, if_neg z2, cd_wI_at, if_neg (by omega)]
    have g64 : ∀ i, (cd_wI (cd_wI N 64 (7 * n + 6) (nI s)) 15 24 (nI (n + 1))).1 64 i = if i = 7 * n + 6 then nI s else N.1 64 i := by
      intro i
      rw [cd_wI_at, if_neg (by omega), cd_wI_at]
      by_cases z : i = 7 * n + 6
      · rw [if_pos ⟨rfl, z⟩, if_pos z]
      · rw [if_neg (fun y => z y.2), if_neg z]
    refine ⟨⟨?_, fun i k hi hk => ?_, fun i hi => ?_⟩, ⟨by omega, fun i k hi hk => ?_, fun i hi => ?_⟩, ?_, ?_⟩
    · rw [cd_wI_at, if_pos ⟨rfl, rfl⟩]
    · rw [g64, if_neg (by omega)]
      dsimp only
      by_cases z : i = n
      · rw [if_pos z, z]; exact hd k (by omega)
      · rw [if_neg z]; exact h1.2.1 i k (by omega) hk
    · rw [g64]
      dsimp only
      by_cases z : i = n
      · rw [if_pos z, if_pos (by omega)]
      · rw [if_neg z, if_neg (by omega)]; exact h1.2.2 i (by omega)
    · dsimp only
      by_cases z : i = n
      · rw [if_pos z]; exact hF.2.2 f s k hf hs hk
      · rw [if_neg z]; exact h2.2.1 i k (by omega) hk
    · dsimp only
      by_cases z : i = n
      · rw [if_pos z]; exact hs
      · rw [if_neg z]; exact h2.2.2 i (by omega)
    · exact MF_c (g _ _ (by omega) (by omega)) (g _ _ (by omega) (by omega)) (fun i => g _ _ (by omega) (by omega)) h3
    · exact MR_c (g _ _ (by omega) (by omega)) (g _ _ (by omega) (by omega)) (fun i => g _ _ (by omega) (by omega)) (fun i => g _ _ (by omega) (by omega)) (fun i => g _ _ (by omega) (by omega)) h4
  | succ r ih =>
    intro fu k N hk hfu h hd H
    obtain ⟨fu, rfl⟩ := Nat.exists_eq_succ_of_ne_zero (show fu ≠ 0 by omega)
    have h0 := h
    obtain ⟨h1, h2, h3, h4⟩ := h
    rw [f11_carry_15_L105, h3.1, if_neg (nI_ge (by omega) (by omega)), filmAt_n]
    have e : (7 : Int32) * N.1 15 24 + nI k = nI (7 * n + k) := by rw [h1.1, show (7 : Int32) = nI 7 from rfl, pk_mul, nI_add]
    simp only [cd_lt_p]
    rw [e, if_pos (by rw [ci_nI (by omega)]; omega), if_pos (by rw [ci_nI (by omega)]; omega), nI_clamp (by omega), nI_clamp (by omega), nI_1, h3.2.2 f s k hf hs (by omega)]
    have g : ∀ x i, ¬ (x = 64) → (cd_wI N 64 (7 * n + k) (nI (fl f s k))).1 x i = N.1 x i := fun x i z1 => by rw [cd_wI_at, if_neg (by omega)]
    have g64 : ∀ i, (cd_wI N 64 (7 * n + k) (nI (fl f s k))).1 64 i = if i = 7 * n + k then nI (fl f s k) else N.1 64 i := by
      intro i
      rw [cd_wI_at]
      by_cases z : i = 7 * n + k
      · rw [if_pos ⟨rfl, z⟩, if_pos z]
      · rw [if_neg (fun y => z y.2), if_neg z]
    refine ih fu (k + 1) _ (by omega) (by omega) ⟨⟨?_, fun i k hi hk => ?_, fun i hi => ?_⟩, h2, ?_, ?_⟩ (fun k' hk' => ?_) H
    · rw [g _ _ (by omega)]; exact h1.1
    · rw [g64, if_neg (by omega)]; exact h1.2.1 i k hi hk
    · rw [g64, if_neg (by omega)]; exact h1.2.2 i hi
    · exact MF_c (g _ _ (by omega)) (g _ _ (by omega)) (fun i => g _ _ (by omega)) h3
    · exact MR_c (g _ _ (by omega)) (g _ _ (by omega)) (fun i => g _ _ (by omega)) (fun i => g _ _ (by omega)) (fun i => g _ _ (by omega)) h4
    · rw [g64]
      by_cases z : k' = k
      · rw [if_pos (by omega), z]
      · rw [if_neg (by omega)]; exact hd k' (by omega)
/-- full: nothing more comes -/
theorem ca1_full {g : Nat → Nat → Nat} {σ : cg_} (h : ¬ σ.1 < 90) : (ca1_ g σ).1 = σ.1 ∧ (ca1_ g σ).2.1 = σ.2.1 ∧ (ca1_ g σ).2.2.1 = σ.2.2.1 := by
  unfold ca1_
  rw [if_neg h]
  exact ⟨rfl, rfl, rfl⟩
theorem cad_full {g : Nat → Nat → Nat} : ∀ (r : Nat) (σ : cg_), ¬ σ.1 < 90 → (cad_ g r σ).1 = σ.1 ∧ (cad_ g r σ).2.1 = σ.2.1 ∧ (cad_ g r σ).2.2.1 = σ.2.2.1 := by
  intro r
  induction r with
  | zero => intro σ _; exact ⟨rfl, rfl, rfl⟩
  | succ r ih =>
    intro σ h
    have a := ca1_full (g := g) h
    have b := ih (ca1_ g σ) (by rw [a.1]; exact h)
    exact ⟨b.1.trans a.1, b.2.1.trans a.2.1, b.2.2.trans a.2.2⟩
/-- the reference at a state of the carrying: the side is the next parity while there is room -/
def MS (N : cd_M) (w nf : Nat) (fl : Nat → Nat → Nat → Nat) (nc fo : Nat) (ln : Nat → Nat) (nb : Nat → Nat → Nat) (vl : Nat → Nat) (σ : cg_) (s : Nat) : Prop := MC N w nf fl nc fo ln nb vl σ.1 σ.2.1 σ.2.2.1 ∧ s < 2 ∧ (σ.1 < 90 → s = σ.2.2.2)
theorem cry_L74 {f p : Nat} (hF : BF w nf fl) (hB : BR nc fo ln nb vl) (hf : f < nf) (hp : p < ln fo) {r62 : Int32 → Int32 → Int32 → cd_M → Option (Int32 × cd_M)} {Q : Int32 × cd_M → Prop} : ∀ (r fu i s : Nat) (σ : cg_) (N : cd_M), i + r = nb fo p → r < fu → MS N w nf fl nc fo ln nb vl σ s →
    (∀ (N1 : cd_M) (s1 : Nat), MS N1 w nf fl nc fo ln nb vl (cad_ (fl f) r σ) s1 → cw (r62 (nI (if p + 1 < ln fo then p + 1 else 0)) (nI s1) (nI (f + 1)) N1) Q) → cw (f11_carry_15_L74 r62 fu (nI p) (nI s) (nI f) (nI i) N) Q := by
  intro r
  have h4 := hB.2.1
  have hfo := hB.2.2.1
  have hl := hB.2.2.2.1 fo hfo
  have h5 := hB.2.2.2.2.1 fo p hfo hp
  have last : ∀ (N : cd_M) (s : Nat) (σ : cg_), MS N w nf fl nc fo ln nb vl σ s → (∀ (N1 : cd_M) (s1 : Nat), MS N1 w nf fl nc fo ln nb vl σ s1 → cw (r62 (nI (if p + 1 < ln fo then p + 1 else 0)) (nI s1) (nI (f + 1)) N1) Q) → cw (f11_carry_15_L188 r62 (nI p) (nI s) (nI f) N) Q := by
    intro N s σ h H
    have h0 := h
    obtain ⟨⟨h1, h2, h3, h4'⟩, hs, -⟩ := h
    unfold f11_carry_15_L188
    simp only [cd_lt_p]
    rw [h4'.2.1, if_pos (by rw [ci_nI (by omega)]; omega), nI_clamp (by omega), h4'.2.2.1 fo hfo, if_neg (nI_ne0 (by omega) (by omega)), nI_1, nI_1, pk_rem (by omega) (by omega) (by omega)]
    have e : (p + 1) % ln fo = if p + 1 < ln fo then p + 1 else 0 := by
      by_cases q : p + 1 < ln fo
      · rw [if_pos q, Nat.mod_eq_of_lt q]
      · have : p + 1 = ln fo := by omega
        rw [if_neg q, this, Nat.mod_self]
    rw [e]
    exact H N s h0
  induction r with
  | zero =>
    intro fu i s σ N hi hfu h H
    obtain ⟨fu, rfl⟩ := Nat.exists_eq_succ_of_ne_zero (show fu ≠ 0 by omega)
    have h0 := h
    obtain ⟨⟨h1, h2, h3, h4'⟩, hs, -⟩ := h
    have e : (6 : Int32) * N.1 15 23 + nI p = nI (6 * fo + p) := by rw [h4'.2.1, show (6 : Int32) = nI 6 from rfl, pk_mul, nI_add]
    rw [f11_carry_15_L74, e, if_pos (by rw [ci_nI (by omega)]; omega), nI_clamp (by omega), h4'.2.2.2.1 fo p hfo hp, if_pos (nI_le (by omega) (by omega))]
    exact last N s σ h0 H
  | succ r ih =>
    intro fu i s σ N hi hfu h H
    obtain ⟨fu, rfl⟩ := Nat.exists_eq_succ_of_ne_zero (show fu ≠ 0 by omega)
    have h0 := h
    obtain ⟨⟨h1, h2, h3, h4'⟩, hs, hs2⟩ := h
    have e : (6 : Int32) * N.1 15 23 + nI p = nI (6 * fo + p) := by rw [h4'.2.1, show (6 : Int32) = nI 6 from rfl, pk_mul, nI_add]
    rw [f11_carry_15_L74, e, if_pos (by rw [ci_nI (by omega)]; omega), nI_clamp (by omega), h4'.2.2.2.1 fo p hfo hp, if_neg (nI_ge (by omega) (by omega)), h1.1, show (90 : Int32) = nI 90 from rfl]
    have h9 := h2.1
    by_cases q : σ.1 < 90
    · rw [if_neg (nI_ge q (by omega))]
      refine cry_L105 hF hf hs q w cd_fu 0 N (by omega) (by unfold cd_fu; have := hF.1; omega) h0.1 (fun k' hk' => by omega) (fun N1 k1 => ?_)
      have ec : ca1_ (fl f) σ = (σ.1 + 1, (fun i => if i = σ.1 then fl f σ.2.2.2 else σ.2.1 i), (fun i => if i = σ.1 then σ.2.2.2 else σ.2.2.1 i), 1 - σ.2.2.2) := by unfold ca1_; rw [if_pos q]
      refine ih fu (i + 1) (1 - s) (ca1_ (fl f) σ) N1 (by omega) (by omega) ⟨?_, by omega, fun _ => ?_⟩ H
      · rw [ec, ← hs2 q]; exact k1
      · rw [ec, ← hs2 q]
    · rw [if_pos (nI_le (by omega) (by omega))]
      refine last N s σ h0 (fun N1 s1 k1 => H N1 s1 ?_)
      have fu := cad_full (g := fl f) (r + 1) σ q
      obtain ⟨c1, c2, c3⟩ := k1
      exact ⟨by rw [fu.1, fu.2.1, fu.2.2]; exact c1, c2, fun z => absurd (by rw [fu.1] at z; exact z) q⟩
theorem cry_L62 (hF : BF w nf fl) (hB : BR nc fo ln nb vl) : ∀ (r fu f p s : Nat) (σ : cg_) (N : cd_M), f + r = nf → r < fu → p < ln fo → MS N w nf fl nc fo ln nb vl σ s → cw (f11_carry_15_L62 fu (nI p) (nI s) (nI f) N) (fun v => v.1 = nI (cas_ fl (ln fo) (nb fo) r f p σ).1 ∧ ML v.2 w (cas_ fl (ln fo) (nb fo) r f p σ).1 (cas_ fl (ln fo) (nb fo) r f p σ).2.1 (cas_ fl (ln fo) (nb fo) r f p σ).2.2.1) := by
  intro r
  have hnf := hF.2.1
  induction r with
  | zero =>
    intro fu f p s σ N hi hfu hp h
    obtain ⟨fu, rfl⟩ := Nat.exists_eq_succ_of_ne_zero (show fu ≠ 0 by omega)
    rw [f11_carry_15_L62, h.1.2.2.1.2.1, if_pos (nI_le (by omega) (by omega))]
    exact cw_some.mpr ⟨h.1.1.1, h.1.1⟩
  | succ r ih =>
    intro fu f p s σ N hi hfu hp h
    obtain ⟨fu, rfl⟩ := Nat.exists_eq_succ_of_ne_zero (show fu ≠ 0 by omega)
    rw [f11_carry_15_L62, h.1.2.2.1.2.1, if_neg (nI_ge (by omega) (by omega))]
    have h5 := hB.2.2.2.2.1 fo p hB.2.2.1 hp
    refine cry_L74 hF hB (f := f) (by omega) hp (nb fo p) cd_fu 0 s σ N (by omega) (by unfold cd_fu; omega) h (fun N1 s1 k1 => ?_)
    refine ih fu (f + 1) _ s1 _ N1 (by omega) (by omega) ?_ k1
    by_cases q : p + 1 < ln fo
    · rw [if_pos q]; exact q
    · rw [if_neg q]; omega
end cmA
theorem o_carry : cl_o_carry Rel := by
  intro a1 a2
  refine op2_ (w1 := f10_carry_0_w) (w2 := f11_carry_15_w) (by decide) (by decide) (fun M => w_f10_carry_0 (by decide) cf_refl) (fun M => w_f11_carry_15 (by decide) cf_refl) ?_
  intro M N h
  have h' := Rel2_t (v := 0) h
  unfold f10_carry_0 f11_carry_15
  simp only [cd_lt_p]
  generalize cd_wI N 15 0 0 = N0 at h'
  have hk := h'
  obtain ⟨t, b, w, nf, fl, nc, fo, ln, nb, vl, n, sm, pa, u, x, hn, hs, hp, hT, hF, hR, ⟨d1, d2, d3⟩, ⟨e1, e2, e3⟩, -⟩ := h'
  have hw := hF.2.2.1
  have hnf := hF.2.2.2.1
  have hfo := hR.2.2.2.2.1
  have hnc := hR.2.2.2.1
  have hl := hR.2.2.2.2.2.1 fo hfo
  have no : ∃ v, cw (some ((-1 : Int32), M)) (fun r => r.1 = v ∧ cw (some ((-1 : Int32), N0)) (fun q => q.1 = v ∧ Rel2 r.2 q.2)) := ⟨_, cw_some.mpr ⟨rfl, cw_some.mpr ⟨rfl, hk⟩⟩⟩
  unfold f1_size_5
  rw [hF.1.2.1, hF.2.1.2.1]
  by_cases q : nf = 0
  · subst q
    rw [if_pos (show nI 0 = 0 from rfl), if_pos (show nI 0 = 0 from rfl)]
    exact no
  rw [if_neg (nI_ne0 (by omega) (by omega)), if_neg (nI_ne0 (by omega) (by omega)), hR.1.2.1, hR.2.1.2.1, if_pos (show cd_in (nI fo) 8 = true by rw [ci_nI (by omega)]; omega), nI_clamp (by omega), hR.2.1.2.2.1 fo hfo]
  by_cases hpl : inr_ a1 (ln fo)
  · rw [hasP6 hR.1 hR.2.2 hfo hpl, if_neg (fun z => (wi_in (by omega)).mp z hpl)]
    rw [bind_p, if_neg (by decide)]
    have e1' : (1 : Int64) = (nI 2 - 1).toInt64 := rfl
    by_cases hpr : inr_ a2 2
    · rw [if_neg (fun z => isPar.mp z hpr), e1', if_neg (fun z => (wi_in (by omega)).mp z hpr)]
      obtain ⟨p, hpl, rfl⟩ := hpl
      obtain ⟨par, hpr, rfl⟩ := hpr
      refine ⟨nI (cas_ fl (ln fo) (nb fo) nf 0 p (0, sm, pa, par)).1, ?_⟩
      simp only [cw_bind]
      refine cw_mono (begin0 d1 d3 e1 e3) (fun M1 h1 => ?_)
      obtain ⟨⟨k1, k2, k3⟩, kf1⟩ := h1
      have cF := CF_f kf1 (by decide) hF.1
      have cR := CR_f kf1 (by decide) hR.1
      rw [cR.2.1]
      refine cw_mono (car7 hR.2.2 (⟨hw, hnf, hF.2.2.2.2⟩ : BG5 w nf fl) hfo hpl hpr sm pa ⟨cF.2.1, cF.2.2⟩ cR) (fun M2 h2 => ?_)
      obtain ⟨⟨k4, bL, -⟩, kf2⟩ := h2
      refine cw_some.mpr ⟨k4.1, ?_⟩
      refine cw_mono (keeps15 hw d2 d3 e2 e3) (fun N1 g1 => ?_)
      obtain ⟨⟨m1, m2⟩, mf1⟩ := g1
      have mF := MF_f mf1 (by decide) hF.2.1
      have mR := MR_f mf1 (by decide) hR.2.1
      have g : ∀ x i, ¬ (x = 15 ∧ i = 24) → (cd_wI N1 15 24 0).1 x i = N1.1 x i := fun x i z => by rw [cd_wI_at, if_neg z]
      refine cw_mono (cw_cp (cry_L62 hF.2.2 hR.2.2 nf cd_fu 0 p par (0, sm, pa, par) (cd_wI N1 15 24 0) (by omega) (by unfold cd_fu; omega) hpl ⟨⟨⟨?_, fun i k hi => absurd hi (Nat.not_lt_zero i), fun i hi => absurd hi (Nat.not_lt_zero i)⟩, ⟨by show 0 ≤ 90; omega, fun i k hi => absurd hi (Nat.not_lt_zero i), fun i hi => absurd hi (Nat.not_lt_zero i)⟩, ?_, ?_⟩, hpr, fun _ => rfl⟩) (w_f11_carry_15_L62 (ws := f11_carry_15_L62_w) (by decide) _ _ _ _ _ cf_refl)) (fun r h3 => ?_)
      · rw [cd_wI_at, if_pos ⟨rfl, rfl⟩]; rfl
      · exact MF_c (g _ _ (by omega)) (g _ _ (by omega)) (fun i => g _ _ (by omega)) mF
      · exact MR_c (g _ _ (by omega)) (g _ _ (by omega)) (fun i => g _ _ (by omega)) (fun i => g _ _ (by omega)) (fun i => g _ _ (by omega)) mR
      obtain ⟨⟨q1, m4⟩, mf2⟩ := h3
      refine ⟨q1, ?_⟩
      have mf3 : cf_ ((15, some 24) :: f11_carry_15_L62_w) N1 r.2 := cf_trans (cf_wcI (by decide) cf_refl) (cf_le (by decide) mf2)
      have z2 : cf_ ((15, some 24) :: f11_carry_15_L62_w ++ f11_keeps_15_w) N0 r.2 := cf_trans (cf_le (by decide) mf1) (cf_le (by decide) mf3)
      have z1 : cf_ (f4_carryFrames_7_5_6_w ++ f10_beginAct_0_w) M M2 := cf_trans (cf_le (by decide) kf1) (cf_le (by decide) kf2)
      exact Rel_act hT hF hR z1 z2 (by decide) ⟨k4, m4, bL⟩ ⟨CH_f kf2 (by decide) k2, MH_f mf3 (by decide) m2, BH_push d3 e3⟩ ⟨(kf2 0 11 (by decide)).1.trans k3.1, fun c hc => ((kf2 35 c (na_cov (by decide) c)).1).trans (k3.2 c hc)⟩
    · rw [if_pos (isPar.mpr hpr), e1', if_pos ((wi_in (by omega)).mpr hpr)]
      exact no
  · rw [hasP6n hR.1 hR.2.2 hfo hpl, if_pos ((wi_in (by omega)).mpr hpl)]
    rw [bind_p, if_pos rfl]
    exact no
