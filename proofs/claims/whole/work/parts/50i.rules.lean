/-! rules, as a whole -/
def d0_ (v : Nat) : Nat := if v = 1 then 40 else if v = 2 then 10 else 0
theorem clearC {M : cd_M} : cw (f5_clear_4 M) (fun M1 => (M1.1 4 3 = nI 0 ∧ ∀ v, v < 5 → M1.1 22 v = nI (d0_ v)) ∧ cf_ f5_clear_4_w M M1) := by
  refine cw_cp ?_ (w_f5_clear_4 (by decide) cf_refl)
  unfold f5_clear_4
  simp only [cd_lt_p]
  rw [if_pos (show cd_in 0 5 = true by decide), if_pos (show cd_in 1 5 = true by decide), if_pos (show cd_in 2 5 = true by decide), if_pos (show cd_in 3 5 = true by decide), if_pos (show cd_in 4 5 = true by decide)]
  refine cw_some.mpr ⟨?_, fun v hv => ?_⟩
  · rw [cd_wI_at, if_neg (by decide), cd_wI_at, if_neg (by decide), cd_wI_at, if_neg (by decide), cd_wI_at, if_neg (by decide), cd_wI_at, if_neg (by decide), cd_wI_at, if_pos ⟨rfl, rfl⟩]; rfl
  · have : v = 0 ∨ v = 1 ∨ v = 2 ∨ v = 3 ∨ v = 4 := by omega
    rcases this with rfl | rfl | rfl | rfl | rfl
    · rw [cd_wI_at, if_neg (by decide), cd_wI_at, if_neg (by decide), cd_wI_at, if_neg (by decide), cd_wI_at, if_neg (by decide), cd_wI_at, if_pos (by decide)]; rfl
    · rw [cd_wI_at, if_neg (by decide), cd_wI_at, if_neg (by decide), cd_wI_at, if_neg (by decide), cd_wI_at, if_pos (by decide)]; rfl
    · rw [cd_wI_at, if_neg (by decide), cd_wI_at, if_neg (by decide), cd_wI_at, if_pos (by decide)]; rfl
    · rw [cd_wI_at, if_neg (by decide), cd_wI_at, if_pos (by decide)]; rfl
    · rw [cd_wI_at, if_pos (by decide)]; rfl
theorem firstM {N : cd_M} : cw (f11_asAtFirst_15 1 N) (fun N1 => ((∀ v, v < 5 → N1.1 62 (5 + v) = nI (d0_ v)) ∧ KRr N N1) ∧ cf_ f11_asAtFirst_15_w N N1) := by
  refine cw_cp ?_ (w_f11_asAtFirst_15 (by decide) cf_refl)
  unfold f11_asAtFirst_15
  simp only [cd_lt_p]
  rw [if_pos (show cd_in ((5 : Int32) * 1 + 0) 10 = true by decide), if_pos (show cd_in ((5 : Int32) * 1 + 1) 10 = true by decide), if_pos (show cd_in ((5 : Int32) * 1 + 2) 10 = true by decide), if_pos (show cd_in ((5 : Int32) * 1 + 3) 10 = true by decide), if_pos (show cd_in ((5 : Int32) * 1 + 4) 10 = true by decide)]
  rw [show ((5 : Int32) * 1 + 0).toNatClampNeg = 5 by decide, show ((5 : Int32) * 1 + 1).toNatClampNeg = 6 by decide, show ((5 : Int32) * 1 + 2).toNatClampNeg = 7 by decide, show ((5 : Int32) * 1 + 3).toNatClampNeg = 8 by decide, show ((5 : Int32) * 1 + 4).toNatClampNeg = 9 by decide]
  refine cw_some.mpr ⟨fun v hv => ?_, KRr_w (KRr_w (KRr_w (KRr_w (KRr_w ⟨fun _ _ => rfl, fun _ _ => rfl, fun _ _ => rfl⟩ (by omega)) (by omega)) (by omega)) (by omega)) (by omega)⟩
  have : v = 0 ∨ v = 1 ∨ v = 2 ∨ v = 3 ∨ v = 4 := by omega
  rcases this with rfl | rfl | rfl | rfl | rfl
  · rw [cd_wI_at, if_neg (by decide), cd_wI_at, if_neg (by decide), cd_wI_at, if_neg (by decide), cd_wI_at, if_neg (by decide), cd_wI_at, if_pos (by decide)]; rfl
  · rw [cd_wI_at, if_neg (by decide), cd_wI_at, if_neg (by decide), cd_wI_at, if_neg (by decide), cd_wI_at, if_pos (by decide)]; rfl
  · rw [cd_wI_at, if_neg (by decide), cd_wI_at, if_neg (by decide), cd_wI_at, if_pos (by decide)]; rfl
  · rw [cd_wI_at, if_neg (by decide), cd_wI_at, if_pos (by decide)]; rfl
  · rw [cd_wI_at, if_pos (by decide)]; rfl
theorem rl_38 : ∀ (r fu k : Nat) (N : cd_M), k + r = 5 → r < fu → (∀ v, v < k → N.1 63 v = nI 0) → ∃ N1, f11_rules_15_L38 fu (nI k) N = (f11_readsRules_15 N1).bind (cd_u2 fun v7 M6 => if v7 = 0 then (some (f11_told_15 M6, M6)) else (cd_lt (cd_wI M6 15 17 (M6.1 15 18)) fun M10 => f11_rules_15_L78 cd_fu 0 M10)) ∧ cf_ [(63, none)] N N1 ∧ ∀ v, v < 5 → N1.1 63 v = nI 0 := by
  intro r
  induction r with
  | zero =>
    intro fu k N hk hfu hd
    obtain ⟨fu, rfl⟩ := Nat.exists_eq_succ_of_ne_zero (show fu ≠ 0 by omega)
    rw [f11_rules_15_L38, show (5 : Int32) = nI 5 from rfl, if_pos (nI_le (by omega) (by omega))]
    exact ⟨N, rfl, cf_refl, fun v hv => hd v (by omega)⟩
  | succ r ih =>
    intro fu k N hk hfu hd
    obtain ⟨fu, rfl⟩ := Nat.exists_eq_succ_of_ne_zero (show fu ≠ 0 by omega)
    rw [f11_rules_15_L38, show (5 : Int32) = nI 5 from rfl, if_neg (nI_ge (by omega) (by omega)), if_pos (by rw [ci_nI (by omega)]; omega), nI_clamp (by omega), cd_lt_p, cd_lt_p, nI_1]
    obtain ⟨N1, h1, h2, h3⟩ := ih fu (k + 1) (cd_wI N 63 k (vp_nar .boolean 0)) (by omega) (by omega) (fun v hv => by
      rw [cd_wI_at]
      by_cases z : v = k
      · rw [if_pos ⟨rfl, z⟩]; rfl
      · rw [if_neg (fun y => z y.2)]; exact hd v (by omega))
    exact ⟨N1, h1, cf_trans (cf_wcI (cf_cov_iff.mpr (Or.inl (by simp))) cf_refl) h2, h3⟩
theorem rl_78 {Q : Int32 × cd_M → Prop} : ∀ (r fu k : Nat) (N : cd_M), k + r = 4 → r < fu → (∀ N1, cf_ [(60, none)] N N1 → (∀ i, N1.1 60 i = if k ≤ i ∧ i < 4 then N.1 60 (4 + i) else N.1 60 i) → cw (f11_rules_15_L105 cd_fu 0 N1) Q) → cw (f11_rules_15_L78 fu (nI k) N) Q := by
  intro r
  induction r with
  | zero =>
    intro fu k N hk hfu H
    obtain ⟨fu, rfl⟩ := Nat.exists_eq_succ_of_ne_zero (show fu ≠ 0 by omega)
    rw [f11_rules_15_L78, show (4 : Int32) = nI 4 from rfl, if_pos (nI_le (by omega) (by omega))]
    exact H N cf_refl (fun i => by rw [if_neg (by omega)])
  | succ r ih =>
    intro fu k N hk hfu H
    obtain ⟨fu, rfl⟩ := Nat.exists_eq_succ_of_ne_zero (show fu ≠ 0 by omega)
    have e4 : nI 4 + nI k = nI (4 + k) := nI_add 4 k
    rw [f11_rules_15_L78, show (4 : Int32) = nI 4 from rfl, if_neg (nI_ge (by omega) (by omega)), e4, if_pos (by rw [ci_nI (by omega)]; omega), if_pos (by rw [ci_nI (by omega)]; omega), nI_clamp (by omega), nI_clamp (by omega), cd_lt_p, cd_lt_p, nI_1]
    refine ih fu (k + 1) _ (by omega) (by omega) (fun N1 h1 h2 => H N1 (cf_trans (cf_wcI (cf_cov_iff.mpr (Or.inl (by simp))) cf_refl) h1) (fun i => ?_))
    rw [h2 i]
    have e1 : (cd_wI N 60 k (N.1 60 (4 + k))).1 60 (4 + i) = N.1 60 (4 + i) := by rw [cd_wI_at, if_neg (by omega)]
    have e2 : (cd_wI N 60 k (N.1 60 (4 + k))).1 60 i = if i = k then N.1 60 (4 + k) else N.1 60 i := by
      rw [cd_wI_at]
      by_cases z : i = k
      · rw [if_pos ⟨rfl, z⟩, if_pos z]
      · rw [if_neg (fun y => z y.2), if_neg z]
    rw [e1, e2]
    by_cases z : i = k
    · rw [if_neg (by omega), if_pos z, if_pos (by omega), z]
    · by_cases y : k + 1 ≤ i ∧ i < 4
      · rw [if_pos y, if_pos (by omega)]
      · rw [if_neg y, if_neg z, if_neg (by omega)]
theorem rl_105 {Q : Int32 × cd_M → Prop} : ∀ (r fu k : Nat) (N : cd_M), k + r = 24 → r < fu → (∀ N1, cf_ [(61, none)] N N1 → (∀ i, N1.1 61 i = if k ≤ i ∧ i < 24 then N.1 61 (24 + i) else N.1 61 i) → cw (f11_rules_15_L134 cd_fu 0 N1) Q) → cw (f11_rules_15_L105 fu (nI k) N) Q := by
  intro r
  induction r with
  | zero =>
    intro fu k N hk hfu H
    obtain ⟨fu, rfl⟩ := Nat.exists_eq_succ_of_ne_zero (show fu ≠ 0 by omega)
    rw [f11_rules_15_L105, show (24 : Int32) = nI 24 from rfl, if_pos (nI_le (by omega) (by omega))]
    exact H N cf_refl (fun i => by rw [if_neg (by omega)])
  | succ r ih =>
    intro fu k N hk hfu H
    obtain ⟨fu, rfl⟩ := Nat.exists_eq_succ_of_ne_zero (show fu ≠ 0 by omega)
    have e4 : nI 24 + nI k = nI (24 + k) := nI_add 24 k
    rw [f11_rules_15_L105, show (24 : Int32) = nI 24 from rfl, if_neg (nI_ge (by omega) (by omega)), e4, if_pos (by rw [ci_nI (by omega)]; omega), if_pos (by rw [ci_nI (by omega)]; omega), nI_clamp (by omega), nI_clamp (by omega), cd_lt_p, cd_lt_p, nI_1]
    refine ih fu (k + 1) _ (by omega) (by omega) (fun N1 h1 h2 => H N1 (cf_trans (cf_wcI (cf_cov_iff.mpr (Or.inl (by simp))) cf_refl) h1) (fun i => ?_))
    rw [h2 i]
    have e1 : (cd_wI N 61 k (N.1 61 (24 + k))).1 61 (24 + i) = N.1 61 (24 + i) := by rw [cd_wI_at, if_neg (by omega)]
    have e2 : (cd_wI N 61 k (N.1 61 (24 + k))).1 61 i = if i = k then N.1 61 (24 + k) else N.1 61 i := by
      rw [cd_wI_at]
      by_cases z : i = k
      · rw [if_pos ⟨rfl, z⟩, if_pos z]
      · rw [if_neg (fun y => z y.2), if_neg z]
    rw [e1, e2]
    by_cases z : i = k
    · rw [if_neg (by omega), if_pos z, if_pos (by omega), z]
    · by_cases y : k + 1 ≤ i ∧ i < 24
      · rw [if_pos y, if_pos (by omega)]
      · rw [if_neg y, if_neg z, if_neg (by omega)]
theorem rl_134 : ∀ (r fu k : Nat) (N : cd_M), k + r = 5 → r < fu → cw (f11_rules_15_L134 fu (nI k) N) (fun v => (v.1 = N.1 15 17 ∧ v.2.1 15 26 = nI 0 ∧ v.2.1 15 23 = nI 0 ∧ ∀ i, v.2.1 62 i = if k ≤ i ∧ i < 5 then N.1 62 (5 + i) else N.1 62 i) ∧ cf_ [(62, none), (15, some 26), (15, some 23)] N v.2) := by
  intro r
  induction r with
  | zero =>
    intro fu k N hk hfu
    obtain ⟨fu, rfl⟩ := Nat.exists_eq_succ_of_ne_zero (show fu ≠ 0 by omega)
    rw [f11_rules_15_L134, show (5 : Int32) = nI 5 from rfl, if_pos (nI_le (by omega) (by omega))]
    simp only [cd_lt_p]
    refine cw_some.mpr ⟨⟨?_, ?_, ?_, fun i => ?_⟩, cf_wcI (by decide) (cf_wcI (by decide) cf_refl)⟩
    · show (cd_wI (cd_wI N 15 26 0) 15 23 0).1 15 17 = _
      rw [cd_wI_at, if_neg (by decide), cd_wI_at, if_neg (by decide)]
    · show (cd_wI (cd_wI N 15 26 0) 15 23 0).1 15 26 = _
      rw [cd_wI_at, if_neg (by decide), cd_wI_at, if_pos ⟨rfl, rfl⟩]; rfl
    · show (cd_wI (cd_wI N 15 26 0) 15 23 0).1 15 23 = _
      rw [cd_wI_at, if_pos ⟨rfl, rfl⟩]; rfl
    · show (cd_wI (cd_wI N 15 26 0) 15 23 0).1 62 i = _
      rw [cd_wI_at, if_neg (by omega), cd_wI_at, if_neg (by omega), if_neg (by omega)]
  | succ r ih =>
    intro fu k N hk hfu
    obtain ⟨fu, rfl⟩ := Nat.exists_eq_succ_of_ne_zero (show fu ≠ 0 by omega)
    have e4 : nI 5 + nI k = nI (5 + k) := nI_add 5 k
    rw [f11_rules_15_L134, show (5 : Int32) = nI 5 from rfl, if_neg (nI_ge (by omega) (by omega)), e4, if_pos (by rw [ci_nI (by omega)]; omega), if_pos (by rw [ci_nI (by omega)]; omega), nI_clamp (by omega), nI_clamp (by omega), cd_lt_p, cd_lt_p, nI_1]
    refine cw_mono (ih fu (k + 1) _ (by omega) (by omega)) (fun v h => ?_)
    obtain ⟨⟨h1, h2, h3, h4⟩, h5⟩ := h
    refine ⟨⟨?_, h2, h3, fun i => ?_⟩, cf_trans (cf_wcI (cf_cov_iff.mpr (Or.inl (by simp))) cf_refl) h5⟩
    · rw [h1, cd_wI_at, if_neg (by omega)]
    · rw [h4 i]
      have e1 : (cd_wI N 62 k (N.1 62 (5 + k))).1 62 (5 + i) = N.1 62 (5 + i) := by rw [cd_wI_at, if_neg (by omega)]
      have e2 : (cd_wI N 62 k (N.1 62 (5 + k))).1 62 i = if i = k then N.1 62 (5 + k) else N.1 62 i := by
        rw [cd_wI_at]
        by_cases z : i = k
        · rw [if_pos ⟨rfl, z⟩, if_pos z]
        · rw [if_neg (fun y => z y.2), if_neg z]
      rw [e1, e2]
      by_cases z : i = k
      · rw [if_neg (by omega), if_pos z, if_pos (by omega), z]
      · by_cases y : k + 1 ≤ i ∧ i < 5
        · rw [if_pos y, if_pos (by omega)]
        · rw [if_neg y, if_neg z, if_neg (by omega)]
theorem copy64 {M : cd_M} : cw (f5_copyFrom_6_4 M) (fun M1 => ((∀ i, i < 24 → M1.1 25 i = M.1 20 i) ∧ (∀ i, i < 4 → M1.1 26 i = M.1 21 i) ∧ (∀ i, i < 5 → M1.1 27 i = M.1 22 i) ∧ M1.1 6 3 = M.1 4 3) ∧ cf_ f5_copyFrom_6_4_w M M1) := by
  refine cw_cp ?_ (w_f5_copyFrom_6_4 (by decide) cf_refl)
  unfold f5_copyFrom_6_4
  rw [if_pos (show cd_cpOK 0 0 24 24 24 from cpOK (sp := 0) (dp := 0) (n := 24) (by omega) (by omega) (by omega) (by omega))]
  simp only [cd_lt_p]
  rw [if_pos (show cd_cpOK 0 0 4 4 4 from cpOK (sp := 0) (dp := 0) (n := 4) (by omega) (by omega) (by omega) (by omega)), if_pos (show cd_cpOK 0 0 5 5 5 from cpOK (sp := 0) (dp := 0) (n := 5) (by omega) (by omega) (by omega) (by omega))]
  rw [show Int32.toNatClampNeg 0 = 0 from rfl, show Int32.toNatClampNeg 24 = 24 from rfl, show Int32.toNatClampNeg 4 = 4 from rfl, show Int32.toNatClampNeg 5 = 5 from rfl]
  refine cw_some.mpr ⟨fun i hi => ?_, fun i hi => ?_, fun i hi => ?_, ?_⟩
  · rw [cd_wI_at, if_neg (by omega), cd_cI_at, if_neg (by omega), cd_cI_at, if_neg (by omega), cd_cI_at, if_pos ⟨rfl, by omega, by omega⟩]
    rw [show 0 + (i - 0) = i by omega]
  · rw [cd_wI_at, if_neg (by omega), cd_cI_at, if_neg (by omega), cd_cI_at, if_pos ⟨rfl, by omega, by omega⟩, cd_cI_at, if_neg (by omega)]
    rw [show 0 + (i - 0) = i by omega]
  · rw [cd_wI_at, if_neg (by omega), cd_cI_at, if_pos ⟨rfl, by omega, by omega⟩, cd_cI_at, if_neg (by omega), cd_cI_at, if_neg (by omega)]
    rw [show 0 + (i - 0) = i by omega]
  · rw [cd_wI_at, if_pos ⟨rfl, rfl⟩, cd_cI_at, if_neg (by omega), cd_cI_at, if_neg (by omega), cd_cI_at, if_neg (by omega)]
theorem o_rules : cl_o_rules Rel := by
  intro a1
  refine op_path (w1 := f10_rules_0_w) (w2 := f11_rules_15_w) (by decide) (by decide) (fun M => w_f10_rules_0 (by decide) cf_refl) (fun M => w_f11_rules_15 (by decide) cf_refl) ?_
  intro M N h
  have h' := Rel2_t (v := 0) h
  unfold f10_rules_0 f11_rules_15
  rw [cd_lt_p (v := cd_wI N 15 0 0)]
  generalize cd_wI N 15 0 0 = N0 at h'
  have hk := h'
  obtain ⟨t, b, w, nf, fl, nc, fo, ln, nb, vl, n, sm, pa, u, x, hn, hs, hp, hT, hF, hR, hL, hH, hCM, hX⟩ := h'
  have ht := hT.1.2.1
  have wi : f11_within a1.toInt64 0 (N0.1 15 2).toInt64 N0 = 0 ↔ ¬ (0 ≤ a1 ∧ a1 ≤ nI (4 * t)) := by rw [hT.2.1]; exact wi_32 (b := 0)
  by_cases q : 0 ≤ a1 ∧ a1 ≤ nI (4 * t)
  · rw [if_neg (fun z => (holds2 hT.1.1 ht).mp z q), if_neg (fun z => wi.mp z q)]
    obtain ⟨E, hE31, rfl⟩ := nI_of (Int32.not_lt.mpr q.1)
    have hE : E ≤ 4 * t := (nI_leI hE31 (by omega)).mp q.2
    obtain ⟨M1, N1, s, o1, o2, hJ, h2, of1, of2⟩ := openJ hT.1 hT.2 hE
    obtain ⟨M2, c1, ⟨c2, c3⟩, cf2⟩ := clearC (M := M1)
    have g15 : cf_ [(15, some 18)] N1 (cd_wI N1 15 18 0) := cf_wcI (by decide) cf_refl
    obtain ⟨N2, n1, ⟨n2, n3⟩, nf2⟩ := firstM (N := cd_wI N1 15 18 0)
    obtain ⟨N3, r1, r2, r3⟩ := rl_38 5 cd_fu 0 N2 (by omega) (by unfold cd_fu; omega) (fun v hv => absurd hv (Nat.not_lt_zero v))
    have r1' : f11_rules_15_L38 cd_fu 0 N2 = (f11_readsRules_15 N3).bind (cd_u2 fun v7 M6 => if v7 = 0 then (some (f11_told_15 M6, M6)) else (cd_lt (cd_wI M6 15 17 (M6.1 15 18)) fun M10 => f11_rules_15_L78 cd_fu 0 M10)) := r1
    have gM5 : cf_ [(1, some 5)] M2 (cd_wI M2 1 5 0) := cf_wcI (by decide) cf_refl
    have fMall : cf_ ([(1, some 5)] ++ f5_clear_4_w) M1 (cd_wI M2 1 5 0) := cf_trans (cf_le (by decide) cf2) (cf_le (by decide) gM5)
    have fNall : cf_ ([(15, some 18), (63, none)] ++ f11_asAtFirst_15_w) N1 N3 := cf_trans (cf_le (by decide) g15) (cf_trans (cf_le (by decide) nf2) (cf_le (by decide) r2))
    have J3 := JT_f hJ fMall fNall (by decide)
    have K1 : KRr N0 N1 := KRr_f ⟨fun _ _ => rfl, fun _ _ => rfl, fun _ _ => rfl⟩ of2 (by decide)
    have K2 : KRr N0 N2 := by
      have kk := KRr_f K1 g15 (by decide)
      exact ⟨fun c hc => (n3.1 c hc).trans (kk.1 c hc), fun i hi => (n3.2.1 i hi).trans (kk.2.1 i hi), fun v hv => (n3.2.2 v hv).trans (kk.2.2 v hv)⟩
    have D0 : DR (cd_wI M2 1 5 0) N3 N0 0 (fun _ => 0) (fun _ _ => 0) d0_ 0 := by
      refine ⟨⟨(gM5 4 3 (by decide)).1.trans c2, ?_, by omega⟩, fun c hc => absurd hc (Nat.not_lt_zero c), fun c i hc => absurd hc (Nat.not_lt_zero c), fun v hv => ⟨(gM5 22 v (na_cov (by decide) v)).1.trans (c3 v hv), (r2 62 _ (na_cov (by decide) _)).1.trans (n2 v hv), by unfold d0_; split; omega; split <;> omega⟩, by decide, ⟨by rw [cd_wI_at, if_pos ⟨rfl, rfl⟩]; rfl, by omega, fun v hv => ?_⟩, KRr_f K2 r2 (by decide)⟩
      · rw [(r2 15 18 (by decide)).1, (nf2 15 18 (by decide)).1, cd_wI_at, if_pos ⟨rfl, rfl⟩]; rfl
      · rw [r3 v hv, Nat.zero_testBit]; rfl
    have RJ := rr_22 (t := t) (b := b) (E := E) 9 cd_fu cd_fu 0 s 0 _ _ _ 0 _ _ (by omega) (by unfold cd_fu; omega) (by unfold cd_fu; omega) (by decide) J3 D0
    obtain ⟨M5, N5, hr⟩ := RJ
    rw [o2, bind_p, cd_lt_p, n1, bind_p, r1']
    have e1 : ∀ v, f8_readRules_1_L22 cd_fu (nI 0) (cd_wI M2 1 5 0) = some (v, M5) → f8_readRules_1 (nI E) M = some (v, M5) := fun v e => by
      unfold f8_readRules_1
      rw [o1, bind_p, c1, bind_p, cd_lt_p]
      exact e
    have fN : ∀ v, f11_readsRules_15_L0 cd_fu N3 = some (v, N5) → cf_ (f11_readsRules_15_w ++ f11_begins_15_w) N0 N5 := fun v e => w_f11_readsRules_15 (ws := f11_readsRules_15_w ++ f11_begins_15_w) (M0 := N0) (M := N3) (by decide) (cf_trans (cf_le (by decide) of2) (cf_le (by decide) fNall)) _ (show f11_readsRules_15 N3 = some (v, N5) from e)
    have f2 : ∀ v, f11_readsRules_15_L0 cd_fu N3 = some (v, N5) → N5.1 15 2 = nI 0 := fun v e => by
      have z := w_f11_readsRules_15 (ws := f11_readsRules_15_w) (M0 := N3) (M := N3) (by decide) cf_refl _ (show f11_readsRules_15 N3 = some (v, N5) from e)
      exact (z 15 2 (by decide)).1.trans ((fNall 15 2 (by decide)).1.trans h2)
    unfold f11_readsRules_15
    rcases hr with ⟨r1, r2', k, dl, dn, dv, m, k1, D⟩ | ⟨r1, r2', fr, kr⟩
    · have cc := e1 _ r1
      have fM : cf_ f8_readRules_1_w M M5 := w_f8_readRules_1 (ws := f8_readRules_1_w) (by decide) cf_refl _ cc
      have fN5 := fN _ r2'
      have h25 := f2 _ r2'
      rw [cc, r2', bind_p, bind_p, u2_p, u2_p, if_neg (show ¬ (1 : Int32) = 0 by decide)]
      unfold f7_empty_2 f3_empty_8 f5_cadences_6
      simp only [cd_lt_p]
      rw [if_neg (show ¬ (1 : Int32) = 0 by decide)]
      obtain ⟨⟨d1, d1', d1''⟩, d2, d3, d4, d5, -, -⟩ := D
      refine ⟨nI k, ?_⟩
      simp only [cw_bind]
      have gE : cf_ [(2, some 1)] M5 (cd_wI M5 2 1 0) := cf_wcI (by decide) cf_refl
      refine cw_mono (copy64 (M := cd_wI M5 2 1 0)) (fun M7 k7 => ?_)
      obtain ⟨⟨p1, p2, p3, p4⟩, kf7⟩ := k7
      have gA : cf_ [(0, some 10), (8, some 3)] M7 (cd_wI (cd_wI M7 0 10 0) 8 3 0) := cf_wcI (by decide) (cf_wcI (by decide) cf_refl)
      refine cw_mono (cw_cp forget0 (w_f10_forgetPaths_0 (ws := f10_forgetPaths_0_w) (by decide) cf_refl)) (fun M10 k10 => ?_)
      obtain ⟨k10, kf10⟩ := k10
      have fA : ∀ x i, cf_cov ([(0, some 10), (8, some 3)] ++ f10_forgetPaths_0_w) x i = false → M10.1 x i = M7.1 x i := fun x i z => by
        have zz : cf_ ([(0, some 10), (8, some 3)] ++ f10_forgetPaths_0_w) M7 M10 := cf_trans (cf_le (by decide) gA) (cf_le (by decide) kf10)
        exact (zz x i z).1
      have e63 : M10.1 6 3 = nI k := by rw [fA 6 3 (by decide), p4, (gE 4 3 (by decide)).1]; exact d1
      have fCR : CR M10 k 0 dl dn dv := by
        refine ⟨e63, ?_, fun c hc => ?_, fun c i hc hi => ?_, fun v hv => ?_⟩
        · rw [(kf10 0 10 (by decide)).1, cd_wI_at, if_neg (by decide), cd_wI_at, if_pos ⟨rfl, rfl⟩]; rfl
        · rw [fA 26 c (na_cov (by decide) c), p2 c (by omega), (gE 21 c (na_cov (by decide) c)).1]; exact (d2 c hc).1
        · have hl := (d2 c hc).2.2.2
          rw [fA 25 _ (na_cov (by decide) _), p1 _ (by omega), (gE 20 _ (na_cov (by decide) _)).1]; exact (d3 c i hc hi).1
        · rw [fA 27 v (na_cov (by decide) v), p3 v hv, (gE 22 v (na_cov (by decide) v)).1]; exact (d4 v hv).1
      refine cw_some.mpr ⟨e63, ?_⟩
      rw [d1']
      have g17 : cf_ [(15, some 17)] N5 (cd_wI N5 15 17 (nI k)) := cf_wcI (by decide) cf_refl
      refine rl_78 4 cd_fu 0 _ (by omega) (by unfold cd_fu; omega) (fun N6 x1 x2 => ?_)
      refine rl_105 24 cd_fu 0 _ (by omega) (by unfold cd_fu; omega) (fun N7 y1 y2 => ?_)
      refine cw_mono (rl_134 5 cd_fu 0 _ (by omega) (by unfold cd_fu; omega)) (fun r kk => ?_)
      obtain ⟨⟨z1, z2, z3, z4⟩, z5⟩ := kk
      have e17 : N7.1 15 17 = nI k := by rw [(y1 15 17 (by decide)).1, (x1 15 17 (by decide)).1, cd_wI_at, if_pos ⟨rfl, rfl⟩]
      refine ⟨z1.trans e17, ?_⟩
      have zN : cf_ ([(60, none), (61, none), (62, none), (15, some 26), (15, some 23), (15, some 17)] ++ (f11_readsRules_15_w ++ f11_begins_15_w)) N0 r.2 := cf_trans (cf_le (by decide) fN5) (cf_trans (cf_le (by decide) g17) (cf_trans (cf_le (by decide) x1) (cf_trans (cf_le (by decide) y1) (cf_le (by decide) z5))))
      have zM : cf_ (f8_readRules_1_w ++ [(2, some 1)] ++ f5_copyFrom_6_4_w ++ [(0, some 10), (8, some 3)] ++ f10_forgetPaths_0_w) M M10 := cf_trans (cf_le (by decide) fM) (cf_trans (cf_le (by decide) gE) (cf_trans (cf_le (by decide) kf7) (cf_trans (cf_le (by decide) gA) (cf_le (by decide) kf10))))
      have fMR : MR r.2 k 0 dl dn dv := by
        refine ⟨(z5 15 17 (by decide)).1.trans e17, z3, fun c hc => ?_, fun c i hc hi => ?_, fun v hv => ?_⟩
        · rw [(z5 60 c (na_cov (by decide) c)).1, (y1 60 c (na_cov (by decide) c)).1, x2 c, if_pos ⟨Nat.zero_le _, by omega⟩, (g17 60 _ (na_cov (by decide) _)).1]; exact (d2 c hc).2.1
        · have hl := (d2 c hc).2.2.2
          rw [(z5 61 _ (na_cov (by decide) _)).1, y2, if_pos ⟨Nat.zero_le _, by omega⟩, (x1 61 _ (na_cov (by decide) _)).1, (g17 61 _ (na_cov (by decide) _)).1]; exact (d3 c i hc hi).2.1
        · rw [z4, if_pos ⟨Nat.zero_le _, hv⟩, (y1 62 _ (na_cov (by decide) _)).1, (x1 62 _ (na_cov (by decide) _)).1, (g17 62 _ (na_cov (by decide) _)).1]; exact (d4 v hv).2.1
      refine ⟨0, b, w, nf, fl, k, 0, dl, dn, dv, n, sm, pa, 0, x, hn, hs, hp, ⟨⟨?_, by omega, fun i hi => absurd hi (Nat.not_lt_zero i)⟩, ⟨?_, fun i hi => absurd hi (Nat.not_lt_zero i)⟩⟩, ⟨CF_f zM (by decide) hF.1, MF_f zN (by decide) hF.2.1, hF.2.2⟩, ⟨fCR, fMR, k1, d1'', by omega, fun c hc => (d2 c hc).2.2, fun c i hc hi => (d3 c i hc hi).2.2, fun v hv => (d4 v hv).2.2, d5⟩, ⟨CL_f zM (by decide) hL.1, ML_f zN (by decide) hL.2.1, hL.2.2⟩, ⟨⟨?_, ?_, hH.1.2.2.1, fun j hj => absurd hj (Nat.not_lt_zero j)⟩, ⟨z2, fun j hj => absurd hj (Nat.not_lt_zero j)⟩, ⟨by omega, fun j hj => absurd hj (Nat.not_lt_zero j)⟩⟩, CM_clr k10 d1'', Or.inl k10.1⟩
      · rw [fA 2 1 (by decide), (kf7 2 1 (by decide)).1, cd_wI_at, if_pos ⟨rfl, rfl⟩]; rfl
      · rw [(z5 15 2 (by decide)).1, (y1 15 2 (by decide)).1, (x1 15 2 (by decide)).1, (g17 15 2 (by decide)).1]; exact h25
      · rw [(kf10 8 3 (by decide)).1, cd_wI_at, if_pos ⟨rfl, rfl⟩]; rfl
      · rw [(zM 8 2 (by decide)).1]; exact hH.1.2.1
    · have cc := e1 _ r1
      have fM : cf_ f8_readRules_1_w M M5 := w_f8_readRules_1 (ws := f8_readRules_1_w) (by decide) cf_refl _ cc
      have fN5 := fN _ r2'
      have h25 := f2 _ r2'
      obtain ⟨y, k, y1, y2, y3⟩ := fr
      rw [cc, r2', bind_p, bind_p, u2_p, u2_p, if_pos (show (0 : Int32) = 0 from rfl)]
      unfold f7_empty_2 f8_fault_1 f11_told_15
      simp only [cd_lt_p]
      rw [if_pos trivial]
      have gE : cf_ [(2, some 1)] M5 (cd_wI M5 2 1 0) := cf_wcI (by decide) cf_refl
      refine ⟨-2 - nI (8 * y + k), cw_some.mpr ⟨?_, cw_some.mpr ⟨?_, ?_⟩⟩⟩
      · show -2 - (cd_wI M5 2 1 0).1 1 3 = _
        rw [(gE 1 3 (by decide)).1, y1]
      · show -2 - (8 * N5.1 15 9 + N5.1 15 8) = _
        rw [y2, y3, show (8 : Int32) = nI 8 from rfl, pk_mul, nI_add]
      · have zM : cf_ (f8_readRules_1_w ++ [(2, some 1)]) M (cd_wI M5 2 1 0) := cf_trans (cf_le (by decide) fM) (cf_le (by decide) gE)
        have hl := hR.2.2.2.2.2.1
        have h4 := hR.2.2.2.1
        have fMR : MR N5 nc fo ln nb vl := ⟨(fN5 15 17 (by decide)).1.trans hR.2.1.1, (fN5 15 23 (by decide)).1.trans hR.2.1.2.1, fun c hc => (kr.1 c (by omega)).trans (hR.2.1.2.2.1 c hc), fun c i hc hi => (kr.2.1 _ (by have := (hl c hc).2; omega)).trans (hR.2.1.2.2.2.1 c i hc hi), fun v hv => (kr.2.2 v hv).trans (hR.2.1.2.2.2.2 v hv)⟩
        refine ⟨0, b, w, nf, fl, nc, fo, ln, nb, vl, n, sm, pa, u, x, hn, hs, hp, ⟨⟨by rw [cd_wI_at, if_pos ⟨rfl, rfl⟩]; rfl, by omega, fun i hi => absurd hi (Nat.not_lt_zero i)⟩, ⟨h25, fun i hi => absurd hi (Nat.not_lt_zero i)⟩⟩, ⟨CF_f zM (by decide) hF.1, MF_f fN5 (by decide) hF.2.1, hF.2.2⟩, ⟨CR_f zM (by decide) hR.1, fMR, hR.2.2⟩, ⟨CL_f zM (by decide) hL.1, ML_f fN5 (by decide) hL.2.1, hL.2.2⟩, ⟨CH_f zM (by decide) hH.1, MH_f fN5 (by decide) hH.2.1, hH.2.2⟩, CM_f zM (by decide) hCM, CX_f zM (by decide) hX⟩
  · rw [if_pos ((holds2 hT.1.1 ht).mpr q), if_pos (wi.mpr q)]
    exact ⟨_, cw_some.mpr ⟨rfl, cw_some.mpr ⟨rfl, hk⟩⟩⟩
