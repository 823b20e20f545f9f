/-! the class: frames rebuilt; gather as a whole -/
section rbA
variable {w n : Nat} {sm : Nat → Nat → Nat} {pa : Nat → Nat} {nc fo : Nat} {ln : Nat → Nat} {nb : Nat → Nat → Nat} {vl : Nat → Nat} {P : Nat → Bool}
theorem partC {M : cd_M} {g : Nat} (hn : n ≤ 90) (h : GB0 M n P) (hg : g < cnt_ P n) (h52 : M.1 52 g = mo_ w n sm pa vl P g) (hs : ¬ sec_ w n sm pa vl P g = true) : f2_partner_12 (nI g) M = some (nI (pt_ w n sm pa vl P g)) := by
  have cl := cnt_le (P := P) n
  have cin : cd_in (nI g) 90 = true := by rw [ci_nI (by omega)]; omega
  unfold f2_partner_12 pt_
  rw [orph12 h hn hg, bind_p, if_pos cin, if_pos cin, if_pos cin, nI_clamp (by omega), h52, (h.2.2 g hg).1]
  by_cases o : orp_ n P g = true
  · rw [if_pos o, if_neg (by decide), if_pos o, if_pos cin]
    unfold mo_
    by_cases z : mt_ w n sm pa vl P g = true
    · have z2 := (mt_can z).2
      unfold can_ at z2
      rw [decide_eq_true_eq] at z2
      rw [if_pos z, if_pos z, if_neg (fun y => (has12 h hn).mp y ⟨g + 1, z2.1, rfl⟩), if_pos (by rw [ci_nI (by omega)]; omega), nI_clamp (by omega), (h.2.2 (g + 1) z2.1).1]
    · rw [if_neg z, if_neg z, if_neg hs, if_pos]
      refine (has12 h hn).mpr ?_
      rintro ⟨j, hj, e⟩
      exact nI_nm1 (by omega) e.symm
  · rw [if_neg o, if_pos rfl, if_neg o, nI_1]
theorem add13 {M : cd_M} {k : Nat} {a b : Int64} (hk : k < 90) (h : M.1 13 3 = nI k) : cw (f1_add_13 a b M) (fun M1 => M1.1 13 3 = nI (k + 1) ∧ (∀ x, M1.2 54 x = if x = k then a else M.2 54 x) ∧ ∀ x, M1.2 55 x = if x = k then b else M.2 55 x) := by
  have cin : cd_in (nI k) 90 = true := by rw [ci_nI (by omega)]; omega
  unfold f1_add_13
  rw [h, show (90 : Int32) = nI 90 from rfl, if_neg (nI_ge hk (by omega)), if_neg (nI_ge hk (by omega)), if_pos cin, nI_clamp (by omega)]
  simp only [cd_lt_p]
  have e1 : (cd_wL M 54 k a).1 13 3 = nI k := h
  rw [e1, if_pos cin, nI_clamp (by omega)]
  have e2 : (cd_wL (cd_wL M 54 k a) 55 k b).1 13 3 + 1 = nI (k + 1) := by
    show M.1 13 3 + 1 = _
    rw [h, nI_1]
  rw [e2]
  refine cw_some.mpr ⟨by rw [cd_wI_at, if_pos ⟨rfl, rfl⟩], fun x => ?_, fun x => ?_⟩
  · show (cd_wL (cd_wL M 54 k a) 55 k b).2 54 x = _
    rw [cd_wL_at, if_neg (by omega), cd_wL_at]
    by_cases z : x = k
    · rw [if_pos ⟨rfl, z⟩, if_pos z]
    · rw [if_neg (fun y => z y.2), if_neg z]
  · show (cd_wL (cd_wL M 54 k a) 55 k b).2 55 x = _
    rw [cd_wL_at]
    by_cases z : x = k
    · rw [if_pos ⟨rfl, z⟩, if_pos z]
    · rw [if_neg (fun y => z y.2), if_neg z]; rfl
theorem addFrC {M : cd_M} {k g : Nat} (hw : w ≤ 6) (hL : CL M w n sm pa) (hb : BL w n sm pa) (hg : g < cnt_ P n) (hk : k < 90) (h : M.1 13 3 = nI k) : cw (f2_addFrame_12_7 (nI (gs_ n P g)) (nI (pt_ w n sm pa vl P g)) M) (fun M1 => (M1.1 13 3 = nI (k + 1) ∧ (∀ x, M1.2 54 x = if x = k then lN (rw_ (sm (ff_ w n sm pa vl P g 0)) w) else M.2 54 x) ∧ ∀ x, M1.2 55 x = if x = k then lN (rw_ (sm (ff_ w n sm pa vl P g 1)) w) else M.2 55 x) ∧ cf_ f2_addFrame_12_7_w M M1) := by
  refine cw_cp ?_ (w_f2_addFrame_12_7 (by decide) cf_refl)
  have la := gs_lt hg
  have lb := pt_lt (w := w) (sm := sm) (pa := pa) (vl := vl) hg
  have p1 := hb.2.2 _ la
  unfold f2_addFrame_12_7
  rw [parity7 hw hL hb la, bind_p, row7 hw hL hb la, row7 hw hL hb lb]
  simp only [bind_p]
  by_cases q : pa (gs_ n P g) = 0
  · have f0 : ff_ w n sm pa vl P g 0 = gs_ n P g := by unfold ff_; rw [if_pos q]
    have f1 : ff_ w n sm pa vl P g 1 = pt_ w n sm pa vl P g := by unfold ff_; rw [if_neg (by omega)]
    rw [if_pos (by rw [q]; rfl), cw_bind, f0, f1]
    exact cw_mono (add13 hk h) (fun M1 k1 => cw_some.mpr k1)
  · have f0 : ff_ w n sm pa vl P g 0 = pt_ w n sm pa vl P g := by unfold ff_; rw [if_neg q]
    have f1 : ff_ w n sm pa vl P g 1 = gs_ n P g := by unfold ff_; rw [if_pos (by omega)]
    rw [if_neg (nI_ne0 (by omega) (by omega)), cw_bind, f0, f1]
    exact cw_mono (add13 hk h) (fun M1 k1 => cw_some.mpr k1)
def RK (M : cd_M) (w n : Nat) (sm : Nat → Nat → Nat) (pa vl : Nat → Nat) (P : Nat → Bool) (g : Nat) : Prop := M.1 13 3 = nI (cnt_ (nsc_ w n sm pa vl P) g) ∧ (∀ j, j < g → M.1 53 j = nI (cnt_ (nsc_ w n sm pa vl P) (j + 1) - 1)) ∧ ∀ x, x < cnt_ (nsc_ w n sm pa vl P) g → M.2 54 x = lN (rw_ (sm (ff_ w n sm pa vl P (sel_ (nsc_ w n sm pa vl P) x g) 0)) w) ∧ M.2 55 x = lN (rw_ (sm (ff_ w n sm pa vl P (sel_ (nsc_ w n sm pa vl P) x g) 1)) w)
theorem nsc_0 : nsc_ w n sm pa vl P 0 = true := rfl
theorem nsc_pos {g : Nat} : 1 ≤ cnt_ (nsc_ w n sm pa vl P) (g + 1) := by
  have := cnt_succ (nsc_0 (w := w) (n := n) (sm := sm) (pa := pa) (vl := vl) (P := P))
  have := cnt_mono (P := nsc_ w n sm pa vl P) (show 0 + 1 ≤ g + 1 by omega)
  omega
theorem rb_10 {M0 : cd_M} (hw : w ≤ 6) (hL : CL M0 w n sm pa) (hb : BL w n sm pa) (h : GB0 M0 n P) (h52 : ∀ g, g < cnt_ P n → M0.1 52 g = mo_ w n sm pa vl P g) : ∀ (r fu g : Nat) (M : cd_M), g + r = cnt_ P n → r < fu → cf_ f2_rebuildFrames_12_7_w M0 M → RK M w n sm pa vl P g → cw (f2_rebuildFrames_12_7_L10 fu (nI g) M) (fun M1 => RK M1 w n sm pa vl P (cnt_ P n)) := by
  intro r
  have h9 := hb.1
  have cl := cnt_le (P := P) n
  have GBm : ∀ M, cf_ f2_rebuildFrames_12_7_w M0 M → GB0 M n P := fun M hf => GB0_c (hf 12 6 (by decide)).1 (fun i => (hf 49 i (na_cov (by decide) i)).1) (fun i => (hf 50 i (na_cov (by decide) i)).1) (fun i => (hf 51 i (na_cov (by decide) i)).1) h
  induction r with
  | zero =>
    intro fu g M hg hfu hf hK
    obtain ⟨fu, rfl⟩ := Nat.exists_eq_succ_of_ne_zero (show fu ≠ 0 by omega)
    have eg : g = cnt_ P n := by omega
    rw [f2_rebuildFrames_12_7_L10, (GBm M hf).1, if_pos (nI_le (by omega) (by omega))]
    rw [eg] at hK
    exact cw_some.mpr hK
  | succ r ih =>
    intro fu g M hg hfu hf hK
    obtain ⟨fu, rfl⟩ := Nat.exists_eq_succ_of_ne_zero (show fu ≠ 0 by omega)
    have hgn : g < cnt_ P n := by omega
    obtain ⟨k1, k2, k3⟩ := hK
    have cg := cnt_le (P := nsc_ w n sm pa vl P) g
    have cin : cd_in (nI g) 90 = true := by rw [ci_nI (by omega)]; omega
    have e52 : M.1 52 g = mo_ w n sm pa vl P g := (hf 52 g (na_cov (by decide) g)).1.trans (h52 g hgn)
    have fin : ∀ M1 : cd_M, cf_ f2_rebuildFrames_12_7_w M0 M1 → M1.1 13 3 = nI (cnt_ (nsc_ w n sm pa vl P) (g + 1)) → (∀ j, j < g → M1.1 53 j = nI (cnt_ (nsc_ w n sm pa vl P) (j + 1) - 1)) → (∀ x, x < cnt_ (nsc_ w n sm pa vl P) (g + 1) → M1.2 54 x = lN (rw_ (sm (ff_ w n sm pa vl P (sel_ (nsc_ w n sm pa vl P) x (g + 1)) 0)) w) ∧ M1.2 55 x = lN (rw_ (sm (ff_ w n sm pa vl P (sel_ (nsc_ w n sm pa vl P) x (g + 1)) 1)) w)) → cw (f2_rebuildFrames_12_7_L60 (f2_rebuildFrames_12_7_L10 fu) (nI g) M1) (fun M1 => RK M1 w n sm pa vl P (cnt_ P n)) := by
      intro M1 f1 v1 v2 v3
      have np := nsc_pos (w := w) (n := n) (sm := sm) (pa := pa) (vl := vl) (P := P) (g := g)
      unfold f2_rebuildFrames_12_7_L60 f1_size_13
      rw [if_pos cin, nI_clamp (by omega), v1]
      simp only [cd_lt_p]
      rw [nI_1]
      have e : nI (cnt_ (nsc_ w n sm pa vl P) (g + 1)) - 1 = nI (cnt_ (nsc_ w n sm pa vl P) (g + 1) - 1) := pk_sub (b := 1) np
      rw [e]
      refine ih fu (g + 1) _ (by omega) (by omega) ?_ ⟨?_, fun j hj => ?_, fun x hx => v3 x hx⟩
      · exact cf_wcI (cf_cov_iff.mpr (Or.inl (cf_has_mem.mp (by decide)))) f1
      · rw [cd_wI_at, if_neg (by omega)]; exact v1
      · rw [cd_wI_at]
        by_cases z : j = g
        · rw [if_pos ⟨rfl, z⟩, z]
        · rw [if_neg (fun y => z y.2)]; exact v2 j (by omega)
    have plain : ¬ sec_ w n sm pa vl P g = true → cw (f2_rebuildFrames_12_7_L39 (f2_rebuildFrames_12_7_L10 fu) (nI g) 0 M) (fun M1 => RK M1 w n sm pa vl P (cnt_ P n)) := by
      intro s
      have ns : nsc_ w n sm pa vl P g = true := by
        unfold nsc_
        cases u : sec_ w n sm pa vl P g with
        | true => exact absurd u s
        | false => rfl
      have c1 := cnt_succ ns
      unfold f2_rebuildFrames_12_7_L39
      rw [if_pos rfl, if_pos cin, nI_clamp (by omega), partC h9 (GBm M hf) hgn e52 s, bind_p, ((GBm M hf).2.2 g hgn).1, cw_bind]
      refine cw_mono (addFrC (vl := vl) hw (CL_f hf (by decide) hL) hb hgn (k := cnt_ (nsc_ w n sm pa vl P) g) (by omega) k1) (fun M1 m1 => ?_)
      obtain ⟨⟨m1, m2, m3⟩, mf⟩ := m1
      refine fin M1 (cf_trans hf (cf_le (by decide) mf)) (by rw [m1, c1]) (fun j hj => ((mf 53 j (na_cov (by decide) j)).1).trans (k2 j hj)) (fun x hx => ?_)
      rw [m2, m3]
      by_cases z : x = cnt_ (nsc_ w n sm pa vl P) g
      · rw [if_pos z, if_pos z, z, sel_P ns]
        exact ⟨rfl, rfl⟩
      · have hx' : x < cnt_ (nsc_ w n sm pa vl P) g := by omega
        rw [if_neg z, if_neg z, sel_up (sel_lt hx').1]
        exact k3 x hx'
    rw [f2_rebuildFrames_12_7_L10, (GBm M hf).1, if_neg (nI_ge (by omega) (by omega))]
    unfold f2_rebuildFrames_12_7_L38
    cases g with
    | zero =>
      rw [if_pos (show nI 0 ≤ 0 by decide)]
      exact plain (fun z => by cases z)
    | succ g =>
      rw [if_neg (nI_nle (by omega) (by omega)), if_pos cin, nI_clamp (by omega), e52, nI_pred]
      by_cases s : sec_ w n sm pa vl P (g + 1) = true
      · have ns : ¬ nsc_ w n sm pa vl P (g + 1) = true := by
          unfold nsc_
          rw [s]
          decide
        have c1 := cnt_same ns
        have nm : ¬ mt_ w n sm pa vl P (g + 1) = true := fun z => by
          rw [(mt_can z).1] at s
          cases s
        have em : mo_ w n sm pa vl P (g + 1) = nI g := by
          unfold mo_
          rw [if_neg nm, if_pos s]
          rfl
        rw [if_pos em]
        unfold f2_rebuildFrames_12_7_L39
        rw [if_neg (by decide)]
        refine fin M hf (by rw [k1, c1]) k2 (fun x hx => ?_)
        rw [c1] at hx
        rw [sel_up (sel_lt hx).1]
        exact k3 x hx
      · have em : ¬ mo_ w n sm pa vl P (g + 1) = nI g := by
          unfold mo_
          rw [if_neg s]
          by_cases z : mt_ w n sm pa vl P (g + 1) = true
          · rw [if_pos z]
            intro y
            have := (nI_eq (by omega) (by omega)).mp y
            omega
          · rw [if_neg z]
            exact fun y => nI_nm1 (by omega) y.symm
        rw [if_neg em]
        exact plain s
theorem ga_8 {M0 : cd_M} {ss : Nat → Nat} {ee : Nat → Bool} {cc : Nat → Nat} (hw : w ≤ 6) (hL : CL M0 w n sm pa) (hb : BL w n sm pa) (hR : CR M0 nc fo ln nb vl) (hB : BR nc fo ln nb vl) (hK : TK M0 ss ee cc n) (hq : sq_ n pa ss) (hs5 : ∀ i, ss i < 150) : ∀ (r fu f : Nat) (M : cd_M), f + r = n → r < fu → cf_ f2_gather_12_11_7_6_w M0 M → GK M (fi_ ss) f → cw (f2_gather_12_11_7_6_L8 fu (nI f) M) (fun M1 => GR M1 w n sm pa vl (fi_ ss)) := by
  intro r
  have h9 := hb.1
  induction r with
  | zero =>
    intro fu f M hf hfu hc hG
    obtain ⟨fu, rfl⟩ := Nat.exists_eq_succ_of_ne_zero (show fu ≠ 0 by omega)
    have ef : f = n := by omega
    rw [ef] at hG
    have cl := cnt_le (P := fi_ ss) n
    rw [f2_gather_12_11_7_6_L8]
    unfold f4_size_7
    rw [(CL_f hc (by decide) hL).1, if_pos (nI_le (by omega) (by omega)), cw_bind]
    have g0 : GB0 M n (fi_ ss) := ⟨hG.1, hG.2.1, fun g hg => ⟨(hG.2.2 g hg).1, (hG.2.2 g hg).2.1⟩⟩
    refine cw_mono (mateC hw (CL_f hc (by decide) hL) hb (CR_f hc (by decide) hR) hB g0 (fun g hg => (hG.2.2 g hg).2.2)) (fun M1 k1 => ?_)
    obtain ⟨⟨k1, k2, k3⟩, kf⟩ := k1
    have h52 : ∀ g, g < cnt_ (fi_ ss) n → M1.1 52 g = mo_ w n sm pa vl (fi_ ss) g := fun g hg => by rw [k3 g hg, if_pos hg]
    have g1 : GB0 M1 n (fi_ ss) := GB0_c (kf 12 6 (by decide)).1 (fun i => (kf 49 i (na_cov (by decide) i)).1) (fun i => (kf 50 i (na_cov (by decide) i)).1) (fun i => (kf 51 i (na_cov (by decide) i)).1) g0
    have L1 : CL M1 w n sm pa := CL_f kf (by decide) (CL_f hc (by decide) hL)
    rw [cw_bind]
    unfold f2_rebuildFrames_12_7 f1_begin_13
    simp only [cd_lt_p]
    refine cw_mono (cw_cp (rb_10 (M0 := M1) (vl := vl) hw L1 hb g1 h52 (cnt_ (fi_ ss) n) cd_fu 0 (cd_wI (cd_wI M1 13 2 0) 13 3 0) (by omega) (by unfold cd_fu; omega) (cf_wcI (by decide) (cf_wcI (by decide) cf_refl)) ⟨?_, fun j hj => absurd hj (Nat.not_lt_zero j), fun x hx => absurd hx (Nat.not_lt_zero x)⟩) (w_f2_rebuildFrames_12_7_L10 (ws := f2_rebuildFrames_12_7_w) (M0 := M1) (by decide) _ _ _ (cf_wcI (by decide) (cf_wcI (by decide) cf_refl)))) (fun M2 m => ?_)
    · rw [cd_wI_at, if_pos ⟨rfl, rfl⟩]; rfl
    obtain ⟨⟨m1, m2, m3⟩, mf⟩ := m
    refine cw_some.mpr ⟨?_, ?_, ?_, fun g hg => ⟨?_, m2 g hg⟩, m1, m3⟩
    · exact GB0_c (mf 12 6 (by decide)).1 (fun i => (mf 49 i (na_cov (by decide) i)).1) (fun i => (mf 50 i (na_cov (by decide) i)).1) (fun i => (mf 51 i (na_cov (by decide) i)).1) g1
    · rw [(mf 12 7 (by decide)).1]; exact k1
    · rw [(mf 12 8 (by decide)).1]; exact k2
    · rw [(mf 52 g (na_cov (by decide) g)).1]; exact h52 g hg
  | succ r ih =>
    intro fu f M hf hfu hc hG
    obtain ⟨fu, rfl⟩ := Nat.exists_eq_succ_of_ne_zero (show fu ≠ 0 by omega)
    have hfn : f < n := by omega
    have s5 := hs5 f
    rw [f2_gather_12_11_7_6_L8]
    unfold f4_size_7
    rw [(CL_f hc (by decide) hL).1, if_neg (nI_ge hfn (by omega))]
    have es : f9_seen_11 (nI f) M = some (nI (ss f % 5)) := by
      unfold f9_seen_11 f9_has_11
      have e6 : M.1 11 6 = nI n := (hc 11 6 (by decide)).1.trans hK.1
      rw [if_neg (fun z => (has_iff e6 (by omega)).mp z ⟨f, hfn, rfl⟩), if_pos (by rw [ci_nI (by omega)]; omega), nI_clamp (by omega), (hc 45 f (na_cov (by decide) f)).1, (hK.2.2.2.2.1 f hfn).2.2.1]
    have go : cw (f2_gather_12_11_7_6_L34 (f2_gather_12_11_7_6_L8 fu) (nI f) (nI (bn_ (fi_ ss f))) (nI f) M) (fun M1 => GR M1 w n sm pa vl (fi_ ss)) := by
      unfold f2_gather_12_11_7_6_L34
      rw [cw_bind]
      refine cw_mono (addG hG (by omega) (fun z => ?_)) (fun M1 k1 => ?_)
      · cases f with
        | zero => exact absurd (hq.1 (by omega)) z
        | succ f => exact cnt_pos hq (by omega)
      · simp only [cd_lt_p]
        rw [nI_1]
        exact ih fu (f + 1) M1 (by omega) (by omega) (cf_trans hc (cf_le (by decide) k1.2)) k1.1
    rw [es, bind_p]
    by_cases q : ss f % 5 = 0
    · have b1 : bn_ (fi_ ss f) = 1 := by unfold bn_ fi_; rw [if_pos (decide_eq_true q)]
      rw [b1] at go
      rw [if_pos (by rw [q]; rfl)]
      exact go
    · have b1 : bn_ (fi_ ss f) = 0 := by unfold bn_ fi_; rw [if_neg (fun z => q (of_decide_eq_true z))]
      rw [b1] at go
      rw [if_neg (nI_ne0 (by omega) (by omega))]
      exact go
theorem gatherC {M : cd_M} {ss : Nat → Nat} {ee : Nat → Bool} {cc : Nat → Nat} (hw : w ≤ 6) (hL : CL M w n sm pa) (hb : BL w n sm pa) (hR : CR M nc fo ln nb vl) (hB : BR nc fo ln nb vl) (hK : TK M ss ee cc n) (hq : sq_ n pa ss) (hs5 : ∀ i, ss i < 150) : cw (f2_gather_12_11_7_6 M) (fun M1 => GR M1 w n sm pa vl (fi_ ss) ∧ cf_ f2_gather_12_11_7_6_w M M1) := by
  refine cw_cp ?_ (w_f2_gather_12_11_7_6 (by decide) cf_refl)
  have h9 := hb.1
  unfold f2_gather_12_11_7_6
  simp only [cd_lt_p]
  refine ga_8 hw hL hb hR hB hK hq hs5 n cd_fu 0 _ (by omega) (by unfold cd_fu; omega) (cf_wcI (by decide) cf_refl) ⟨?_, fun i hi => absurd hi (Nat.not_lt_zero i), fun g hg => absurd hg (Nat.not_lt_zero g)⟩
  rw [cd_wI_at, if_pos ⟨rfl, rfl⟩]
  rfl
end rbA
