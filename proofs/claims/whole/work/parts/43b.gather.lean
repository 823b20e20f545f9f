/-! the class: groups gathered -/
def GK (M : cd_M) (P : Nat → Bool) (f : Nat) : Prop := M.1 12 6 = nI (cnt_ P f) ∧ (∀ i, i < f → M.1 49 i = nI (cnt_ P (i + 1) - 1)) ∧ ∀ g, g < cnt_ P f → M.1 50 g = nI (sel_ P g f) ∧ M.1 51 g = nI (sel_ P (g + 1) f - sel_ P g f) ∧ M.1 52 g = -1
section gaA
variable {P : Nat → Bool}
theorem gl_71 {M : cd_M} {f k y : Nat} (hf : f < 90) (hk : k < 90) (h6 : M.1 12 6 = nI (k + 1)) (hy : M.1 51 k = nI y) : cw (f2_addField_12_L71 (nI f) M) (fun M1 => M1.1 49 f = nI k ∧ M1.1 51 k = nI (y + 1) ∧ ∀ x i, ¬ (x = 49 ∧ i = f) → ¬ (x = 51 ∧ i = k) → M1.1 x i = M.1 x i) := by
  unfold f2_addField_12_L71
  rw [if_pos (by rw [ci_nI (by omega)]; omega), nI_clamp (by omega)]
  simp only [cd_lt_p]
  have e1 : (cd_wI M 49 f (M.1 12 6 - 1)).1 12 6 - 1 = nI k := by rw [cd_wI_at, if_neg (by omega), h6, nI_pred]
  have e2 : (cd_wI M 49 f (M.1 12 6 - 1)).1 51 k = nI y := by rw [cd_wI_at, if_neg (by omega)]; exact hy
  have cin : cd_in (nI k) 90 = true := by rw [ci_nI (by omega)]; exact hk
  rw [e1, if_pos cin, if_pos cin, nI_clamp (by omega), e2, nI_1]
  refine cw_some.mpr ⟨?_, ?_, fun x i z1 z2 => ?_⟩
  · rw [cd_wI_at, if_neg (by omega), cd_wI_at, if_pos ⟨rfl, rfl⟩, h6, nI_pred]
  · rw [cd_wI_at, if_pos ⟨rfl, rfl⟩]
  · rw [cd_wI_at, if_neg z2, cd_wI_at, if_neg z1]
theorem addG {M : cd_M} {f : Nat} (h : GK M P f) (hf : f < 90) (h1 : ¬ P f = true → 1 ≤ cnt_ P f) : cw (f2_addField_12 (nI f) (nI (bn_ (P f))) M) (fun M1 => GK M1 P (f + 1) ∧ cf_ f2_addField_12_w M M1) := by
  refine cw_cp ?_ (w_f2_addField_12 (by decide) cf_refl)
  have ck := cnt_le (P := P) f
  obtain ⟨a1, a2, a3⟩ := h
  unfold f2_addField_12
  rw [if_neg (nI_pos (by omega)), show (90 : Int32) = nI 90 from rfl, if_pos (nI_lt hf (by omega)), a1, if_neg (nI_ge (by omega) (by omega))]
  by_cases q : P f = true
  · have b1 : bn_ (P f) = 1 := by unfold bn_; rw [if_pos q]
    have c1 := cnt_succ q
    rw [b1, if_neg (show ¬ nI 1 = 0 by decide)]
    have cin : cd_in (nI (cnt_ P f)) 90 = true := by rw [ci_nI (by omega)]; omega
    unfold f2_addField_12_L31
    rw [a1, if_pos cin, nI_clamp (by omega)]
    simp only [cd_lt_p]
    have e1 : (cd_wI M 50 (cnt_ P f) (nI f)).1 12 6 = nI (cnt_ P f) := by rw [cd_wI_at, if_neg (by omega)]; exact a1
    rw [e1, if_pos cin, nI_clamp (by omega)]
    have e2 : (cd_wI (cd_wI M 50 (cnt_ P f) (nI f)) 51 (cnt_ P f) 0).1 12 6 = nI (cnt_ P f) := by rw [cd_wI_at, if_neg (by omega)]; exact e1
    rw [e2, if_pos cin, nI_clamp (by omega)]
    have e3 : (cd_wI (cd_wI (cd_wI M 50 (cnt_ P f) (nI f)) 51 (cnt_ P f) 0) 52 (cnt_ P f) (-1)).1 12 6 + 1 = nI (cnt_ P f + 1) := by rw [cd_wI_at, if_neg (by omega), e2, nI_1]
    rw [e3]
    have g : ∀ x i, ¬ ((x = 50 ∨ x = 51 ∨ x = 52) ∧ i = cnt_ P f) → ¬ (x = 12 ∧ i = 6) → (cd_wI (cd_wI (cd_wI (cd_wI M 50 (cnt_ P f) (nI f)) 51 (cnt_ P f) 0) 52 (cnt_ P f) (-1)) 12 6 (nI (cnt_ P f + 1))).1 x i = M.1 x i := fun x i z1 z2 => by rw [cd_wI_at, if_neg z2, cd_wI_at, if_neg (by omega), cd_wI_at, if_neg (by omega), cd_wI_at, if_neg (by omega)]
    have v0 : (cd_wI (cd_wI (cd_wI (cd_wI M 50 (cnt_ P f) (nI f)) 51 (cnt_ P f) 0) 52 (cnt_ P f) (-1)) 12 6 (nI (cnt_ P f + 1))).1 12 6 = nI (cnt_ P f + 1) := by rw [cd_wI_at, if_pos ⟨rfl, rfl⟩]
    have v1 : (cd_wI (cd_wI (cd_wI (cd_wI M 50 (cnt_ P f) (nI f)) 51 (cnt_ P f) 0) 52 (cnt_ P f) (-1)) 12 6 (nI (cnt_ P f + 1))).1 50 (cnt_ P f) = nI f := by rw [cd_wI_at, if_neg (by omega), cd_wI_at, if_neg (by omega), cd_wI_at, if_neg (by omega), cd_wI_at, if_pos ⟨rfl, rfl⟩]
    have v2 : (cd_wI (cd_wI (cd_wI (cd_wI M 50 (cnt_ P f) (nI f)) 51 (cnt_ P f) 0) 52 (cnt_ P f) (-1)) 12 6 (nI (cnt_ P f + 1))).1 51 (cnt_ P f) = nI 0 := by rw [cd_wI_at, if_neg (by omega), cd_wI_at, if_neg (by omega), cd_wI_at, if_pos ⟨rfl, rfl⟩]; rfl
    have v3 : (cd_wI (cd_wI (cd_wI (cd_wI M 50 (cnt_ P f) (nI f)) 51 (cnt_ P f) 0) 52 (cnt_ P f) (-1)) 12 6 (nI (cnt_ P f + 1))).1 52 (cnt_ P f) = -1 := by rw [cd_wI_at, if_neg (by omega), cd_wI_at, if_pos ⟨rfl, rfl⟩]
    generalize cd_wI (cd_wI (cd_wI (cd_wI M 50 (cnt_ P f) (nI f)) 51 (cnt_ P f) 0) 52 (cnt_ P f) (-1)) 12 6 (nI (cnt_ P f + 1)) = M6 at *
    refine cw_mono (gl_71 (k := cnt_ P f) hf (by omega) v0 v2) (fun M1 k1 => ?_)
    obtain ⟨k1, k2, k3⟩ := k1
    refine ⟨?_, fun i hi => ?_, fun j hj => ?_⟩
    · rw [k3 _ _ (by omega) (by omega), v0, c1]
    · by_cases z : i = f
      · rw [z, k1, c1]; congr 1
      · rw [k3 _ _ (by omega) (by omega), g _ _ (by omega) (by omega)]; exact a2 i (by omega)
    · by_cases z : j = cnt_ P f
      · rw [z, k2, k3 _ _ (by omega) (by omega), k3 _ _ (by omega) (by omega), v1, v3, sel_P q, sel_ge (k := cnt_ P f + 1) (by omega)]
        exact ⟨rfl, by congr 1; omega, rfl⟩
      · have hj' : j < cnt_ P f := by omega
        rw [k3 _ _ (by omega) (by omega), k3 _ _ (by omega) (by omega), k3 _ _ (by omega) (by omega), g _ _ (by omega) (by omega), g _ _ (by omega) (by omega), g _ _ (by omega) (by omega), sel_up (sel_lt hj').1]
        have b := a3 j hj'
        refine ⟨b.1, ?_, b.2.2⟩
        rw [b.2.1]
        by_cases y : j + 1 < cnt_ P f
        · rw [sel_up (sel_lt y).1]
        · rw [show j + 1 = cnt_ P f by omega, sel_P q, sel_ge (Nat.le_refl _)]
  · have b1 : bn_ (P f) = 0 := by unfold bn_; rw [if_neg q]
    have c1 := cnt_same q
    have hc := h1 q
    obtain ⟨k, hk⟩ : ∃ k, cnt_ P f = k + 1 := ⟨cnt_ P f - 1, by omega⟩
    rw [b1, if_pos (show nI 0 = 0 from rfl), if_neg (nI_ne0 (by omega) (by omega))]
    have a51 := (a3 k (by omega)).2.1
    refine cw_mono (gl_71 (k := k) hf (by omega) (by rw [a1, hk]) a51) (fun M1 k1 => ?_)
    obtain ⟨k1, k2, k3⟩ := k1
    refine ⟨?_, fun i hi => ?_, fun j hj => ?_⟩
    · rw [k3 _ _ (by omega) (by omega), a1, c1]
    · by_cases z : i = f
      · rw [z, k1, c1, hk]; congr 1
      · rw [k3 _ _ (by omega) (by omega)]; exact a2 i (by omega)
    · rw [c1] at hj
      have b := a3 j hj
      rw [k3 50 _ (by omega) (by omega), k3 52 _ (by omega) (by omega), sel_up (sel_lt hj).1]
      refine ⟨b.1, ?_, b.2.2⟩
      by_cases z : j = k
      · have l := (sel_lt (P := P) (k := k) (b := f) (by omega)).1
        rw [z, k2, sel_ge (k := k + 1) (b := f) (by omega), sel_ge (k := k + 1) (b := f + 1) (by omega)]
        congr 1
        omega
      · rw [k3 51 _ (by omega) (by omega), b.2.1, sel_up (sel_lt (show j + 1 < cnt_ P f by omega)).1]
end gaA
section gaB
variable {w n : Nat} {sm : Nat → Nat → Nat} {pa : Nat → Nat} {nc fo : Nat} {ln : Nat → Nat} {nb : Nat → Nat → Nat} {vl : Nat → Nat} {P : Nat → Bool}
theorem GB0_c {M M1 : cd_M} (e1 : M1.1 12 6 = M.1 12 6) (e2 : ∀ i, M1.1 49 i = M.1 49 i) (e3 : ∀ i, M1.1 50 i = M.1 50 i) (e4 : ∀ i, M1.1 51 i = M.1 51 i) (h : GB0 M n P) : GB0 M1 n P := by unfold GB0 at *; simp only [e1, e2, e3, e4]; exact h
theorem has12 {M : cd_M} (h : GB0 M n P) (hn : n ≤ 90) {a : Int32} : f2_has_12 a M = 0 ↔ ¬ inr_ a (cnt_ P n) := by
  have := cnt_le (P := P) n
  unfold f2_has_12
  exact has_iff h.1 (by omega)
theorem orph12 {M : cd_M} (h : GB0 M n P) (hn : n ≤ 90) {g : Nat} (hg : g < cnt_ P n) : f2_isOrphan_12 (nI g) M = some (if orp_ n P g = true then 1 else 0) := by
  have := cnt_le (P := P) n
  have b := gs_mono hg
  have c := gs_le (n := n) (P := P) (g := g + 1)
  unfold f2_isOrphan_12 orp_
  rw [if_neg (fun z => (has12 h hn).mp z ⟨g, hg, rfl⟩), if_pos (by rw [ci_nI (by omega)]; omega), nI_clamp (by omega), (h.2.2 g hg).2, show (1 : Int32) = nI 1 from rfl]
  simp only [decide_eq_true_eq]
  by_cases q : gs_ n P (g + 1) = gs_ n P g + 1
  · rw [if_pos q, if_pos (by congr 1; omega)]
  · rw [if_neg q, if_neg (fun z => q (by have := (nI_eq (by omega) (by omega)).mp z; omega))]
theorem orph12n {M : cd_M} (h : GB0 M n P) (hn : n ≤ 90) {a : Int32} (hg : ¬ inr_ a (cnt_ P n)) : f2_isOrphan_12 a M = some 0 := by
  unfold f2_isOrphan_12
  rw [if_pos ((has12 h hn).mpr hg)]
theorem canC {M : cd_M} {g : Nat} (hw : w ≤ 6) (hL : CL M w n sm pa) (hb : BL w n sm pa) (hR : CR M nc fo ln nb vl) (hB : BR nc fo ln nb vl) (h : GB0 M n P) (hg : g < cnt_ P n) (h52 : M.1 52 g = if sec_ w n sm pa vl P g = true then nI (g - 1) else -1) : f2_canMate_12_7_6 (nI g) M = some (if mt_ w n sm pa vl P g = true then 1 else 0) := by
  have h9 := hb.1
  have cl := cnt_le (P := P) n
  have cin : cd_in (nI g) 90 = true := by rw [ci_nI (by omega)]; omega
  unfold f2_canMate_12_7_6
  rw [orph12 h h9 hg, bind_p, if_pos cin, if_pos cin, nI_clamp (by omega), h52, nI_1, mt_eq]
  by_cases o1 : orp_ n P g = true
  · rw [if_pos o1, if_neg (by decide)]
    by_cases s : sec_ w n sm pa vl P g = true
    · rw [if_pos s, if_neg (nI_nm1 (by omega)), s]
      rfl
    · have s' : sec_ w n sm pa vl P g = false := by
        cases u : sec_ w n sm pa vl P g with
        | true => exact absurd u s
        | false => rfl
      rw [if_neg s, if_pos rfl, s', Bool.not_false, Bool.true_and]
      unfold can_
      simp only [decide_eq_true_eq]
      by_cases g1 : g + 1 < cnt_ P n
      · rw [orph12 h h9 g1, bind_p]
        by_cases o2 : orp_ n P (g + 1) = true
        · have la := gs_lt hg
          have lb := gs_lt g1
          have p1 := hb.2.2 _ la
          have p2 := hb.2.2 _ lb
          have hd := dist_le (m := vl 4) (w := w) (s := sm (gs_ n P g)) (t := sm (gs_ n P (g + 1))) (fun k hk => hb.2.1 _ k la hk) (fun k hk => hb.2.1 _ k lb hk)
          have hv := hB.2.2.2.2.2.1 3 (by decide)
          have e3 : f5_value_6 3 M = some (nI (vl 3)) := val6 hR (v := 3) (by decide)
          rw [if_pos o2, if_neg (by decide)]
          simp only [cd_lt_p]
          rw [if_pos (show cd_in (nI (g + 1)) 90 = true by rw [ci_nI (by omega)]; omega), nI_clamp (n := g + 1) (by omega)]
          rw [(h.2.2 g hg).1, (h.2.2 (g + 1) g1).1, parity7 hw hL hb la, parity7 hw hL hb lb, bind_p, bind_p, row7 hw hL hb la, row7 hw hL hb lb, bind_p, bind_p, dist6 hR hB hw (BL_ok hb la) (BL_ok hb lb), bind_p, e3, bind_p]
          by_cases y : pa (gs_ n P g) = pa (gs_ n P (g + 1))
          · rw [if_pos (by rw [y]), if_neg (fun z => z.2.2.2.1 y)]
          · rw [if_neg (fun z => y ((nI_eq (by omega) (by omega)).mp z))]
            by_cases d : dist_ (vl 4) w (sm (gs_ n P g)) (sm (gs_ n P (g + 1))) ≤ vl 3
            · rw [if_neg (nI_nlt d (by omega)), if_pos ⟨g1, o1, o2, y, d⟩]
            · rw [if_pos (nI_lt (by omega) (by omega)), if_neg (fun z => d z.2.2.2.2)]
        · rw [if_neg o2, if_pos rfl, if_neg (fun z => o2 z.2.2.1)]
      · rw [orph12n h h9 (fun ⟨j, hj, e⟩ => g1 (by rw [(nI_eq (by omega) (by omega)).mp e]; exact hj)), bind_p, if_pos rfl, if_neg (fun z => g1 z.1)]
  · rw [if_neg o1, if_pos rfl, if_neg]
    intro z
    rw [Bool.and_eq_true] at z
    have z2 := z.2
    unfold can_ at z2
    rw [decide_eq_true_eq] at z2
    exact o1 z2.2.1
def MK (M : cd_M) (w n : Nat) (sm : Nat → Nat → Nat) (pa vl : Nat → Nat) (P : Nat → Bool) (g : Nat) : Prop := M.1 12 7 = nI (cnt_ (orp_ n P) g) ∧ M.1 12 8 = nI (cnt_ (mt_ w n sm pa vl P) g) ∧ ∀ j, j < cnt_ P n → M.1 52 j = if j < g then mo_ w n sm pa vl P j else if j = g ∧ sec_ w n sm pa vl P g = true then nI (g - 1) else -1
theorem ma_12 {M0 : cd_M} (hw : w ≤ 6) (hL : CL M0 w n sm pa) (hb : BL w n sm pa) (hR : CR M0 nc fo ln nb vl) (hB : BR nc fo ln nb vl) (h : GB0 M0 n P) : ∀ (r fu g : Nat) (M : cd_M), g + r = cnt_ P n → r < fu → cf_ f2_mateOrphans_12_7_6_w M0 M → MK M w n sm pa vl P g → cw (f2_mateOrphans_12_7_6_L12 fu (nI g) M) (fun M1 => MK M1 w n sm pa vl P (cnt_ P n)) := by
  intro r
  have h9 := hb.1
  have cl := cnt_le (P := P) n
  have GBm : ∀ M, cf_ f2_mateOrphans_12_7_6_w M0 M → GB0 M n P := fun M hf => GB0_c (hf 12 6 (by decide)).1 (fun i => (hf 49 i (na_cov (by decide) i)).1) (fun i => (hf 50 i (na_cov (by decide) i)).1) (fun i => (hf 51 i (na_cov (by decide) i)).1) h
  induction r with
  | zero =>
    intro fu g M hg hfu hf hK
    obtain ⟨fu, rfl⟩ := Nat.exists_eq_succ_of_ne_zero (show fu ≠ 0 by omega)
    have eg : g = cnt_ P n := by omega
    rw [f2_mateOrphans_12_7_6_L12, (GBm M hf).1, if_pos (nI_le (by omega) (by omega))]
    rw [eg] at hK
    exact cw_some.mpr hK
  | succ r ih =>
    intro fu g M hg hfu hf hK
    obtain ⟨fu, rfl⟩ := Nat.exists_eq_succ_of_ne_zero (show fu ≠ 0 by omega)
    have hgn : g < cnt_ P n := by omega
    obtain ⟨k1, k2, k3⟩ := hK
    have fin : ∀ d : Nat, d = cnt_ (orp_ n P) (g + 1) → cw ((f2_canMate_12_7_6 (nI g) (cd_wI M 12 7 (nI d))).bind fun v6 => if v6 = 0 then (f2_mateOrphans_12_7_6_L80 (f2_mateOrphans_12_7_6_L12 fu) (nI g) (cd_wI M 12 7 (nI d))) else (if cd_in (nI g) 90 = true then (cd_lt (cd_wI (cd_wI M 12 7 (nI d)) 52 (nI g).toNatClampNeg (nI g + 1)) fun M9 => if cd_in (nI g + 1) 90 = true then (cd_lt (cd_wI M9 52 (nI g + 1 : Int32).toNatClampNeg (nI g)) fun M10 => cd_lt (cd_wI M10 12 8 ((M10.1 12 8) + 1)) fun M11 => f2_mateOrphans_12_7_6_L80 (f2_mateOrphans_12_7_6_L12 fu) (nI g) M11) else none) else none)) (fun M1 => MK M1 w n sm pa vl P (cnt_ P n)) := by
      intro d hd
      have f1 : cf_ f2_mateOrphans_12_7_6_w M0 (cd_wI M 12 7 (nI d)) := cf_wcI (by decide) hf
      have g1 : ∀ x i, ¬ (x = 12 ∧ i = 7) → (cd_wI M 12 7 (nI d)).1 x i = M.1 x i := fun x i z => by rw [cd_wI_at, if_neg z]
      have v1 : (cd_wI M 12 7 (nI d)).1 12 7 = nI d := by rw [cd_wI_at, if_pos ⟨rfl, rfl⟩]
      generalize cd_wI M 12 7 (nI d) = M1 at *
      have e52 : M1.1 52 g = if sec_ w n sm pa vl P g = true then nI (g - 1) else -1 := by
        rw [g1 _ _ (by omega), k3 g hgn, if_neg (Nat.lt_irrefl g)]
        by_cases z : sec_ w n sm pa vl P g = true
        · rw [if_pos ⟨rfl, z⟩, if_pos z]
        · rw [if_neg (fun y => z y.2), if_neg z]
      rw [canC hw (CL_f f1 (by decide) hL) hb (CR_f f1 (by decide) hR) hB (GBm M1 f1) hgn e52, bind_p]
      unfold f2_mateOrphans_12_7_6_L80
      simp only [cd_lt_p]
      rw [nI_1]
      by_cases z : mt_ w n sm pa vl P g = true
      · obtain ⟨z1, z2⟩ := mt_can z
        unfold can_ at z2
        rw [decide_eq_true_eq] at z2
        rw [if_pos z, if_neg (by decide), if_pos (show cd_in (nI g) 90 = true by rw [ci_nI (by omega)]; omega), if_pos (show cd_in (nI (g + 1)) 90 = true by rw [ci_nI (by omega)]; omega), nI_clamp (by omega), nI_clamp (by omega)]
        have e8 : (cd_wI (cd_wI M1 52 g (nI (g + 1))) 52 (g + 1) (nI g)).1 12 8 + 1 = nI (cnt_ (mt_ w n sm pa vl P) g + 1) := by rw [cd_wI_at, if_neg (by omega), cd_wI_at, if_neg (by omega), g1 _ _ (by omega), k2, nI_1]
        rw [e8]
        refine ih fu (g + 1) _ (by omega) (by omega) ?_ ⟨?_, ?_, fun j hj => ?_⟩
        · exact cf_wcI (by decide) (cf_wcI (cf_cov_iff.mpr (Or.inl (cf_has_mem.mp (by decide)))) (cf_wcI (cf_cov_iff.mpr (Or.inl (cf_has_mem.mp (by decide)))) f1))
        · rw [cd_wI_at, if_neg (by omega), cd_wI_at, if_neg (by omega), cd_wI_at, if_neg (by omega), v1, hd]
        · rw [cd_wI_at, if_pos ⟨rfl, rfl⟩, cnt_succ z]
        · rw [cd_wI_at, if_neg (by omega), cd_wI_at]
          by_cases y : j = g + 1
          · have s1 : sec_ w n sm pa vl P (g + 1) = true := z
            rw [if_pos ⟨rfl, y⟩, if_neg (by omega), if_pos ⟨y, s1⟩]
            rfl
          · rw [if_neg (fun u => y u.2), cd_wI_at]
            by_cases u : j = g
            · rw [if_pos ⟨rfl, u⟩, if_pos (by omega), u]
              unfold mo_
              rw [if_pos z]
            · rw [if_neg (fun v => u v.2), g1 _ _ (by omega), k3 j hj]
              by_cases v : j < g
              · rw [if_pos v, if_pos (by omega)]
              · rw [if_neg v, if_neg (show ¬ j < g + 1 by omega), if_neg (show ¬ (j = g ∧ sec_ w n sm pa vl P g = true) from fun t => u t.1), if_neg (show ¬ (j = g + 1 ∧ sec_ w n sm pa vl P (g + 1) = true) from fun t => y t.1)]
      · have z' : mt_ w n sm pa vl P g = false := by
          cases u : mt_ w n sm pa vl P g with
          | true => exact absurd u z
          | false => rfl
        rw [if_neg z, if_pos rfl]
        refine ih fu (g + 1) M1 (by omega) (by omega) f1 ⟨by rw [v1, hd], by rw [g1 _ _ (by omega), k2, cnt_same z], fun j hj => ?_⟩
        have s1 : ¬ sec_ w n sm pa vl P (g + 1) = true := z
        rw [if_neg (show ¬ (j = g + 1 ∧ sec_ w n sm pa vl P (g + 1) = true) from fun t => s1 t.2)]
        by_cases u : j = g
        · rw [u, e52, if_pos (show g < g + 1 by omega)]
          unfold mo_
          rw [if_neg z]
        · rw [g1 _ _ (by omega), k3 j hj]
          by_cases v : j < g
          · rw [if_pos v, if_pos (by omega)]
          · rw [if_neg v, if_neg (show ¬ j < g + 1 by omega), if_neg (show ¬ (j = g ∧ sec_ w n sm pa vl P g = true) from fun t => u t.1)]
    rw [f2_mateOrphans_12_7_6_L12, (GBm M hf).1, if_neg (nI_ge (by omega) (by omega)), orph12 (GBm M hf) h9 hgn, bind_p]
    unfold f2_mateOrphans_12_7_6_L38
    rw [k1]
    by_cases q : orp_ n P g = true
    · rw [if_pos q, if_neg (by decide), nI_1, cd_lt_p]
      exact fin _ (cnt_succ q).symm
    · rw [if_neg q, if_pos rfl, show nI (cnt_ (orp_ n P) g) + 0 = nI (cnt_ (orp_ n P) g + 0) from nI_add _ 0, cd_lt_p]
      exact fin _ (cnt_same q).symm
theorem mateC {M : cd_M} (hw : w ≤ 6) (hL : CL M w n sm pa) (hb : BL w n sm pa) (hR : CR M nc fo ln nb vl) (hB : BR nc fo ln nb vl) (h : GB0 M n P) (h52 : ∀ g, g < cnt_ P n → M.1 52 g = -1) : cw (f2_mateOrphans_12_7_6 M) (fun M1 => MK M1 w n sm pa vl P (cnt_ P n) ∧ cf_ f2_mateOrphans_12_7_6_w M M1) := by
  refine cw_cp ?_ (w_f2_mateOrphans_12_7_6 (by decide) cf_refl)
  have h9 := hb.1
  have cl := cnt_le (P := P) n
  unfold f2_mateOrphans_12_7_6
  simp only [cd_lt_p]
  refine ma_12 hw hL hb hR hB h (cnt_ P n) cd_fu 0 _ (by omega) (by unfold cd_fu; omega) (cf_wcI (by decide) (cf_wcI (by decide) cf_refl)) ⟨?_, ?_, fun j hj => ?_⟩
  · rw [cd_wI_at, if_neg (by omega), cd_wI_at, if_pos ⟨rfl, rfl⟩]; rfl
  · rw [cd_wI_at, if_pos ⟨rfl, rfl⟩]; rfl
  · rw [cd_wI_at, if_neg (by omega), cd_wI_at, if_neg (by omega), h52 j hj, if_neg (Nat.not_lt_zero j), if_neg]
    rintro ⟨-, z⟩
    cases z
end gaB
