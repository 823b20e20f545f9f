/-! the reference: laysGroups -/
/-- what is kept of parity p in a group from s to e -/
def kp_ (pa : Nat → Nat) (s e p : Nat) : Int32 := if pa s = p then nI s else if s + 1 < e then nI (s + 1) else -1
def MX (N : cd_M) (n : Nat) (pa ss : Nat → Nat) : Prop := N.1 15 24 = nI n ∧ (∀ i, i < n → N.1 64 (7 * i + 6) = nI (pa i)) ∧ ∀ i, i < n → N.1 70 i = nI (ss i)
theorem MX_c {N N1 : cd_M} {n : Nat} {pa ss : Nat → Nat} (e : ∀ x i, (x = 64 ∨ x = 70 ∨ (x = 15 ∧ i = 24)) → N1.1 x i = N.1 x i) (h : MX N n pa ss) : MX N1 n pa ss := by
  refine ⟨?_, fun i hi => ?_, fun i hi => ?_⟩
  · rw [e _ _ (by omega)]; exact h.1
  · rw [e _ _ (by omega)]; exact h.2.1 i hi
  · rw [e _ _ (by omega)]; exact h.2.2 i hi
def BX (n : Nat) (pa ss : Nat → Nat) : Prop := n ≤ 90 ∧ (∀ i, i < n → pa i < 2) ∧ (∀ i, ss i < 150) ∧ sq_ n pa ss
def MGK (N : cd_M) (pa ss : Nat → Nat) (f : Nat) : Prop := N.1 15 37 = nI (cnt_ (fi_ ss) f) ∧ N.1 15 47 = nI (cnt_ (dr_ ss) f) ∧ (∀ i, i < f → N.1 72 i = nI (cnt_ (fi_ ss) (i + 1) - 1) ∧ N.1 74 i = nI (bn_ (!dr_ ss i))) ∧ ∀ g, g < cnt_ (fi_ ss) f → N.1 73 g = nI (sel_ (fi_ ss) g f) ∧ N.1 76 g = -1 ∧ ∀ p, p < 2 → N.1 75 (2 * g + p) = kp_ pa (sel_ (fi_ ss) g f) (sel_ (fi_ ss) (g + 1) f) p
section mgA
variable {n : Nat} {pa ss : Nat → Nat}
theorem parX {N : cd_M} (h : MX N n pa ss) (hn : n ≤ 90) {i : Nat} (hi : i < n) : f11_parityOf_15 (nI i) N = some (nI (pa i)) := by
  unfold f11_parityOf_15
  have e : (7 : Int32) * nI i + 6 = nI (7 * i + 6) := by rw [show (7 : Int32) = nI 7 from rfl, pk_mul, show (6 : Int32) = nI 6 from rfl, nI_add]
  rw [e, if_pos (by rw [ci_nI (by omega)]; omega), nI_clamp (by omega), h.2.1 i hi]
theorem ml_87 {N : cd_M} {f g d : Nat} (hB : BX n pa ss) (h : MX N n pa ss) (hf : f < n) (hg : g < 90) (h37 : N.1 15 37 = nI (g + 1)) (h47 : N.1 15 47 = nI d) {r12 : Int32 → cd_M → Option cd_M} {Q : cd_M → Prop}
    (Hk : N.1 75 (2 * g + pa f) = -1 → cw (r12 (nI (f + 1)) (cd_wI (cd_wI (cd_wI (cd_wI N 72 f (nI g)) 74 f (nI 1)) 75 (2 * g + pa f) (nI f)) 15 47 (nI d))) Q)
    (Hd : (∃ y, y < 100 ∧ N.1 75 (2 * g + pa f) = nI y) → cw (r12 (nI (f + 1)) (cd_wI (cd_wI (cd_wI N 72 f (nI g)) 74 f (nI 0)) 15 47 (nI (d + 1)))) Q)
    (hh : N.1 75 (2 * g + pa f) = -1 ∨ ∃ y, y < 100 ∧ N.1 75 (2 * g + pa f) = nI y) : cw (f11_laysGroups_15_L87 r12 (nI f) N) Q := by
  have h9 := hB.1
  have p2 := hB.2.1 f hf
  have cin : cd_in (nI f) 90 = true := by rw [ci_nI (by omega)]; omega
  unfold f11_laysGroups_15_L87
  rw [h37, nI_pred]
  simp only [cd_lt_p]
  rw [if_pos cin, nI_clamp (by omega)]
  have x1 : MX (cd_wI N 72 f (nI g)) n pa ss := MX_c (fun x i z => by rw [cd_wI_at, if_neg (by omega)]) h
  have e2 : (2 : Int32) * nI g + nI (pa f) = nI (2 * g + pa f) := by rw [show (2 : Int32) = nI 2 from rfl, pk_mul, nI_add]
  have cin2 : cd_in (nI (2 * g + pa f)) 180 = true := by rw [ci_nI (by omega)]; omega
  have e75 : (cd_wI N 72 f (nI g)).1 75 (2 * g + pa f) = N.1 75 (2 * g + pa f) := by rw [cd_wI_at, if_neg (by omega)]
  rw [parX x1 h9 hf, bind_p, e2, if_pos cin2, nI_clamp (by omega), e75]
  rcases hh with z | ⟨y, y1, z⟩
  · rw [z, if_neg (by decide)]
    unfold f11_laysGroups_15_L128 f11_laysGroups_15_L153 f11_laysGroups_15_L172
    rw [if_pos cin, show vp_nar .boolean 1 = nI 1 from rfl, nI_clamp (by omega)]
    simp only [cd_lt_p]
    have e74 : (cd_wI (cd_wI N 72 f (nI g)) 74 f (nI 1)).1 74 f = nI 1 := by rw [cd_wI_at, if_pos ⟨rfl, rfl⟩]
    have x2 : MX (cd_wI (cd_wI N 72 f (nI g)) 74 f (nI 1)) n pa ss := MX_c (fun x i z => by rw [cd_wI_at, if_neg (by omega)]) x1
    rw [if_pos cin, e74, if_neg (show ¬ nI 1 = 0 by decide), parX x2 h9 hf, bind_p, e2, if_pos cin2, nI_clamp (by omega), if_pos cin]
    have e74' : (cd_wI (cd_wI (cd_wI N 72 f (nI g)) 74 f (nI 1)) 75 (2 * g + pa f) (nI f)).1 74 f = nI 1 := by rw [cd_wI_at, if_neg (by omega)]; exact e74
    rw [e74', if_neg (show ¬ nI 1 = 0 by decide), nI_1]
    have e47 : (cd_wI (cd_wI (cd_wI N 72 f (nI g)) 74 f (nI 1)) 75 (2 * g + pa f) (nI f)).1 15 47 + 0 = nI d := by rw [cd_wI_at, if_neg (by omega), cd_wI_at, if_neg (by omega), cd_wI_at, if_neg (by omega), h47]; exact nI_add d 0
    rw [e47]
    exact Hk z
  · rw [z, if_pos (nI_pos' (by omega))]
    unfold f11_laysGroups_15_L128 f11_laysGroups_15_L153 f11_laysGroups_15_L172
    rw [if_pos cin, show vp_nar .boolean 0 = nI 0 from rfl, nI_clamp (by omega)]
    simp only [cd_lt_p]
    have e74 : (cd_wI (cd_wI N 72 f (nI g)) 74 f (nI 0)).1 74 f = nI 0 := by rw [cd_wI_at, if_pos ⟨rfl, rfl⟩]
    rw [if_pos cin, e74, if_pos (show nI 0 = 0 from rfl), if_pos cin, if_pos (show nI 0 = 0 from rfl), nI_1]
    have e47 : (cd_wI (cd_wI N 72 f (nI g)) 74 f (nI 0)).1 15 47 + 1 = nI (d + 1) := by rw [cd_wI_at, if_neg (by omega), cd_wI_at, if_neg (by omega), h47, nI_1]
    rw [e47]
    exact Hd ⟨y, y1, z⟩
theorem mg_12 {N0 : cd_M} (hB : BX n pa ss) (h0 : MX N0 n pa ss) : ∀ (r fu f : Nat) (N : cd_M), f + r = n → r < fu → cf_ f11_laysGroups_15_w N0 N → MGK N pa ss f → cw (f11_laysGroups_15_L12 fu (nI f) N) (fun N1 => MGK N1 pa ss n ∧ N1.1 73 (cnt_ (fi_ ss) n) = nI n) := by
  intro r
  have h9 := hB.1
  have X : ∀ N, cf_ f11_laysGroups_15_w N0 N → MX N n pa ss := fun N hf => MX_c (fun x i z => by
    rcases z with rfl | rfl | ⟨rfl, rfl⟩
    · exact (hf 64 i (na_cov (by decide) i)).1
    · exact (hf 70 i (na_cov (by decide) i)).1
    · exact (hf 15 24 (by decide)).1) h0
  induction r with
  | zero =>
    intro fu f N hf hfu hc hG
    obtain ⟨fu, rfl⟩ := Nat.exists_eq_succ_of_ne_zero (show fu ≠ 0 by omega)
    have ef : f = n := by omega
    rw [ef] at hG
    have cl := cnt_le (P := fi_ ss) n
    rw [f11_laysGroups_15_L12, (X N hc).1, if_pos (nI_le (by omega) (by omega)), hG.1, if_pos (by rw [ci_nI (by omega)]; omega), nI_clamp (by omega)]
    simp only [cd_lt_p]
    have g : ∀ x i, ¬ (x = 73 ∧ i = cnt_ (fi_ ss) n) → (cd_wI N 73 (cnt_ (fi_ ss) n) (nI n)).1 x i = N.1 x i := fun x i z => by rw [cd_wI_at, if_neg z]
    refine cw_some.mpr ⟨⟨?_, ?_, fun i hi => ?_, fun j hj => ⟨?_, ?_, fun p hp => ?_⟩⟩, ?_⟩
    · rw [g _ _ (by omega)]; exact hG.1
    · rw [g _ _ (by omega)]; exact hG.2.1
    · rw [g _ _ (by omega), g _ _ (by omega)]; exact hG.2.2.1 i hi
    · rw [g _ _ (by omega)]; exact (hG.2.2.2 j hj).1
    · rw [g _ _ (by omega)]; exact (hG.2.2.2 j hj).2.1
    · rw [g _ _ (by omega)]; exact (hG.2.2.2 j hj).2.2 p hp
    · rw [cd_wI_at, if_pos ⟨rfl, rfl⟩]
  | succ r ih =>
    intro fu f N hf hfu hc hG
    obtain ⟨fu, rfl⟩ := Nat.exists_eq_succ_of_ne_zero (show fu ≠ 0 by omega)
    have hfn : f < n := by omega
    have s5 := hB.2.2.1 f
    have p2 := hB.2.1 f hfn
    have cl := cnt_le (P := fi_ ss) f
    have cin : cd_in (nI f) 90 = true := by rw [ci_nI (by omega)]; omega
    have hX := X N hc
    obtain ⟨a1, a2, a3, a4⟩ := hG
    rw [f11_laysGroups_15_L12, hX.1, if_neg (nI_ge hfn (by omega)), if_pos cin, nI_clamp (by omega), hX.2.2 f hfn, m5 (by omega)]
    by_cases q : fi_ ss f = true
    · have q5 : ss f % 5 = 0 := by unfold fi_ at q; exact of_decide_eq_true q
      have dr0 : ¬ dr_ ss f = true := by unfold dr_; rw [decide_eq_true_eq]; omega
      have c1 := cnt_succ q
      have d1 := cnt_same dr0
      rw [if_pos (by rw [q5]; rfl), a1, if_pos (by rw [ci_nI (by omega)]; omega), nI_clamp (by omega)]
      simp only [cd_lt_p]
      have g1 : ∀ x i, ¬ (x = 73 ∧ i = cnt_ (fi_ ss) f) → (cd_wI N 73 (cnt_ (fi_ ss) f) (nI f)).1 x i = N.1 x i := fun x i z => by rw [cd_wI_at, if_neg z]
      have v1 : (cd_wI N 73 (cnt_ (fi_ ss) f) (nI f)).1 73 (cnt_ (fi_ ss) f) = nI f := by rw [cd_wI_at, if_pos ⟨rfl, rfl⟩]
      have hc1 : cf_ f11_laysGroups_15_w N0 (cd_wI N 73 (cnt_ (fi_ ss) f) (nI f)) := cf_wcI (cf_cov_iff.mpr (Or.inl (cf_has_mem.mp (by decide)))) hc
      generalize cd_wI N 73 (cnt_ (fi_ ss) f) (nI f) = N1 at *
      have e2 : (2 : Int32) * N1.1 15 37 = nI (2 * cnt_ (fi_ ss) f) := by rw [g1 _ _ (by omega), a1]; exact pk_mul 2 _
      rw [e2, if_pos (by rw [ci_nI (by omega)]; omega), nI_clamp (by omega)]
      have g2 : ∀ x i, ¬ (x = 75 ∧ i = 2 * cnt_ (fi_ ss) f) → (cd_wI N1 75 (2 * cnt_ (fi_ ss) f) (-1)).1 x i = N1.1 x i := fun x i z => by rw [cd_wI_at, if_neg z]
      have v2 : (cd_wI N1 75 (2 * cnt_ (fi_ ss) f) (-1)).1 75 (2 * cnt_ (fi_ ss) f) = -1 := by rw [cd_wI_at, if_pos ⟨rfl, rfl⟩]
      have hc2 : cf_ f11_laysGroups_15_w N0 (cd_wI N1 75 (2 * cnt_ (fi_ ss) f) (-1)) := cf_wcI (cf_cov_iff.mpr (Or.inl (cf_has_mem.mp (by decide)))) hc1
      generalize cd_wI N1 75 (2 * cnt_ (fi_ ss) f) (-1) = N2 at *
      have e3 : (2 : Int32) * N2.1 15 37 + 1 = nI (2 * cnt_ (fi_ ss) f + 1) := by rw [g2 _ _ (by omega), e2, nI_1]
      rw [e3, if_pos (by rw [ci_nI (by omega)]; omega), nI_clamp (by omega)]
      have g3 : ∀ x i, ¬ (x = 75 ∧ i = 2 * cnt_ (fi_ ss) f + 1) → (cd_wI N2 75 (2 * cnt_ (fi_ ss) f + 1) (-1)).1 x i = N2.1 x i := fun x i z => by rw [cd_wI_at, if_neg z]
      have v3 : (cd_wI N2 75 (2 * cnt_ (fi_ ss) f + 1) (-1)).1 75 (2 * cnt_ (fi_ ss) f + 1) = -1 := by rw [cd_wI_at, if_pos ⟨rfl, rfl⟩]
      have hc3 : cf_ f11_laysGroups_15_w N0 (cd_wI N2 75 (2 * cnt_ (fi_ ss) f + 1) (-1)) := cf_wcI (cf_cov_iff.mpr (Or.inl (cf_has_mem.mp (by decide)))) hc2
      generalize cd_wI N2 75 (2 * cnt_ (fi_ ss) f + 1) (-1) = N3 at *
      have e4 : N3.1 15 37 = nI (cnt_ (fi_ ss) f) := by rw [g3 _ _ (by omega), g2 _ _ (by omega), g1 _ _ (by omega), a1]
      rw [e4, if_pos (by rw [ci_nI (by omega)]; omega), nI_clamp (by omega)]
      have e5 : (cd_wI N3 76 (cnt_ (fi_ ss) f) (-1)).1 15 37 + 1 = nI (cnt_ (fi_ ss) f + 1) := by rw [cd_wI_at, if_neg (by omega), e4, nI_1]
      rw [e5]
      have g4 : ∀ x i, ¬ (x = 76 ∧ i = cnt_ (fi_ ss) f) → ¬ (x = 15 ∧ i = 37) → (cd_wI (cd_wI N3 76 (cnt_ (fi_ ss) f) (-1)) 15 37 (nI (cnt_ (fi_ ss) f + 1))).1 x i = N3.1 x i := fun x i z1 z2 => by rw [cd_wI_at, if_neg z2, cd_wI_at, if_neg z1]
      have v4 : (cd_wI (cd_wI N3 76 (cnt_ (fi_ ss) f) (-1)) 15 37 (nI (cnt_ (fi_ ss) f + 1))).1 76 (cnt_ (fi_ ss) f) = -1 := by rw [cd_wI_at, if_neg (by omega), cd_wI_at, if_pos ⟨rfl, rfl⟩]
      have v5 : (cd_wI (cd_wI N3 76 (cnt_ (fi_ ss) f) (-1)) 15 37 (nI (cnt_ (fi_ ss) f + 1))).1 15 37 = nI (cnt_ (fi_ ss) f + 1) := by rw [cd_wI_at, if_pos ⟨rfl, rfl⟩]
      have hc4 : cf_ f11_laysGroups_15_w N0 (cd_wI (cd_wI N3 76 (cnt_ (fi_ ss) f) (-1)) 15 37 (nI (cnt_ (fi_ ss) f + 1))) := cf_wcI (by decide) (cf_wcI (cf_cov_iff.mpr (Or.inl (cf_has_mem.mp (by decide)))) hc3)
      generalize cd_wI (cd_wI N3 76 (cnt_ (fi_ ss) f) (-1)) 15 37 (nI (cnt_ (fi_ ss) f + 1)) = N4 at *
      have G : ∀ x i, ¬ (x = 76 ∧ i = cnt_ (fi_ ss) f) → ¬ (x = 15 ∧ i = 37) → ¬ (x = 73 ∧ i = cnt_ (fi_ ss) f) → ¬ (x = 75 ∧ (i = 2 * cnt_ (fi_ ss) f ∨ i = 2 * cnt_ (fi_ ss) f + 1)) → N4.1 x i = N.1 x i := fun x i z1 z2 z3 z4 => by rw [g4 _ _ z1 z2, g3 _ _ (by omega), g2 _ _ (by omega), g1 _ _ z3]
      have k75 : ∀ p, p < 2 → N4.1 75 (2 * cnt_ (fi_ ss) f + p) = -1 := fun p hp => by
        rw [g4 _ _ (by omega) (by omega)]
        by_cases z : p = 1
        · rw [z]; exact v3
        · rw [show p = 0 by omega, g3 _ _ (by omega)]; exact v2
      refine ml_87 (g := cnt_ (fi_ ss) f) (d := cnt_ (dr_ ss) f) hB (X N4 hc4) hfn (by omega) v5 (by rw [G _ _ (by omega) (by omega) (by omega) (by omega)]; exact a2) (fun z => ?_) (fun ⟨y, y1, y2⟩ => ?_) (Or.inl (k75 _ p2))
      · have g6 : ∀ x i, ¬ (x = 72 ∧ i = f) → ¬ (x = 74 ∧ i = f) → ¬ (x = 75 ∧ i = 2 * cnt_ (fi_ ss) f + pa f) → ¬ (x = 15 ∧ i = 47) → (cd_wI (cd_wI (cd_wI (cd_wI N4 72 f (nI (cnt_ (fi_ ss) f))) 74 f (nI 1)) 75 (2 * cnt_ (fi_ ss) f + pa f) (nI f)) 15 47 (nI (cnt_ (dr_ ss) f))).1 x i = N4.1 x i := fun x i z1 z2 z3 z4 => by rw [cd_wI_at, if_neg z4, cd_wI_at, if_neg z3, cd_wI_at, if_neg z2, cd_wI_at, if_neg z1]
        refine ih fu (f + 1) _ (by omega) (by omega) ?_ ⟨?_, ?_, fun i hi => ⟨?_, ?_⟩, fun j hj => ?_⟩
        · exact cf_wcI (by decide) (cf_wcI (cf_cov_iff.mpr (Or.inl (cf_has_mem.mp (by decide)))) (cf_wcI (cf_cov_iff.mpr (Or.inl (cf_has_mem.mp (by decide)))) (cf_wcI (cf_cov_iff.mpr (Or.inl (cf_has_mem.mp (by decide)))) hc4)))
        · rw [g6 _ _ (by omega) (by omega) (by omega) (by omega), v5, c1]
        · rw [cd_wI_at, if_pos ⟨rfl, rfl⟩, d1]
        · by_cases u : i = f
          · rw [u, cd_wI_at, if_neg (by omega), cd_wI_at, if_neg (by omega), cd_wI_at, if_neg (by omega), cd_wI_at, if_pos ⟨rfl, rfl⟩, c1]
            congr 1
          · rw [g6 _ _ (by omega) (by omega) (by omega) (by omega), G _ _ (by omega) (by omega) (by omega) (by omega)]
            exact (a3 i (by omega)).1
        · by_cases u : i = f
          · rw [u, cd_wI_at, if_neg (by omega), cd_wI_at, if_neg (by omega), cd_wI_at, if_pos ⟨rfl, rfl⟩]
            unfold bn_
            rw [if_pos]
            cases y : dr_ ss f with
            | true => exact absurd y dr0
            | false => rfl
          · rw [g6 _ _ (by omega) (by omega) (by omega) (by omega), G _ _ (by omega) (by omega) (by omega) (by omega)]
            exact (a3 i (by omega)).2
        · by_cases u : j = cnt_ (fi_ ss) f
          · rw [u, sel_P q, sel_ge (k := cnt_ (fi_ ss) f + 1) (by omega)]
            refine ⟨?_, ?_, fun p hp => ?_⟩
            · rw [g6 _ _ (by omega) (by omega) (by omega) (by omega), g4 _ _ (by omega) (by omega), g3 _ _ (by omega), g2 _ _ (by omega)]; exact v1
            · rw [g6 _ _ (by omega) (by omega) (by omega) (by omega)]; exact v4
            · unfold kp_
              by_cases t : pa f = p
              · rw [if_pos t, cd_wI_at, if_neg (by omega), cd_wI_at, if_pos ⟨rfl, by omega⟩]
              · rw [if_neg t, if_neg (by omega), g6 _ _ (by omega) (by omega) (by omega) (by omega)]; exact k75 p hp
          · have hj' : j < cnt_ (fi_ ss) f := by omega
            have b := a4 j hj'
            have es : sel_ (fi_ ss) (j + 1) (f + 1) = sel_ (fi_ ss) (j + 1) f := by
              by_cases y : j + 1 < cnt_ (fi_ ss) f
              · exact sel_up (sel_lt y).1
              · rw [show j + 1 = cnt_ (fi_ ss) f by omega, sel_P q, sel_ge (Nat.le_refl _)]
            rw [sel_up (sel_lt hj').1, es]
            refine ⟨?_, ?_, fun p hp => ?_⟩
            · rw [g6 _ _ (by omega) (by omega) (by omega) (by omega), G _ _ (by omega) (by omega) (by omega) (by omega)]; exact b.1
            · rw [g6 _ _ (by omega) (by omega) (by omega) (by omega), G _ _ (by omega) (by omega) (by omega) (by omega)]; exact b.2.1
            · rw [g6 _ _ (by omega) (by omega) (by omega) (by omega), G _ _ (by omega) (by omega) (by omega) (by omega)]; exact b.2.2 p hp
      · rw [k75 _ p2] at y2
        exact absurd y2.symm (nI_nm1 (by omega))
    · have q5 : ¬ ss f % 5 = 0 := fun z => q (by unfold fi_; exact decide_eq_true z)
      obtain ⟨f', rfl⟩ : ∃ f', f = f' + 1 := by
        cases f with
        | zero => exact absurd (hB.2.2.2.1 (by omega)) q
        | succ f' => exact ⟨f', rfl⟩
      have sp := hB.2.2.2.2 f' hfn q
      have ss1 := seen_sel hB.2.2.2 f' (by omega)
      have cp := cnt_pos hB.2.2.2 (f := f') (by omega)
      obtain ⟨g, hg⟩ : ∃ g, cnt_ (fi_ ss) (f' + 1) = g + 1 := ⟨cnt_ (fi_ ss) (f' + 1) - 1, by omega⟩
      have c1 := cnt_same q
      rw [hg, show g + 1 - 1 = g by omega] at ss1
      have b := a4 g (by omega)
      have sl := sel_lt (P := fi_ ss) (k := g) (b := f' + 1) (by omega)
      have se := sel_ge (P := fi_ ss) (k := g + 1) (b := f' + 1) (by omega)
      have se2 := sel_ge (P := fi_ ss) (k := g + 1) (b := f' + 1 + 1) (by omega)
      have su := sel_up sl.1
      have kk := b.2.2 _ p2
      rw [se] at kk
      have ps := hB.2.1 (sel_ (fi_ ss) g (f' + 1)) (by omega)
      rw [if_neg (nI_ne0 (by omega) (by omega))]
      -- the other groups, the kept ones of this
      have rest : ∀ (N1 : cd_M) (X1 : ∀ x i, ¬ (x = 72 ∧ i = f' + 1) → ¬ (x = 74 ∧ i = f' + 1) → ¬ (x = 75 ∧ i = 2 * g + pa (f' + 1)) → ¬ (x = 15 ∧ i = 47) → N1.1 x i = N.1 x i), cf_ f11_laysGroups_15_w N0 N1 → N1.1 72 (f' + 1) = nI g → N1.1 74 (f' + 1) = nI (bn_ (!dr_ ss (f' + 1))) → N1.1 15 47 = nI (cnt_ (dr_ ss) (f' + 1 + 1)) → N1.1 75 (2 * g + pa (f' + 1)) = kp_ pa (sel_ (fi_ ss) g (f' + 1)) (f' + 1 + 1) (pa (f' + 1)) → (∀ p, p < 2 → p ≠ pa (f' + 1) → kp_ pa (sel_ (fi_ ss) g (f' + 1)) (f' + 1) p = kp_ pa (sel_ (fi_ ss) g (f' + 1)) (f' + 1 + 1) p) → cw (f11_laysGroups_15_L12 fu (nI (f' + 1 + 1)) N1) (fun N1 => MGK N1 pa ss n ∧ N1.1 73 (cnt_ (fi_ ss) n) = nI n) := by
        intro N1 X1 cN w1 w2 w3 w4 w5
        refine ih fu (f' + 1 + 1) N1 (by omega) (by omega) cN ⟨?_, w3, fun i hi => ⟨?_, ?_⟩, fun j hj => ?_⟩
        · rw [X1 _ _ (by omega) (by omega) (by omega) (by omega), a1, c1]
        · by_cases u : i = f' + 1
          · rw [u, w1, c1, hg]; congr 1
          · rw [X1 _ _ (by omega) (by omega) (by omega) (by omega)]; exact (a3 i (by omega)).1
        · by_cases u : i = f' + 1
          · rw [u, w2]
          · rw [X1 _ _ (by omega) (by omega) (by omega) (by omega)]; exact (a3 i (by omega)).2
        · rw [c1] at hj
          have bj := a4 j hj
          rw [sel_up (sel_lt hj).1]
          refine ⟨?_, ?_, fun p hp => ?_⟩
          · rw [X1 _ _ (by omega) (by omega) (by omega) (by omega)]; exact bj.1
          · rw [X1 _ _ (by omega) (by omega) (by omega) (by omega)]; exact bj.2.1
          · by_cases u : j = g
            · rw [u, se2]
              by_cases t : p = pa (f' + 1)
              · rw [t]; exact w4
              · rw [X1 _ _ (by omega) (by omega) (by omega) (by omega), b.2.2 p hp, se]; exact w5 p hp t
            · rw [X1 _ _ (by omega) (by omega) (by omega) (by omega), bj.2.2 p hp, sel_up (sel_lt (show j + 1 < cnt_ (fi_ ss) (f' + 1) by omega)).1]
      by_cases two : 2 ≤ ss (f' + 1) % 5
      · -- dropped
        have dr1 : dr_ ss (f' + 1) = true := by unfold dr_; exact decide_eq_true two
        have hy : ∃ y, y < 100 ∧ N.1 75 (2 * g + pa (f' + 1)) = nI y := by
          rw [kk]
          unfold kp_
          by_cases t : pa (sel_ (fi_ ss) g (f' + 1)) = pa (f' + 1)
          · exact ⟨sel_ (fi_ ss) g (f' + 1), by omega, by rw [if_pos t]⟩
          · exact ⟨sel_ (fi_ ss) g (f' + 1) + 1, by omega, by rw [if_neg t, if_pos (by omega)]⟩
        refine ml_87 (g := g) (d := cnt_ (dr_ ss) (f' + 1)) hB hX hfn (by omega) (by rw [a1, hg]) a2 (fun z => ?_) (fun _ => ?_) (Or.inr hy)
        · obtain ⟨y, y1, y2⟩ := hy
          rw [z] at y2
          exact absurd y2.symm (nI_nm1 (by omega))
        · refine rest _ (fun x i z1 z2 z3 z4 => by rw [cd_wI_at, if_neg z4, cd_wI_at, if_neg z2, cd_wI_at, if_neg z1]) ?_ ?_ ?_ ?_ ?_ (fun p hp hne => ?_)
          · exact cf_wcI (by decide) (cf_wcI (cf_cov_iff.mpr (Or.inl (cf_has_mem.mp (by decide)))) (cf_wcI (cf_cov_iff.mpr (Or.inl (cf_has_mem.mp (by decide)))) hc))
          · rw [cd_wI_at, if_neg (by omega), cd_wI_at, if_neg (by omega), cd_wI_at, if_pos ⟨rfl, rfl⟩]
          · rw [cd_wI_at, if_neg (by omega), cd_wI_at, if_pos ⟨rfl, rfl⟩, dr1]
            rfl
          · rw [cd_wI_at, if_pos ⟨rfl, rfl⟩, cnt_succ dr1]
          · rw [cd_wI_at, if_neg (by omega), cd_wI_at, if_neg (by omega), cd_wI_at, if_neg (by omega), kk]
            unfold kp_
            rw [if_pos (show sel_ (fi_ ss) g (f' + 1) + 1 < f' + 1 by omega), if_pos (show sel_ (fi_ ss) g (f' + 1) + 1 < f' + 1 + 1 by omega)]
          · unfold kp_
            rw [if_pos (show sel_ (fi_ ss) g (f' + 1) + 1 < f' + 1 by omega), if_pos (show sel_ (fi_ ss) g (f' + 1) + 1 < f' + 1 + 1 by omega)]
      · -- the second one of its group
        have es : sel_ (fi_ ss) g (f' + 1) = f' := by omega
        have dr0 : ¬ dr_ ss (f' + 1) = true := by unfold dr_; rw [decide_eq_true_eq]; exact two
        rw [es] at kk ps rest
        have k1 : N.1 75 (2 * g + pa (f' + 1)) = -1 := by
          rw [kk]
          unfold kp_
          rw [if_neg (fun z => sp.2 z.symm), if_neg (by omega)]
        refine ml_87 (g := g) (d := cnt_ (dr_ ss) (f' + 1)) hB hX hfn (by omega) (by rw [a1, hg]) a2 (fun _ => ?_) (fun ⟨y, y1, y2⟩ => ?_) (Or.inl k1)
        · refine rest _ (fun x i z1 z2 z3 z4 => by rw [cd_wI_at, if_neg z4, cd_wI_at, if_neg z3, cd_wI_at, if_neg z2, cd_wI_at, if_neg z1]) ?_ ?_ ?_ ?_ ?_ (fun p hp hne => ?_)
          · exact cf_wcI (by decide) (cf_wcI (cf_cov_iff.mpr (Or.inl (cf_has_mem.mp (by decide)))) (cf_wcI (cf_cov_iff.mpr (Or.inl (cf_has_mem.mp (by decide)))) (cf_wcI (cf_cov_iff.mpr (Or.inl (cf_has_mem.mp (by decide)))) hc)))
          · rw [cd_wI_at, if_neg (by omega), cd_wI_at, if_neg (by omega), cd_wI_at, if_neg (by omega), cd_wI_at, if_pos ⟨rfl, rfl⟩]
          · rw [cd_wI_at, if_neg (by omega), cd_wI_at, if_neg (by omega), cd_wI_at, if_pos ⟨rfl, rfl⟩]
            unfold bn_
            rw [if_pos]
            cases y : dr_ ss (f' + 1) with
            | true => exact absurd y dr0
            | false => rfl
          · rw [cd_wI_at, if_pos ⟨rfl, rfl⟩, cnt_same dr0]
          · rw [cd_wI_at, if_neg (by omega), cd_wI_at, if_pos ⟨rfl, rfl⟩]
            unfold kp_
            rw [if_neg (fun z => sp.2 z.symm), if_pos (by omega)]
          · have : pa f' = p := by
              have := sp.2
              omega
            unfold kp_
            rw [if_pos this, if_pos this]
        · rw [k1] at y2
          exact absurd y2.symm (nI_nm1 (by omega))
theorem groupsM {N : cd_M} (hB : BX n pa ss) (h : MX N n pa ss) : cw (f11_laysGroups_15 N) (fun N1 => (MGK N1 pa ss n ∧ N1.1 73 (cnt_ (fi_ ss) n) = nI n) ∧ cf_ f11_laysGroups_15_w N N1) := by
  refine cw_cp ?_ (w_f11_laysGroups_15 (by decide) cf_refl)
  have h9 := hB.1
  unfold f11_laysGroups_15
  simp only [cd_lt_p]
  refine mg_12 hB h n cd_fu 0 _ (by omega) (by unfold cd_fu; omega) (cf_wcI (by decide) (cf_wcI (by decide) cf_refl)) ⟨?_, ?_, fun i hi => absurd hi (Nat.not_lt_zero i), fun g hg => absurd hg (Nat.not_lt_zero g)⟩
  · rw [cd_wI_at, if_neg (by omega), cd_wI_at, if_pos ⟨rfl, rfl⟩]; rfl
  · rw [cd_wI_at, if_pos ⟨rfl, rfl⟩]; rfl
end mgA
