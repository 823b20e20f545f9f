/-! costs, guess -/
section cgB
variable {w n : Nat} {sm : Nat → Nat → Nat} {pa : Nat → Nat} {nc fo : Nat} {ln : Nat → Nat} {nb : Nat → Nat → Nat} {vl : Nat → Nat}
/-- what the path by cadence c costs -/
def cy_ (w n : Nat) (sm : Nat → Nat → Nat) (pa vl : Nat → Nat) (ln : Nat → Nat) (nb : Nat → Nat → Nat) (c : Nat) : Nat := sig_ (CO w n sm pa vl (ln c) (nb c)) n
theorem cy_le (hb : BL w n sm pa) (hB : BR nc fo ln nb vl) {c : Nat} (hc : c < nc) : cy_ w n sm pa vl ln nb c ≤ 200000 := by
  have bp := BP_of hb hB hc
  have K : ∀ k, sig_ (CO w n sm pa vl (ln c) (nb c)) k ≤ 1998 * k := by
    intro k
    induction k with
    | zero => exact Nat.le_refl _
    | succ k ih =>
      have h1 := ca_le bp.2.2.2.2 k (SS w n sm pa vl (ln c) (nb c) k)
      have h2 := bp.2.2.2.2.2.2
      have e : CO w n sm pa vl (ln c) (nb c) k = ca_ (frs_ w sm pa vl) (rep_ w sm vl) k (SS w n sm pa vl (ln c) (nb c) k) + (if EE w n sm pa vl (ln c) (nb c) k = true then vl 1 else 0) := rfl
      show sig_ (CO w n sm pa vl (ln c) (nb c)) k + CO w n sm pa vl (ln c) (nb c) k ≤ _
      rw [e]
      split <;> omega
  have h := K n
  have h9 := hb.1
  unfold cy_
  omega
theorem costByC {M : cd_M} {c : Nat} (hw : w ≤ 6) (hL : CL M w n sm pa) (hb : BL w n sm pa) (hR : CR M nc fo ln nb vl) (hB : BR nc fo ln nb vl) (hCM : CM M w nc ln nb vl n sm pa) (hc : c < nc) : cw (f0_costBy_9_7_6 (nI c) M) (fun r => (r.1 = nI (cy_ w n sm pa vl ln nb c) ∧ CM r.2 w nc ln nb vl n sm pa ∧ ¬ r.2.1 35 c = 0 ∧ ∀ c', c' < nc → ¬ M.1 35 c' = 0 → ¬ r.2.1 35 c' = 0) ∧ cf_ f0_costBy_9_7_6_w M r.2) := by
  refine cw_cp ?_ (w_f0_costBy_9_7_6 (by decide) cf_refl)
  have h4 := hB.2.1
  have cin : cd_in (nI c) 4 = true := by rw [ci_nI (by omega)]; omega
  unfold f0_costBy_9_7_6 f0_costBy_9_7_6_L27
  rw [if_neg (nI_pos (by omega)), show (4 : Int32) = nI 4 from rfl, if_pos (nI_lt (by omega) (by omega)), if_pos cin, nI_clamp (by omega)]
  by_cases q : M.1 35 c = 0
  · rw [if_pos q, cw_bind]
    refine cw_mono (solveC hw hL hb hR hB hc) (fun M1 k1 => ?_)
    obtain ⟨⟨S, tb, hT, hE⟩, sf⟩ := k1
    rw [if_pos cin, hE.2.2.2.1]
    refine cw_some.mpr ⟨rfl, CM_solve hc hCM hE, by rw [hE.2.2.1]; decide, fun c' hc' h' => ?_⟩
    by_cases z : c' = c
    · rw [z, hE.2.2.1]; decide
    · rw [hE.2.2.2.2.2 35 c' (by omega) (by omega) z]; exact h'
  · have k := (hCM c hc).resolve_left q
    rw [if_neg q, if_pos cin, k.1]
    exact cw_some.mpr ⟨rfl, hCM, q, fun c' _ h' => h'⟩
end cgB
theorem o_costs : cl_o_costs Rel := by
  intro a1
  refine op_path (w1 := f10_costs_0_w) (w2 := f11_costs__15_w) (by decide) (by decide) (fun M => w_f10_costs_0 (by decide) cf_refl) (fun M => w_f11_costs__15 (by decide) cf_refl) ?_
  intro M N h
  have h' := Rel2_t (v := 0) h
  unfold f10_costs_0 f11_costs__15
  simp only [cd_lt_p]
  generalize cd_wI N 15 0 0 = N0 at h'
  have hk := h'
  obtain ⟨t, b, w, nf, fl, nc, fo, ln, nb, vl, n, sm, pa, u, x, hn, hs, hp, hT, hF, hR, hL, hH, hCM, hX⟩ := h'
  have h4 := hR.2.2.2.1
  have hw := hF.2.2.1
  have hm : f11_isCadence_15 a1 N0 = 0 ↔ ¬ inr_ a1 nc := by
    unfold f11_isCadence_15
    rw [hR.2.1.1]
    exact wi_in (by omega)
  by_cases hc : inr_ a1 nc
  · rw [if_neg (fun q => (hasC6 hR.1 hR.2.2 a1).mp q hc), if_neg (fun q => hm.mp q hc)]
    obtain ⟨c, hc, rfl⟩ := hc
    obtain ⟨r, e1, ⟨r1, r2, -⟩, rf⟩ := costByC hw hL.1 hL.2.2 hR.1 hR.2.2 hCM hc
    obtain ⟨N1, e2, m1, mf⟩ := laysPathM hw hL.2.2 hR.2.2 hc (⟨hF.2.1.1, hL.2.1, hR.2.1⟩ : MQq N0 w n sm pa nc fo ln nb vl)
    refine ⟨nI (cy_ w n sm pa vl ln nb c), (r.1, r.2), ?_, r1, (N1.1 15 35, N1), ?_, m1.2.2.2.1, ?_⟩
    · rw [e1, bind_p]; rfl
    · rw [e2, bind_p]
    · exact Rel_look hT hF hR hL hH rf mf (by decide) r2 (CX_f rf (by decide) hX)
  · rw [if_pos ((hasC6 hR.1 hR.2.2 a1).mpr hc), if_pos (hm.mpr hc)]
    exact ⟨_, cw_some.mpr ⟨rfl, cw_some.mpr ⟨rfl, hk⟩⟩⟩
/-- the first of the cheapest below k -/
def gb_ (cost : Nat → Nat) : Nat → Nat
  | 0 => 0
  | k + 1 => if cost k < cost (gb_ cost k) then k else gb_ cost k
theorem gb_lt {cost : Nat → Nat} : ∀ k, gb_ cost (k + 1) < k + 1
  | 0 => by
    show (if cost 0 < cost (gb_ cost 0) then 0 else gb_ cost 0) < 1
    split
    · omega
    · show 0 < 1; omega
  | k + 1 => by
    have := gb_lt (cost := cost) k
    show (if cost (k + 1) < cost (gb_ cost (k + 1)) then k + 1 else gb_ cost (k + 1)) < k + 1 + 1
    split <;> omega
section guA
variable {w n : Nat} {sm : Nat → Nat → Nat} {pa : Nat → Nat} {nc fo : Nat} {ln : Nat → Nat} {nb : Nat → Nat → Nat} {vl : Nat → Nat}
/-- what guess answers -/
def gv_ (w n : Nat) (sm : Nat → Nat → Nat) (pa vl : Nat → Nat) (ln : Nat → Nat) (nb : Nat → Nat → Nat) (nc : Nat) (a : Int32) : Int32 := if a = 0 then nI (gb_ (cy_ w n sm pa vl ln nb) nc) else if n = 0 then -1 else if a = 1 then nI (SS w n sm pa vl (ln (gb_ (cy_ w n sm pa vl ln nb) nc)) (nb (gb_ (cy_ w n sm pa vl ln nb) nc)) 0 / 25) else if a = 2 then nI (SS w n sm pa vl (ln (gb_ (cy_ w n sm pa vl ln nb) nc)) (nb (gb_ (cy_ w n sm pa vl ln nb) nc)) 0 / 5 % 5) else -1
theorem gu_c {M0 : cd_M} {a : Int32} (hw : w ≤ 6) (hL : CL M0 w n sm pa) (hb : BL w n sm pa) (hR : CR M0 nc fo ln nb vl) (hB : BR nc fo ln nb vl) : ∀ (r fu k : Nat) (M : cd_M), k + r = nc → r < fu → cf_ f10_guess_0_w M0 M → CM M w nc ln nb vl n sm pa → (0 < k → ¬ M.1 35 (gb_ (cy_ w n sm pa vl ln nb) k) = 0) → cw (f10_guess_0_L4 fu a (nI (gb_ (cy_ w n sm pa vl ln nb) k)) (nI k) M) (fun v => (v.1 = gv_ w n sm pa vl ln nb nc a ∧ CM v.2 w nc ln nb vl n sm pa) ∧ cf_ f10_guess_0_w M0 v.2) := by
  intro r
  have h4 := hB.2.1
  have h9 := hb.1
  induction r with
  | zero =>
    intro fu k M hk hfu hf hCM hm
    obtain ⟨fu, rfl⟩ := Nat.exists_eq_succ_of_ne_zero (show fu ≠ 0 by omega)
    have ek : k = nc := by omega
    have h1 := hB.1
    subst ek
    have gl : gb_ (cy_ w n sm pa vl ln nb) k < k := by
      obtain ⟨k', rfl⟩ := Nat.exists_eq_succ_of_ne_zero (show k ≠ 0 by omega)
      exact gb_lt k'
    have mk := (hCM _ gl).resolve_left (hm (by omega))
    have cin : cd_in (nI (gb_ (cy_ w n sm pa vl ln nb) k)) 4 = true := by rw [ci_nI (by omega)]; omega
    rw [f10_guess_0_L4]
    unfold f5_cadences_6 f4_size_7 gv_ f0_firstPlace_9 f0_firstStep_9
    rw [(CR_f hf (by decide) hR).1, if_pos (nI_le (by omega) (by omega)), (CL_f hf (by decide) hL).1, if_neg (nI_pos (by omega)), if_neg (nI_pos (by omega)), show (4 : Int32) = nI 4 from rfl, if_neg (nI_ge (by omega) (by omega)), if_neg (nI_ge (by omega) (by omega)), if_pos cin, if_pos cin, nI_clamp (by omega), bind_p, bind_p]
    by_cases q0 : a = 0
    · rw [if_pos q0, if_pos q0]; exact cw_some.mpr ⟨⟨rfl, hCM⟩, hf⟩
    rw [if_neg q0, if_neg q0]
    by_cases qn : n = 0
    · rw [if_pos qn, if_pos (by rw [qn]; rfl)]; exact cw_some.mpr ⟨⟨rfl, hCM⟩, hf⟩
    rw [if_neg qn, if_neg (nI_ne0 (by omega) (by omega))]
    have m2 := mk.2 (by omega)
    by_cases q1 : a = 1
    · rw [if_pos q1, if_pos q1]; exact cw_some.mpr ⟨⟨m2.1, hCM⟩, hf⟩
    rw [if_neg q1, if_neg q1]
    by_cases q2 : a = 2
    · rw [if_pos q2, if_pos q2]; exact cw_some.mpr ⟨⟨m2.2, hCM⟩, hf⟩
    rw [if_neg q2, if_neg q2]
    exact cw_some.mpr ⟨⟨rfl, hCM⟩, hf⟩
  | succ r ih =>
    intro fu k M hk hfu hf hCM hm
    obtain ⟨fu, rfl⟩ := Nat.exists_eq_succ_of_ne_zero (show fu ≠ 0 by omega)
    have gl : gb_ (cy_ w n sm pa vl ln nb) k < nc := by
      cases k with
      | zero => show 0 < nc; omega
      | succ k' => have := gb_lt (cost := cy_ w n sm pa vl ln nb) k'; omega
    have c1 := cy_le hb hB (c := k) (by omega)
    have c2 := cy_le hb hB gl
    rw [f10_guess_0_L4]
    unfold f5_cadences_6
    rw [(CR_f hf (by decide) hR).1, if_neg (nI_ge (by omega) (by omega)), cw_bind]
    refine cw_mono (costByC hw (CL_f hf (by decide) hL) hb (CR_f hf (by decide) hR) hB hCM (c := k) (by omega)) (fun r1 k1 => ?_)
    obtain ⟨⟨v1, m1, z1, y1⟩, f1⟩ := k1
    have hf1 : cf_ f10_guess_0_w M0 r1.2 := cf_trans hf (cf_le (by decide) f1)
    show cw ((f0_costBy_9_7_6 (nI (gb_ (cy_ w n sm pa vl ln nb) k)) r1.2).bind (cd_u2 fun v7 M6 => if v7 ≤ r1.1 then (f10_guess_0_L52 (f10_guess_0_L4 fu) a (nI (gb_ (cy_ w n sm pa vl ln nb) k)) (nI k) M6) else (f10_guess_0_L52 (f10_guess_0_L4 fu) a (nI k) (nI k) M6))) _
    rw [cw_bind]
    refine cw_mono (costByC hw (CL_f hf1 (by decide) hL) hb (CR_f hf1 (by decide) hR) hB m1 gl) (fun r2 k2 => ?_)
    obtain ⟨⟨v2, m2, z2, y2⟩, f2⟩ := k2
    have hf2 : cf_ f10_guess_0_w M0 r2.2 := cf_trans hf1 (cf_le (by decide) f2)
    show cw (if r2.1 ≤ r1.1 then (f10_guess_0_L52 (f10_guess_0_L4 fu) a (nI (gb_ (cy_ w n sm pa vl ln nb) k)) (nI k) r2.2) else (f10_guess_0_L52 (f10_guess_0_L4 fu) a (nI k) (nI k) r2.2)) _
    unfold f10_guess_0_L52
    simp only [cd_lt_p]
    rw [nI_1, v1, v2]
    have eg : gb_ (cy_ w n sm pa vl ln nb) (k + 1) = if cy_ w n sm pa vl ln nb k < cy_ w n sm pa vl ln nb (gb_ (cy_ w n sm pa vl ln nb) k) then k else gb_ (cy_ w n sm pa vl ln nb) k := rfl
    by_cases q : cy_ w n sm pa vl ln nb k < cy_ w n sm pa vl ln nb (gb_ (cy_ w n sm pa vl ln nb) k)
    · rw [if_pos q] at eg
      rw [if_neg (nI_ge q (by omega))]
      have K := ih fu (k + 1) r2.2 (by omega) (by omega) hf2 m2 (fun _ => by rw [eg]; exact y2 k (by omega) z1)
      rw [eg] at K
      exact K
    · rw [if_neg q] at eg
      rw [if_pos (nI_le (by omega) (by omega))]
      have K := ih fu (k + 1) r2.2 (by omega) (by omega) hf2 m2 (fun _ => by rw [eg]; exact z2)
      rw [eg] at K
      exact K
theorem gu_m {N0 : cd_M} {a : Int32} (hw : w ≤ 6) (hb : BL w n sm pa) (hB : BR nc fo ln nb vl) (h : MQq N0 w n sm pa nc fo ln nb vl) (ha : a = 0 ∨ a = 1 ∨ a = 2) : ∀ (r fu k : Nat) (b l f : Int32) (N : cd_M), k + r = nc → r < fu → cf_ f11_guess_15_L29_w N0 N → (k = 0 → b = -1) → (0 < k → b = nI (gb_ (cy_ w n sm pa vl ln nb) k) ∧ l = nI (cy_ w n sm pa vl ln nb (gb_ (cy_ w n sm pa vl ln nb) k)) ∧ f = if n = 0 then -1 else nI (SS w n sm pa vl (ln (gb_ (cy_ w n sm pa vl ln nb) k)) (nb (gb_ (cy_ w n sm pa vl ln nb) k)) 0)) → cw (f11_guess_15_L29 fu a b l f (nI k) N) (fun v => v.1 = gv_ w n sm pa vl ln nb nc a ∧ cf_ f11_guess_15_L29_w N0 v.2) := by
  intro r
  have h4 := hB.2.1
  have h9 := hb.1
  induction r with
  | zero =>
    intro fu k b l f N hk hfu hf hk0 hk1
    obtain ⟨fu, rfl⟩ := Nat.exists_eq_succ_of_ne_zero (show fu ≠ 0 by omega)
    have ek : k = nc := by omega
    have h1 := hB.1
    subst ek
    have gl : gb_ (cy_ w n sm pa vl ln nb) k < k := by
      obtain ⟨k', rfl⟩ := Nat.exists_eq_succ_of_ne_zero (show k ≠ 0 by omega)
      exact gb_lt k'
    obtain ⟨rfl, rfl, rfl⟩ := hk1 (by omega)
    have q1 : MQq N w n sm pa k fo ln nb vl := MQq_f hf (by decide) h
    have bp := BP_of hb hB gl
    have s5 : SS w n sm pa vl (ln (gb_ (cy_ w n sm pa vl ln nb) k)) (nb (gb_ (cy_ w n sm pa vl ln nb) k)) 0 < 150 := vld_lt bp.2.2.2.1 (sts_vld bp.2.2.2.1 0)
    rw [f11_guess_15_L29, q1.2.2.1, if_pos (nI_le (by omega) (by omega))]
    unfold gv_
    by_cases q0 : a = 0
    · rw [if_pos q0, if_pos q0]; exact cw_some.mpr ⟨rfl, hf⟩
    rw [if_neg q0, if_neg q0]
    by_cases qn : n = 0
    · rw [if_pos qn, if_pos qn, if_neg (by decide)]; exact cw_some.mpr ⟨rfl, hf⟩
    rw [if_neg qn, if_neg qn, if_pos (nI_pos' (by omega)), d25 (by omega), d55 (by omega)]
    by_cases q1 : a = 1
    · rw [if_pos q1, if_pos q1]; exact cw_some.mpr ⟨rfl, hf⟩
    · rw [if_neg q1, if_neg q1, if_pos (show a = 2 from (ha.resolve_left q0).resolve_left q1)]; exact cw_some.mpr ⟨rfl, hf⟩
  | succ r ih =>
    intro fu k b l f N hk hfu hf hk0 hk1
    obtain ⟨fu, rfl⟩ := Nat.exists_eq_succ_of_ne_zero (show fu ≠ 0 by omega)
    have q1 : MQq N w n sm pa nc fo ln nb vl := MQq_f hf (by decide) h
    rw [f11_guess_15_L29, q1.2.2.1, if_neg (nI_ge (by omega) (by omega)), cw_bind]
    refine cw_mono (laysPathM hw hb hB (c := k) (by omega) q1) (fun N1 k1 => ?_)
    obtain ⟨m1, mf⟩ := k1
    have hf1 : cf_ f11_guess_15_L29_w N0 N1 := cf_trans hf (cf_le (by decide) mf)
    have e35 : N1.1 15 35 = nI (cy_ w n sm pa vl ln nb k) := m1.2.2.2.1
    have c1 := cy_le hb hB (c := k) (by omega)
    have eg : gb_ (cy_ w n sm pa vl ln nb) (k + 1) = if cy_ w n sm pa vl ln nb k < cy_ w n sm pa vl ln nb (gb_ (cy_ w n sm pa vl ln nb) k) then k else gb_ (cy_ w n sm pa vl ln nb) k := rfl
    have take : gb_ (cy_ w n sm pa vl ln nb) (k + 1) = k → cw (f11_guess_15_L59 (f11_guess_15_L29 fu) a (nI k) N1) (fun v => v.1 = gv_ w n sm pa vl ln nb nc a ∧ cf_ f11_guess_15_L29_w N0 v.2) := by
      intro z
      unfold f11_guess_15_L59 f11_guess_15_L84 f11_guess_15_L86
      simp only [cd_lt_p]
      rw [e35, m1.1.1, if_pos (show cd_in 0 90 = true by decide), show Int32.toNatClampNeg 0 = 0 from rfl, nI_1]
      by_cases qn : n = 0
      · rw [if_pos (by rw [qn]; rfl)]
        exact ih fu (k + 1) _ _ _ N1 (by omega) (by omega) hf1 (fun y => by omega) (fun _ => by rw [z]; exact ⟨rfl, rfl, by rw [if_pos qn]⟩)
      · rw [if_neg (nI_ne0 (by omega) (by omega)), (m1.2.2.1 0 (by omega)).1]
        exact ih fu (k + 1) _ _ _ N1 (by omega) (by omega) hf1 (fun y => by omega) (fun _ => by rw [z]; exact ⟨rfl, rfl, by rw [if_neg qn]⟩)
    cases k with
    | zero =>
      rw [hk0 rfl, if_pos (by decide)]
      refine take ?_
      rw [eg]
      split <;> rfl
    | succ k =>
      obtain ⟨rfl, rfl, rfl⟩ := hk1 (by omega)
      have gl : gb_ (cy_ w n sm pa vl ln nb) (k + 1) < nc := by have := gb_lt (cost := cy_ w n sm pa vl ln nb) k; omega
      have c2 := cy_le hb hB gl
      rw [if_neg (nI_pos (by omega)), e35]
      by_cases q : cy_ w n sm pa vl ln nb (k + 1) < cy_ w n sm pa vl ln nb (gb_ (cy_ w n sm pa vl ln nb) (k + 1))
      · rw [if_pos (nI_lt q (by omega))]
        exact take (by rw [eg, if_pos q])
      · rw [if_neg (nI_nlt (by omega) (by omega))]
        rw [if_neg q] at eg
        unfold f11_guess_15_L86
        simp only [cd_lt_p]
        rw [nI_1]
        exact ih fu (k + 1 + 1) _ _ _ N1 (by omega) (by omega) hf1 (fun y => by omega) (fun _ => by rw [eg]; exact ⟨rfl, rfl, rfl⟩)
end guA
theorem o_guess : cl_o_guess Rel := by
  intro a1
  refine op_path (w1 := f10_guess_0_w) (w2 := f11_guess_15_w) (by decide) (by decide) (fun M => w_f10_guess_0 (by decide) cf_refl) (fun M => w_f11_guess_15 (by decide) cf_refl) ?_
  intro M N h
  have h' := Rel2_t (v := 0) h
  unfold f10_guess_0 f11_guess_15
  simp only [cd_lt_p]
  generalize cd_wI N 15 0 0 = N0 at h'
  obtain ⟨t, b, w, nf, fl, nc, fo, ln, nb, vl, n, sm, pa, u, x, hn, hs, hp, hT, hF, hR, hL, hH, hCM, hX⟩ := h'
  have h4 := hR.2.2.2.1
  have hw := hF.2.2.1
  obtain ⟨r, e1, ⟨r1, r2⟩, rf⟩ := gu_c (a := a1) hw hL.1 hL.2.2 hR.1 hR.2.2 nc cd_fu 0 M (by omega) (by unfold cd_fu; omega) cf_refl hCM (fun z => by omega)
  have e1' : f10_guess_0_L4 cd_fu a1 0 0 M = some r := e1
  have wi : f11_within a1.toInt64 0 2 N0 = 0 ↔ ¬ inr_ a1 3 := wi_in (n := 3) (by decide)
  rw [e1']
  by_cases q : inr_ a1 3
  · rw [if_neg (fun z => wi.mp z q)]
    have ha : a1 = 0 ∨ a1 = 1 ∨ a1 = 2 := by
      obtain ⟨j, hj, rfl⟩ := q
      have : j = 0 ∨ j = 1 ∨ j = 2 := by omega
      rcases this with rfl | rfl | rfl
      · exact Or.inl rfl
      · exact Or.inr (Or.inl rfl)
      · exact Or.inr (Or.inr rfl)
    obtain ⟨r', e2, m1, mf⟩ := gu_m (N0 := N0) hw hL.2.2 hR.2.2 ⟨hF.2.1.1, hL.2.1, hR.2.1⟩ ha nc cd_fu 0 (-1) 0 (-1) N0 (by omega) (by unfold cd_fu; omega) cf_refl (fun _ => rfl) (fun z => by omega)
    have e2' : f11_guess_15_L29 cd_fu a1 (-1) 0 (-1) 0 N0 = some r' := e2
    exact ⟨gv_ w n sm pa vl ln nb nc a1, cw_some.mpr ⟨r1, by rw [e2']; exact cw_some.mpr ⟨m1, Rel_look hT hF hR hL hH rf mf (by decide) r2 (CX_f rf (by decide) hX)⟩⟩⟩
  · rw [if_pos (wi.mpr q)]
    have eg : gv_ w n sm pa vl ln nb nc a1 = -1 := by
      unfold gv_
      rw [if_neg (show ¬ a1 = 0 from fun z => q ⟨0, by decide, z⟩), if_neg (show ¬ a1 = 1 from fun z => q ⟨1, by decide, z⟩), if_neg (show ¬ a1 = 2 from fun z => q ⟨2, by decide, z⟩)]
      split <;> rfl
    exact ⟨-1, cw_some.mpr ⟨r1.trans eg, cw_some.mpr ⟨rfl, Rel_look (w2 := []) hT hF hR hL hH rf cf_refl (by decide) r2 (CX_f rf (by decide) hX)⟩⟩⟩
