/-! path, all, edit, group, found -/
theorem op_path {o1 o2 : cd_M → Option (Int32 × cd_M)} {w1 w2 : List (Nat × Option Nat)} (k1 : cls_ w1 = true) (k2 : mdl_ w2 = true) (f1 : ∀ M, cp (o1 M) (fun r => cf_ w1 M r.2)) (f2 : ∀ M, cp (o2 M) (fun r => cf_ w2 M r.2)) (H : ∀ M N, Rel2 M N → ∃ v, cw (o1 M) (fun r => r.1 = v ∧ cw (o2 N) (fun q => q.1 = v ∧ Rel2 r.2 q.2))) : ∀ M, Rel M → ∃ (v : Int32) (M1 M2 : cd_M), o1 M = some (v, M1) ∧ o2 M1 = some (v, M2) ∧ Rel M2 := fun M h => op2_ k1 k2 f1 f2 H M h
theorem o_all : cl_o_all Rel := by
  intro a1
  refine op_path (w1 := f10_all_0_w) (w2 := f11_all_15_w) (by decide) (by decide) (fun M => w_f10_all_0 (by decide) cf_refl) (fun M => w_f11_all_15 (by decide) cf_refl) ?_
  intro M N h
  have h' := Rel2_t (v := 0) h
  unfold f10_all_0 f11_all_15
  simp only [cd_lt_p]
  generalize cd_wI N 15 0 0 = N0 at h'
  refine look2 h' ?_
  intro w nf fl nc fo ln nb vl n sm pa M1 N1 lk
  obtain ⟨hF, hR, hL, tk, gr, la⟩ := lk
  unfold f9_total_11 f9_edits_11 f2_size_12 f9_dropped_11 f2_orphans_12 f2_pairs_12 f1_size_13
  have e0 : M1.1 11 9 = N1.1 15 35 := tk.2.2.2.1.trans la.1.2.2.2.1.symm
  have e1 : M1.1 11 7 = N1.1 15 36 := tk.2.1.trans la.1.2.2.2.2.symm
  have e2 : M1.1 12 6 = N1.1 15 37 := gr.1.1.trans la.2.1.symm
  have e3 : M1.1 11 8 = N1.1 15 47 := tk.2.2.1.trans la.2.2.1.symm
  have e4 : M1.1 12 7 = N1.1 15 45 := gr.2.1.trans la.2.2.2.2.2.2.1.symm
  have e5 : M1.1 12 8 = N1.1 15 46 := gr.2.2.1.trans la.2.2.2.2.2.2.2.1.symm
  have e6 : M1.1 13 3 = N1.1 15 44 := gr.2.2.2.2.1.trans la.2.2.2.2.2.2.2.2.2.1.symm
  rw [e0, e1, e2, e3, e4, e5, e6]
  by_cases q0 : a1 = 0
  · rw [if_pos q0, if_pos q0]; exact ⟨_, _, _, rfl, cf_refl, rfl, cf_refl⟩
  rw [if_neg q0, if_neg q0]
  by_cases q1 : a1 = 1
  · rw [if_pos q1, if_pos q1]; exact ⟨_, _, _, rfl, cf_refl, rfl, cf_refl⟩
  rw [if_neg q1, if_neg q1]
  by_cases q2 : a1 = 2
  · rw [if_pos q2, if_pos q2]; exact ⟨_, _, _, rfl, cf_refl, rfl, cf_refl⟩
  rw [if_neg q2, if_neg q2]
  by_cases q3 : a1 = 3
  · rw [if_pos q3, if_pos q3]; exact ⟨_, _, _, rfl, cf_refl, rfl, cf_refl⟩
  rw [if_neg q3, if_neg q3]
  by_cases q4 : a1 = 4
  · rw [if_pos q4, if_pos q4]; exact ⟨_, _, _, rfl, cf_refl, rfl, cf_refl⟩
  rw [if_neg q4, if_neg q4]
  by_cases q5 : a1 = 5
  · rw [if_pos q5, if_pos q5]; exact ⟨_, _, _, rfl, cf_refl, rfl, cf_refl⟩
  rw [if_neg q5, if_neg q5]
  by_cases q6 : a1 = 6
  · rw [if_pos q6, if_pos q6]; exact ⟨_, _, _, rfl, cf_refl, rfl, cf_refl⟩
  rw [if_neg q6, if_neg q6]
  exact ⟨_, _, _, rfl, cf_refl, rfl, cf_refl⟩
theorem has11 {M : cd_M} {ss : Nat → Nat} {ee : Nat → Bool} {cc : Nat → Nat} {n : Nat} (h : TK M ss ee cc n) (hn : n ≤ 90) {i : Nat} (hi : i < n) : ¬ f9_has_11 (nI i) M = 0 := fun z => by
  unfold f9_has_11 at z
  exact (has_iff h.1 (by omega)).mp z ⟨i, hi, rfl⟩
theorem bnz {b : Bool} : (nI (bn_ b) = 0) ↔ b = false := by
  cases b with
  | true => exact ⟨fun z => absurd z (by decide), fun z => by cases z⟩
  | false => exact ⟨fun _ => rfl, fun _ => rfl⟩
theorem o_path : cl_o_path Rel := by
  intro a1 a2
  refine op_path (w1 := f10_path_0_w) (w2 := f11_path_15_w) (by decide) (by decide) (fun M => w_f10_path_0 (by decide) cf_refl) (fun M => w_f11_path_15 (by decide) cf_refl) ?_
  intro M N h
  have h' := Rel2_t (v := 0) h
  unfold f10_path_0 f11_path_15
  simp only [cd_lt_p]
  generalize cd_wI N 15 0 0 = N0 at h'
  have hk := h'
  obtain ⟨t, b, w, nf, fl, nc, fo, ln, nb, vl, n, sm, pa, u, x, hn, hs, hp, hT, hF, hR, hL, hH, hCM, hX⟩ := h'
  by_cases hi : inr_ a1 n
  · rw [if_neg (fun q => (has7 hL.1 hL.2.2).mp q hi), if_neg (fun q => (isF15 hL.2.1 hL.2.2).mp q hi)]
    refine look1 hT hF hR hL hH hCM hX ?_
    intro M1 N1 lk
    obtain ⟨kF, kR, kL, tk, gr, la⟩ := lk
    obtain ⟨i, hi, rfl⟩ := hi
    have h9 := kL.2.2.1
    have cin : cd_in (nI i) 90 = true := by rw [ci_nI (by omega)]; omega
    have bp := BP_of kL.2.2 kR.2.2 kR.2.2.2.2.1
    have s5 : SS w n sm pa vl (ln fo) (nb fo) i < 150 := vld_lt bp.2.2.2.1 (sts_vld bp.2.2.2.1 i)
    obtain ⟨t1, t2, t3, t4, t5⟩ := tk.2.2.2.2.1 i hi
    have l1 : N1.1 70 i = nI (SS w n sm pa vl (ln fo) (nb fo) i) := (la.1.2.2.1 i hi).1
    have l2 : N1.1 71 i = nI (bn_ (EE w n sm pa vl (ln fo) (nb fo) i)) := (la.1.2.2.1 i hi).2
    obtain ⟨m1, m2⟩ := la.2.2.2.1 i hi
    have cl := cnt_le (P := fi_ (SS w n sm pa vl (ln fo) (nb fo))) n
    have cp : 1 ≤ cnt_ (fi_ (SS w n sm pa vl (ln fo) (nb fo))) (i + 1) := cnt_pos (sq_sts (n := n) (pa := pa) (fr := frs_ w sm pa vl) (rp := rep_ w sm vl) (ed := vl 1) bp.2.2.2.1) hi
    have cm := cnt_mono (P := fi_ (SS w n sm pa vl (ln fo) (nb fo))) (show i + 1 ≤ n by omega)
    have hg : cnt_ (fi_ (SS w n sm pa vl (ln fo) (nb fo))) (i + 1) - 1 < cnt_ (fi_ (SS w n sm pa vl (ln fo) (nb fo))) n := by omega
    unfold f9_place_11 f9_step_11 f9_seen_11 f9_isEdit_11 f9_price_11 f2_groupOf_12 f9_isKept_11 f2_frameOf_12
    rw [if_neg (has11 tk h9 hi), if_neg (has11 tk h9 hi), if_neg (has11 tk h9 hi), if_neg (has11 tk h9 hi), if_neg (has11 tk h9 hi), if_neg (has11 tk h9 hi), if_neg (nI_pos (by omega)), show (90 : Int32) = nI 90 from rfl, if_neg (nI_ge (by omega) (by omega))]
    simp only [cin, if_true]
    rw [nI_clamp (by omega), t1, t2, t3, t4, t5, gr.1.2.1 i hi, l1, l2, m1, m2, d25 (by omega), d55 (by omega), m5 (by omega), costOfM bp hi la.1.1 la.1.2.1 l1 l2]
    simp only [bind_p]
    by_cases q0 : a2 = 0
    · rw [if_pos q0, if_pos q0]; exact ⟨_, _, _, rfl, cf_refl, rfl, cf_refl⟩
    rw [if_neg q0, if_neg q0]
    by_cases q1 : a2 = 1
    · rw [if_pos q1, if_pos q1]; exact ⟨_, _, _, rfl, cf_refl, rfl, cf_refl⟩
    rw [if_neg q1, if_neg q1]
    by_cases q2 : a2 = 2
    · rw [if_pos q2, if_pos q2]; exact ⟨_, _, _, rfl, cf_refl, rfl, cf_refl⟩
    rw [if_neg q2, if_neg q2]
    by_cases q3 : a2 = 3
    · rw [if_pos q3, if_pos q3]
      by_cases z : nI (bn_ (EE w n sm pa vl (ln fo) (nb fo) i)) = 0
      · rw [if_pos z, if_pos z, bind_p, if_pos rfl]; exact ⟨_, _, _, rfl, cf_refl, rfl, cf_refl⟩
      · rw [if_neg z, if_neg z, bind_p, if_neg (by decide)]; exact ⟨_, _, _, rfl, cf_refl, rfl, cf_refl⟩
    rw [if_neg q3, if_neg q3]
    by_cases q4 : a2 = 4
    · rw [if_pos q4, if_pos q4]; exact ⟨_, _, _, rfl, cf_refl, rfl, cf_refl⟩
    rw [if_neg q4, if_neg q4]
    by_cases q5 : a2 = 5
    · rw [if_pos q5, if_pos q5]; exact ⟨_, _, _, rfl, cf_refl, rfl, cf_refl⟩
    rw [if_neg q5, if_neg q5]
    by_cases q6 : a2 = 6
    · rw [if_pos q6, if_pos q6, show (2 : Int32) = nI 2 from rfl]
      unfold dr_
      by_cases z : 2 ≤ SS w n sm pa vl (ln fo) (nb fo) i % 5
      · rw [if_pos (nI_le z (by omega)), bind_p, if_pos rfl, decide_eq_true z, if_pos (by decide)]; exact ⟨_, _, _, rfl, cf_refl, rfl, cf_refl⟩
      · rw [if_neg (nI_ge (by omega) (by omega)), bind_p, if_neg (by decide), decide_eq_false z, if_neg (by decide)]; exact ⟨_, _, _, rfl, cf_refl, rfl, cf_refl⟩
    rw [if_neg q6, if_neg q6]
    by_cases q7 : a2 = 7
    · have cin2 : cd_in (nI (cnt_ (fi_ (SS w n sm pa vl (ln fo) (nb fo))) (i + 1) - 1)) 90 = true := by rw [ci_nI (by omega)]; omega
      rw [if_pos q7, if_pos q7, if_neg (fun z => (has12 gr.1 h9).mp z ⟨_, hg, rfl⟩), if_pos cin2, if_pos cin2, nI_clamp (by omega), (gr.2.2.2.1 _ hg).2, (la.2.2.2.2.2.2.2.2.1 _ hg).2, bind_p]
      exact ⟨_, _, _, rfl, cf_refl, rfl, cf_refl⟩
    rw [if_neg q7, if_neg q7]
    exact ⟨_, _, _, rfl, cf_refl, rfl, cf_refl⟩
  · rw [if_pos ((has7 hL.1 hL.2.2).mpr hi), if_pos ((isF15 hL.2.1 hL.2.2).mpr hi)]
    exact ⟨_, cw_some.mpr ⟨rfl, cw_some.mpr ⟨rfl, hk⟩⟩⟩
theorem ed_19 {N : cd_M} {n j : Nat} {ee : Nat → Bool} (hn : n ≤ 90) (hj : j < 2 ^ 31) (h24 : N.1 15 24 = nI n) (h71 : ∀ i, i < n → N.1 71 i = nI (bn_ (ee i))) : ∀ (r fu f : Nat), f + r = n → r < fu → cnt_ ee f ≤ j → f11_edit_15_L19 fu (nI j) (nI (cnt_ ee f)) (nI f) N = some (if j < cnt_ ee n then nI (sel_ ee j n) else -1, N) := by
  intro r
  induction r with
  | zero =>
    intro fu f hf hfu hc
    obtain ⟨fu, rfl⟩ := Nat.exists_eq_succ_of_ne_zero (show fu ≠ 0 by omega)
    have ef : f = n := by omega
    rw [ef] at hc
    rw [f11_edit_15_L19, h24, if_pos (nI_le (by omega) (by omega)), if_neg (by omega)]
  | succ r ih =>
    intro fu f hf hfu hc
    obtain ⟨fu, rfl⟩ := Nat.exists_eq_succ_of_ne_zero (show fu ≠ 0 by omega)
    have cl := cnt_le (P := ee) f
    rw [f11_edit_15_L19, h24, if_neg (nI_ge (by omega) (by omega)), if_pos (show cd_in (nI f) 90 = true by rw [ci_nI (by omega)]; omega), nI_clamp (by omega), h71 f (by omega)]
    unfold f11_edit_15_L49
    simp only [cd_lt_p]
    rw [nI_1]
    by_cases q : ee f = true
    · have b1 : bn_ (ee f) = 1 := by unfold bn_; rw [if_pos q]
      have c1 := cnt_succ q
      rw [b1, if_neg (show ¬ nI 1 = 0 by decide)]
      by_cases z : cnt_ ee f = j
      · have cm := cnt_mono (P := ee) (show f + 1 ≤ n by omega)
        have es := sel_is q (show f < n by omega)
        rw [if_pos (by rw [z]), if_pos (by omega), ← z, es]
      · rw [if_neg (fun y => z ((nI_eq (by omega) hj).mp y)), nI_1, ← c1]
        exact ih fu (f + 1) (by omega) (by omega) (by omega)
    · have b1 : bn_ (ee f) = 0 := by unfold bn_; rw [if_neg q]
      rw [b1, if_pos (show nI 0 = 0 from rfl), ← cnt_same q]
      exact ih fu (f + 1) (by omega) (by omega) (by rw [cnt_same q]; exact hc)
theorem o_edit : cl_o_edit Rel := by
  intro a1
  refine op_path (w1 := f10_edit_0_w) (w2 := f11_edit_15_w) (by decide) (by decide) (fun M => w_f10_edit_0 (by decide) cf_refl) (fun M => w_f11_edit_15 (by decide) cf_refl) ?_
  intro M N h
  have h' := Rel2_t (v := 0) h
  unfold f10_edit_0 f11_edit_15
  simp only [cd_lt_p]
  generalize cd_wI N 15 0 0 = N0 at h'
  by_cases q : a1 < 0
  · rw [if_neg (Int32.not_le.mpr q)]
    have hk := h'
    obtain ⟨t, b, w, nf, fl, nc, fo, ln, nb, vl, n, sm, pa, u, x, hn, hs, hp, hT, hF, hR, hL, hH, hCM, hX⟩ := h'
    obtain ⟨M1, e1, ⟨c1, c2, c3, c4⟩, cf1⟩ := followPathC hF.2.2.1 hL.1 hL.2.2 hR.1 hR.2.2 hCM hX
    refine ⟨-1, (-1, M1), by rw [e1, bind_p, if_pos q], rfl, (-1, N0), rfl, rfl, ?_⟩
    exact Rel_look (w2 := []) hT hF hR hL hH cf1 cf_refl (by decide) c1 (Or.inr ⟨c2, c3, c4⟩)
  · rw [if_pos (Int32.not_lt.mp q)]
    obtain ⟨j, hj, rfl⟩ := nI_of q
    refine look2 h' ?_
    intro w nf fl nc fo ln nb vl n sm pa M1 N1 lk
    obtain ⟨kF, kR, kL, tk, gr, la⟩ := lk
    have h9 := kL.2.2.1
    have cl := cnt_le (P := EE w n sm pa vl (ln fo) (nb fo)) n
    have em := ed_19 (ee := EE w n sm pa vl (ln fo) (nb fo)) h9 hj la.1.1.1 (fun i hi => (la.1.2.2.1 i hi).2) n cd_fu 0 (by omega) (by unfold cd_fu; omega) (Nat.zero_le _)
    have em' : f11_edit_15_L19 cd_fu (nI j) 0 0 N1 = some (if j < cnt_ (EE w n sm pa vl (ln fo) (nb fo)) n then nI (sel_ (EE w n sm pa vl (ln fo) (nb fo)) j n) else -1, N1) := em
    unfold f9_edits_11 f9_fieldOfEdit_11
    rw [em', if_neg q, tk.2.1]
    by_cases z : j < cnt_ (EE w n sm pa vl (ln fo) (nb fo)) n
    · obtain ⟨s1, s2, s3⟩ := sel_lt z
      have e48 := tk.2.2.2.2.2 _ s1 s2
      rw [s3] at e48
      rw [if_pos z, if_neg (nI_ge z (by omega)), if_neg q, if_neg (nI_ge z (by omega)), if_pos (by rw [ci_nI (by omega)]; omega), nI_clamp (by omega), e48, bind_p]
      exact ⟨_, _, _, rfl, cf_refl, rfl, cf_refl⟩
    · rw [if_neg z, if_pos (nI_le (by omega) (by omega))]
      exact ⟨_, _, _, rfl, cf_refl, rfl, cf_refl⟩
theorem o_group : cl_o_group Rel := by
  intro a1 a2
  refine op_path (w1 := f10_group_0_w) (w2 := f11_group_15_w) (by decide) (by decide) (fun M => w_f10_group_0 (by decide) cf_refl) (fun M => w_f11_group_15 (by decide) cf_refl) ?_
  intro M N h
  have h' := Rel2_t (v := 0) h
  unfold f10_group_0 f11_group_15
  simp only [cd_lt_p]
  generalize cd_wI N 15 0 0 = N0 at h'
  refine look2 h' ?_
  intro w nf fl nc fo ln nb vl n sm pa M1 N1 lk
  obtain ⟨kF, kR, kL, tk, gr, la⟩ := lk
  have h9 := kL.2.2.1
  have cl := cnt_le (P := fi_ (SS w n sm pa vl (ln fo) (nb fo))) n
  rw [la.2.1]
  by_cases hi : inr_ a1 (cnt_ (fi_ (SS w n sm pa vl (ln fo) (nb fo))) n)
  · rw [if_neg (fun q => (has12 gr.1 h9).mp q hi), if_neg (fun q => (wi_in (by omega)).mp q hi)]
    obtain ⟨g, hg, rfl⟩ := hi
    have gm := gs_mono hg
    have nh := fun z => (has12 gr.1 h9 (a := nI g)).mp z ⟨g, hg, rfl⟩
    have cin : cd_in (nI g) 90 = true := by rw [ci_nI (by omega)]; omega
    unfold f2_start_12 f2_length_12 f2_mateOf_12
    rw [if_neg nh, if_neg nh, if_neg nh, if_pos cin, if_pos cin, if_pos cin, if_pos cin, if_pos (show cd_in (nI g) 91 = true by rw [ci_nI (by omega)]; omega), nI_1, if_pos (show cd_in (nI (g + 1)) 91 = true by rw [ci_nI (by omega)]; omega), if_pos (show cd_in (nI g) 91 = true by rw [ci_nI (by omega)]; omega), nI_clamp (by omega), nI_clamp (by omega), (gr.1.2.2 g hg).1, (gr.1.2.2 g hg).2, (gr.2.2.2.1 g hg).1, la.2.2.2.2.1 g (by omega), la.2.2.2.2.1 (g + 1) (by omega), pk_sub (by omega), (la.2.2.2.2.2.2.2.2.1 g hg).1, orph12 gr.1 h9 hg, orphM h9 kL.2.2.2.2 la.2.2.2.2.2.1 hg]
    simp only [bind_p]
    by_cases q0 : a2 = 0
    · rw [if_pos q0, if_pos q0]; exact ⟨_, _, _, rfl, cf_refl, rfl, cf_refl⟩
    rw [if_neg q0, if_neg q0]
    by_cases q1 : a2 = 1
    · rw [if_pos q1, if_pos q1]; exact ⟨_, _, _, rfl, cf_refl, rfl, cf_refl⟩
    rw [if_neg q1, if_neg q1]
    by_cases q2 : a2 = 2
    · rw [if_pos q2, if_pos q2]
      by_cases o : orp_ n (fi_ (SS w n sm pa vl (ln fo) (nb fo))) g = true
      · rw [if_pos o, if_neg (by decide), if_neg (by decide)]; exact ⟨_, _, _, rfl, cf_refl, rfl, cf_refl⟩
      · rw [if_neg o, if_pos rfl, if_pos rfl]; exact ⟨_, _, _, rfl, cf_refl, rfl, cf_refl⟩
    rw [if_neg q2, if_neg q2]
    by_cases q3 : a2 = 3
    · rw [if_pos q3, if_pos q3]; exact ⟨_, _, _, rfl, cf_refl, rfl, cf_refl⟩
    rw [if_neg q3, if_neg q3]
    exact ⟨_, _, _, rfl, cf_refl, rfl, cf_refl⟩
  · rw [if_pos ((has12 gr.1 h9).mpr hi), if_pos ((wi_in (by omega)).mpr hi)]
    exact ⟨_, _, _, rfl, cf_refl, rfl, cf_refl⟩
