/-! count, cadence, frame, force -/
theorem Rel2_t {M N : cd_M} {v : Int32} (h : Rel2 M N) : Rel2 M (cd_wI N 15 0 v) := by
  obtain ⟨t, b, w, nf, fl, nc, fo, ln, nb, vl, n, sm, pa, u, x, hn, hs, hp, ⟨a1, a2⟩, ⟨b1, b2, b3⟩, ⟨c1, c2, c3⟩, ⟨d1, d2, d3⟩, ⟨e1, e2, e3⟩, f1, g1⟩ := h
  have e : ∀ x i, ¬ (x = 15 ∧ i = 0) → (cd_wI N 15 0 v).1 x i = N.1 x i := fun x i h => by rw [cd_wI_at, if_neg h]
  refine ⟨t, b, w, nf, fl, nc, fo, ln, nb, vl, n, sm, pa, u, x, hn, hs, hp, ⟨a1, ?_⟩, ⟨b1, ?_, b3⟩, ⟨c1, ?_, c3⟩, ⟨d1, ?_, d3⟩, ⟨e1, ?_, e3⟩, f1, g1⟩
  · exact MT_c (e _ _ (by decide)) (fun i => e _ _ (by omega)) a2
  · exact MF_c (e _ _ (by decide)) (e _ _ (by decide)) (fun i => e _ _ (by omega)) b2
  · exact MR_c (e _ _ (by decide)) (e _ _ (by decide)) (fun i => e _ _ (by omega)) (fun i => e _ _ (by omega)) (fun i => e _ _ (by omega)) c2
  · exact ML_c (e _ _ (by decide)) (fun i => e _ _ (by omega)) d2
  · exact MH_c (e _ _ (by decide)) (fun i => e _ _ (by omega)) (fun i => e _ _ (by omega)) e2
theorem val6 {M : cd_M} {nc fo : Nat} {ln : Nat → Nat} {nb : Nat → Nat → Nat} {vl : Nat → Nat} (h : CR M nc fo ln nb vl) {v : Nat} (hv : v < 5) : f5_value_6 (nI v) M = some (nI (vl v)) := by
  have e5 : (5 : Int32) = nI 5 := rfl
  unfold f5_value_6
  rw [if_neg (nI_pos (by omega)), e5, if_neg (nI_ge hv (by decide)), if_pos (by rw [ci_nI (by omega)]; exact hv), nI_clamp (by omega), h.2.2.2.2 v hv]
theorem o_count : cl_o_count Rel := by
  intro a1
  refine op1_ (w2 := f11_count_15_w) (by decide) (fun M => w_f11_count_15 (by decide) cf_refl) ?_
  intro M N h
  have h' := Rel2_t (v := 0) h
  unfold f10_count_0 f11_count_15 f1_width_5 f1_size_5 f4_size_7 f5_cadences_6 f3_size_8 f7_size_2
  dsimp only [cd_lt]
  generalize cd_wI N 15 0 0 = N0 at h'
  have hk := h'
  obtain ⟨t, b, w, nf, fl, nc, fo, ln, nb, vl, n, sm, pa, u, x, hn, hs, hp, ⟨a01, a02⟩, ⟨b1, b2, b3⟩, ⟨c1, c2, c3⟩, ⟨d1, d2, d3⟩, ⟨e1, e2, e3⟩, f1, g1⟩ := h'
  by_cases q0 : a1 = 0
  · rw [if_pos q0, if_pos q0]
    exact ⟨_, rfl, cw_some.mpr ⟨by show _ = _; rw [b1.1, b2.1], hk⟩⟩
  rw [if_neg q0, if_neg q0]
  by_cases q1 : a1 = 1
  · rw [if_pos q1, if_pos q1]
    exact ⟨_, rfl, cw_some.mpr ⟨by show _ = _; rw [b1.2.1, b2.2.1], hk⟩⟩
  rw [if_neg q1, if_neg q1]
  by_cases q2 : a1 = 2
  · rw [if_pos q2, if_pos q2]
    exact ⟨_, rfl, cw_some.mpr ⟨by show _ = _; rw [d1.1, d2.1], hk⟩⟩
  rw [if_neg q2, if_neg q2]
  by_cases q3 : a1 = 3
  · rw [if_pos q3, if_pos q3]
    exact ⟨_, rfl, cw_some.mpr ⟨by show _ = _; rw [c1.1, c2.1], hk⟩⟩
  rw [if_neg q3, if_neg q3]
  by_cases q4 : a1 = 4
  · rw [if_pos q4, if_pos q4]
    exact ⟨_, rfl, cw_some.mpr ⟨by show _ = _; rw [c1.2.1, c2.2.1], hk⟩⟩
  rw [if_neg q4, if_neg q4]
  by_cases q5 : a1 = 5
  · rw [if_pos q5, if_pos q5]
    rw [if_pos (show cd_in 0 10 = true by decide)]
    refine ⟨nI (vl 0), by have z := val6 c1 (v := 0) (by decide); rw [show nI 0 = (0 : Int32) from rfl] at z; rw [z]; rfl, cw_some.mpr ⟨c2.2.2.2.2 0 (by decide), hk⟩⟩
  rw [if_neg q5, if_neg q5]
  by_cases q6 : a1 = 6
  · rw [if_pos q6, if_pos q6]
    rw [if_pos (show cd_in 1 10 = true by decide)]
    refine ⟨nI (vl 1), by have z := val6 c1 (v := 1) (by decide); rw [show nI 1 = (1 : Int32) from rfl] at z; rw [z]; rfl, cw_some.mpr ⟨c2.2.2.2.2 1 (by decide), hk⟩⟩
  rw [if_neg q6, if_neg q6]
  by_cases q7 : a1 = 7
  · rw [if_pos q7, if_pos q7]
    rw [if_pos (show cd_in 2 10 = true by decide)]
    refine ⟨nI (vl 2), by have z := val6 c1 (v := 2) (by decide); rw [show nI 2 = (2 : Int32) from rfl] at z; rw [z]; rfl, cw_some.mpr ⟨c2.2.2.2.2 2 (by decide), hk⟩⟩
  rw [if_neg q7, if_neg q7]
  by_cases q8 : a1 = 8
  · rw [if_pos q8, if_pos q8]
    rw [if_pos (show cd_in 3 10 = true by decide)]
    refine ⟨nI (vl 3), by have z := val6 c1 (v := 3) (by decide); rw [show nI 3 = (3 : Int32) from rfl] at z; rw [z]; rfl, cw_some.mpr ⟨c2.2.2.2.2 3 (by decide), hk⟩⟩
  rw [if_neg q8, if_neg q8]
  by_cases q9 : a1 = 9
  · rw [if_pos q9, if_pos q9]
    rw [if_pos (show cd_in 4 10 = true by decide)]
    refine ⟨nI (vl 4), by have z := val6 c1 (v := 4) (by decide); rw [show nI 4 = (4 : Int32) from rfl] at z; rw [z]; rfl, cw_some.mpr ⟨c2.2.2.2.2 4 (by decide), hk⟩⟩
  rw [if_neg q9, if_neg q9]
  by_cases q10 : a1 = 10
  · rw [if_pos q10, if_pos q10]
    exact ⟨_, rfl, cw_some.mpr ⟨by show _ = _; rw [e1.1, e2.1], hk⟩⟩
  rw [if_neg q10, if_neg q10]
  by_cases q11 : a1 = 11
  · rw [if_pos q11, if_pos q11]
    refine ⟨_, rfl, cw_some.mpr ⟨?_, hk⟩⟩
    show N0.1 15 2 = 4 * M.1 2 1
    rw [a01.1, a02.1]
    exact (pk_mul 4 t).symm
  rw [if_neg q11, if_neg q11]
  exact ⟨_, rfl, cw_some.mpr ⟨rfl, hk⟩⟩
