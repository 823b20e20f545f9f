/-! feed -/
def by_ (a : Int32) (j : Nat) : Nat := a.toBitVec.toNat / 2 ^ (24 - 8 * j) % 256
def bput (b : Nat → Nat) (t : Nat) (a : Int32) : Nat → Nat := fun i => if i < 4 * t then b i else by_ a (i - 4 * t)
theorem by_lt (a : Int32) (j : Nat) : by_ a j < 256 := Nat.mod_lt _ (by decide)
theorem s_u8 : ∀ j, j < 4 → (((nI (24 - 8 * j)).toUInt32 &&& Int32.toUInt32 31).toBitVec % 32).toNat = 24 - 8 * j := by decide +kernel
theorem cby_by (a : Int32) {j : Nat} (hj : j < 4) : cby_ a j = nI (by_ a j) := by
  obtain ⟨m, hm, rfl⟩ := wb_of32 a
  unfold cby_ by_
  rw [pk_ushrN hm _ _ (s_u8 j hj), pk_tn hm]
  have hd : m / 2 ^ (24 - 8 * j) < 2 ^ 32 := Nat.lt_of_le_of_lt (Nat.div_le_self _ _) hm
  rw [pk_andN hd 8 rfl]
theorem tby_ (a : Int32) {j : Nat} (hj : j < 4) : vp_nar .byte ((a >>> (nI (24 - 8 * j) &&& 31)).toInt8.toInt32) &&& 255 = nI (by_ a j) := by
  have e : ∀ y : Int32, vp_nar .byte y = y.toInt8.toInt32 := fun y => rfl
  rw [e, bp_b, bp_b, ← cby_by a hj]
  unfold cby_
  apply b_ext
  intro i hi
  rw [b_and, b_and, b_255, b_sshr _ (by omega) _ hi, b_ushr _ (by omega)]
  by_cases h : i < 8
  · rw [if_pos (by omega)]
  · simp [h]
theorem put2 {M : cd_M} {t : Nat} {b : Nat → Nat} {a : Int32} (h : CT M t b) (ht : t < 225) : cw (f7_put_2 a M) (fun M1 => CT M1 (t + 1) (bput b t a)) := by
  unfold f7_put_2
  dsimp only [cd_lt]
  have e : (225 : Int32) = nI 225 := rfl
  rw [h.1, e, if_neg (nI_ge ht (by decide)), if_pos (by rw [ci_nI (by omega)]; omega), nI_clamp (by omega)]
  apply cw_some.mpr
  refine ⟨?_, by omega, ?_⟩
  · rw [cd_wI_at, if_pos ⟨rfl, rfl⟩, cd_wI_at, if_neg (by omega), h.1]
    exact nI_1 t
  · intro i hi
    have e2 : ∀ j, (cd_wI (cd_wI M 17 t a) 2 1 ((cd_wI M 17 t a).1 2 1 + 1)).1 17 j = if j = t then a else M.1 17 j := by
      intro j
      rw [cd_wI_at, if_neg (by omega), cd_wI_at]
      by_cases q : j = t
      · rw [if_pos ⟨rfl, q⟩, if_pos q]
      · rw [if_neg (fun z => q z.2), if_neg q]
    rw [e2]
    unfold bput
    by_cases q : i < 4 * t
    · rw [if_pos q, if_neg (by omega)]
      exact h.2.2 i q
    · rw [if_neg q, if_pos (by omega)]
      have : i % 4 = i - 4 * t := by omega
      rw [this]
      exact ⟨by_lt _ _, cby_by a (by omega)⟩
def MT1 (N : cd_M) (T : Nat) (b : Nat → Nat) : Prop := N.1 15 2 = nI T ∧ ∀ i, i < T → N.1 57 i &&& 255 = nI (b i)
theorem puts_step {N : cd_M} {T n : Nat} {b : Nat → Nat} {a : Int32} {j : Nat} (h : MT1 N T b) (hT : T < 900) (hj : j < 4) (hb : b T = by_ a j) : ∃ N1, MT1 N1 (T + 1) b ∧ f11_puts_15_L3 (n + 1) a (nI (24 - 8 * j)) N = f11_puts_15_L3 n a (nI (24 - 8 * j) + (-8)) N1 := by
  refine ⟨cd_wI (cd_wI N 57 T (vp_nar .byte ((a >>> (nI (24 - 8 * j) &&& 31)).toInt8.toInt32))) 15 2 (nI (T + 1)), ⟨?_, ?_⟩, ?_⟩
  · rw [cd_wI_at, if_pos ⟨rfl, rfl⟩]
  · intro i hi
    rw [cd_wI_at, if_neg (by omega), cd_wI_at]
    by_cases q : i = T
    · rw [if_pos ⟨rfl, q⟩, q, hb]
      exact tby_ a hj
    · rw [if_neg (fun z => q z.2)]
      exact h.2 i (by omega)
  · rw [f11_puts_15_L3]
    dsimp only [cd_lt]
    rw [if_neg (nI_pos (by omega)), h.1, if_pos (by rw [ci_nI (by omega)]; omega), nI_clamp (by omega), cd_wI_at (k := 57), if_neg (by omega), h.1, nI_1]
theorem puts15 {N : cd_M} {t : Nat} {b : Nat → Nat} {a : Int32} (h : MT N t b) (ht : t < 225) : cw (f11_puts_15 a N) (fun N1 => MT N1 (t + 1) (bput b t a)) := by
  have h0 : MT1 N (4 * t) (bput b t a) := ⟨h.1, fun i hi => by unfold bput; rw [if_pos hi]; exact h.2 i hi⟩
  have hb : ∀ j, bput b t a (4 * t + j) = by_ a j := fun j => by unfold bput; rw [if_neg (by omega)]; congr 1; omega
  unfold f11_puts_15
  have ef : cd_fu = 19995 + 1 + 1 + 1 + 1 + 1 := rfl
  rw [ef]
  obtain ⟨N1, h1, k1⟩ := puts_step (n := 19995 + 1 + 1 + 1 + 1) (j := 0) h0 (by omega) (by decide) (hb 0)
  obtain ⟨N2, h2, k2⟩ := puts_step (n := 19995 + 1 + 1 + 1) (j := 1) h1 (by omega) (by decide) (hb 1)
  obtain ⟨N3, h3, k3⟩ := puts_step (n := 19995 + 1 + 1) (j := 2) h2 (by omega) (by decide) (hb 2)
  obtain ⟨N4, h4, k4⟩ := puts_step (n := 19995 + 1) (j := 3) h3 (by omega) (by decide) (hb 3)
  have z0 : (24 : Int32) = nI (24 - 8 * 0) := rfl
  have z1 : nI (24 - 8 * 0) + (-8) = nI (24 - 8 * 1) := by decide
  have z2 : nI (24 - 8 * 1) + (-8) = nI (24 - 8 * 2) := by decide
  have z3 : nI (24 - 8 * 2) + (-8) = nI (24 - 8 * 3) := by decide
  have z4 : nI (24 - 8 * 3) + (-8) < 0 := by decide
  rw [z0, k1, z1, k2, z2, k3, z3, k4]
  have k5 : f11_puts_15_L3 (19995 + 1) a (nI (24 - 8 * 3) + (-8)) N4 = some N4 := by rw [f11_puts_15_L3, if_pos z4]
  rw [k5]
  exact cw_some.mpr ⟨h4.1, fun i hi => h4.2 i (by omega)⟩
theorem feed_c {M : cd_M} {t : Nat} {b : Nat → Nat} (h : CT M t b) (ht : t + 5 ≤ 225) (a1 a2 a3 a4 a5 : Int32) : cw (f10_feed_0 a1 a2 a3 a4 a5 M) (fun r => r.1 = nI (4 * (t + 5)) ∧ CT r.2 (t + 5) (bput (bput (bput (bput (bput b t a1) (t + 1) a2) (t + 2) a3) (t + 3) a4) (t + 4) a5)) := by
  unfold f10_feed_0 f7_hasRoom_2
  have e : M.1 2 1 + 5 = nI (t + 5) := by rw [h.1, show (5 : Int32) = nI 5 from rfl, nI_add]
  rw [e, show (225 : Int32) = nI 225 from rfl, if_neg (nI_nlt (by omega) (by decide)), if_neg (by decide)]
  simp only [cw_bind]
  refine cw_mono (put2 h (by omega)) (fun M1 h1 => ?_)
  refine cw_mono (put2 h1 (by omega)) (fun M2 h2 => ?_)
  refine cw_mono (put2 h2 (by omega)) (fun M3 h3 => ?_)
  refine cw_mono (put2 h3 (by omega)) (fun M4 h4 => ?_)
  refine cw_mono (put2 h4 (by omega)) (fun M5 h5 => ?_)
  refine cw_some.mpr ⟨?_, h5⟩
  show f7_size_2 M5 = _
  unfold f7_size_2
  rw [h5.1]
  exact pk_mul 4 _
theorem feed_m {N : cd_M} {t : Nat} {b : Nat → Nat} (h : MT N t b) (ht : t + 5 ≤ 225) (a1 a2 a3 a4 a5 : Int32) : cw (f11_feed_15 a1 a2 a3 a4 a5 N) (fun r => r.1 = nI (4 * (t + 5)) ∧ MT r.2 (t + 5) (bput (bput (bput (bput (bput b t a1) (t + 1) a2) (t + 2) a3) (t + 3) a4) (t + 4) a5)) := by
  unfold f11_feed_15
  dsimp only [cd_lt]
  have h0 : MT (cd_wI N 15 0 0) t b := MT_c (by rw [cd_wI_at, if_neg (by decide)]) (fun i => by rw [cd_wI_at, if_neg (by omega)]) h
  have e : (cd_wI N 15 0 0).1 15 2 + 20 = nI (4 * t + 20) := by rw [h0.1, show (20 : Int32) = nI 20 from rfl, nI_add]
  rw [e, show (900 : Int32) = nI 900 from rfl, if_pos (nI_le (by omega) (by decide))]
  simp only [cw_bind]
  refine cw_mono (puts15 h0 (by omega)) (fun M1 h1 => ?_)
  refine cw_mono (puts15 h1 (by omega)) (fun M2 h2 => ?_)
  refine cw_mono (puts15 h2 (by omega)) (fun M3 h3 => ?_)
  refine cw_mono (puts15 h3 (by omega)) (fun M4 h4 => ?_)
  refine cw_mono (puts15 h4 (by omega)) (fun M5 h5 => ?_)
  exact cw_some.mpr ⟨h5.1, h5⟩
theorem o_feed : cl_o_feed Rel := by
  intro a1 a2 a3 a4 a5
  refine op2_ (w1 := f10_feed_0_w) (w2 := f11_feed_15_w) (by decide) (by decide) (fun M => w_f10_feed_0 (by decide) cf_refl) (fun M => w_f11_feed_15 (by decide) cf_refl) ?_
  intro M N h
  have h' := h
  obtain ⟨t, b, w, nf, fl, nc, fo, ln, nb, vl, n, sm, pa, u, x, hn, hs, hp, ⟨a01, a02⟩, ⟨b1, b2, b3⟩, ⟨c1, c2, c3⟩, ⟨d1, d2, d3⟩, ⟨e1, e2, e3⟩, f1, g1⟩ := h'
  by_cases ht : t + 5 ≤ 225
  · refine ⟨nI (4 * (t + 5)), ?_⟩
    refine cw_mono (cw_cp (feed_c a01 ht a1 a2 a3 a4 a5) (w_f10_feed_0 (ws := f10_feed_0_w) (by decide) cf_refl)) (fun r hr => ?_)
    obtain ⟨⟨hv, hT⟩, hf⟩ := hr
    refine ⟨hv, ?_⟩
    refine cw_mono (cw_cp (feed_m a02 ht a1 a2 a3 a4 a5) (w_f11_feed_15 (ws := f11_feed_15_w) (by decide) cf_refl)) (fun q hq => ?_)
    obtain ⟨⟨hv2, hT2⟩, hg⟩ := hq
    refine ⟨hv2, t + 5, _, w, nf, fl, nc, fo, ln, nb, vl, n, sm, pa, u, x, hn, hs, hp, ⟨hT, hT2⟩, ⟨?_, ?_, b3⟩, ⟨?_, ?_, c3⟩, ⟨?_, ?_, d3⟩, ⟨?_, ?_, e3⟩, ?_, ?_⟩
    · exact CF_f hf (by decide) b1
    · exact MF_f hg (by decide) b2
    · exact CR_f hf (by decide) c1
    · exact MR_f hg (by decide) c2
    · exact CL_f hf (by decide) d1
    · exact ML_f hg (by decide) d2
    · exact CH_f hf (by decide) e1
    · exact MH_f hg (by decide) e2
    · exact CM_f hf (by decide) f1
    · exact CX_f hf (by decide) g1
  · refine ⟨-1, ?_⟩
    have ht2 := a01.2.1
    unfold f10_feed_0 f7_hasRoom_2 f11_feed_15
    dsimp only [cd_lt]
    have e : M.1 2 1 + 5 = nI (t + 5) := by rw [a01.1, show (5 : Int32) = nI 5 from rfl, nI_add]
    have e' : (cd_wI N 15 0 0).1 15 2 + 20 = nI (4 * t + 20) := by rw [cd_wI_at, if_neg (by decide), a02.1, show (20 : Int32) = nI 20 from rfl, nI_add]
    rw [e, show (225 : Int32) = nI 225 from rfl, if_pos (nI_lt (by omega) (by omega)), if_pos rfl, e', show (900 : Int32) = nI 900 from rfl, if_neg (nI_ge (by omega) (by omega))]
    exact cw_some.mpr ⟨rfl, cw_some.mpr ⟨rfl, Rel2_t h⟩⟩
