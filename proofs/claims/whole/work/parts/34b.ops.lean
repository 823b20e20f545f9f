/-! cadence, frame, force -/
section opB
variable {M N : cd_M} {nc fo : Nat} {ln : Nat → Nat} {nb : Nat → Nat → Nat} {vl : Nat → Nat} {w nf : Nat} {fl : Nat → Nat → Nat → Nat}
theorem hasC6 (h : CR M nc fo ln nb vl) (hb : BR nc fo ln nb vl) (a : Int32) : f5_hasCadence_6 a M = 0 ↔ ¬ inr_ a nc := by
  unfold f5_hasCadence_6
  exact has_iff h.1 (by have := hb.2.1; omega)
theorem hasC6' (h : CR M nc fo ln nb vl) (hb : BR nc fo ln nb vl) {c : Nat} (hc : c < nc) : ¬ f5_hasCadence_6 (nI c) M = 0 := fun q => (hasC6 h hb _).mp q ⟨c, hc, rfl⟩
theorem length6 (h : CR M nc fo ln nb vl) (hb : BR nc fo ln nb vl) {c : Nat} (hc : c < nc) : f5_length_6 (nI c) M = some (nI (ln c)) := by
  unfold f5_length_6
  have h4 := hb.2.1
  rw [if_neg (hasC6' h hb hc), if_pos (by rw [ci_nI (by omega)]; omega), nI_clamp (by omega), h.2.2.1 c hc]
theorem hasP6 (h : CR M nc fo ln nb vl) (hb : BR nc fo ln nb vl) {c : Nat} (hc : c < nc) {a : Int32} (ha : inr_ a (ln c)) : f5_hasPlace_6 (nI c) a M = some 1 := by
  have h6 := (hb.2.2.2.1 c hc).2
  obtain ⟨j, hj, rfl⟩ := ha
  unfold f5_hasPlace_6
  rw [if_neg (nI_pos (by omega)), length6 h hb hc]
  show (if nI (ln c) ≤ nI j then some (0 : Int32) else some 1) = some 1
  rw [if_neg (nI_ge hj (by omega))]
theorem hasP6n (h : CR M nc fo ln nb vl) (hb : BR nc fo ln nb vl) {c : Nat} (hc : c < nc) {a : Int32} (ha : ¬ inr_ a (ln c)) : f5_hasPlace_6 (nI c) a M = some 0 := by
  have h6 := (hb.2.2.2.1 c hc).2
  unfold f5_hasPlace_6
  by_cases h0 : a < 0
  · rw [if_pos h0]
  · rw [if_neg h0, length6 h hb hc]
    show (if nI (ln c) ≤ a then some (0 : Int32) else some 1) = some 0
    rw [if_pos]
    rcases pk_ix a (n := ln c) (by omega) with q | q | q
    · exact absurd q h0
    · exact q
    · exact absurd q ha
theorem number6 (h : CR M nc fo ln nb vl) (hb : BR nc fo ln nb vl) {c i : Nat} (hc : c < nc) (hi : i < ln c) : f5_number_6 (nI c) (nI i) M = some (nI (nb c i)) := by
  have h6 := (hb.2.2.2.1 c hc).2
  have h4 := hb.2.1
  unfold f5_number_6
  rw [hasP6 h hb hc ⟨i, hi, rfl⟩]
  simp only [Option.bind_some]
  have e : nI c * 6 + nI i = nI (6 * c + i) := by
    rw [show (6 : Int32) = nI 6 from rfl, pk_mul, nI_add, Nat.mul_comm]
  rw [if_neg (by decide), e, if_pos (by rw [ci_nI (by omega)]; omega), nI_clamp (by omega), h.2.2.2.1 c i hc hi]
theorem isPar {a : Int32} : f10_isParity a M = 0 ↔ ¬ inr_ a 2 := by
  unfold f10_isParity
  by_cases h0 : a = 0
  · rw [if_pos h0]
    exact ⟨fun q => absurd q (by decide), fun q => absurd ⟨0, by decide, h0⟩ q⟩
  · rw [if_neg h0]
    by_cases h1 : a = 1
    · rw [if_pos h1]
      exact ⟨fun q => absurd q (by decide), fun q => absurd ⟨1, by decide, h1⟩ q⟩
    · rw [if_neg h1]
      refine ⟨fun _ q => ?_, fun _ => rfl⟩
      obtain ⟨j, hj, hq⟩ := q
      have : j = 0 ∨ j = 1 := by omega
      rcases this with rfl | rfl
      · exact h0 hq
      · exact h1 hq
theorem isSmp (h : CF M w nf fl) (hb : BF w nf fl) {a : Int32} : f10_isSampleNumber_0 a M = 0 ↔ ¬ inr_ a w := by
  unfold f10_isSampleNumber_0 f1_width_5
  exact has_iff h.1 (by have := hb.1; omega)
theorem hasF5 (h : CF M w nf fl) (hb : BF w nf fl) {a : Int32} : f1_has_5 a M = 0 ↔ ¬ inr_ a nf := by
  unfold f1_has_5
  exact has_iff h.2.1 (by have := hb.2.1; omega)
theorem row5 (h : CF M w nf fl) (hb : BF w nf fl) {f p : Nat} (hf : f < nf) (hp : p < 2) : f1_row_5 (nI f) (nI p) M = some (lN (rw_ (fl f p) w)) := by
  have h2 := hb.2.1
  unfold f1_row_5
  have hp2 : p = 0 ∨ p = 1 := by omega
  rw [if_neg (fun q => (hasF5 h hb).mp q ⟨f, hf, rfl⟩)]
  rcases hp2 with rfl | rfl
  · rw [if_pos (show nI 0 = 0 from rfl), if_pos (by rw [ci_nI (by omega)]; omega), nI_clamp (by omega), (h.2.2 f hf).1]
  · rw [if_neg (by decide), if_pos (by rw [ci_nI (by omega)]; omega), nI_clamp (by omega), (h.2.2 f hf).2]
theorem row5_ok (hb : BF w nf fl) {f p : Nat} (hf : f < nf) (hp : p < 2) : ∀ k, k < w → fl f p k < 128 := fun k hk => by have := hb.2.2 f p k hf hp hk; omega
end opB
theorem o_cadence : cl_o_cadence Rel := by
  intro a1 a2
  refine op1_ (w2 := f11_cadence_15_w) (by decide) (fun M => w_f11_cadence_15 (by decide) cf_refl) ?_
  intro M N h
  have h' := Rel2_t (v := 0) h
  unfold f10_cadence_0 f11_cadence_15
  dsimp only [cd_lt]
  generalize cd_wI N 15 0 0 = N0 at h'
  have hk := h'
  obtain ⟨t, b, w, nf, fl, nc, fo, ln, nb, vl, n, sm, pa, u, x, hn, hs, hp, -, -, ⟨c1, c2, c3⟩, -⟩ := h'
  have h4 := c3.2.1
  have hm : f11_isCadence_15 a1 N0 = 0 ↔ ¬ inr_ a1 nc := by
    unfold f11_isCadence_15
    rw [c2.1]
    exact wi_in (by omega)
  by_cases hc : inr_ a1 nc
  · rw [if_neg (fun q => (hasC6 c1 c3 a1).mp q hc), if_neg (fun q => hm.mp q hc)]
    obtain ⟨c, hc, rfl⟩ := hc
    have h6 := (c3.2.2.2.1 c hc).2
    by_cases q : a2 = -1
    · rw [if_pos q, if_pos q, length6 c1 c3 hc, if_pos (by rw [ci_nI (by omega)]; omega), nI_clamp (by omega), c2.2.2.1 c hc]
      exact ⟨_, rfl, cw_some.mpr ⟨rfl, hk⟩⟩
    · rw [if_neg q, if_neg q, if_pos (by rw [ci_nI (by omega)]; omega), nI_clamp (by omega), c2.2.2.1 c hc]
      by_cases hi : inr_ a2 (ln c)
      · rw [hasP6 c1 c3 hc hi, if_neg (fun z => (wi_in (by omega)).mp z hi)]
        obtain ⟨i, hi, rfl⟩ := hi
        have e : (6 : Int32) * nI c + nI i = nI (6 * c + i) := by rw [show (6 : Int32) = nI 6 from rfl, pk_mul, nI_add]
        rw [number6 c1 c3 hc hi, e, if_pos (by rw [ci_nI (by omega)]; omega), nI_clamp (by omega), c2.2.2.2.1 c i hc hi]
        exact ⟨_, rfl, cw_some.mpr ⟨rfl, hk⟩⟩
      · rw [hasP6n c1 c3 hc hi, if_pos ((wi_in (by omega)).mpr hi)]
        exact ⟨_, rfl, cw_some.mpr ⟨rfl, hk⟩⟩
  · rw [if_pos ((hasC6 c1 c3 a1).mpr hc), if_pos (hm.mpr hc)]
    exact ⟨_, rfl, cw_some.mpr ⟨rfl, hk⟩⟩
theorem o_frame : cl_o_frame Rel := by
  intro a1 a2 a3
  refine op1_ (w2 := f11_frame_15_w) (by decide) (fun M => w_f11_frame_15 (by decide) cf_refl) ?_
  intro M N h
  have h' := Rel2_t (v := 0) h
  unfold f10_frame_0 f10_sampleOfFrame_0_5 f11_frame_15
  dsimp only [cd_lt]
  generalize cd_wI N 15 0 0 = N0 at h'
  have hk := h'
  obtain ⟨t, b, w, nf, fl, nc, fo, ln, nb, vl, n, sm, pa, u, x, hn, hs, hp, -, ⟨b1, b2, b3⟩, -⟩ := h'
  have hw := b3.1
  have hnf := b3.2.1
  have no : ∃ v, (some (-1 : Int32)).bind (fun v1 => some v1) = some v ∧ cw (some ((-1 : Int32), N0)) (fun q => q.1 = v ∧ Rel2 M q.2) := ⟨_, rfl, cw_some.mpr ⟨rfl, hk⟩⟩
  rw [b2.1, b2.2.1]
  by_cases hf : inr_ a1 nf
  · rw [if_neg (fun q => (hasF5 b1 b3).mp q hf), if_neg (fun q => (wi_in (by omega)).mp q hf)]
    have e1 : (1 : Int64) = (nI 2 - 1).toInt64 := rfl
    by_cases hp : inr_ a2 2
    · rw [if_neg (fun q => isPar.mp q hp), e1, if_neg (fun q => (wi_in (by omega)).mp q hp)]
      by_cases hs : inr_ a3 w
      · rw [if_neg (fun q => (isSmp b1 b3).mp q hs), if_neg (fun q => (wi_in (by omega)).mp q hs)]
        obtain ⟨f, hf, rfl⟩ := hf
        obtain ⟨p, hp, rfl⟩ := hp
        obtain ⟨k, hs, rfl⟩ := hs
        rw [row5 b1 b3 hf hp]
        have e : f11_filmAt (nI f) (nI p) (nI k) N0 = nI (6 * (2 * f + p) + k) := by
          unfold f11_filmAt
          rw [show (6 : Int32) = nI 6 from rfl, show (2 : Int32) = nI 2 from rfl, pk_mul, nI_add, pk_mul, nI_add]
        rw [e, if_pos (by rw [ci_nI (by omega)]; omega), nI_clamp (by omega), b2.2.2 f p k hf hp hs]
        have ok := row5_ok b3 hf hp
        refine ⟨nI (fl f p k), ?_, cw_some.mpr ⟨rfl, hk⟩⟩
        show some (f10_sampleOf (lN (rw_ (fl f p) w)) (nI k) M) = _
        rw [sm_of (rw_lt63 ok hw) (by omega), dg_rw ok hs]
      · rw [if_pos ((isSmp b1 b3).mpr hs), if_pos ((wi_in (by omega)).mpr hs)]
        exact no
    · rw [if_pos (isPar.mpr hp), e1, if_pos ((wi_in (by omega)).mpr hp)]
      exact no
  · rw [if_pos ((hasF5 b1 b3).mpr hf), if_pos ((wi_in (by omega)).mpr hf)]
    exact no
theorem o_force : cl_o_force Rel := by
  intro a1
  have H := op2_ (o1 := fun M => some (f10_force_0 a1 M)) (o2 := fun M => some (f11_force_15 a1 M)) (w1 := f10_force_0_w) (w2 := f11_force_15_w) (by decide) (by decide) (fun M => cp_some (w_f10_force_0 (by decide) cf_refl)) (fun M => cp_some (w_f11_force_15 (by decide) cf_refl)) ?_
  · intro M h
    obtain ⟨v, M1, M2, h1, h2, h3⟩ := H M h
    exact ⟨v, M1, M2, Option.some.inj h1, Option.some.inj h2, h3⟩
  intro M N h
  have h' := Rel2_t (v := 0) h
  unfold f10_force_0 f11_force_15
  dsimp only [cd_lt]
  generalize cd_wI N 15 0 0 = N0 at h'
  have hk := h'
  obtain ⟨t, b, w, nf, fl, nc, fo, ln, nb, vl, n, sm, pa, u, x, hn, hs, hp, ⟨a01, a02⟩, ⟨b1, b2, b3⟩, ⟨c1, c2, c3⟩, ⟨d1, d2, d3⟩, ⟨e1, e2, e3⟩, f1, g1⟩ := h'
  have h4 := c3.2.1
  have hm : f11_isCadence_15 a1 N0 = 0 ↔ ¬ inr_ a1 nc := by
    unfold f11_isCadence_15
    rw [c2.1]
    exact wi_in (by omega)
  by_cases hc : inr_ a1 nc
  · rw [if_neg (fun q => (hasC6 c1 c3 a1).mp q hc), if_neg (fun q => hm.mp q hc)]
    obtain ⟨c, hc, rfl⟩ := hc
    refine ⟨nI fo, cw_some.mpr ⟨c1.2.1, cw_some.mpr ⟨c2.2.1, ?_⟩⟩⟩
    have e : ∀ x i, ¬ (x = 0 ∧ (i = 10 ∨ i = 11)) → (cd_wI (cd_wI M 0 10 (nI c)) 0 11 0).1 x i = M.1 x i := fun x i h => by rw [cd_wI_at, if_neg (by omega), cd_wI_at, if_neg (by omega)]
    have eM : ∀ x i, ¬ (x = 15 ∧ i = 23) → (cd_wI N0 15 23 (nI c)).1 x i = N0.1 x i := fun x i h => by rw [cd_wI_at, if_neg h]
    refine ⟨t, b, w, nf, fl, nc, c, ln, nb, vl, n, sm, pa, u, x, hn, hs, hp, ⟨?_, ?_⟩, ⟨?_, ?_, b3⟩, ⟨⟨?_, ?_, ?_, ?_, ?_⟩, ⟨?_, ?_, ?_, ?_, ?_⟩, c3.1, c3.2.1, hc, c3.2.2.2⟩, ⟨?_, ?_, d3⟩, ⟨?_, ?_, e3⟩, ?_, ?_⟩
    · exact CT_c (e _ _ (by decide)) (fun i => e _ _ (by omega)) a01
    · exact MT_c (eM _ _ (by decide)) (fun i => eM _ _ (by omega)) a02
    · exact CF_c (e _ _ (by decide)) (e _ _ (by decide)) (fun i => rfl) (fun i => rfl) b1
    · exact MF_c (eM _ _ (by decide)) (eM _ _ (by decide)) (fun i => eM _ _ (by omega)) b2
    · rw [e _ _ (by decide)]; exact c1.1
    · rw [cd_wI_at, if_neg (by decide), cd_wI_at, if_pos (by decide)]
    · intro c hc; rw [e _ _ (by omega)]; exact c1.2.2.1 c hc
    · intro c i hc hi; rw [e _ _ (by omega)]; exact c1.2.2.2.1 c i hc hi
    · intro c hc; rw [e _ _ (by omega)]; exact c1.2.2.2.2 c hc
    · rw [eM _ _ (by decide)]; exact c2.1
    · rw [cd_wI_at, if_pos (by decide)]
    · intro c hc; rw [eM _ _ (by omega)]; exact c2.2.2.1 c hc
    · intro c i hc hi; rw [eM _ _ (by omega)]; exact c2.2.2.2.1 c i hc hi
    · intro c hc; rw [eM _ _ (by omega)]; exact c2.2.2.2.2 c hc
    · exact CL_c (e _ _ (by decide)) (fun i => rfl) d1
    · exact ML_c (eM _ _ (by decide)) (fun i => eM _ _ (by omega)) d2
    · exact CH_c (e _ _ (by decide)) (e _ _ (by decide)) (fun i => e _ _ (by omega)) (fun i => rfl) e1
    · exact MH_c (eM _ _ (by decide)) (fun i => eM _ _ (by omega)) (fun i => eM _ _ (by omega)) e2
    · exact CM_c (fun i => e _ _ (by omega)) (fun i => e _ _ (by omega)) (fun i => e _ _ (by omega)) (fun i => e _ _ (by omega)) f1
    · exact Or.inl (by rw [cd_wI_at, if_pos (by decide)])
  · rw [if_pos ((hasC6 c1 c3 a1).mpr hc), if_pos (hm.mpr hc)]
    exact ⟨_, cw_some.mpr ⟨rfl, cw_some.mpr ⟨rfl, hk⟩⟩⟩
