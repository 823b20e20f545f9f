/-! undo; set; what acts leave -/
section unA
variable {M N : cd_M} {w n u x : Nat} {sm : Nat → Nat → Nat} {pa : Nat → Nat} {hn : Nat → Nat} {hs : Nat → Nat → Nat → Nat} {hp : Nat → Nat → Nat}
theorem give_L27 {y : Nat} (hH3 : M.1 8 3 = nI (u + 1)) (hu : u < 12) (hy : y < 12) (h30 : M.1 30 y = nI (hn u)) (h29 : ∀ i, i < hn u → M.2 29 (90 * y + i) = lN (fd_ (hs u i) w (hp u i))) (hb : hn u ≤ 90) : cw (f3_giveBack_8_7_L27 (nI y) M) (fun M1 => CL M1 w (hn u) (hs u) (hp u) ∧ M1.1 8 3 = nI u ∧ M1.1 8 2 = nI y) := by
  unfold f3_giveBack_8_7_L27
  dsimp only [cd_lt]
  have e1 : (cd_wI M 8 2 (nI y)).1 8 3 - 1 = nI u := by rw [cd_wI_at, if_neg (by decide), hH3, nI_pred]
  have e2 : (cd_wI (cd_wI M 8 2 (nI y)) 8 3 (nI u)).1 8 2 = nI y := by rw [cd_wI_at, if_neg (by decide), cd_wI_at, if_pos (by decide)]
  have e3 : (cd_wI (cd_wI M 8 2 (nI y)) 8 3 (nI u)).1 30 y = nI (hn u) := by rw [cd_wI_at, if_neg (by omega), cd_wI_at, if_neg (by omega), h30]
  rw [e1, e2, if_pos (by rw [ci_nI (by omega)]; omega), nI_clamp (by omega), e3]
  generalize hM2 : cd_wI (cd_wI M 8 2 (nI y)) 8 3 (nI u) = M2 at *
  have e4 : (cd_wI M2 7 1 (nI (hn u))).1 8 2 = nI y := by rw [cd_wI_at, if_neg (by decide), e2]
  have e5 : (cd_wI M2 7 1 (nI (hn u))).1 7 1 = nI (hn u) := by rw [cd_wI_at, if_pos (by decide)]
  have e90 : nI y * 90 = nI (90 * y) := by rw [show (90 : Int32) = nI 90 from rfl, pk_mul, Nat.mul_comm]
  rw [e4, e5, e90, if_pos (show cd_cpOK (nI (90 * y)) 0 (nI (hn u)) 1080 90 from cpOK (dp := 0) (by omega) (by omega) (by omega) (by omega)), show Int32.toNatClampNeg 0 = 0 from rfl, nI_clamp (by omega), nI_clamp (by omega)]
  refine cw_some.mpr ⟨⟨?_, fun i hi => ?_⟩, ?_, ?_⟩
  · exact e5
  · rw [cd_cL_at, if_pos (by omega), Nat.sub_zero]
    show M2.2 29 (90 * y + i) = _
    rw [← hM2]
    exact h29 i hi
  · show (cd_wI M2 7 1 (nI (hn u))).1 8 3 = nI u
    rw [cd_wI_at, if_neg (by decide), ← hM2, cd_wI_at, if_pos (by decide)]
  · exact e4
theorem undo_c (hH : CH M w (u + 1) x hn hs hp) (hB : BH w (u + 1) hn hs hp) : cw (f10_undo_0 M) (fun r => (r.1 = nI u ∧ CL r.2 w (hn u) (hs u) (hp u) ∧ CH r.2 w u ((x + 11) % 12) hn hs hp ∧ clr_ r.2) ∧ cf_ f10_undo_0_w M r.2) := by
  refine cw_cp ?_ (w_f10_undo_0 (by decide) cf_refl)
  have hu := hB.1
  have hx := hH.2.2.1
  unfold f10_undo_0 f3_size_8 f3_giveBack_8_7
  rw [hH.1, if_neg (nI_ne0 (by omega) (by omega)), if_neg (nI_ne0 (by omega) (by omega)), hH.2.1]
  simp only [cw_bind, cw_some]
  have hs0 := hH.2.2.2 u (by omega)
  have ey : (x + 12 - (u + 1) + u) % 12 = (x + 11) % 12 := by omega
  rw [ey] at hs0
  have G := give_L27 (M := M) (w := w) (u := u) (y := (x + 11) % 12) (hn := hn) (hs := hs) (hp := hp) hH.1 (by omega) (by omega) hs0.1 hs0.2 (hB.2 u (by omega)).1
  have G2 : cw (if nI x ≤ 0 then f3_giveBack_8_7_L27 11 M else f3_giveBack_8_7_L27 (nI x - 1) M) (fun M1 => (CL M1 w (hn u) (hs u) (hp u) ∧ M1.1 8 3 = nI u ∧ M1.1 8 2 = nI ((x + 11) % 12)) ∧ cf_ f3_giveBack_8_7_L27_w M M1) := by
    by_cases q : x = 0
    · subst q
      rw [if_pos (by decide)]
      exact cw_cp G (w_f3_giveBack_8_7_L27 (by decide) cf_refl)
    · rw [if_neg (nI_nle (by omega) (by omega))]
      have e : nI x - 1 = nI ((x + 11) % 12) := by
        obtain ⟨m, rfl⟩ := Nat.exists_eq_succ_of_ne_zero q
        rw [show nI (Nat.succ m) = nI (m + 1) from rfl, nI_pred]
        congr 1
        omega
      rw [e]
      exact cw_cp G (w_f3_giveBack_8_7_L27 (by decide) cf_refl)
  refine cw_mono G2 (fun M1 h1 => ?_)
  obtain ⟨⟨k1, k2, k3⟩, kf⟩ := h1
  refine cw_mono (cw_cp forget0 (w_f10_forgetPaths_0 (ws := f10_forgetPaths_0_w) (by decide) cf_refl)) (fun M2 h2 => ?_)
  have hf := h2.2
  refine ⟨(hf 8 3 (by decide)).1.trans k2, CL_f hf (by decide) k1, ?_, h2.1⟩
  refine CH_f hf (by decide) ⟨k2, k3, by omega, fun j hj => ?_⟩
  have z := hH.2.2.2 j (by omega)
  have ej : ((x + 11) % 12 + 12 - u + j) % 12 = (x + 12 - (u + 1) + j) % 12 := by omega
  rw [ej, (kf 30 _ (na_cov (by decide) _)).1]
  refine ⟨z.1, fun i hi => ?_⟩
  rw [(kf 29 _ (na_cov (by decide) _)).2]
  exact z.2 i hi
theorem undo_L39 (hu : u < 12) : ∀ (f k : Nat) (N : cd_M), k ≤ 630 → 630 - k < f → N.1 15 26 = nI u → cw (f11_undo_15_L39 f (nI k) N) (fun r => r.1 = nI u ∧ ∀ i, r.2.1 64 i = if k ≤ i ∧ i < 630 then N.1 66 (630 * u + i) else N.1 64 i)
  | 0, k, N, hk, hf, h => by omega
  | f + 1, k, N, hk, hf, h => by
    rw [f11_undo_15_L39]
    dsimp only [cd_lt]
    rw [show (630 : Int32) = nI 630 from rfl, h, pk_mul, nI_add]
    by_cases q : 630 ≤ k
    · rw [if_pos (nI_le q (by omega))]
      exact cw_some.mpr ⟨rfl, fun i => by rw [if_neg (by omega)]⟩
    · rw [if_neg (nI_ge (by omega) (by omega)), if_pos (by rw [ci_nI (by omega)]; omega), if_pos (by rw [ci_nI (by omega)]; omega), nI_clamp (by omega), nI_clamp (by omega), nI_1]
      refine cw_mono (undo_L39 hu f (k + 1) _ (by omega) (by omega) (by rw [cd_wI_at, if_neg (by omega)]; exact h)) (fun r h1 => ⟨h1.1, fun i => ?_⟩)
      rw [h1.2 i]
      have e66 : ∀ j, (cd_wI N 64 k (N.1 66 (630 * u + k))).1 66 j = N.1 66 j := fun j => by rw [cd_wI_at, if_neg (by omega)]
      rw [e66, cd_wI_at]
      by_cases z : k + 1 ≤ i ∧ i < 630
      · rw [if_pos z, if_pos (by omega)]
      · rw [if_neg z]
        by_cases y : i = k
        · rw [if_pos ⟨rfl, y⟩, if_pos (by omega), y]
        · rw [if_neg (fun v => y v.2), if_neg (by omega)]
theorem undo_m (hw : w ≤ 6) (hH : MH N w (u + 1) hn hs hp) (hB : BH w (u + 1) hn hs hp) : cw (f11_undo_15 N) (fun r => (r.1 = nI u ∧ ML r.2 w (hn u) (hs u) (hp u) ∧ MH r.2 w u hn hs hp) ∧ cf_ f11_undo_15_w N r.2) := by
  refine cw_cp ?_ (w_f11_undo_15 (by decide) cf_refl)
  have hu := hB.1
  unfold f11_undo_15
  dsimp only [cd_lt]
  have e0 : (cd_wI N 15 0 0).1 15 26 = nI (u + 1) := by rw [cd_wI_at, if_neg (by decide), hH.1]
  rw [e0, if_neg (nI_ne0 (by omega) (by omega)), nI_pred]
  generalize hN0 : cd_wI N 15 0 0 = N0 at *
  have g0 : ∀ x i, ¬ (x = 15 ∧ i = 0) → N0.1 x i = N.1 x i := fun x i z => by rw [← hN0, cd_wI_at, if_neg z]
  have e1 : (cd_wI N0 15 26 (nI u)).1 15 26 = nI u := by rw [cd_wI_at, if_pos (by decide)]
  have z := hH.2 u (by omega)
  have hb := hB.2 u (by omega)
  have hb9 := hb.1
  have e2 : (cd_wI N0 15 26 (nI u)).1 65 u = nI (hn u) := by rw [cd_wI_at, if_neg (by omega), g0 _ _ (by omega), z.1]
  rw [e1, if_pos (by rw [ci_nI (by omega)]; omega), nI_clamp (by omega), e2]
  refine cw_mono (cw_cp (undo_L39 (u := u) (by omega) cd_fu 0 _ (by omega) (by unfold cd_fu; omega) (by rw [cd_wI_at, if_neg (by decide)]; exact e1)) (w_f11_undo_15_L39 (ws := f11_undo_15_L39_w) (by decide) _ _ _ cf_refl)) (fun r h1 => ?_)
  obtain ⟨⟨k1, k2⟩, kf⟩ := h1
  have g1 : ∀ x i, x ≠ 15 → (cd_wI (cd_wI N0 15 26 (nI u)) 15 24 (nI (hn u))).1 x i = N.1 x i := fun x i z => by rw [cd_wI_at, if_neg (by omega), cd_wI_at, if_neg (by omega), g0 _ _ (by omega)]
  have k3 : ∀ i, i < 630 → r.2.1 64 i = N.1 66 (630 * u + i) := fun i hi => by rw [k2 i, if_pos (by omega), g1 _ _ (by omega)]
  refine ⟨k1, ⟨?_, fun i k hi hk => ?_, fun i hi => ?_⟩, ?_, fun j hj => ?_⟩
  · rw [(kf 15 24 (by decide)).1, cd_wI_at, if_pos (by decide)]
  · rw [k3 _ (by omega)]; exact (z.2 i hi).1 k hk
  · rw [k3 _ (by omega)]; exact (z.2 i hi).2
  · rw [(kf 15 26 (by decide)).1, cd_wI_at, if_neg (by decide)]; exact e1
  · have y := hH.2 j (by omega)
    rw [(kf 65 _ (na_cov (by decide) _)).1, g1 _ _ (by omega)]
    refine ⟨y.1, fun i hi => ⟨fun k hk => ?_, ?_⟩⟩
    · rw [(kf 66 _ (na_cov (by decide) _)).1, g1 _ _ (by omega)]; exact (y.2 i hi).1 k hk
    · rw [(kf 66 _ (na_cov (by decide) _)).1, g1 _ _ (by omega)]; exact (y.2 i hi).2
end unA
theorem CM_clr {M : cd_M} {w nc n : Nat} {ln : Nat → Nat} {nb : Nat → Nat → Nat} {vl : Nat → Nat} {sm : Nat → Nat → Nat} {pa : Nat → Nat} (h : clr_ M) (hc : nc ≤ 4) : CM M w nc ln nb vl n sm pa := fun c hcn => Or.inl (h.2 c (by omega))
theorem o_undo : cl_o_undo Rel := by
  refine op2_ (w1 := f10_undo_0_w) (w2 := f11_undo_15_w) (by decide) (by decide) (fun M => w_f10_undo_0 (by decide) cf_refl) (fun M => w_f11_undo_15 (by decide) cf_refl) ?_
  intro M N h
  have h' := h
  obtain ⟨t, b, w, nf, fl, nc, fo, ln, nb, vl, n, sm, pa, u, x, hn, hs, hp, ⟨a01, a02⟩, ⟨b1, b2, b3⟩, ⟨c1, c2, c3⟩, ⟨d1, d2, d3⟩, ⟨e1, e2, e3⟩, f1, g1⟩ := h'
  cases u with
  | zero =>
    refine ⟨-1, ?_⟩
    unfold f10_undo_0 f3_size_8 f11_undo_15
    dsimp only [cd_lt]
    have z : (cd_wI N 15 0 0).1 15 26 = nI 0 := by rw [cd_wI_at, if_neg (by decide), e2.1]
    rw [e1.1, if_pos (show nI 0 = 0 from rfl), z, if_pos (show nI 0 = 0 from rfl)]
    exact cw_some.mpr ⟨rfl, cw_some.mpr ⟨rfl, Rel2_t h⟩⟩
  | succ u =>
    refine ⟨nI u, ?_⟩
    refine cw_mono (undo_c e1 e3) (fun r hr => ?_)
    obtain ⟨⟨hv, k1, k2, k3⟩, hf⟩ := hr
    refine ⟨hv, ?_⟩
    refine cw_mono (undo_m b3.1 e2 e3) (fun q hq => ?_)
    obtain ⟨⟨hv2, m1, m2⟩, hg⟩ := hq
    refine ⟨hv2, t, b, w, nf, fl, nc, fo, ln, nb, vl, hn u, hs u, hp u, u, _, hn, hs, hp, ⟨?_, ?_⟩, ⟨?_, ?_, b3⟩, ⟨?_, ?_, c3⟩, ⟨k1, m1, e3.2 u (by omega)⟩, ⟨k2, m2, ?_⟩, ?_, Or.inl k3.1⟩
    · exact CT_f hf (by decide) a01
    · exact MT_f hg (by decide) a02
    · exact CF_f hf (by decide) b1
    · exact MF_f hg (by decide) b2
    · exact CR_f hf (by decide) c1
    · exact MR_f hg (by decide) c2
    · exact ⟨by have := e3.1; omega, fun j hj => e3.2 j (by omega)⟩
    · exact CM_clr k3 c3.2.1
