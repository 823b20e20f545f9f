/-! film, as a whole -/
theorem add5 {M : cd_M} {f : Nat} {a c : Int64} (hf : f < 20) (h : M.1 5 3 = nI f) : cw (f1_add_5 a c M) (fun M1 => (M1.1 5 3 = nI (f + 1) ∧ (∀ x, M1.2 23 x = if x = f then a else M.2 23 x) ∧ ∀ x, M1.2 24 x = if x = f then c else M.2 24 x) ∧ cf_ f1_add_5_w M M1) := by
  refine cw_cp ?_ (w_f1_add_5 (by decide) cf_refl)
  have cin : cd_in (nI f) 20 = true := by rw [ci_nI (by omega)]; omega
  unfold f1_add_5
  rw [h, show (20 : Int32) = nI 20 from rfl, if_neg (nI_ge hf (by omega)), if_neg (nI_ge hf (by omega)), if_pos cin, nI_clamp (by omega)]
  simp only [cd_lt_p]
  have e1 : (cd_wL M 23 f a).1 5 3 = nI f := h
  rw [e1, if_pos cin, nI_clamp (by omega)]
  have e2 : (cd_wL (cd_wL M 23 f a) 24 f c).1 5 3 + 1 = nI (f + 1) := by
    show M.1 5 3 + 1 = _
    rw [h, nI_1]
  rw [e2]
  refine cw_some.mpr ⟨by rw [cd_wI_at, if_pos ⟨rfl, rfl⟩], fun x => ?_, fun x => ?_⟩
  · show (cd_wL (cd_wL M 23 f a) 24 f c).2 23 x = _
    rw [cd_wL_at, if_neg (by omega), cd_wL_at]
    by_cases z : x = f
    · rw [if_pos ⟨rfl, z⟩, if_pos z]
    · rw [if_neg (fun y => z y.2), if_neg z]
  · show (cd_wL (cd_wL M 23 f a) 24 f c).2 24 x = _
    rw [cd_wL_at]
    by_cases z : x = f
    · rw [if_pos ⟨rfl, z⟩, if_pos z]
    · rw [if_neg (fun y => z y.2), if_neg z]; rfl
section fcA
variable {w f : Nat} {df : Nat → Nat → Nat → Nat}
theorem cp_10 {M0 : cd_M} (hf : f ≤ 20) (h33 : M0.1 3 3 = nI f) (h18 : ∀ j, j < f → M0.2 18 j = lN (rw_ (df j 0) w) ∧ M0.2 19 j = lN (rw_ (df j 1) w)) : ∀ (r fu i : Nat) (M : cd_M), i + r = f → r < fu → cf_ f1_copyFrom_5_3_w M0 M → M.1 5 2 = nI w → M.1 5 3 = nI i → (∀ j, j < i → M.2 23 j = lN (rw_ (df j 0) w) ∧ M.2 24 j = lN (rw_ (df j 1) w)) → cw (f1_copyFrom_5_3_L10 fu (nI i) M) (fun M1 => CF M1 w f df) := by
  intro r
  induction r with
  | zero =>
    intro fu i M hi hfu hc h2 h3 hd
    obtain ⟨fu, rfl⟩ := Nat.exists_eq_succ_of_ne_zero (show fu ≠ 0 by omega)
    have ei : i = f := by omega
    rw [ei] at h3 hd
    rw [f1_copyFrom_5_3_L10, (hc 3 3 (by decide)).1, h33, if_pos (nI_le (by omega) (by omega))]
    exact cw_some.mpr ⟨h2, h3, hd⟩
  | succ r ih =>
    intro fu i M hi hfu hc h2 h3 hd
    obtain ⟨fu, rfl⟩ := Nat.exists_eq_succ_of_ne_zero (show fu ≠ 0 by omega)
    have e33 : M.1 3 3 = nI f := (hc 3 3 (by decide)).1.trans h33
    have cin : cd_in (nI i) 20 = true := by rw [ci_nI (by omega)]; omega
    have hs : ¬ f1_has_3 (nI i) M = 0 := fun z => by
      unfold f1_has_3 at z
      exact (has_iff e33 (by omega)).mp z ⟨i, by omega, rfl⟩
    have r0 : f1_row_3 (nI i) 0 M = some (lN (rw_ (df i 0) w)) := by
      unfold f1_row_3
      rw [if_neg hs, if_pos rfl, if_pos cin, nI_clamp (by omega), (hc 18 i (na_cov (by decide) i)).2, (h18 i (by omega)).1]
    have r1 : f1_row_3 (nI i) 1 M = some (lN (rw_ (df i 1) w)) := by
      unfold f1_row_3
      rw [if_neg hs, if_neg (by decide), if_pos cin, nI_clamp (by omega), (hc 19 i (na_cov (by decide) i)).2, (h18 i (by omega)).2]
    rw [f1_copyFrom_5_3_L10, e33, if_neg (nI_ge (by omega) (by omega)), r0, r1, bind_p, bind_p, cw_bind]
    refine cw_mono (add5 (by omega) h3) (fun M1 k => ?_)
    obtain ⟨⟨k1, k2, k3⟩, kf⟩ := k
    simp only [cd_lt_p]
    rw [nI_1]
    refine ih fu (i + 1) M1 (by omega) (by omega) (cf_trans hc (cf_le (by decide) kf)) ((kf 5 2 (by decide)).1.trans h2) k1 (fun j hj => ?_)
    rw [k2, k3]
    by_cases z : j = i
    · rw [if_pos z, if_pos z, z]; exact ⟨rfl, rfl⟩
    · rw [if_neg z, if_neg z]; exact hd j (by omega)
theorem copy53 {M : cd_M} (hf : f ≤ 20) (h32 : M.1 3 2 = nI w) (h33 : M.1 3 3 = nI f) (h18 : ∀ j, j < f → M.2 18 j = lN (rw_ (df j 0) w) ∧ M.2 19 j = lN (rw_ (df j 1) w)) : cw (f1_copyFrom_5_3 M) (fun M1 => CF M1 w f df ∧ cf_ f1_copyFrom_5_3_w M M1) := by
  refine cw_cp ?_ (w_f1_copyFrom_5_3 (by decide) cf_refl)
  unfold f1_copyFrom_5_3 f1_begin_5
  simp only [cd_lt_p]
  rw [h32]
  refine cp_10 hf h33 h18 f cd_fu 0 _ (by omega) (by unfold cd_fu; omega) (cf_wcI (by decide) (cf_wcI (by decide) cf_refl)) ?_ ?_ (fun j hj => absurd hj (Nat.not_lt_zero j))
  · rw [cd_wI_at, if_neg (by decide), cd_wI_at, if_pos ⟨rfl, rfl⟩]
  · rw [cd_wI_at, if_pos ⟨rfl, rfl⟩]; rfl
theorem fm_61 : ∀ (r fu k : Nat) (N : cd_M), k + r = 240 → r < fu → cw (f11_film_15_L61 fu (nI k) N) (fun v => (v.1 = N.1 15 12 ∧ v.2.1 15 24 = nI 0 ∧ v.2.1 15 26 = nI 0 ∧ (∀ i, v.2.1 58 i = if k ≤ i ∧ i < 240 then N.1 59 i else N.1 58 i)) ∧ cf_ [(58, none), (15, some 24), (15, some 26)] N v.2) := by
  intro r
  induction r with
  | zero =>
    intro fu k N hk hfu
    obtain ⟨fu, rfl⟩ := Nat.exists_eq_succ_of_ne_zero (show fu ≠ 0 by omega)
    rw [f11_film_15_L61, show (240 : Int32) = nI 240 from rfl, if_pos (nI_le (by omega) (by omega))]
    simp only [cd_lt_p]
    refine cw_some.mpr ⟨⟨?_, ?_, ?_, fun i => ?_⟩, cf_wcI (by decide) (cf_wcI (by decide) cf_refl)⟩
    · show (cd_wI (cd_wI N 15 24 0) 15 26 0).1 15 12 = _
      rw [cd_wI_at, if_neg (by decide), cd_wI_at, if_neg (by decide)]
    · show (cd_wI (cd_wI N 15 24 0) 15 26 0).1 15 24 = _
      rw [cd_wI_at, if_neg (by decide), cd_wI_at, if_pos ⟨rfl, rfl⟩]; rfl
    · show (cd_wI (cd_wI N 15 24 0) 15 26 0).1 15 26 = _
      rw [cd_wI_at, if_pos ⟨rfl, rfl⟩]; rfl
    · show (cd_wI (cd_wI N 15 24 0) 15 26 0).1 58 i = _
      rw [cd_wI_at, if_neg (by omega), cd_wI_at, if_neg (by omega), if_neg (by omega)]
  | succ r ih =>
    intro fu k N hk hfu
    obtain ⟨fu, rfl⟩ := Nat.exists_eq_succ_of_ne_zero (show fu ≠ 0 by omega)
    have cin : cd_in (nI k) 240 = true := by rw [ci_nI (by omega)]; omega
    rw [f11_film_15_L61, show (240 : Int32) = nI 240 from rfl, if_neg (nI_ge (by omega) (by omega)), if_pos cin, if_pos cin, nI_clamp (by omega)]
    simp only [cd_lt_p]
    rw [nI_1]
    refine cw_mono (ih fu (k + 1) (cd_wI N 58 k (N.1 59 k)) (by omega) (by omega)) (fun v h => ?_)
    obtain ⟨⟨h1, h2, h3, h4⟩, h5⟩ := h
    refine ⟨⟨?_, h2, h3, fun i => ?_⟩, cf_trans (cf_wcI (cf_cov_iff.mpr (Or.inl (by simp))) cf_refl) h5⟩
    · rw [h1, cd_wI_at, if_neg (by omega)]
    · rw [h4 i]
      by_cases z : i = k
      · rw [if_neg (by omega), if_pos (by omega), cd_wI_at, if_pos ⟨rfl, z⟩, z]
      · have e59 : (cd_wI N 58 k (N.1 59 k)).1 59 i = N.1 59 i := by rw [cd_wI_at, if_neg (by omega)]
        have e58 : (cd_wI N 58 k (N.1 59 k)).1 58 i = N.1 58 i := by rw [cd_wI_at, if_neg (by omega)]
        rw [e59, e58]
        by_cases y : k + 1 ≤ i ∧ i < 240
        · rw [if_pos y, if_pos (by omega)]
        · rw [if_neg y, if_neg (by omega)]
end fcA
theorem holds2 {M : cd_M} {t : Nat} (h : M.1 2 1 = nI t) (ht : t ≤ 225) {a : Int32} : f7_holds_2 a M = 0 ↔ ¬ (0 ≤ a ∧ a ≤ nI (4 * t)) := by
  have e4 : (4 : Int32) * M.1 2 1 = nI (4 * t) := by rw [h]; exact pk_mul 4 t
  unfold f7_holds_2 f7_size_2
  rw [e4]
  by_cases q : a < 0
  · rw [if_pos q]; exact ⟨fun _ z => absurd q (Int32.not_lt.mpr z.1), fun _ => rfl⟩
  · rw [if_neg q]
    by_cases q2 : nI (4 * t) < a
    · rw [if_pos q2]; exact ⟨fun _ z => absurd q2 (Int32.not_lt.mpr z.2), fun _ => rfl⟩
    · rw [if_neg q2]; exact ⟨fun z => absurd z (by decide), fun z => absurd ⟨Int32.not_lt.mp q, Int32.not_lt.mp q2⟩ z⟩
/-- the tape opened on both sides -/
theorem openJ {M N : cd_M} {t : Nat} {b : Nat → Nat} {E : Nat} (hc : CT M t b) (hm : MT N t b) (hE : E ≤ 4 * t) : ∃ M1 N1 s, f7_open_2 (nI E) M = some M1 ∧ f11_begins_15 (nI E) N = some N1 ∧ JT M1 N1 t b E s ∧ N1.1 15 2 = nI 0 ∧ cf_ f7_open_2_w M M1 ∧ cf_ f11_begins_15_w N N1 := by
  have ht := hc.2.1
  have hh : ¬ f7_holds_2 (nI E) M = 0 := fun z => (holds2 hc.1 ht).mp z ⟨nI_pos' (by omega), nI_le hE (by omega)⟩
  have p1 : PBc (cd_wI (cd_wI M 2 2 (nI E)) 2 3 0) t b E := ⟨CT_c (by rw [cd_wI_at, if_neg (by decide), cd_wI_at, if_neg (by decide)]) (fun i => by rw [cd_wI_at, if_neg (by omega), cd_wI_at, if_neg (by omega)]) hc, by rw [cd_wI_at, if_neg (by decide), cd_wI_at, if_pos ⟨rfl, rfl⟩], hE⟩
  obtain ⟨M1, a1, a2, a3⟩ := advC p1 (Nat.zero_le E) (by rw [cd_wI_at, if_pos ⟨rfl, rfl⟩]; rfl)
  have gN : ∀ x i, ¬ (x = 15 ∧ (i = 2 ∨ i = 3 ∨ i = 5 ∨ i = 8)) → (cd_wI (cd_wI (cd_wI (cd_wI N 15 2 0) 15 3 (nI E)) 15 5 0) 15 8 0).1 x i = N.1 x i := fun x i z => by rw [cd_wI_at, if_neg (by omega), cd_wI_at, if_neg (by omega), cd_wI_at, if_neg (by omega), cd_wI_at, if_neg (by omega)]
  have p2 : PBm (cd_wI (cd_wI (cd_wI (cd_wI N 15 2 0) 15 3 (nI E)) 15 5 0) 15 8 0) b E := ⟨by rw [cd_wI_at, if_neg (by decide), cd_wI_at, if_neg (by decide), cd_wI_at, if_pos ⟨rfl, rfl⟩], by omega, fun i hi => ⟨(hc.2.2 i (by omega)).1, by rw [gN _ _ (by omega)]; exact hm.2 i (by omega)⟩⟩
  obtain ⟨N1, c1, c2, c3⟩ := stepM p2 (Nat.zero_le E) (by rw [cd_wI_at, if_neg (by decide), cd_wI_at, if_pos ⟨rfl, rfl⟩]; rfl)
  have o1 : f7_open_2 (nI E) M = some M1 := by
    unfold f7_open_2 f7_open_2_L14
    rw [if_neg hh]
    simp only [cd_lt_p]
    rw [a1, bind_p]
  have o2 : f11_begins_15 (nI E) N = some N1 := by
    unfold f11_begins_15
    simp only [cd_lt_p]
    rw [c1, bind_p]
  refine ⟨M1, N1, nx_ (isB b) E 0, o1, o2, ⟨PBc_f p1 (a3 2 1 (by decide)).1 (a3 2 2 (by decide)).1 (fun i => (a3 17 i (na_cov (by decide) i)).1), ⟨(c3 15 3 (by decide)).1.trans p2.1, p2.2.1, fun i hi => ⟨(p2.2.2 i hi).1, by rw [(c3 57 i (na_cov (by decide) i)).1]; exact (p2.2.2 i hi).2⟩⟩, a2, c2, ?_⟩, ?_, w_f7_open_2 (ws := f7_open_2_w) (by decide) cf_refl _ o1, w_f11_begins_15 (ws := f11_begins_15_w) (by decide) cf_refl _ o2⟩
  · rw [(c3 15 8 (by decide)).1, cd_wI_at, if_pos ⟨rfl, rfl⟩]
  · rw [(c3 15 2 (by decide)).1, cd_wI_at, if_neg (by decide), cd_wI_at, if_neg (by decide), cd_wI_at, if_neg (by decide), cd_wI_at, if_pos ⟨rfl, rfl⟩]; rfl
theorem o_film : cl_o_film Rel := by
  intro a1
  refine op_path (w1 := f10_film_0_w) (w2 := f11_film_15_w) (by decide) (by decide) (fun M => w_f10_film_0 (by decide) cf_refl) (fun M => w_f11_film_15 (by decide) cf_refl) ?_
  intro M N h
  have h' := Rel2_t (v := 0) h
  unfold f10_film_0 f11_film_15
  rw [cd_lt_p (v := cd_wI N 15 0 0)]
  generalize cd_wI N 15 0 0 = N0 at h'
  have hk := h'
  obtain ⟨t, b, w, nf, fl, nc, fo, ln, nb, vl, n, sm, pa, u, x, hn, hs, hp, hT, hF, hR, hL, hH, hCM, hX⟩ := h'
  have ht := hT.1.2.1
  have wi : f11_within a1.toInt64 0 (N0.1 15 2).toInt64 N0 = 0 ↔ ¬ (0 ≤ a1 ∧ a1 ≤ nI (4 * t)) := by rw [hT.2.1]; exact wi_32 (b := 0)
  by_cases q : 0 ≤ a1 ∧ a1 ≤ nI (4 * t)
  · rw [if_neg (fun z => (holds2 hT.1.1 ht).mp z q), if_neg (fun z => wi.mp z q)]
    obtain ⟨E, hE31, rfl⟩ := nI_of (Int32.not_lt.mpr q.1)
    have hE : E ≤ 4 * t := (nI_leI hE31 (by omega)).mp q.2
    obtain ⟨M1, N1, s, o1, o2, hJ, h2, of1, of2⟩ := openJ hT.1 hT.2 hE
    have g2 : cf_ [(15, some 15)] N1 (cd_wI N1 15 15 0) := cf_wcI (by decide) cf_refl
    have J2 := JT_f hJ (w1 := []) cf_refl g2 (by decide)
    have RJ := readFilmJ J2 (by rw [cd_wI_at, if_pos ⟨rfl, rfl⟩]; rfl)
    rw [o2, bind_p, cd_lt_p]
    obtain ⟨M5, N5, hr⟩ := RJ
    have e1 : ∀ v, ((f8_takeWord_1_1000 M1).bind (cd_u2 fun v3 M2 => if v3 = 0 then (some (0, M2)) else ((f8_takeNumber_1 1 6 M2).bind (cd_u2 fun v7 M6 => if v7 = 0 then (some (0, M6)) else (cd_lt (f1_begin_3 (M6.1 1 4) M6) fun M10 => (f8_takeSemicolon_1 M10).bind (cd_u2 fun v12 M11 => if v12 = 0 then (some (0, M11)) else (f8_readFilm_1_L51 cd_fu 0 M11))))))) = some (v, M5) → f8_readFilm_1 (nI E) M = some (v, M5) := fun v e => by
      unfold f8_readFilm_1
      rw [o1, bind_p]
      exact e
    have fN : ∀ v, f11_readsFilm_15 (cd_wI N1 15 15 0) = some (v, N5) → cf_ (f11_readsFilm_15_w ++ f11_begins_15_w) N0 N5 := fun v e => by
      have z := w_f11_readsFilm_15 (ws := f11_readsFilm_15_w ++ f11_begins_15_w) (M0 := N0) (M := cd_wI N1 15 15 0) (by decide) (cf_wcI (by decide) (cf_le (by decide) of2)) _ e
      exact z
    have f2 : ∀ v, f11_readsFilm_15 (cd_wI N1 15 15 0) = some (v, N5) → N5.1 15 2 = nI 0 := fun v e => by
      have z := w_f11_readsFilm_15 (ws := f11_readsFilm_15_w) (M0 := cd_wI N1 15 15 0) (M := cd_wI N1 15 15 0) (by decide) cf_refl _ e
      exact (z 15 2 (by decide)).1.trans (by rw [cd_wI_at, if_neg (by decide)]; exact h2)
    rcases hr with ⟨r1, r2, w', f, df, D, w1, w6, f1, f20⟩ | ⟨r1, r2, fr⟩
    · have c1 := e1 _ r1
      have fM : cf_ f8_readFilm_1_w M M5 := w_f8_readFilm_1 (ws := f8_readFilm_1_w) (by decide) cf_refl _ c1
      have fN5 := fN _ r2
      have h25 := f2 _ r2
      rw [c1, r2, bind_p, bind_p, u2_p, u2_p, if_neg (show ¬ (1 : Int32) = 0 by decide)]
      unfold f7_empty_2 f4_empty_7 f3_empty_8 f1_size_5
      simp only [cd_lt_p]
      rw [if_neg (show ¬ (1 : Int32) = 0 by decide)]
      obtain ⟨d1, d2, d3, d4, d5, d6⟩ := D
      refine ⟨nI f, ?_⟩
      simp only [cw_bind]
      have gE : cf_ [(2, some 1)] M5 (cd_wI M5 2 1 0) := cf_wcI (by decide) cf_refl
      refine cw_mono (copy53 f20 (by rw [(gE 3 2 (by decide)).1]; exact d1) (by rw [(gE 3 3 (by decide)).1]; exact d2) (fun j hj => by rw [(gE 18 j (na_cov (by decide) j)).2, (gE 19 j (na_cov (by decide) j)).2]; exact d5 j hj)) (fun M7 k7 => ?_)
      obtain ⟨k7, kf7⟩ := k7
      have gA : cf_ [(7, some 1), (8, some 3)] M7 (cd_wI (cd_wI M7 7 1 0) 8 3 0) := cf_wcI (by decide) (cf_wcI (by decide) cf_refl)
      refine cw_mono (cw_cp forget0 (w_f10_forgetPaths_0 (ws := f10_forgetPaths_0_w) (by decide) cf_refl)) (fun M10 k10 => ?_)
      obtain ⟨k10, kf10⟩ := k10
      have fCF : CF M10 w' f df := CF_f kf10 (by decide) (CF_f gA (by decide) k7)
      refine cw_some.mpr ⟨fCF.2.1, ?_⟩
      have gB : cf_ [(15, some 11), (15, some 12)] N5 (cd_wI (cd_wI N5 15 11 (N5.1 15 14)) 15 12 ((cd_wI N5 15 11 (N5.1 15 14)).1 15 15)) := cf_wcI (by decide) (cf_wcI (by decide) cf_refl)
      have b11 : (cd_wI (cd_wI N5 15 11 (N5.1 15 14)) 15 12 ((cd_wI N5 15 11 (N5.1 15 14)).1 15 15)).1 15 11 = nI w' := by rw [cd_wI_at, if_neg (by decide), cd_wI_at, if_pos ⟨rfl, rfl⟩]; exact d3
      have b12 : (cd_wI (cd_wI N5 15 11 (N5.1 15 14)) 15 12 ((cd_wI N5 15 11 (N5.1 15 14)).1 15 15)).1 15 12 = nI f := by rw [cd_wI_at, if_pos ⟨rfl, rfl⟩, cd_wI_at, if_neg (by decide)]; exact d4
      refine cw_mono (fm_61 240 cd_fu 0 _ (by omega) (by unfold cd_fu; omega)) (fun r k => ?_)
      obtain ⟨⟨m1, m2, m3, m4⟩, mf⟩ := k
      refine ⟨m1.trans b12, ?_⟩
      have zN : cf_ ([(58, none), (15, some 24), (15, some 26), (15, some 11), (15, some 12)] ++ (f11_readsFilm_15_w ++ f11_begins_15_w)) N0 r.2 := cf_trans (cf_le (by decide) fN5) (cf_trans (cf_le (by decide) gB) (cf_le (by decide) mf))
      have zM : cf_ (f8_readFilm_1_w ++ [(2, some 1)] ++ f1_copyFrom_5_3_w ++ [(7, some 1), (8, some 3)] ++ f10_forgetPaths_0_w) M M10 := cf_trans (cf_le (by decide) fM) (cf_trans (cf_le (by decide) gE) (cf_trans (cf_le (by decide) kf7) (cf_trans (cf_le (by decide) gA) (cf_le (by decide) kf10))))
      refine ⟨0, b, w', f, df, nc, fo, ln, nb, vl, 0, sm, pa, 0, x, hn, hs, hp, ⟨⟨?_, by omega, fun i hi => absurd hi (Nat.not_lt_zero i)⟩, ⟨?_, fun i hi => absurd hi (Nat.not_lt_zero i)⟩⟩, ⟨fCF, ⟨?_, ?_, fun f' p k hf' hp' hk' => ?_⟩, w6, f20, fun f' p k hf' hp' hk' => (d6 f' p k hf' hp' hk').2⟩, ⟨CR_f zM (by decide) hR.1, MR_f zN (by decide) hR.2.1, hR.2.2⟩, ⟨⟨?_, fun i hi => absurd hi (Nat.not_lt_zero i)⟩, ⟨m2, fun i k hi => absurd hi (Nat.not_lt_zero i), fun i hi => absurd hi (Nat.not_lt_zero i)⟩, ⟨by omega, fun i k hi => absurd hi (Nat.not_lt_zero i), fun i hi => absurd hi (Nat.not_lt_zero i)⟩⟩, ⟨⟨?_, ?_, hH.1.2.2.1, fun j hj => absurd hj (Nat.not_lt_zero j)⟩, ⟨m3, fun j hj => absurd hj (Nat.not_lt_zero j)⟩, ⟨by omega, fun j hj => absurd hj (Nat.not_lt_zero j)⟩⟩, CM_clr k10 hR.2.2.2.1, Or.inl k10.1⟩
      · rw [(kf10 2 1 (by decide)).1, (gA 2 1 (by decide)).1, (kf7 2 1 (by decide)).1, cd_wI_at, if_pos ⟨rfl, rfl⟩]; rfl
      · rw [(mf 15 2 (by decide)).1, (gB 15 2 (by decide)).1]; exact h25
      · rw [(mf 15 11 (by decide)).1]; exact b11
      · rw [(mf 15 12 (by decide)).1]; exact b12
      · have hb : 6 * (2 * f' + p) + k < 240 := by omega
        rw [m4, if_pos ⟨Nat.zero_le _, hb⟩, (gB 59 _ (na_cov (by decide) _)).1]
        exact (d6 f' p k hf' hp' hk').1
      · rw [(kf10 7 1 (by decide)).1, cd_wI_at, if_neg (by decide), cd_wI_at, if_pos ⟨rfl, rfl⟩]; rfl
      · rw [(kf10 8 3 (by decide)).1, cd_wI_at, if_pos ⟨rfl, rfl⟩]; rfl
      · rw [(zM 8 2 (by decide)).1]; exact hH.1.2.1
    · have c1 := e1 _ r1
      have fM : cf_ f8_readFilm_1_w M M5 := w_f8_readFilm_1 (ws := f8_readFilm_1_w) (by decide) cf_refl _ c1
      have fN5 := fN _ r2
      have h25 := f2 _ r2
      obtain ⟨y, k, y1, y2, y3⟩ := fr
      rw [c1, r2, bind_p, bind_p, u2_p, u2_p, if_pos (show (0 : Int32) = 0 from rfl)]
      unfold f7_empty_2 f8_fault_1 f11_told_15
      simp only [cd_lt_p]
      rw [if_pos trivial]
      have gE : cf_ [(2, some 1)] M5 (cd_wI M5 2 1 0) := cf_wcI (by decide) cf_refl
      refine ⟨-2 - nI (8 * y + k), cw_some.mpr ⟨?_, cw_some.mpr ⟨?_, ?_⟩⟩⟩
      · show -2 - (cd_wI M5 2 1 0).1 1 3 = _
        rw [(gE 1 3 (by decide)).1, y1]
      · show -2 - (8 * N5.1 15 9 + N5.1 15 8) = _
        rw [y2, y3, show (8 : Int32) = nI 8 from rfl, pk_mul, nI_add]
      · have zM : cf_ (f8_readFilm_1_w ++ [(2, some 1)]) M (cd_wI M5 2 1 0) := cf_trans (cf_le (by decide) fM) (cf_le (by decide) gE)
        refine ⟨0, b, w, nf, fl, nc, fo, ln, nb, vl, n, sm, pa, u, x, hn, hs, hp, ⟨⟨by rw [cd_wI_at, if_pos ⟨rfl, rfl⟩]; rfl, by omega, fun i hi => absurd hi (Nat.not_lt_zero i)⟩, ⟨h25, fun i hi => absurd hi (Nat.not_lt_zero i)⟩⟩, ⟨CF_f zM (by decide) hF.1, MF_f fN5 (by decide) hF.2.1, hF.2.2⟩, ⟨CR_f zM (by decide) hR.1, MR_f fN5 (by decide) hR.2.1, hR.2.2⟩, ⟨CL_f zM (by decide) hL.1, ML_f fN5 (by decide) hL.2.1, hL.2.2⟩, ⟨CH_f zM (by decide) hH.1, MH_f fN5 (by decide) hH.2.1, hH.2.2⟩, CM_f zM (by decide) hCM, CX_f zM (by decide) hX⟩
  · rw [if_pos ((holds2 hT.1.1 ht).mpr q), if_pos (wi.mpr q)]
    exact ⟨_, cw_some.mpr ⟨rfl, cw_some.mpr ⟨rfl, hk⟩⟩⟩
