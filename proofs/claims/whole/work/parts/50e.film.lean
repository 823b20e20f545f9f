/-! film -/
def DF (M N : cd_M) (w f : Nat) (df : Nat → Nat → Nat → Nat) : Prop := M.1 3 2 = nI w ∧ M.1 3 3 = nI f ∧ N.1 15 14 = nI w ∧ N.1 15 15 = nI f ∧ (∀ f', f' < f → M.2 18 f' = lN (rw_ (df f' 0) w) ∧ M.2 19 f' = lN (rw_ (df f' 1) w)) ∧ ∀ f' p k, f' < f → p < 2 → k < w → N.1 59 (6 * (2 * f' + p) + k) = nI (df f' p k) ∧ df f' p k ≤ 99
theorem DF_f {M N M1 N1 : cd_M} {w f : Nat} {df : Nat → Nat → Nat → Nat} {w1 w2 : List (Nat × Option Nat)} (h : DF M N w f df) (hf : cf_ w1 M M1) (hg : cf_ w2 N N1) (k : (!cf_cov w1 3 2 && !cf_cov w1 3 3 && na_ w1 18 && na_ w1 19 && !cf_cov w2 15 14 && !cf_cov w2 15 15 && na_ w2 59) = true) : DF M1 N1 w f df := by
  simp only [Bool.and_eq_true] at k
  obtain ⟨⟨⟨⟨⟨⟨k1, k2⟩, k3⟩, k4⟩, k5⟩, k6⟩, k7⟩ := k
  obtain ⟨h1, h2, h3, h4, h5, h6⟩ := h
  exact ⟨(hf _ _ (nf_cov k1)).1.trans h1, (hf _ _ (nf_cov k2)).1.trans h2, (hg _ _ (nf_cov k5)).1.trans h3, (hg _ _ (nf_cov k6)).1.trans h4, fun f' hf' => ⟨(hf _ _ (na_cov k3 f')).2.trans (h5 f' hf').1, (hf _ _ (na_cov k4 f')).2.trans (h5 f' hf').2⟩, fun f' p k a b c => ⟨(hg _ _ (na_cov k7 _)).1.trans (h6 f' p k a b c).1, (h6 f' p k a b c).2⟩⟩
theorem jt_id {o1 o2 : Option (Int32 × cd_M)} {Q : cd_M → cd_M → Prop} (h : jt_ o1 o2 Q) : jt_ (o1.bind (cd_u2 fun v M => some (v, M))) (o2.bind (cd_u2 fun v M => some (v, M))) Q := by
  have e : ∀ o : Option (Int32 × cd_M), (o.bind (cd_u2 fun v M => some (v, M))) = o := fun o => by cases o <;> rfl
  rw [e, e]
  exact h
theorem rw_00 {w : Nat} : rw_ (fun _ => 0) w = 0 := by
  induction w with
  | zero => rfl
  | succ w ih =>
    show rw_ (fun _ => 0) w + 0 * 128 ^ w = 0
    rw [ih, Nat.zero_mul]
theorem add3 {M : cd_M} {f : Nat} {a c : Int64} (hf : f < 20) (h : M.1 3 3 = nI f) : cw (f1_add_3 a c M) (fun M1 => (M1.1 3 3 = nI (f + 1) ∧ (∀ x, M1.2 18 x = if x = f then a else M.2 18 x) ∧ ∀ x, M1.2 19 x = if x = f then c else M.2 19 x) ∧ cf_ f1_add_3_w M M1) := by
  refine cw_cp ?_ (w_f1_add_3 (by decide) cf_refl)
  have cin : cd_in (nI f) 20 = true := by rw [ci_nI (by omega)]; omega
  unfold f1_add_3
  rw [h, show (20 : Int32) = nI 20 from rfl, if_neg (nI_ge hf (by omega)), if_neg (nI_ge hf (by omega)), if_pos cin, nI_clamp (by omega)]
  simp only [cd_lt_p]
  have e1 : (cd_wL M 18 f a).1 3 3 = nI f := h
  rw [e1, if_pos cin, nI_clamp (by omega)]
  have e2 : (cd_wL (cd_wL M 18 f a) 19 f c).1 3 3 + 1 = nI (f + 1) := by
    show M.1 3 3 + 1 = _
    rw [h, nI_1]
  rw [e2]
  refine cw_some.mpr ⟨by rw [cd_wI_at, if_pos ⟨rfl, rfl⟩], fun x => ?_, fun x => ?_⟩
  · show (cd_wL (cd_wL M 18 f a) 19 f c).2 18 x = _
    rw [cd_wL_at, if_neg (by omega), cd_wL_at]
    by_cases z : x = f
    · rw [if_pos ⟨rfl, z⟩, if_pos z]
    · rw [if_neg (fun y => z y.2), if_neg z]
  · show (cd_wL (cd_wL M 18 f a) 19 f c).2 19 x = _
    rw [cd_wL_at]
    by_cases z : x = f
    · rw [if_pos ⟨rfl, z⟩, if_pos z]
    · rw [if_neg (fun y => z y.2), if_neg z]; rfl
section fiA
variable {t : Nat} {b : Nat → Nat} {E w : Nat}
theorem fr_54 {f : Nat} {df : Nat → Nat → Nat → Nat} (hw1 : 1 ≤ w) (hw : w ≤ 6) (hf : f < 20) : ∀ (r fu gu j s : Nat) (s0 s1 : Nat → Nat) (M N : cd_M), j + r = 2 * w → r < fu → r < gu → JT M N t b E s → DF M N w f df → (∀ k, k < w → s0 k ≤ 99) → (∀ k, k < w → s1 k ≤ 99) → (∀ k, k < w → k < j → N.1 59 (6 * (2 * f) + k) = nI (s0 k)) → (∀ k, k < w → w + k < j → N.1 59 (6 * (2 * f + 1) + k) = nI (s1 k)) →
    jt_ (f8_readFrame_1_L54 fu (lN (rw_ s0 w)) (lN (rw_ s1 w)) (nI w) (nI j) M) (f11_frameHere_15_L42 gu (nI j) N) (fun M1 N1 => ∃ s2 df', JT M1 N1 t b E s2 ∧ DF M1 N1 w (f + 1) df') := by
  intro r
  have e2w : (2 : Int32) * nI w = nI (2 * w) := pk_mul 2 w
  induction r with
  | zero =>
    intro fu gu j s s0 s1 M N hj hfu hgu hJ hD b0 b1 n0 n1
    obtain ⟨fu, rfl⟩ := Nat.exists_eq_succ_of_ne_zero (show fu ≠ 0 by omega)
    obtain ⟨gu, rfl⟩ := Nat.exists_eq_succ_of_ne_zero (show gu ≠ 0 by omega)
    obtain ⟨d1, d2, d3, d4, d5, d6⟩ := hD
    rw [f8_readFrame_1_L54, f11_frameHere_15_L42, d3, e2w, if_pos (nI_le (by omega) (by omega)), if_pos (nI_le (by omega) (by omega)), d4, nI_1, cd_lt_p]
    obtain ⟨M9, a1, ⟨a2, a3, a4⟩, a5⟩ := add3 (a := lN (rw_ s0 w)) (c := lN (rw_ s1 w)) hf d2
    have f2 : cf_ [(15, some 15)] N (cd_wI N 15 15 (nI (f + 1))) := cf_wcI (by decide) cf_refl
    rw [a1, bind_p]
    refine jt_id (jt_mono (endJ (JT_f hJ a5 f2 (by decide))) (fun M1 N1 k => ?_))
    obtain ⟨s2, k1, k2, k3⟩ := k
    refine ⟨s2, (fun f' p => if f' = f then (if p = 0 then s0 else s1) else df f' p), k1, DF_f ⟨?_, a2, ?_, ?_, fun f' hf' => ?_, fun f' p k hf' hp hk => ?_⟩ k2 k3 (by decide)⟩
    · rw [(a5 3 2 (by decide)).1]; exact d1
    · rw [cd_wI_at, if_neg (by decide)]; exact d3
    · rw [cd_wI_at, if_pos ⟨rfl, rfl⟩]
    · dsimp only
      rw [a3, a4]
      by_cases z : f' = f
      · rw [if_pos z, if_pos z, if_pos z, if_pos z, if_pos rfl, if_neg (by decide)]; exact ⟨rfl, rfl⟩
      · rw [if_neg z, if_neg z, if_neg z, if_neg z]; exact d5 f' (by omega)
    · dsimp only
      rw [cd_wI_at, if_neg (by omega)]
      by_cases z : f' = f
      · rw [if_pos z, z]
        by_cases y : p = 0
        · rw [if_pos y, y]; exact ⟨n0 k hk (by omega), b0 k hk⟩
        · rw [if_neg y, show p = 1 by omega]; exact ⟨n1 k hk (by omega), b1 k hk⟩
      · rw [if_neg z]; exact d6 f' p k (by omega) hp hk
  | succ r ih =>
    intro fu gu j s s0 s1 M N hj hfu hgu hJ hD b0 b1 n0 n1
    obtain ⟨fu, rfl⟩ := Nat.exists_eq_succ_of_ne_zero (show fu ≠ 0 by omega)
    obtain ⟨gu, rfl⟩ := Nat.exists_eq_succ_of_ne_zero (show gu ≠ 0 by omega)
    have o0 : ∀ k, k < w → s0 k < 128 := fun k hk => by have := b0 k hk; omega
    have o1 : ∀ k, k < w → s1 k < 128 := fun k hk => by have := b1 k hk; omega
    rw [f8_readFrame_1_L54, f11_frameHere_15_L42, hD.2.2.1, e2w, if_neg (nI_ge (by omega) (by omega)), if_neg (nI_ge (by omega) (by omega))]
    refine jt_bind (numJ hJ (lo := 0) (hi := 99) (by decide) (by decide)) (fun M1 N1 k => ?_)
    obtain ⟨s', v, -, hv, kJ, kc, km, kf, kg⟩ := k
    have D1 := DF_f hD kf kg (by decide)
    obtain ⟨d1, d2, d3, d4, d5, d6⟩ := D1
    have n0' : ∀ k, k < w → k < j → N1.1 59 (6 * (2 * f) + k) = nI (s0 k) := fun k a c => ((kg 59 _ (na_cov (by decide) _)).1).trans (n0 k a c)
    have n1' : ∀ k, k < w → w + k < j → N1.1 59 (6 * (2 * f + 1) + k) = nI (s1 k) := fun k a c => ((kg 59 _ (na_cov (by decide) _)).1).trans (n1 k a c)
    rw [kc, km, d3, d4, if_neg (nI_ne0 (by omega) (by omega)), if_neg (nI_ne0 (by omega) (by omega)), pk_rem (by omega) (by omega) (by omega), pk_div (by omega) (by omega) (by omega), filmAt_n]
    unfold f8_readFrame_1_L112
    by_cases q : j < w
    · have ed : j / w = 0 := Nat.div_eq_of_lt q
      have em : j % w = j := Nat.mod_eq_of_lt q
      rw [if_neg (nI_ge q (by omega)), ed, em, if_pos (by rw [ci_nI (by omega)]; omega), nI_clamp (by omega), ws_of (by omega) (rw_lt63 o0 hw) (by omega), pd_rw o0 hw q (by omega)]
      simp only [cd_lt_p]
      rw [nI_1]
      have g : cf_ [(59, none)] N1 (cd_wI N1 59 (6 * (2 * f + 0) + j) (nI v)) := cf_wcI (cf_cov_iff.mpr (Or.inl (by simp))) cf_refl
      refine ih fu gu (j + 1) s' (fun x => if x = j then v else s0 x) s1 M1 _ (by omega) (by omega) (by omega) (JT_f kJ (w1 := []) cf_refl g (by decide)) ⟨d1, d2, ?_, ?_, d5, fun f' p k hf' hp hk => ?_⟩ (fun k hk => ?_) b1 (fun k hk hk2 => ?_) (fun k hk hk2 => by omega)
      · rw [cd_wI_at, if_neg (by omega)]; exact d3
      · rw [cd_wI_at, if_neg (by omega)]; exact d4
      · rw [cd_wI_at, if_neg (by omega)]; exact d6 f' p k hf' hp hk
      · split
        · exact hv
        · exact b0 k hk
      · rw [cd_wI_at]
        by_cases z : k = j
        · rw [if_pos ⟨rfl, by omega⟩, if_pos z]
        · rw [if_neg (by omega), if_neg z]; exact n0' k hk (by omega)
    · have ed : j / w = 1 := by
        have h1 : j = w * 1 + (j - w) := by omega
        rw [h1, Nat.mul_add_div (by omega), Nat.div_eq_of_lt (show j - w < w by omega)]
      have em : j % w = j - w := by
        rw [Nat.mod_eq_sub_mod (by omega), Nat.mod_eq_of_lt (by omega)]
      rw [if_pos (nI_le (by omega) (by omega)), ed, em, if_pos (by rw [ci_nI (by omega)]; omega), nI_clamp (by omega), pk_sub (by omega), ws_of (by omega) (rw_lt63 o1 hw) (by omega), pd_rw o1 hw (by omega) (by omega)]
      simp only [cd_lt_p]
      rw [nI_1]
      have g : cf_ [(59, none)] N1 (cd_wI N1 59 (6 * (2 * f + 1) + (j - w)) (nI v)) := cf_wcI (cf_cov_iff.mpr (Or.inl (by simp))) cf_refl
      refine ih fu gu (j + 1) s' s0 (fun x => if x = j - w then v else s1 x) M1 _ (by omega) (by omega) (by omega) (JT_f kJ (w1 := []) cf_refl g (by decide)) ⟨d1, d2, ?_, ?_, d5, fun f' p k hf' hp hk => ?_⟩ b0 (fun k hk => ?_) (fun k hk hk2 => ?_) (fun k hk hk2 => ?_)
      · rw [cd_wI_at, if_neg (by omega)]; exact d3
      · rw [cd_wI_at, if_neg (by omega)]; exact d4
      · rw [cd_wI_at, if_neg (by omega)]; exact d6 f' p k hf' hp hk
      · split
        · exact hv
        · exact b1 k hk
      · rw [cd_wI_at, if_neg (by omega)]; exact n0' k hk (by omega)
      · rw [cd_wI_at]
        by_cases z : k = j - w
        · rw [if_pos ⟨rfl, by omega⟩, if_pos z]
        · rw [if_neg (by omega), if_neg z]; exact n1' k hk (by omega)
theorem frameJ {f s : Nat} {df : Nat → Nat → Nat → Nat} {M N : cd_M} (hw1 : 1 ≤ w) (hw : w ≤ 6) (hf : f ≤ 20) (h : JT M N t b E s) (hD : DF M N w f df) : jt_ (f8_readFrame_1 (nI f) M) (f11_frameHere_15 N) (fun M1 N1 => f < 20 ∧ ∃ s2 df', JT M1 N1 t b E s2 ∧ DF M1 N1 w (f + 1) df') := by
  have h0 := h
  obtain ⟨h1, h2, h3, h4, h8⟩ := h
  unfold f8_readFrame_1 f11_frameHere_15 f11_isFrame_15
  rw [wc_frame h1 h3, wm_frame h2 h4, bind_p, bind_p, bind_p]
  by_cases q : wd_ b E s [102, 114, 97, 109, 101] = true
  · rw [if_pos q, if_neg (by decide), mT_p h8 (by decide), hD.2.2.2.1, show (20 : Int32) = nI 20 from rfl]
    unfold f11_frameHere_15_L27
    by_cases q2 : f < 20
    · obtain ⟨M1, N1, s1, a1, a2, a3, a4, a5⟩ := advJ' h0
      have D1 := DF_f hD a4 a5 (by decide)
      rw [if_pos (nI_lt q2 (by omega)), if_neg (nI_ge q2 (by omega)), mT_p h8 (by decide), a1, a2, bind_p, bind_p]
      unfold f1_width_3
      rw [cd_lt_p, D1.1]
      have K := fr_54 (t := t) (b := b) (E := E) hw1 hw q2 (2 * w) cd_fu cd_fu 0 s1 (fun _ => 0) (fun _ => 0) M1 N1 (by omega) (by unfold cd_fu; omega) (by unfold cd_fu; omega) a3 D1 (fun _ _ => by omega) (fun _ _ => by omega) (fun k _ z => absurd z (Nat.not_lt_zero k)) (fun k _ z => absurd z (Nat.not_lt_zero _))
      rw [rw_00] at K
      exact jt_mono K (fun M2 N2 k => ⟨q2, k⟩)
    · rw [if_neg (nI_nlt (by omega) (by omega)), if_pos (nI_le (by omega) (by omega)), show (4 : Int32) = nI 4 from rfl, mF_p h8 (by decide) (by decide), rp_]
      exact jt_no (refJ h3.1 h4.1)
  · rw [if_neg q, if_pos rfl, show (1 : Int32) = nI 1 from rfl, mF_p h8 (by decide) (by decide), rp_]
    exact jt_no (refJ h3.1 h4.1)
theorem rf_51 (hw1 : 1 ≤ w) (hw : w ≤ 6) : ∀ (r fu gu f s : Nat) (df : Nat → Nat → Nat → Nat) (M N : cd_M), f + r = 20 → r + 1 < fu → r + 1 < gu → 1 ≤ f → JT M N t b E s → DF M N w f df → jt_ (f8_readFilm_1_L51 fu (nI f) M) (f11_readsFilm_15_L66 gu N) (fun M1 N1 => ∃ f' df', DF M1 N1 w f' df' ∧ 1 ≤ f' ∧ f' ≤ 20) := by
  intro r
  induction r with
  | zero =>
    intro fu gu f s df M N hf hfu hgu h1 hJ hD
    obtain ⟨fu, rfl⟩ := Nat.exists_eq_succ_of_ne_zero (show fu ≠ 0 by omega)
    obtain ⟨gu, rfl⟩ := Nat.exists_eq_succ_of_ne_zero (show gu ≠ 0 by omega)
    have kl := tkk_le (b := b) (E := E) (s := s)
    rw [f8_readFilm_1_L51, f11_readsFilm_15_L66, show (20 : Int32) = nI 20 from rfl, if_neg (nI_nlt (by omega) (by omega)), if_neg (nI_nle (by omega) (by omega))]
    unfold f7_kind_2 f8_readFilm_1_L73
    rw [hJ.2.2.1.2.2.1, hJ.2.2.2.1.2.2.1]
    by_cases q : tkk_ b E s = 0
    · rw [if_pos (show nI (tkk_ b E s) = 0 by rw [q]; rfl), if_pos (show nI (tkk_ b E s) = 0 by rw [q]; rfl)]
      exact jt_ok ⟨f, df, hD, h1, by omega⟩
    · rw [if_neg (nI_ne0 (by omega) (by omega)), if_neg (nI_ne0 (by omega) (by omega))]
      exact jt_bind (frameJ hw1 hw (by omega) hJ hD) (fun M1 N1 k => by have := k.1; omega)
  | succ r ih =>
    intro fu gu f s df M N hf hfu hgu h1 hJ hD
    obtain ⟨fu, rfl⟩ := Nat.exists_eq_succ_of_ne_zero (show fu ≠ 0 by omega)
    obtain ⟨gu, rfl⟩ := Nat.exists_eq_succ_of_ne_zero (show gu ≠ 0 by omega)
    have kl := tkk_le (b := b) (E := E) (s := s)
    rw [f8_readFilm_1_L51, f11_readsFilm_15_L66, show (20 : Int32) = nI 20 from rfl, if_neg (nI_nlt (by omega) (by omega)), if_neg (nI_nle (by omega) (by omega))]
    unfold f7_kind_2 f8_readFilm_1_L73
    rw [hJ.2.2.1.2.2.1, hJ.2.2.2.1.2.2.1]
    by_cases q : tkk_ b E s = 0
    · rw [if_pos (show nI (tkk_ b E s) = 0 by rw [q]; rfl), if_pos (show nI (tkk_ b E s) = 0 by rw [q]; rfl)]
      exact jt_ok ⟨f, df, hD, h1, by omega⟩
    · rw [if_neg (nI_ne0 (by omega) (by omega)), if_neg (nI_ne0 (by omega) (by omega))]
      refine jt_bind (frameJ hw1 hw (by omega) hJ hD) (fun M1 N1 k => ?_)
      obtain ⟨-, s2, df', k1, k2⟩ := k
      simp only [cd_lt_p]
      rw [nI_1]
      exact ih fu gu (f + 1) s2 df' M1 N1 (by omega) (by omega) (by omega) (by omega) k1 k2
end fiA
theorem readFilmJ {t : Nat} {b : Nat → Nat} {E s : Nat} {M N : cd_M} (h : JT M N t b E s) (h15 : N.1 15 15 = nI 0) : jt_ ((f8_takeWord_1_1000 M).bind (cd_u2 fun v3 M2 => if v3 = 0 then (some (0, M2)) else ((f8_takeNumber_1 1 6 M2).bind (cd_u2 fun v7 M6 => if v7 = 0 then (some (0, M6)) else (cd_lt (f1_begin_3 (M6.1 1 4) M6) fun M10 => (f8_takeSemicolon_1 M10).bind (cd_u2 fun v12 M11 => if v12 = 0 then (some (0, M11)) else (f8_readFilm_1_L51 cd_fu 0 M11))))))) (f11_readsFilm_15 N) (fun M1 N1 => ∃ w f df, DF M1 N1 w f df ∧ 1 ≤ w ∧ w ≤ 6 ∧ 1 ≤ f ∧ f ≤ 20) := by
  have h0 := h
  obtain ⟨h1, h2, h3, h4, h8⟩ := h
  unfold f8_takeWord_1_1000 f11_readsFilm_15
  rw [wc_width h1 h3, wm_width h2 h4, bind_p, bind_p]
  by_cases q : wd_ b E s [119, 105, 100, 116, 104] = true
  · obtain ⟨M1, N1, s1, a1, a2, a3, a4, a5⟩ := advJ' h0
    rw [if_pos q, if_neg (by decide), mT_p h8 (by decide), a1, a2, bind_p, bind_p, bind_p, u2_p, if_neg (show ¬ (1 : Int32) = 0 by decide)]
    refine jt_bind (numJ a3 (lo := 1) (hi := 6) (by decide) (by decide)) (fun M2 N2 k => ?_)
    obtain ⟨s2, w, w1, w6, kJ, kc, km, kf, kg⟩ := k
    have h15' : N2.1 15 15 = nI 0 := ((kg 15 15 (by decide)).1).trans (((a5 15 15 (by decide)).1).trans h15)
    unfold f1_begin_3
    simp only [cd_lt_p]
    rw [kc, km]
    have g1 : cf_ [(3, some 2), (3, some 3)] M2 (cd_wI (cd_wI M2 3 2 (nI w)) 3 3 0) := cf_wcI (by decide) (cf_wcI (by decide) cf_refl)
    have g2 : cf_ [(15, some 14)] N2 (cd_wI N2 15 14 (nI w)) := cf_wcI (by decide) cf_refl
    have D : DF (cd_wI (cd_wI M2 3 2 (nI w)) 3 3 0) (cd_wI N2 15 14 (nI w)) w 0 (fun _ _ _ => 0) := ⟨by rw [cd_wI_at, if_neg (by decide), cd_wI_at, if_pos ⟨rfl, rfl⟩], by rw [cd_wI_at, if_pos ⟨rfl, rfl⟩]; rfl, by rw [cd_wI_at, if_pos ⟨rfl, rfl⟩], by rw [cd_wI_at, if_neg (by decide)]; exact h15', fun f' hf' => absurd hf' (Nat.not_lt_zero f'), fun f' p k hf' => absurd hf' (Nat.not_lt_zero f')⟩
    refine jt_bind (endJ (JT_f kJ g1 g2 (by decide))) (fun M3 N3 k => ?_)
    obtain ⟨s3, k1, k2, k3⟩ := k
    have D3 := DF_f D k2 k3 (by decide)
    rw [show f8_readFilm_1_L51 cd_fu 0 M3 = f8_readFilm_1_L51 (19999 + 1) (nI 0) M3 from rfl, f8_readFilm_1_L51, if_neg (by decide), if_pos (by decide)]
    unfold f8_readFilm_1_L73
    refine jt_bind (frameJ w1 w6 (by omega) k1 D3) (fun M4 N4 k => ?_)
    obtain ⟨-, s4, df', m1, m2⟩ := k
    simp only [cd_lt_p]
    rw [nI_1]
    refine jt_mono (rf_51 w1 w6 19 19999 cd_fu 1 s4 df' M4 N4 (by omega) (by omega) (by unfold cd_fu; omega) (by omega) m1 m2) (fun M5 N5 k => ?_)
    obtain ⟨f', df'', k1, k2, k3⟩ := k
    exact ⟨w, f', df'', k1, w1, w6, k2, k3⟩
  · rw [if_neg q, if_pos rfl, show (1 : Int32) = nI 1 from rfl, mF_p h8 (by decide) (by decide), rp_, bind_p, u2_p, if_pos rfl]
    exact jt_no (refJ h3.1 h4.1)
