/-! cut and doubled -/
def spn_ (n : Nat) (a1 a2 : Int32) : Prop := ∃ a c, a1 = nI a ∧ a2 = nI c ∧ 1 ≤ c ∧ a + c ≤ n
theorem spn_iff {n : Nat} (hn : n ≤ 90) {a1 a2 : Int32} : spn_ n a1 a2 ↔ (inr_ a1 n ∧ ¬ a2 < 1 ∧ ¬ nI n - a1 < a2) := by
  constructor
  · rintro ⟨a, c, rfl, rfl, h1, h2⟩
    refine ⟨⟨a, by omega, rfl⟩, nI_nlt (b := 1) (by omega) (by omega), ?_⟩
    rw [pk_sub (by omega)]
    exact nI_nlt (by omega) (by omega)
  · rintro ⟨⟨a, ha, rfl⟩, h1, h2⟩
    have h0 : ¬ a2 < 0 := by
      intro q
      apply h1
      rw [Int32.lt_iff_toInt_lt] at q ⊢
      have : (0 : Int32).toInt = 0 := rfl
      have : (1 : Int32).toInt = 1 := rfl
      omega
    obtain ⟨c, hc, rfl⟩ := nI_of h0
    rw [pk_sub (by omega)] at h2
    have h3 : ¬ c < 1 := fun q => h1 ((nI_ltI hc (by decide)).mpr q)
    have h4 : ¬ n - a < c := fun q => h2 ((nI_ltI (by omega) hc).mpr q)
    exact ⟨a, c, rfl, rfl, by omega, by omega⟩
section cuA
variable {M N : cd_M} {w n : Nat} {sm : Nat → Nat → Nat} {pa : Nat → Nat}
theorem span7 (h : CL M w n sm pa) (hb : BL w n sm pa) {a1 a2 : Int32} : f4_hasSpan_7 a1 a2 M = 0 ↔ ¬ spn_ n a1 a2 := by
  rw [spn_iff hb.1]
  unfold f4_hasSpan_7
  rw [h.1]
  by_cases q : inr_ a1 n
  · rw [if_neg (fun z => (has7 h hb).mp z q)]
    by_cases q2 : a2 < 1
    · rw [if_pos q2]
      exact ⟨fun _ z => z.2.1 q2, fun _ => rfl⟩
    · rw [if_neg q2]
      by_cases q3 : nI n - a1 < a2
      · rw [if_pos q3]
        exact ⟨fun _ z => z.2.2 q3, fun _ => rfl⟩
      · rw [if_neg q3]
        exact ⟨fun z => absurd z (by decide), fun z => absurd ⟨q, q2, q3⟩ z⟩
  · rw [if_pos ((has7 h hb).mpr q)]
    exact ⟨fun _ z => q z.1, fun _ => rfl⟩
theorem there15 (h : ML N w n sm pa) (hb : BL w n sm pa) {a1 a2 : Int32} : f11_areThere_15 a1 a2 N = 0 ↔ ¬ spn_ n a1 a2 := by
  have h9 := hb.1
  rw [spn_iff hb.1]
  unfold f11_areThere_15
  rw [h.1]
  by_cases q2 : a2 < 1
  · rw [if_pos q2]
    exact ⟨fun _ z => z.2.1 q2, fun _ => rfl⟩
  · rw [if_neg q2]
    by_cases q : inr_ a1 n
    · rw [if_neg (fun z => (wi_in (by omega)).mp z q)]
      by_cases q3 : nI n - a1 < a2
      · rw [if_pos q3]
        exact ⟨fun _ z => z.2.2 q3, fun _ => rfl⟩
      · rw [if_neg q3]
        exact ⟨fun z => absurd z (by decide), fun z => absurd ⟨q, q2, q3⟩ z⟩
    · rw [if_pos ((wi_in (by omega)).mpr q)]
      exact ⟨fun _ z => q z.1, fun _ => rfl⟩
theorem cut_c (h : CL M w n sm pa) (hb : BL w n sm pa) {a c : Nat} (hc : 1 ≤ c) (hac : a + c ≤ n) : cw (f4_removeSpan_7 (nI a) (nI c) M) (fun M1 => CL M1 w (n - c) (fun i => if i < a then sm i else sm (i + c)) (fun i => if i < a then pa i else pa (i + c))) := by
  have h9 := hb.1
  unfold f4_removeSpan_7
  dsimp only [cd_lt]
  rw [if_neg (fun q => (span7 h hb).mp q ⟨a, c, rfl, rfl, hc, hac⟩), h.1, nI_add, pk_sub (by omega), pk_sub (by omega), if_pos (cpOK (by omega) (by omega) (by omega) (by omega)), nI_clamp (by omega), nI_clamp (by omega), nI_clamp (by omega)]
  refine cw_some.mpr ⟨?_, fun i hi => ?_⟩
  · rw [cd_wI_at, if_pos ⟨rfl, rfl⟩]
    show M.1 7 1 - nI c = _
    rw [h.1, pk_sub (by omega)]
  · show (cd_cL M 28 28 (a + c) a (n - a - c)).2 28 i = _
    rw [cd_cL_at]
    dsimp only
    by_cases q : i < a
    · rw [if_neg (by omega), if_pos q, if_pos q]
      exact h.2 i (by omega)
    · rw [if_pos (by omega), if_neg q, if_neg q, show a + c + (i - a) = i + c by omega]
      exact h.2 (i + c) (by omega)
theorem dbl_c (h : CL M w n sm pa) (hb : BL w n sm pa) {a c : Nat} (hc : 1 ≤ c) (hac : a + c ≤ n) (h90 : n + c ≤ 90) : cw (f4_repeatSpan_7 (nI a) (nI c) M) (fun M1 => CL M1 w (n + c) (fun i => if i < a + c then sm i else sm (i - c)) (fun i => if i < a + c then pa i else pa (i - c))) := by
  have h9 := hb.1
  unfold f4_repeatSpan_7
  dsimp only [cd_lt]
  rw [if_neg (fun q => (span7 h hb).mp q ⟨a, c, rfl, rfl, hc, hac⟩), h.1, show (90 : Int32) - nI n = nI (90 - n) from pk_sub (a := 90) h9, if_neg (nI_nlt (by omega) (by omega)), nI_add, pk_sub (by omega), if_pos (cpOK (by omega) (by omega) (by omega) (by omega)), nI_clamp (by omega), nI_clamp (by omega), nI_clamp (by omega)]
  refine cw_some.mpr ⟨?_, fun i hi => ?_⟩
  · rw [cd_wI_at, if_pos ⟨rfl, rfl⟩]
    show M.1 7 1 + nI c = _
    rw [h.1, nI_add]
  · show (cd_cL M 28 28 a (a + c) (n - a)).2 28 i = _
    rw [cd_cL_at]
    dsimp only
    by_cases q : i < a + c
    · rw [if_neg (by omega), if_pos q, if_pos q]
      exact h.2 i (by omega)
    · rw [if_pos (by omega), if_neg q, if_neg q, show a + (i - (a + c)) = i - c by omega]
      exact h.2 (i - c) (by omega)
/-- one field over another -/
theorem copies_L (o t : Nat) (ho : o < 90) (ht : t < 90) (hne : o ≠ t) : ∀ (f k : Nat) (N : cd_M), k ≤ 7 → 7 - k < f → cw (f11_copiesField_15_L2 f (nI o) (nI t) (nI k) N) (fun N1 => ∀ i, N1.1 64 i = if 7 * t + k ≤ i ∧ i < 7 * t + 7 then N.1 64 (i - 7 * t + 7 * o) else N.1 64 i)
  | 0, k, N, hk, hf => by omega
  | f + 1, k, N, hk, hf => by
    rw [f11_copiesField_15_L2]
    dsimp only [cd_lt]
    rw [show (7 : Int32) = nI 7 from rfl, pk_mul, pk_mul, nI_add, nI_add]
    by_cases q : 7 ≤ k
    · rw [if_pos (nI_le q (by omega))]
      exact cw_some.mpr (fun i => by rw [if_neg (by omega)])
    · rw [if_neg (nI_ge (by omega) (by omega)), if_pos (by rw [ci_nI (by omega)]; omega), if_pos (by rw [ci_nI (by omega)]; omega), nI_clamp (by omega), nI_clamp (by omega), nI_1]
      refine cw_mono (copies_L o t ho ht hne f (k + 1) _ (by omega) (by omega)) (fun N1 h1 i => ?_)
      rw [h1 i]
      have z : ∀ i, (cd_wI N 64 (7 * t + k) (N.1 64 (7 * o + k))).1 64 i = if i = 7 * t + k then N.1 64 (7 * o + k) else N.1 64 i := by
        intro i
        rw [cd_wI_at]
        by_cases y : i = 7 * t + k
        · rw [if_pos ⟨rfl, y⟩, if_pos y]
        · rw [if_neg (fun v => y v.2), if_neg y]
      rw [z, z]
      by_cases y : i = 7 * t + k
      · rw [if_neg (by omega), if_pos y, if_pos (by omega), y, show 7 * t + k - 7 * t + 7 * o = 7 * o + k by omega]
      · by_cases x : 7 * t + (k + 1) ≤ i ∧ i < 7 * t + 7
        · rw [if_pos x, if_neg (by omega), if_pos (by omega)]
        · rw [if_neg x, if_neg y, if_neg (by omega)]
theorem copies15 (o t : Nat) (ho : o < 90) (ht : t < 90) (hne : o ≠ t) (N : cd_M) : cw (f11_copiesField_15 (nI o) (nI t) N) (fun N1 => (∀ i, N1.1 64 i = if 7 * t ≤ i ∧ i < 7 * t + 7 then N.1 64 (i - 7 * t + 7 * o) else N.1 64 i) ∧ cf_ [(64, none)] N N1) := by
  refine cw_mono (cw_cp (copies_L o t ho ht hne cd_fu 0 N (by omega) (by unfold cd_fu; omega)) (w_f11_copiesField_15_L2 (ws := [(64, none)]) (by decide) _ _ _ _ _ cf_refl)) (fun N1 h => ⟨fun i => ?_, h.2⟩)
  rw [h.1 i, Nat.add_zero]
theorem cut_L (c : Nat) (hc : 1 ≤ c) (hn : n ≤ 90) : ∀ (f k : Nat) (N : cd_M), k + c ≤ n → n - k < f → N.1 15 24 = nI n → cw (f11_cut_15_L22 f (nI c) (nI k) N) (fun r => r.1 = nI (n - c) ∧ r.2.1 15 24 = nI (n - c) ∧ ∀ i, r.2.1 64 i = if 7 * k ≤ i ∧ i < 7 * (n - c) then N.1 64 (i + 7 * c) else N.1 64 i)
  | 0, k, N, hk, hf, h => by omega
  | f + 1, k, N, hk, hf, h => by
    rw [f11_cut_15_L22]
    dsimp only [cd_lt]
    rw [h, nI_add]
    by_cases q : n ≤ k + c
    · rw [if_pos (nI_le q (by omega)), pk_sub (by omega)]
      refine cw_some.mpr ⟨?_, ?_, fun i => ?_⟩
      · show (cd_wI N 15 24 (nI (n - c))).1 15 24 = _
        rw [cd_wI_at, if_pos (by decide)]
      · show (cd_wI N 15 24 (nI (n - c))).1 15 24 = _
        rw [cd_wI_at, if_pos (by decide)]
      · show (cd_wI N 15 24 (nI (n - c))).1 64 i = _
        rw [cd_wI_at, if_neg (by omega), if_neg (by omega)]
    · rw [if_neg (nI_ge (by omega) (by omega)), nI_1]
      simp only [cw_bind]
      refine cw_mono (copies15 (k + c) k (by omega) (by omega) (by omega) N) (fun N1 h1 => ?_)
      obtain ⟨h1, f1⟩ := h1
      refine cw_mono (cut_L c hc hn f (k + 1) N1 (by omega) (by omega) ((f1 15 24 (by decide)).1.trans h)) (fun r h2 => ⟨h2.1, h2.2.1, fun i => ?_⟩)
      rw [h2.2.2 i, h1, h1]
      by_cases x : 7 * (k + 1) ≤ i ∧ i < 7 * (n - c)
      · rw [if_pos x, if_neg (by omega), if_pos (by omega)]
      · rw [if_neg x]
        by_cases y : 7 * k ≤ i ∧ i < 7 * k + 7
        · rw [if_pos y, if_pos (by omega), show i - 7 * k + 7 * (k + c) = i + 7 * c by omega]
        · rw [if_neg y, if_neg (by omega)]
theorem dbl_L61 (a c : Nat) (hc : 1 ≤ c) (hac : a + c ≤ n) (hn : n + c ≤ 90) : ∀ (f k : Nat) (N : cd_M), a ≤ k → k ≤ a + c → a + c - k < f → N.1 15 24 = nI n → cw (f11_doubled_15_L61 f (nI a) (nI c) (nI k) N) (fun r => r.1 = nI (n + c) ∧ r.2.1 15 24 = nI (n + c) ∧ ∀ i, r.2.1 64 i = if 7 * (k + c) ≤ i ∧ i < 7 * (a + 2 * c) then N.1 64 (i - 7 * c) else N.1 64 i)
  | 0, k, N, ha, hk, hf, h => by omega
  | f + 1, k, N, ha, hk, hf, h => by
    rw [f11_doubled_15_L61]
    dsimp only [cd_lt]
    rw [h, nI_add, nI_add, nI_add]
    by_cases q : a + c ≤ k
    · rw [if_pos (nI_le q (by omega))]
      refine cw_some.mpr ⟨?_, ?_, fun i => ?_⟩
      · show (cd_wI N 15 24 (nI (n + c))).1 15 24 = _
        rw [cd_wI_at, if_pos (by decide)]
      · show (cd_wI N 15 24 (nI (n + c))).1 15 24 = _
        rw [cd_wI_at, if_pos (by decide)]
      · show (cd_wI N 15 24 (nI (n + c))).1 64 i = _
        rw [cd_wI_at, if_neg (by omega), if_neg (by omega)]
    · rw [if_neg (nI_ge (by omega) (by omega)), nI_1]
      simp only [cw_bind]
      refine cw_mono (copies15 k (k + c) (by omega) (by omega) (by omega) N) (fun N1 h1 => ?_)
      obtain ⟨h1, f1⟩ := h1
      refine cw_mono (dbl_L61 a c hc hac hn f (k + 1) N1 (by omega) (by omega) (by omega) ((f1 15 24 (by decide)).1.trans h)) (fun r h2 => ⟨h2.1, h2.2.1, fun i => ?_⟩)
      rw [h2.2.2 i, h1, h1]
      by_cases x : 7 * (k + 1 + c) ≤ i ∧ i < 7 * (a + 2 * c)
      · rw [if_pos x, if_neg (by omega), if_pos (by omega)]
      · rw [if_neg x]
        by_cases y : 7 * (k + c) ≤ i ∧ i < 7 * (k + c) + 7
        · rw [if_pos y, if_pos (by omega), show i - 7 * (k + c) + 7 * k = i - 7 * c by omega]
        · rw [if_neg y, if_neg (by omega)]
theorem dbl_L38 (a c : Nat) (hc : 1 ≤ c) (hac : a + c ≤ n) (hn : n + c ≤ 90) {Q : Int32 × cd_M → Prop} : ∀ (f k : Nat) (N : cd_M), a + c ≤ k + 1 → k < n → k < f → (∀ N1 : cd_M, cf_ [(64, none)] N N1 → (∀ i, N1.1 64 i = if 7 * (a + 2 * c) ≤ i ∧ i < 7 * (k + c + 1) then N.1 64 (i - 7 * c) else N.1 64 i) → cw (f11_doubled_15_L61 cd_fu (nI a) (nI c) (nI a) N1) Q) → cw (f11_doubled_15_L38 f (nI a) (nI c) (nI k) N) Q
  | 0, k, N, ha, hk, hf, h => by omega
  | f + 1, k, N, ha, hk, hf, h => by
    rw [f11_doubled_15_L38]
    dsimp only [cd_lt]
    rw [nI_add, nI_add]
    by_cases q : k < a + c
    · rw [if_pos (nI_lt q (by omega))]
      exact h N cf_refl (fun i => by rw [if_neg (by omega)])
    · rw [if_neg (nI_nlt (by omega) (by omega)), sb_m1 (by omega)]
      simp only [cw_bind]
      refine cw_mono (copies15 k (k + c) (by omega) (by omega) (by omega) N) (fun N1 h1 => ?_)
      obtain ⟨h1, f1⟩ := h1
      refine dbl_L38 a c hc hac hn f (k - 1) N1 (by omega) (by omega) (by omega) (fun N2 f2 h2 => h N2 (cf_trans f1 f2) (fun i => ?_))
      rw [h2 i, h1, h1]
      by_cases x : 7 * (a + 2 * c) ≤ i ∧ i < 7 * (k - 1 + c + 1)
      · rw [if_pos x, if_neg (by omega), if_pos (by omega)]
      · rw [if_neg x]
        by_cases y : 7 * (k + c) ≤ i ∧ i < 7 * (k + c) + 7
        · rw [if_pos y, if_pos (by omega), show i - 7 * (k + c) + 7 * k = i - 7 * c by omega]
        · rw [if_neg y, if_neg (by omega)]
end cuA
theorem o_cut : cl_o_cut Rel := by
  intro a1 a2
  refine op2_ (w1 := f10_cut_0_w) (w2 := f11_cut_15_w) (by decide) (by decide) (fun M => w_f10_cut_0 (by decide) cf_refl) (fun M => w_f11_cut_15 (by decide) cf_refl) ?_
  intro M N h
  have h' := Rel2_t (v := 0) h
  unfold f10_cut_0 f11_cut_15
  dsimp only [cd_lt]
  generalize cd_wI N 15 0 0 = N0 at h'
  have hk := h'
  obtain ⟨t, b, w, nf, fl, nc, fo, ln, nb, vl, n, sm, pa, u, x, hn, hs, hp, hT, hF, hR, ⟨d1, d2, d3⟩, ⟨e1, e2, e3⟩, -⟩ := h'
  have hw := hF.2.2.1
  have h9 := d3.1
  by_cases hi : spn_ n a1 a2
  · rw [if_neg (fun q => (span7 d1 d3).mp q hi), if_neg (fun q => (there15 d2 d3).mp q hi)]
    obtain ⟨a, c, rfl, rfl, hc, hac⟩ := hi
    refine ⟨nI (n - c), ?_⟩
    simp only [cw_bind]
    refine cw_mono (begin0 d1 d3 e1 e3) (fun M1 h1 => ?_)
    obtain ⟨⟨k1, k2, k3⟩, kf1⟩ := h1
    refine cw_mono (cw_cp (cut_c k1 d3 hc hac) (w_f4_removeSpan_7 (ws := f4_removeSpan_7_w) (by decide) cf_refl)) (fun M2 h2 => ?_)
    obtain ⟨k4, kf2⟩ := h2
    refine cw_some.mpr ⟨k4.1, ?_⟩
    refine cw_mono (keeps15 hw d2 d3 e2 e3) (fun N1 g1 => ?_)
    obtain ⟨⟨m1, m2⟩, mf1⟩ := g1
    refine cw_mono (cw_cp (cut_L c hc h9 cd_fu a N1 hac (by unfold cd_fu; omega) m1.1) (w_f11_cut_15_L22 (ws := f11_cut_15_L22_w) (by decide) _ _ _ _ cf_refl)) (fun r h3 => ?_)
    obtain ⟨⟨q1, q2, q3⟩, mf2⟩ := h3
    refine ⟨q1, ?_⟩
    have z2 : cf_ (f11_cut_15_L22_w ++ f11_keeps_15_w) N0 r.2 := cf_trans (cf_le (by decide) mf1) (cf_le (by decide) mf2)
    have z1 : cf_ (f4_removeSpan_7_w ++ f10_beginAct_0_w) M M2 := cf_trans (cf_le (by decide) kf1) (cf_le (by decide) kf2)
    refine Rel_act hT hF hR z1 z2 (by decide) ⟨k4, ⟨q2, fun i k hi hk => ?_, fun i hi => ?_⟩, by omega, fun i k hi hk => ?_, fun i hi => ?_⟩ ⟨CH_f kf2 (by decide) k2, MH_f mf2 (by decide) m2, BH_push d3 e3⟩ ⟨(kf2 0 11 (by decide)).1.trans k3.1, fun c hc => ((kf2 35 c (na_cov (by decide) c)).1).trans (k3.2 c hc)⟩
    · rw [q3]
      dsimp only
      by_cases y : i < a
      · rw [if_neg (by omega), if_pos y]; exact m1.2.1 i k (by omega) hk
      · rw [if_pos (by omega), if_neg y, show 7 * i + k + 7 * c = 7 * (i + c) + k by omega]; exact m1.2.1 (i + c) k (by omega) hk
    · rw [q3]
      dsimp only
      by_cases y : i < a
      · rw [if_neg (by omega), if_pos y]; exact m1.2.2 i (by omega)
      · rw [if_pos (by omega), if_neg y, show 7 * i + 6 + 7 * c = 7 * (i + c) + 6 by omega]; exact m1.2.2 (i + c) (by omega)
    · dsimp only
      by_cases y : i < a
      · rw [if_pos y]; exact d3.2.1 i k (by omega) hk
      · rw [if_neg y]; exact d3.2.1 (i + c) k (by omega) hk
    · dsimp only
      by_cases y : i < a
      · rw [if_pos y]; exact d3.2.2 i (by omega)
      · rw [if_neg y]; exact d3.2.2 (i + c) (by omega)
  · rw [if_pos ((span7 d1 d3).mpr hi), if_pos ((there15 d2 d3).mpr hi)]
    exact ⟨_, cw_some.mpr ⟨rfl, cw_some.mpr ⟨rfl, hk⟩⟩⟩
theorem o_doubled : cl_o_doubled Rel := by
  intro a1 a2
  refine op2_ (w1 := f10_doubled_0_w) (w2 := f11_doubled_15_w) (by decide) (by decide) (fun M => w_f10_doubled_0 (by decide) cf_refl) (fun M => w_f11_doubled_15 (by decide) cf_refl) ?_
  intro M N h
  have h' := Rel2_t (v := 0) h
  unfold f10_doubled_0 f11_doubled_15
  dsimp only [cd_lt]
  generalize cd_wI N 15 0 0 = N0 at h'
  have hk := h'
  obtain ⟨t, b, w, nf, fl, nc, fo, ln, nb, vl, n, sm, pa, u, x, hn, hs, hp, hT, hF, hR, ⟨d1, d2, d3⟩, ⟨e1, e2, e3⟩, -⟩ := h'
  have hw := hF.2.2.1
  have h9 := d3.1
  have no : ∃ v, cw (some ((-1 : Int32), M)) (fun r => r.1 = v ∧ cw (some ((-1 : Int32), N0)) (fun q => q.1 = v ∧ Rel2 r.2 q.2)) := ⟨_, cw_some.mpr ⟨rfl, cw_some.mpr ⟨rfl, hk⟩⟩⟩
  by_cases hi : spn_ n a1 a2
  · rw [if_neg (fun q => (span7 d1 d3).mp q hi), if_neg (fun q => (there15 d2 d3).mp q hi)]
    obtain ⟨a, c, rfl, rfl, hc, hac⟩ := hi
    unfold f4_size_7
    rw [d1.1, d2.1, show (90 : Int32) - nI n = nI (90 - n) from pk_sub (a := 90) h9, nI_add, show (90 : Int32) = nI 90 from rfl]
    by_cases h90 : n + c ≤ 90
    · rw [if_pos (nI_le (by omega) (by omega)), if_pos (nI_le h90 (by omega))]
      refine ⟨nI (n + c), ?_⟩
      simp only [cw_bind]
      refine cw_mono (begin0 d1 d3 e1 e3) (fun M1 h1 => ?_)
      obtain ⟨⟨k1, k2, k3⟩, kf1⟩ := h1
      refine cw_mono (cw_cp (dbl_c k1 d3 hc hac h90) (w_f4_repeatSpan_7 (ws := f4_repeatSpan_7_w) (by decide) cf_refl)) (fun M2 h2 => ?_)
      obtain ⟨k4, kf2⟩ := h2
      refine cw_some.mpr ⟨k4.1, ?_⟩
      refine cw_mono (keeps15 hw d2 d3 e2 e3) (fun N1 g1 => ?_)
      obtain ⟨⟨m1, m2⟩, mf1⟩ := g1
      have en : N1.1 15 24 - 1 = nI (n - 1) := by
        rw [m1.1]
        exact pk_sub (b := 1) (by omega)
      rw [en]
      refine cw_mono (cw_cp (P := fun r => r.1 = nI (n + c) ∧ r.2.1 15 24 = nI (n + c) ∧ ∀ i, r.2.1 64 i = if 7 * (a + c) ≤ i ∧ i < 7 * (n + c) then N1.1 64 (i - 7 * c) else N1.1 64 i) ?_ (w_f11_doubled_15_L38 (ws := f11_doubled_15_L38_w) (M0 := N1) (by decide) _ _ _ _ _ cf_refl)) (fun r h3 => ?_)
      · refine dbl_L38 a c hc hac h90 cd_fu (n - 1) N1 (by omega) (by omega) (by unfold cd_fu; omega) (fun N2 f2 h2 => ?_)
        refine cw_mono (dbl_L61 a c hc hac h90 cd_fu a N2 (by omega) (by omega) (by unfold cd_fu; omega) ((f2 15 24 (by decide)).1.trans m1.1)) (fun r h3 => ⟨h3.1, h3.2.1, fun i => ?_⟩)
        rw [h3.2.2 i, h2, h2]
        by_cases y : 7 * (a + c) ≤ i ∧ i < 7 * (a + 2 * c)
        · rw [if_pos y, if_neg (by omega), if_pos (by omega)]
        · rw [if_neg y]
          by_cases z : 7 * (a + 2 * c) ≤ i ∧ i < 7 * (n - 1 + c + 1)
          · rw [if_pos z, if_pos (by omega)]
          · rw [if_neg z, if_neg (by omega)]
      obtain ⟨⟨q1, q2, q3⟩, mf2⟩ := h3
      refine ⟨q1, ?_⟩
      have z2 : cf_ (f11_doubled_15_L38_w ++ f11_keeps_15_w) N0 r.2 := cf_trans (cf_le (by decide) mf1) (cf_le (by decide) mf2)
      have z1 : cf_ (f4_repeatSpan_7_w ++ f10_beginAct_0_w) M M2 := cf_trans (cf_le (by decide) kf1) (cf_le (by decide) kf2)
      refine Rel_act hT hF hR z1 z2 (by decide) ⟨k4, ⟨q2, fun i k hi hk => ?_, fun i hi => ?_⟩, by omega, fun i k hi hk => ?_, fun i hi => ?_⟩ ⟨CH_f kf2 (by decide) k2, MH_f mf2 (by decide) m2, BH_push d3 e3⟩ ⟨(kf2 0 11 (by decide)).1.trans k3.1, fun c hc => ((kf2 35 c (na_cov (by decide) c)).1).trans (k3.2 c hc)⟩
      · rw [q3]
        dsimp only
        by_cases y : i < a + c
        · rw [if_neg (by omega), if_pos y]; exact m1.2.1 i k (by omega) hk
        · rw [if_pos (by omega), if_neg y, show 7 * i + k - 7 * c = 7 * (i - c) + k by omega]; exact m1.2.1 (i - c) k (by omega) hk
      · rw [q3]
        dsimp only
        by_cases y : i < a + c
        · rw [if_neg (by omega), if_pos y]; exact m1.2.2 i (by omega)
        · rw [if_pos (by omega), if_neg y, show 7 * i + 6 - 7 * c = 7 * (i - c) + 6 by omega]; exact m1.2.2 (i - c) (by omega)
      · dsimp only
        by_cases y : i < a + c
        · rw [if_pos y]; exact d3.2.1 i k (by omega) hk
        · rw [if_neg y]; exact d3.2.1 (i - c) k (by omega) hk
      · dsimp only
        by_cases y : i < a + c
        · rw [if_pos y]; exact d3.2.2 i (by omega)
        · rw [if_neg y]; exact d3.2.2 (i - c) (by omega)
    · rw [if_neg (nI_ge (by omega) (by omega)), if_neg (nI_ge (by omega) (by omega))]
      exact no
  · rw [if_pos ((span7 d1 d3).mpr hi), if_pos ((there15 d2 d3).mpr hi)]
    exact no
