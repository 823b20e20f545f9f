/-! the reel's own calls; set -/
section stA
variable {M N : cd_M} {w n : Nat} {sm : Nat → Nat → Nat} {pa : Nat → Nat}
theorem BL_ok (hb : BL w n sm pa) {i : Nat} (hi : i < n) : ∀ k, k < w → sm i k < 128 := fun k hk => by have := hb.2.1 i k hi hk; omega
theorem has7 (h : CL M w n sm pa) (hb : BL w n sm pa) {a : Int32} : f4_has_7 a M = 0 ↔ ¬ inr_ a n := by
  unfold f4_has_7
  exact has_iff h.1 (by have := hb.1; omega)
theorem has7' (h : CL M w n sm pa) (hb : BL w n sm pa) {i : Nat} (hi : i < n) : ¬ f4_has_7 (nI i) M = 0 := fun q => (has7 h hb).mp q ⟨i, hi, rfl⟩
theorem row7 (hw : w ≤ 6) (h : CL M w n sm pa) (hb : BL w n sm pa) {i : Nat} (hi : i < n) : f4_row_7 (nI i) M = some (lN (rw_ (sm i) w)) := by
  have h9 := hb.1
  unfold f4_row_7
  rw [if_neg (has7' h hb hi), if_pos (by rw [ci_nI (by omega)]; omega), nI_clamp (by omega), h.2 i hi, fd_row (BL_ok hb hi) hw (hb.2.2 i hi)]
theorem parity7 (hw : w ≤ 6) (h : CL M w n sm pa) (hb : BL w n sm pa) {i : Nat} (hi : i < n) : f4_parity_7 (nI i) M = some (nI (pa i)) := by
  have h9 := hb.1
  unfold f4_parity_7
  rw [if_neg (has7' h hb hi), if_pos (by rw [ci_nI (by omega)]; omega), nI_clamp (by omega), h.2 i hi, fd_par (BL_ok hb hi) hw (hb.2.2 i hi)]
theorem sample7 (hw : w ≤ 6) (h : CL M w n sm pa) (hb : BL w n sm pa) {i k : Nat} (hi : i < n) (hk : k < w) : f4_sample_7 (nI i) (nI k) M = some (nI (sm i k)) := by
  unfold f4_sample_7
  rw [row7 hw h hb hi]
  simp only [Option.bind_some]
  rw [sm_of (rw_lt63 (BL_ok hb hi) hw) (by omega), dg_rw (BL_ok hb hi) hk]
/-- one sample put anew -/
def sp_ (sm : Nat → Nat → Nat) (i k v : Nat) : Nat → Nat → Nat := fun j l => if j = i then (if l = k then v else sm j l) else sm j l
theorem BL_sp (hb : BL w n sm pa) {i k v : Nat} (hv : v ≤ 99) : BL w n (sp_ sm i k v) pa := by
  refine ⟨hb.1, fun j l hj hl => ?_, hb.2.2⟩
  have := hb.2.1 j l hj hl
  unfold sp_
  by_cases q : j = i
  · rw [if_pos q]
    by_cases z : l = k
    · rw [if_pos z]; exact hv
    · rw [if_neg z]; exact this
  · rw [if_neg q]; exact this
theorem put7 (hw : w ≤ 6) (h : CL M w n sm pa) (hb : BL w n sm pa) {i k v : Nat} (hi : i < n) (hk : k < w) (hv : v ≤ 99) : cw (f4_putSample_7 (nI i) (nI k) (nI v) M) (fun M1 => CL M1 w n (sp_ sm i k v) pa) := by
  have h9 := hb.1
  unfold f4_putSample_7
  dsimp only [cd_lt]
  rw [if_neg (has7' h hb hi), if_pos (by rw [ci_nI (by omega)]; omega), if_pos (by rw [ci_nI (by omega)]; omega), nI_clamp (by omega), h.2 i hi, ws_of (by omega) (fd_lt63 (BL_ok hb hi) hw (hb.2.2 i hi)) (by omega), pd_fd (BL_ok hb hi) hw (hb.2.2 i hi) hk (by omega)]
  refine cw_some.mpr ⟨h.1, fun j hj => ?_⟩
  rw [cd_wL_at]
  by_cases q : j = i
  · rw [if_pos ⟨rfl, q⟩, q]
    congr 2
    funext l
    unfold sp_
    rw [if_pos rfl]
  · rw [if_neg (fun z => q z.2), h.2 j hj]
    congr 2
    funext l
    unfold sp_
    rw [if_neg q]
theorem sample15 (h : ML N w n sm pa) (hb : BL w n sm pa) (hw : w ≤ 6) {i k : Nat} (hi : i < n) (hk : k < w) : f11_sample_15 (nI i) (nI k) N = some (nI (sm i k)) := by
  have h9 := hb.1
  unfold f11_sample_15
  have e : (7 : Int32) * nI i + nI k = nI (7 * i + k) := by rw [show (7 : Int32) = nI 7 from rfl, pk_mul, nI_add]
  rw [e, if_pos (by rw [ci_nI (by omega)]; omega), nI_clamp (by omega), h.2.1 i k hi hk]
theorem parity15 (h : ML N w n sm pa) (hb : BL w n sm pa) {i : Nat} (hi : i < n) : f11_parityOf_15 (nI i) N = some (nI (pa i)) := by
  have h9 := hb.1
  unfold f11_parityOf_15
  have e : (7 : Int32) * nI i + 6 = nI (7 * i + 6) := by rw [show (7 : Int32) = nI 7 from rfl, pk_mul, show (6 : Int32) = nI 6 from rfl, nI_add]
  rw [e, if_pos (by rw [ci_nI (by omega)]; omega), nI_clamp (by omega), h.2.2 i hi]
theorem put15 (h : ML N w n sm pa) (hb : BL w n sm pa) (hw : w ≤ 6) {i k v : Nat} (hi : i < n) (hk : k < w) : ML (cd_wI N 64 (7 * i + k) (nI v)) w n (sp_ sm i k v) pa := by
  refine ⟨by rw [cd_wI_at, if_neg (by omega)]; exact h.1, fun j l hj hl => ?_, fun j hj => ?_⟩
  · rw [cd_wI_at]
    unfold sp_
    by_cases q : j = i
    · rw [if_pos q]
      by_cases z : l = k
      · rw [if_pos z, if_pos (by rw [q, z]; exact ⟨rfl, rfl⟩)]
      · rw [if_neg z, if_neg (by omega)]; exact h.2.1 j l hj hl
    · rw [if_neg q, if_neg (by omega)]; exact h.2.1 j l hj hl
  · rw [cd_wI_at, if_neg (by omega)]; exact h.2.2 j hj
theorem isF15 (h : ML N w n sm pa) (hb : BL w n sm pa) {a : Int32} : f11_isField_15 a N = 0 ↔ ¬ inr_ a n := by
  have h9 := hb.1
  unfold f11_isField_15
  rw [h.1]
  exact wi_in (by omega)
end stA
/-- behind an act -/
theorem Rel_act {M N M1 N1 : cd_M} {w1 w2 : List (Nat × Option Nat)} {t : Nat} {b : Nat → Nat} {w nf : Nat} {fl : Nat → Nat → Nat → Nat} {nc fo : Nat} {ln : Nat → Nat} {nb : Nat → Nat → Nat} {vl : Nat → Nat} {n : Nat} {sm : Nat → Nat → Nat} {pa : Nat → Nat} {u x : Nat} {hn : Nat → Nat} {hs : Nat → Nat → Nat → Nat} {hp : Nat → Nat → Nat}
    (hT : CT M t b ∧ MT N t b) (hF : CF M w nf fl ∧ MF N w nf fl ∧ BF w nf fl) (hR : CR M nc fo ln nb vl ∧ MR N nc fo ln nb vl ∧ BR nc fo ln nb vl) (hf : cf_ w1 M M1) (hg : cf_ w2 N N1) (k1 : (kCT w1 && kCF w1 && kCR w1 && kMT w2 && kMF w2 && kMR w2) = true)
    (hL : CL M1 w n sm pa ∧ ML N1 w n sm pa ∧ BL w n sm pa) (hH : CH M1 w u x hn hs hp ∧ MH N1 w u hn hs hp ∧ BH w u hn hs hp) (hc : clr_ M1) : Rel2 M1 N1 := by
  simp only [Bool.and_eq_true] at k1
  obtain ⟨⟨⟨⟨⟨q1, q2⟩, q3⟩, q4⟩, q5⟩, q6⟩ := k1
  exact ⟨t, b, w, nf, fl, nc, fo, ln, nb, vl, n, sm, pa, u, x, hn, hs, hp, ⟨CT_f hf q1 hT.1, MT_f hg q4 hT.2⟩, ⟨CF_f hf q2 hF.1, MF_f hg q5 hF.2.1, hF.2.2⟩, ⟨CR_f hf q3 hR.1, MR_f hg q6 hR.2.1, hR.2.2⟩, hL, hH, CM_clr hc hR.2.2.2.1, Or.inl hc.1⟩
/-- the head of each proof that an operation of both is one -/
theorem inr100 {a : Int32} : (a < 0 ∨ ¬ a ≤ 99) ↔ ¬ inr_ a 100 := by
  rw [inr_iff (by decide)]
  constructor
  · rintro (h | h) ⟨q1, q2⟩
    · exact absurd h (Int32.not_lt.mpr q1)
    · apply h
      rw [Int32.le_iff_toInt_le]
      rw [Int32.lt_iff_toInt_lt] at q2
      have : (nI 100).toInt = 100 := rfl
      have : (99 : Int32).toInt = 99 := rfl
      omega
  · intro h
    by_cases q : a < 0
    · exact Or.inl q
    · refine Or.inr (fun z => h ⟨Int32.not_lt.mp q, ?_⟩)
      rw [Int32.le_iff_toInt_le] at z
      rw [Int32.lt_iff_toInt_lt]
      have : (nI 100).toInt = 100 := rfl
      have : (99 : Int32).toInt = 99 := rfl
      omega
theorem o_set : cl_o_set Rel := by
  intro a1 a2 a3
  refine op2_ (w1 := f10_set_0_w) (w2 := f11_set_15_w) (by decide) (by decide) (fun M => w_f10_set_0 (by decide) cf_refl) (fun M => w_f11_set_15 (by decide) cf_refl) ?_
  intro M N h
  have h' := Rel2_t (v := 0) h
  unfold f10_set_0 f11_set_15
  dsimp only [cd_lt]
  generalize cd_wI N 15 0 0 = N0 at h'
  have hk := h'
  obtain ⟨t, b, w, nf, fl, nc, fo, ln, nb, vl, n, sm, pa, u, x, hn, hs, hp, hT, hF, hR, ⟨d1, d2, d3⟩, ⟨e1, e2, e3⟩, -⟩ := h'
  have hw := hF.2.2.1
  have h9 := d3.1
  have no : ∃ v, cw (some ((-1 : Int32), M)) (fun r => r.1 = v ∧ cw (some ((-1 : Int32), N0)) (fun q => q.1 = v ∧ Rel2 r.2 q.2)) := ⟨_, cw_some.mpr ⟨rfl, cw_some.mpr ⟨rfl, hk⟩⟩⟩
  by_cases hi : inr_ a1 n
  · rw [if_neg (fun q => (has7 d1 d3).mp q hi), if_neg (fun q => (isF15 d2 d3).mp q hi), hF.2.1.1]
    by_cases hs2 : inr_ a2 w
    · rw [if_neg (fun q => (isSmp hF.1 hF.2.2).mp q hs2), if_neg (fun q => (wi_in (by omega)).mp q hs2)]
      have e99 : (99 : Int64) = (nI 100 - 1).toInt64 := rfl
      by_cases hv : inr_ a3 100
      · have hv' : ¬ (a3 < 0 ∨ ¬ a3 ≤ 99) := fun q => inr100.mp q hv
        have hv1 : ¬ a3 < 0 := fun q => hv' (Or.inl q)
        have hv2 : a3 ≤ 99 := Decidable.byContradiction (fun q => hv' (Or.inr q))
        rw [if_neg hv1, if_pos hv2, e99, if_neg (fun q => (wi_in (by omega)).mp q hv)]
        obtain ⟨i, hi, rfl⟩ := hi
        obtain ⟨k, hk2, rfl⟩ := hs2
        obtain ⟨v, hv, rfl⟩ := hv
        refine ⟨nI (sm i k), ?_⟩
        simp only [cw_bind]
        refine cw_mono (begin0 d1 d3 e1 e3) (fun M1 h1 => ?_)
        obtain ⟨⟨k1, k2, k3⟩, kf1⟩ := h1
        rw [sample7 hw k1 d3 hi hk2]
        simp only [cw_some]
        refine cw_mono (cw_cp (put7 hw k1 d3 hi hk2 (v := v) (by omega)) (w_f4_putSample_7 (ws := f4_putSample_7_w) (by decide) cf_refl)) (fun M2 h2 => ⟨trivial, ?_⟩)
        obtain ⟨k4, kf2⟩ := h2
        refine cw_mono (keeps15 hw d2 d3 e2 e3) (fun N1 g1 => ?_)
        obtain ⟨⟨m1, m2⟩, mf1⟩ := g1
        rw [sample15 m1 d3 hw hi hk2]
        simp only [cw_some]
        have e : (7 : Int32) * nI i + nI k = nI (7 * i + k) := by rw [show (7 : Int32) = nI 7 from rfl, pk_mul, nI_add]
        rw [e, if_pos (by rw [ci_nI (by omega)]; omega), nI_clamp (by omega)]
        simp only [cw_some]
        refine ⟨trivial, ?_⟩
        have z2 : cf_ ((64, none) :: f11_keeps_15_w) N0 (cd_wI N1 64 (7 * i + k) (nI v)) := cf_wcI (by rfl) (cf_le (by decide) mf1)
        have z1 : cf_ (f4_putSample_7_w ++ f10_beginAct_0_w) M M2 := cf_trans (cf_le (by decide) kf1) (cf_le (by decide) kf2)
        exact Rel_act hT hF hR z1 z2 (by decide) ⟨k4, put15 m1 d3 hw hi hk2, BL_sp d3 (by omega)⟩ ⟨CH_f kf2 (by decide) k2, MH_c (by rw [cd_wI_at, if_neg (by omega)]) (fun i => by rw [cd_wI_at, if_neg (by omega)]) (fun i => by rw [cd_wI_at, if_neg (by omega)]) m2, BH_push d3 e3⟩ ⟨(kf2 0 11 (by decide)).1.trans k3.1, fun c hc => ((kf2 35 c (na_cov (by decide) c)).1).trans (k3.2 c hc)⟩
      · rw [e99, if_pos ((wi_in (by omega)).mpr hv)]
        rcases inr100.mpr hv with q | q
        · rw [if_pos q]; exact no
        · by_cases z : a3 < 0
          · rw [if_pos z]; exact no
          · rw [if_neg z, if_neg q]; exact no
    · rw [if_pos ((isSmp hF.1 hF.2.2).mpr hs2), if_pos ((wi_in (by omega)).mpr hs2)]
      exact no
  · rw [if_pos ((has7 d1 d3).mpr hi), if_pos ((isF15 d2 d3).mpr hi)]
    exact no
