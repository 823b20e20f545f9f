/-! anew, isClean -/
/-- what is carried anew, in the reference -/
def MA (N : cd_M) (F : Nat) (fd : Nat → Nat → Nat → Nat) (σ : cg_) : Prop := N.1 15 50 = nI σ.1 ∧ σ.1 ≤ 90 ∧ ∀ i, i < σ.1 → ∃ a, a < F ∧ N.1 80 i = nI a ∧ N.1 81 i = nI (σ.2.2.1 i) ∧ σ.2.2.1 i < 2 ∧ σ.2.1 i = fd a (σ.2.2.1 i)
def an_w : List (Nat × Option Nat) := [(80, none), (81, none), (15, some 50)]
theorem mod_succ {f L : Nat} (hL : 0 < L) : (f + 1) % L = if f % L + 1 < L then f % L + 1 else 0 := by
  have h1 := Nat.div_add_mod f L
  have h2 := Nat.mod_lt f hL
  by_cases q : f % L + 1 < L
  · have e : f + 1 = (f % L + 1) + L * (f / L) := by omega
    rw [if_pos q, e, Nat.add_mul_mod_self_left, Nat.mod_eq_of_lt]
    exact q
  · have e : f + 1 = L + L * (f / L) := by omega
    rw [if_neg q, e, Nat.add_mul_mod_self_left, Nat.mod_self]
section anA
variable {w F : Nat} {fd : Nat → Nat → Nat → Nat} {nc fo : Nat} {ln : Nat → Nat} {nb : Nat → Nat → Nat} {vl : Nat → Nat}
theorem an_24 {N0 : cd_M} {c f : Nat} (hR : MR N0 nc fo ln nb vl) (hB : BR nc fo ln nb vl) (hc : c < nc) (hf : f < F) (hF : F ≤ 90) {r13 : Int32 → Int32 → Int32 → cd_M → Option cd_M} {Q : cd_M → Prop} : ∀ (r fu i s : Nat) (σ : cg_) (N : cd_M), i + r = nb c (f % ln c) → r < fu → cf_ an_w N0 N → MA N F fd σ → s < 2 → (σ.1 < 90 → s = σ.2.2.2) →
    (∀ (N1 : cd_M) (s1 : Nat), cf_ an_w N0 N1 → MA N1 F fd (cad_ (fd f) r σ) → s1 < 2 → ((cad_ (fd f) r σ).1 < 90 → s1 = (cad_ (fd f) r σ).2.2.2) → cw (r13 (nI c) (nI s1) (nI (f + 1)) N1) Q) → cw (f11_laysAnew_15_L24 r13 fu (nI c) (nI s) (nI f) (nI i) N) Q := by
  intro r
  have h4 := hB.2.1
  have hl := hB.2.2.2.1 c hc
  have hm := Nat.mod_lt f (show 0 < ln c by omega)
  have h5 := hB.2.2.2.2.1 c (f % ln c) hc hm
  have cin : cd_in (nI c) 8 = true := by rw [ci_nI (by omega)]; omega
  have e6 : (6 : Int32) * nI c + nI (f % ln c) = nI (6 * c + f % ln c) := by rw [show (6 : Int32) = nI 6 from rfl, pk_mul, nI_add]
  induction r with
  | zero =>
    intro fu i s σ N hi hfu hcf h hs hs2 H
    obtain ⟨fu, rfl⟩ := Nat.exists_eq_succ_of_ne_zero (show fu ≠ 0 by omega)
    have mr := MR_f hcf (by decide) hR
    rw [f11_laysAnew_15_L24, if_pos cin, nI_clamp (by omega), mr.2.2.1 c hc, if_neg (nI_ne0 (by omega) (by omega)), pk_rem (by omega) (by omega) (by omega), e6, if_pos (by rw [ci_nI (by omega)]; omega), nI_clamp (by omega), mr.2.2.2.1 c _ hc hm, if_pos (nI_le (by omega) (by omega))]
    unfold f11_laysAnew_15_L96
    simp only [cd_lt_p]
    rw [nI_1]
    exact H N s hcf h hs hs2
  | succ r ih =>
    intro fu i s σ N hi hfu hcf h hs hs2 H
    obtain ⟨fu, rfl⟩ := Nat.exists_eq_succ_of_ne_zero (show fu ≠ 0 by omega)
    have mr := MR_f hcf (by decide) hR
    obtain ⟨a1, a2, a3⟩ := h
    rw [f11_laysAnew_15_L24, if_pos cin, nI_clamp (by omega), mr.2.2.1 c hc, if_neg (nI_ne0 (by omega) (by omega)), pk_rem (by omega) (by omega) (by omega), e6, if_pos (by rw [ci_nI (by omega)]; omega), nI_clamp (by omega), mr.2.2.2.1 c _ hc hm, if_neg (nI_ge (by omega) (by omega)), a1, show (90 : Int32) = nI 90 from rfl]
    by_cases q : σ.1 < 90
    · have cin2 : cd_in (nI σ.1) 90 = true := by rw [ci_nI (by omega)]; omega
      rw [if_neg (nI_ge q (by omega)), if_pos cin2, nI_clamp (by omega)]
      simp only [cd_lt_p]
      have v1 : (cd_wI N 80 σ.1 (nI f)).1 15 50 = nI σ.1 := by rw [cd_wI_at, if_neg (by omega)]; exact a1
      rw [v1, if_pos cin2, nI_clamp (by omega)]
      have v2 : (cd_wI (cd_wI N 80 σ.1 (nI f)) 81 σ.1 (nI s)).1 15 50 + 1 = nI (σ.1 + 1) := by rw [cd_wI_at, if_neg (by omega), v1, nI_1]
      have e1 : (1 : Int32) - nI s = nI (1 - s) := pk_sub (a := 1) (by omega)
      rw [v2, e1, nI_1]
      have ec : ca1_ (fd f) σ = (σ.1 + 1, (fun i => if i = σ.1 then fd f σ.2.2.2 else σ.2.1 i), (fun i => if i = σ.1 then σ.2.2.2 else σ.2.2.1 i), 1 - σ.2.2.2) := by unfold ca1_; rw [if_pos q]
      have g : ∀ x j, ¬ ((x = 80 ∨ x = 81) ∧ j = σ.1) → ¬ (x = 15 ∧ j = 50) → (cd_wI (cd_wI (cd_wI N 80 σ.1 (nI f)) 81 σ.1 (nI s)) 15 50 (nI (σ.1 + 1))).1 x j = N.1 x j := fun x j z1 z2 => by rw [cd_wI_at, if_neg z2, cd_wI_at, if_neg (by omega), cd_wI_at, if_neg (by omega)]
      refine ih fu (i + 1) (1 - s) (ca1_ (fd f) σ) _ (by omega) (by omega) ?_ ?_ (by omega) (fun _ => by rw [ec, ← hs2 q]) H
      · exact cf_wcI (by decide) (cf_wcI (cf_cov_iff.mpr (Or.inl (cf_has_mem.mp (by decide)))) (cf_wcI (cf_cov_iff.mpr (Or.inl (cf_has_mem.mp (by decide)))) hcf))
      · rw [ec]
        refine ⟨by rw [cd_wI_at, if_pos ⟨rfl, rfl⟩], by show σ.1 + 1 ≤ 90; omega, fun j hj => ?_⟩
        have hj : j < σ.1 + 1 := hj
        dsimp only
        by_cases z : j = σ.1
        · rw [if_pos z, if_pos z, ← hs2 q, z]
          refine ⟨f, hf, ?_, ?_, hs, rfl⟩
          · rw [cd_wI_at, if_neg (by omega), cd_wI_at, if_neg (by omega), cd_wI_at, if_pos ⟨rfl, rfl⟩]
          · rw [cd_wI_at, if_neg (by omega), cd_wI_at, if_pos ⟨rfl, rfl⟩]
        · rw [if_neg z, if_neg z, g _ _ (by omega) (by omega), g _ _ (by omega) (by omega)]
          exact a3 j (by omega)
    · rw [if_pos (nI_le (by omega) (by omega))]
      unfold f11_laysAnew_15_L96
      simp only [cd_lt_p]
      rw [nI_1]
      have cf := cad_full (g := fd f) (r + 1) σ q
      refine H N s hcf ⟨by rw [cf.1]; exact a1, by rw [cf.1]; exact a2, fun j hj => ?_⟩ hs (fun z => absurd (by rw [cf.1] at z; exact z) q)
      rw [cf.1] at hj
      rw [cf.2.1, cf.2.2]
      exact a3 j hj
theorem an_13 {N0 : cd_M} {c : Nat} (hR : MR N0 nc fo ln nb vl) (hB : BR nc fo ln nb vl) (hc : c < nc) (hF : F ≤ 90) (h44 : N0.1 15 44 = nI F) : ∀ (r fu f s : Nat) (σ : cg_) (N : cd_M), f + r = F → r < fu → cf_ an_w N0 N → MA N F fd σ → s < 2 → (σ.1 < 90 → s = σ.2.2.2) → cw (f11_laysAnew_15_L13 fu (nI c) (nI s) (nI f) N) (fun N1 => MA N1 F fd (cas_ fd (ln c) (nb c) r f (f % ln c) σ) ∧ cf_ an_w N0 N1) := by
  intro r
  have hl := hB.2.2.2.1 c hc
  induction r with
  | zero =>
    intro fu f s σ N hf hfu hcf h hs hs2
    obtain ⟨fu, rfl⟩ := Nat.exists_eq_succ_of_ne_zero (show fu ≠ 0 by omega)
    rw [f11_laysAnew_15_L13, (hcf 15 44 (by decide)).1, h44, if_pos (nI_le (by omega) (by omega))]
    exact cw_some.mpr ⟨h, hcf⟩
  | succ r ih =>
    intro fu f s σ N hf hfu hcf h hs hs2
    obtain ⟨fu, rfl⟩ := Nat.exists_eq_succ_of_ne_zero (show fu ≠ 0 by omega)
    have h5 := hB.2.2.2.2.1 c (f % ln c) hc (Nat.mod_lt f (by omega))
    rw [f11_laysAnew_15_L13, (hcf 15 44 (by decide)).1, h44, if_neg (nI_ge (by omega) (by omega))]
    refine an_24 hR hB hc (f := f) (by omega) hF (nb c (f % ln c)) cd_fu 0 s σ N (by omega) (by unfold cd_fu; omega) hcf h hs hs2 (fun N1 s1 k1 k2 k3 k4 => ?_)
    have K := ih fu (f + 1) s1 _ N1 (by omega) (by omega) k1 k2 k3 k4
    rw [mod_succ (by omega)] at K
    exact K
end anA
section anB
variable {M : cd_M} {w : Nat} {σ : cg_}
theorem has14 (h : CL14 M w σ.1 σ.2.1 σ.2.2.1) (hb : BL w σ.1 σ.2.1 σ.2.2.1) {a : Int32} : f4_has_14 a M = 0 ↔ ¬ inr_ a σ.1 := by
  unfold f4_has_14
  exact has_iff h.1 (by have := hb.1; omega)
theorem par14 (hw : w ≤ 6) (h : CL14 M w σ.1 σ.2.1 σ.2.2.1) (hb : BL w σ.1 σ.2.1 σ.2.2.1) {i : Nat} (hi : i < σ.1) : f4_parity_14 (nI i) M = some (nI (σ.2.2.1 i)) := by
  have h9 := hb.1
  unfold f4_parity_14
  rw [if_neg (fun z => (has14 h hb).mp z ⟨i, hi, rfl⟩), if_pos (by rw [ci_nI (by omega)]; omega), nI_clamp (by omega), h.2 i hi, fd_par (BL_ok hb hi) hw (hb.2.2 i hi)]
theorem smp14 (hw : w ≤ 6) (h : CL14 M w σ.1 σ.2.1 σ.2.2.1) (hb : BL w σ.1 σ.2.1 σ.2.2.1) {i k : Nat} (hi : i < σ.1) (hk : k < w) : f4_sample_14 (nI i) (nI k) M = some (nI (σ.2.1 i k)) := by
  have h9 := hb.1
  unfold f4_sample_14 f4_row_14
  rw [if_neg (fun z => (has14 h hb).mp z ⟨i, hi, rfl⟩), if_pos (by rw [ci_nI (by omega)]; omega), nI_clamp (by omega), h.2 i hi, fd_row (BL_ok hb hi) hw (hb.2.2 i hi), bind_p, sm_of (rw_lt63 (BL_ok hb hi) hw) (by omega), dg_rw (BL_ok hb hi) hk]
end anB
/-- both have carried anew -/
def AN (M N : cd_M) (w n F : Nat) (fd : Nat → Nat → Nat → Nat) (sm : Nat → Nat → Nat) (pa : Nat → Nat) (fx : Nat → Nat → Nat) (σ : cg_) : Prop := CL14 M w σ.1 σ.2.1 σ.2.2.1 ∧ BL w σ.1 σ.2.1 σ.2.2.1 ∧ MA N F fd σ ∧ CL M w n sm pa ∧ ML N w n sm pa ∧ BL w n sm pa ∧ (∀ x, x < F → ∀ p, p < 2 → N.1 78 (2 * x + p) = nI (fx x p) ∧ fx x p < n ∧ fd x p = sm (fx x p)) ∧ F ≤ 90
theorem anS {M N : cd_M} {w n F : Nat} {fd : Nat → Nat → Nat → Nat} {sm : Nat → Nat → Nat} {pa : Nat → Nat} {fx : Nat → Nat → Nat} {σ : cg_} (hw : w ≤ 6) (h : AN M N w n F fd sm pa fx σ) {i k : Nat} (hi : i < σ.1) (hk : k < w) : f11_anewSample_15 (nI i) (nI k) N = some (nI (σ.2.1 i k)) := by
  obtain ⟨h1, h2, h3, h4, h5, h6, h7, h8⟩ := h
  have h9 := h2.1
  obtain ⟨a, a1, a2, a3, a4, a5⟩ := h3.2.2 i hi
  obtain ⟨x1, x2, x3⟩ := h7 a a1 _ a4
  have cin : cd_in (nI i) 90 = true := by rw [ci_nI (by omega)]; omega
  have e2 : (2 : Int32) * nI a + nI (σ.2.2.1 i) = nI (2 * a + σ.2.2.1 i) := by rw [show (2 : Int32) = nI 2 from rfl, pk_mul, nI_add]
  unfold f11_anewSample_15
  rw [if_pos cin, if_pos cin, nI_clamp (by omega), a2, a3, e2, if_pos (by rw [ci_nI (by omega)]; omega), nI_clamp (by omega), x1, sample15 h5 h6 hw x2 hk, bind_p, a5, x3]
theorem anew2 {M N : cd_M} {k1 k2 : cd_M → Option (Int32 × cd_M)} {c : Nat} {t : Nat} {b : Nat → Nat} {w nf : Nat} {fl : Nat → Nat → Nat → Nat} {nc fo : Nat} {ln : Nat → Nat} {nb : Nat → Nat → Nat} {vl : Nat → Nat} {n : Nat} {sm : Nat → Nat → Nat} {pa : Nat → Nat} {u x : Nat} {hn : Nat → Nat} {hs : Nat → Nat → Nat → Nat} {hp : Nat → Nat → Nat}
    (hT : CT M t b ∧ MT N t b) (hF : CF M w nf fl ∧ MF N w nf fl ∧ BF w nf fl) (hR : CR M nc fo ln nb vl ∧ MR N nc fo ln nb vl ∧ BR nc fo ln nb vl) (hL : CL M w n sm pa ∧ ML N w n sm pa ∧ BL w n sm pa) (hH : CH M w u x hn hs hp ∧ MH N w u hn hs hp ∧ BH w u hn hs hp) (hCM : CM M w nc ln nb vl n sm pa) (hX : CX M w n sm pa vl (ln fo) (nb fo)) (hc : c < nc)
    (H : ∀ (M1 N1 : cd_M) (F : Nat) (fd : Nat → Nat → Nat → Nat) (fx : Nat → Nat → Nat) (σ : cg_), AN M1 N1 w n F fd sm pa fx σ → CF M1 w nf fl → N1.1 15 11 = nI w → ∃ v, k1 M1 = some (v, M1) ∧ k2 N1 = some (v, N1)) :
    ∃ v, cw ((f10_followPath_0 M).bind fun M2 => (f4_carryFrames_14_13_6 (nI c) 0 0 M2).bind k1) (fun r => r.1 = v ∧ cw ((f11_laysAnew_15 (nI c) N).bind k2) (fun q => q.1 = v ∧ Rel2 r.2 q.2)) := by
  unfold f11_laysAnew_15
  rw [Option.bind_assoc]
  refine look1 hT hF hR hL hH hCM hX ?_
  intro M1 N1 lk
  have sa := LK_SA lk
  obtain ⟨kF, kR, kL, tk, gr, la⟩ := lk
  have hw := kF.2.2.1
  have b13 := BG_13 (vl := vl) (L := ln fo) (nu := nb fo) hw kL.2.2
  have fl90 : fnr_ w n sm pa vl (ln fo) (nb fo) ≤ 90 := b13.2.1
  have hl := kR.2.2.2.2.2.1 c hc
  obtain ⟨M2, e1, ⟨c1, c2, c3, c4, c5⟩, cf1⟩ := car14 (c := c) (p := 0) (par := 0) kR.2.2 b13 hc (by omega) (by decide) sm pa (GR_13 gr) kR.1
  have f0 : cf_ an_w N1 (cd_wI N1 15 50 0) := cf_wcI (by decide) cf_refl
  obtain ⟨N2, e2, m1, mf1⟩ := an_13 (N0 := N1) (c := c) (fd := fdr_ w n sm pa vl (ln fo) (nb fo)) kR.2.1 kR.2.2 hc fl90 la.2.2.2.2.2.2.2.2.2.1 (fnr_ w n sm pa vl (ln fo) (nb fo)) cd_fu 0 0 (0, sm, pa, 0) (cd_wI N1 15 50 0) (by omega) (by unfold cd_fu; omega) f0 ⟨by rw [cd_wI_at, if_pos ⟨rfl, rfl⟩]; rfl, by show 0 ≤ 90; omega, fun i hi => absurd hi (Nat.not_lt_zero i)⟩ (by decide) (fun _ => rfl)
  rw [Nat.zero_mod] at m1
  have an : AN M2 N2 w n (fnr_ w n sm pa vl (ln fo) (nb fo)) (fdr_ w n sm pa vl (ln fo) (nb fo)) sm pa (fx_ w n sm pa vl (fi_ (SS w n sm pa vl (ln fo) (nb fo)))) (cas_ (fdr_ w n sm pa vl (ln fo) (nb fo)) (ln c) (nb c) (fnr_ w n sm pa vl (ln fo) (nb fo)) 0 0 (0, sm, pa, 0)) := ⟨c1, c2, m1, CL_f cf1 (by decide) kL.1, ML_f mf1 (by decide) kL.2.1, kL.2.2, fun y hy p hp' => ⟨(mf1 78 _ (na_cov (by decide) _)).1.trans (sa.2.2.1 y hy p hp').1, (sa.2.2.1 y hy p hp').2⟩, fl90⟩
  obtain ⟨v, v1, v2⟩ := H M2 N2 _ _ _ _ an (CF_f cf1 (by decide) kF.1) ((mf1 15 11 (by decide)).1.trans kF.2.1.1)
  refine ⟨v, M2, N2, ?_, cf_le (by decide) cf1, ?_, cf_le (by decide) mf1⟩
  · have e1' : f4_carryFrames_14_13_6 (nI c) 0 0 M1 = some M2 := e1
    rw [e1', bind_p]
    exact v1
  · have e2' : f11_laysAnew_15_L13 cd_fu (nI c) 0 0 (cd_wI N1 15 50 0) = some N2 := e2
    simp only [cd_lt_p]
    rw [e2', bind_p]
    exact v2
theorem o_anew : cl_o_anew Rel := by
  intro a1 a2 a3
  refine op_path (w1 := f10_anew_0_w) (w2 := f11_anew_15_w) (by decide) (by decide) (fun M => w_f10_anew_0 (by decide) cf_refl) (fun M => w_f11_anew_15 (by decide) cf_refl) ?_
  intro M N h
  have h' := Rel2_t (v := 0) h
  unfold f10_anew_0 f11_anew_15
  simp only [cd_lt_p]
  generalize cd_wI N 15 0 0 = N0 at h'
  have hk := h'
  obtain ⟨t, b, w, nf, fl, nc, fo, ln, nb, vl, n, sm, pa, u, x, hn, hs, hp, hT, hF, hR, hL, hH, hCM, hX⟩ := h'
  have h4 := hR.2.2.2.1
  have hm : f11_isCadence_15 a1 N0 = 0 ↔ ¬ inr_ a1 nc := by
    unfold f11_isCadence_15
    rw [hR.2.1.1]
    exact wi_in (by omega)
  by_cases hc : inr_ a1 nc
  · rw [if_neg (fun q => (hasC6 hR.1 hR.2.2 a1).mp q hc), if_neg (fun q => hm.mp q hc)]
    obtain ⟨c, hc, rfl⟩ := hc
    refine anew2 hT hF hR hL hH hCM hX hc ?_
    intro M1 N1 F fd fx σ an k5 k11
    have hw := hF.2.2.1
    have s9 := an.2.1.1
    unfold f4_size_14
    rw [an.1.1, an.2.2.1.1, k11]
    by_cases q : a3 = -1
    · rw [if_pos q, if_pos q]; exact ⟨_, rfl, rfl⟩
    rw [if_neg q, if_neg q]
    by_cases hi : inr_ a2 σ.1
    · rw [if_neg (fun z => (has14 an.1 an.2.1).mp z hi), if_neg (fun z => (wi_in (by omega)).mp z hi)]
      obtain ⟨i, hi, rfl⟩ := hi
      by_cases q2 : a3 = -2
      · obtain ⟨a, -, -, a3', -⟩ := an.2.2.1.2.2 i hi
        rw [if_pos q2, if_pos q2, par14 hw an.1 an.2.1 hi, if_pos (by rw [ci_nI (by omega)]; omega), nI_clamp (by omega), a3', bind_p]
        exact ⟨_, rfl, rfl⟩
      rw [if_neg q2, if_neg q2]
      by_cases hs : inr_ a3 w
      · rw [if_neg (fun z => (isSmp k5 hF.2.2).mp z hs), if_neg (fun z => (wi_in (by omega)).mp z hs)]
        obtain ⟨k, hs, rfl⟩ := hs
        rw [smp14 hw an.1 an.2.1 hi hs, anS hw an hi hs, bind_p, bind_p]
        exact ⟨_, rfl, rfl⟩
      · rw [if_pos ((isSmp k5 hF.2.2).mpr hs), if_pos ((wi_in (by omega)).mpr hs)]
        exact ⟨_, rfl, rfl⟩
    · rw [if_pos ((has14 an.1 an.2.1).mpr hi), if_pos ((wi_in (by omega)).mpr hi)]
      exact ⟨_, rfl, rfl⟩
  · rw [if_pos ((hasC6 hR.1 hR.2.2 a1).mpr hc), if_pos (hm.mpr hc)]
    exact ⟨_, cw_some.mpr ⟨rfl, cw_some.mpr ⟨rfl, hk⟩⟩⟩
section icA
variable {M N : cd_M} {w n F : Nat} {fd : Nat → Nat → Nat → Nat} {sm : Nat → Nat → Nat} {pa : Nat → Nat} {fx : Nat → Nat → Nat} {σ : cg_}
theorem ic_61 {i : Nat} (hw : w ≤ 6) (h11 : N.1 15 11 = nI w) (h : AN M N w n F fd sm pa fx σ) (hi : i < σ.1) (hn : i < n) {r35 : Int32 → cd_M → Option (Int32 × cd_M)} : ∀ (r fu k : Nat), k + r = w → r < fu → (∀ j, j < k → σ.2.1 i j = sm i j) → f11_isClean_15_L61 r35 fu (nI i) (nI k) N = if eqr_ (σ.2.1 i) (sm i) w = true then r35 (nI (i + 1)) N else some (0, N) := by
  intro r
  induction r with
  | zero =>
    intro fu k hk hfu hd
    obtain ⟨fu, rfl⟩ := Nat.exists_eq_succ_of_ne_zero (show fu ≠ 0 by omega)
    rw [f11_isClean_15_L61, h11, if_pos (nI_le (by omega) (by omega)), if_pos (eqr_iff.mpr (fun j hj => hd j (by omega)))]
    simp only [cd_lt_p]
    rw [nI_1]
  | succ r ih =>
    intro fu k hk hfu hd
    obtain ⟨fu, rfl⟩ := Nat.exists_eq_succ_of_ne_zero (show fu ≠ 0 by omega)
    have b1 := h.2.1.2.1 i k hi (by omega)
    have b2 := h.2.2.2.2.2.1.2.1 i k hn (by omega)
    rw [f11_isClean_15_L61, h11, if_neg (nI_ge (by omega) (by omega)), anS hw h hi (by omega), sample15 h.2.2.2.2.1 h.2.2.2.2.2.1 hw hn (by omega), bind_p, bind_p]
    simp only [cd_lt_p]
    rw [nI_1]
    by_cases q : σ.2.1 i k = sm i k
    · rw [if_pos (by rw [q])]
      refine ih fu (k + 1) (by omega) (by omega) (fun j hj => ?_)
      by_cases z : j = k
      · rw [z]; exact q
      · exact hd j (by omega)
    · rw [if_neg (fun z => q ((nI_eq (by omega) (by omega)).mp z)), if_neg]
      intro z
      exact q (eqr_iff.mp z k (by omega))
theorem ic_2 (hw : w ≤ 6) (h11 : N.1 15 11 = nI w) (h : AN M N w n F fd sm pa fx σ) (hs : σ.1 = n) : ∀ (r fu gu i : Nat), i + r = n → r < fu → r < gu → ∃ v, f4_isSame_14_7_L15 fu (nI i) M = some v ∧ f11_isClean_15_L35 gu (nI i) N = some (v, N) := by
  intro r
  have h9 := h.2.1.1
  induction r with
  | zero =>
    intro fu gu i hi hfu hgu
    obtain ⟨fu, rfl⟩ := Nat.exists_eq_succ_of_ne_zero (show fu ≠ 0 by omega)
    obtain ⟨gu, rfl⟩ := Nat.exists_eq_succ_of_ne_zero (show gu ≠ 0 by omega)
    rw [f4_isSame_14_7_L15, f11_isClean_15_L35, h.1.1, h.2.2.1.1, if_pos (nI_le (by omega) (by omega)), if_pos (nI_le (by omega) (by omega))]
    exact ⟨_, rfl, rfl⟩
  | succ r ih =>
    intro fu gu i hi hfu hgu
    obtain ⟨fu, rfl⟩ := Nat.exists_eq_succ_of_ne_zero (show fu ≠ 0 by omega)
    obtain ⟨gu, rfl⟩ := Nat.exists_eq_succ_of_ne_zero (show gu ≠ 0 by omega)
    have hi1 : i < σ.1 := by omega
    have hi2 : i < n := by omega
    have cin : cd_in (nI i) 90 = true := by rw [ci_nI (by omega)]; omega
    obtain ⟨a, -, -, a3, a4, -⟩ := h.2.2.1.2.2 i hi1
    have p2 := h.2.2.2.2.2.1.2.2 i hi2
    have fe := fd_ext (BL_ok h.2.1 hi1) (BL_ok h.2.2.2.2.2.1 hi2) hw a4 p2
    rw [f4_isSame_14_7_L15, f11_isClean_15_L35, h.1.1, h.2.2.1.1, if_neg (nI_ge hi1 (by omega)), if_neg (nI_ge hi1 (by omega)), if_pos cin, if_pos cin, if_pos cin, nI_clamp (by omega), h.1.2 i hi1, h.2.2.2.1.2 i hi2, a3, parity15 h.2.2.2.2.1 h.2.2.2.2.2.1 hi2, bind_p]
    simp only [cd_lt_p]
    rw [nI_1]
    have L61 := ic_61 hw h11 h hi1 hi2 (r35 := f11_isClean_15_L35 gu) w cd_fu 0 (by omega) (by unfold cd_fu; omega) (fun j hj => absurd hj (Nat.not_lt_zero j))
    have L61' : f11_isClean_15_L61 (f11_isClean_15_L35 gu) cd_fu (nI i) 0 N = if eqr_ (σ.2.1 i) (sm i) w = true then f11_isClean_15_L35 gu (nI (i + 1)) N else some (0, N) := L61
    rw [L61']
    have cmp : lg_cmp (lN (fd_ (σ.2.1 i) w (σ.2.2.1 i))) (lN (fd_ (sm i) w (pa i))) = 0 ↔ (σ.2.2.1 i = pa i ∧ eqr_ (σ.2.1 i) (sm i) w = true) := by
      rw [lg_cmp_eq, pk_lEQ (fd_lt63 (BL_ok h.2.1 hi1) hw a4) (fd_lt63 (BL_ok h.2.2.2.2.2.1 hi2) hw p2), fe, eqr_iff]
    by_cases q : σ.2.2.1 i = pa i
    · rw [if_pos (show nI (σ.2.2.1 i) = nI (pa i) by rw [q])]
      by_cases z : eqr_ (σ.2.1 i) (sm i) w = true
      · rw [if_pos z, if_pos (cmp.mpr ⟨q, z⟩)]
        exact ih fu gu (i + 1) (by omega) (by omega) (by omega)
      · rw [if_neg z, if_neg (fun y => z (cmp.mp y).2)]
        exact ⟨_, rfl, rfl⟩
    · rw [if_neg (show ¬ nI (σ.2.2.1 i) = nI (pa i) from fun y => q ((nI_eq (by omega) (by omega)).mp y)), if_neg (fun y => q (cmp.mp y).1)]
      exact ⟨_, rfl, rfl⟩
end icA
theorem o_isClean : cl_o_isClean Rel := by
  intro a1
  refine op_path (w1 := f10_isClean_0_w) (w2 := f11_isClean_15_w) (by decide) (by decide) (fun M => w_f10_isClean_0 (by decide) cf_refl) (fun M => w_f11_isClean_15 (by decide) cf_refl) ?_
  intro M N h
  have h' := Rel2_t (v := 0) h
  unfold f10_isClean_0 f11_isClean_15
  simp only [cd_lt_p]
  generalize cd_wI N 15 0 0 = N0 at h'
  have hk := h'
  obtain ⟨t, b, w, nf, fl, nc, fo, ln, nb, vl, n, sm, pa, u, x, hn, hs, hp, hT, hF, hR, hL, hH, hCM, hX⟩ := h'
  have h4 := hR.2.2.2.1
  have hm : f11_isCadence_15 a1 N0 = 0 ↔ ¬ inr_ a1 nc := by
    unfold f11_isCadence_15
    rw [hR.2.1.1]
    exact wi_in (by omega)
  by_cases hc : inr_ a1 nc
  · rw [if_neg (fun q => (hasC6 hR.1 hR.2.2 a1).mp q hc), if_neg (fun q => hm.mp q hc)]
    obtain ⟨c, hc, rfl⟩ := hc
    refine anew2 hT hF hR hL hH hCM hX hc ?_
    intro M1 N1 F fd fx σ an k5 k11
    have hw := hF.2.2.1
    have s9 := an.2.1.1
    have n9 := hL.2.2.1
    unfold f4_isSame_14_7
    rw [an.1.1, an.2.2.1.1, an.2.2.2.1.1, an.2.2.2.2.1.1]
    by_cases q : σ.1 = n
    · rw [if_pos (show nI σ.1 = nI n by rw [q]), if_pos (show nI σ.1 = nI n by rw [q])]
      obtain ⟨v, k1, k2⟩ := ic_2 hw k11 an q n cd_fu cd_fu 0 (by omega) (by unfold cd_fu; omega) (by unfold cd_fu; omega)
      have k1' : f4_isSame_14_7_L15 cd_fu 0 M1 = some v := k1
      have k2' : f11_isClean_15_L35 cd_fu 0 N1 = some (v, N1) := k2
      rw [k1', k2', bind_p]
      exact ⟨_, rfl, rfl⟩
    · rw [if_neg (show ¬ nI σ.1 = nI n from fun z => q ((nI_eq (by omega) (by omega)).mp z)), if_neg (show ¬ nI σ.1 = nI n from fun z => q ((nI_eq (by omega) (by omega)).mp z)), bind_p]
      exact ⟨_, rfl, rfl⟩
  · rw [if_pos ((hasC6 hR.1 hR.2.2 a1).mpr hc), if_pos (hm.mpr hc)]
    exact ⟨_, cw_some.mpr ⟨rfl, cw_some.mpr ⟨rfl, hk⟩⟩⟩
