/-! both sides look at the path -/
/-- all that the reference has laid -/
def LA (N : cd_M) (w n : Nat) (sm : Nat → Nat → Nat) (pa vl : Nat → Nat) (c L : Nat) (nu : Nat → Nat) : Prop := MPath N n pa (frs_ w sm pa vl) (rep_ w sm vl) c L nu (vl 1) ∧ N.1 15 37 = nI (cnt_ (fi_ (SS w n sm pa vl L nu)) n) ∧ N.1 15 47 = nI (cnt_ (dr_ (SS w n sm pa vl L nu)) n) ∧ (∀ i, i < n → N.1 72 i = nI (cnt_ (fi_ (SS w n sm pa vl L nu)) (i + 1) - 1) ∧ N.1 74 i = nI (bn_ (!dr_ (SS w n sm pa vl L nu) i))) ∧ (∀ g, g ≤ cnt_ (fi_ (SS w n sm pa vl L nu)) n → N.1 73 g = nI (gs_ n (fi_ (SS w n sm pa vl L nu)) g)) ∧ KP N n pa (fi_ (SS w n sm pa vl L nu)) ∧ MGR N w n sm pa vl (fi_ (SS w n sm pa vl L nu))
section lkA
variable {w n : Nat} {sm : Nat → Nat → Nat} {pa : Nat → Nat} {nc fo : Nat} {ln : Nat → Nat} {nb : Nat → Nat → Nat} {vl : Nat → Nat}
theorem MQq_f {N N1 : cd_M} {ws : List (Nat × Option Nat)} (hf : cf_ ws N N1) (hk : (na_ ws 60 && na_ ws 61 && na_ ws 62 && na_ ws 64 && !cf_cov ws 15 24 && !cf_cov ws 15 11 && !cf_cov ws 15 17 && !cf_cov ws 15 23) = true) (h : MQq N w n sm pa nc fo ln nb vl) : MQq N1 w n sm pa nc fo ln nb vl := by
  simp only [Bool.and_eq_true] at hk
  obtain ⟨⟨⟨⟨⟨⟨⟨k1, k2⟩, k3⟩, k4⟩, k5⟩, k6⟩, k7⟩, k8⟩ := hk
  refine MQq_c (fun x i z => ?_) h
  rcases z with rfl | rfl | rfl | rfl | ⟨rfl, rfl | rfl | rfl | rfl⟩
  · exact (hf 60 i (na_cov k1 i)).1
  · exact (hf 61 i (na_cov k2 i)).1
  · exact (hf 62 i (na_cov k3 i)).1
  · exact (hf 64 i (na_cov k4 i)).1
  · exact (hf 15 24 (nf_cov k5)).1
  · exact (hf 15 11 (nf_cov k6)).1
  · exact (hf 15 17 (nf_cov k7)).1
  · exact (hf 15 23 (nf_cov k8)).1
theorem laysAllM {N : cd_M} (hw : w ≤ 6) (hb : BL w n sm pa) (hB : BR nc fo ln nb vl) (h : MQq N w n sm pa nc fo ln nb vl) : cw (f11_laysAll_15 N) (fun N1 => LA N1 w n sm pa vl fo (ln fo) (nb fo) ∧ cf_ f11_laysAll_15_w N N1) := by
  refine cw_cp ?_ (w_f11_laysAll_15 (by decide) cf_refl)
  have h9 := hb.1
  have hfo := hB.2.2.1
  have bp := BP_of hb hB hfo
  unfold f11_laysAll_15
  rw [h.2.2.2.1, cw_bind]
  refine cw_mono (laysPathM hw hb hB hfo h) (fun N1 k1 => ?_)
  obtain ⟨p1, pf⟩ := k1
  have q1 : MQq N1 w n sm pa nc fo ln nb vl := MQq_f pf (by decide) h
  have bx : BX n pa (SS w n sm pa vl (ln fo) (nb fo)) := ⟨h9, hb.2.2, fun i => vld_lt bp.2.2.2.1 (sts_vld bp.2.2.2.1 i), sq_sts bp.2.2.2.1⟩
  have mx : MX N1 n pa (SS w n sm pa vl (ln fo) (nb fo)) := ⟨p1.1.1, p1.1.2.1, fun i hi => (p1.2.2.1 i hi).1⟩
  rw [cw_bind]
  refine cw_mono (groupsM bx mx) (fun N2 k2 => ?_)
  obtain ⟨⟨g1, g2⟩, gf⟩ := k2
  have cl := cnt_le (P := fi_ (SS w n sm pa vl (ln fo) (nb fo))) n
  have q2 : MQq N2 w n sm pa nc fo ln nb vl := MQq_f gf (by decide) q1
  have fc : MFc N2 w n sm pa nc fo ln nb vl (fi_ (SS w n sm pa vl (ln fo) (nb fo))) := ⟨q2, fun g hg p hp => (g1.2.2.2 g hg).2.2 p hp, g1.1⟩
  rw [cw_bind]
  unfold f11_laysFound_15
  simp only [cd_lt_p]
  have f0 : cf_ f11_laysFound_15_w N2 (cd_wI (cd_wI (cd_wI N2 15 45 0) 15 46 0) 15 44 0) := cf_wcI (by decide) (cf_wcI (by decide) (cf_wcI (by decide) cf_refl))
  refine cw_mono (cw_cp (mf_17 hw hb hB (MFc_f f0 fc) ?_ ?_ (fun g hg => ?_) (cnt_ (fi_ (SS w n sm pa vl (ln fo) (nb fo))) n) cd_fu 0 (cd_wI (cd_wI (cd_wI N2 15 45 0) 15 46 0) 15 44 0) (by omega) (by unfold cd_fu; omega) cf_refl ?_) (w_f11_laysFound_15_L17 (ws := f11_laysFound_15_w) (M0 := N2) (by decide) _ _ _ f0)) (fun N3 k3 => ?_)
  · rw [cd_wI_at, if_pos ⟨rfl, rfl⟩]; rfl
  · rw [cd_wI_at, if_neg (by decide), cd_wI_at, if_pos ⟨rfl, rfl⟩]; rfl
  · rw [cd_wI_at, if_neg (by omega), cd_wI_at, if_neg (by omega), cd_wI_at, if_neg (by omega)]; exact (g1.2.2.2 g hg).2.1
  · rw [cd_wI_at, if_neg (by decide), cd_wI_at, if_neg (by decide), cd_wI_at, if_pos ⟨rfl, rfl⟩]; rfl
  obtain ⟨m1, mf⟩ := k3
  have F : ∀ x i, cf_cov (f11_laysGroups_15_w ++ f11_laysFound_15_w) x i = false → N3.1 x i = N1.1 x i := fun x i z => by
    have z1 : cf_ (f11_laysGroups_15_w ++ f11_laysFound_15_w) N1 N3 := cf_trans (cf_le (by decide) gf) (cf_le (by decide) mf)
    exact (z1 x i z).1
  refine cw_some.mpr ⟨⟨?_, ?_, fun i hi => ?_, ?_, ?_⟩, ?_, ?_, fun i hi => ?_, fun g hg => ?_, ?_, m1⟩
  · exact MP_c (fun x i z => F x i (by
      rcases z with rfl | rfl | rfl | rfl | ⟨rfl, rfl | rfl⟩
      · exact na_cov (by decide) i
      · exact na_cov (by decide) i
      · exact na_cov (by decide) i
      · exact na_cov (by decide) i
      · decide
      · decide)) p1.1
  · exact MD_c (fun i => F _ _ (na_cov (by decide) i)) (fun i => F _ _ (na_cov (by decide) i)) p1.2.1
  · rw [F _ _ (na_cov (by decide) i), F _ _ (na_cov (by decide) i)]; exact p1.2.2.1 i hi
  · rw [F _ _ (by decide)]; exact p1.2.2.2.1
  · rw [F _ _ (by decide)]; exact p1.2.2.2.2
  · rw [(mf 15 37 (by decide)).1]; exact g1.1
  · rw [(mf 15 47 (by decide)).1]; exact g1.2.1
  · rw [(mf 72 i (na_cov (by decide) i)).1, (mf 74 i (na_cov (by decide) i)).1]; exact g1.2.2.1 i hi
  · rw [(mf 73 g (na_cov (by decide) g)).1]
    by_cases z : g = cnt_ (fi_ (SS w n sm pa vl (ln fo) (nb fo))) n
    · rw [z, g2]
      unfold gs_
      rw [sel_ge (Nat.le_refl _)]
    · exact (g1.2.2.2 g (by omega)).1
  · intro g hg p hp
    rw [(mf 75 _ (na_cov (by decide) _)).1]
    exact (g1.2.2.2 g hg).2.2 p hp
/-- a cadence measured -/
theorem CM_solve {M M1 : cd_M} {c S : Nat} {tb : Nat → Nat} (hc : c < nc) (hCM : CM M w nc ln nb vl n sm pa) (h : SE M M1 w n sm pa (ln c) (nb c) vl c S tb) : CM M1 w nc ln nb vl n sm pa := by
  intro c' hc'
  by_cases z : c' = c
  · rw [z]
    exact Or.inr ⟨h.2.2.2.1, h.2.2.2.2.1⟩
  · have e := h.2.2.2.2.2
    rw [e 35 c' (by omega) (by omega) z, e 36 c' (by omega) (by omega) z, e 37 c' (by omega) (by omega) z, e 38 c' (by omega) (by omega) z]
    exact hCM c' hc'
theorem followPathC {M : cd_M} (hw : w ≤ 6) (hL : CL M w n sm pa) (hb : BL w n sm pa) (hR : CR M nc fo ln nb vl) (hB : BR nc fo ln nb vl) (hCM : CM M w nc ln nb vl n sm pa) (hX : CX M w n sm pa vl (ln fo) (nb fo)) : cw (f10_followPath_0 M) (fun M1 => (CM M1 w nc ln nb vl n sm pa ∧ M1.1 0 11 = 1 ∧ TK M1 (SS w n sm pa vl (ln fo) (nb fo)) (EE w n sm pa vl (ln fo) (nb fo)) (CO w n sm pa vl (ln fo) (nb fo)) n ∧ GR M1 w n sm pa vl (fi_ (SS w n sm pa vl (ln fo) (nb fo)))) ∧ cf_ f10_followPath_0_w M M1) := by
  refine cw_cp ?_ (w_f10_followPath_0 (by decide) cf_refl)
  have hfo := hB.2.2.1
  have bp := BP_of hb hB hfo
  unfold f10_followPath_0
  rcases hX with h0 | ⟨h1, h2, h3⟩
  · rw [if_pos h0, hR.2.1, cw_bind]
    refine cw_mono (solveC hw hL hb hR hB hfo) (fun M1 k1 => ?_)
    obtain ⟨⟨S, tb, hT, hE⟩, sf⟩ := k1
    rw [cw_bind]
    have L1 := CL_f sf (by decide) hL
    have R1 := CR_f sf (by decide) hR
    refine cw_mono (followC hw L1 hb R1 hB hT hE.1 hE.2.1) (fun M2 k2 => ?_)
    obtain ⟨t2, tf⟩ := k2
    rw [cw_bind]
    refine cw_mono (gatherC hw (CL_f tf (by decide) L1) hb (CR_f tf (by decide) R1) hB t2 (sq_sts bp.2.2.2.1) (fun i => vld_lt bp.2.2.2.1 (sts_vld bp.2.2.2.1 i))) (fun M3 k3 => ?_)
    obtain ⟨g3, gf⟩ := k3
    simp only [cd_lt_p]
    have ff : cf_ ((0, some 11) :: (f9_follow_11_9_7_6_w ++ f2_gather_12_11_7_6_w)) M1 (cd_wI M3 0 11 1) := cf_wcI (by decide) (cf_trans (cf_le (by decide) tf) (cf_le (by decide) gf))
    have fg : cf_ ((0, some 11) :: f2_gather_12_11_7_6_w) M2 (cd_wI M3 0 11 1) := cf_wcI (by decide) (cf_le (by decide) gf)
    refine cw_some.mpr ⟨CM_f ff (by decide) (CM_solve hfo hCM hE), by rw [cd_wI_at, if_pos ⟨rfl, rfl⟩], TK_c (fun x i z => (fg x i ?_).1) t2, GR_c (fun x i z => ⟨by rw [cd_wI_at, if_neg (by omega)], rfl⟩) g3⟩
    rcases z with rfl | ⟨z1, z2⟩
    · exact na_cov (by decide) i
    · have : x = 43 ∨ x = 44 ∨ x = 45 ∨ x = 46 ∨ x = 47 ∨ x = 48 := by omega
      rcases this with rfl | rfl | rfl | rfl | rfl | rfl <;> exact na_cov (by decide) i
  · rw [if_neg (by rw [h1]; decide)]
    exact cw_some.mpr ⟨hCM, h1, h2, h3⟩
/-- what both have, once they looked -/
def LK (M N : cd_M) (w nf : Nat) (fl : Nat → Nat → Nat → Nat) (nc fo : Nat) (ln : Nat → Nat) (nb : Nat → Nat → Nat) (vl : Nat → Nat) (n : Nat) (sm : Nat → Nat → Nat) (pa : Nat → Nat) : Prop := (CF M w nf fl ∧ MF N w nf fl ∧ BF w nf fl) ∧ (CR M nc fo ln nb vl ∧ MR N nc fo ln nb vl ∧ BR nc fo ln nb vl) ∧ (CL M w n sm pa ∧ ML N w n sm pa ∧ BL w n sm pa) ∧ TK M (SS w n sm pa vl (ln fo) (nb fo)) (EE w n sm pa vl (ln fo) (nb fo)) (CO w n sm pa vl (ln fo) (nb fo)) n ∧ GR M w n sm pa vl (fi_ (SS w n sm pa vl (ln fo) (nb fo))) ∧ LA N w n sm pa vl fo (ln fo) (nb fo)
theorem Rel_look {M N M1 N1 : cd_M} {w1 w2 : List (Nat × Option Nat)} {t : Nat} {b : Nat → Nat} {nf : Nat} {fl : Nat → Nat → Nat → Nat} {u x : Nat} {hn : Nat → Nat} {hs : Nat → Nat → Nat → Nat} {hp : Nat → Nat → Nat}
    (hT : CT M t b ∧ MT N t b) (hF : CF M w nf fl ∧ MF N w nf fl ∧ BF w nf fl) (hR : CR M nc fo ln nb vl ∧ MR N nc fo ln nb vl ∧ BR nc fo ln nb vl) (hL : CL M w n sm pa ∧ ML N w n sm pa ∧ BL w n sm pa) (hH : CH M w u x hn hs hp ∧ MH N w u hn hs hp ∧ BH w u hn hs hp) (hf : cf_ w1 M M1) (hg : cf_ w2 N N1) (k1 : (kCT w1 && kCF w1 && kCR w1 && kCL w1 && kCH w1 && kMT w2 && kMF w2 && kMR w2 && kML w2 && kMH w2) = true) (hc : CM M1 w nc ln nb vl n sm pa) (hx : CX M1 w n sm pa vl (ln fo) (nb fo)) : Rel2 M1 N1 := by
  simp only [Bool.and_eq_true] at k1
  obtain ⟨⟨⟨⟨⟨⟨⟨⟨⟨q1, q2⟩, q3⟩, q4⟩, q5⟩, q6⟩, q7⟩, q8⟩, q9⟩, q10⟩ := k1
  exact ⟨t, b, w, nf, fl, nc, fo, ln, nb, vl, n, sm, pa, u, x, hn, hs, hp, ⟨CT_f hf q1 hT.1, MT_f hg q6 hT.2⟩, ⟨CF_f hf q2 hF.1, MF_f hg q7 hF.2.1, hF.2.2⟩, ⟨CR_f hf q3 hR.1, MR_f hg q8 hR.2.1, hR.2.2⟩, ⟨CL_f hf q4 hL.1, ML_f hg q9 hL.2.1, hL.2.2⟩, ⟨CH_f hf q5 hH.1, MH_f hg q10 hH.2.1, hH.2.2⟩, hc, hx⟩
end lkA
def lk_c : List (Nat × Option Nat) := [(16, none), (56, none), (14, some 1)]
def lk_m : List (Nat × Option Nat) := [(79, none), (80, none), (81, none), (15, some 50)]
/-- an operation that looks at the path and then says what it sees -/
theorem look1 {M N : cd_M} {k1 k2 : cd_M → Option (Int32 × cd_M)} {t : Nat} {b : Nat → Nat} {w nf : Nat} {fl : Nat → Nat → Nat → Nat} {nc fo : Nat} {ln : Nat → Nat} {nb : Nat → Nat → Nat} {vl : Nat → Nat} {n : Nat} {sm : Nat → Nat → Nat} {pa : Nat → Nat} {u x : Nat} {hn : Nat → Nat} {hs : Nat → Nat → Nat → Nat} {hp : Nat → Nat → Nat}
    (hT : CT M t b ∧ MT N t b) (hF : CF M w nf fl ∧ MF N w nf fl ∧ BF w nf fl) (hR : CR M nc fo ln nb vl ∧ MR N nc fo ln nb vl ∧ BR nc fo ln nb vl) (hL : CL M w n sm pa ∧ ML N w n sm pa ∧ BL w n sm pa) (hH : CH M w u x hn hs hp ∧ MH N w u hn hs hp ∧ BH w u hn hs hp) (hCM : CM M w nc ln nb vl n sm pa) (hX : CX M w n sm pa vl (ln fo) (nb fo))
    (H : ∀ (M1 N1 : cd_M), LK M1 N1 w nf fl nc fo ln nb vl n sm pa → ∃ v M2 N2, k1 M1 = some (v, M2) ∧ cf_ lk_c M1 M2 ∧ k2 N1 = some (v, N2) ∧ cf_ lk_m N1 N2) :
    ∃ v, cw ((f10_followPath_0 M).bind k1) (fun r => r.1 = v ∧ cw ((f11_laysAll_15 N).bind k2) (fun q => q.1 = v ∧ Rel2 r.2 q.2)) := by
  have hw := hF.2.2.1
  obtain ⟨M1, e1, ⟨c1, c2, c3, c4⟩, cf1⟩ := followPathC hw hL.1 hL.2.2 hR.1 hR.2.2 hCM hX
  obtain ⟨N1, e2, m1, mf1⟩ := laysAllM hw hL.2.2 hR.2.2 (⟨hF.2.1.1, hL.2.1, hR.2.1⟩ : MQq N w n sm pa nc fo ln nb vl)
  have lk : LK M1 N1 w nf fl nc fo ln nb vl n sm pa := ⟨⟨CF_f cf1 (by decide) hF.1, MF_f mf1 (by decide) hF.2.1, hF.2.2⟩, ⟨CR_f cf1 (by decide) hR.1, MR_f mf1 (by decide) hR.2.1, hR.2.2⟩, ⟨CL_f cf1 (by decide) hL.1, ML_f mf1 (by decide) hL.2.1, hL.2.2⟩, c3, c4, m1⟩
  obtain ⟨v, M2, N2, a1, a2, a3, a4⟩ := H M1 N1 lk
  refine ⟨v, (v, M2), by rw [e1, bind_p]; exact a1, rfl, (v, N2), by rw [e2, bind_p]; exact a3, rfl, ?_⟩
  have f1 : cf_ (lk_c ++ f10_followPath_0_w) M M2 := cf_trans (cf_le (by decide) cf1) (cf_le (by decide) a2)
  have f2 : cf_ (lk_m ++ f11_laysAll_15_w) N N2 := cf_trans (cf_le (by decide) mf1) (cf_le (by decide) a4)
  exact Rel_look hT hF hR hL hH f1 f2 (by decide) (CM_f a2 (by decide) c1) (CX_f a2 (by decide) (Or.inr ⟨c2, c3, c4⟩))
theorem look2 {M N : cd_M} {k1 k2 : cd_M → Option (Int32 × cd_M)} (h : Rel2 M N)
    (H : ∀ (w nf : Nat) (fl : Nat → Nat → Nat → Nat) (nc fo : Nat) (ln : Nat → Nat) (nb : Nat → Nat → Nat) (vl : Nat → Nat) (n : Nat) (sm : Nat → Nat → Nat) (pa : Nat → Nat) (M1 N1 : cd_M), LK M1 N1 w nf fl nc fo ln nb vl n sm pa → ∃ v M2 N2, k1 M1 = some (v, M2) ∧ cf_ lk_c M1 M2 ∧ k2 N1 = some (v, N2) ∧ cf_ lk_m N1 N2) :
    ∃ v, cw ((f10_followPath_0 M).bind k1) (fun r => r.1 = v ∧ cw ((f11_laysAll_15 N).bind k2) (fun q => q.1 = v ∧ Rel2 r.2 q.2)) := by
  obtain ⟨t, b, w, nf, fl, nc, fo, ln, nb, vl, n, sm, pa, u, x, hn, hs, hp, hT, hF, hR, hL, hH, hCM, hX⟩ := h
  exact look1 hT hF hR hL hH hCM hX (fun M1 N1 lk => H w nf fl nc fo ln nb vl n sm pa M1 N1 lk)
