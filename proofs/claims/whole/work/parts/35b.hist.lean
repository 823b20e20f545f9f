/-! keeps and undo of the reference; undo of the class -/
section hiB
variable {M N : cd_M} {w n u x : Nat} {sm : Nat → Nat → Nat} {pa : Nat → Nat} {hn : Nat → Nat} {hs : Nat → Nat → Nat → Nat} {hp : Nat → Nat → Nat}
theorem keeps_L93 (hu : u < 12) : ∀ (f k : Nat) (N : cd_M), k ≤ 630 → 630 - k < f → N.1 15 26 = nI u → cw (f11_keeps_15_L93 f (nI k) N) (fun N1 => N1.1 15 26 = nI (u + 1) ∧ ∀ i, N1.1 66 i = if 630 * u + k ≤ i ∧ i < 630 * u + 630 then N.1 64 (i - 630 * u) else N.1 66 i)
  | 0, k, N, hk, hf, h => by omega
  | f + 1, k, N, hk, hf, h => by
    rw [f11_keeps_15_L93]
    dsimp only [cd_lt]
    rw [show (630 : Int32) = nI 630 from rfl, h, pk_mul, nI_add]
    by_cases q : 630 ≤ k
    · rw [if_pos (nI_le q (by omega))]
      refine cw_some.mpr ⟨?_, fun i => ?_⟩
      · rw [cd_wI_at, if_pos ⟨rfl, rfl⟩, nI_1]
      · rw [cd_wI_at, if_neg (by omega), if_neg (by omega)]
    · rw [if_neg (nI_ge (by omega) (by omega)), if_pos (by rw [ci_nI (by omega)]; omega), if_pos (by rw [ci_nI (by omega)]; omega), nI_clamp (by omega), nI_clamp (by omega), nI_1]
      refine cw_mono (keeps_L93 hu f (k + 1) _ (by omega) (by omega) (by rw [cd_wI_at, if_neg (by omega)]; exact h)) (fun N1 h1 => ⟨h1.1, fun i => ?_⟩)
      rw [h1.2 i]
      have e64 : ∀ j, (cd_wI N 66 (630 * u + k) (N.1 64 k)).1 64 j = N.1 64 j := fun j => by rw [cd_wI_at, if_neg (by omega)]
      rw [e64, cd_wI_at]
      by_cases z : 630 * u + (k + 1) ≤ i ∧ i < 630 * u + 630
      · rw [if_pos z, if_pos (by omega)]
      · rw [if_neg z]
        by_cases y : i = 630 * u + k
        · rw [if_pos ⟨rfl, y⟩, if_pos (by omega), show i - 630 * u = k by omega]
        · rw [if_neg (fun v => y v.2), if_neg (by omega)]
/-- behind the shift: u below 12 are kept -/
theorem keeps_L78 (hw : w ≤ 6) (hL : ML N w n sm pa) (hb : BL w n sm pa) (hH : MH N w u hn hs hp) (hB : BH w u hn hs hp) (hu : u < 12) {hn' : Nat → Nat} {hs' : Nat → Nat → Nat → Nat} {hp' : Nat → Nat → Nat} (e1 : ∀ j, j < u → hn' j = hn j ∧ hs' j = hs j ∧ hp' j = hp j) (e2 : hn' u = n ∧ hs' u = sm ∧ hp' u = pa) : cw (f11_keeps_15_L78 N) (fun N1 => MH N1 w (u + 1) hn' hs' hp') := by
  have hn90 := hb.1
  unfold f11_keeps_15_L78
  dsimp only [cd_lt]
  rw [hH.1, hL.1, if_pos (by rw [ci_nI (by omega)]; omega), nI_clamp (by omega)]
  refine cw_mono (cw_cp (keeps_L93 hu cd_fu 0 _ (by omega) (by unfold cd_fu; omega) (by rw [cd_wI_at, if_neg (by omega)]; exact hH.1)) (w_f11_keeps_15_L93 (ws := f11_keeps_15_L93_w) (by decide) _ _ _ cf_refl)) (fun N1 h1 => ?_)
  obtain ⟨⟨k1, k2⟩, kf⟩ := h1
  have e65 : ∀ j, N1.1 65 j = if j = u then nI n else N.1 65 j := by
    intro j
    rw [(kf 65 j (na_cov (by decide) j)).1, cd_wI_at]
    by_cases y : j = u
    · rw [if_pos ⟨rfl, y⟩, if_pos y]
    · rw [if_neg (fun v => y v.2), if_neg y]
  have e66 : ∀ i, N1.1 66 i = if 630 * u + 0 ≤ i ∧ i < 630 * u + 630 then N.1 64 (i - 630 * u) else N.1 66 i := by
    intro i
    have z1 : ∀ i, (cd_wI N 65 u (nI n)).1 64 i = N.1 64 i := fun i => by rw [cd_wI_at, if_neg (by omega)]
    have z2 : ∀ i, (cd_wI N 65 u (nI n)).1 66 i = N.1 66 i := fun i => by rw [cd_wI_at, if_neg (by omega)]
    rw [k2 i, z1, z2]
  refine ⟨k1, fun j hj => ?_⟩
  rw [e65]
  by_cases y : j = u
  · subst y
    rw [if_pos rfl, e2.1, e2.2.1, e2.2.2]
    refine ⟨rfl, fun i hi => ⟨fun k hk => ?_, ?_⟩⟩
    · rw [e66, if_pos (by omega), ← hL.2.1 i k hi hk, show 630 * j + (7 * i + k) - 630 * j = 7 * i + k by omega]
    · rw [e66, if_pos (by omega), ← hL.2.2 i hi, show 630 * j + (7 * i + 6) - 630 * j = 7 * i + 6 by omega]
  · rw [if_neg y, (e1 j (by omega)).1, (e1 j (by omega)).2.1, (e1 j (by omega)).2.2]
    have q := hH.2 j (by omega)
    have hb2 := (hB.2 j (by omega)).1
    refine ⟨q.1, fun i hi => ⟨fun k hk => ?_, ?_⟩⟩
    · rw [e66, if_neg (by omega)]
      exact (q.2 i hi).1 k hk
    · rw [e66, if_neg (by omega)]
      exact (q.2 i hi).2
theorem keeps_L39 {Q : cd_M → Prop} : ∀ (f k : Nat) (N : cd_M), k ≤ 6930 → 6930 - k < f → (∀ N1 : cd_M, cf_ [(66, none)] N N1 → (∀ i, N1.1 66 i = if k ≤ i ∧ i < 6930 then N.1 66 (i + 630) else N.1 66 i) → cw (f11_keeps_15_L78 (cd_wI N1 15 26 (N1.1 15 26 - 1))) Q) → cw (f11_keeps_15_L39 f (nI k) N) Q
  | 0, k, N, hk, hf, h => by omega
  | f + 1, k, N, hk, hf, h => by
    rw [f11_keeps_15_L39]
    dsimp only [cd_lt]
    rw [show (630 : Int32) = nI 630 from rfl, show (6930 : Int32) = nI 6930 from rfl, nI_add]
    by_cases q : 6930 ≤ k
    · rw [if_pos (nI_le q (by omega))]
      exact h N cf_refl (fun i => by rw [if_neg (by omega)])
    · rw [if_neg (nI_ge (by omega) (by omega)), if_pos (by rw [ci_nI (by omega)]; omega), if_pos (by rw [ci_nI (by omega)]; omega), nI_clamp (by omega), nI_clamp (by omega), nI_1]
      refine keeps_L39 f (k + 1) _ (by omega) (by omega) (fun N1 h1 h2 => h N1 (cf_trans (cf_wcI (by rfl) cf_refl) h1) (fun i => ?_))
      rw [h2 i]
      have z : ∀ i, (cd_wI N 66 k (N.1 66 (k + 630))).1 66 i = if i = k then N.1 66 (k + 630) else N.1 66 i := by
        intro i
        rw [cd_wI_at]
        by_cases y : i = k
        · rw [if_pos ⟨rfl, y⟩, if_pos y]
        · rw [if_neg (fun v => y v.2), if_neg y]
      rw [z, z]
      by_cases y : i = k
      · subst y
        rw [if_neg (by omega), if_pos rfl, if_pos (by omega)]
      · by_cases x : k + 1 ≤ i ∧ i < 6930
        · rw [if_pos x, if_neg (by omega), if_pos (by omega)]
        · rw [if_neg x, if_neg y, if_neg (by omega)]
theorem keeps_L11 {Q : cd_M → Prop} : ∀ (f k : Nat) (N : cd_M), k ≤ 11 → 11 - k < f → (∀ N1 : cd_M, cf_ [(65, none)] N N1 → (∀ i, N1.1 65 i = if k ≤ i ∧ i < 11 then N.1 65 (i + 1) else N.1 65 i) → cw (f11_keeps_15_L39 cd_fu 0 N1) Q) → cw (f11_keeps_15_L11 f (nI k) N) Q
  | 0, k, N, hk, hf, h => by omega
  | f + 1, k, N, hk, hf, h => by
    rw [f11_keeps_15_L11]
    dsimp only [cd_lt]
    rw [show (11 : Int32) = nI 11 from rfl, nI_1]
    by_cases q : 11 ≤ k
    · rw [if_pos (nI_le q (by omega))]
      exact h N cf_refl (fun i => by rw [if_neg (by omega)])
    · rw [if_neg (nI_ge (by omega) (by omega)), if_pos (by rw [ci_nI (by omega)]; omega), if_pos (by rw [ci_nI (by omega)]; omega), nI_clamp (by omega), nI_clamp (by omega)]
      refine keeps_L11 f (k + 1) _ (by omega) (by omega) (fun N1 h1 h2 => h N1 (cf_trans (cf_wcI (by rfl) cf_refl) h1) (fun i => ?_))
      rw [h2 i]
      have z : ∀ i, (cd_wI N 65 k (N.1 65 (k + 1))).1 65 i = if i = k then N.1 65 (k + 1) else N.1 65 i := by
        intro i
        rw [cd_wI_at]
        by_cases y : i = k
        · rw [if_pos ⟨rfl, y⟩, if_pos y]
        · rw [if_neg (fun v => y v.2), if_neg y]
      rw [z, z]
      by_cases y : i = k
      · subst y
        rw [if_neg (by omega), if_pos rfl, if_pos (by omega)]
      · by_cases x : k + 1 ≤ i ∧ i < 11
        · rw [if_pos x, if_neg (by omega), if_pos (by omega)]
        · rw [if_neg x, if_neg y, if_neg (by omega)]
theorem keeps15 (hw : w ≤ 6) (hL : ML N w n sm pa) (hb : BL w n sm pa) (hH : MH N w u hn hs hp) (hB : BH w u hn hs hp) : cw (f11_keeps_15 N) (fun N1 => (ML N1 w n sm pa ∧ MH N1 w (pu_ u) (ph_ u hn n) (ph_ u hs sm) (ph_ u hp pa)) ∧ cf_ f11_keeps_15_w N N1) := by
  suffices H : cw (f11_keeps_15 N) (fun N1 => MH N1 w (pu_ u) (ph_ u hn n) (ph_ u hs sm) (ph_ u hp pa)) by
    refine cw_mono (cw_cp H (w_f11_keeps_15 (ws := f11_keeps_15_w) (by decide) cf_refl)) (fun N1 h1 => ⟨⟨ML_f h1.2 (by decide) hL, h1.1⟩, h1.2⟩)
  have hu := hB.1
  unfold f11_keeps_15
  rw [hH.1, show (12 : Int32) = nI 12 from rfl]
  by_cases q : u = 12
  · subst q
    rw [if_pos rfl, show pu_ 12 = 11 + 1 from rfl]
    refine keeps_L11 cd_fu 0 N (by omega) (by unfold cd_fu; omega) (fun N1 f1 h1 => ?_)
    refine keeps_L39 cd_fu 0 N1 (by omega) (by unfold cd_fu; omega) (fun N2 f2 h2 => ?_)
    have e15 : ∀ i, N2.1 15 i = N.1 15 i := fun i => ((f2 15 i (na_cov (by decide) i)).1).trans (f1 15 i (na_cov (by decide) i)).1
    have e64 : ∀ i, N2.1 64 i = N.1 64 i := fun i => ((f2 64 i (na_cov (by decide) i)).1).trans (f1 64 i (na_cov (by decide) i)).1
    have e65 : ∀ i, i < 11 → N2.1 65 i = N.1 65 (i + 1) := fun i hi => by rw [(f2 65 i (na_cov (by decide) i)).1, h1 i, if_pos (by omega)]
    have e66 : ∀ i, i < 6930 → N2.1 66 i = N.1 66 (i + 630) := fun i hi => by rw [h2 i, if_pos (by omega), (f1 66 _ (na_cov (by decide) _)).1]
    have e11 : N2.1 15 26 - 1 = nI 11 := by rw [e15, hH.1]; rfl
    rw [e11]
    have g : ∀ x i, ¬ (x = 15 ∧ i = 26) → (cd_wI N2 15 26 (nI 11)).1 x i = N2.1 x i := fun x i z => by rw [cd_wI_at, if_neg z]
    refine keeps_L78 (n := n) (sm := sm) (pa := pa) (u := 11) (hn := fun j => hn (j + 1)) (hs := fun j => hs (j + 1)) (hp := fun j => hp (j + 1)) hw ?_ hb ?_ ?_ (by decide) ?_ ?_
    · exact ML_c ((g _ _ (by omega)).trans (e15 _)) (fun i => (g _ _ (by omega)).trans (e64 i)) hL
    · refine ⟨by rw [cd_wI_at, if_pos ⟨rfl, rfl⟩], fun j hj => ?_⟩
      have z := hH.2 (j + 1) (by omega)
      have hb2 := (hB.2 (j + 1) (by omega)).1
      refine ⟨by rw [g _ _ (by omega), e65 j hj]; exact z.1, fun i hi => ⟨fun k hk => ?_, ?_⟩⟩
      · have hi : i < hn (j + 1) := hi
        rw [g _ _ (by omega), e66 _ (by omega), show 630 * j + (7 * i + k) + 630 = 630 * (j + 1) + (7 * i + k) by omega]
        exact (z.2 i hi).1 k hk
      · have hi : i < hn (j + 1) := hi
        rw [g _ _ (by omega), e66 _ (by omega), show 630 * j + (7 * i + 6) + 630 = 630 * (j + 1) + (7 * i + 6) by omega]
        exact (z.2 i hi).2
    · exact ⟨by omega, fun j hj => hB.2 (j + 1) (by omega)⟩
    · intro j hj
      have z : ¬ j + 1 = pu_ 12 := by show ¬ j + 1 = 12; omega
      unfold ph_
      rw [if_neg z, if_neg z, if_neg z]
      exact ⟨rfl, rfl, rfl⟩
    · exact ⟨rfl, rfl, rfl⟩
  · have e : pu_ u = u + 1 := by unfold pu_; rw [if_neg q]
    rw [if_neg (fun z => q ((nI_eq (by omega) (by omega)).mp z)), e]
    refine keeps_L78 (n := n) (sm := sm) (pa := pa) hw hL hb hH hB (by omega) ?_ ?_
    · intro j hj
      have z : ¬ j + 1 = pu_ u := by rw [e]; omega
      unfold ph_
      rw [if_neg z, if_neg z, if_neg z, if_neg q]
      exact ⟨rfl, rfl, rfl⟩
    · have z : u + 1 = pu_ u := e.symm
      unfold ph_
      rw [if_pos z, if_pos z, if_pos z]
      exact ⟨rfl, rfl, rfl⟩
end hiB
