/-! the class: solve -/
section slA
variable {w n : Nat} {sm : Nat → Nat → Nat} {pa : Nat → Nat} {nc fo : Nat} {ln : Nat → Nat} {nb : Nat → Nat → Nat} {vl : Nat → Nat} {c S : Nat} {tb : Nat → Nat}
theorem weighC {M : cd_M} {i : Nat} (hw : w ≤ 6) (hL : CL M w n sm pa) (hb : BL w n sm pa) (hR : CR M nc fo ln nb vl) (hB : BR nc fo ln nb vl) (hc : c < nc) (hT : TBa (ln c) (nb c) S tb) (hC : CS M (ln c) (nb c) S tb) (hi : i < n) (hW : WL M n pa (frs_ w sm pa vl) (rep_ w sm vl) (ln c) (nb c) (vl 1) S tb i) (h95 : i + 1 < n → M.1 9 5 = nI (W_ n pa (frs_ w sm pa vl) (rep_ w sm vl) (ln c) (nb c) (vl 1) (i + 1) (en_ n pa (frs_ w sm pa vl) (rep_ w sm vl) (ln c) (nb c) (vl 1) (i + 1)))) :
    cw (f0_weighStates_9_7_6 (nI i) M) (fun M1 => cf_ [(31, none), (33, none)] M M1 ∧ (∀ j, j < S → M1.1 31 j = nI (W_ n pa (frs_ w sm pa vl) (rep_ w sm vl) (ln c) (nb c) (vl 1) i (tb j))) ∧ GB M1 i S (fun j => of_ n pa (frs_ w sm pa vl) (rep_ w sm vl) (ln c) (nb c) (vl 1) i (tb j)) ∧ ∀ x, ¬ (x = 2 * i ∨ x = 2 * i + 1) → M1.2 33 x = M.2 33 x) := by
  have h9 := hb.1
  have hS := hT.2.1
  have bp := BP_of hb hB hc
  have go : cw (f0_weighStates_9_7_6_L93 (nI i) (nI (if i + 1 < n ∧ pa (i + 1) ≠ pa i then 1 else 0)) (nI (128 * frs_ w sm pa vl i)) (nI (128 * rep_ w sm vl i)) (nI (if i + 1 < n then bye_ n pa (frs_ w sm pa vl) (rep_ w sm vl) (ln c) (nb c) (vl 1) (i + 1) else 0)) M) (fun M1 => cf_ [(31, none), (33, none)] M M1 ∧ (∀ j, j < S → M1.1 31 j = nI (W_ n pa (frs_ w sm pa vl) (rep_ w sm vl) (ln c) (nb c) (vl 1) i (tb j))) ∧ GB M1 i S (fun j => of_ n pa (frs_ w sm pa vl) (rep_ w sm vl) (ln c) (nb c) (vl 1) i (tb j)) ∧ ∀ x, ¬ (x = 2 * i ∨ x = 2 * i + 1) → M1.2 33 x = M.2 33 x) := by
    unfold f0_weighStates_9_7_6_L93
    have e1 : (2 : Int32) * nI i = nI (2 * i) := pk_mul 2 i
    rw [e1, nI_1, if_pos (by rw [ci_nI (by omega)]; omega)]
    simp only [cd_lt_p]
    rw [if_pos (by rw [ci_nI (by omega)]; omega), nI_clamp (by omega), nI_clamp (by omega)]
    refine ws_118 bp hT hC hi hW S cd_fu 0 _ (by omega) (by unfold cd_fu; omega) ?_ (fun j hj => absurd hj (Nat.not_lt_zero j)) (fun q j hq hj => ?_) (fun x hx => ?_)
    · exact cf_wcL (cf_cov_iff.mpr (Or.inl (by simp))) (cf_wcL (cf_cov_iff.mpr (Or.inl (by simp))) cf_refl)
    · have e0 : (cd_wL (cd_wL M 33 (2 * i) 0) 33 (2 * i + 1) 0).2 33 (2 * i + q) = 0 := by
        rw [cd_wL_at]
        by_cases z : q = 1
        · rw [if_pos ⟨rfl, by omega⟩]
        · rw [if_neg (by omega), cd_wL_at, if_pos ⟨rfl, by omega⟩]
      rw [e0, decide_eq_false (Nat.not_lt_zero _), Bool.false_and]
      exact BitVec.getLsbD_zero
    · rw [cd_wL_at, if_neg (by omega), cd_wL_at, if_neg (by omega)]
  have e128 : ∀ x : Nat, (128 : Int32) * nI x = nI (128 * x) := fun x => pk_mul 128 x
  have h42 : ∀ s : Int32, (s = nI (if i + 1 < n ∧ pa (i + 1) ≠ pa i then 1 else 0)) → cw (f0_weighStates_9_7_6_L42 (nI i) (if i + 1 < n then 0 else 1) s M) (fun M1 => cf_ [(31, none), (33, none)] M M1 ∧ (∀ j, j < S → M1.1 31 j = nI (W_ n pa (frs_ w sm pa vl) (rep_ w sm vl) (ln c) (nb c) (vl 1) i (tb j))) ∧ GB M1 i S (fun j => of_ n pa (frs_ w sm pa vl) (rep_ w sm vl) (ln c) (nb c) (vl 1) i (tb j)) ∧ ∀ x, ¬ (x = 2 * i ∨ x = 2 * i + 1) → M1.2 33 x = M.2 33 x) := by
    rintro s rfl
    unfold f0_weighStates_9_7_6_L42
    rw [freshC hw hL hb hR hB hi, bind_p, repC hw hL hb hR hB hi]
    simp only [cd_lt_p, bind_p]
    rw [e128, e128]
    by_cases q : i + 1 < n
    · rw [if_pos q, if_pos rfl]
      have e1 : f5_value_6 1 M = some (nI (vl 1)) := val6 hR (v := 1) (by decide)
      rw [e1, bind_p, h95 q, e128, nI_add, nI_1]
      have eb : bye_ n pa (frs_ w sm pa vl) (rep_ w sm vl) (ln c) (nb c) (vl 1) (i + 1) = W_ n pa (frs_ w sm pa vl) (rep_ w sm vl) (ln c) (nb c) (vl 1) (i + 1) (en_ n pa (frs_ w sm pa vl) (rep_ w sm vl) (ln c) (nb c) (vl 1) (i + 1)) + 128 * vl 1 + 1 := rfl
      rw [if_pos (show i + 1 < n from q), eb] at go
      exact go
    · rw [if_neg q, if_neg (by decide)]
      rw [if_neg (show ¬ i + 1 < n from q)] at go
      exact go
  unfold f0_weighStates_9_7_6 f4_size_7
  rw [hL.1, nI_1]
  by_cases q : i + 1 < n
  · rw [if_pos q] at h42
    rw [if_pos (nI_lt q (by omega))]
    unfold f0_weighStates_9_7_6_L15 f0_weighStates_9_7_6_L41
    rw [if_pos rfl, parity7 hw hL hb hi, bind_p, nI_1, parity7 hw hL hb q, bind_p]
    have p1 := hb.2.2 i hi
    have p2 := hb.2.2 (i + 1) q
    by_cases z : pa (i + 1) = pa i
    · rw [if_pos (by rw [z])]
      exact h42 0 (by rw [if_neg (fun u => u.2 z)]; rfl)
    · rw [if_neg (fun u => z ((nI_eq (by omega) (by omega)).mp u).symm)]
      exact h42 1 (by rw [if_pos ⟨q, z⟩]; rfl)
  · rw [if_neg q] at h42
    rw [if_neg (nI_nlt (by omega) (by omega))]
    unfold f0_weighStates_9_7_6_L15 f0_weighStates_9_7_6_L41
    rw [if_neg (by decide)]
    exact h42 0 (by rw [if_neg (fun u => q u.1)]; rfl)
end slA
section slB
variable {n : Nat} {pa fr rp : Nat → Nat} {c L : Nat} {nu : Nat → Nat} {ed S : Nat} {tb : Nat → Nat}
theorem le_4 {M : cd_M} {i : Nat} (hB : BP n pa c L nu ed fr rp) (hT : TBa L nu S tb) (hC : CS M L nu S tb) (h31 : ∀ j, j < S → M.1 31 j = nI (W_ n pa fr rp L nu ed i (tb j))) : ∀ (r fu s l : Nat), s + r = S → r < fu → l < s → (tb l % 5 = 0 ∧ (∀ j, j < s → tb j % 5 = 0 → W_ n pa fr rp L nu ed i (tb l) ≤ W_ n pa fr rp L nu ed i (tb j)) ∧ ∀ j, j < l → tb j % 5 = 0 → W_ n pa fr rp L nu ed i (tb l) < W_ n pa fr rp L nu ed i (tb j)) →
    f0_leastEntry_9_L4 fu (nI l) (nI s) M = some (nI (ix_ nu (en_ n pa fr rp L nu ed i))) := by
  intro r
  have hS := hT.2.1
  have wl := fun st => W_le (n := n) (pa := pa) (L := L) (nu := nu) hB.2.2.2.2 hB.1 i st
  induction r with
  | zero =>
    intro fu s l hs hfu hl hI
    obtain ⟨fu, rfl⟩ := Nat.exists_eq_succ_of_ne_zero (show fu ≠ 0 by omega)
    have es : s = S := by omega
    subst es
    rw [f0_leastEntry_9_L4]
    unfold f6_size_10
    rw [hC.1, if_pos (nI_le (by omega) (by omega))]
    obtain ⟨e1, e2, e3, e4⟩ := en_spec (n := n) (pa := pa) (fr := fr) (rp := rp) (ed := ed) hT.2.2 i
    have vl_ := (hT.1.1 l hl).1
    have key : tb l = en_ n pa fr rp L nu ed i := by
      refine fst_uniq (C := fun o => ent_ L nu o = true) (V := W_ n pa fr rp L nu ed i) (B := 150) ⟨ent_iff.mpr ⟨vl_, hI.1⟩, vld_lt hT.2.2 vl_, fun j hj ej => ?_, fun j hj ej => ?_⟩ ⟨e1, e2, e3, e4⟩
      · obtain ⟨v, z⟩ := ent_iff.mp ej
        obtain ⟨x1, x2⟩ := TBa_ix hT v
        have := hI.2.1 _ x1 (by rw [x2]; exact z)
        rw [x2] at this
        exact this
      · obtain ⟨v, z⟩ := ent_iff.mp ej
        obtain ⟨x1, x2⟩ := TBa_ix hT v
        have hlt := (TBa_lt hT v vl_).mpr hj
        rw [(hT.1.1 l hl).2.2] at hlt
        have := hI.2.2 _ hlt (by rw [x2]; exact z)
        rw [x2] at this
        exact this
    rw [← key, (hT.1.1 l hl).2.2]
  | succ r ih =>
    intro fu s l hs hfu hl hI
    obtain ⟨fu, rfl⟩ := Nat.exists_eq_succ_of_ne_zero (show fu ≠ 0 by omega)
    have w1 := wl (tb s)
    have w2 := wl (tb l)
    rw [f0_leastEntry_9_L4]
    unfold f6_size_10 f0_leastEntry_9_L43
    rw [hC.1, if_neg (nI_ge (by omega) (by omega)), seen10 hC hS (by omega), bind_p]
    simp only [cd_lt_p]
    rw [nI_1]
    by_cases q : tb s % 5 = 0
    · rw [if_pos (by rw [q]; rfl), if_pos (show cd_in (nI s) 90 = true by rw [ci_nI (by omega)]; omega), if_pos (show cd_in (nI l) 90 = true by rw [ci_nI (by omega)]; omega), nI_clamp (by omega), nI_clamp (by omega), h31 s (by omega), h31 l (by omega)]
      by_cases z : W_ n pa fr rp L nu ed i (tb l) ≤ W_ n pa fr rp L nu ed i (tb s)
      · rw [if_pos (nI_le z (by omega))]
        refine ih fu (s + 1) l (by omega) (by omega) (by omega) ⟨hI.1, fun j hj ej => ?_, hI.2.2⟩
        by_cases u : j = s
        · rw [u]; exact z
        · exact hI.2.1 j (by omega) ej
      · rw [if_neg (nI_ge (by omega) (by omega))]
        refine ih fu (s + 1) s (by omega) (by omega) (by omega) ⟨q, fun j hj ej => ?_, fun j hj ej => ?_⟩
        · by_cases u : j = s
          · rw [u]; exact Nat.le_refl _
          · have := hI.2.1 j (by omega) ej; omega
        · have := hI.2.1 j (by omega) ej; omega
    · rw [if_neg (nI_ne0 (by omega) (by omega))]
      refine ih fu (s + 1) l (by omega) (by omega) (by omega) ⟨hI.1, fun j hj ej => ?_, hI.2.2⟩
      by_cases u : j = s
      · rw [u] at ej; exact absurd ej q
      · exact hI.2.1 j (by omega) ej
theorem leastC {M : cd_M} {i : Nat} (hB : BP n pa c L nu ed fr rp) (hT : TBa L nu S tb) (hC : CS M L nu S tb) (h31 : ∀ j, j < S → M.1 31 j = nI (W_ n pa fr rp L nu ed i (tb j))) : f0_leastEntry_9 M = some (nI (ix_ nu (en_ n pa fr rp L nu ed i))) := by
  have hS := hT.2.1
  obtain ⟨s0, t0⟩ := TBa_0 hT
  unfold f0_leastEntry_9
  refine le_4 hB hT hC h31 (S - 1) cd_fu 1 0 (by omega) (by unfold cd_fu; omega) (by omega) ⟨by rw [t0], fun j hj _ => ?_, fun j hj => absurd hj (Nat.not_lt_zero j)⟩
  rw [show j = 0 by omega]
  exact Nat.le_refl _
end slB
/-- what solve has found of the fields from k on -/
def SV (M : cd_M) (n : Nat) (pa fr rp : Nat → Nat) (L : Nat) (nu : Nat → Nat) (ed S : Nat) (tb : Nat → Nat) (k : Nat) : Prop := ∀ i, k ≤ i → i < n → M.1 34 i = nI (ix_ nu (en_ n pa fr rp L nu ed i)) ∧ GB M i S (fun j => of_ n pa fr rp L nu ed i (tb j))
section slC
variable {w n : Nat} {sm : Nat → Nat → Nat} {pa : Nat → Nat} {nc fo : Nat} {ln : Nat → Nat} {nb : Nat → Nat → Nat} {vl : Nat → Nat} {c S : Nat} {tb : Nat → Nat}
/-- solve's end -/
def SE (M M1 : cd_M) (w n : Nat) (sm : Nat → Nat → Nat) (pa : Nat → Nat) (L : Nat) (nu : Nat → Nat) (vl : Nat → Nat) (c S : Nat) (tb : Nat → Nat) : Prop :=
  CS M1 L nu S tb ∧ SV M1 n pa (frs_ w sm pa vl) (rep_ w sm vl) L nu (vl 1) S tb 0 ∧ M1.1 35 c = 1 ∧ M1.1 36 c = nI (sig_ (cst_ n pa (frs_ w sm pa vl) (rep_ w sm vl) L nu (vl 1)) n) ∧ (0 < n → M1.1 37 c = nI (sts_ n pa (frs_ w sm pa vl) (rep_ w sm vl) L nu (vl 1) 0 / 25) ∧ M1.1 38 c = nI (sts_ n pa (frs_ w sm pa vl) (rep_ w sm vl) L nu (vl 1) 0 / 5 % 5)) ∧ ∀ x c', 35 ≤ x → x ≤ 38 → c' ≠ c → M1.1 x c' = M.1 x c'
def sl_w : List (Nat × Option Nat) := [(10, some 4), (39, none), (40, none), (41, none), (42, none), (9, some 5), (33, none), (31, none), (34, none), (32, none)]
theorem sv_22 {M0 : cd_M} (hw : w ≤ 6) (hL : CL M0 w n sm pa) (hb : BL w n sm pa) (hR : CR M0 nc fo ln nb vl) (hB : BR nc fo ln nb vl) (hc : c < nc) (hT : TBa (ln c) (nb c) S tb) : ∀ (k fu : Nat) (M : cd_M), k ≤ n → k < fu → cf_ sl_w M0 M → CS M (ln c) (nb c) S tb → SV M n pa (frs_ w sm pa vl) (rep_ w sm vl) (ln c) (nb c) (vl 1) S tb k →
    (k < n → (∀ j, j < S → M.1 32 j = nI (W_ n pa (frs_ w sm pa vl) (rep_ w sm vl) (ln c) (nb c) (vl 1) k (tb j))) ∧ M.1 9 5 = nI (W_ n pa (frs_ w sm pa vl) (rep_ w sm vl) (ln c) (nb c) (vl 1) k (en_ n pa (frs_ w sm pa vl) (rep_ w sm vl) (ln c) (nb c) (vl 1) k))) → (k = n → M.1 9 5 = 0) → cw (f0_solve_9_7_6_L22 fu (nI c) (nI k - 1) M) (fun M1 => SE M0 M1 w n sm pa (ln c) (nb c) vl c S tb) := by
  intro k
  have h9 := hb.1
  have h4 := hB.2.1
  have hS := hT.2.1
  have bp := BP_of hb hB hc
  induction k with
  | zero =>
    intro fu M hk hfu hf hC hV h1 h2
    obtain ⟨fu, rfl⟩ := Nat.exists_eq_succ_of_ne_zero (show fu ≠ 0 by omega)
    have cin : cd_in (nI c) 4 = true := by rw [ci_nI (by omega)]; omega
    rw [f0_solve_9_7_6_L22, if_pos (show nI 0 - 1 < 0 by decide), if_neg (nI_pos (by omega)), show (4 : Int32) = nI 4 from rfl, if_neg (nI_ge (by omega) (by omega)), if_pos cin, nI_clamp (by omega)]
    simp only [cd_lt_p]
    rw [if_pos cin, if_pos (show cd_in 0 90 = true by decide), show vp_nar .boolean 1 = 1 from rfl]
    have g1 : ∀ x i, ¬ (x = 35 ∧ i = c) → (cd_wI M 35 c 1).1 x i = M.1 x i := fun x i z => by rw [cd_wI_at, if_neg z]
    rw [g1 9 5 (by omega)]
    generalize hv5 : M.1 9 5 / 128 = v5
    have g2 : ∀ x i, ¬ ((x = 35 ∨ x = 36) ∧ i = c) → (cd_wI (cd_wI M 35 c 1) 36 c v5).1 x i = M.1 x i := fun x i z => by rw [cd_wI_at, if_neg (by omega), g1 _ _ (by omega)]
    rw [g2 34 _ (by omega), show Int32.toNatClampNeg 0 = 0 from rfl]
    have C2 : CS (cd_wI (cd_wI M 35 c 1) 36 c v5) (ln c) (nb c) S tb := CS_c (g2 _ _ (by omega)) (fun i => g2 _ _ (by omega)) (fun i => g2 _ _ (by omega)) (fun i => g2 _ _ (by omega)) (fun i => g2 _ _ (by omega)) hC
    obtain ⟨v6, hv6⟩ := place10e C2 hS (M.1 34 0)
    rw [hv6, bind_p, if_pos cin, if_pos (show cd_in 0 90 = true by decide)]
    have g3 : ∀ x i, ¬ ((x = 35 ∨ x = 36 ∨ x = 37) ∧ i = c) → (cd_wI (cd_wI (cd_wI M 35 c 1) 36 c v5) 37 c v6).1 x i = M.1 x i := fun x i z => by rw [cd_wI_at, if_neg (by omega), g2 _ _ (by omega)]
    rw [g3 34 _ (by omega)]
    have C3 : CS (cd_wI (cd_wI (cd_wI M 35 c 1) 36 c v5) 37 c v6) (ln c) (nb c) S tb := CS_c (g3 _ _ (by omega)) (fun i => g3 _ _ (by omega)) (fun i => g3 _ _ (by omega)) (fun i => g3 _ _ (by omega)) (fun i => g3 _ _ (by omega)) hC
    obtain ⟨v8, hv8⟩ := step10e C3 hS (M.1 34 0)
    rw [hv8, bind_p, if_pos cin]
    have g4 : ∀ x i, ¬ ((x = 35 ∨ x = 36 ∨ x = 37 ∨ x = 38) ∧ i = c) → (cd_wI (cd_wI (cd_wI (cd_wI M 35 c 1) 36 c v5) 37 c v6) 38 c v8).1 x i = M.1 x i := fun x i z => by rw [cd_wI_at, if_neg (by omega), g3 _ _ (by omega)]
    refine cw_some.mpr ⟨?_, fun i i1 i2 => ⟨?_, fun q j hq hj => (hV i i1 i2).2 q j hq hj⟩, ?_, ?_, fun h0 => ?_, fun x c' x1 x2 hc' => ?_⟩
    · exact CS_c (g4 _ _ (by omega)) (fun i => g4 _ _ (by omega)) (fun i => g4 _ _ (by omega)) (fun i => g4 _ _ (by omega)) (fun i => g4 _ _ (by omega)) hC
    · rw [g4 _ _ (by omega)]; exact (hV i i1 i2).1
    · rw [cd_wI_at, if_neg (by omega), cd_wI_at, if_neg (by omega), cd_wI_at, if_neg (by omega), cd_wI_at, if_pos ⟨rfl, rfl⟩]
    · rw [cd_wI_at, if_neg (by omega), cd_wI_at, if_neg (by omega), cd_wI_at, if_pos ⟨rfl, rfl⟩, ← hv5]
      by_cases z : 0 < n
      · have wl := W_le (n := n) (pa := pa) (L := ln c) (nu := nb c) bp.2.2.2.2 h9 0 (en_ n pa (frs_ w sm pa vl) (rep_ w sm vl) (ln c) (nb c) (vl 1) 0)
        rw [(h1 z).2, ← W_sum z h9]
        exact pk_div (d := 128) (by omega) (by decide) (by decide)
      · have e0 : n = 0 := by omega
        rw [h2 e0.symm]
        subst e0
        rfl
    · have e34 := (hV 0 (Nat.le_refl _) h0).1
      have ve := (ent_iff.mp (en_spec (n := n) (pa := pa) (fr := frs_ w sm pa vl) (rp := rep_ w sm vl) (ed := vl 1) hT.2.2 0).1).1
      obtain ⟨x1, x2⟩ := TBa_ix hT ve
      rw [e34, place10 C2 hS x1, x2] at hv6
      rw [e34, step10 C3 hS x1, x2] at hv8
      rw [cd_wI_at, if_neg (by omega), cd_wI_at, if_pos ⟨rfl, rfl⟩, cd_wI_at, if_pos ⟨rfl, rfl⟩]
      exact ⟨(Option.some.inj hv6).symm, (Option.some.inj hv8).symm⟩
    · rw [g4 _ _ (by omega)]
      exact (hf x c' (na_cov (by
        have : x = 35 ∨ x = 36 ∨ x = 37 ∨ x = 38 := by omega
        rcases this with rfl | rfl | rfl | rfl <;> decide) c')).1
  | succ k ih =>
    intro fu M hk hfu hf hC hV h1 h2
    obtain ⟨fu, rfl⟩ := Nat.exists_eq_succ_of_ne_zero (show fu ≠ 0 by omega)
    rw [f0_solve_9_7_6_L22, nI_pred, if_neg (nI_pos (by omega)), cw_bind]
    have wl : WL M n pa (frs_ w sm pa vl) (rep_ w sm vl) (ln c) (nb c) (vl 1) S tb k := fun h => ⟨(h1 h).1, (hV (k + 1) (Nat.le_refl _) h).1⟩
    refine cw_mono (weighC hw (CL_f hf (by decide) hL) hb (CR_f hf (by decide) hR) hB hc hT hC (i := k) (by omega) wl (fun h => (h1 h).2)) (fun M1 m1 => ?_)
    obtain ⟨m1, m2, m3, m4⟩ := m1
    have C1 : CS M1 (ln c) (nb c) S tb := CS_f m1 (by decide) hC
    have cin : cd_in (nI k) 90 = true := by rw [ci_nI (by omega)]; omega
    have ve := (ent_iff.mp (en_spec (n := n) (pa := pa) (fr := frs_ w sm pa vl) (rp := rep_ w sm vl) (ed := vl 1) hT.2.2 k).1).1
    obtain ⟨x1, x2⟩ := TBa_ix hT ve
    rw [leastC bp hT C1 m2, bind_p, if_pos cin, nI_clamp (by omega)]
    simp only [cd_lt_p]
    have e34 : (cd_wI M1 34 k (nI (ix_ (nb c) (en_ n pa (frs_ w sm pa vl) (rep_ w sm vl) (ln c) (nb c) (vl 1) k)))).1 34 k = nI (ix_ (nb c) (en_ n pa (frs_ w sm pa vl) (rep_ w sm vl) (ln c) (nb c) (vl 1) k)) := by rw [cd_wI_at, if_pos ⟨rfl, rfl⟩]
    rw [if_pos cin, e34, if_pos (by rw [ci_nI (by omega)]; omega), nI_clamp (by omega)]
    have e31 : ∀ j, j < S → (cd_wI M1 34 k (nI (ix_ (nb c) (en_ n pa (frs_ w sm pa vl) (rep_ w sm vl) (ln c) (nb c) (vl 1) k)))).1 31 j = nI (W_ n pa (frs_ w sm pa vl) (rep_ w sm vl) (ln c) (nb c) (vl 1) k (tb j)) := fun j hj => by rw [cd_wI_at, if_neg (by omega)]; exact m2 j hj
    rw [e31 _ x1, x2, if_pos (show cd_cpOK 0 0 90 90 90 from cpOK (sp := 0) (dp := 0) (n := 90) (by omega) (by omega) (by omega) (by omega)), show Int32.toNatClampNeg 0 = 0 from rfl, show Int32.toNatClampNeg 90 = 90 from rfl, I_m1]
    generalize hM2 : cd_wI M1 34 k (nI (ix_ (nb c) (en_ n pa (frs_ w sm pa vl) (rep_ w sm vl) (ln c) (nb c) (vl 1) k))) = M2 at *
    have f2 : cf_ sl_w M0 M2 := by
      rw [← hM2]
      exact cf_wcI (cf_cov_iff.mpr (Or.inl (cf_has_mem.mp (by decide)))) (cf_trans hf (cf_le (by decide) m1))
    have c2 : M2.2 = M1.2 := by rw [← hM2]; rfl
    have g2 : ∀ x i, ¬ (x = 34 ∧ i = k) → M2.1 x i = M1.1 x i := fun x i z => by rw [← hM2, cd_wI_at, if_neg z]
    obtain ⟨best, hbest⟩ : ∃ b, nI (W_ n pa (frs_ w sm pa vl) (rep_ w sm vl) (ln c) (nb c) (vl 1) k (en_ n pa (frs_ w sm pa vl) (rep_ w sm vl) (ln c) (nb c) (vl 1) k)) = b := ⟨_, rfl⟩
    rw [hbest]
    have g : ∀ x i, ¬ (x = 9 ∧ i = 5) → x ≠ 32 → (cd_cI (cd_wI M2 9 5 best) 31 32 0 0 90).1 x i = M2.1 x i := fun x i z1 z2 => by rw [cd_cI_at, if_neg (fun y => z2 y.1), cd_wI_at, if_neg z1]
    refine ih fu _ (by omega) (by omega) ?_ ?_ (fun i i1 i2 => ⟨?_, fun q j hq hj => ?_⟩) (fun _ => ⟨fun j hj => ?_, ?_⟩) (fun z => by omega)
    · exact cf_cI (wg := [(32, none)]) (by decide) (by decide) (cf_wcI (by decide) f2)
    · exact CS_c ((g _ _ (by omega) (by omega)).trans (g2 _ _ (by omega))) (fun i => (g _ _ (by omega) (by omega)).trans (g2 _ _ (by omega))) (fun i => (g _ _ (by omega) (by omega)).trans (g2 _ _ (by omega))) (fun i => (g _ _ (by omega) (by omega)).trans (g2 _ _ (by omega))) (fun i => (g _ _ (by omega) (by omega)).trans (g2 _ _ (by omega))) C1
    · rw [g _ _ (by omega) (by omega)]
      by_cases z : i = k
      · rw [z]; exact e34
      · rw [g2 _ _ (by omega), (m1 34 i (na_cov (by decide) i)).1]
        exact (hV i (by omega) i2).1
    · show (M2.2 33 (2 * i + q)).toBitVec.getLsbD j = _
      rw [c2]
      by_cases z : i = k
      · rw [z]; exact m3 q j hq hj
      · rw [m4 _ (by omega)]
        exact (hV i (by omega) i2).2 q j hq hj
    · rw [cd_cI_at, if_pos ⟨rfl, by omega, by omega⟩, cd_wI_at, if_neg (by omega), show 0 + (j - 0) = j by omega]
      exact e31 j hj
    · rw [cd_cI_at, if_neg (by omega), cd_wI_at, if_pos ⟨rfl, rfl⟩, hbest]
theorem solveC {M : cd_M} (hw : w ≤ 6) (hL : CL M w n sm pa) (hb : BL w n sm pa) (hR : CR M nc fo ln nb vl) (hB : BR nc fo ln nb vl) (hc : c < nc) : cw (f0_solve_9_7_6 (nI c) M) (fun M1 => (∃ S tb, TBa (ln c) (nb c) S tb ∧ SE M M1 w n sm pa (ln c) (nb c) vl c S tb) ∧ cf_ f0_solve_9_7_6_w M M1) := by
  refine cw_cp ?_ (w_f0_solve_9_7_6 (by decide) cf_refl)
  have h9 := hb.1
  have hl := hB.2.2.2.1 c hc
  have ok : okc_ (ln c) (nb c) := ⟨hl.1, hl.2, fun p hp => hB.2.2.2.2.1 c p hc hp⟩
  unfold f0_solve_9_7_6
  rw [cw_bind]
  refine cw_mono (buildC hR hB hc) (fun M1 k1 => ?_)
  obtain ⟨tb, t1, t2, t3⟩ := k1
  have hS := bs_le ok (ln c) (Nat.le_refl _)
  have hT : TBa (ln c) (nb c) (bs_ (nb c) (ln c)) tb := ⟨t2, by omega, ok⟩
  simp only [cd_lt_p]
  unfold f4_size_7
  have f1 : cf_ sl_w M (cd_wI M1 9 5 0) := cf_wcI (by decide) (cf_le (by decide) t3)
  have g : ∀ x i, ¬ (x = 9 ∧ i = 5) → (cd_wI M1 9 5 0).1 x i = M1.1 x i := fun x i z => by rw [cd_wI_at, if_neg z]
  rw [(CL_f f1 (by decide) hL).1]
  refine cw_mono (sv_22 (M0 := M) hw hL hb hR hB hc hT n cd_fu _ (Nat.le_refl _) (by unfold cd_fu; omega) f1 ?_ (fun i i1 i2 => by omega) (fun z => absurd z (Nat.lt_irrefl n)) (fun _ => ?_)) (fun M2 k2 => ⟨_, tb, hT, k2⟩)
  · exact CS_c (g _ _ (by omega)) (fun i => g _ _ (by omega)) (fun i => g _ _ (by omega)) (fun i => g _ _ (by omega)) (fun i => g _ _ (by omega)) t1
  · rw [cd_wI_at, if_pos ⟨rfl, rfl⟩]
end slC
