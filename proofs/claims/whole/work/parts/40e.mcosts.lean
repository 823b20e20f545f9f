/-! the reference: laysCosts; the whole of laysPath -/
section mcA
variable {w n : Nat} {sm : Nat → Nat → Nat} {pa : Nat → Nat} {nc fo : Nat} {ln : Nat → Nat} {nb : Nat → Nat → Nat} {vl : Nat → Nat}
/-- what laysCosts reads -/
def MQq (N : cd_M) (w n : Nat) (sm : Nat → Nat → Nat) (pa : Nat → Nat) (nc fo : Nat) (ln : Nat → Nat) (nb : Nat → Nat → Nat) (vl : Nat → Nat) : Prop := N.1 15 11 = nI w ∧ ML N w n sm pa ∧ MR N nc fo ln nb vl
theorem MQq_c {N N1 : cd_M} (e : ∀ x i, (x = 60 ∨ x = 61 ∨ x = 62 ∨ x = 64 ∨ (x = 15 ∧ (i = 24 ∨ i = 11 ∨ i = 17 ∨ i = 23))) → N1.1 x i = N.1 x i) (h : MQq N w n sm pa nc fo ln nb vl) : MQq N1 w n sm pa nc fo ln nb vl := by
  obtain ⟨h1, h2, h3⟩ := h
  refine ⟨by rw [e _ _ (by omega)]; exact h1, ?_, ?_⟩
  · exact ML_c (e _ _ (by omega)) (fun i => e _ _ (by omega)) h2
  · exact MR_c (e _ _ (by omega)) (e _ _ (by omega)) (fun i => e _ _ (by omega)) (fun i => e _ _ (by omega)) (fun i => e _ _ (by omega)) h3
theorem alikeM {N : cd_M} (hw : w ≤ 6) (h : MQq N w n sm pa nc fo ln nb vl) (hb : BL w n sm pa) (hB : BR nc fo ln nb vl) {i j : Nat} (hi : i < n) (hj : j < n) : f11_areAlike_15 (nI i) (nI j) N = some (if dist_ (vl 4) w (sm i) (sm j) ≤ vl 0 then 1 else 0) := by
  have hd := dist_le (m := vl 4) (w := w) (s := sm i) (t := sm j) (fun k hk => hb.2.1 i k hi hk) (fun k hk => hb.2.1 j k hj hk)
  have hv := hB.2.2.2.2.2.1 0 (by decide)
  unfold f11_areAlike_15
  rw [apart15 h.2.2 hB hw h.1 h.2.1 hb hi hj, bind_p, if_pos (show cd_in 0 10 = true by decide), show Int32.toNatClampNeg 0 = 0 from rfl, h.2.2.2.2.2.2 0 (by decide)]
  by_cases q : dist_ (vl 4) w (sm i) (sm j) ≤ vl 0
  · rw [if_pos q, if_neg (nI_nlt q (by omega))]
  · rw [if_neg q, if_pos (nI_lt (by omega) (by omega))]
theorem lc_66 {N : cd_M} {f : Nat} (hw : w ≤ 6) (hb : BL w n sm pa) (hB : BR nc fo ln nb vl) (hf : f < n) (h : MQq N w n sm pa nc fo ln nb vl) (hd : MD N f (frs_ w sm pa vl) (rep_ w sm vl)) {r2 : Int32 → cd_M → Option cd_M} {Q : cd_M → Prop} (H : ∀ N1, MQq N1 w n sm pa nc fo ln nb vl → MD N1 (f + 1) (frs_ w sm pa vl) (rep_ w sm vl) → cw (r2 (nI (f + 1)) N1) Q) : cw (f11_laysCosts_15_L66 r2 (nI f) (nI (if 2 ≤ f then 1 else 0)) (nI (frs_ w sm pa vl f)) (nI f) N) Q := by
  have h9 := hb.1
  have fin : ∀ v : Nat, v = rep_ w sm vl f → cw (f11_laysCosts_15_L122 r2 (nI f) (nI v) (nI f) (cd_wI N 67 f (nI (frs_ w sm pa vl f)))) Q := by
    intro v hv
    unfold f11_laysCosts_15_L122
    rw [if_pos (by rw [ci_nI (by omega)]; omega), nI_clamp (by omega)]
    simp only [cd_lt_p]
    rw [nI_1]
    have g : ∀ x i, ¬ ((x = 67 ∨ x = 68) ∧ i = f) → (cd_wI (cd_wI N 67 f (nI (frs_ w sm pa vl f))) 68 f (nI v)).1 x i = N.1 x i := fun x i z => by rw [cd_wI_at, if_neg (by omega), cd_wI_at, if_neg (by omega)]
    refine H _ (MQq_c (fun x i hx => g _ _ (by omega)) h) (fun i hi => ?_)
    by_cases z : i = f
    · rw [z, cd_wI_at, if_neg (by omega), cd_wI_at, if_pos ⟨rfl, rfl⟩, cd_wI_at, if_pos ⟨rfl, rfl⟩, hv]
      exact ⟨rfl, rfl⟩
    · rw [g _ _ (by omega), g _ _ (by omega)]
      exact hd i (by omega)
  unfold f11_laysCosts_15_L66
  rw [if_pos (show cd_in (nI f) 90 = true by rw [ci_nI (by omega)]; omega), nI_clamp (by omega)]
  simp only [cd_lt_p]
  have h1 : MQq (cd_wI N 67 f (nI (frs_ w sm pa vl f))) w n sm pa nc fo ln nb vl := MQq_c (fun x i hx => by rw [cd_wI_at, if_neg (by omega)]) h
  generalize hN1 : cd_wI N 67 f (nI (frs_ w sm pa vl f)) = N1 at *
  by_cases q : 2 ≤ f
  · have e2 : nI f - 2 = nI (f - 2) := pk_sub (b := 2) q
    have hdl := dist_le (m := vl 4) (w := w) (s := sm f) (t := sm (f - 2)) (fun k hk => hb.2.1 f k hf hk) (fun k hk => hb.2.1 (f - 2) k (by omega) hk)
    rw [if_pos q, if_neg (show ¬ nI 1 = 0 by decide), e2, apart15 h1.2.2 hB hw h1.1 h1.2.1 hb hf (by omega), bind_p]
    unfold f11_laysCosts_15_L83 f11_laysCosts_15_L104
    rw [if_neg (show ¬ nI 1 = 0 by decide), e2, alikeM hw h1 hb hB hf (by omega), bind_p]
    by_cases z : dist_ (vl 4) w (sm f) (sm (f - 2)) ≤ vl 0
    · rw [if_pos z, if_neg (by decide)]
      exact fin 0 (by unfold rep_; rw [if_neg (fun y => y.2 z)])
    · rw [if_neg z, if_pos rfl]
      have er : rep_ w sm vl f = dist_ (vl 4) w (sm f) (sm (f - 2)) := by
        unfold rep_
        rw [if_pos ⟨q, z⟩, if_neg (by omega)]
      rw [show (999 : Int32) = nI 999 from rfl, if_pos (nI_le (by omega) (by omega))]
      exact fin _ er.symm
  · rw [if_neg q, if_pos (show nI 0 = 0 from rfl)]
    unfold f11_laysCosts_15_L83 f11_laysCosts_15_L104
    rw [if_pos (show nI 0 = 0 from rfl)]
    exact fin 0 (by unfold rep_; rw [if_neg (fun y => q y.1)])
theorem lc_2 (hw : w ≤ 6) (hb : BL w n sm pa) (hB : BR nc fo ln nb vl) : ∀ (r fu f : Nat) (N : cd_M), f + r = n → r < fu → MQq N w n sm pa nc fo ln nb vl → MD N f (frs_ w sm pa vl) (rep_ w sm vl) → cw (f11_laysCosts_15_L2 fu (nI f) N) (fun N1 => MQq N1 w n sm pa nc fo ln nb vl ∧ MD N1 n (frs_ w sm pa vl) (rep_ w sm vl)) := by
  intro r
  have h9 := hb.1
  induction r with
  | zero =>
    intro fu f N hf hfu h hd
    obtain ⟨fu, rfl⟩ := Nat.exists_eq_succ_of_ne_zero (show fu ≠ 0 by omega)
    rw [f11_laysCosts_15_L2, h.2.1.1, if_pos (nI_le (by omega) (by omega))]
    exact cw_some.mpr ⟨h, by rw [show n = f by omega]; exact hd⟩
  | succ r ih =>
    intro fu f N hf hfu h hd
    obtain ⟨fu, rfl⟩ := Nat.exists_eq_succ_of_ne_zero (show fu ≠ 0 by omega)
    have go := lc_66 (N := N) (f := f) hw hb hB (by omega) h hd (r2 := f11_laysCosts_15_L2 fu) (Q := fun N1 => MQq N1 w n sm pa nc fo ln nb vl ∧ MD N1 n (frs_ w sm pa vl) (rep_ w sm vl)) (fun N1 k1 k2 => ih fu (f + 1) N1 (by omega) (by omega) k1 k2)
    rw [f11_laysCosts_15_L2, h.2.1.1, if_neg (nI_ge (by omega) (by omega)), show (1 : Int32) = nI 1 from rfl]
    unfold f11_laysCosts_15_L20 f11_laysCosts_15_L65
    by_cases q : 2 ≤ f
    · have e2 : nI f - 2 = nI (f - 2) := pk_sub (b := 2) q
      have p1 := hb.2.2 f (by omega)
      have p2 := hb.2.2 (f - 2) (by omega)
      rw [if_pos q] at go
      rw [if_neg (nI_ge (by omega) (by omega)), if_neg (show ¬ nI 1 = 0 by decide), e2, parity15 h.2.1 hb (by omega), parity15 h.2.1 hb (by omega), bind_p, bind_p, alikeM hw h hb hB (by omega) (by omega), bind_p, if_pos (show cd_in 2 10 = true by decide), show Int32.toNatClampNeg 2 = 2 from rfl, h.2.2.2.2.2.2 2 (by decide)]
      by_cases y : pa f = pa (f - 2)
      · rw [if_pos (by rw [y])]
        by_cases z : dist_ (vl 4) w (sm f) (sm (f - 2)) ≤ vl 0
        · rw [if_pos z, if_neg (by decide)]
          have ef : frs_ w sm pa vl f = vl 2 := by unfold frs_; rw [if_pos ⟨q, y, z⟩]
          rw [ef] at go
          exact go
        · rw [if_neg z, if_pos rfl]
          have ef : frs_ w sm pa vl f = 0 := by unfold frs_; rw [if_neg (fun u => z u.2.2)]
          rw [ef] at go
          exact go
      · rw [if_neg (fun u => y ((nI_eq (by omega) (by omega)).mp u))]
        have ef : frs_ w sm pa vl f = 0 := by unfold frs_; rw [if_neg (fun u => y u.2.1)]
        rw [ef] at go
        exact go
    · rw [if_neg q] at go
      rw [if_pos (nI_le (by omega) (by omega)), if_pos rfl]
      have ef : frs_ w sm pa vl f = 0 := by unfold frs_; rw [if_neg (fun u => q u.1)]
      rw [ef] at go
      exact go
theorem BP_of (hb : BL w n sm pa) (hB : BR nc fo ln nb vl) {c : Nat} (hc : c < nc) : BP n pa c (ln c) (nb c) (vl 1) (frs_ w sm pa vl) (rep_ w sm vl) := by
  refine ⟨hb.1, hb.2.2, by have := hB.2.1; omega, ⟨(hB.2.2.2.1 c hc).1, (hB.2.2.2.1 c hc).2, fun p hp => hB.2.2.2.2.1 c p hc hp⟩, fun f => ?_, fun f => ?_, hB.2.2.2.2.2.1 1 (by decide)⟩
  · have := hB.2.2.2.2.2.1 2 (by decide)
    unfold frs_
    split <;> omega
  · unfold rep_
    split
    · split <;> omega
    · omega
theorem MP_of {N : cd_M} {c : Nat} (h : MQq N w n sm pa nc fo ln nb vl) (hc : c < nc) (h29 : N.1 15 29 = nI c) : MP N n pa c (ln c) (nb c) (vl 1) := ⟨h.2.1.1, h.2.1.2.2, h29, h.2.2.2.2.1 c hc, fun p hp => h.2.2.2.2.2.1 c p hc hp, h.2.2.2.2.2.2 1 (by decide)⟩
theorem laysPathM {N : cd_M} {c : Nat} (hw : w ≤ 6) (hb : BL w n sm pa) (hB : BR nc fo ln nb vl) (hc : c < nc) (h : MQq N w n sm pa nc fo ln nb vl) : cw (f11_laysPath_15 (nI c) N) (fun N1 => MPath N1 n pa (frs_ w sm pa vl) (rep_ w sm vl) c (ln c) (nb c) (vl 1) ∧ cf_ f11_laysPath_15_w N N1) := by
  refine cw_cp ?_ (w_f11_laysPath_15 (by decide) cf_refl)
  have h9 := hb.1
  have bp := BP_of hb hB hc
  unfold f11_laysPath_15
  simp only [cd_lt_p]
  have h1 : MQq (cd_wI N 15 29 (nI c)) w n sm pa nc fo ln nb vl := MQq_c (fun x i hx => by rw [cd_wI_at, if_neg (by omega)]) h
  have h29 : (cd_wI N 15 29 (nI c)).1 15 29 = nI c := by rw [cd_wI_at, if_pos ⟨rfl, rfl⟩]
  generalize cd_wI N 15 29 (nI c) = N1 at *
  rw [cw_bind]
  unfold f11_laysCosts_15
  refine cw_mono (cw_cp (lc_2 hw hb hB n cd_fu 0 N1 (by omega) (by unfold cd_fu; omega) h1 (fun i hi => absurd hi (Nat.not_lt_zero i))) (w_f11_laysCosts_15_L2 (ws := f11_laysCosts_15_L2_w) (M0 := N1) (by decide) _ _ _ cf_refl)) (fun N2 k2 => ?_)
  obtain ⟨⟨k1, k2⟩, kf⟩ := k2
  rw [cw_bind]
  refine cw_mono (restM bp (MP_of k1 hc ((kf 15 29 (by decide)).1.trans h29)) k2) (fun N3 k3 => ?_)
  obtain ⟨m1, m2, m3⟩ := k3
  have g : ∀ x i, ¬ (x = 15 ∧ (i = 35 ∨ i = 36)) → (cd_wI (cd_wI N3 15 35 0) 15 36 0).1 x i = N3.1 x i := fun x i z => by rw [cd_wI_at, if_neg (by omega), cd_wI_at, if_neg (by omega)]
  refine lp_25 bp n cd_fu 0 _ (by omega) (by unfold cd_fu; omega) (MP_c (fun x i hx => g _ _ (by omega)) m1) (MD_c (fun i => g _ _ (by omega)) (fun i => g _ _ (by omega)) m2) (fun f' hf' => MW_c (fun i _ _ => g _ _ (by omega)) bp.2.2.2.1 (m3 f' hf')) (fun i hi => absurd hi (Nat.not_lt_zero i)) ?_ ?_
  · rw [cd_wI_at, if_neg (by decide), cd_wI_at, if_pos ⟨rfl, rfl⟩]; rfl
  · rw [cd_wI_at, if_pos ⟨rfl, rfl⟩]; rfl
end mcA
