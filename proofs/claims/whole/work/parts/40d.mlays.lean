/-! the reference: laysPath -/
section mlA
variable {n : Nat} {pa fr rp : Nat → Nat} {c L : Nat} {nu : Nat → Nat} {ed : Nat}
theorem goesM0 {N : cd_M} {a2 : Int32} (hB : BP n pa c L nu ed fr rp) (hf : 0 < n) (h : MP N n pa c L nu ed) (hd : MD N n fr rp) (hW : MW N n pa fr rp L nu ed 0) : cw (f11_goes_15 (nI 0) a2 N) (fun N1 => (N1.1 70 0 = nI (sts_ n pa fr rp L nu ed 0) ∧ N1.1 71 0 = nI (bn_ (edt_ n pa fr rp L nu ed 0))) ∧ cf_ [(70, some 0), (71, some 0)] N N1) := by
  unfold f11_goes_15 f11_goes_15_L14
  rw [if_pos (show nI 0 = 0 from rfl)]
  obtain ⟨e1, e2, e3, e4⟩ := en_spec (n := n) (pa := pa) (fr := fr) (rp := rp) (ed := ed) hB.2.2.2.1 0
  have eV : ∀ j, Ve_ n pa fr rp L nu ed 0 (fl_ 0 False 0 j) j = W_ n pa fr rp L nu ed 0 j := fun j => by
    unfold Ve_ fl_
    rw [if_pos (Or.inl rfl), if_pos rfl]
    omega
  have K := go_29 (N := N) (f := 0) (on := 0) (q := False) (oI := -1) (fun _ z => z) (by rw [if_neg (fun z => z)]) (by omega) hB hf h hd hW (x := en_ n pa fr rp L nu ed 0) ⟨⟨(ent_iff.mp e1).1, Or.inl (ent_iff.mp e1).2⟩, e2, fun j hj cj => by rw [eV, eV]; exact e3 j hj (ent_iff.mpr ⟨cj.1, cj.2.resolve_right (fun z => z.1)⟩), fun j hj cj => by rw [eV, eV]; exact e4 j hj (ent_iff.mpr ⟨cj.1, cj.2.resolve_right (fun z => z.1)⟩)⟩ 150 cd_fu 0 (-1) 1000000000 0 (by omega) (by unfold cd_fu; omega) (Or.inl ⟨rfl, rfl⟩)
  refine cw_mono K (fun N1 k => ⟨⟨k.1.1, k.1.2.trans ?_⟩, k.2⟩)
  unfold fl_
  rw [if_pos (Or.inl rfl)]
  rfl
theorem goesM1 {N : cd_M} {f st : Nat} (hB : BP n pa c L nu ed fr rp) (hf : f + 1 < n) (h : MP N n pa c L nu ed) (hd : MD N n fr rp) (hW : MW N n pa fr rp L nu ed (f + 1)) (hst : st = sts_ n pa fr rp L nu ed f) : cw (f11_goes_15 (nI (f + 1)) (nI st) N) (fun N1 => (N1.1 70 (f + 1) = nI (sts_ n pa fr rp L nu ed (f + 1)) ∧ N1.1 71 (f + 1) = nI (bn_ (edt_ n pa fr rp L nu ed (f + 1)))) ∧ cf_ [(70, some (f + 1)), (71, some (f + 1))] N N1) := by
  have h9 := hB.1
  have v : vld_ L nu st := by rw [hst]; exact sts_vld hB.2.2.2.1 f
  unfold f11_goes_15 f11_goes_15_L14
  rw [if_neg (nI_ne0 (by omega) (by omega)), onM h hB hf v, bind_p]
  have ex : sts_ n pa fr rp L nu ed (f + 1) = if on_ n pa fr rp L nu ed f st = true then ons_ L nu st else en_ n pa fr rp L nu ed (f + 1) := by rw [hst]; rfl
  have G := goes_1 (n := n) (pa := pa) (fr := fr) (rp := rp) (ed := ed) hB.2.2.2.1 (f := f) v ex (V := fun j => Ve_ n pa fr rp L nu ed (f + 1) (fl_ (f + 1) (pa (f + 1) ≠ pa f) (ons_ L nu st) j) j)
    (fun o z => by
      show Ve_ n pa fr rp L nu ed (f + 1) (fl_ (f + 1) (pa (f + 1) ≠ pa f) (ons_ L nu st) o) o = _
      unfold Ve_ fl_
      rw [if_pos (Or.inr z), if_pos rfl]
      omega)
    (fun o z => by
      show Ve_ n pa fr rp L nu ed (f + 1) (fl_ (f + 1) (pa (f + 1) ≠ pa f) (ons_ L nu st) o) o = _
      have e1 : fl_ (f + 1) (pa (f + 1) ≠ pa f) (ons_ L nu st) o = 1 := by unfold fl_; rw [if_neg (fun y => y.elim (fun u => by omega) z)]
      rw [e1]
      unfold Ve_
      rw [if_neg (by decide)]
      omega)
  have K := go_29 (N := N) (f := f + 1) (on := ons_ L nu st) (q := pa (f + 1) ≠ pa f) (oI := onI_ L nu pa f st) (fun z => by omega)
    (by
      unfold onI_
      by_cases z : pa (f + 1) = pa f
      · rw [if_pos z, if_neg (fun y => y z)]
      · rw [if_neg z, if_pos z])
    (vld_lt hB.2.2.2.1 (vld_ons hB.2.2.2.1 v)) hB hf h hd hW G.1 150 cd_fu 0 (-1) 1000000000 0 (by omega) (by unfold cd_fu; omega) (Or.inl ⟨rfl, rfl⟩)
  refine cw_mono K (fun N1 k => ⟨⟨k.1.1, k.1.2.trans ?_⟩, k.2⟩)
  have ee : edt_ n pa fr rp L nu ed (f + 1) = !on_ n pa fr rp L nu ed f st := by rw [hst]; rfl
  rw [ee]
  unfold fl_ bn_
  by_cases z : on_ n pa fr rp L nu ed f st = true
  · rw [if_pos (Or.inr (G.2.mpr z)), z, if_neg (by decide)]
  · rw [if_neg (fun y => y.elim (by omega) (fun u => z (G.2.mp u)))]
    have : on_ n pa fr rp L nu ed f st = false := by
      cases u : on_ n pa fr rp L nu ed f st with
      | true => exact absurd u z
      | false => rfl
    rw [this, if_pos (by decide)]
/-- the path laid -/
def MSt (N : cd_M) (n : Nat) (pa fr rp : Nat → Nat) (L : Nat) (nu : Nat → Nat) (ed k : Nat) : Prop := ∀ i, i < k → N.1 70 i = nI (sts_ n pa fr rp L nu ed i) ∧ N.1 71 i = nI (bn_ (edt_ n pa fr rp L nu ed i))
theorem costOfM {N : cd_M} {f : Nat} (hB : BP n pa c L nu ed fr rp) (hf : f < n) (h : MP N n pa c L nu ed) (hd : MD N n fr rp) (h70 : N.1 70 f = nI (sts_ n pa fr rp L nu ed f)) (h71 : N.1 71 f = nI (bn_ (edt_ n pa fr rp L nu ed f))) : f11_costOf_15 (nI f) N = some (nI (cst_ n pa fr rp L nu ed f)) := by
  have h9 := hB.1
  have hs := vld_lt hB.2.2.2.1 (sts_vld (n := n) (pa := pa) (fr := fr) (rp := rp) (ed := ed) hB.2.2.2.1 f)
  unfold f11_costOf_15 f11_costOf_15_L30
  rw [if_pos (show cd_in (nI f) 90 = true by rw [ci_nI (by omega)]; omega), nI_clamp (by omega), h70, costAtM hd hB hf hs, bind_p, if_pos (show cd_in (nI f) 90 = true by rw [ci_nI (by omega)]; omega), h71, if_pos (show cd_in 1 10 = true by decide), show Int32.toNatClampNeg 1 = 1 from rfl, h.2.2.2.2.2]
  unfold cst_ bn_
  by_cases z : edt_ n pa fr rp L nu ed f = true
  · rw [if_pos z, if_pos z, if_neg (show ¬ nI 1 = 0 by decide), nI_add]
  · rw [if_neg z, if_neg z, if_pos (show nI 0 = 0 from rfl), show (0 : Int32) = nI 0 from rfl, nI_add]
def MPath (N : cd_M) (n : Nat) (pa fr rp : Nat → Nat) (c L : Nat) (nu : Nat → Nat) (ed : Nat) : Prop := MP N n pa c L nu ed ∧ MD N n fr rp ∧ MSt N n pa fr rp L nu ed n ∧ N.1 15 35 = nI (sig_ (cst_ n pa fr rp L nu ed) n) ∧ N.1 15 36 = nI (cnt_ (edt_ n pa fr rp L nu ed) n)
theorem lp_25 (hB : BP n pa c L nu ed fr rp) : ∀ (r fu f : Nat) (N : cd_M), f + r = n → r < fu → MP N n pa c L nu ed → MD N n fr rp → (∀ f', f' < n → MW N n pa fr rp L nu ed f') → MSt N n pa fr rp L nu ed f → N.1 15 35 = nI (sig_ (cst_ n pa fr rp L nu ed) f) → N.1 15 36 = nI (cnt_ (edt_ n pa fr rp L nu ed) f) → cw (f11_laysPath_15_L25 fu (nI f) N) (fun N1 => MPath N1 n pa fr rp c L nu ed) := by
  intro r
  have h9 := hB.1
  induction r with
  | zero =>
    intro fu f N hf hfu h hd hW hS h35 h36
    obtain ⟨fu, rfl⟩ := Nat.exists_eq_succ_of_ne_zero (show fu ≠ 0 by omega)
    have ef : f = n := by omega
    subst ef
    rw [f11_laysPath_15_L25, h.1, if_pos (nI_le (by omega) (by omega))]
    exact cw_some.mpr ⟨h, hd, hS, h35, h36⟩
  | succ r ih =>
    intro fu f N hf hfu h hd hW hS h35 h36
    obtain ⟨fu, rfl⟩ := Nat.exists_eq_succ_of_ne_zero (show fu ≠ 0 by omega)
    have tail : ∀ N1 : cd_M, (N1.1 70 f = nI (sts_ n pa fr rp L nu ed f) ∧ N1.1 71 f = nI (bn_ (edt_ n pa fr rp L nu ed f))) ∧ cf_ [(70, some f), (71, some f)] N N1 → cw (if cd_in (nI f) 90 = true then (if N1.1 71 (nI f).toNatClampNeg = 0 then (f11_laysPath_15_L73 (f11_laysPath_15_L25 fu) (nI f) 0 (N1.1 15 36) N1) else (f11_laysPath_15_L73 (f11_laysPath_15_L25 fu) (nI f) 1 (N1.1 15 36) N1)) else none) (fun N1 => MPath N1 n pa fr rp c L nu ed) := by
      rintro N1 ⟨⟨k1, k2⟩, kf⟩
      have g : ∀ x i, ¬ ((x = 70 ∨ x = 71) ∧ i = f) → N1.1 x i = N.1 x i := fun x i hx => (kf x i (by
        cases e : cf_cov [(70, some f), (71, some f)] x i with
        | false => rfl
        | true =>
          rcases cf_cov_iff.mp e with q | q
          · simp at q
          · simp at q; omega)).1
      have t2 : ∀ e : Nat, e = bn_ (edt_ n pa fr rp L nu ed f) → cw (f11_laysPath_15_L73 (f11_laysPath_15_L25 fu) (nI f) (nI e) (N1.1 15 36) N1) (fun N1 => MPath N1 n pa fr rp c L nu ed) := by
        intro e he
        unfold f11_laysPath_15_L73
        simp only [cd_lt_p]
        rw [g 15 36 (by omega), h36, nI_add]
        have hg : ∀ x i, ¬ (x = 15 ∧ i = 36) → (cd_wI N1 15 36 (nI (cnt_ (edt_ n pa fr rp L nu ed) f + e))).1 x i = N1.1 x i := fun x i z => by rw [cd_wI_at, if_neg z]
        rw [costOfM hB (f := f) (by omega) (MP_c (fun x i hx => by rw [hg _ _ (by omega), g _ _ (by omega)]) h) (MD_c (fun i => by rw [hg _ _ (by omega), g _ _ (by omega)]) (fun i => by rw [hg _ _ (by omega), g _ _ (by omega)]) hd) (by rw [hg _ _ (by omega)]; exact k1) (by rw [hg _ _ (by omega)]; exact k2), bind_p, hg _ _ (by omega), g 15 35 (by omega), h35, nI_add, nI_1]
        have hg2 : ∀ x i, ¬ (x = 15 ∧ (i = 36 ∨ i = 35)) → (cd_wI (cd_wI N1 15 36 (nI (cnt_ (edt_ n pa fr rp L nu ed) f + e))) 15 35 (nI (sig_ (cst_ n pa fr rp L nu ed) f + cst_ n pa fr rp L nu ed f))).1 x i = N1.1 x i := fun x i z => by rw [cd_wI_at, if_neg (by omega), cd_wI_at, if_neg (by omega)]
        refine ih fu (f + 1) _ (by omega) (by omega) ?_ ?_ (fun f' hf' => ?_) (fun i hi => ?_) ?_ ?_
        · exact MP_c (fun x i hx => by rw [hg2 _ _ (by omega), g _ _ (by omega)]) h
        · exact MD_c (fun i => by rw [hg2 _ _ (by omega), g _ _ (by omega)]) (fun i => by rw [hg2 _ _ (by omega), g _ _ (by omega)]) hd
        · exact MW_c (fun i i1 i2 => by rw [hg2 _ _ (by omega), g _ _ (by omega)]) hB.2.2.2.1 (hW f' hf')
        · rw [hg2 _ _ (by omega), hg2 _ _ (by omega)]
          by_cases z : i = f
          · rw [z]; exact ⟨k1, k2⟩
          · rw [g _ _ (by omega), g _ _ (by omega)]; exact hS i (by omega)
        · rw [cd_wI_at, if_pos ⟨rfl, rfl⟩]; rfl
        · rw [cd_wI_at, if_neg (by decide), cd_wI_at, if_pos ⟨rfl, rfl⟩, he]; rfl
      rw [if_pos (show cd_in (nI f) 90 = true by rw [ci_nI (by omega)]; omega), nI_clamp (by omega), k2]
      by_cases z : edt_ n pa fr rp L nu ed f = true
      · have eb : bn_ (edt_ n pa fr rp L nu ed f) = 1 := by unfold bn_; rw [if_pos z]
        rw [eb, if_neg (show ¬ nI 1 = 0 by decide)]
        exact t2 1 eb.symm
      · have eb : bn_ (edt_ n pa fr rp L nu ed f) = 0 := by unfold bn_; rw [if_neg z]
        rw [eb, if_pos (show nI 0 = 0 from rfl)]
        exact t2 0 eb.symm
    rw [f11_laysPath_15_L25, h.1, if_neg (nI_ge (by omega) (by omega))]
    cases f with
    | zero =>
      rw [if_pos (show nI 0 = 0 from rfl)]
      unfold f11_laysPath_15_L51
      rw [cw_bind]
      exact cw_mono (goesM0 hB (by omega) h hd (hW 0 (by omega))) tail
    | succ f =>
      rw [if_neg (nI_ne0 (by omega) (by omega)), nI_pred, if_pos (show cd_in (nI f) 90 = true by rw [ci_nI (by omega)]; omega), nI_clamp (by omega), (hS f (by omega)).1]
      unfold f11_laysPath_15_L51
      rw [cw_bind]
      exact cw_mono (goesM1 hB (by omega) h hd (hW (f + 1) (by omega)) rfl) tail
end mlA
/-- sums of samples are small -/
theorem gp_le {a b : Nat} (ha : a ≤ 99) (hb : b ≤ 99) : gp_ a b ≤ 99 := by
  unfold gp_
  split <;> omega
theorem dist_le {m w : Nat} {s t : Nat → Nat} (hs : ∀ k, k < w → s k ≤ 99) (ht : ∀ k, k < w → t k ≤ 99) : dist_ m w s t ≤ 99 * w := by
  have K : ∀ k, k ≤ w → sum_ s t k ≤ 99 * k ∧ most_ s t k ≤ 99 * k ∧ many_ s t k ≤ 99 * k := by
    intro k
    induction k with
    | zero => intro _; exact ⟨Nat.le_refl _, Nat.le_refl _, Nat.le_refl _⟩
    | succ k ih =>
      intro hk
      obtain ⟨i1, i2, i3⟩ := ih (by omega)
      have g := gp_le (hs k (by omega)) (ht k (by omega))
      refine ⟨?_, ?_, ?_⟩
      · show sum_ s t k + gp_ (s k) (t k) ≤ _
        omega
      · show (if most_ s t k < gp_ (s k) (t k) then gp_ (s k) (t k) else most_ s t k) ≤ _
        split <;> omega
      · show many_ s t k + (if 0 < gp_ (s k) (t k) then 1 else 0) ≤ _
        split <;> omega
  obtain ⟨i1, i2, i3⟩ := K w (Nat.le_refl _)
  unfold dist_
  split
  · exact i1
  · split
    · exact i2
    · exact i3
