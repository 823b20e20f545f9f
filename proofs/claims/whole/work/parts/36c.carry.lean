/-! carry: what is carried, over plain numbers; the class's side (by program, carrygen.py) -/
/-- n, samples, parities, the next parity -/
abbrev cg_ : Type := Nat × (Nat → Nat → Nat) × (Nat → Nat) × Nat
def ca1_ (g : Nat → Nat → Nat) (σ : cg_) : cg_ := if σ.1 < 90 then (σ.1 + 1, (fun i => if i = σ.1 then g σ.2.2.2 else σ.2.1 i), (fun i => if i = σ.1 then σ.2.2.2 else σ.2.2.1 i), 1 - σ.2.2.2) else (σ.1, σ.2.1, σ.2.2.1, 1 - σ.2.2.2)
def cad_ (g : Nat → Nat → Nat) : Nat → cg_ → cg_
  | 0, σ => σ
  | r + 1, σ => cad_ g r (ca1_ g σ)
def cas_ (fl : Nat → Nat → Nat → Nat) (L : Nat) (nu : Nat → Nat) : Nat → Nat → Nat → cg_ → cg_
  | 0, _, _, σ => σ
  | r + 1, f, p, σ => cas_ fl L nu r (f + 1) (if p + 1 < L then p + 1 else 0) (cad_ (fl f) (nu p) σ)
theorem ca1_ok {w : Nat} {g : Nat → Nat → Nat} {σ : cg_} (hg : ∀ p k, p < 2 → k < w → g p k ≤ 99) (hb : BL w σ.1 σ.2.1 σ.2.2.1) (hp : σ.2.2.2 < 2) : BL w (ca1_ g σ).1 (ca1_ g σ).2.1 (ca1_ g σ).2.2.1 ∧ (ca1_ g σ).2.2.2 < 2 := by
  unfold ca1_
  by_cases q : σ.1 < 90
  · rw [if_pos q]
    refine ⟨⟨by show σ.1 + 1 ≤ 90; omega, fun i k hi hk => ?_, fun i hi => ?_⟩, by show 1 - σ.2.2.2 < 2; omega⟩
    · show (if i = σ.1 then g σ.2.2.2 else σ.2.1 i) k ≤ 99
      have hi : i < σ.1 + 1 := hi
      by_cases z : i = σ.1
      · rw [if_pos z]; exact hg _ k hp hk
      · rw [if_neg z]; exact hb.2.1 i k (by omega) hk
    · show (if i = σ.1 then σ.2.2.2 else σ.2.2.1 i) < 2
      have hi : i < σ.1 + 1 := hi
      by_cases z : i = σ.1
      · rw [if_pos z]; exact hp
      · rw [if_neg z]; exact hb.2.2 i (by omega)
  · rw [if_neg q]
    exact ⟨hb, by show 1 - σ.2.2.2 < 2; omega⟩
theorem ph_next {M : cd_M} {nc fo : Nat} {ln : Nat → Nat} {nb : Nat → Nat → Nat} {vl : Nat → Nat} (h : CR M nc fo ln nb vl) (hb : BR nc fo ln nb vl) {c p : Nat} (hc : c < nc) (hp : p < ln c) : f5_hasPlace_6 (nI c) (nI p + 1) M = some (if p + 1 < ln c then 1 else 0) := by
  have h6 := (hb.2.2.2.1 c hc).2
  rw [nI_1]
  by_cases q : p + 1 < ln c
  · rw [if_pos q]; exact hasP6 h hb hc ⟨_, q, rfl⟩
  · rw [if_neg q]
    refine hasP6n h hb hc (fun z => ?_)
    obtain ⟨j, hj, e⟩ := z
    have := (nI_eq (by omega) (by omega)).mp e
    omega
section ca7
variable {M : cd_M} {w nf : Nat} {fl : Nat → Nat → Nat → Nat} {nc fo : Nat} {ln : Nat → Nat} {nb : Nat → Nat → Nat} {vl : Nat → Nat}
/-- the reel 7 and the frames 5 -/
def CL7 (M : cd_M) (w n : Nat) (sm : Nat → Nat → Nat) (pa : Nat → Nat) : Prop := M.1 7 1 = nI n ∧ ∀ i, i < n → M.2 28 i = lN (fd_ (sm i) w (pa i))
def CG5 (M : cd_M) (w nf : Nat) (fl : Nat → Nat → Nat → Nat) : Prop := M.1 5 3 = nI nf ∧ ∀ f, f < nf → M.2 23 f = lN (rw_ (fl f 0) w) ∧ M.2 24 f = lN (rw_ (fl f 1) w)
def BG5 (w nf : Nat) (fl : Nat → Nat → Nat → Nat) : Prop := w ≤ 6 ∧ nf ≤ 20 ∧ ∀ f p k, f < nf → p < 2 → k < w → fl f p k ≤ 99
theorem hasG5 (h : CG5 M w nf fl) (hb : BG5 w nf fl) {a : Int32} : f1_has_5 a M = 0 ↔ ¬ inr_ a nf := by
  unfold f1_has_5
  exact has_iff h.1 (by have := hb.2.1; omega)
theorem rowG5 (h : CG5 M w nf fl) (hb : BG5 w nf fl) {f p : Nat} (hf : f < nf) (hp : p < 2) : f1_row_5 (nI f) (nI p) M = some (lN (rw_ (fl f p) w)) := by
  have h2 := hb.2.1
  unfold f1_row_5
  have hp2 : p = 0 ∨ p = 1 := by omega
  rw [if_neg (fun q => (hasG5 h hb).mp q ⟨f, hf, rfl⟩)]
  rcases hp2 with rfl | rfl
  · rw [if_pos (show nI 0 = 0 from rfl), if_pos (by rw [ci_nI (by omega)]; omega), nI_clamp (by omega), (h.2 f hf).1]
  · rw [if_neg (by decide), if_pos (by rw [ci_nI (by omega)]; omega), nI_clamp (by omega), (h.2 f hf).2]
theorem add7 {g : Nat → Nat → Nat} {σ : cg_} (hw : w ≤ 6) (hg : ∀ p k, p < 2 → k < w → g p k ≤ 99) (h : CL7 M w σ.1 σ.2.1 σ.2.2.1) (hb : BL w σ.1 σ.2.1 σ.2.2.1) (hp : σ.2.2.2 < 2) : cw (f4_addField_7 (lN (rw_ (g σ.2.2.2) w)) (nI σ.2.2.2) M) (fun M1 => CL7 M1 w (ca1_ g σ).1 (ca1_ g σ).2.1 (ca1_ g σ).2.2.1 ∧ cf_ f4_addField_7_w M M1) := by
  refine cw_cp ?_ (w_f4_addField_7 (by decide) cf_refl)
  have h9 := hb.1
  unfold f4_addField_7 ca1_
  rw [h.1, show (90 : Int32) = nI 90 from rfl]
  by_cases q : σ.1 < 90
  · rw [if_pos q, if_neg (nI_ge q (by omega)), if_pos (by rw [ci_nI (by omega)]; omega)]
    simp only [cd_lt_p]
    rw [nI_clamp (by omega), fd_make (fun k hk => by have := hg σ.2.2.2 k hp hk; omega) hw hp]
    refine cw_some.mpr ⟨?_, fun i hi => ?_⟩
    · show (cd_wI _ 7 1 _).1 7 1 = nI (σ.1 + 1)
      rw [cd_wI_at, if_pos ⟨rfl, rfl⟩]
      show M.1 7 1 + 1 = _
      rw [h.1, nI_1]
    · show (cd_wL M 28 σ.1 (lN (fd_ (g σ.2.2.2) w σ.2.2.2))).2 28 i = lN (fd_ (if i = σ.1 then g σ.2.2.2 else σ.2.1 i) w (if i = σ.1 then σ.2.2.2 else σ.2.2.1 i))
      have hi : i < σ.1 + 1 := hi
      rw [cd_wL_at]
      by_cases z : i = σ.1
      · rw [if_pos ⟨rfl, z⟩, if_pos z, if_pos z]
      · rw [if_neg (fun y => z y.2), if_neg z, if_neg z]
        exact h.2 i (by omega)
  · rw [if_neg q, if_pos (nI_le (by omega) (by omega))]
    exact cw_some.mpr h
/-- what stays through it -/
def CC7 (M : cd_M) (w nf : Nat) (fl : Nat → Nat → Nat → Nat) (nc fo : Nat) (ln : Nat → Nat) (nb : Nat → Nat → Nat) (vl : Nat → Nat) (σ : cg_) : Prop := CL7 M w σ.1 σ.2.1 σ.2.2.1 ∧ BL w σ.1 σ.2.1 σ.2.2.1 ∧ σ.2.2.2 < 2 ∧ CG5 M w nf fl ∧ CR M nc fo ln nb vl
theorem car7_L37 {c p f num : Nat} (hB : BR nc fo ln nb vl) (hG : BG5 w nf fl) (hc : c < nc) (hp : p < ln c) (hf : f < nf) (hnum : num ≤ 5) {r16 : Int32 → Int32 → Int32 → Int32 → cd_M → Option cd_M} {Q : cd_M → Prop} : ∀ (r fu j : Nat) (σ : cg_) (M : cd_M), j + r = num → r < fu → CC7 M w nf fl nc fo ln nb vl σ →
    (∀ M1 : cd_M, CC7 M1 w nf fl nc fo ln nb vl (cad_ (fl f) r σ) → cw (r16 (nI c) (nI (if p + 1 < ln c then p + 1 else 0)) (nI (cad_ (fl f) r σ).2.2.2) (nI (f + 1)) M1) Q) → cw (f4_carryFrames_7_5_6_L37 r16 fu (nI c) (nI p) (nI σ.2.2.2) (nI f) (nI num) (nI j) M) Q := by
  intro r
  induction r with
  | zero =>
    intro fu j σ M hj hfu h H
    obtain ⟨fu, rfl⟩ := Nat.exists_eq_succ_of_ne_zero (show fu ≠ 0 by omega)
    rw [f4_carryFrames_7_5_6_L37, if_pos (nI_le (by omega) (by omega)), ph_next h.2.2.2.2 hB hc hp]
    simp only [bind_p]
    unfold f4_carryFrames_7_5_6_L90
    simp only [cd_lt_p]
    rw [nI_1, nI_1]
    have H1 := H M h
    by_cases q : p + 1 < ln c
    · rw [if_pos q, if_neg (by decide)]
      rw [if_pos q] at H1
      exact H1
    · rw [if_neg q, if_pos rfl]
      rw [if_neg q] at H1
      exact H1
  | succ r ih =>
    intro fu j σ M hj hfu h H
    obtain ⟨fu, rfl⟩ := Nat.exists_eq_succ_of_ne_zero (show fu ≠ 0 by omega)
    obtain ⟨h1, h2, h3, h4, h5⟩ := h
    rw [f4_carryFrames_7_5_6_L37, if_neg (nI_ge (by omega) (by omega)), rowG5 h4 hG hf h3]
    simp only [bind_p, cw_bind]
    have hg : ∀ p k, p < 2 → k < w → fl f p k ≤ 99 := fun p k hp hk => hG.2.2 f p k hf hp hk
    refine cw_mono (add7 (g := fl f) hG.1 hg h1 h2 h3) (fun M1 k1 => ?_)
    obtain ⟨k1, kf⟩ := k1
    simp only [cd_lt_p]
    have e : (1 : Int32) - nI σ.2.2.2 = nI (ca1_ (fl f) σ).2.2.2 := by
      have e1 : (ca1_ (fl f) σ).2.2.2 = 1 - σ.2.2.2 := by
        unfold ca1_
        by_cases q : σ.1 < 90
        · rw [if_pos q]
        · rw [if_neg q]
      rw [e1]
      exact pk_sub (a := 1) (by omega)
    rw [e, nI_1]
    have ok := ca1_ok hg h2 h3
    refine ih fu (j + 1) (ca1_ (fl f) σ) M1 (by omega) (by omega) ⟨k1, ok.1, ok.2, ?_, ?_⟩ H
    · exact ⟨((kf 5 3 (by decide)).1).trans h4.1, fun f hf => ⟨((kf 23 f (na_cov (by decide) f)).2).trans (h4.2 f hf).1, ((kf 24 f (na_cov (by decide) f)).2).trans (h4.2 f hf).2⟩⟩
    · exact CR_f kf (by decide) h5
theorem car7_L16 {c : Nat} (hB : BR nc fo ln nb vl) (hG : BG5 w nf fl) (hc : c < nc) : ∀ (r fu f p : Nat) (σ : cg_) (M : cd_M), f + r = nf → r < fu → p < ln c → CC7 M w nf fl nc fo ln nb vl σ →
    cw (f4_carryFrames_7_5_6_L16 fu (nI c) (nI p) (nI σ.2.2.2) (nI f) M) (fun M1 => CC7 M1 w nf fl nc fo ln nb vl (cas_ fl (ln c) (nb c) r f p σ)) := by
  intro r
  induction r with
  | zero =>
    intro fu f p σ M hj hfu hp h
    have h2 := hG.2.1
    obtain ⟨fu, rfl⟩ := Nat.exists_eq_succ_of_ne_zero (show fu ≠ 0 by omega)
    rw [f4_carryFrames_7_5_6_L16]
    unfold f1_size_5
    rw [h.2.2.2.1.1, if_pos (nI_le (by omega) (by omega))]
    exact cw_some.mpr h
  | succ r ih =>
    intro fu f p σ M hj hfu hp h
    have h2 := hG.2.1
    obtain ⟨fu, rfl⟩ := Nat.exists_eq_succ_of_ne_zero (show fu ≠ 0 by omega)
    rw [f4_carryFrames_7_5_6_L16]
    unfold f1_size_5
    have h5 := hB.2.2.2.2.1 c p hc hp
    rw [h.2.2.2.1.1, if_neg (nI_ge (by omega) (by omega)), number6 h.2.2.2.2 hB hc hp]
    simp only [bind_p]
    refine car7_L37 hB hG hc hp (f := f) (by omega) h5.2 (nb c p) cd_fu 0 σ M (by omega) (by unfold cd_fu; omega) h (fun M1 k1 => ?_)
    refine ih fu (f + 1) _ _ M1 (by omega) (by omega) ?_ k1
    by_cases q : p + 1 < ln c
    · rw [if_pos q]; exact q
    · rw [if_neg q]; omega
theorem car7 {c p par : Nat} (hB : BR nc fo ln nb vl) (hG : BG5 w nf fl) (hc : c < nc) (hp : p < ln c) (hpar : par < 2) (sm : Nat → Nat → Nat) (pa : Nat → Nat) (hF : CG5 M w nf fl) (hR : CR M nc fo ln nb vl) : cw (f4_carryFrames_7_5_6 (nI c) (nI p) (nI par) M) (fun M1 => CC7 M1 w nf fl nc fo ln nb vl (cas_ fl (ln c) (nb c) nf 0 p (0, sm, pa, par)) ∧ cf_ f4_carryFrames_7_5_6_w M M1) := by
  refine cw_cp ?_ (w_f4_carryFrames_7_5_6 (by decide) cf_refl)
  unfold f4_carryFrames_7_5_6
  simp only [cd_lt_p]
  have h2 := hG.2.1
  refine car7_L16 hB hG hc nf cd_fu 0 p (0, sm, pa, par) _ (by omega) (by unfold cd_fu; omega) hp ⟨⟨?_, fun i hi => absurd hi (Nat.not_lt_zero i)⟩, ⟨by show 0 ≤ 90; omega, fun i k hi => absurd hi (Nat.not_lt_zero i), fun i hi => absurd hi (Nat.not_lt_zero i)⟩, hpar, ⟨?_, fun f hf => hF.2 f hf⟩, ?_⟩
  · rw [cd_wI_at, if_pos ⟨rfl, rfl⟩]; rfl
  · rw [cd_wI_at, if_neg (by decide)]; exact hF.1
  · exact CR_c (by rw [cd_wI_at, if_neg (by decide)]) (by rw [cd_wI_at, if_neg (by decide)]) (fun i => by rw [cd_wI_at, if_neg (by omega)]) (fun i => by rw [cd_wI_at, if_neg (by omega)]) (fun i => by rw [cd_wI_at, if_neg (by omega)]) hR
end ca7
section ca14
variable {M : cd_M} {w nf : Nat} {fl : Nat → Nat → Nat → Nat} {nc fo : Nat} {ln : Nat → Nat} {nb : Nat → Nat → Nat} {vl : Nat → Nat}
/-- the reel 14 and the frames 13 -/
def CL14 (M : cd_M) (w n : Nat) (sm : Nat → Nat → Nat) (pa : Nat → Nat) : Prop := M.1 14 1 = nI n ∧ ∀ i, i < n → M.2 56 i = lN (fd_ (sm i) w (pa i))
def CG13 (M : cd_M) (w nf : Nat) (fl : Nat → Nat → Nat → Nat) : Prop := M.1 13 3 = nI nf ∧ ∀ f, f < nf → M.2 54 f = lN (rw_ (fl f 0) w) ∧ M.2 55 f = lN (rw_ (fl f 1) w)
def BG13 (w nf : Nat) (fl : Nat → Nat → Nat → Nat) : Prop := w ≤ 6 ∧ nf ≤ 90 ∧ ∀ f p k, f < nf → p < 2 → k < w → fl f p k ≤ 99
theorem hasG13 (h : CG13 M w nf fl) (hb : BG13 w nf fl) {a : Int32} : f1_has_13 a M = 0 ↔ ¬ inr_ a nf := by
  unfold f1_has_13
  exact has_iff h.1 (by have := hb.2.1; omega)
theorem rowG13 (h : CG13 M w nf fl) (hb : BG13 w nf fl) {f p : Nat} (hf : f < nf) (hp : p < 2) : f1_row_13 (nI f) (nI p) M = some (lN (rw_ (fl f p) w)) := by
  have h2 := hb.2.1
  unfold f1_row_13
  have hp2 : p = 0 ∨ p = 1 := by omega
  rw [if_neg (fun q => (hasG13 h hb).mp q ⟨f, hf, rfl⟩)]
  rcases hp2 with rfl | rfl
  · rw [if_pos (show nI 0 = 0 from rfl), if_pos (by rw [ci_nI (by omega)]; omega), nI_clamp (by omega), (h.2 f hf).1]
  · rw [if_neg (by decide), if_pos (by rw [ci_nI (by omega)]; omega), nI_clamp (by omega), (h.2 f hf).2]
theorem add14 {g : Nat → Nat → Nat} {σ : cg_} (hw : w ≤ 6) (hg : ∀ p k, p < 2 → k < w → g p k ≤ 99) (h : CL14 M w σ.1 σ.2.1 σ.2.2.1) (hb : BL w σ.1 σ.2.1 σ.2.2.1) (hp : σ.2.2.2 < 2) : cw (f4_addField_14 (lN (rw_ (g σ.2.2.2) w)) (nI σ.2.2.2) M) (fun M1 => CL14 M1 w (ca1_ g σ).1 (ca1_ g σ).2.1 (ca1_ g σ).2.2.1 ∧ cf_ f4_addField_14_w M M1) := by
  refine cw_cp ?_ (w_f4_addField_14 (by decide) cf_refl)
  have h9 := hb.1
  unfold f4_addField_14 ca1_
  rw [h.1, show (90 : Int32) = nI 90 from rfl]
  by_cases q : σ.1 < 90
  · rw [if_pos q, if_neg (nI_ge q (by omega)), if_pos (by rw [ci_nI (by omega)]; omega)]
    simp only [cd_lt_p]
    rw [nI_clamp (by omega), fd_make (fun k hk => by have := hg σ.2.2.2 k hp hk; omega) hw hp]
    refine cw_some.mpr ⟨?_, fun i hi => ?_⟩
    · show (cd_wI _ 14 1 _).1 14 1 = nI (σ.1 + 1)
      rw [cd_wI_at, if_pos ⟨rfl, rfl⟩]
      show M.1 14 1 + 1 = _
      rw [h.1, nI_1]
    · show (cd_wL M 56 σ.1 (lN (fd_ (g σ.2.2.2) w σ.2.2.2))).2 56 i = lN (fd_ (if i = σ.1 then g σ.2.2.2 else σ.2.1 i) w (if i = σ.1 then σ.2.2.2 else σ.2.2.1 i))
      have hi : i < σ.1 + 1 := hi
      rw [cd_wL_at]
      by_cases z : i = σ.1
      · rw [if_pos ⟨rfl, z⟩, if_pos z, if_pos z]
      · rw [if_neg (fun y => z y.2), if_neg z, if_neg z]
        exact h.2 i (by omega)
  · rw [if_neg q, if_pos (nI_le (by omega) (by omega))]
    exact cw_some.mpr h
/-- what stays through it -/
def CC14 (M : cd_M) (w nf : Nat) (fl : Nat → Nat → Nat → Nat) (nc fo : Nat) (ln : Nat → Nat) (nb : Nat → Nat → Nat) (vl : Nat → Nat) (σ : cg_) : Prop := CL14 M w σ.1 σ.2.1 σ.2.2.1 ∧ BL w σ.1 σ.2.1 σ.2.2.1 ∧ σ.2.2.2 < 2 ∧ CG13 M w nf fl ∧ CR M nc fo ln nb vl
theorem car14_L37 {c p f num : Nat} (hB : BR nc fo ln nb vl) (hG : BG13 w nf fl) (hc : c < nc) (hp : p < ln c) (hf : f < nf) (hnum : num ≤ 5) {r16 : Int32 → Int32 → Int32 → Int32 → cd_M → Option cd_M} {Q : cd_M → Prop} : ∀ (r fu j : Nat) (σ : cg_) (M : cd_M), j + r = num → r < fu → CC14 M w nf fl nc fo ln nb vl σ →
    (∀ M1 : cd_M, CC14 M1 w nf fl nc fo ln nb vl (cad_ (fl f) r σ) → cw (r16 (nI c) (nI (if p + 1 < ln c then p + 1 else 0)) (nI (cad_ (fl f) r σ).2.2.2) (nI (f + 1)) M1) Q) → cw (f4_carryFrames_14_13_6_L37 r16 fu (nI c) (nI p) (nI σ.2.2.2) (nI f) (nI num) (nI j) M) Q := by
  intro r
  induction r with
  | zero =>
    intro fu j σ M hj hfu h H
    obtain ⟨fu, rfl⟩ := Nat.exists_eq_succ_of_ne_zero (show fu ≠ 0 by omega)
    rw [f4_carryFrames_14_13_6_L37, if_pos (nI_le (by omega) (by omega)), ph_next h.2.2.2.2 hB hc hp]
    simp only [bind_p]
    unfold f4_carryFrames_14_13_6_L90
    simp only [cd_lt_p]
    rw [nI_1, nI_1]
    have H1 := H M h
    by_cases q : p + 1 < ln c
    · rw [if_pos q, if_neg (by decide)]
      rw [if_pos q] at H1
      exact H1
    · rw [if_neg q, if_pos rfl]
      rw [if_neg q] at H1
      exact H1
  | succ r ih =>
    intro fu j σ M hj hfu h H
    obtain ⟨fu, rfl⟩ := Nat.exists_eq_succ_of_ne_zero (show fu ≠ 0 by omega)
    obtain ⟨h1, h2, h3, h4, h5⟩ := h
    rw [f4_carryFrames_14_13_6_L37, if_neg (nI_ge (by omega) (by omega)), rowG13 h4 hG hf h3]
    simp only [bind_p, cw_bind]
    have hg : ∀ p k, p < 2 → k < w → fl f p k ≤ 99 := fun p k hp hk => hG.2.2 f p k hf hp hk
    refine cw_mono (add14 (g := fl f) hG.1 hg h1 h2 h3) (fun M1 k1 => ?_)
    obtain ⟨k1, kf⟩ := k1
    simp only [cd_lt_p]
    have e : (1 : Int32) - nI σ.2.2.2 = nI (ca1_ (fl f) σ).2.2.2 := by
      have e1 : (ca1_ (fl f) σ).2.2.2 = 1 - σ.2.2.2 := by
        unfold ca1_
        by_cases q : σ.1 < 90
        · rw [if_pos q]
        · rw [if_neg q]
      rw [e1]
      exact pk_sub (a := 1) (by omega)
    rw [e, nI_1]
    have ok := ca1_ok hg h2 h3
    refine ih fu (j + 1) (ca1_ (fl f) σ) M1 (by omega) (by omega) ⟨k1, ok.1, ok.2, ?_, ?_⟩ H
    · exact ⟨((kf 13 3 (by decide)).1).trans h4.1, fun f hf => ⟨((kf 54 f (na_cov (by decide) f)).2).trans (h4.2 f hf).1, ((kf 55 f (na_cov (by decide) f)).2).trans (h4.2 f hf).2⟩⟩
    · exact CR_f kf (by decide) h5
theorem car14_L16 {c : Nat} (hB : BR nc fo ln nb vl) (hG : BG13 w nf fl) (hc : c < nc) : ∀ (r fu f p : Nat) (σ : cg_) (M : cd_M), f + r = nf → r < fu → p < ln c → CC14 M w nf fl nc fo ln nb vl σ →
    cw (f4_carryFrames_14_13_6_L16 fu (nI c) (nI p) (nI σ.2.2.2) (nI f) M) (fun M1 => CC14 M1 w nf fl nc fo ln nb vl (cas_ fl (ln c) (nb c) r f p σ)) := by
  intro r
  induction r with
  | zero =>
    intro fu f p σ M hj hfu hp h
    have h2 := hG.2.1
    obtain ⟨fu, rfl⟩ := Nat.exists_eq_succ_of_ne_zero (show fu ≠ 0 by omega)
    rw [f4_carryFrames_14_13_6_L16]
    unfold f1_size_13
    rw [h.2.2.2.1.1, if_pos (nI_le (by omega) (by omega))]
    exact cw_some.mpr h
  | succ r ih =>
    intro fu f p σ M hj hfu hp h
    have h2 := hG.2.1
    obtain ⟨fu, rfl⟩ := Nat.exists_eq_succ_of_ne_zero (show fu ≠ 0 by omega)
    rw [f4_carryFrames_14_13_6_L16]
    unfold f1_size_13
    have h5 := hB.2.2.2.2.1 c p hc hp
    rw [h.2.2.2.1.1, if_neg (nI_ge (by omega) (by omega)), number6 h.2.2.2.2 hB hc hp]
    simp only [bind_p]
    refine car14_L37 hB hG hc hp (f := f) (by omega) h5.2 (nb c p) cd_fu 0 σ M (by omega) (by unfold cd_fu; omega) h (fun M1 k1 => ?_)
    refine ih fu (f + 1) _ _ M1 (by omega) (by omega) ?_ k1
    by_cases q : p + 1 < ln c
    · rw [if_pos q]; exact q
    · rw [if_neg q]; omega
theorem car14 {c p par : Nat} (hB : BR nc fo ln nb vl) (hG : BG13 w nf fl) (hc : c < nc) (hp : p < ln c) (hpar : par < 2) (sm : Nat → Nat → Nat) (pa : Nat → Nat) (hF : CG13 M w nf fl) (hR : CR M nc fo ln nb vl) : cw (f4_carryFrames_14_13_6 (nI c) (nI p) (nI par) M) (fun M1 => CC14 M1 w nf fl nc fo ln nb vl (cas_ fl (ln c) (nb c) nf 0 p (0, sm, pa, par)) ∧ cf_ f4_carryFrames_14_13_6_w M M1) := by
  refine cw_cp ?_ (w_f4_carryFrames_14_13_6 (by decide) cf_refl)
  unfold f4_carryFrames_14_13_6
  simp only [cd_lt_p]
  have h2 := hG.2.1
  refine car14_L16 hB hG hc nf cd_fu 0 p (0, sm, pa, par) _ (by omega) (by unfold cd_fu; omega) hp ⟨⟨?_, fun i hi => absurd hi (Nat.not_lt_zero i)⟩, ⟨by show 0 ≤ 90; omega, fun i k hi => absurd hi (Nat.not_lt_zero i), fun i hi => absurd hi (Nat.not_lt_zero i)⟩, hpar, ⟨?_, fun f hf => hF.2 f hf⟩, ?_⟩
  · rw [cd_wI_at, if_pos ⟨rfl, rfl⟩]; rfl
  · rw [cd_wI_at, if_neg (by decide)]; exact hF.1
  · exact CR_c (by rw [cd_wI_at, if_neg (by decide)]) (by rw [cd_wI_at, if_neg (by decide)]) (fun i => by rw [cd_wI_at, if_neg (by omega)]) (fun i => by rw [cd_wI_at, if_neg (by omega)]) (fun i => by rw [cd_wI_at, if_neg (by omega)]) hR
end ca14
