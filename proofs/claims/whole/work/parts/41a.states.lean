/-! the class: the states of a cadence -/
def fs_ (k : Nat) : Nat := k * (k + 1) / 2
def bs_ (nu : Nat → Nat) : Nat → Nat
  | 0 => 0
  | p + 1 => bs_ nu p + fs_ (nu p)
/-- the class's number of a state -/
def ix_ (nu : Nat → Nat) (st : Nat) : Nat := bs_ nu (st / 25) + fs_ (st / 5 % 5) + st % 5
theorem fs_ok : ∀ s, s < 6 → fs_ (s + 1) = fs_ s + (s + 1) := by decide
theorem fs_lt : ∀ s, s < 5 → ∀ u, u < 6 → s < u → fs_ s + s < fs_ u ∧ fs_ u ≤ 15 := by decide
theorem first_n {k : Nat} (hk : k < 100) (M : cd_M) : f6_firstOfStep (nI k) M = nI (fs_ k) := by
  have h : k * (k + 1) ≤ 100 * 101 := Nat.mul_le_mul (by omega) (by omega)
  unfold f6_firstOfStep fs_
  rw [nI_1, pk_mul]
  exact pk_div (d := 2) (by omega) (by decide) (by decide)
section csA
variable {L : Nat} {nu : Nat → Nat}
theorem bs_le (h : okc_ L nu) : ∀ p, p ≤ L → bs_ nu p ≤ 15 * p
  | 0, _ => Nat.le_refl _
  | p + 1, hp => by
    have h1 := bs_le h p (by omega)
    have h5 := h.2.2 p (by omega)
    have := (fs_lt 0 (by decide) (nu p) (by omega) (by omega)).2
    show bs_ nu p + fs_ (nu p) ≤ _
    omega
theorem ix_lt (h : okc_ L nu) {st : Nat} (v : vld_ L nu st) : ix_ nu st < bs_ nu (st / 25 + 1) ∧ ix_ nu st < 90 := by
  have h5 := h.2.2 _ v.1
  have a := fs_lt (st / 5 % 5) (by omega) (nu (st / 25)) (by omega) v.2.1
  have b := bs_le h (st / 25 + 1) v.1
  have c := v.2.2
  have d := v.1
  have e := h.2.1
  have eb : bs_ nu (st / 25 + 1) = bs_ nu (st / 25) + fs_ (nu (st / 25)) := rfl
  unfold ix_
  omega
/-- the table as far as it is laid: all states below cur -/
def TB (L : Nat) (nu : Nat → Nat) (k cur : Nat) (tb : Nat → Nat) : Prop := (∀ j, j < k → vld_ L nu (tb j) ∧ tb j < cur ∧ ix_ nu (tb j) = j) ∧ (∀ st, vld_ L nu st → st < cur → ix_ nu st < k ∧ tb (ix_ nu st) = st) ∧ ∀ i j, i < j → j < k → tb i < tb j
def CS (M : cd_M) (L : Nat) (nu : Nat → Nat) (k : Nat) (tb : Nat → Nat) : Prop := M.1 10 4 = nI k ∧ ∀ j, j < k → M.1 39 j = nI (tb j / 25) ∧ M.1 40 j = nI (tb j / 5 % 5) ∧ M.1 41 j = nI (tb j % 5) ∧ M.1 42 j = nI (ix_ nu (ons_ L nu (tb j)))
theorem CS_c {M M1 : cd_M} {k : Nat} {tb : Nat → Nat} (e0 : M1.1 10 4 = M.1 10 4) (e1 : ∀ i, M1.1 39 i = M.1 39 i) (e2 : ∀ i, M1.1 40 i = M.1 40 i) (e3 : ∀ i, M1.1 41 i = M.1 41 i) (e4 : ∀ i, M1.1 42 i = M.1 42 i) (h : CS M L nu k tb) : CS M1 L nu k tb := by unfold CS at *; simp only [e0, e1, e2, e3, e4]; exact h
def kCS (ws : List (Nat × Option Nat)) : Bool := !cf_cov ws 10 4 && na_ ws 39 && na_ ws 40 && na_ ws 41 && na_ ws 42
theorem CS_f {ws : List (Nat × Option Nat)} {M M1 : cd_M} {k : Nat} {tb : Nat → Nat} (hf : cf_ ws M M1) (h : kCS ws = true) (q : CS M L nu k tb) : CS M1 L nu k tb := by
  unfold kCS at h
  simp only [Bool.and_eq_true] at h
  exact CS_c (hf _ _ (nf_cov h.1.1.1.1)).1 (fun i => (hf _ _ (na_cov h.1.1.1.2 i)).1) (fun i => (hf _ _ (na_cov h.1.1.2 i)).1) (fun i => (hf _ _ (na_cov h.1.2 i)).1) (fun i => (hf _ _ (na_cov h.2 i)).1) q
theorem TB_skip {k cur cur' : Nat} {tb : Nat → Nat} (h : TB L nu k cur tb) (hc : cur ≤ cur') (hn : ∀ st, cur ≤ st → st < cur' → ¬ vld_ L nu st) : TB L nu k cur' tb := by
  refine ⟨fun j hj => ⟨(h.1 j hj).1, by have := (h.1 j hj).2.1; omega, (h.1 j hj).2.2⟩, fun st v hs => ?_, h.2.2⟩
  by_cases q : st < cur
  · exact h.2.1 st v q
  · exact absurd v (hn st (by omega) hs)
theorem TB_add {k cur : Nat} {tb : Nat → Nat} (h : TB L nu k cur tb) (v : vld_ L nu cur) (hx : ix_ nu cur = k) : TB L nu (k + 1) (cur + 1) (fun j => if j = k then cur else tb j) := by
  refine ⟨fun j hj => ?_, fun st vs hs => ?_, fun i j hi hj => ?_⟩
  · dsimp only
    by_cases q : j = k
    · rw [if_pos q]; exact ⟨v, by omega, by rw [hx, q]⟩
    · rw [if_neg q]
      have := h.1 j (by omega)
      exact ⟨this.1, by omega, this.2.2⟩
  · dsimp only
    by_cases q : st = cur
    · rw [q, hx, if_pos rfl]; exact ⟨by omega, rfl⟩
    · have := h.2.1 st vs (by omega)
      rw [if_neg (by omega)]
      exact ⟨by omega, this.2⟩
  · dsimp only
    rw [if_neg (by omega)]
    by_cases q : j = k
    · rw [if_pos q]; exact (h.1 i (by omega)).2.1
    · rw [if_neg q]; exact h.2.2 i j hi (by omega)
theorem addS {M : cd_M} {k st : Nat} {tb : Nat → Nat} (h : CS M L nu k tb) (hk : k < 90) : cw (f6_addState_10 (nI (st / 25)) (nI (st / 5 % 5)) (nI (st % 5)) (nI (ix_ nu (ons_ L nu st))) M) (fun M1 => CS M1 L nu (k + 1) (fun j => if j = k then st else tb j) ∧ cf_ f6_addState_10_w M M1) := by
  refine cw_cp ?_ (w_f6_addState_10 (by decide) cf_refl)
  have ci : cd_in (nI k) 90 = true := by rw [ci_nI (by omega)]; exact hk
  have h104 := h.1
  unfold f6_addState_10
  rw [h104, show (90 : Int32) = nI 90 from rfl, if_neg (nI_ge hk (by omega)), if_pos ci, nI_clamp (by omega)]
  simp only [cd_lt_p]
  have e1 : (cd_wI M 39 k (nI (st / 25))).1 10 4 = nI k := by rw [cd_wI_at, if_neg (by omega)]; exact h104
  rw [e1, if_pos ci, nI_clamp (by omega)]
  have e2 : (cd_wI (cd_wI M 39 k (nI (st / 25))) 40 k (nI (st / 5 % 5))).1 10 4 = nI k := by rw [cd_wI_at, if_neg (by omega)]; exact e1
  rw [e2, if_pos ci, nI_clamp (by omega)]
  have e3 : (cd_wI (cd_wI (cd_wI M 39 k (nI (st / 25))) 40 k (nI (st / 5 % 5))) 41 k (nI (st % 5))).1 10 4 = nI k := by rw [cd_wI_at, if_neg (by omega)]; exact e2
  rw [e3, if_pos ci, nI_clamp (by omega)]
  have e4 : (cd_wI (cd_wI (cd_wI (cd_wI M 39 k (nI (st / 25))) 40 k (nI (st / 5 % 5))) 41 k (nI (st % 5))) 42 k (nI (ix_ nu (ons_ L nu st)))).1 10 4 = nI k := by rw [cd_wI_at, if_neg (by omega)]; exact e3
  rw [e4, nI_1]
  refine cw_some.mpr ⟨by rw [cd_wI_at, if_pos ⟨rfl, rfl⟩], fun j hj => ?_⟩
  dsimp only
  by_cases q : j = k
  · subst q
    rw [if_pos rfl]
    refine ⟨?_, ?_, ?_, ?_⟩
    · rw [cd_wI_at, if_neg (by omega), cd_wI_at, if_neg (by omega), cd_wI_at, if_neg (by omega), cd_wI_at, if_neg (by omega), cd_wI_at, if_pos ⟨rfl, rfl⟩]
    · rw [cd_wI_at, if_neg (by omega), cd_wI_at, if_neg (by omega), cd_wI_at, if_neg (by omega), cd_wI_at, if_pos ⟨rfl, rfl⟩]
    · rw [cd_wI_at, if_neg (by omega), cd_wI_at, if_neg (by omega), cd_wI_at, if_pos ⟨rfl, rfl⟩]
    · rw [cd_wI_at, if_neg (by omega), cd_wI_at, if_pos ⟨rfl, rfl⟩]
  · rw [if_neg q]
    have g : ∀ x, x ≠ 10 → (cd_wI (cd_wI (cd_wI (cd_wI (cd_wI M 39 k (nI (st / 25))) 40 k (nI (st / 5 % 5))) 41 k (nI (st % 5))) 42 k (nI (ix_ nu (ons_ L nu st)))) 10 4 (nI (k + 1))).1 x j = M.1 x j := fun x hx => by rw [cd_wI_at, if_neg (by omega), cd_wI_at, if_neg (by omega), cd_wI_at, if_neg (by omega), cd_wI_at, if_neg (by omega), cd_wI_at, if_neg (by omega)]
    rw [g _ (by decide), g _ (by decide), g _ (by decide), g _ (by decide)]
    exact h.2 j (by omega)
def CT6 (M0 M : cd_M) (L : Nat) (nu : Nat → Nat) (k cur : Nat) : Prop := ∃ tb, CS M L nu k tb ∧ TB L nu k cur tb ∧ cf_ f6_build_10_6_w M0 M
theorem ap_35 {M0 : cd_M} {p s : Nat} (h : okc_ L nu) (hp : p < L) (hs : s < nu p) {r26 : Int32 → Int32 → Int32 → Int32 → Int32 → cd_M → Option cd_M} {Q : cd_M → Prop} : ∀ (r fu e : Nat) (M : cd_M), e + r = s + 1 → r < fu → CT6 M0 M L nu (bs_ nu p + fs_ s + e) (25 * p + 5 * s + e) →
    (∀ M1, CT6 M0 M1 L nu (bs_ nu p + fs_ (s + 1)) (25 * p + 5 * (s + 1)) → cw (r26 (nI p) (nI (nu p)) (nI (bs_ nu p)) (nI (if p + 1 < L then bs_ nu (p + 1) else 0)) (nI (s + 1)) M1) Q) →
    cw (f6_addPlace_10_L35 r26 fu (nI p) (nI (nu p)) (nI (bs_ nu p)) (nI (if p + 1 < L then bs_ nu (p + 1) else 0)) (nI s) (nI e) M) Q := by
  intro r
  have h5 := h.2.2 p hp
  have h6 := h.2.1
  have hbs := bs_le h p (by omega)
  induction r with
  | zero =>
    intro fu e M he hfu hC H
    obtain ⟨fu, rfl⟩ := Nat.exists_eq_succ_of_ne_zero (show fu ≠ 0 by omega)
    rw [f6_addPlace_10_L35, if_pos (nI_lt (by omega) (by omega))]
    simp only [cd_lt_p]
    rw [nI_1]
    obtain ⟨tb, c1, c2, c3⟩ := hC
    refine H M ⟨tb, ?_, ?_, c3⟩
    · rw [fs_ok s (by omega), show bs_ nu p + (fs_ s + (s + 1)) = bs_ nu p + fs_ s + e by omega]; exact c1
    · rw [fs_ok s (by omega), show bs_ nu p + (fs_ s + (s + 1)) = bs_ nu p + fs_ s + e by omega]
      refine TB_skip c2 (by omega) (fun st a b v => ?_)
      have := v.2.2
      omega
  | succ r ih =>
    intro fu e M he hfu hC H
    obtain ⟨fu, rfl⟩ := Nat.exists_eq_succ_of_ne_zero (show fu ≠ 0 by omega)
    obtain ⟨tb, c1, c2, c3⟩ := hC
    have e1 : (25 * p + 5 * s + e) / 25 = p := by omega
    have e2 : (25 * p + 5 * s + e) / 5 % 5 = s := by
      have : (25 * p + 5 * s + e) / 5 = 5 * p + s := by omega
      omega
    have e3 : (25 * p + 5 * s + e) % 5 = e := by omega
    have v : vld_ L nu (25 * p + 5 * s + e) := ⟨by rw [e1]; exact hp, by rw [e1, e2]; exact hs, by rw [e2, e3]; omega⟩
    have hix : ix_ nu (25 * p + 5 * s + e) = bs_ nu p + fs_ s + e := by unfold ix_; rw [e1, e2, e3]
    have hlt := (ix_lt h v).2
    rw [hix] at hlt
    have fin : ∀ x : Int32, x = nI (ix_ nu (ons_ L nu (25 * p + 5 * s + e))) → cw (f6_addPlace_10_L80 r26 (f6_addPlace_10_L35 r26 fu) (nI p) (nI (nu p)) (nI (bs_ nu p)) (nI (if p + 1 < L then bs_ nu (p + 1) else 0)) (nI s) (nI e) x (nI e) (nI s) (nI p) M) Q := by
      rintro x rfl
      unfold f6_addPlace_10_L80
      rw [cw_bind]
      have A := addS (st := 25 * p + 5 * s + e) c1 hlt
      rw [e1, e2, e3] at A
      refine cw_mono A (fun M1 k1 => ?_)
      simp only [cd_lt_p]
      rw [nI_1]
      exact ih fu (e + 1) M1 (by omega) (by omega) ⟨_, k1.1, TB_add c2 v hix, cf_trans c3 (cf_le (by decide) k1.2)⟩ H
    rw [f6_addPlace_10_L35, if_neg (nI_nlt (by omega) (by omega))]
    simp only [cd_lt_p]
    rw [nI_1, first_n (by omega), nI_add, nI_add, nI_1]
    by_cases q : s + 1 < nu p
    · rw [if_neg (nI_ge q (by omega))]
      refine fin _ ?_
      unfold ons_ ix_
      have z5 : (25 * p + 5 * s + e + 6) / 5 = 5 * p + s + 1 := by omega
      have z6 : (25 * p + 5 * s + e + 6) / 5 % 5 = s + 1 := by omega
      rw [e1, e2, if_pos q, show (25 * p + 5 * s + e + 6) / 25 = p by omega, z6, show (25 * p + 5 * s + e + 6) % 5 = e + 1 by omega]
      rfl
    · rw [if_pos (nI_le (by omega) (by omega))]
      refine fin _ ?_
      unfold ons_ ix_
      rw [e1, e2, if_neg q]
      by_cases y : p + 1 < L
      · rw [if_pos y, Nat.mod_eq_of_lt y, show 25 * (p + 1) / 25 = p + 1 by omega, show 25 * (p + 1) / 5 % 5 = 0 by omega, show 25 * (p + 1) % 5 = 0 by omega]
        rfl
      · rw [if_neg y, show p + 1 = L by omega, Nat.mod_self]
        rfl
theorem ap_26 {M0 : cd_M} {p : Nat} (h : okc_ L nu) (hp : p < L) : ∀ (r fu s : Nat) (M : cd_M), s + r = nu p → r < fu → CT6 M0 M L nu (bs_ nu p + fs_ s) (25 * p + 5 * s) → cw (f6_addPlace_10_L26 fu (nI p) (nI (nu p)) (nI (bs_ nu p)) (nI (if p + 1 < L then bs_ nu (p + 1) else 0)) (nI s) M) (fun M1 => CT6 M0 M1 L nu (bs_ nu (p + 1)) (25 * (p + 1))) := by
  intro r
  have h5 := h.2.2 p hp
  induction r with
  | zero =>
    intro fu s M hs hfu hC
    obtain ⟨fu, rfl⟩ := Nat.exists_eq_succ_of_ne_zero (show fu ≠ 0 by omega)
    rw [f6_addPlace_10_L26, if_pos (nI_le (by omega) (by omega))]
    obtain ⟨tb, c1, c2, c3⟩ := hC
    have es : s = nu p := by omega
    rw [es] at c1 c2
    refine cw_some.mpr ⟨tb, c1, TB_skip c2 (by omega) (fun st a b v => ?_), c3⟩
    have v2 := v.2.1
    rw [show st / 25 = p by omega] at v2
    omega
  | succ r ih =>
    intro fu s M hs hfu hC
    obtain ⟨fu, rfl⟩ := Nat.exists_eq_succ_of_ne_zero (show fu ≠ 0 by omega)
    rw [f6_addPlace_10_L26, if_neg (nI_ge (by omega) (by omega))]
    exact ap_35 h hp (s := s) (by omega) (s + 1) cd_fu 0 M (by omega) (by unfold cd_fu; omega) hC (fun M1 k1 => ih fu (s + 1) M1 (by omega) (by omega) k1)
theorem bld_14 {M0 : cd_M} {c nc fo : Nat} {ln : Nat → Nat} {nb : Nat → Nat → Nat} {vl : Nat → Nat} (hR : CR M0 nc fo ln nb vl) (hB : BR nc fo ln nb vl) (hc : c < nc) (h : okc_ (ln c) (nb c)) : ∀ (r fu p : Nat) (M : cd_M), p + r = ln c → r < fu → CT6 M0 M (ln c) (nb c) (bs_ (nb c) p) (25 * p) → cw (f6_build_10_6_L14 fu (nI c) (nI (ln c)) (nI p) M) (fun M1 => CT6 M0 M1 (ln c) (nb c) (bs_ (nb c) (ln c)) (25 * ln c)) := by
  intro r
  have h6 := h.2.1
  induction r with
  | zero =>
    intro fu p M hp hfu hC
    obtain ⟨fu, rfl⟩ := Nat.exists_eq_succ_of_ne_zero (show fu ≠ 0 by omega)
    have ep : p = ln c := by omega
    rw [ep] at hC
    rw [f6_build_10_6_L14, if_pos (nI_le (by omega) (by omega))]
    exact cw_some.mpr hC
  | succ r ih =>
    intro fu p M hp hfu hC
    obtain ⟨fu, rfl⟩ := Nat.exists_eq_succ_of_ne_zero (show fu ≠ 0 by omega)
    obtain ⟨tb, c1, c2, c3⟩ := hC
    have cR : CR M nc fo ln nb vl := CR_f c3 (by decide) hR
    have h5 := h.2.2 p (by omega)
    rw [f6_build_10_6_L14, if_neg (nI_ge (by omega) (by omega)), number6 cR hB hc (by omega), bind_p, nI_1]
    have fin : ∀ x : Int32, (x = 0 ↔ ¬ p + 1 < ln c) → cw (f6_build_10_6_L43 (f6_build_10_6_L14 fu) (nI c) (nI (ln c)) (nI p) x (nI (nb c p)) (nI p) M) (fun M1 => CT6 M0 M1 (ln c) (nb c) (bs_ (nb c) (ln c)) (25 * ln c)) := by
      intro x hx
      unfold f6_build_10_6_L43
      rw [cw_bind]
      have K := ap_26 (M0 := M0) (p := p) h (by omega) (nb c p) cd_fu 0 M (by omega) (by unfold cd_fu; omega) ⟨tb, c1, c2, c3⟩
      unfold f6_addPlace_10 f6_addPlace_10_L21
      simp only [cd_lt_p]
      rw [c1.1, first_n (by omega), nI_add]
      have K2 : cw (if x = 0 then f6_addPlace_10_L26 cd_fu (nI p) (nI (nb c p)) (nI (bs_ (nb c) p)) 0 0 M else f6_addPlace_10_L26 cd_fu (nI p) (nI (nb c p)) (nI (bs_ (nb c) p)) (nI (bs_ (nb c) p + fs_ (nb c p))) 0 M) (fun M1 => CT6 M0 M1 (ln c) (nb c) (bs_ (nb c) (p + 1)) (25 * (p + 1))) := by
        by_cases q : p + 1 < ln c
        · rw [if_neg (fun z => hx.mp z q)]
          rw [if_pos q] at K
          exact K
        · rw [if_pos (hx.mpr q)]
          rw [if_neg q] at K
          exact K
      refine cw_mono K2 (fun M1 k1 => ?_)
      rw [nI_1]
      exact ih fu (p + 1) M1 (by omega) (by omega) k1
    by_cases q : p + 1 < ln c
    · rw [if_neg (nI_ge q (by omega))]
      exact fin 1 ⟨fun z => absurd z (by decide), fun z => absurd q z⟩
    · rw [if_pos (nI_le (by omega) (by omega))]
      exact fin 0 ⟨fun _ => q, fun _ => rfl⟩
end csA
theorem buildC {M : cd_M} {c nc fo : Nat} {ln : Nat → Nat} {nb : Nat → Nat → Nat} {vl : Nat → Nat} (hR : CR M nc fo ln nb vl) (hB : BR nc fo ln nb vl) (hc : c < nc) : cw (f6_build_10_6 (nI c) M) (fun M1 => CT6 M M1 (ln c) (nb c) (bs_ (nb c) (ln c)) (25 * ln c)) := by
  unfold f6_build_10_6
  simp only [cd_lt_p]
  have f1 : cf_ f6_build_10_6_w M (cd_wI M 10 4 0) := cf_wcI (by decide) cf_refl
  have hl := hB.2.2.2.1 c hc
  rw [length6 (CR_f f1 (by decide) hR) hB hc, bind_p]
  refine bld_14 hR hB hc ⟨hl.1, hl.2, fun p hp => hB.2.2.2.2.1 c p hc hp⟩ (ln c) cd_fu 0 _ (by omega) (by unfold cd_fu; omega) ⟨fun _ => 0, ⟨by rw [cd_wI_at, if_pos ⟨rfl, rfl⟩]; rfl, fun j hj => absurd hj (Nat.not_lt_zero j)⟩, ⟨fun j hj => absurd hj (Nat.not_lt_zero j), fun st _ hs => absurd hs (Nat.not_lt_zero st), fun i j _ hj => absurd hj (Nat.not_lt_zero j)⟩, f1⟩
