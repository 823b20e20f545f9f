/-! tokens, over plain numbers and on both sides -/
def run_ (P : Nat → Bool) (E : Nat) : Nat → Nat → Nat
  | 0, p => p
  | r + 1, p => if p < E ∧ P p = true then run_ P E r (p + 1) else p
/-- from p on while P holds -/
def nx_ (P : Nat → Bool) (E p : Nat) : Nat := run_ P E (E - p) p
theorem nx_go {P : Nat → Bool} {E p : Nat} (h : p < E) (hP : P p = true) : nx_ P E p = nx_ P E (p + 1) := by
  unfold nx_
  obtain ⟨r, hr⟩ : ∃ r, E - (p + 1) = r := ⟨_, rfl⟩
  rw [hr, show E - p = r + 1 by omega]
  show (if p < E ∧ P p = true then run_ P E r (p + 1) else p) = _
  rw [if_pos ⟨h, hP⟩]
theorem nx_st {P : Nat → Bool} {E p : Nat} (h : ¬ (p < E ∧ P p = true)) : nx_ P E p = p := by
  unfold nx_
  cases E - p with
  | zero => rfl
  | succ r =>
    show (if p < E ∧ P p = true then run_ P E r (p + 1) else p) = p
    rw [if_neg h]
theorem run_b {P : Nat → Bool} {E : Nat} : ∀ r p, p ≤ run_ P E r p ∧ (p ≤ E → run_ P E r p ≤ E)
  | 0, p => ⟨Nat.le_refl _, fun h => h⟩
  | r + 1, p => by
    show p ≤ (if p < E ∧ P p = true then run_ P E r (p + 1) else p) ∧ (p ≤ E → (if p < E ∧ P p = true then run_ P E r (p + 1) else p) ≤ E)
    have ih := run_b (P := P) (E := E) r (p + 1)
    by_cases q : p < E ∧ P p = true
    · rw [if_pos q]
      exact ⟨by have := ih.1; omega, fun _ => ih.2 (by omega)⟩
    · rw [if_neg q]
      exact ⟨Nat.le_refl _, fun h => h⟩
theorem nx_ge {P : Nat → Bool} {E p : Nat} : p ≤ nx_ P E p := (run_b _ _).1
theorem nx_le {P : Nat → Bool} {E p : Nat} (h : p ≤ E) : nx_ P E p ≤ E := (run_b _ _).2 h
theorem run_P {P : Nat → Bool} {E : Nat} : ∀ r p i, p ≤ i → i < run_ P E r p → P i = true
  | 0, p, i, h1, h2 => by
    have h2 : i < p := h2
    omega
  | r + 1, p, i, h1, h2 => by
    have h2 : i < (if p < E ∧ P p = true then run_ P E r (p + 1) else p) := h2
    by_cases q : p < E ∧ P p = true
    · rw [if_pos q] at h2
      by_cases z : i = p
      · rw [z]; exact q.2
      · exact run_P r (p + 1) i (by omega) h2
    · rw [if_neg q] at h2
      omega
def isB (b : Nat → Nat) (p : Nat) : Bool := decide (b p = 32 ∨ b p = 10)
def isL (b : Nat → Nat) (p : Nat) : Bool := decide (97 ≤ b p ∧ b p ≤ 122)
def isD (b : Nat → Nat) (p : Nat) : Bool := decide (48 ≤ b p ∧ b p ≤ 57)
/-- the number of the first digits, four at most -/
def vn_ (b : Nat → Nat) (s : Nat) : Nat → Nat
  | 0 => 0
  | j + 1 => if j < 4 then 10 * vn_ b s j + b (s + j) - 48 else vn_ b s j
theorem vn_le {b : Nat → Nat} {s : Nat} : ∀ j, (∀ i, i < j → b (s + i) ≤ 57) → vn_ b s j ≤ (if j = 0 then 0 else if j = 1 then 9 else if j = 2 then 99 else if j = 3 then 999 else 9999)
  | 0, _ => Nat.le_refl _
  | j + 1, h => by
    have ih := vn_le (b := b) (s := s) j (fun i hi => h i (by omega))
    have hj := h j (by omega)
    show (if j < 4 then 10 * vn_ b s j + b (s + j) - 48 else vn_ b s j) ≤ _
    by_cases q : j < 4
    · rw [if_pos q]
      have : j = 0 ∨ j = 1 ∨ j = 2 ∨ j = 3 := by omega
      rcases this with rfl | rfl | rfl | rfl
      · rw [if_pos rfl] at ih; rw [if_neg (by omega), if_pos rfl]; omega
      · rw [if_neg (by omega), if_pos rfl] at ih; rw [if_neg (by omega), if_neg (by omega), if_pos rfl]; omega
      · rw [if_neg (by omega), if_neg (by omega), if_pos rfl] at ih; rw [if_neg (by omega), if_neg (by omega), if_neg (by omega), if_pos rfl]; omega
      · rw [if_neg (by omega), if_neg (by omega), if_neg (by omega), if_pos rfl] at ih; rw [if_neg (by omega), if_neg (by omega), if_neg (by omega), if_neg (by omega)]; omega
    · rw [if_neg q]
      rw [if_neg (by omega), if_neg (by omega), if_neg (by omega), if_neg (by omega)] at ih
      rw [if_neg (by omega), if_neg (by omega), if_neg (by omega), if_neg (by omega)]
      exact ih
/-- the token that begins at s: its kind, where it ends, its number -/
def tkk_ (b : Nat → Nat) (E s : Nat) : Nat := if s < E then (if isL b s = true then 1 else if isD b s = true then (if nx_ (isD b) E s - s ≤ 4 then 2 else 4) else if b s = 59 then 3 else 4) else 0
def tke_ (b : Nat → Nat) (E s : Nat) : Nat := if s < E then (if isL b s = true then nx_ (isL b) E s else if isD b s = true then nx_ (isD b) E s else s + 1) else s
def tkn_ (b : Nat → Nat) (E s : Nat) : Nat := vn_ b s (nx_ (isD b) E s - s)
theorem tkn_le {b : Nat → Nat} {E s : Nat} : tkn_ b E s ≤ 9999 := by
  have h := vn_le (b := b) (s := s) (nx_ (isD b) E s - s) (fun i hi => by
    have := run_P (P := isD b) (E := E) (E - s) s (s + i) (by omega) (by unfold nx_ at hi; omega)
    unfold isD at this
    rw [decide_eq_true_eq] at this
    exact this.2)
  unfold tkn_
  refine Nat.le_trans h ?_
  repeat' split
  all_goals omega
theorem tke_b {b : Nat → Nat} {E s : Nat} (h : s ≤ E) : s ≤ tke_ b E s ∧ tke_ b E s ≤ E := by
  unfold tke_
  by_cases q : s < E
  · rw [if_pos q]
    by_cases q1 : isL b s = true
    · rw [if_pos q1]; exact ⟨nx_ge, nx_le h⟩
    · rw [if_neg q1]
      by_cases q2 : isD b s = true
      · rw [if_pos q2]; exact ⟨nx_ge, nx_le h⟩
      · rw [if_neg q2]; omega
  · rw [if_neg q]; omega
theorem tkk_le {b : Nat → Nat} {E s : Nat} : tkk_ b E s ≤ 4 := by
  unfold tkk_
  repeat' split
  all_goals omega
/-- the class at a token, the reference at a token -/
def CK (M : cd_M) (b : Nat → Nat) (E s : Nat) : Prop := M.1 2 4 = nI s ∧ M.1 2 3 = nI (tke_ b E s) ∧ M.1 2 5 = nI (tkk_ b E s) ∧ (tkk_ b E s = 2 → M.1 2 6 = nI (tkn_ b E s)) ∧ s ≤ E
def MKt (N : cd_M) (b : Nat → Nat) (E s : Nat) : Prop := N.1 15 4 = nI s ∧ N.1 15 5 = nI (tke_ b E s) ∧ N.1 15 6 = nI (tkk_ b E s) ∧ (tkk_ b E s = 2 → N.1 15 7 = nI (tkn_ b E s)) ∧ s ≤ E
def PBc (M : cd_M) (t : Nat) (b : Nat → Nat) (E : Nat) : Prop := CT M t b ∧ M.1 2 2 = nI E ∧ E ≤ 4 * t
def PBm (N : cd_M) (b : Nat → Nat) (E : Nat) : Prop := N.1 15 3 = nI E ∧ E ≤ 900 ∧ ∀ i, i < E → b i < 256 ∧ N.1 57 i &&& 255 = nI (b i)
section tkC
variable {t : Nat} {b : Nat → Nat} {E : Nat}
theorem byteC {M : cd_M} (h : PBc M t b E) {i : Nat} (hi : i < E) : f7_byteAt_2 (nI i) M = some (nI (b i)) ∧ b i < 256 := by
  obtain ⟨h1, h2, h3⟩ := h
  have ht := h1.2.1
  obtain ⟨h4, h5⟩ := h1.2.2 i (by omega)
  refine ⟨?_, h4⟩
  have e4 : (4 : Int32) * M.1 2 1 = nI (4 * t) := by rw [h1.1]; exact pk_mul 4 t
  have e2 : nI i >>> ((2 : Int32) &&& 31) = nI (i / 4) := pk_shrN (by omega) _ 2 (by decide)
  have e3 : nI i &&& 3 = nI (i % 4) := pk_andN (by omega) 2 (by decide)
  have e8 : (24 : Int32) - 8 * nI (i % 4) = nI (24 - 8 * (i % 4)) := by
    rw [show (8 : Int32) = nI 8 from rfl, pk_mul, show (24 : Int32) = nI 24 from rfl, pk_sub (by omega)]
  unfold f7_byteAt_2
  rw [if_neg (nI_pos (by omega)), e4, if_pos (nI_lt (by omega) (by omega)), e2, e3, e8, if_pos (by rw [ci_nI (by omega)]; omega), nI_clamp (by omega)]
  unfold cby_ at h5
  rw [h5]
theorem PBc_f {M M1 : cd_M} (h : PBc M t b E) (e1 : M1.1 2 1 = M.1 2 1) (e2 : M1.1 2 2 = M.1 2 2) (e3 : ∀ i, M1.1 17 i = M.1 17 i) : PBc M1 t b E := ⟨CT_c e1 e3 h.1, e2.trans h.2.1, h.2.2⟩
theorem PBc_w {M : cd_M} (h : PBc M t b E) {i : Nat} {v : Int32} (hi : i ≠ 1 ∧ i ≠ 2) : PBc (cd_wI M 2 i v) t b E := PBc_f h (by rw [cd_wI_at, if_neg (by omega)]) (by rw [cd_wI_at, if_neg (by omega)]) (fun j => by rw [cd_wI_at, if_neg (by omega)])
theorem adv_0 {Q : cd_M → Prop} (hE : E ≤ 900) : ∀ (r fu p : Nat) (M : cd_M), p + r = E → r < fu → PBc M t b E → M.1 2 3 = nI p → (∀ M1, PBc M1 t b E → M1.1 2 3 = nI (nx_ (isB b) E p) → cw (f7_advance_2_L38 M1) Q) → cw (f7_advance_2_L0 fu M) Q := by
  intro r
  induction r with
  | zero =>
    intro fu p M hp hfu h h3 H
    obtain ⟨fu, rfl⟩ := Nat.exists_eq_succ_of_ne_zero (show fu ≠ 0 by omega)
    rw [f7_advance_2_L0, h.2.1, h3, if_pos (nI_le (by omega) (by omega))]
    exact H M h (by rw [nx_st (by omega)]; exact h3)
  | succ r ih =>
    intro fu p M hp hfu h h3 H
    obtain ⟨fu, rfl⟩ := Nat.exists_eq_succ_of_ne_zero (show fu ≠ 0 by omega)
    obtain ⟨e1, e2⟩ := byteC h (i := p) (by omega)
    rw [f7_advance_2_L0, h.2.1, h3, if_neg (nI_ge (by omega) (by omega)), e1, bind_p]
    unfold f7_isBlank
    simp only [cd_lt_p]
    rw [nI_1]
    have go : isB b p = true → cw (f7_advance_2_L0 fu (cd_wI M 2 3 (nI (p + 1)))) Q := fun z => ih fu (p + 1) _ (by omega) (by omega) (PBc_w h (by omega)) (by rw [cd_wI_at, if_pos ⟨rfl, rfl⟩]) (by rw [← nx_go (by omega) z]; exact H)
    by_cases q1 : b p = 32
    · rw [if_pos (show nI (b p) = 32 by rw [q1]; rfl), if_neg (by decide)]
      exact go (by unfold isB; exact decide_eq_true (Or.inl q1))
    · rw [if_neg (show ¬ nI (b p) = 32 from fun z => q1 ((nI_eq (b := 32) (by omega) (by decide)).mp z))]
      by_cases q2 : b p = 10
      · rw [if_pos (show nI (b p) = 10 by rw [q2]; rfl), if_neg (by decide)]
        exact go (by unfold isB; exact decide_eq_true (Or.inr q2))
      · rw [if_neg (show ¬ nI (b p) = 10 from fun z => q2 ((nI_eq (b := 10) (by omega) (by decide)).mp z)), if_pos rfl]
        exact H M h (by rw [nx_st (fun z => by have := z.2; unfold isB at this; rw [decide_eq_true_eq] at this; omega)]; exact h3)
theorem letC {x : Nat} (hx : x < 256) (M : cd_M) : f7_isLetter (nI x) M = 0 ↔ ¬ (97 ≤ x ∧ x ≤ 122) := by
  unfold f7_isLetter
  rw [show (97 : Int32) = nI 97 from rfl, show (122 : Int32) = nI 122 from rfl]
  by_cases q : x < 97
  · rw [if_pos (nI_lt q (by omega))]; exact ⟨fun _ => by omega, fun _ => rfl⟩
  · rw [if_neg (nI_nlt (by omega) (by omega))]
    by_cases q2 : 122 < x
    · rw [if_pos (nI_lt q2 (by omega))]; exact ⟨fun _ => by omega, fun _ => rfl⟩
    · rw [if_neg (nI_nlt (by omega) (by omega))]; exact ⟨fun z => absurd z (by decide), fun z => absurd ⟨by omega, by omega⟩ z⟩
theorem digC {x : Nat} (hx : x < 256) (M : cd_M) : f7_isDigit (nI x) M = 0 ↔ ¬ (48 ≤ x ∧ x ≤ 57) := by
  unfold f7_isDigit
  rw [show (48 : Int32) = nI 48 from rfl, show (57 : Int32) = nI 57 from rfl]
  by_cases q : x < 48
  · rw [if_pos (nI_lt q (by omega))]; exact ⟨fun _ => by omega, fun _ => rfl⟩
  · rw [if_neg (nI_nlt (by omega) (by omega))]
    by_cases q2 : 57 < x
    · rw [if_pos (nI_lt q2 (by omega))]; exact ⟨fun _ => by omega, fun _ => rfl⟩
    · rw [if_neg (nI_nlt (by omega) (by omega))]; exact ⟨fun z => absurd z (by decide), fun z => absurd ⟨by omega, by omega⟩ z⟩
theorem pw_0 {s : Nat} (hE : E ≤ 900) : ∀ (r fu p : Nat) (M : cd_M), p + r = E → r < fu → PBc M t b E → M.1 2 3 = nI p → M.1 2 4 = nI s → cw (f7_passWord_2_L0 fu M) (fun M1 => M1.1 2 3 = nI (nx_ (isL b) E p) ∧ M1.1 2 5 = nI 1 ∧ M1.1 2 4 = nI s) := by
  intro r
  have stop : ∀ (M : cd_M) (p : Nat), M.1 2 3 = nI p → M.1 2 4 = nI s → nx_ (isL b) E p = p → cw (f7_passWord_2_L38 M) (fun M1 => M1.1 2 3 = nI (nx_ (isL b) E p) ∧ M1.1 2 5 = nI 1 ∧ M1.1 2 4 = nI s) := by
    intro M p h3 h4 hn
    unfold f7_passWord_2_L38
    simp only [cd_lt_p]
    refine cw_some.mpr ⟨?_, ?_, ?_⟩
    · rw [cd_wI_at, if_neg (by decide), h3, hn]
    · rw [cd_wI_at, if_pos ⟨rfl, rfl⟩]; rfl
    · rw [cd_wI_at, if_neg (by decide), h4]
  induction r with
  | zero =>
    intro fu p M hp hfu h h3 h4
    obtain ⟨fu, rfl⟩ := Nat.exists_eq_succ_of_ne_zero (show fu ≠ 0 by omega)
    rw [f7_passWord_2_L0, h.2.1, h3, if_pos (nI_le (by omega) (by omega))]
    exact stop M p h3 h4 (nx_st (by omega))
  | succ r ih =>
    intro fu p M hp hfu h h3 h4
    obtain ⟨fu, rfl⟩ := Nat.exists_eq_succ_of_ne_zero (show fu ≠ 0 by omega)
    obtain ⟨e1, e2⟩ := byteC h (i := p) (by omega)
    rw [f7_passWord_2_L0, h.2.1, h3, if_neg (nI_ge (by omega) (by omega)), e1, bind_p]
    simp only [cd_lt_p]
    rw [nI_1]
    by_cases q : isL b p = true
    · have q' : 97 ≤ b p ∧ b p ≤ 122 := by unfold isL at q; exact of_decide_eq_true q
      rw [if_neg (fun z => (letC e2 M).mp z q'), nx_go (by omega) q]
      exact ih fu (p + 1) _ (by omega) (by omega) (PBc_w h (by omega)) (by rw [cd_wI_at, if_pos ⟨rfl, rfl⟩]) (by rw [cd_wI_at, if_neg (by decide)]; exact h4)
    · rw [if_pos ((letC e2 M).mpr (fun z => q (by unfold isL; exact decide_eq_true z)))]
      exact stop M p h3 h4 (nx_st (fun z => q z.2))
theorem pn_5 {s : Nat} (hE : E ≤ 900) : ∀ (r fu p : Nat) (M : cd_M), p + r = E → r < fu → s ≤ p → PBc M t b E → M.1 2 3 = nI p → M.1 2 4 = nI s → M.1 2 6 = nI (vn_ b s (p - s)) → cw (f7_passNumber_2_L5 fu M) (fun M1 => M1.1 2 3 = nI (nx_ (isD b) E p) ∧ M1.1 2 5 = nI (if nx_ (isD b) E p - s ≤ 4 then 2 else 4) ∧ M1.1 2 4 = nI s ∧ M1.1 2 6 = nI (vn_ b s (nx_ (isD b) E p - s))) := by
  intro r
  have stop : ∀ (M : cd_M) (p : Nat), p ≤ E → s ≤ p → M.1 2 3 = nI p → M.1 2 4 = nI s → M.1 2 6 = nI (vn_ b s (p - s)) → nx_ (isD b) E p = p → cw (f7_passNumber_2_L79 M) (fun M1 => M1.1 2 3 = nI (nx_ (isD b) E p) ∧ M1.1 2 5 = nI (if nx_ (isD b) E p - s ≤ 4 then 2 else 4) ∧ M1.1 2 4 = nI s ∧ M1.1 2 6 = nI (vn_ b s (nx_ (isD b) E p - s))) := by
    intro M p hp hs h3 h4 h6 hn
    unfold f7_passNumber_2_L79 f7_passNumber_2_L98
    simp only [cd_lt_p]
    rw [h3, h4, pk_sub hs, hn, show (4 : Int32) = nI 4 from rfl]
    have fin : ∀ k : Nat, cw (some (cd_wI M 2 5 (nI k))) (fun M1 => M1.1 2 3 = nI p ∧ M1.1 2 5 = nI k ∧ M1.1 2 4 = nI s ∧ M1.1 2 6 = nI (vn_ b s (p - s))) := fun k => cw_some.mpr ⟨by rw [cd_wI_at, if_neg (by decide)]; exact h3, by rw [cd_wI_at, if_pos ⟨rfl, rfl⟩], by rw [cd_wI_at, if_neg (by decide)]; exact h4, by rw [cd_wI_at, if_neg (by decide)]; exact h6⟩
    by_cases q : p - s ≤ 4
    · rw [if_neg (nI_nlt q (by omega)), if_pos q]; exact fin 2
    · rw [if_pos (nI_lt (by omega) (by omega)), if_neg q]; exact fin 4
  induction r with
  | zero =>
    intro fu p M hp hfu hs h h3 h4 h6
    obtain ⟨fu, rfl⟩ := Nat.exists_eq_succ_of_ne_zero (show fu ≠ 0 by omega)
    rw [f7_passNumber_2_L5, h.2.1, h3, if_pos (nI_le (by omega) (by omega))]
    exact stop M p (by omega) hs h3 h4 h6 (nx_st (by omega))
  | succ r ih =>
    intro fu p M hp hfu hs h h3 h4 h6
    obtain ⟨fu, rfl⟩ := Nat.exists_eq_succ_of_ne_zero (show fu ≠ 0 by omega)
    obtain ⟨e1, e2⟩ := byteC h (i := p) (by omega)
    rw [f7_passNumber_2_L5, h.2.1, h3, if_neg (nI_ge (by omega) (by omega)), e1, bind_p, bind_p]
    by_cases q : isD b p = true
    · have q' : 48 ≤ b p ∧ b p ≤ 57 := by unfold isD at q; exact of_decide_eq_true q
      have ev : vn_ b s (p + 1 - s) = if p - s < 4 then 10 * vn_ b s (p - s) + b p - 48 else vn_ b s (p - s) := by
        rw [show p + 1 - s = (p - s) + 1 by omega]
        show (if p - s < 4 then 10 * vn_ b s (p - s) + b (s + (p - s)) - 48 else vn_ b s (p - s)) = _
        rw [show s + (p - s) = p by omega]
      rw [if_neg (fun z => (digC e2 M).mp z q'), nx_go (by omega) q, h4, pk_sub hs, show (4 : Int32) = nI 4 from rfl]
      unfold f7_passNumber_2_L66
      simp only [cd_lt_p]
      by_cases q4 : p - s < 4
      · rw [if_neg (nI_ge q4 (by omega)), h6]
        have en : (10 : Int32) * nI (vn_ b s (p - s)) + nI (b p) - 48 = nI (vn_ b s (p + 1 - s)) := by
          rw [ev, if_pos q4, show (10 : Int32) = nI 10 from rfl, pk_mul, nI_add]
          exact pk_sub (b := 48) (by omega)
        rw [en]
        have e3 : (cd_wI M 2 6 (nI (vn_ b s (p + 1 - s)))).1 2 3 + 1 = nI (p + 1) := by rw [cd_wI_at, if_neg (by decide), h3, nI_1]
        rw [e3]
        refine ih fu (p + 1) _ (by omega) (by omega) (by omega) (PBc_w (PBc_w h (by omega)) (by omega)) (by rw [cd_wI_at, if_pos ⟨rfl, rfl⟩]) ?_ ?_
        · rw [cd_wI_at, if_neg (by decide), cd_wI_at, if_neg (by decide)]; exact h4
        · rw [cd_wI_at, if_neg (by decide), cd_wI_at, if_pos ⟨rfl, rfl⟩]
      · rw [if_pos (nI_le (by omega) (by omega)), h3, nI_1]
        refine ih fu (p + 1) _ (by omega) (by omega) (by omega) (PBc_w h (by omega)) (by rw [cd_wI_at, if_pos ⟨rfl, rfl⟩]) ?_ ?_
        · rw [cd_wI_at, if_neg (by decide)]; exact h4
        · rw [cd_wI_at, if_neg (by decide), h6, ev, if_neg q4]
    · rw [if_pos ((digC e2 M).mpr (fun z => q (by unfold isD; exact decide_eq_true z)))]
      exact stop M p (by omega) hs h3 h4 h6 (nx_st (fun z => q z.2))
theorem adv_38 {M : cd_M} {s : Nat} (hE : E ≤ 900) (hs : s ≤ E) (h : PBc M t b E) (h3 : M.1 2 3 = nI s) : cw (f7_advance_2_L38 M) (fun M1 => CK M1 b E s) := by
  unfold f7_advance_2_L38
  simp only [cd_lt_p]
  rw [h3]
  have h' : PBc (cd_wI M 2 4 (nI s)) t b E := PBc_w h (by omega)
  have v4 : (cd_wI M 2 4 (nI s)).1 2 4 = nI s := by rw [cd_wI_at, if_pos ⟨rfl, rfl⟩]
  have v3 : (cd_wI M 2 4 (nI s)).1 2 3 = nI s := by rw [cd_wI_at, if_neg (by decide)]; exact h3
  generalize cd_wI M 2 4 (nI s) = M1 at *
  rw [v3, h'.2.1]
  unfold CK tkk_ tke_
  by_cases q : s < E
  · obtain ⟨e1, e2⟩ := byteC h' q
    rw [if_pos (nI_lt q (by omega)), e1, bind_p, if_pos q, if_pos q]
    by_cases qL : isL b s = true
    · have qL' : 97 ≤ b s ∧ b s ≤ 122 := by unfold isL at qL; exact of_decide_eq_true qL
      rw [if_neg (fun z => (letC e2 M1).mp z qL'), if_pos qL, if_pos qL, cw_bind]
      unfold f7_passWord_2
      refine cw_mono (pw_0 (s := s) hE (E - s) cd_fu s M1 (by omega) (by unfold cd_fu; omega) h' v3 v4) (fun M2 k => cw_some.mpr ⟨k.2.2, k.1, k.2.1, fun z => absurd z (by decide), hs⟩)
    · rw [if_pos ((letC e2 M1).mpr (fun z => qL (by unfold isL; exact decide_eq_true z))), if_neg qL, if_neg qL]
      by_cases qD : isD b s = true
      · have qD' : 48 ≤ b s ∧ b s ≤ 57 := by unfold isD at qD; exact of_decide_eq_true qD
        rw [if_neg (fun z => (digC e2 M1).mp z qD'), if_pos qD, if_pos qD, cw_bind]
        unfold f7_passNumber_2
        simp only [cd_lt_p]
        refine cw_mono (pn_5 (s := s) hE (E - s) cd_fu s (cd_wI M1 2 6 0) (by omega) (by unfold cd_fu; omega) (Nat.le_refl _) (PBc_w h' (by omega)) ?_ ?_ ?_) (fun M2 k => cw_some.mpr ⟨k.2.2.1, k.1, k.2.1, fun _ => k.2.2.2, hs⟩)
        · rw [cd_wI_at, if_neg (by decide)]; exact v3
        · rw [cd_wI_at, if_neg (by decide)]; exact v4
        · rw [cd_wI_at, if_pos ⟨rfl, rfl⟩, Nat.sub_self]; rfl
      · rw [if_pos ((digC e2 M1).mpr (fun z => qD (by unfold isD; exact decide_eq_true z))), if_neg qD, if_neg qD]
        unfold f7_advance_2_L112
        simp only [cd_lt_p]
        have fin : ∀ k : Nat, k ≠ 2 → cw (some (cd_wI (cd_wI M1 2 5 (nI k)) 2 3 ((cd_wI M1 2 5 (nI k)).1 2 3 + 1))) (fun M1 => M1.1 2 4 = nI s ∧ M1.1 2 3 = nI (s + 1) ∧ M1.1 2 5 = nI k ∧ (k = 2 → M1.1 2 6 = nI (tkn_ b E s)) ∧ s ≤ E) := fun k hk => cw_some.mpr ⟨by rw [cd_wI_at, if_neg (by decide), cd_wI_at, if_neg (by decide)]; exact v4, by rw [cd_wI_at, if_pos ⟨rfl, rfl⟩, cd_wI_at, if_neg (by decide), v3, nI_1], by rw [cd_wI_at, if_neg (by decide), cd_wI_at, if_pos ⟨rfl, rfl⟩], fun z => absurd z hk, hs⟩
        by_cases q59 : b s = 59
        · rw [if_pos (show nI (b s) = 59 by rw [q59]; rfl), if_pos q59]; exact fin 3 (by decide)
        · rw [if_neg (show ¬ nI (b s) = 59 from fun z => q59 ((nI_eq (b := 59) (by omega) (by decide)).mp z)), if_neg q59]; exact fin 4 (by decide)
  · rw [if_neg (nI_nlt (by omega) (by omega)), if_neg q, if_neg q]
    exact cw_some.mpr ⟨by rw [cd_wI_at, if_neg (by decide)]; exact v4, by rw [cd_wI_at, if_neg (by decide)]; exact v3, by rw [cd_wI_at, if_pos ⟨rfl, rfl⟩]; rfl, fun z => absurd z (by decide), hs⟩
theorem advC {M : cd_M} {e : Nat} (h : PBc M t b E) (he : e ≤ E) (h3 : M.1 2 3 = nI e) : cw (f7_advance_2 M) (fun M1 => (CK M1 b E (nx_ (isB b) E e)) ∧ cf_ f7_advance_2_w M M1) := by
  refine cw_cp ?_ (w_f7_advance_2 (by decide) cf_refl)
  have hE : E ≤ 900 := by have := h.1.2.1; have := h.2.2; omega
  unfold f7_advance_2
  exact adv_0 hE (E - e) cd_fu e M (by omega) (by unfold cd_fu; omega) h h3 (fun M1 k1 k2 => adv_38 hE (nx_le he) k1 k2)
end tkC
