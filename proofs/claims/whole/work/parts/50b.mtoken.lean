/-! the reference's tokens -/
section tmC
variable {b : Nat → Nat} {E : Nat}
theorem seeM {N : cd_M} (h : PBm N b E) {i : Nat} (hi : i ≤ 2000) : f11_see_15 (nI i) N = some (if i < E then nI (b i) else -1) := by
  have hE := h.2.1
  unfold f11_see_15
  rw [h.1]
  by_cases q : i < E
  · rw [if_neg (nI_ge q (by omega)), if_pos (by rw [ci_nI (by omega)]; omega), nI_clamp (by omega), (h.2.2 i q).2, if_pos q]
  · rw [if_pos (nI_le (by omega) (by omega)), if_neg q]
theorem PBm_w {N : cd_M} (h : PBm N b E) {i : Nat} {v : Int32} (hi : i ≠ 3) : PBm (cd_wI N 15 i v) b E := ⟨by rw [cd_wI_at, if_neg (by omega)]; exact h.1, h.2.1, fun j hj => ⟨(h.2.2 j hj).1, by rw [cd_wI_at, if_neg (by omega)]; exact (h.2.2 j hj).2⟩⟩
theorem wiN {x lo hi : Nat} {l u : Int64} (hl : l = (nI lo).toInt64) (hu : u = (nI hi).toInt64) (h0 : x < 10000) (h1 : lo < 10000) (h2 : hi < 10000) (N : cd_M) : f11_within (nI x).toInt64 l u N = 0 ↔ ¬ (lo ≤ x ∧ x ≤ hi) := by
  rw [hl, hu, wi_32, nI_leI (by omega) (by omega), nI_leI (by omega) (by omega)]
theorem wiM {lo hi : Nat} {l u : Int64} (hl : l = (nI lo).toInt64) (hu : u = (nI hi).toInt64) (h1 : lo < 10000) (N : cd_M) : f11_within (-1 : Int32).toInt64 l u N = 0 := by
  rw [hl, hu, wi_32]
  rintro ⟨z, -⟩
  rw [Int32.le_iff_toInt_le, nI_toInt (by omega)] at z
  have : (-1 : Int32).toInt = -1 := rfl
  omega
theorem sw_125 {s : Nat} (hE : E ≤ 900) : ∀ (r fu p : Nat) (N : cd_M), p + r = E → r < fu → PBm N b E → N.1 15 5 = nI p → N.1 15 4 = nI s → cw (f11_steps_15_L125 fu N) (fun N1 => N1.1 15 5 = nI (nx_ (isL b) E p) ∧ N1.1 15 6 = nI 1 ∧ N1.1 15 4 = nI s) := by
  intro r
  have stop : ∀ (N : cd_M) (p : Nat), N.1 15 5 = nI p → N.1 15 4 = nI s → nx_ (isL b) E p = p → cw (some (cd_wI N 15 6 1)) (fun N1 => N1.1 15 5 = nI (nx_ (isL b) E p) ∧ N1.1 15 6 = nI 1 ∧ N1.1 15 4 = nI s) := fun N p h5 h4 hn => cw_some.mpr ⟨by rw [cd_wI_at, if_neg (by decide), hn]; exact h5, by rw [cd_wI_at, if_pos ⟨rfl, rfl⟩]; rfl, by rw [cd_wI_at, if_neg (by decide)]; exact h4⟩
  induction r with
  | zero =>
    intro fu p N hp hfu h h5 h4
    obtain ⟨fu, rfl⟩ := Nat.exists_eq_succ_of_ne_zero (show fu ≠ 0 by omega)
    rw [f11_steps_15_L125, h5, seeM h (by omega), bind_p, if_neg (show ¬ p < E by omega), if_pos (wiM (lo := 97) (hi := 122) (l := 97) (u := 122) rfl rfl (by decide) N)]
    simp only [cd_lt_p]
    exact stop N p h5 h4 (nx_st (by omega))
  | succ r ih =>
    intro fu p N hp hfu h h5 h4
    obtain ⟨fu, rfl⟩ := Nat.exists_eq_succ_of_ne_zero (show fu ≠ 0 by omega)
    have e2 := (h.2.2 p (by omega)).1
    have wi := wiN (x := b p) (lo := 97) (hi := 122) (l := 97) (u := 122) rfl rfl (by omega) (by decide) (by decide) N
    rw [f11_steps_15_L125, h5, seeM h (by omega), bind_p, if_pos (show p < E by omega)]
    simp only [cd_lt_p]
    rw [nI_1]
    by_cases q : isL b p = true
    · have q' : 97 ≤ b p ∧ b p ≤ 122 := by unfold isL at q; exact of_decide_eq_true q
      rw [if_neg (fun z => wi.mp z q'), nx_go (by omega) q]
      exact ih fu (p + 1) _ (by omega) (by omega) (PBm_w h (by omega)) (by rw [cd_wI_at, if_pos ⟨rfl, rfl⟩]) (by rw [cd_wI_at, if_neg (by decide)]; exact h4)
    · rw [if_pos (wi.mpr (fun z => q (by unfold isL; exact decide_eq_true z)))]
      exact stop N p h5 h4 (nx_st (fun z => q z.2))
theorem sn_189 {s : Nat} (hE : E ≤ 900) : ∀ (r fu p : Nat) (N : cd_M), p + r = E → r < fu → s ≤ p → PBm N b E → N.1 15 5 = nI p → N.1 15 4 = nI s → N.1 15 7 = nI (vn_ b s (p - s)) → cw (f11_steps_15_L189 fu N) (fun N1 => N1.1 15 5 = nI (nx_ (isD b) E p) ∧ N1.1 15 6 = nI (if nx_ (isD b) E p - s ≤ 4 then 2 else 4) ∧ N1.1 15 4 = nI s ∧ N1.1 15 7 = nI (vn_ b s (nx_ (isD b) E p - s))) := by
  intro r
  have stop : ∀ (N : cd_M) (p : Nat), p ≤ E → s ≤ p → N.1 15 5 = nI p → N.1 15 4 = nI s → N.1 15 7 = nI (vn_ b s (p - s)) → nx_ (isD b) E p = p → cw (if 5 ≤ (N.1 15 5) - (N.1 15 4) then (f11_steps_15_L285 4 N) else (f11_steps_15_L285 2 N)) (fun N1 => N1.1 15 5 = nI (nx_ (isD b) E p) ∧ N1.1 15 6 = nI (if nx_ (isD b) E p - s ≤ 4 then 2 else 4) ∧ N1.1 15 4 = nI s ∧ N1.1 15 7 = nI (vn_ b s (nx_ (isD b) E p - s))) := by
    intro N p hp hs h5 h4 h7 hn
    unfold f11_steps_15_L285
    simp only [cd_lt_p]
    rw [h5, h4, pk_sub hs, hn, show (5 : Int32) = nI 5 from rfl]
    have fin : ∀ k : Nat, cw (some (cd_wI N 15 6 (nI k))) (fun N1 => N1.1 15 5 = nI p ∧ N1.1 15 6 = nI k ∧ N1.1 15 4 = nI s ∧ N1.1 15 7 = nI (vn_ b s (p - s))) := fun k => cw_some.mpr ⟨by rw [cd_wI_at, if_neg (by decide)]; exact h5, by rw [cd_wI_at, if_pos ⟨rfl, rfl⟩], by rw [cd_wI_at, if_neg (by decide)]; exact h4, by rw [cd_wI_at, if_neg (by decide)]; exact h7⟩
    by_cases q : p - s ≤ 4
    · rw [if_neg (nI_ge (by omega) (by omega)), if_pos q]; exact fin 2
    · rw [if_pos (nI_le (by omega) (by omega)), if_neg q]; exact fin 4
  induction r with
  | zero =>
    intro fu p N hp hfu hs h h5 h4 h7
    obtain ⟨fu, rfl⟩ := Nat.exists_eq_succ_of_ne_zero (show fu ≠ 0 by omega)
    rw [f11_steps_15_L189, show f11_see_15 (N.1 15 5) N = some (if p < E then nI (b p) else -1) by rw [h5]; exact seeM h (by omega), bind_p, if_neg (show ¬ p < E by omega), if_pos (wiM (lo := 48) (hi := 57) (l := 48) (u := 57) rfl rfl (by decide) N)]
    exact stop N p (by omega) hs h5 h4 h7 (nx_st (by omega))
  | succ r ih =>
    intro fu p N hp hfu hs h h5 h4 h7
    obtain ⟨fu, rfl⟩ := Nat.exists_eq_succ_of_ne_zero (show fu ≠ 0 by omega)
    have e2 := (h.2.2 p (by omega)).1
    have wi := wiN (x := b p) (lo := 48) (hi := 57) (l := 48) (u := 57) rfl rfl (by omega) (by decide) (by decide) N
    have es : f11_see_15 (N.1 15 5) N = some (nI (b p)) := by rw [h5, seeM h (by omega), if_pos (show p < E by omega)]
    rw [f11_steps_15_L189, es, bind_p]
    by_cases q : isD b p = true
    · have q' : 48 ≤ b p ∧ b p ≤ 57 := by unfold isD at q; exact of_decide_eq_true q
      have ev : vn_ b s (p + 1 - s) = if p - s < 4 then 10 * vn_ b s (p - s) + b p - 48 else vn_ b s (p - s) := by
        rw [show p + 1 - s = (p - s) + 1 by omega]
        show (if p - s < 4 then 10 * vn_ b s (p - s) + b (s + (p - s)) - 48 else vn_ b s (p - s)) = _
        rw [show s + (p - s) = p by omega]
      rw [if_neg (fun z => wi.mp z q'), nx_go (by omega) q, bind_p, h5, h4, pk_sub hs, show (4 : Int32) = nI 4 from rfl, h7]
      unfold f11_steps_15_L250
      simp only [cd_lt_p]
      have fin : ∀ y : Int32, y = nI (vn_ b s (p + 1 - s)) → cw (f11_steps_15_L189 fu (cd_wI (cd_wI N 15 7 y) 15 5 ((cd_wI N 15 7 y).1 15 5 + 1))) (fun N1 => N1.1 15 5 = nI (nx_ (isD b) E (p + 1)) ∧ N1.1 15 6 = nI (if nx_ (isD b) E (p + 1) - s ≤ 4 then 2 else 4) ∧ N1.1 15 4 = nI s ∧ N1.1 15 7 = nI (vn_ b s (nx_ (isD b) E (p + 1) - s))) := by
        rintro y rfl
        have e3 : (cd_wI N 15 7 (nI (vn_ b s (p + 1 - s)))).1 15 5 + 1 = nI (p + 1) := by rw [cd_wI_at, if_neg (by decide), h5, nI_1]
        rw [e3]
        refine ih fu (p + 1) _ (by omega) (by omega) (by omega) (PBm_w (PBm_w h (by omega)) (by omega)) (by rw [cd_wI_at, if_pos ⟨rfl, rfl⟩]) ?_ ?_
        · rw [cd_wI_at, if_neg (by decide), cd_wI_at, if_neg (by decide)]; exact h4
        · rw [cd_wI_at, if_neg (by decide), cd_wI_at, if_pos ⟨rfl, rfl⟩]
      by_cases q4 : p - s < 4
      · rw [if_neg (nI_ge q4 (by omega))]
        refine fin _ ?_
        rw [ev, if_pos q4, show (10 : Int32) = nI 10 from rfl, pk_mul, nI_add]
        exact pk_sub (b := 48) (by omega)
      · rw [if_pos (nI_le (by omega) (by omega))]
        exact fin _ (by rw [ev, if_neg q4])
    · rw [if_pos (wi.mpr (fun z => q (by unfold isD; exact decide_eq_true z)))]
      exact stop N p (by omega) hs h5 h4 h7 (nx_st (fun z => q z.2))
theorem st_8 (hE : E ≤ 900) : ∀ (r fu p : Nat) (N : cd_M), p + r = E → r < fu → PBm N b E → N.1 15 4 = nI p → cw (f11_steps_15_L8 fu N) (fun N1 => MKt N1 b E (nx_ (isB b) E p)) := by
  intro r
  -- at the token itself
  have stop : ∀ (N : cd_M) (s : Nat) (v : Int32), s ≤ E → PBm N b E → N.1 15 4 = nI s → v = (if s < E then nI (b s) else -1) → cw (cd_lt (cd_wI N 15 5 ((N.1 15 4) + 1)) fun M6 => cd_lt (cd_wI M6 15 6 4) fun M7 => cd_lt (cd_wI M7 15 7 0) fun M8 => if v = (-1) then (cd_lt (cd_wI M8 15 5 (M8.1 15 4)) fun M9 => cd_lt (cd_wI M9 15 6 0) fun M10 => some M10) else (if v = 59 then (cd_lt (cd_wI M8 15 6 3) fun M11 => some M11) else (if f11_within (v.toInt64) 97 122 M8 = 0 then (if f11_within (v.toInt64) 48 57 M8 = 0 then (some M8) else (cd_lt (cd_wI M8 15 5 (M8.1 15 4)) fun M14 => f11_steps_15_L189 cd_fu M14)) else (f11_steps_15_L125 cd_fu M8)))) (fun N1 => MKt N1 b E s) := by
    intro N s v hs h h4 hv
    simp only [cd_lt_p]
    rw [h4, nI_1]
    have hb : PBm (cd_wI (cd_wI (cd_wI N 15 5 (nI (s + 1))) 15 6 4) 15 7 0) b E := PBm_w (PBm_w (PBm_w h (by omega)) (by omega)) (by omega)
    have v4 : (cd_wI (cd_wI (cd_wI N 15 5 (nI (s + 1))) 15 6 4) 15 7 0).1 15 4 = nI s := by rw [cd_wI_at, if_neg (by decide), cd_wI_at, if_neg (by decide), cd_wI_at, if_neg (by decide)]; exact h4
    have v5 : (cd_wI (cd_wI (cd_wI N 15 5 (nI (s + 1))) 15 6 4) 15 7 0).1 15 5 = nI (s + 1) := by rw [cd_wI_at, if_neg (by decide), cd_wI_at, if_neg (by decide), cd_wI_at, if_pos ⟨rfl, rfl⟩]
    have v6 : (cd_wI (cd_wI (cd_wI N 15 5 (nI (s + 1))) 15 6 4) 15 7 0).1 15 6 = nI 4 := by rw [cd_wI_at, if_neg (by decide), cd_wI_at, if_pos ⟨rfl, rfl⟩]; rfl
    have v7 : (cd_wI (cd_wI (cd_wI N 15 5 (nI (s + 1))) 15 6 4) 15 7 0).1 15 7 = nI 0 := by rw [cd_wI_at, if_pos ⟨rfl, rfl⟩]; rfl
    generalize cd_wI (cd_wI (cd_wI N 15 5 (nI (s + 1))) 15 6 4) 15 7 0 = N8 at *
    rw [v4]
    unfold MKt tkk_ tke_
    by_cases q : s < E
    · have e2 := (h.2.2 s q).1
      have wL := wiN (x := b s) (lo := 97) (hi := 122) (l := 97) (u := 122) rfl rfl (by omega) (by decide) (by decide) N8
      have wD := wiN (x := b s) (lo := 48) (hi := 57) (l := 48) (u := 57) rfl rfl (by omega) (by decide) (by decide) N8
      rw [if_pos q] at hv
      rw [hv, if_neg (nI_nm1 (by omega)), if_pos q, if_pos q]
      by_cases q59 : b s = 59
      · have nL : ¬ isL b s = true := by unfold isL; rw [decide_eq_true_eq, q59]; omega
        have nD : ¬ isD b s = true := by unfold isD; rw [decide_eq_true_eq, q59]; omega
        rw [if_pos (show nI (b s) = 59 by rw [q59]; rfl), if_neg nL, if_neg nL, if_neg nD, if_neg nD, if_pos q59]
        exact cw_some.mpr ⟨by rw [cd_wI_at, if_neg (by decide)]; exact v4, by rw [cd_wI_at, if_neg (by decide)]; exact v5, by rw [cd_wI_at, if_pos ⟨rfl, rfl⟩]; rfl, fun z => absurd z (by decide), hs⟩
      · rw [if_neg (show ¬ nI (b s) = 59 from fun z => q59 ((nI_eq (b := 59) (by omega) (by decide)).mp z))]
        by_cases qL : isL b s = true
        · have qL' : 97 ≤ b s ∧ b s ≤ 122 := by unfold isL at qL; exact of_decide_eq_true qL
          rw [if_neg (fun z => wL.mp z qL'), if_pos qL, if_pos qL, nx_go q qL]
          exact cw_mono (sw_125 (s := s) hE (E - (s + 1)) cd_fu (s + 1) N8 (by omega) (by unfold cd_fu; omega) hb v5 v4) (fun N1 k => ⟨k.2.2, k.1, k.2.1, fun z => absurd z (by decide), hs⟩)
        · rw [if_pos (wL.mpr (fun z => qL (by unfold isL; exact decide_eq_true z))), if_neg qL, if_neg qL]
          by_cases qD : isD b s = true
          · have qD' : 48 ≤ b s ∧ b s ≤ 57 := by unfold isD at qD; exact of_decide_eq_true qD
            rw [if_neg (fun z => wD.mp z qD'), if_pos qD, if_pos qD]
            refine cw_mono (sn_189 (s := s) hE (E - s) cd_fu s (cd_wI N8 15 5 (nI s)) (by omega) (by unfold cd_fu; omega) (Nat.le_refl _) (PBm_w hb (by omega)) (by rw [cd_wI_at, if_pos ⟨rfl, rfl⟩]) ?_ ?_) (fun N1 k => ⟨k.2.2.1, k.1, k.2.1, fun _ => k.2.2.2, hs⟩)
            · rw [cd_wI_at, if_neg (by decide)]; exact v4
            · rw [cd_wI_at, if_neg (by decide), Nat.sub_self]; exact v7
          · rw [if_pos (wD.mpr (fun z => qD (by unfold isD; exact decide_eq_true z))), if_neg qD, if_neg qD, if_neg q59]
            exact cw_some.mpr ⟨v4, v5, v6, fun z => absurd z (by decide), hs⟩
    · rw [if_neg q] at hv
      rw [hv, if_pos rfl, if_neg q, if_neg q]
      exact cw_some.mpr ⟨by rw [cd_wI_at, if_neg (by decide), cd_wI_at, if_neg (by decide)]; exact v4, by rw [cd_wI_at, if_neg (by decide), cd_wI_at, if_pos ⟨rfl, rfl⟩], by rw [cd_wI_at, if_pos ⟨rfl, rfl⟩]; rfl, fun z => absurd z (by decide), hs⟩
  induction r with
  | zero =>
    intro fu p N hp hfu h h4
    obtain ⟨fu, rfl⟩ := Nat.exists_eq_succ_of_ne_zero (show fu ≠ 0 by omega)
    have es : f11_see_15 (N.1 15 4) N = some (-1) := by rw [h4, seeM h (by omega), if_neg (show ¬ p < E by omega)]
    rw [f11_steps_15_L8, es, bind_p, if_neg (by decide), bind_p, if_neg (by decide), bind_p, nx_st (by omega)]
    exact stop N p (-1) (by omega) h h4 (by rw [if_neg (by omega)])
  | succ r ih =>
    intro fu p N hp hfu h h4
    obtain ⟨fu, rfl⟩ := Nat.exists_eq_succ_of_ne_zero (show fu ≠ 0 by omega)
    have e2 := (h.2.2 p (by omega)).1
    have es : f11_see_15 (N.1 15 4) N = some (nI (b p)) := by rw [h4, seeM h (by omega), if_pos (show p < E by omega)]
    have go : isB b p = true → cw (f11_steps_15_L34 (f11_steps_15_L8 fu) N) (fun N1 => MKt N1 b E (nx_ (isB b) E p)) := by
      intro z
      unfold f11_steps_15_L34
      simp only [cd_lt_p]
      rw [h4, nI_1, nx_go (by omega) z]
      exact ih fu (p + 1) _ (by omega) (by omega) (PBm_w h (by omega)) (by rw [cd_wI_at, if_pos ⟨rfl, rfl⟩])
    rw [f11_steps_15_L8, es, bind_p]
    by_cases q1 : b p = 32
    · rw [if_pos (show nI (b p) = 32 by rw [q1]; rfl)]
      exact go (by unfold isB; exact decide_eq_true (Or.inl q1))
    · rw [if_neg (show ¬ nI (b p) = 32 from fun z => q1 ((nI_eq (b := 32) (by omega) (by decide)).mp z)), bind_p]
      by_cases q2 : b p = 10
      · rw [if_pos (show nI (b p) = 10 by rw [q2]; rfl)]
        exact go (by unfold isB; exact decide_eq_true (Or.inr q2))
      · rw [if_neg (show ¬ nI (b p) = 10 from fun z => q2 ((nI_eq (b := 10) (by omega) (by decide)).mp z)), bind_p, nx_st (fun z => by have := z.2; unfold isB at this; rw [decide_eq_true_eq] at this; omega)]
        exact stop N p (nI (b p)) (by omega) h h4 (by rw [if_pos (by omega)])
theorem stepM {N : cd_M} {e : Nat} (h : PBm N b E) (he : e ≤ E) (h5 : N.1 15 5 = nI e) : cw (f11_steps_15 N) (fun N1 => MKt N1 b E (nx_ (isB b) E e) ∧ cf_ f11_steps_15_w N N1) := by
  refine cw_cp ?_ (w_f11_steps_15 (by decide) cf_refl)
  have hE := h.2.1
  unfold f11_steps_15
  simp only [cd_lt_p]
  rw [h5]
  exact st_8 hE (E - e) cd_fu e _ (by omega) (by unfold cd_fu; omega) (PBm_w h (by omega)) (by rw [cd_wI_at, if_pos ⟨rfl, rfl⟩])
end tmC
/-! words -/
def wdm_ (b : Nat → Nat) : Nat → List Nat → Bool
  | _, [] => true
  | s, c :: r => decide (b s = c) && wdm_ b (s + 1) r
def wd_ (b : Nat → Nat) (E s : Nat) (cs : List Nat) : Bool := decide (tkk_ b E s = 1) && (decide (tke_ b E s - s = cs.length) && wdm_ b s cs)
def isLn (L : Nat → Int32 → cd_M → Option Int32) (M : cd_M) (b : Nat → Nat) (s : Nat) : Nat → List Nat → Prop
  | j, [] => ∀ f, L (f + 1) (nI j) M = some 1
  | j, c :: r => (∀ f, L (f + 1) (nI j) M = if nI (b (s + j)) = nI c then L f (nI (j + 1)) M else some 0) ∧ isLn L M b s (j + 1) r
theorem wlp_ {L : Nat → Int32 → cd_M → Option Int32} {M : cd_M} {b : Nat → Nat} {s : Nat} : ∀ (cs : List Nat) (j fu : Nat), (∀ i, i < cs.length → b (s + j + i) < 256) → (∀ c ∈ cs, c < 256) → isLn L M b s j cs → cs.length < fu → L fu (nI j) M = some (if wdm_ b (s + j) cs = true then 1 else 0)
  | [], j, fu, _, _, h, hf => by
    obtain ⟨fu, rfl⟩ := Nat.exists_eq_succ_of_ne_zero (show fu ≠ 0 by omega)
    rw [h fu]
    rfl
  | c :: r, j, fu, hb, hc, h, hf => by
    have hf : r.length + 1 < fu := hf
    obtain ⟨fu, rfl⟩ := Nat.exists_eq_succ_of_ne_zero (show fu ≠ 0 by omega)
    rw [h.1 fu]
    have b0 := hb 0 (by show 0 < r.length + 1; omega)
    rw [Nat.add_zero] at b0
    have c0 := hc c (List.mem_cons_self)
    have e : wdm_ b (s + j) (c :: r) = (decide (b (s + j) = c) && wdm_ b (s + (j + 1)) r) := rfl
    rw [e]
    by_cases q : b (s + j) = c
    · rw [if_pos (by rw [q]), decide_eq_true q, Bool.true_and]
      refine wlp_ r (j + 1) fu (fun i hi => ?_) (fun x hx => hc x (List.mem_cons_of_mem _ hx)) h.2 (by omega)
      have := hb (i + 1) (by show i + 1 < r.length + 1; omega)
      rw [show s + (j + 1) + i = s + j + (i + 1) by omega]
      exact this
    · rw [if_neg (fun z => q ((nI_eq (by omega) (by omega)).mp z)), decide_eq_false q, Bool.false_and, if_neg (by decide)]
