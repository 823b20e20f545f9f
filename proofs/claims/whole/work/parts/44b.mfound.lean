/-! the reference: laysFound, laysAll -/
def lone_ (n : Nat) (pa : Nat → Nat) (P : Nat → Bool) (g : Nat) : Nat := if orp_ n P g = true then gs_ n P g else if pa (gs_ n P g) = 0 then gs_ n P g else gs_ n P g + 1
def KP (N : cd_M) (n : Nat) (pa : Nat → Nat) (P : Nat → Bool) : Prop := ∀ g, g < cnt_ P n → ∀ p, p < 2 → N.1 75 (2 * g + p) = kp_ pa (gs_ n P g) (gs_ n P (g + 1)) p
section mfA
variable {w n : Nat} {sm : Nat → Nat → Nat} {pa : Nat → Nat} {nc fo : Nat} {ln : Nat → Nat} {nb : Nat → Nat → Nat} {vl : Nat → Nat} {P : Nat → Bool}
theorem orphM {N : cd_M} {g : Nat} (hn : n ≤ 90) (hp : ∀ i, i < n → pa i < 2) (h : KP N n pa P) (hg : g < cnt_ P n) : f11_isOrphan_15 (nI g) N = some (if orp_ n P g = true then 1 else 0) := by
  have cl := cnt_le (P := P) n
  have a := gs_lt hg
  have b := gs_mono hg
  have c := gs_le (n := n) (P := P) (g := g + 1)
  have p1 := hp _ a
  have e2 : (2 : Int32) * nI g = nI (2 * g) := pk_mul 2 g
  have k0 := h g hg 0 (by decide)
  have k1 := h g hg 1 (by decide)
  rw [Nat.add_zero] at k0
  unfold f11_isOrphan_15 orp_
  rw [e2, nI_1, if_pos (by rw [ci_nI (by omega)]; omega), if_pos (show cd_in (nI (2 * g + 1)) 180 = true by rw [ci_nI (by omega)]; omega), nI_clamp (by omega), nI_clamp (by omega), k0, k1]
  simp only [decide_eq_true_eq]
  unfold kp_
  by_cases q : pa (gs_ n P g) = 0
  · rw [if_pos q, if_neg (nI_pos (by omega)), if_neg (show ¬ pa (gs_ n P g) = 1 by omega)]
    by_cases z : gs_ n P g + 1 < gs_ n P (g + 1)
    · rw [if_pos z, if_pos (nI_pos' (by omega)), if_neg (by omega)]
    · rw [if_neg z, if_neg (by decide), if_pos (by omega)]
  · rw [if_neg q, if_pos (show pa (gs_ n P g) = 1 by omega)]
    by_cases z : gs_ n P g + 1 < gs_ n P (g + 1)
    · rw [if_pos z, if_neg (nI_pos (by omega)), if_pos (nI_pos' (by omega)), if_neg (by omega)]
    · rw [if_neg z, if_pos (by decide), if_pos (by omega)]
theorem loneM {N : cd_M} {g : Nat} (hn : n ≤ 90) (hp : ∀ i, i < n → pa i < 2) (h : KP N n pa P) (hg : g < cnt_ P n) : f11_loneOf_15 (nI g) N = some (nI (lone_ n pa P g)) := by
  have cl := cnt_le (P := P) n
  have a := gs_lt hg
  have b := gs_mono hg
  have c := gs_le (n := n) (P := P) (g := g + 1)
  have p1 := hp _ a
  have e2 : (2 : Int32) * nI g = nI (2 * g) := pk_mul 2 g
  have k0 := h g hg 0 (by decide)
  have k1 := h g hg 1 (by decide)
  rw [Nat.add_zero] at k0
  have cin : cd_in (nI (2 * g)) 180 = true := by rw [ci_nI (by omega)]; omega
  unfold f11_loneOf_15 lone_ orp_
  rw [e2, nI_1, if_pos cin, if_pos cin, if_pos (show cd_in (nI (2 * g + 1)) 180 = true by rw [ci_nI (by omega)]; omega), nI_clamp (by omega), nI_clamp (by omega), k0, k1]
  simp only [decide_eq_true_eq]
  unfold kp_
  by_cases q : pa (gs_ n P g) = 0
  · rw [if_pos q, if_pos (nI_pos' (by omega)), if_pos q]
    split <;> rfl
  · rw [if_neg q, if_pos (show pa (gs_ n P g) = 1 by omega), if_neg q]
    by_cases z : gs_ n P g + 1 < gs_ n P (g + 1)
    · rw [if_pos z, if_pos (nI_pos' (by omega)), if_neg (by omega)]
    · rw [if_neg z, if_neg (by decide), if_pos (by omega)]
theorem lone_lt {g : Nat} (hg : g < cnt_ P n) : lone_ n pa P g < n := by
  have a := gs_lt hg
  have b := gs_mono hg
  have c := gs_le (n := n) (P := P) (g := g + 1)
  unfold lone_ orp_
  simp only [decide_eq_true_eq]
  split
  · exact a
  · split <;> omega
theorem lone_orp {g : Nat} (h : orp_ n P g = true) : lone_ n pa P g = gs_ n P g := by unfold lone_; rw [if_pos h]
theorem canM {N : cd_M} {g : Nat} (hw : w ≤ 6) (hb : BL w n sm pa) (hB : BR nc fo ln nb vl) (hQ : MQq N w n sm pa nc fo ln nb vl) (h : KP N n pa P) (hg : g + 1 < cnt_ P n) (h76 : N.1 76 g = if sec_ w n sm pa vl P g = true then nI (g - 1) else -1) : f11_canMate_15 (nI g) (nI (g + 1)) N = some (if mt_ w n sm pa vl P g = true then 1 else 0) := by
  have h9 := hb.1
  have cl := cnt_le (P := P) n
  have hg0 : g < cnt_ P n := by omega
  unfold f11_canMate_15
  rw [orphM h9 hb.2.2 h hg0, orphM h9 hb.2.2 h hg, bind_p, bind_p, if_pos (show cd_in (nI g) 90 = true by rw [ci_nI (by omega)]; omega), nI_clamp (by omega), h76, mt_eq]
  by_cases o1 : orp_ n P g = true
  · by_cases o2 : orp_ n P (g + 1) = true
    · rw [if_pos o1, if_neg (by decide), if_pos o2, if_neg (by decide)]
      by_cases s : sec_ w n sm pa vl P g = true
      · rw [if_pos s, if_pos (nI_pos' (by omega)), s]
        rfl
      · have s' : sec_ w n sm pa vl P g = false := by
          cases u : sec_ w n sm pa vl P g with
          | true => exact absurd u s
          | false => rfl
        have la := gs_lt hg0
        have lb := gs_lt hg
        have p1 := hb.2.2 _ la
        have p2 := hb.2.2 _ lb
        have hd := dist_le (m := vl 4) (w := w) (s := sm (gs_ n P g)) (t := sm (gs_ n P (g + 1))) (fun k hk => hb.2.1 _ k la hk) (fun k hk => hb.2.1 _ k lb hk)
        have hv := hB.2.2.2.2.2.1 3 (by decide)
        rw [if_neg s, if_neg (by decide), s', Bool.not_false, Bool.true_and, loneM h9 hb.2.2 h hg0, loneM h9 hb.2.2 h hg, lone_orp o1, lone_orp o2]
        simp only [bind_p]
        rw [parity15 hQ.2.1 hb la, parity15 hQ.2.1 hb lb, apart15 hQ.2.2 hB hw hQ.1 hQ.2.1 hb la lb, bind_p, bind_p, bind_p, if_pos (show cd_in 3 10 = true by decide), show Int32.toNatClampNeg 3 = 3 from rfl, hQ.2.2.2.2.2.2 3 (by decide)]
        unfold can_
        simp only [decide_eq_true_eq]
        by_cases y : pa (gs_ n P g) = pa (gs_ n P (g + 1))
        · rw [if_pos (by rw [y]), if_neg (fun z => z.2.2.2.1 y)]
        · rw [if_neg (fun z => y ((nI_eq (by omega) (by omega)).mp z))]
          by_cases d : dist_ (vl 4) w (sm (gs_ n P g)) (sm (gs_ n P (g + 1))) ≤ vl 3
          · rw [if_neg (nI_nlt d (by omega)), if_pos ⟨hg, o1, o2, y, d⟩]
          · rw [if_pos (nI_lt (by omega) (by omega)), if_neg (fun z => d z.2.2.2.2)]
    · rw [if_pos o1, if_neg (by decide), if_neg o2, if_pos rfl, if_neg]
      intro z
      rw [Bool.and_eq_true] at z
      have z2 := z.2
      unfold can_ at z2
      rw [decide_eq_true_eq] at z2
      exact o2 z2.2.2.1
  · rw [if_neg o1, if_pos rfl, if_neg]
    intro z
    rw [Bool.and_eq_true] at z
    have z2 := z.2
    unfold can_ at z2
    rw [decide_eq_true_eq] at z2
    exact o1 z2.2.1
/-- mates so far -/
def MKm (N : cd_M) (w n : Nat) (sm : Nat → Nat → Nat) (pa vl : Nat → Nat) (P : Nat → Bool) (g : Nat) : Prop := N.1 15 46 = nI (cnt_ (mt_ w n sm pa vl P) g) ∧ ∀ j, j < cnt_ P n → N.1 76 j = if j < g then mo_ w n sm pa vl P j else if j = g ∧ sec_ w n sm pa vl P g = true then nI (g - 1) else -1
/-- frames found so far -/
def RKm (N : cd_M) (w n : Nat) (sm : Nat → Nat → Nat) (pa vl : Nat → Nat) (P : Nat → Bool) (g : Nat) : Prop := N.1 15 44 = nI (cnt_ (nsc_ w n sm pa vl P) g) ∧ (∀ j, j < g → N.1 77 j = nI (cnt_ (nsc_ w n sm pa vl P) (j + 1) - 1)) ∧ ∀ x, x < cnt_ (nsc_ w n sm pa vl P) g → ∀ p, p < 2 → N.1 78 (2 * x + p) = nI (ff_ w n sm pa vl P (sel_ (nsc_ w n sm pa vl P) x g) p)
/-- what laysFound reads -/
def MFc (N : cd_M) (w n : Nat) (sm : Nat → Nat → Nat) (pa : Nat → Nat) (nc fo : Nat) (ln : Nat → Nat) (nb : Nat → Nat → Nat) (vl : Nat → Nat) (P : Nat → Bool) : Prop := MQq N w n sm pa nc fo ln nb vl ∧ KP N n pa P ∧ N.1 15 37 = nI (cnt_ P n)
theorem MFc_f {N N1 : cd_M} (hf : cf_ f11_laysFound_15_w N N1) (h : MFc N w n sm pa nc fo ln nb vl P) : MFc N1 w n sm pa nc fo ln nb vl P := by
  refine ⟨MQq_c (fun x i z => ?_) h.1, fun g hg p hp => ?_, ?_⟩
  · rcases z with rfl | rfl | rfl | rfl | ⟨rfl, rfl | rfl | rfl | rfl⟩
    · exact (hf 60 i (na_cov (by decide) i)).1
    · exact (hf 61 i (na_cov (by decide) i)).1
    · exact (hf 62 i (na_cov (by decide) i)).1
    · exact (hf 64 i (na_cov (by decide) i)).1
    · exact (hf 15 24 (by decide)).1
    · exact (hf 15 11 (by decide)).1
    · exact (hf 15 17 (by decide)).1
    · exact (hf 15 23 (by decide)).1
  · rw [(hf 75 _ (na_cov (by decide) _)).1]; exact h.2.1 g hg p hp
  · rw [(hf 15 37 (by decide)).1]; exact h.2.2
/-- all found -/
def MGR (N : cd_M) (w n : Nat) (sm : Nat → Nat → Nat) (pa vl : Nat → Nat) (P : Nat → Bool) : Prop := N.1 15 45 = nI (cnt_ (orp_ n P) (cnt_ P n)) ∧ N.1 15 46 = nI (cnt_ (mt_ w n sm pa vl P) (cnt_ P n)) ∧ (∀ g, g < cnt_ P n → N.1 76 g = mo_ w n sm pa vl P g ∧ N.1 77 g = nI (cnt_ (nsc_ w n sm pa vl P) (g + 1) - 1)) ∧ N.1 15 44 = nI (cnt_ (nsc_ w n sm pa vl P) (cnt_ P n)) ∧ ∀ x, x < cnt_ (nsc_ w n sm pa vl P) (cnt_ P n) → ∀ p, p < 2 → N.1 78 (2 * x + p) = nI (fx_ w n sm pa vl P x p)
theorem mf_279 {N : cd_M} {g k : Nat} {r115 : Int32 → cd_M → Option cd_M} {Q : cd_M → Prop} {t b : Int32} (hk : k < 90) (h : N.1 15 44 = nI k) (H : cw (r115 (nI (g + 1)) (cd_wI (cd_wI (cd_wI N 78 (2 * k) t) 78 (2 * k + 1) b) 15 44 (nI (k + 1)))) Q) : cw (f11_laysFound_15_L279 r115 (nI g) t b N) Q := by
  have e2 : (2 : Int32) * nI k = nI (2 * k) := pk_mul 2 k
  unfold f11_laysFound_15_L279 f11_laysFound_15_L316
  rw [h, e2, if_pos (by rw [ci_nI (by omega)]; omega), nI_clamp (by omega)]
  simp only [cd_lt_p]
  have h1 : (cd_wI N 78 (2 * k) t).1 15 44 = nI k := by rw [cd_wI_at, if_neg (by omega)]; exact h
  have h2 : (cd_wI (cd_wI N 78 (2 * k) t) 78 (2 * k + 1) b).1 15 44 + 1 = nI (k + 1) := by rw [cd_wI_at, if_neg (by omega), h1, nI_1]
  rw [h1, e2, nI_1, if_pos (by rw [ci_nI (by omega)]; omega), nI_clamp (by omega), h2, nI_1]
  exact H
theorem mf_159 {N : cd_M} {g k : Nat} {r115 : Int32 → cd_M → Option cd_M} {Q : cd_M → Prop} (hb : BL w n sm pa) (hC : MFc N w n sm pa nc fo ln nb vl P) (hg : g < cnt_ P n) (hk : k < 90) (h44 : N.1 15 44 = nI k) (h76 : N.1 76 g = mo_ w n sm pa vl P g) (hs : ¬ sec_ w n sm pa vl P g = true) (H : cw (r115 (nI (g + 1)) (cd_wI (cd_wI (cd_wI (cd_wI N 77 g (nI k)) 78 (2 * k) (nI (ff_ w n sm pa vl P g 0))) 78 (2 * k + 1) (nI (ff_ w n sm pa vl P g 1))) 15 44 (nI (k + 1)))) Q) : cw (f11_laysFound_15_L159 r115 (nI g) N) Q := by
  have h9 := hb.1
  have cl := cnt_le (P := P) n
  have la := gs_lt hg
  have lm := gs_mono hg
  have le := gs_le (n := n) (P := P) (g := g + 1)
  have p1 := hb.2.2 _ la
  have cin : cd_in (nI g) 90 = true := by rw [ci_nI (by omega)]; omega
  have e2 : (2 : Int32) * nI g = nI (2 * g) := pk_mul 2 g
  have cin2 : cd_in (nI (2 * g)) 180 = true := by rw [ci_nI (by omega)]; omega
  have cin3 : cd_in (nI (2 * g + 1)) 180 = true := by rw [ci_nI (by omega)]; omega
  unfold f11_laysFound_15_L159
  rw [if_pos cin, nI_clamp (by omega), h44]
  simp only [cd_lt_p]
  have f1 : cf_ f11_laysFound_15_w N (cd_wI N 77 g (nI k)) := cf_wcI (cf_cov_iff.mpr (Or.inl (cf_has_mem.mp (by decide)))) cf_refl
  have C1 := MFc_f f1 hC
  have h44' : (cd_wI N 77 g (nI k)).1 15 44 = nI k := by rw [cd_wI_at, if_neg (by omega)]; exact h44
  have h76' : (cd_wI N 77 g (nI k)).1 76 g = mo_ w n sm pa vl P g := by rw [cd_wI_at, if_neg (by omega)]; exact h76
  generalize cd_wI N 77 g (nI k) = N1 at *
  have k0 := C1.2.1 g hg 0 (by decide)
  have k1 := C1.2.1 g hg 1 (by decide)
  rw [Nat.add_zero] at k0
  have KK : cw (f11_laysFound_15_L279 r115 (nI g) (nI (ff_ w n sm pa vl P g 0)) (nI (ff_ w n sm pa vl P g 1)) N1) Q := mf_279 hk h44' H
  have gl := lone_lt (pa := pa) hg
  rw [loneM h9 hb.2.2 C1.2.1 hg, bind_p, e2, if_pos cin2, if_pos cin2, nI_clamp (by omega), k0]
  unfold f11_laysFound_15_L198
  rw [e2, nI_1, if_pos cin3, if_pos cin3, if_pos cin3, if_pos cin3, nI_clamp (by omega), k1]
  -- what the last step does with top and bottom
  have last : ∀ (t b : Nat), (¬ mt_ w n sm pa vl P g = true → t = ff_ w n sm pa vl P g 0 ∧ b = ff_ w n sm pa vl P g 1) → cw (f11_laysFound_15_L226 r115 (nI g) (nI (lone_ n pa P g)) (nI t) (nI b) N1) Q := by
    intro t b htb
    unfold f11_laysFound_15_L226 f11_laysFound_15_L261 f11_laysFound_15_L277
    rw [if_pos cin, nI_clamp (by omega), h76']
    unfold mo_
    by_cases z : mt_ w n sm pa vl P g = true
    · have z2 := (mt_can z).2
      unfold can_ at z2
      rw [decide_eq_true_eq] at z2
      obtain ⟨z3, z4, z5, z6, -⟩ := z2
      have lb := gs_lt z3
      have p2 := hb.2.2 _ lb
      rw [if_pos z, if_neg (nI_ge (by omega) (by omega)), nI_1, loneM h9 hb.2.2 C1.2.1 z3, bind_p, lone_orp z4, lone_orp z5, parity15 C1.1.2.1 hb la, bind_p]
      simp only [bind_p]
      have f0 : ff_ w n sm pa vl P g 0 = if pa (gs_ n P g) = 0 then gs_ n P g else gs_ n P (g + 1) := by
        unfold ff_ pt_
        rw [if_pos z4, if_pos z]
      have f1 : ff_ w n sm pa vl P g 1 = if pa (gs_ n P g) = 1 then gs_ n P g else gs_ n P (g + 1) := by
        unfold ff_ pt_
        rw [if_pos z4, if_pos z]
      by_cases y : pa (gs_ n P g) = 0
      · rw [if_pos y] at f0
        rw [if_neg (by omega)] at f1
        rw [f0, f1] at KK
        rw [if_pos (by rw [y]; rfl), if_neg (by rw [y]; decide)]
        exact KK
      · have y1 : pa (gs_ n P g) = 1 := by omega
        rw [if_neg y] at f0
        rw [if_pos y1] at f1
        rw [f0, f1] at KK
        rw [if_neg (nI_ne0 (by omega) (by omega)), if_pos (by rw [y1]; rfl)]
        exact KK
    · obtain ⟨rfl, rfl⟩ := htb z
      rw [if_neg z, if_neg hs, if_pos]
      · exact KK
      · rw [Int32.le_iff_toInt_le, nI_toInt (by omega)]
        show (-1 : Int) ≤ _
        omega
  by_cases o : orp_ n P g = true
  · have lo : lone_ n pa P g = gs_ n P g := lone_orp o
    have ne : ¬ gs_ n P g + 1 < gs_ n P (g + 1) := by
      unfold orp_ at o
      rw [decide_eq_true_eq] at o
      omega
    have ffs : ¬ mt_ w n sm pa vl P g = true → gs_ n P g = ff_ w n sm pa vl P g 0 ∧ gs_ n P g = ff_ w n sm pa vl P g 1 := fun z => by
      unfold ff_ pt_
      rw [if_pos o, if_neg z]
      exact ⟨by split <;> rfl, by split <;> rfl⟩
    unfold kp_
    rw [if_neg ne]
    rw [lo] at last ⊢
    by_cases q : pa (gs_ n P g) = 0
    · rw [if_pos q, if_neg (nI_pos (by omega)), if_neg (show ¬ pa (gs_ n P g) = 1 by omega), if_pos (by decide)]
      exact last _ _ ffs
    · rw [if_neg q, if_pos (by decide), if_pos (show pa (gs_ n P g) = 1 by omega), if_neg (nI_pos (by omega))]
      exact last _ _ ffs
  · have ye : gs_ n P g + 1 < gs_ n P (g + 1) := by
      unfold orp_ at o
      rw [decide_eq_true_eq] at o
      omega
    have f0 : ff_ w n sm pa vl P g 0 = if pa (gs_ n P g) = 0 then gs_ n P g else gs_ n P g + 1 := by
      unfold ff_ pt_
      rw [if_neg o]
    have f1 : ff_ w n sm pa vl P g 1 = if pa (gs_ n P g) = 1 then gs_ n P g else gs_ n P g + 1 := by
      unfold ff_ pt_
      rw [if_neg o]
    unfold kp_
    rw [if_pos ye]
    by_cases q : pa (gs_ n P g) = 0
    · rw [if_pos q] at f0
      rw [if_neg (by omega)] at f1
      rw [if_pos q, if_neg (nI_pos (by omega)), if_neg (show ¬ pa (gs_ n P g) = 1 by omega), if_neg (nI_pos (by omega))]
      exact last _ _ (fun _ => ⟨f0.symm, f1.symm⟩)
    · have q1 : pa (gs_ n P g) = 1 := by omega
      rw [if_neg q] at f0
      rw [if_pos q1] at f1
      rw [if_neg q, if_neg (nI_pos (by omega)), if_pos q1, if_neg (nI_pos (by omega))]
      exact last _ _ (fun _ => ⟨f0.symm, f1.symm⟩)
theorem mf_115 {N0 : cd_M} (hb : BL w n sm pa) (h0 : MFc N0 w n sm pa nc fo ln nb vl P) (h45 : N0.1 15 45 = nI (cnt_ (orp_ n P) (cnt_ P n))) (h46 : N0.1 15 46 = nI (cnt_ (mt_ w n sm pa vl P) (cnt_ P n))) (h76 : ∀ g, g < cnt_ P n → N0.1 76 g = mo_ w n sm pa vl P g) : ∀ (r fu g : Nat) (N : cd_M), g + r = cnt_ P n → r < fu → cf_ [(77, none), (78, none), (15, some 44)] N0 N → RKm N w n sm pa vl P g → cw (f11_laysFound_15_L115 fu (nI g) N) (fun N1 => MGR N1 w n sm pa vl P) := by
  intro r
  have h9 := hb.1
  have cl := cnt_le (P := P) n
  induction r with
  | zero =>
    intro fu g N hg hfu hc hK
    obtain ⟨fu, rfl⟩ := Nat.exists_eq_succ_of_ne_zero (show fu ≠ 0 by omega)
    have eg : g = cnt_ P n := by omega
    have C := MFc_f (cf_le (by decide) hc) h0
    rw [f11_laysFound_15_L115, C.2.2, if_pos (nI_le (by omega) (by omega))]
    rw [eg] at hK
    exact cw_some.mpr ⟨(hc 15 45 (by decide)).1.trans h45, (hc 15 46 (by decide)).1.trans h46, fun g hg => ⟨(hc 76 g (na_cov (by decide) g)).1.trans (h76 g hg), hK.2.1 g hg⟩, hK.1, hK.2.2⟩
  | succ r ih =>
    intro fu g N hg hfu hc hK
    obtain ⟨fu, rfl⟩ := Nat.exists_eq_succ_of_ne_zero (show fu ≠ 0 by omega)
    have hgn : g < cnt_ P n := by omega
    have C := MFc_f (cf_le (by decide) hc) h0
    have cin : cd_in (nI g) 90 = true := by rw [ci_nI (by omega)]; omega
    have e76 : N.1 76 g = mo_ w n sm pa vl P g := (hc 76 g (na_cov (by decide) g)).1.trans (h76 g hgn)
    have cg := cnt_le (P := nsc_ w n sm pa vl P) g
    obtain ⟨k1, k2, k3⟩ := hK
    rw [f11_laysFound_15_L115, C.2.2, if_neg (nI_ge (by omega) (by omega)), if_pos cin, if_pos cin, nI_clamp (by omega), e76]
    by_cases s : sec_ w n sm pa vl P g = true
    · obtain ⟨g', rfl⟩ : ∃ g', g = g' + 1 := by
        cases g with
        | zero => cases s
        | succ g' => exact ⟨g', rfl⟩
      have ns : ¬ nsc_ w n sm pa vl P (g' + 1) = true := by
        unfold nsc_
        rw [s]
        decide
      have c1 := cnt_same ns
      have nm : ¬ mt_ w n sm pa vl P (g' + 1) = true := fun z => by
        rw [(mt_can z).1] at s
        cases s
      have em : mo_ w n sm pa vl P (g' + 1) = nI g' := by
        unfold mo_
        rw [if_neg nm, if_pos s]
        rfl
      rw [em, if_neg (nI_pos (by omega)), if_neg (nI_ge (by omega) (by omega)), nI_pred, if_pos (show cd_in (nI g') 90 = true by rw [ci_nI (by omega)]; omega), if_pos cin, nI_clamp (by omega), k2 g' (by omega)]
      unfold f11_laysFound_15_L316
      simp only [cd_lt_p]
      rw [nI_1]
      refine ih fu (g' + 1 + 1) _ (by omega) (by omega) ?_ ⟨?_, fun j hj => ?_, fun x hx p hp => ?_⟩
      · exact cf_wcI (cf_cov_iff.mpr (Or.inl (by simp))) hc
      · rw [cd_wI_at, if_neg (by omega), c1]; exact k1
      · rw [cd_wI_at]
        by_cases z : j = g' + 1
        · rw [if_pos ⟨rfl, z⟩, z, c1]
        · rw [if_neg (fun y => z y.2)]; exact k2 j (by omega)
      · rw [c1] at hx
        rw [cd_wI_at, if_neg (by omega), sel_up (sel_lt hx).1]; exact k3 x hx p hp
    · have ns : nsc_ w n sm pa vl P g = true := by
        unfold nsc_
        cases u : sec_ w n sm pa vl P g with
        | true => exact absurd u s
        | false => rfl
      have c1 := cnt_succ ns
      have go : cw (f11_laysFound_15_L159 (f11_laysFound_15_L115 fu) (nI g) N) (fun N1 => MGR N1 w n sm pa vl P) := by
        refine mf_159 (k := cnt_ (nsc_ w n sm pa vl P) g) hb C hgn (by omega) k1 e76 s ?_
        have gg : ∀ x i, ¬ (x = 77 ∧ i = g) → ¬ (x = 78 ∧ (i = 2 * cnt_ (nsc_ w n sm pa vl P) g ∨ i = 2 * cnt_ (nsc_ w n sm pa vl P) g + 1)) → ¬ (x = 15 ∧ i = 44) → (cd_wI (cd_wI (cd_wI (cd_wI N 77 g (nI (cnt_ (nsc_ w n sm pa vl P) g))) 78 (2 * cnt_ (nsc_ w n sm pa vl P) g) (nI (ff_ w n sm pa vl P g 0))) 78 (2 * cnt_ (nsc_ w n sm pa vl P) g + 1) (nI (ff_ w n sm pa vl P g 1))) 15 44 (nI (cnt_ (nsc_ w n sm pa vl P) g + 1))).1 x i = N.1 x i := fun x i z1 z2 z3 => by rw [cd_wI_at, if_neg z3, cd_wI_at, if_neg (by omega), cd_wI_at, if_neg (by omega), cd_wI_at, if_neg z1]
        refine ih fu (g + 1) _ (by omega) (by omega) ?_ ⟨?_, fun j hj => ?_, fun x hx p hp => ?_⟩
        · exact cf_wcI (by decide) (cf_wcI (cf_cov_iff.mpr (Or.inl (by simp))) (cf_wcI (cf_cov_iff.mpr (Or.inl (by simp))) (cf_wcI (cf_cov_iff.mpr (Or.inl (by simp))) hc)))
        · rw [cd_wI_at, if_pos ⟨rfl, rfl⟩, c1]
        · by_cases z : j = g
          · rw [z, cd_wI_at, if_neg (by omega), cd_wI_at, if_neg (by omega), cd_wI_at, if_neg (by omega), cd_wI_at, if_pos ⟨rfl, rfl⟩, c1]
            congr 1
          · rw [gg _ _ (by omega) (by omega) (by omega)]; exact k2 j (by omega)
        · by_cases z : x = cnt_ (nsc_ w n sm pa vl P) g
          · rw [z, sel_P ns]
            by_cases y : p = 1
            · rw [y, cd_wI_at, if_neg (by omega), cd_wI_at, if_pos ⟨rfl, rfl⟩]
            · rw [show p = 0 by omega, cd_wI_at, if_neg (by omega), cd_wI_at, if_neg (by omega), cd_wI_at, if_pos ⟨rfl, rfl⟩]
          · have hx' : x < cnt_ (nsc_ w n sm pa vl P) g := by omega
            rw [gg _ _ (by omega) (by omega) (by omega), sel_up (sel_lt hx').1]; exact k3 x hx' p hp
      unfold mo_
      by_cases z : mt_ w n sm pa vl P g = true
      · rw [if_pos z, if_neg (nI_pos (by omega)), if_pos (nI_le (by omega) (by omega))]
        exact go
      · rw [if_neg z, if_neg s, if_pos (by decide)]
        exact go
theorem mf_55 {N0 : cd_M} (hw : w ≤ 6) (hb : BL w n sm pa) (hB : BR nc fo ln nb vl) (h0 : MFc N0 w n sm pa nc fo ln nb vl P) (h45 : N0.1 15 45 = nI (cnt_ (orp_ n P) (cnt_ P n))) (h44 : N0.1 15 44 = nI 0) : ∀ (r fu g : Nat) (N : cd_M), (g + r + 1 = cnt_ P n ∨ (r = 0 ∧ g = 0 ∧ cnt_ P n = 0)) → r < fu → cf_ [(76, none), (15, some 46)] N0 N → MKm N w n sm pa vl P g → cw (f11_laysFound_15_L55 fu (nI g) N) (fun N1 => MGR N1 w n sm pa vl P) := by
  intro r
  have h9 := hb.1
  have cl := cnt_le (P := P) n
  induction r with
  | zero =>
    intro fu g N hg hfu hc hK
    obtain ⟨fu, rfl⟩ := Nat.exists_eq_succ_of_ne_zero (show fu ≠ 0 by omega)
    have C := MFc_f (cf_le (by decide) hc) h0
    rw [f11_laysFound_15_L55, C.2.2, nI_1, if_pos (nI_le (by omega) (by omega))]
    obtain ⟨k1, k2⟩ := hK
    have K : N.1 15 46 = nI (cnt_ (mt_ w n sm pa vl P) (cnt_ P n)) ∧ ∀ g, g < cnt_ P n → N.1 76 g = mo_ w n sm pa vl P g := by
      rcases hg with hg | ⟨-, z1, z2⟩
      · have nm : ¬ mt_ w n sm pa vl P g = true := fun z => by
          have z2 := (mt_can z).2
          unfold can_ at z2
          rw [decide_eq_true_eq] at z2
          omega
        refine ⟨by rw [k1, show cnt_ P n = g + 1 by omega, cnt_same nm], fun j hj => ?_⟩
        rw [k2 j hj]
        by_cases y : j < g
        · rw [if_pos y]
        · have ej : j = g := by omega
          rw [if_neg y, ej]
          unfold mo_
          rw [if_neg nm]
          by_cases u : sec_ w n sm pa vl P g = true
          · rw [if_pos ⟨rfl, u⟩, if_pos u]
          · rw [if_neg (fun v => u v.2), if_neg u]
      · exact ⟨by rw [k1, z1, z2], fun j hj => by omega⟩
    exact mf_115 hb C ((hc 15 45 (by decide)).1.trans h45) K.1 K.2 (cnt_ P n) cd_fu 0 N (by omega) (by unfold cd_fu; omega) cf_refl ⟨(hc 15 44 (by decide)).1.trans h44, fun j hj => absurd hj (Nat.not_lt_zero j), fun x hx => absurd hx (Nat.not_lt_zero x)⟩
  | succ r ih =>
    intro fu g N hg hfu hc hK
    obtain ⟨fu, rfl⟩ := Nat.exists_eq_succ_of_ne_zero (show fu ≠ 0 by omega)
    have hgn : g + 1 < cnt_ P n := by omega
    have C := MFc_f (cf_le (by decide) hc) h0
    obtain ⟨k1, k2⟩ := hK
    have e76 : N.1 76 g = if sec_ w n sm pa vl P g = true then nI (g - 1) else -1 := by
      rw [k2 g (by omega), if_neg (Nat.lt_irrefl g)]
      by_cases z : sec_ w n sm pa vl P g = true
      · rw [if_pos ⟨rfl, z⟩, if_pos z]
      · rw [if_neg (fun y => z y.2), if_neg z]
    rw [f11_laysFound_15_L55, C.2.2, nI_1, if_neg (nI_ge (by omega) (by omega)), canM hw hb hB C.1 C.2.1 hgn e76, bind_p]
    unfold f11_laysFound_15_L107
    simp only [cd_lt_p]
    rw [nI_1]
    by_cases z : mt_ w n sm pa vl P g = true
    · rw [if_pos z, if_neg (by decide), if_pos (show cd_in (nI g) 90 = true by rw [ci_nI (by omega)]; omega), if_pos (show cd_in (nI (g + 1)) 90 = true by rw [ci_nI (by omega)]; omega), nI_clamp (by omega), nI_clamp (by omega)]
      have e8 : (cd_wI (cd_wI N 76 g (nI (g + 1))) 76 (g + 1) (nI g)).1 15 46 + 1 = nI (cnt_ (mt_ w n sm pa vl P) g + 1) := by rw [cd_wI_at, if_neg (by omega), cd_wI_at, if_neg (by omega), k1, nI_1]
      rw [e8]
      refine ih fu (g + 1) _ (by omega) (by omega) ?_ ⟨?_, fun j hj => ?_⟩
      · exact cf_wcI (by decide) (cf_wcI (cf_cov_iff.mpr (Or.inl (by simp))) (cf_wcI (cf_cov_iff.mpr (Or.inl (by simp))) hc))
      · rw [cd_wI_at, if_pos ⟨rfl, rfl⟩, cnt_succ z]
      · rw [cd_wI_at, if_neg (by omega), cd_wI_at]
        by_cases y : j = g + 1
        · have s1 : sec_ w n sm pa vl P (g + 1) = true := z
          rw [if_pos ⟨rfl, y⟩, if_neg (by omega), if_pos ⟨y, s1⟩]
          rfl
        · rw [if_neg (fun u => y u.2), cd_wI_at]
          by_cases u : j = g
          · rw [if_pos ⟨rfl, u⟩, if_pos (by omega), u]
            unfold mo_
            rw [if_pos z]
          · rw [if_neg (fun v => u v.2), k2 j hj]
            by_cases v : j < g
            · rw [if_pos v, if_pos (by omega)]
            · rw [if_neg v, if_neg (show ¬ j < g + 1 by omega), if_neg (show ¬ (j = g ∧ sec_ w n sm pa vl P g = true) from fun t => u t.1), if_neg (show ¬ (j = g + 1 ∧ sec_ w n sm pa vl P (g + 1) = true) from fun t => y t.1)]
    · rw [if_neg z, if_pos rfl]
      refine ih fu (g + 1) N (by omega) (by omega) hc ⟨by rw [k1, cnt_same z], fun j hj => ?_⟩
      have s1 : ¬ sec_ w n sm pa vl P (g + 1) = true := z
      rw [if_neg (show ¬ (j = g + 1 ∧ sec_ w n sm pa vl P (g + 1) = true) from fun t => s1 t.2)]
      by_cases u : j = g
      · rw [u, e76, if_pos (show g < g + 1 by omega)]
        unfold mo_
        rw [if_neg z]
      · rw [k2 j hj]
        by_cases v : j < g
        · rw [if_pos v, if_pos (by omega)]
        · rw [if_neg v, if_neg (show ¬ j < g + 1 by omega), if_neg (show ¬ (j = g ∧ sec_ w n sm pa vl P g = true) from fun t => u t.1)]
theorem mf_17 {N0 : cd_M} (hw : w ≤ 6) (hb : BL w n sm pa) (hB : BR nc fo ln nb vl) (h0 : MFc N0 w n sm pa nc fo ln nb vl P) (h44 : N0.1 15 44 = nI 0) (h46 : N0.1 15 46 = nI 0) (h76 : ∀ g, g < cnt_ P n → N0.1 76 g = -1) : ∀ (r fu g : Nat) (N : cd_M), g + r = cnt_ P n → r < fu → cf_ [(15, some 45)] N0 N → N.1 15 45 = nI (cnt_ (orp_ n P) g) → cw (f11_laysFound_15_L17 fu (nI g) N) (fun N1 => MGR N1 w n sm pa vl P) := by
  intro r
  have h9 := hb.1
  have cl := cnt_le (P := P) n
  induction r with
  | zero =>
    intro fu g N hg hfu hc h45
    obtain ⟨fu, rfl⟩ := Nat.exists_eq_succ_of_ne_zero (show fu ≠ 0 by omega)
    have C := MFc_f (cf_le (by decide) hc) h0
    have eg : g = cnt_ P n := by omega
    rw [eg] at h45
    rw [f11_laysFound_15_L17, C.2.2, if_pos (nI_le (by omega) (by omega))]
    refine mf_55 hw hb hB C h45 ((hc 15 44 (by decide)).1.trans h44) (cnt_ P n - 1) cd_fu 0 N (by omega) (by unfold cd_fu; omega) cf_refl ⟨(hc 15 46 (by decide)).1.trans h46, fun j hj => ?_⟩
    rw [(hc 76 j (na_cov (by decide) j)).1, h76 j hj, if_neg (Nat.not_lt_zero j), if_neg]
    rintro ⟨-, z⟩
    cases z
  | succ r ih =>
    intro fu g N hg hfu hc h45
    obtain ⟨fu, rfl⟩ := Nat.exists_eq_succ_of_ne_zero (show fu ≠ 0 by omega)
    have C := MFc_f (cf_le (by decide) hc) h0
    rw [f11_laysFound_15_L17, C.2.2, if_neg (nI_ge (by omega) (by omega)), orphM h9 hb.2.2 C.2.1 (by omega), bind_p, h45]
    unfold f11_laysFound_15_L43
    simp only [cd_lt_p]
    rw [nI_1]
    by_cases q : orp_ n P g = true
    · rw [if_pos q, if_neg (by decide), nI_1]
      exact ih fu (g + 1) _ (by omega) (by omega) (cf_wcI (by decide) hc) (by rw [cd_wI_at, if_pos ⟨rfl, rfl⟩, cnt_succ q])
    · rw [if_neg q, if_pos rfl, show nI (cnt_ (orp_ n P) g) + 0 = nI (cnt_ (orp_ n P) g + 0) from nI_add _ 0]
      exact ih fu (g + 1) _ (by omega) (by omega) (cf_wcI (by decide) hc) (by rw [cd_wI_at, if_pos ⟨rfl, rfl⟩, cnt_same q]; rfl)
end mfA
