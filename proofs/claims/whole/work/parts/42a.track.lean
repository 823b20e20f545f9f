/-! the class: the path followed -/
theorem goesC {M : cd_M} {i s S : Nat} {o : Nat → Bool} (hG : GB M i S o) (hi : i < 90) (hs : s < S) (hS : S ≤ 90) : f0_goesOn_9 (nI i) (nI s) M = some (if o s = true then 1 else 0) := by
  have e6 : (2 : Int32) * nI i + (nI s >>> ((6 : Int32) &&& 31)) = nI (2 * i + s / 64) := by
    rw [pk_shrN (by omega) _ 6 (by decide), show (2 : Int32) = nI 2 from rfl, pk_mul, nI_add]
  have e63 : nI s &&& 63 = nI (s % 64) := pk_andN (by omega) 6 (by decide)
  unfold f0_goesOn_9
  rw [if_neg (nI_pos (by omega)), show (90 : Int32) = nI 90 from rfl, if_neg (nI_ge hi (by omega)), if_neg (nI_pos (by omega)), if_pos (nI_lt (by omega) (by omega)), e6, e63, if_pos (by rw [ci_nI (by omega)]; omega), nI_clamp (by omega)]
  have g := hG (s / 64) (s % 64) (by omega) (by omega)
  rw [show 64 * (s / 64) + s % 64 = s by omega, decide_eq_true hs, Bool.true_and] at g
  have b := ts_bit (w := M.2 33 (2 * i + s / 64)) (s := (nI (s % 64)).toInt64.toUInt64 &&& Int64.toUInt64 63) (j := s % 64) (by omega) (by rw [wb_cu _ (by omega)]; exact u_tn (by omega))
  rw [g] at b
  by_cases z : o s = true
  · rw [if_pos z, if_neg]
    intro y
    rw [lg_cmp_eq] at y
    have := b.mp y
    rw [z] at this
    cases this
  · have z' : o s = false := by
      cases u : o s with
      | true => exact absurd u z
      | false => rfl
    rw [if_neg z, if_pos]
    rw [lg_cmp_eq]
    exact b.mpr z'
theorem entryC {M : cd_M} {i x : Nat} (hi : i < 90) (h : M.1 34 i = nI x) : f0_entry_9 (nI i) M = some (nI x) := by
  unfold f0_entry_9
  rw [if_neg (nI_pos (by omega)), show (90 : Int32) = nI 90 from rfl, if_neg (nI_ge hi (by omega)), if_pos (by rw [ci_nI (by omega)]; omega), nI_clamp (by omega), h]
section tkA
variable {L : Nat} {nu : Nat → Nat} {S : Nat} {tb : Nat → Nat} {ss : Nat → Nat} {ee : Nat → Bool} {cc : Nat → Nat}
/-- a field put to the path, its price not yet -/
def TK1 (M : cd_M) (ss : Nat → Nat) (ee : Nat → Bool) (cc : Nat → Nat) (k : Nat) : Prop := M.1 11 6 = nI (k + 1) ∧ M.1 11 7 = nI (cnt_ ee (k + 1)) ∧ M.1 11 8 = nI (cnt_ (dr_ ss) k) ∧ M.1 11 9 = nI (sig_ cc k) ∧ (∀ i, i < k + 1 → M.1 43 i = nI (ss i / 25) ∧ M.1 44 i = nI (ss i / 5 % 5) ∧ M.1 45 i = nI (ss i % 5) ∧ M.1 46 i = nI (bn_ (ee i))) ∧ (∀ i, i < k → M.1 47 i = nI (cc i)) ∧ ∀ i, i < k + 1 → ee i = true → M.1 48 (cnt_ ee i) = nI i
theorem cnt_mono {P : Nat → Bool} {a b : Nat} (h : a ≤ b) : cnt_ P a ≤ cnt_ P b := by
  induction b with
  | zero => rw [show a = 0 by omega]; exact Nat.le_refl _
  | succ b ih =>
    by_cases z : a = b + 1
    · rw [z]; exact Nat.le_refl _
    · have := ih (by omega)
      show cnt_ P a ≤ cnt_ P b + (if P b = true then 1 else 0)
      split <;> omega
theorem cnt_succ {P : Nat → Bool} {a : Nat} (h : P a = true) : cnt_ P (a + 1) = cnt_ P a + 1 := by
  show cnt_ P a + (if P a = true then 1 else 0) = _
  rw [if_pos h]
theorem cnt_same {P : Nat → Bool} {a : Nat} (h : ¬ P a = true) : cnt_ P (a + 1) = cnt_ P a := by
  show cnt_ P a + (if P a = true then 1 else 0) = _
  rw [if_neg h]
  omega
theorem addTK {M : cd_M} {k : Nat} (hT : TBa L nu S tb) (hC : CS M L nu S tb) (h : TK M ss ee cc k) (hk : k < 90) (hv : vld_ L nu (ss k)) : cw (f9_addField_11_10 (nI (ix_ nu (ss k))) (nI (bn_ (ee k))) M) (fun M1 => TK1 M1 ss ee cc k ∧ cf_ f9_addField_11_10_w M M1) := by
  refine cw_cp ?_ (w_f9_addField_11_10 (by decide) cf_refl)
  have hS := hT.2.1
  obtain ⟨x1, x2⟩ := TBa_ix hT hv
  obtain ⟨t1, t2, t3, t4, t5, t6⟩ := h
  have cin : cd_in (nI k) 90 = true := by rw [ci_nI (by omega)]; exact hk
  unfold f9_addField_11_10
  rw [t1, show (90 : Int32) = nI 90 from rfl, if_pos (nI_lt hk (by omega)), place10 hC hS x1, bind_p, x2, if_pos cin, nI_clamp (by omega)]
  simp only [cd_lt_p]
  have g1 : ∀ x i, ¬ (x = 43 ∧ i = k) → (cd_wI M 43 k (nI (ss k / 25))).1 x i = M.1 x i := fun x i z => by rw [cd_wI_at, if_neg z]
  have v1 : (cd_wI M 43 k (nI (ss k / 25))).1 43 k = nI (ss k / 25) := by rw [cd_wI_at, if_pos ⟨rfl, rfl⟩]
  generalize cd_wI M 43 k (nI (ss k / 25)) = M1 at *
  have C1 : CS M1 L nu S tb := CS_c (g1 _ _ (by omega)) (fun i => g1 _ _ (by omega)) (fun i => g1 _ _ (by omega)) (fun i => g1 _ _ (by omega)) (fun i => g1 _ _ (by omega)) hC
  rw [step10 C1 hS x1, bind_p, x2, g1 11 6 (by omega), t1, if_pos cin, nI_clamp (by omega)]
  have g2 : ∀ x i, ¬ (x = 44 ∧ i = k) → (cd_wI M1 44 k (nI (ss k / 5 % 5))).1 x i = M1.1 x i := fun x i z => by rw [cd_wI_at, if_neg z]
  have v2 : (cd_wI M1 44 k (nI (ss k / 5 % 5))).1 44 k = nI (ss k / 5 % 5) := by rw [cd_wI_at, if_pos ⟨rfl, rfl⟩]
  generalize cd_wI M1 44 k (nI (ss k / 5 % 5)) = M2 at *
  have C2 : CS M2 L nu S tb := CS_c (g2 _ _ (by omega)) (fun i => g2 _ _ (by omega)) (fun i => g2 _ _ (by omega)) (fun i => g2 _ _ (by omega)) (fun i => g2 _ _ (by omega)) C1
  rw [seen10 C2 hS x1, bind_p, x2, g2 11 6 (by omega), g1 11 6 (by omega), t1, if_pos cin, nI_clamp (by omega)]
  have g3 : ∀ x i, ¬ (x = 45 ∧ i = k) → (cd_wI M2 45 k (nI (ss k % 5))).1 x i = M2.1 x i := fun x i z => by rw [cd_wI_at, if_neg z]
  have v3 : (cd_wI M2 45 k (nI (ss k % 5))).1 45 k = nI (ss k % 5) := by rw [cd_wI_at, if_pos ⟨rfl, rfl⟩]
  generalize cd_wI M2 45 k (nI (ss k % 5)) = M3 at *
  have e6 : M3.1 11 6 = nI k := by rw [g3 _ _ (by omega), g2 _ _ (by omega), g1 _ _ (by omega), t1]
  have eb : vp_nar .boolean (nI (bn_ (ee k))) = nI (bn_ (ee k)) := by unfold bn_; split <;> rfl
  rw [e6, if_pos cin, nI_clamp (by omega), eb]
  have g4 : ∀ x i, ¬ (x = 46 ∧ i = k) → (cd_wI M3 46 k (nI (bn_ (ee k)))).1 x i = M3.1 x i := fun x i z => by rw [cd_wI_at, if_neg z]
  have v4 : (cd_wI M3 46 k (nI (bn_ (ee k)))).1 46 k = nI (bn_ (ee k)) := by rw [cd_wI_at, if_pos ⟨rfl, rfl⟩]
  generalize cd_wI M3 46 k (nI (bn_ (ee k))) = M4 at *
  have G : ∀ x i, ¬ ((x = 43 ∨ x = 44 ∨ x = 45 ∨ x = 46) ∧ i = k) → M4.1 x i = M.1 x i := fun x i z => by rw [g4 _ _ (by omega), g3 _ _ (by omega), g2 _ _ (by omega), g1 _ _ (by omega)]
  have V1 : M4.1 43 k = nI (ss k / 25) := by rw [g4 _ _ (by omega), g3 _ _ (by omega), g2 _ _ (by omega)]; exact v1
  have V2 : M4.1 44 k = nI (ss k / 5 % 5) := by rw [g4 _ _ (by omega), g3 _ _ (by omega)]; exact v2
  have V3 : M4.1 45 k = nI (ss k % 5) := by rw [g4 _ _ (by omega)]; exact v3
  unfold f9_addField_11_10_L89
  simp only [cd_lt_p]
  have ck := cnt_le (P := ee) k
  by_cases q : ee k = true
  · have b1 : bn_ (ee k) = 1 := by unfold bn_; rw [if_pos q]
    rw [b1] at v4 ⊢
    rw [if_neg (show ¬ nI 1 = 0 by decide), G 11 7 (by omega), t2, G 11 6 (by omega), t1, if_pos (by rw [ci_nI (by omega)]; omega), nI_clamp (by omega)]
    have g5 : ∀ x i, ¬ (x = 48 ∧ i = cnt_ ee k) → (cd_wI M4 48 (cnt_ ee k) (nI k)).1 x i = M4.1 x i := fun x i z => by rw [cd_wI_at, if_neg z]
    have v5 : (cd_wI M4 48 (cnt_ ee k) (nI k)).1 48 (cnt_ ee k) = nI k := by rw [cd_wI_at, if_pos ⟨rfl, rfl⟩]
    generalize cd_wI M4 48 (cnt_ ee k) (nI k) = M5 at *
    rw [g5 11 7 (by omega), G 11 7 (by omega), t2, nI_1]
    have e7 : (cd_wI M5 11 7 (nI (cnt_ ee k + 1))).1 11 6 + 1 = nI (k + 1) := by rw [cd_wI_at, if_neg (by omega), g5 _ _ (by omega), G _ _ (by omega), t1, nI_1]
    rw [e7]
    have g6 : ∀ x i, x ≠ 11 → (cd_wI (cd_wI M5 11 7 (nI (cnt_ ee k + 1))) 11 6 (nI (k + 1))).1 x i = M5.1 x i := fun x i z => by rw [cd_wI_at, if_neg (by omega), cd_wI_at, if_neg (by omega)]
    have g7 : ∀ i, i ≠ 6 → i ≠ 7 → (cd_wI (cd_wI M5 11 7 (nI (cnt_ ee k + 1))) 11 6 (nI (k + 1))).1 11 i = M5.1 11 i := fun i z y => by rw [cd_wI_at, if_neg (by omega), cd_wI_at, if_neg (by omega)]
    refine cw_some.mpr ⟨?_, ?_, ?_, ?_, fun i hi => ?_, fun i hi => ?_, fun i hi he => ?_⟩
    · rw [cd_wI_at, if_pos ⟨rfl, rfl⟩]
    · rw [cd_wI_at, if_neg (by omega), cd_wI_at, if_pos ⟨rfl, rfl⟩, cnt_succ q]
    · rw [g7 _ (by omega) (by omega), g5 _ _ (by omega), G _ _ (by omega), t3]
    · rw [g7 _ (by omega) (by omega), g5 _ _ (by omega), G _ _ (by omega), t4]
    · rw [g6 _ _ (by omega), g6 _ _ (by omega), g6 _ _ (by omega), g6 _ _ (by omega), g5 _ _ (by omega), g5 _ _ (by omega), g5 _ _ (by omega), g5 _ _ (by omega)]
      by_cases z : i = k
      · rw [z, b1]; exact ⟨V1, V2, V3, v4⟩
      · rw [G _ _ (by omega), G _ _ (by omega), G _ _ (by omega), G _ _ (by omega)]
        have := t5 i (by omega)
        exact ⟨this.1, this.2.1, this.2.2.1, this.2.2.2.1⟩
    · rw [g6 _ _ (by omega), g5 _ _ (by omega), G _ _ (by omega)]
      exact (t5 i hi).2.2.2.2
    · rw [g6 _ _ (by omega)]
      by_cases z : i = k
      · rw [z]; exact v5
      · have := cnt_succ he
        have := cnt_mono (P := ee) (show i + 1 ≤ k by omega)
        rw [g5 _ _ (by omega), G _ _ (by omega)]
        exact t6 i (by omega) he
  · have b1 : bn_ (ee k) = 0 := by unfold bn_; rw [if_neg q]
    rw [b1] at v4 ⊢
    rw [if_pos (show nI 0 = 0 from rfl), G 11 6 (by omega), t1, nI_1]
    have g6 : ∀ x i, ¬ (x = 11 ∧ i = 6) → (cd_wI M4 11 6 (nI (k + 1))).1 x i = M4.1 x i := fun x i z => by rw [cd_wI_at, if_neg z]
    refine cw_some.mpr ⟨?_, ?_, ?_, ?_, fun i hi => ?_, fun i hi => ?_, fun i hi he => ?_⟩
    · rw [cd_wI_at, if_pos ⟨rfl, rfl⟩]
    · rw [g6 _ _ (by omega), G _ _ (by omega), cnt_same q, t2]
    · rw [g6 _ _ (by omega), G _ _ (by omega), t3]
    · rw [g6 _ _ (by omega), G _ _ (by omega), t4]
    · rw [g6 _ _ (by omega), g6 _ _ (by omega), g6 _ _ (by omega), g6 _ _ (by omega)]
      by_cases z : i = k
      · rw [z, b1]; exact ⟨V1, V2, V3, v4⟩
      · rw [G _ _ (by omega), G _ _ (by omega), G _ _ (by omega), G _ _ (by omega)]
        have := t5 i (by omega)
        exact ⟨this.1, this.2.1, this.2.2.1, this.2.2.2.1⟩
    · rw [g6 _ _ (by omega), G _ _ (by omega)]
      exact (t5 i hi).2.2.2.2
    · have z : i ≠ k := fun z => q (by rw [← z]; exact he)
      rw [g6 _ _ (by omega), G _ _ (by omega)]
      exact t6 i (by omega) he
end tkA
section tkB
variable {w n : Nat} {sm : Nat → Nat → Nat} {pa : Nat → Nat} {nc fo : Nat} {ln : Nat → Nat} {nb : Nat → Nat → Nat} {vl : Nat → Nat} {L : Nat} {nu : Nat → Nat} {S : Nat} {tb : Nat → Nat}
theorem priceC {M : cd_M} {k : Nat} (hw : w ≤ 6) (hL : CL M w n sm pa) (hb : BL w n sm pa) (hR : CR M nc fo ln nb vl) (hB : BR nc fo ln nb vl) (hk : k < n) (h : TK1 M (SS w n sm pa vl L nu) (EE w n sm pa vl L nu) (CO w n sm pa vl L nu) k) : cw (f9_putPrice_11_7_6 (nI k) M) (fun M1 => TK M1 (SS w n sm pa vl L nu) (EE w n sm pa vl L nu) (CO w n sm pa vl L nu) (k + 1) ∧ cf_ f9_putPrice_11_7_6_w M M1) := by
  refine cw_cp ?_ (w_f9_putPrice_11_7_6 (by decide) cf_refl)
  have h9 := hb.1
  obtain ⟨t1, t2, t3, t4, t5, t6, t7⟩ := h
  have cin : cd_in (nI k) 90 = true := by rw [ci_nI (by omega)]; omega
  have hh : ∀ M' : cd_M, M'.1 11 6 = nI (k + 1) → ¬ f9_has_11 (nI k) M' = 0 := fun M' e z => by
    unfold f9_has_11 at z
    exact (has_iff e (by omega)).mp z ⟨k, by omega, rfl⟩
  have kp : ∀ M' : cd_M, M'.1 11 6 = nI (k + 1) → M'.1 45 k = nI (SS w n sm pa vl L nu k % 5) → f9_isKept_11 (nI k) M' = some (if dr_ (SS w n sm pa vl L nu) k = true then 0 else 1) := fun M' e1 e2 => by
    unfold f9_isKept_11 dr_
    rw [if_neg (hh M' e1), if_pos cin, nI_clamp (by omega), e2, show (2 : Int32) = nI 2 from rfl]
    simp only [decide_eq_true_eq]
    by_cases q : 2 ≤ SS w n sm pa vl L nu k % 5
    · rw [if_pos q, if_pos (nI_le q (by omega))]
    · rw [if_neg q, if_neg (nI_ge (by omega) (by omega))]
  have fin : ∀ y : Nat, y = CO w n sm pa vl L nu k → cw (f9_putPrice_11_7_6_L53 (nI k) (nI y) M) (fun M1 => TK M1 (SS w n sm pa vl L nu) (EE w n sm pa vl L nu) (CO w n sm pa vl L nu) (k + 1)) := by
    intro y hy
    unfold f9_putPrice_11_7_6_L53 f9_putPrice_11_7_6_L90
    rw [if_pos cin, nI_clamp (by omega)]
    simp only [cd_lt_p]
    have e9 : (cd_wI M 47 k (nI y)).1 11 9 + nI y = nI (sig_ (CO w n sm pa vl L nu) (k + 1)) := by
      rw [cd_wI_at, if_neg (by omega), t4, nI_add, hy]
      rfl
    rw [e9]
    have g : ∀ x i, ¬ (x = 47 ∧ i = k) → ¬ (x = 11 ∧ i = 9) → (cd_wI (cd_wI M 47 k (nI y)) 11 9 (nI (sig_ (CO w n sm pa vl L nu) (k + 1)))).1 x i = M.1 x i := fun x i z1 z2 => by rw [cd_wI_at, if_neg z2, cd_wI_at, if_neg z1]
    have g47 : (cd_wI (cd_wI M 47 k (nI y)) 11 9 (nI (sig_ (CO w n sm pa vl L nu) (k + 1)))).1 47 k = nI y := by rw [cd_wI_at, if_neg (by omega), cd_wI_at, if_pos ⟨rfl, rfl⟩]
    have g9 : (cd_wI (cd_wI M 47 k (nI y)) 11 9 (nI (sig_ (CO w n sm pa vl L nu) (k + 1)))).1 11 9 = nI (sig_ (CO w n sm pa vl L nu) (k + 1)) := by rw [cd_wI_at, if_pos ⟨rfl, rfl⟩]
    generalize cd_wI (cd_wI M 47 k (nI y)) 11 9 (nI (sig_ (CO w n sm pa vl L nu) (k + 1))) = M1 at *
    rw [kp M1 (by rw [g _ _ (by omega) (by omega)]; exact t1) (by rw [g _ _ (by omega) (by omega)]; exact (t5 k (by omega)).2.2.1), bind_p, g 11 8 (by omega) (by omega), t3]
    have last : ∀ d : Nat, d = cnt_ (dr_ (SS w n sm pa vl L nu)) (k + 1) → cw (some (cd_wI M1 11 8 (nI d))) (fun M1 => TK M1 (SS w n sm pa vl L nu) (EE w n sm pa vl L nu) (CO w n sm pa vl L nu) (k + 1)) := by
      rintro d rfl
      have g2 : ∀ x i, ¬ (x = 11 ∧ i = 8) → (cd_wI M1 11 8 (nI (cnt_ (dr_ (SS w n sm pa vl L nu)) (k + 1)))).1 x i = M1.1 x i := fun x i z => by rw [cd_wI_at, if_neg z]
      refine cw_some.mpr ⟨?_, ?_, ?_, ?_, fun i hi => ?_, fun i hi he => ?_⟩
      · rw [g2 _ _ (by omega), g _ _ (by omega) (by omega)]; exact t1
      · rw [g2 _ _ (by omega), g _ _ (by omega) (by omega)]; exact t2
      · rw [cd_wI_at, if_pos ⟨rfl, rfl⟩]
      · rw [g2 _ _ (by omega)]; exact g9
      · rw [g2 _ _ (by omega), g2 _ _ (by omega), g2 _ _ (by omega), g2 _ _ (by omega), g2 _ _ (by omega), g _ _ (by omega) (by omega), g _ _ (by omega) (by omega), g _ _ (by omega) (by omega), g _ _ (by omega) (by omega)]
        have a := t5 i hi
        refine ⟨a.1, a.2.1, a.2.2.1, a.2.2.2, ?_⟩
        by_cases z : i = k
        · rw [z, g47, hy]
        · rw [g _ _ (by omega) (by omega)]; exact t6 i (by omega)
      · rw [g2 _ _ (by omega), g _ _ (by omega) (by omega)]; exact t7 i hi he
    by_cases q : dr_ (SS w n sm pa vl L nu) k = true
    · rw [if_pos q, if_pos rfl, nI_1]
      exact last _ (cnt_succ q).symm
    · rw [if_neg q, if_neg (by decide), show nI (cnt_ (dr_ (SS w n sm pa vl L nu)) k) + 0 = nI (cnt_ (dr_ (SS w n sm pa vl L nu)) k + 0) from nI_add _ 0]
      exact last _ (cnt_same q).symm
  have mid : ∀ y : Nat, y = ca_ (frs_ w sm pa vl) (rep_ w sm vl) k (SS w n sm pa vl L nu k) → cw (f9_putPrice_11_7_6_L32 (nI k) (nI y) M) (fun M1 => TK M1 (SS w n sm pa vl L nu) (EE w n sm pa vl L nu) (CO w n sm pa vl L nu) (k + 1)) := by
    intro y hy
    have e1 : f5_value_6 1 M = some (nI (vl 1)) := val6 hR (v := 1) (by decide)
    unfold f9_putPrice_11_7_6_L32
    rw [if_pos cin, nI_clamp (by omega), (t5 k (by omega)).2.2.2, e1, bind_p]
    simp only [cd_lt_p]
    rw [nI_add]
    have ec : CO w n sm pa vl L nu k = ca_ (frs_ w sm pa vl) (rep_ w sm vl) k (SS w n sm pa vl L nu k) + (if EE w n sm pa vl L nu k = true then vl 1 else 0) := rfl
    unfold bn_
    by_cases q : EE w n sm pa vl L nu k = true
    · rw [if_pos q, if_neg (show ¬ nI 1 = 0 by decide)]
      exact fin _ (by rw [ec, if_pos q, hy])
    · rw [if_neg q, if_pos (show nI 0 = 0 from rfl)]
      exact fin _ (by rw [ec, if_neg q, hy]; omega)
  unfold f9_putPrice_11_7_6
  rw [if_neg (hh M t1), kp M t1 (t5 k (by omega)).2.2.1, bind_p, freshC hw hL hb hR hB hk, repC hw hL hb hR hB hk, bind_p, bind_p]
  unfold dr_
  simp only [decide_eq_true_eq]
  by_cases q : 2 ≤ SS w n sm pa vl L nu k % 5
  · rw [if_pos q, if_pos rfl]
    exact mid _ (by unfold ca_; rw [if_neg (by omega)])
  · rw [if_neg q, if_neg (by decide)]
    exact mid _ (by unfold ca_; rw [if_pos (by omega)])
/-- all that stays while the path is followed -/
def FW (M0 M : cd_M) : Prop := cf_ f9_follow_11_9_7_6_w M0 M
theorem fo_30 {M0 : cd_M} (hw : w ≤ 6) (hL : CL M0 w n sm pa) (hb : BL w n sm pa) (hR : CR M0 nc fo ln nb vl) (hB : BR nc fo ln nb vl) (hT : TBa L nu S tb) (hC : CS M0 L nu S tb) (hV : SV M0 n pa (frs_ w sm pa vl) (rep_ w sm vl) L nu (vl 1) S tb 0) : ∀ (r fu i : Nat) (a : Int32) (M : cd_M), i + r = n → r < fu → (i < n → a = nI (ix_ nu (SS w n sm pa vl L nu (i - 1)))) → FW M0 M → TK M (SS w n sm pa vl L nu) (EE w n sm pa vl L nu) (CO w n sm pa vl L nu) i → cw (f9_follow_11_9_7_6_L30 fu a (nI i) M) (fun M1 => TK M1 (SS w n sm pa vl L nu) (EE w n sm pa vl L nu) (CO w n sm pa vl L nu) n) := by
  intro r
  have h9 := hb.1
  have hS := hT.2.1
  have sv : ∀ i, vld_ L nu (SS w n sm pa vl L nu i) := fun i => sts_vld hT.2.2 i
  induction r with
  | zero =>
    intro fu i a M hi hfu ha hf hK
    obtain ⟨fu, rfl⟩ := Nat.exists_eq_succ_of_ne_zero (show fu ≠ 0 by omega)
    have ei : i = n := by omega
    rw [ei] at hK
    rw [f9_follow_11_9_7_6_L30]
    unfold f4_size_7
    rw [(CL_f hf (by decide) hL).1, if_pos (nI_le (by omega) (by omega))]
    exact cw_some.mpr hK
  | succ r ih =>
    intro fu i a M hi hfu ha hf hK
    obtain ⟨fu, rfl⟩ := Nat.exists_eq_succ_of_ne_zero (show fu ≠ 0 by omega)
    have hin : i < n := by omega
    have l96 : cw (f9_follow_11_9_7_6_L96 (f9_follow_11_9_7_6_L30 fu) (nI (ix_ nu (SS w n sm pa vl L nu i))) (nI i) (nI (bn_ (EE w n sm pa vl L nu i))) M) (fun M1 => TK M1 (SS w n sm pa vl L nu) (EE w n sm pa vl L nu) (CO w n sm pa vl L nu) n) := by
      unfold f9_follow_11_9_7_6_L96
      rw [cw_bind]
      refine cw_mono (addTK hT (CS_f hf (by decide) hC) hK (by omega) (sv i)) (fun M1 k1 => ?_)
      have f1 : FW M0 M1 := cf_trans hf (cf_le (by decide) k1.2)
      rw [cw_bind]
      refine cw_mono (priceC hw (CL_f f1 (by decide) hL) hb (CR_f f1 (by decide) hR) hB hin k1.1) (fun M2 k2 => ?_)
      simp only [cd_lt_p]
      rw [nI_1]
      exact ih fu (i + 1) _ M2 (by omega) (by omega) (fun _ => rfl) (cf_trans f1 (cf_le (by decide) k2.2)) k2.1
    rw [f9_follow_11_9_7_6_L30]
    unfold f4_size_7
    rw [(CL_f hf (by decide) hL).1, if_neg (nI_ge hin (by omega)), ha hin]
    unfold f9_follow_11_9_7_6_L61 f9_follow_11_9_7_6_L62
    cases i with
    | zero =>
      rw [if_pos (show nI 0 ≤ 0 by decide), if_pos rfl, if_pos (show nI 0 ≤ 0 by decide)]
      exact l96
    | succ i =>
      have vp := sv i
      obtain ⟨x1, x2⟩ := TBa_ix hT vp
      have G : GB M i S (fun j => of_ n pa (frs_ w sm pa vl) (rep_ w sm vl) L nu (vl 1) i (tb j)) := fun q j hq hj => by
        rw [(hf 33 _ (na_cov (by decide) _)).2]
        exact (hV i (by omega) (by omega)).2 q j hq hj
      rw [if_neg (nI_nle (by omega) (by omega)), nI_pred, show i + 1 - 1 = i by omega, goesC G (by omega) x1 hS, bind_p, x2]
      have eo : of_ n pa (frs_ w sm pa vl) (rep_ w sm vl) L nu (vl 1) i (SS w n sm pa vl L nu i) = on_ n pa (frs_ w sm pa vl) (rep_ w sm vl) L nu (vl 1) i (SS w n sm pa vl L nu i) := by unfold of_; rw [decide_eq_true hin, Bool.true_and]
      have es : SS w n sm pa vl L nu (i + 1) = if on_ n pa (frs_ w sm pa vl) (rep_ w sm vl) L nu (vl 1) i (SS w n sm pa vl L nu i) = true then ons_ L nu (SS w n sm pa vl L nu i) else en_ n pa (frs_ w sm pa vl) (rep_ w sm vl) L nu (vl 1) (i + 1) := rfl
      have ee : EE w n sm pa vl L nu (i + 1) = !on_ n pa (frs_ w sm pa vl) (rep_ w sm vl) L nu (vl 1) i (SS w n sm pa vl L nu i) := rfl
      rw [eo]
      rw [es, ee] at l96
      cases z : on_ n pa (frs_ w sm pa vl) (rep_ w sm vl) L nu (vl 1) i (SS w n sm pa vl L nu i) with
      | true =>
        rw [z, if_pos rfl] at l96
        rw [if_pos rfl, if_neg (by decide), if_pos rfl, if_neg (nI_nle (by omega) (by omega)), next10 (CS_f hf (by decide) hC) hS x1, bind_p, x2]
        exact l96
      | false =>
        rw [z, if_neg (by decide)] at l96
        have e34 : M.1 34 (i + 1) = nI (ix_ nu (en_ n pa (frs_ w sm pa vl) (rep_ w sm vl) L nu (vl 1) (i + 1))) := by
          rw [(hf 34 _ (na_cov (by decide) _)).1]
          exact (hV (i + 1) (by omega) hin).1
        rw [if_pos (show (if false = true then (1 : Int32) else 0) = 0 by decide), if_neg (show ¬ (1 : Int32) = 0 by decide), entryC (by omega) e34, bind_p]
        exact l96
theorem followC {M : cd_M} (hw : w ≤ 6) (hL : CL M w n sm pa) (hb : BL w n sm pa) (hR : CR M nc fo ln nb vl) (hB : BR nc fo ln nb vl) (hT : TBa L nu S tb) (hC : CS M L nu S tb) (hV : SV M n pa (frs_ w sm pa vl) (rep_ w sm vl) L nu (vl 1) S tb 0) : cw (f9_follow_11_9_7_6 M) (fun M1 => TK M1 (SS w n sm pa vl L nu) (EE w n sm pa vl L nu) (CO w n sm pa vl L nu) n ∧ cf_ f9_follow_11_9_7_6_w M M1) := by
  refine cw_cp ?_ (w_f9_follow_11_9_7_6 (by decide) cf_refl)
  have h9 := hb.1
  unfold f9_follow_11_9_7_6
  simp only [cd_lt_p]
  have f1 : FW M (cd_wI (cd_wI (cd_wI (cd_wI M 11 6 0) 11 7 0) 11 8 0) 11 9 0) := cf_wcI (by decide) (cf_wcI (by decide) (cf_wcI (by decide) (cf_wcI (by decide) cf_refl)))
  have k0 : TK (cd_wI (cd_wI (cd_wI (cd_wI M 11 6 0) 11 7 0) 11 8 0) 11 9 0) (SS w n sm pa vl L nu) (EE w n sm pa vl L nu) (CO w n sm pa vl L nu) 0 := by
    refine ⟨?_, ?_, ?_, ?_, fun i hi => absurd hi (Nat.not_lt_zero i), fun i hi => absurd hi (Nat.not_lt_zero i)⟩
    · rw [cd_wI_at, if_neg (by decide), cd_wI_at, if_neg (by decide), cd_wI_at, if_neg (by decide), cd_wI_at, if_pos ⟨rfl, rfl⟩]; rfl
    · rw [cd_wI_at, if_neg (by decide), cd_wI_at, if_neg (by decide), cd_wI_at, if_pos ⟨rfl, rfl⟩]; rfl
    · rw [cd_wI_at, if_neg (by decide), cd_wI_at, if_pos ⟨rfl, rfl⟩]; rfl
    · rw [cd_wI_at, if_pos ⟨rfl, rfl⟩]; rfl
  generalize cd_wI (cd_wI (cd_wI (cd_wI M 11 6 0) 11 7 0) 11 8 0) 11 9 0 = M1 at *
  have e0 : f0_entry_9 0 M1 = some (M1.1 34 0) := by
    unfold f0_entry_9
    rw [if_neg (by decide), if_neg (by decide), if_pos (show cd_in 0 90 = true by decide)]
    rfl
  rw [e0, bind_p]
  refine fo_30 hw hL hb hR hB hT hC hV n cd_fu 0 _ M1 (by omega) (by unfold cd_fu; omega) (fun z => ?_) f1 k0
  rw [(f1 34 0 (na_cov (by decide) 0)).1]
  exact (hV 0 (Nat.le_refl _) z).1
end tkB
