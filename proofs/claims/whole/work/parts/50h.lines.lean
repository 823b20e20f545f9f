/-! rules: values, lines -/
section lvA
variable {N0 : cd_M} {t : Nat} {b : Nat → Nat} {E : Nat}
/-- which value is told here -/
def vt_ (b : Nat → Nat) (E s : Nat) : Nat := if wd_ b E s [115, 108, 97, 99, 107] = true then 0 else if wd_ b E s [101, 100, 105, 116] = true then 1 else if wd_ b E s [115, 116, 105, 108, 108] = true then 2 else if wd_ b E s [109, 97, 116, 101] = true then 3 else if wd_ b E s [109, 101, 97, 115, 117, 114, 101] = true then 4 else 5
def wI_ (n v : Nat) : Int32 := if v < n then nI v else -1
theorem i01 {p : Prop} {_ : Decidable p} : ((if p then (1 : Int32) else 0) = 0) ↔ ¬ p := by
  by_cases q : p
  · rw [if_pos q]; exact ⟨fun z => absurd z (by decide), fun z => absurd q z⟩
  · rw [if_neg q]; exact ⟨fun _ => q, fun _ => rfl⟩
theorem vtC {M N : cd_M} {s : Nat} (h : JT M N t b E s) : f8_valueTold_1 M = some (wI_ 5 (vt_ b E s)) ∧ f11_ruleHere_15 N = some (wI_ 5 (vt_ b E s)) := by
  obtain ⟨h1, h2, h3, h4, -⟩ := h
  unfold f8_valueTold_1 f11_ruleHere_15 vt_ wI_
  rw [wc_slack h1 h3, wc_edit h1 h3, wc_still h1 h3, wc_mate h1 h3, wc_measure h1 h3, wm_slack h2 h4, wm_edit h2 h4, wm_still h2 h4, wm_mate h2 h4, wm_measure h2 h4]
  simp only [bind_p]
  by_cases q0 : wd_ b E s [115, 108, 97, 99, 107] = true
  · rw [if_pos q0, if_neg (by decide), if_pos q0, if_pos (by decide)]; exact ⟨rfl, rfl⟩
  rw [if_neg q0, if_pos rfl, if_neg q0]
  by_cases q1 : wd_ b E s [101, 100, 105, 116] = true
  · rw [if_pos q1, if_neg (by decide), if_pos q1, if_pos (by decide)]; exact ⟨rfl, rfl⟩
  rw [if_neg q1, if_pos rfl, if_neg q1]
  by_cases q2 : wd_ b E s [115, 116, 105, 108, 108] = true
  · rw [if_pos q2, if_neg (by decide), if_pos q2, if_pos (by decide)]; exact ⟨rfl, rfl⟩
  rw [if_neg q2, if_pos rfl, if_neg q2]
  by_cases q3 : wd_ b E s [109, 97, 116, 101] = true
  · rw [if_pos q3, if_neg (by decide), if_pos q3, if_pos (by decide)]; exact ⟨rfl, rfl⟩
  rw [if_neg q3, if_pos rfl, if_neg q3]
  by_cases q4 : wd_ b E s [109, 101, 97, 115, 117, 114, 101] = true
  · rw [if_pos q4, if_neg (by decide), if_pos q4, if_pos (by decide)]; exact ⟨rfl, rfl⟩
  rw [if_neg q4, if_pos rfl, if_neg q4, if_neg (by decide)]
  exact ⟨rfl, rfl⟩
/-- which measure -/
def mh_ (b : Nat → Nat) (E s : Nat) : Nat := if wd_ b E s [115, 117, 109] = true then 0 else if wd_ b E s [109, 111, 115, 116] = true then 1 else if wd_ b E s [109, 97, 110, 121] = true then 2 else 3
theorem mhM {M N : cd_M} {s : Nat} (h : JT M N t b E s) : f11_measureHere_15 N = some (wI_ 3 (mh_ b E s)) := by
  obtain ⟨h1, h2, h3, h4, -⟩ := h
  unfold f11_measureHere_15 mh_ wI_
  rw [wm_sum h2 h4, wm_most h2 h4, wm_many h2 h4]
  simp only [bind_p]
  by_cases q0 : wd_ b E s [115, 117, 109] = true
  · rw [if_pos q0, if_neg (by decide), if_pos q0, if_pos (by decide)]; rfl
  rw [if_neg q0, if_pos rfl, if_neg q0]
  by_cases q1 : wd_ b E s [109, 111, 115, 116] = true
  · rw [if_pos q1, if_neg (by decide), if_pos q1, if_pos (by decide)]; rfl
  rw [if_neg q1, if_pos rfl, if_neg q1]
  by_cases q2 : wd_ b E s [109, 97, 110, 121] = true
  · rw [if_pos q2, if_neg (by decide), if_pos q2, if_pos (by decide)]; rfl
  rw [if_neg q2, if_pos rfl, if_neg q2, if_neg (by decide)]
theorem mhC {M N : cd_M} {s : Nat} (h : JT M N t b E s) : f8_takeMeasure_1 M = if mh_ b E s < 3 then f8_takeMeasure_1_L66 (cd_wI M 1 4 (nI (mh_ b E s))) else some (0, (f8_refuse_1 (nI 1) M).2) := by
  obtain ⟨h1, h2, h3, h4, -⟩ := h
  unfold f8_takeMeasure_1 mh_
  rw [wc_sum h1 h3, wc_most h1 h3, wc_many h1 h3]
  simp only [bind_p]
  rw [cd_lt_p (v := cd_wI M 1 4 2), cd_lt_p (v := cd_wI M 1 4 1), cd_lt_p (v := cd_wI M 1 4 0)]
  by_cases q0 : wd_ b E s [115, 117, 109] = true
  · rw [if_pos q0, if_neg (by decide), if_pos q0, if_pos (by decide)]; rfl
  rw [if_neg q0, if_pos rfl, if_neg q0]
  by_cases q1 : wd_ b E s [109, 111, 115, 116] = true
  · rw [if_pos q1, if_neg (by decide), if_pos q1, if_pos (by decide)]; rfl
  rw [if_neg q1, if_pos rfl, if_neg q1]
  by_cases q2 : wd_ b E s [109, 97, 110, 121] = true
  · rw [if_pos q2, if_neg (by decide), if_pos q2, if_pos (by decide)]; rfl
  rw [if_neg q2, if_pos rfl, if_neg q2, if_neg (by decide)]
  rfl
/-- a value put -/
theorem DR_put {M N M1 N1 : cd_M} {k : Nat} {dl : Nat → Nat} {dn : Nat → Nat → Nat} {dv : Nat → Nat} {m v y : Nat} (hv : v < 5) (hy : y ≤ 999) (h4 : v = 4 → y ≤ 2) (h : DR M N N0 k dl dn dv m) (eM : ∀ x j, M1.1 x j = if x = 22 ∧ j = v then nI y else M.1 x j) (eN : ∀ x j, N1.1 x j = if x = 62 ∧ j = 5 + v then nI y else N.1 x j) : DR M1 N1 N0 k dl dn (fun u => if u = v then y else dv u) m := by
  obtain ⟨⟨a1, a2, a3⟩, h2, h3, h4', h5, ⟨b1, b2, b3⟩, h7⟩ := h
  refine ⟨⟨by rw [eM, if_neg (by omega)]; exact a1, by rw [eN, if_neg (by omega)]; exact a2, a3⟩, fun c hc => ?_, fun c i hc hi => ?_, fun u hu => ?_, ?_, ⟨by rw [eM, if_neg (by omega)]; exact b1, b2, fun u hu => by rw [eN, if_neg (by omega)]; exact b3 u hu⟩, fun c hc => by rw [eN, if_neg (by omega)]; exact h7.1 c hc, fun i hi => by rw [eN, if_neg (by omega)]; exact h7.2.1 i hi, fun u hu => by rw [eN, if_neg (by omega)]; exact h7.2.2 u hu⟩
  · rw [eM, if_neg (by omega), eN, if_neg (by omega)]; exact h2 c hc
  · rw [eM, if_neg (by omega), eN, if_neg (by omega)]; exact h3 c i hc hi
  · dsimp only
    by_cases z : u = v
    · have e1 : M1.1 22 u = nI y := by rw [eM, if_pos ⟨rfl, z⟩]
      have e2 : N1.1 62 (5 + u) = nI y := by rw [eN, if_pos ⟨rfl, by omega⟩]
      rw [e1, e2, if_pos z]; exact ⟨rfl, rfl, hy⟩
    · have e1 : M1.1 22 u = M.1 22 u := by rw [eM, if_neg (fun q => z q.2)]
      have e2 : N1.1 62 (5 + u) = N.1 62 (5 + u) := by rw [eN, if_neg (by omega)]
      rw [e1, e2, if_neg z]; exact h4' u hu
  · dsimp only
    by_cases z : 4 = v
    · rw [if_pos z]; exact h4 z.symm
    · rw [if_neg z]; exact h5
theorem valJ {M N : cd_M} {k s : Nat} {dl : Nat → Nat} {dn : Nat → Nat → Nat} {dv : Nat → Nat} {m : Nat} (hJ : JT M N t b E s) (hD : DR M N N0 k dl dn dv m) : jk_ N0 (f8_readValue_1 (wI_ 5 (vt_ b E s)) M) (f11_oneRule_15 (wI_ 5 (vt_ b E s)) N) (fun M1 N1 => ∃ v s2 dv', v < 5 ∧ m.testBit v = false ∧ JT M1 N1 t b E s2 ∧ DR M1 N1 N0 k dl dn dv' (m ||| 2 ^ v)) := by
  have h0 := hJ
  obtain ⟨h1, h2, h3, h4, h8⟩ := hJ
  have hK := hD.2.2.2.2.2.2
  unfold f8_readValue_1 f11_oneRule_15 f11_oneRule_15_L10
  generalize vt_ b E s = v
  unfold wI_
  by_cases q : v < 5
  · rw [if_pos q, if_neg (nI_nm1 (by omega)), if_neg (nI_pos (by omega)), mT_p h8 (by decide), if_pos (by rw [ci_nI (by omega)]; omega), nI_clamp (by omega)]
    obtain ⟨p1, p2, p3, p4, p5⟩ := bits_1 m hD.2.2.2.2.2.1.2.1 v q
    have e63 := hD.2.2.2.2.2.1.2.2 v q
    have e15 := hD.2.2.2.2.2.1.1
    rw [cd_lt_p (v := (1 : Int32) <<< (nI v &&& 31)), e15, e63]
    unfold f11_oneRule_15_L32
    by_cases qb : m.testBit v = false
    · have nb0 : nI (bn_ (m.testBit v)) = 0 := by rw [qb]; rfl
      rw [if_pos (p4.mpr qb), if_pos nb0, mT_p h8 (by decide), p5, if_pos (by rw [ci_nI (by omega)]; omega), nI_clamp (by omega), show vp_nar .boolean 1 = nI 1 from rfl, cd_lt_p (v := cd_wI M 1 5 (nI (m ||| 2 ^ v))), cd_lt_p (v := cd_wI N 63 v (nI 1))]
      have fM : cf_ [(1, some 5)] M (cd_wI M 1 5 (nI (m ||| 2 ^ v))) := cf_wcI (by decide) cf_refl
      have fN : cf_ [(63, none)] N (cd_wI N 63 v (nI 1)) := cf_wcI (cf_cov_iff.mpr (Or.inl (by simp))) cf_refl
      have D1 : DR (cd_wI M 1 5 (nI (m ||| 2 ^ v))) (cd_wI N 63 v (nI 1)) N0 k dl dn dv (m ||| 2 ^ v) := by
        obtain ⟨⟨a1, a2, a3⟩, g2, g3, g4, g5, ⟨b1, b2, b3⟩, g7⟩ := hD
        refine ⟨⟨by rw [cd_wI_at, if_neg (by omega)]; exact a1, by rw [cd_wI_at, if_neg (by omega)]; exact a2, a3⟩, fun c hc => ?_, fun c i hc hi => ?_, fun u hu => ?_, g5, ⟨by rw [cd_wI_at, if_pos ⟨rfl, rfl⟩], p2, fun u hu => ?_⟩, KRr_w g7 (by omega)⟩
        · rw [cd_wI_at, if_neg (by omega), cd_wI_at, if_neg (by omega)]; exact g2 c hc
        · rw [cd_wI_at, if_neg (by omega), cd_wI_at, if_neg (by omega)]; exact g3 c i hc hi
        · rw [cd_wI_at, if_neg (by omega), cd_wI_at, if_neg (by omega)]; exact g4 u hu
        · rw [cd_wI_at, p3 u hu]
          by_cases z : u = v
          · rw [if_pos ⟨rfl, z⟩, decide_eq_true z, Bool.true_or]; rfl
          · rw [if_neg (fun y => z y.2), decide_eq_false z, Bool.false_or]; exact b3 u hu
      obtain ⟨M1, N1, s1, o1, o2, o3, o4, o5⟩ := advJ' (JT_f h0 fM fN (by decide))
      have D2 := DR_f D1 o4 o5 (by decide)
      have hK2 := D2.2.2.2.2.2.2
      rw [o1, o2, bind_p, bind_p]
      unfold f8_readValue_1_L75
      have put : ∀ (M3 : cd_M) (y : Nat), M3.1 1 4 = nI y → f5_putValue_4 (nI v) (M3.1 1 4) M3 = some (cd_wI M3 22 v (nI y)) := fun M3 y e => by
        unfold f5_putValue_4
        rw [if_neg (nI_pos (by omega)), show (5 : Int32) = nI 5 from rfl, if_neg (nI_ge q (by omega)), if_pos (by rw [ci_nI (by omega)]; omega), nI_clamp (by omega), e, cd_lt_p]
      by_cases z4 : v = 4
      · have ev : nI v = 4 := by rw [z4]; rfl
        rw [if_pos ev, if_pos ev, mhC o3, mhM o3, bind_p]
        unfold wI_ f11_oneRule_15_L99 f8_takeMeasure_1_L66
        by_cases z : mh_ b E s1 < 3
        · rw [if_pos z, if_pos z, if_neg (nI_pos (by omega)), mT_p o3.2.2.2.2 (by decide), if_pos (show cd_in 9 10 = true by decide), show Int32.toNatClampNeg 9 = 9 from rfl, cd_lt_p]
          have gM : cf_ [(1, some 4)] M1 (cd_wI M1 1 4 (nI (mh_ b E s1))) := cf_wcI (by decide) cf_refl
          have gN : cf_ [(62, none)] N1 (cd_wI N1 62 9 (nI (mh_ b E s1))) := cf_wcI (cf_cov_iff.mpr (Or.inl (by simp))) cf_refl
          obtain ⟨M3, N3, s3, r1, r2, r3, r4, r5⟩ := advJ' (JT_f o3 gM gN (by decide))
          have e14 : M3.1 1 4 = nI (mh_ b E s1) := (r4 1 4 (by decide)).1.trans (by rw [cd_wI_at, if_pos ⟨rfl, rfl⟩])
          rw [r1, r2, bind_p, bind_p, bind_p, u2_p, if_neg (show ¬ (1 : Int32) = 0 by decide), put M3 _ e14, bind_p]
          have gM2 : cf_ [(22, none)] M3 (cd_wI M3 22 v (nI (mh_ b E s1))) := cf_wcI (cf_cov_iff.mpr (Or.inl (by simp))) cf_refl
          have DD := DR_put (v := v) (y := mh_ b E s1) (M1 := cd_wI M1 22 v (nI (mh_ b E s1))) (N1 := cd_wI N1 62 (5 + v) (nI (mh_ b E s1))) q (by omega) (fun _ => by omega) D2 (fun x j => by rw [cd_wI_at]) (fun x j => by rw [cd_wI_at])
          refine jk_ok ⟨v, s3, _, q, qb, JT_f r3 (w2 := []) gM2 cf_refl (by decide), DR_c (fun x i y => ?_) (fun x i y => ?_) DD⟩
          · have e3 : M3.1 x i = M1.1 x i := by
              have u1 := (r4 x i (by
                rcases y with ⟨rfl, rfl⟩ | rfl | rfl | rfl | ⟨rfl, rfl⟩
                · decide
                · exact na_cov (by decide) i
                · exact na_cov (by decide) i
                · exact na_cov (by decide) i
                · decide)).1
              rw [u1, cd_wI_at, if_neg (by omega)]
            rw [cd_wI_at, e3, cd_wI_at]
          · have u1 := (r5 x i (by
                rcases y with ⟨rfl, rfl⟩ | rfl | rfl | rfl | rfl
                · decide
                · exact na_cov (by decide) i
                · exact na_cov (by decide) i
                · exact na_cov (by decide) i
                · exact na_cov (by decide) i)).1
            rw [u1, cd_wI_at, cd_wI_at, z4]
        · rw [if_neg z, if_neg z, if_pos (by decide), show (1 : Int32) = nI 1 from rfl, mF_p o3.2.2.2.2 (by decide) (by decide), bind_p, u2_p, if_pos (show (0 : Int32) = 0 from rfl)]
          exact jk_no o3.2.2.1.1 o3.2.2.2.1.1 hK2
      · have ev : ¬ nI v = 4 := fun y => z4 ((nI_eq (b := 4) (by omega) (by decide)).mp y)
        rw [if_neg ev, if_neg ev]
        refine jk_bind (numK o3 hK2 (lo := 0) (hi := 999) (by decide) (by decide)) (fun M3 N3 y => ?_)
        obtain ⟨s3, w, -, w9, r3, rc, rm, r4, r5⟩ := y
        have e5 : (5 : Int32) + nI v = nI (5 + v) := nI_add 5 v
        rw [put M3 w rc, bind_p, e5, if_pos (by rw [ci_nI (by omega)]; omega), nI_clamp (by omega), rm, cd_lt_p]
        have gM2 : cf_ [(22, none)] M3 (cd_wI M3 22 v (nI w)) := cf_wcI (cf_cov_iff.mpr (Or.inl (by simp))) cf_refl
        have gN2 : cf_ [(62, none)] N3 (cd_wI N3 62 (5 + v) (nI w)) := cf_wcI (cf_cov_iff.mpr (Or.inl (by simp))) cf_refl
        have D3 := DR_f D2 r4 r5 (by decide)
        exact jk_ok ⟨v, s3, _, q, qb, JT_f r3 gM2 gN2 (by decide), DR_put (v := v) (y := w) q w9 (fun z => absurd z z4) D3 (fun x j => by rw [cd_wI_at]) (fun x j => by rw [cd_wI_at])⟩
    · have nb1 : ¬ nI (bn_ (m.testBit v)) = 0 := fun z => qb (bnz.mp z)
      rw [if_neg (fun z => qb (p4.mp z)), if_neg nb1, show f11_must_15 0 3 N = f11_must_15 0 (nI 3) N from rfl, mF_p h8 (by decide) (by decide), rp_]
      exact jk_no h3.1 h4.1 hK
  · rw [if_neg q, if_pos rfl, if_pos (by decide), show f11_must_15 0 1 N = f11_must_15 0 (nI 1) N from rfl, mF_p h8 (by decide) (by decide), rp_]
    exact jk_no h3.1 h4.1 hK
theorem cb_le (m : Nat) : cb_ m ≤ 5 := cnt_le 5
theorem rr_22 : ∀ (r fu gu a s k : Nat) (dl : Nat → Nat) (dn : Nat → Nat → Nat) (dv : Nat → Nat) (m : Nat) (M N : cd_M), a + r = 9 → r + 1 < fu → r + 1 < gu → a = k + cb_ m → JT M N t b E s → DR M N N0 k dl dn dv m → jk_ N0 (f8_readRules_1_L22 fu (nI a) M) (f11_readsRules_15_L0 gu N) (fun M1 N1 => ∃ k' dl' dn' dv' m', 1 ≤ k' ∧ DR M1 N1 N0 k' dl' dn' dv' m') := by
  intro r
  have step : ∀ (fu gu a s k : Nat) (dl : Nat → Nat) (dn : Nat → Nat → Nat) (dv : Nat → Nat) (m : Nat) (M N : cd_M), a ≤ 9 → a = k + cb_ m → JT M N t b E s → DR M N N0 k dl dn dv m → (∀ (s' k' : Nat) (dl' : Nat → Nat) (dn' : Nat → Nat → Nat) (dv' : Nat → Nat) (m' : Nat) (M1 N1 : cd_M), a + 1 = k' + cb_ m' → JT M1 N1 t b E s' → DR M1 N1 N0 k' dl' dn' dv' m' → jk_ N0 (f8_readRules_1_L22 fu (nI (a + 1)) M1) (f11_readsRules_15_L0 gu N1) (fun M1 N1 => ∃ k' dl' dn' dv' m', 1 ≤ k' ∧ DR M1 N1 N0 k' dl' dn' dv' m')) → jk_ N0 (f8_readRules_1_L22 (fu + 1) (nI a) M) (f11_readsRules_15_L0 (gu + 1) N) (fun M1 N1 => ∃ k' dl' dn' dv' m', 1 ≤ k' ∧ DR M1 N1 N0 k' dl' dn' dv' m') := by
    intro fu gu a s k dl dn dv m M N ha hak hJ hD H
    have h0 := hJ
    obtain ⟨h1, h2, h3, h4, h8⟩ := hJ
    have kl := tkk_le (b := b) (E := E) (s := s)
    have hK := hD.2.2.2.2.2.2
    have k4 := hD.1.2.2
    rw [f8_readRules_1_L22, f11_readsRules_15_L0, show (9 : Int32) = nI 9 from rfl, if_neg (nI_nlt ha (by omega))]
    unfold f7_kind_2 f5_cadences_4
    rw [h3.2.2.1, h4.2.2.1, hD.1.1, hD.1.2.1]
    by_cases q : tkk_ b E s = 0
    · rw [if_pos (show nI (tkk_ b E s) = 0 by rw [q]; rfl), if_pos (show nI (tkk_ b E s) = 0 by rw [q]; rfl)]
      unfold f11_readsRules_15_L29
      by_cases z : k = 0
      · have hc : cd_lt (f8_refuse_1 1 M) (cd_u2 fun v5 M4 => if v5 = 0 then (some ((0 : Int32), M4)) else (some (1, M4))) = some (0, (f8_refuse_1 (nI 1) M).2) := by rw [cd_lt_p, ref_p, if_pos rfl]; rfl
        have hm : cd_lt (f11_must_15 0 1 N) (cd_u2 fun v2 M1 => some (v2, M1)) = some (0, cd_wI (cd_wI N 15 8 (nI 1)) 15 9 (N.1 15 4)) := by rw [show f11_must_15 0 1 N = f11_must_15 0 (nI 1) N from rfl, mustF h8 (by decide) (by decide), cd_lt_p, u2_p]
        rw [z, if_neg (by decide), if_pos (by decide), hc, hm]
        exact jk_no (k := 1) h3.1 h4.1 hK
      · rw [if_pos (show (0 : Int32) < nI k from nI_lt (a := 0) (by omega) (by omega)), if_neg (nI_nle (by omega) (by omega)), mustT h8 (by decide), cd_lt_p, u2_p]
        exact jk_ok ⟨k, dl, dn, dv, m, by omega, hD⟩
    · rw [if_neg (nI_ne0 (by omega) (by omega)), if_neg (nI_ne0 (by omega) (by omega)), wc_cadence h1 h3, bind_p]
      unfold f11_lineHere_15
      rw [wm_cadence h2 h4, bind_p]
      have fin : ∀ (o1 o2 : Option (Int32 × cd_M)), jk_ N0 o1 o2 (fun M1 N1 => ∃ s' k' dl' dn' dv' m', a + 1 = k' + cb_ m' ∧ JT M1 N1 t b E s' ∧ DR M1 N1 N0 k' dl' dn' dv' m') → jk_ N0 (o1.bind (cd_u2 fun v M1 => f8_readRules_1_L89 (f8_readRules_1_L22 fu) (nI a) v M1)) ((o2.bind (cd_u2 fun v N1 => f11_lineHere_15_L36 v N1)).bind (cd_u2 fun v6 M5 => if v6 = 0 then (some (0, M5)) else (f11_readsRules_15_L0 gu M5))) (fun M1 N1 => ∃ k' dl' dn' dv' m', 1 ≤ k' ∧ DR M1 N1 N0 k' dl' dn' dv' m') := by
        intro o1 o2 ho
        obtain ⟨M1, N1, ⟨e1, e2, s', k', dl', dn', dv', m', c1, c2, c3⟩ | ⟨e1, e2, c1, c2⟩⟩ := ho
        · rw [e1, e2, bind_p, bind_p, u2_p, u2_p]
          unfold f8_readRules_1_L89 f11_lineHere_15_L36
          rw [if_neg (show ¬ (1 : Int32) = 0 by decide), if_neg (show ¬ (1 : Int32) = 0 by decide)]
          have E1 := endK c2 c3.2.2.2.2.2.2
          obtain ⟨M2, N2, ⟨x1, x2, s2, x3, x4, x5⟩ | ⟨x1, x2, x3, x4⟩⟩ := E1
          · rw [x1, x2, bind_p, bind_p, u2_p, u2_p, if_neg (show ¬ (1 : Int32) = 0 by decide), if_neg (show ¬ (1 : Int32) = 0 by decide), bind_p, u2_p, if_neg (show ¬ (1 : Int32) = 0 by decide), cd_lt_p, nI_1]
            exact H s2 k' dl' dn' dv' m' M2 N2 c1 x3 (DR_f c3 x4 x5 (by decide))
          · rw [x1, x2, bind_p, bind_p, u2_p, u2_p, if_pos rfl, if_pos rfl, bind_p, u2_p, if_pos rfl]
            exact ⟨M2, N2, Or.inr ⟨rfl, rfl, x3, x4⟩⟩
        · rw [e1, e2, bind_p, bind_p, u2_p, u2_p]
          unfold f8_readRules_1_L89 f11_lineHere_15_L36
          rw [if_pos rfl, if_pos rfl, bind_p, u2_p, if_pos rfl]
          exact ⟨M1, N1, Or.inr ⟨rfl, rfl, c1, c2⟩⟩
      by_cases z : wd_ b E s [99, 97, 100, 101, 110, 99, 101] = true
      · rw [if_pos z, if_neg (by decide)]
        refine fin _ _ (jk_mono (cadJ h0 hD) (fun M1 N1 y => ?_))
        obtain ⟨y0, s2, dl', dn', y1, y2⟩ := y
        exact ⟨s2, k + 1, dl', dn', dv, m, by omega, y1, y2⟩
      · obtain ⟨v1, v2⟩ := vtC h0
        rw [if_neg z, if_pos rfl, v1, v2, bind_p, bind_p]
        refine fin _ _ (jk_mono (valJ h0 hD) (fun M1 N1 y => ?_))
        obtain ⟨v, s2, dv', y0, y1, y2, y3⟩ := y
        have := (bits_1 m hD.2.2.2.2.2.1.2.1 v y0).1 y1
        exact ⟨s2, k, dl, dn, dv', m ||| 2 ^ v, by omega, y2, y3⟩
  induction r with
  | zero =>
    intro fu gu a s k dl dn dv m M N ha hfu hgu hak hJ hD
    obtain ⟨fu, rfl⟩ := Nat.exists_eq_succ_of_ne_zero (show fu ≠ 0 by omega)
    obtain ⟨gu, rfl⟩ := Nat.exists_eq_succ_of_ne_zero (show gu ≠ 0 by omega)
    refine step fu gu a s k dl dn dv m M N (by omega) hak hJ hD (fun s' k' dl' dn' dv' m' M1 N1 c1 c2 c3 => ?_)
    have := cb_le m'
    have := c3.1.2.2
    omega
  | succ r ih =>
    intro fu gu a s k dl dn dv m M N ha hfu hgu hak hJ hD
    obtain ⟨fu, rfl⟩ := Nat.exists_eq_succ_of_ne_zero (show fu ≠ 0 by omega)
    obtain ⟨gu, rfl⟩ := Nat.exists_eq_succ_of_ne_zero (show gu ≠ 0 by omega)
    exact step fu gu a s k dl dn dv m M N (by omega) hak hJ hD (fun s' k' dl' dn' dv' m' M1 N1 c1 c2 c3 => ih fu gu (a + 1) s' k' dl' dn' dv' m' M1 N1 (by omega) (by omega) (by omega) c1 c2 c3)
end lvA
