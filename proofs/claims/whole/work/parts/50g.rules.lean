/-! rules: a line read on both sides -/
def KRr (N0 N : cd_M) : Prop := (∀ c, c < 4 → N.1 60 c = N0.1 60 c) ∧ (∀ i, i < 24 → N.1 61 i = N0.1 61 i) ∧ ∀ v, v < 5 → N.1 62 v = N0.1 62 v
theorem KRr_f {N0 N N1 : cd_M} {ws : List (Nat × Option Nat)} (h : KRr N0 N) (hf : cf_ ws N N1) (k : (na_ ws 60 && na_ ws 61 && na_ ws 62) = true) : KRr N0 N1 := by
  simp only [Bool.and_eq_true] at k
  exact ⟨fun c hc => (hf _ _ (na_cov k.1.1 c)).1.trans (h.1 c hc), fun i hi => (hf _ _ (na_cov k.1.2 i)).1.trans (h.2.1 i hi), fun v hv => (hf _ _ (na_cov k.2 v)).1.trans (h.2.2 v hv)⟩
theorem KRr_w {N0 N : cd_M} {x j : Nat} {v : Int32} (h : KRr N0 N) (hx : (x = 60 → 4 ≤ j) ∧ (x = 61 → 24 ≤ j) ∧ (x = 62 → 5 ≤ j)) : KRr N0 (cd_wI N x j v) := ⟨fun c hc => by rw [cd_wI_at, if_neg (by omega)]; exact h.1 c hc, fun i hi => by rw [cd_wI_at, if_neg (by omega)]; exact h.2.1 i hi, fun u hu => by rw [cd_wI_at, if_neg (by omega)]; exact h.2.2 u hu⟩
def jk_ (N0 : cd_M) (o1 o2 : Option (Int32 × cd_M)) (Q : cd_M → cd_M → Prop) : Prop := ∃ M1 N1, (o1 = some (1, M1) ∧ o2 = some (1, N1) ∧ Q M1 N1) ∨ (o1 = some (0, M1) ∧ o2 = some (0, N1) ∧ FRt M1 N1 ∧ KRr N0 N1)
section jkA
variable {N0 : cd_M}
theorem jk_of {o1 o2 : Option (Int32 × cd_M)} {Q : cd_M → cd_M → Prop} (h : jt_ o1 o2 Q) (k : ∀ v N1, o2 = some (v, N1) → KRr N0 N1) : jk_ N0 o1 o2 Q := by
  obtain ⟨M1, N1, c | ⟨a, b, c⟩⟩ := h
  · exact ⟨M1, N1, Or.inl c⟩
  · exact ⟨M1, N1, Or.inr ⟨a, b, c, k _ _ b⟩⟩
theorem jk_mono {o1 o2 : Option (Int32 × cd_M)} {Q R : cd_M → cd_M → Prop} (h : jk_ N0 o1 o2 Q) (k : ∀ M1 N1, Q M1 N1 → R M1 N1) : jk_ N0 o1 o2 R := by
  obtain ⟨M1, N1, ⟨a, b, c⟩ | c⟩ := h
  · exact ⟨M1, N1, Or.inl ⟨a, b, k _ _ c⟩⟩
  · exact ⟨M1, N1, Or.inr c⟩
theorem jk_bind {o1 o2 : Option (Int32 × cd_M)} {K1 K2 : cd_M → Option (Int32 × cd_M)} {Q R : cd_M → cd_M → Prop} (h : jk_ N0 o1 o2 Q) (k : ∀ M1 N1, Q M1 N1 → jk_ N0 (K1 M1) (K2 N1) R) : jk_ N0 (o1.bind (cd_u2 fun v M1 => if v = 0 then some (0, M1) else K1 M1)) (o2.bind (cd_u2 fun v N1 => if v = 0 then some (0, N1) else K2 N1)) R := by
  obtain ⟨M1, N1, ⟨a, b, c⟩ | ⟨a, b, c⟩⟩ := h
  · rw [a, b, bind_p, bind_p, u2_p, u2_p, if_neg (show ¬ (1 : Int32) = 0 by decide), if_neg (show ¬ (1 : Int32) = 0 by decide)]
    exact k M1 N1 c
  · rw [a, b, bind_p, bind_p, u2_p, u2_p, if_pos rfl, if_pos rfl]
    exact ⟨M1, N1, Or.inr ⟨rfl, rfl, c⟩⟩
theorem jk_ok {M1 N1 : cd_M} {Q : cd_M → cd_M → Prop} (h : Q M1 N1) : jk_ N0 (some (1, M1)) (some (1, N1)) Q := ⟨M1, N1, Or.inl ⟨rfl, rfl, h⟩⟩
theorem jk_no {M N : cd_M} {s k : Nat} {Q : cd_M → cd_M → Prop} (h4 : M.1 2 4 = nI s) (m4 : N.1 15 4 = nI s) (hK : KRr N0 N) : jk_ N0 (some (0, (f8_refuse_1 (nI k) M).2)) (some (0, cd_wI (cd_wI N 15 8 (nI k)) 15 9 (N.1 15 4))) Q := ⟨_, _, Or.inr ⟨rfl, rfl, refJ h4 m4, KRr_w (KRr_w hK (by omega)) (by omega)⟩⟩
end jkA
/-! bits of what is told -/
def cb_ (m : Nat) : Nat := cnt_ (fun v => m.testBit v) 5
theorem bits_1 : ∀ m, m < 32 → ∀ v, v < 5 → (m.testBit v = false → cb_ (m ||| 2 ^ v) = cb_ m + 1) ∧ (m ||| 2 ^ v) < 32 ∧ (∀ u, u < 5 → (m ||| 2 ^ v).testBit u = (decide (u = v) || m.testBit u)) ∧ (nI m &&& ((1 : Int32) <<< (nI v &&& 31)) = 0 ↔ m.testBit v = false) ∧ nI m ||| ((1 : Int32) <<< (nI v &&& 31)) = nI (m ||| 2 ^ v) := by decide +kernel
/-- the drafts of the rules -/
def DR (M N N0 : cd_M) (k : Nat) (dl : Nat → Nat) (dn : Nat → Nat → Nat) (dv : Nat → Nat) (m : Nat) : Prop := (M.1 4 3 = nI k ∧ N.1 15 18 = nI k ∧ k ≤ 4) ∧ (∀ c, c < k → M.1 21 c = nI (dl c) ∧ N.1 60 (4 + c) = nI (dl c) ∧ 1 ≤ dl c ∧ dl c ≤ 6) ∧ (∀ c i, c < k → i < dl c → M.1 20 (6 * c + i) = nI (dn c i) ∧ N.1 61 (24 + (6 * c + i)) = nI (dn c i) ∧ 2 ≤ dn c i ∧ dn c i ≤ 5) ∧ (∀ v, v < 5 → M.1 22 v = nI (dv v) ∧ N.1 62 (5 + v) = nI (dv v) ∧ dv v ≤ 999) ∧ dv 4 ≤ 2 ∧ (M.1 1 5 = nI m ∧ m < 32 ∧ ∀ v, v < 5 → N.1 63 v = nI (bn_ (m.testBit v))) ∧ KRr N0 N
theorem DR_c {M N M1 N1 N0 : cd_M} {k : Nat} {dl : Nat → Nat} {dn : Nat → Nat → Nat} {dv : Nat → Nat} {m : Nat} (e : ∀ x i, ((x = 4 ∧ i = 3) ∨ x = 20 ∨ x = 21 ∨ x = 22 ∨ (x = 1 ∧ i = 5)) → M1.1 x i = M.1 x i) (g : ∀ x i, ((x = 15 ∧ i = 18) ∨ x = 60 ∨ x = 61 ∨ x = 62 ∨ x = 63) → N1.1 x i = N.1 x i) (h : DR M N N0 k dl dn dv m) : DR M1 N1 N0 k dl dn dv m := by
  obtain ⟨⟨a1, a2, a3⟩, h2, h3, h4, h5, ⟨b1, b2, b3⟩, h7⟩ := h
  refine ⟨⟨(e _ _ (by omega)).trans a1, (g _ _ (by omega)).trans a2, a3⟩, fun c hc => ?_, fun c i hc hi => ?_, fun v hv => ?_, h5, ⟨(e _ _ (by omega)).trans b1, b2, fun v hv => (g _ _ (by omega)).trans (b3 v hv)⟩, fun c hc => (g _ _ (by omega)).trans (h7.1 c hc), fun i hi => (g _ _ (by omega)).trans (h7.2.1 i hi), fun v hv => (g _ _ (by omega)).trans (h7.2.2 v hv)⟩
  · rw [e _ _ (by omega), g _ _ (by omega)]; exact h2 c hc
  · rw [e _ _ (by omega), g _ _ (by omega)]; exact h3 c i hc hi
  · rw [e _ _ (by omega), g _ _ (by omega)]; exact h4 v hv
theorem DR_f {M N M1 N1 N0 : cd_M} {k : Nat} {dl : Nat → Nat} {dn : Nat → Nat → Nat} {dv : Nat → Nat} {m : Nat} {w1 w2 : List (Nat × Option Nat)} (h : DR M N N0 k dl dn dv m) (hf : cf_ w1 M M1) (hg : cf_ w2 N N1) (q : (!cf_cov w1 4 3 && na_ w1 20 && na_ w1 21 && na_ w1 22 && !cf_cov w1 1 5 && !cf_cov w2 15 18 && na_ w2 60 && na_ w2 61 && na_ w2 62 && na_ w2 63) = true) : DR M1 N1 N0 k dl dn dv m := by
  simp only [Bool.and_eq_true] at q
  obtain ⟨⟨⟨⟨⟨⟨⟨⟨⟨q1, q2⟩, q3⟩, q4⟩, q5⟩, q6⟩, q7⟩, q8⟩, q9⟩, q10⟩ := q
  refine DR_c (fun x i z => (hf x i ?_).1) (fun x i z => (hg x i ?_).1) h
  · rcases z with ⟨rfl, rfl⟩ | rfl | rfl | rfl | ⟨rfl, rfl⟩
    · exact nf_cov q1
    · exact na_cov q2 i
    · exact na_cov q3 i
    · exact na_cov q4 i
    · exact nf_cov q5
  · rcases z with ⟨rfl, rfl⟩ | rfl | rfl | rfl | rfl
    · exact nf_cov q6
    · exact na_cov q7 i
    · exact na_cov q8 i
    · exact na_cov q9 i
    · exact na_cov q10 i
section nwA
variable {M N N0 : cd_M} {t : Nat} {b : Nat → Nat} {E s : Nat}
theorem numK (h : JT M N t b E s) (hK : KRr N0 N) {lo hi : Nat} (hlo : lo < 10000) (hhi : hi < 10000) : jk_ N0 (f8_takeNumber_1 (nI lo) (nI hi) M) (f11_takesNumber_15 (nI lo) (nI hi) N) (fun M1 N1 => ∃ s1 v, lo ≤ v ∧ v ≤ hi ∧ JT M1 N1 t b E s1 ∧ M1.1 1 4 = nI v ∧ N1.1 15 10 = nI v ∧ cf_ cw0 M M1 ∧ cf_ mw0 N N1) := jk_of (numJ h hlo hhi) (fun v N1 e => KRr_f hK (w_f11_takesNumber_15 (ws := f11_takesNumber_15_w) (by decide) cf_refl _ e) (by decide))
theorem endK (h : JT M N t b E s) (hK : KRr N0 N) : jk_ N0 (f8_takeSemicolon_1 M) (f11_takesEnd_15 N) (fun M1 N1 => ∃ s1, JT M1 N1 t b E s1 ∧ cf_ cw0 M M1 ∧ cf_ mw0 N N1) := jk_of (endJ h) (fun v N1 e => KRr_f hK (w_f11_takesEnd_15 (ws := f11_takesEnd_15_w) (by decide) cf_refl _ e) (by decide))
theorem nwA_ (h : JT M N t b E s) (q : tkk_ b E s = 2) {lo hi : Nat} (hlo : lo < 10000) (hhi : hi < 10000) (q1 : lo ≤ tkn_ b E s ∧ tkn_ b E s ≤ hi) : f8_isNumberWithin_1 (nI lo) (nI hi) M = (1, M) := by
  have nl := tkn_le (b := b) (E := E) (s := s)
  unfold f8_isNumberWithin_1 f7_kind_2 f7_number_2
  rw [h.2.2.1.2.2.1, show (2 : Int32) = nI 2 from rfl, if_pos (show nI (tkk_ b E s) = nI 2 by rw [q]), h.2.2.1.2.2.2.1 q, if_neg (nI_nlt q1.1 (by omega)), if_pos (nI_le q1.2 (by omega))]
theorem nwB_ (h : JT M N t b E s) (q : tkk_ b E s = 2) {lo hi : Nat} (hlo : lo < 10000) (hhi : hi < 10000) (q1 : ¬ (lo ≤ tkn_ b E s ∧ tkn_ b E s ≤ hi)) : f8_isNumberWithin_1 (nI lo) (nI hi) M = (0, (f8_refuse_1 (nI 2) M).2) := by
  have nl := tkn_le (b := b) (E := E) (s := s)
  unfold f8_isNumberWithin_1 f8_isNumberWithin_1_L39 f7_kind_2 f7_number_2
  rw [h.2.2.1.2.2.1, show (2 : Int32) = nI 2 from rfl, if_pos (show nI (tkk_ b E s) = nI 2 by rw [q]), h.2.2.1.2.2.2.1 q]
  by_cases z : tkn_ b E s < lo
  · rw [if_pos (nI_lt z (by omega))]; rfl
  · rw [if_neg (nI_nlt (by omega) (by omega)), if_neg (nI_ge (by omega) (by omega))]; rfl
theorem nwC_ (h : JT M N t b E s) (q : ¬ tkk_ b E s = 2) {lo hi : Nat} : f8_isNumberWithin_1 (nI lo) (nI hi) M = (0, (f8_refuse_1 (nI 1) M).2) := by
  have kl := tkk_le (b := b) (E := E) (s := s)
  unfold f8_isNumberWithin_1 f7_kind_2 f7_number_2
  rw [h.2.2.1.2.2.1, show (2 : Int32) = nI 2 from rfl, if_neg (fun z => q ((nI_eq (by omega) (by decide)).mp z))]
  rfl
end nwA
/-- a cadence in the reading: its first i numbers -/
def CPr (M N N0 : cd_M) (k i : Nat) (dl : Nat → Nat) (dn : Nat → Nat → Nat) (dv : Nat → Nat) (m : Nat) : Prop := (M.1 4 3 = nI (k + 1) ∧ N.1 15 18 = nI k ∧ k < 4) ∧ (M.1 21 k = nI i ∧ N.1 60 (4 + k) = nI i ∧ i ≤ 6) ∧ (∀ c, c < k → M.1 21 c = nI (dl c) ∧ N.1 60 (4 + c) = nI (dl c) ∧ 1 ≤ dl c ∧ dl c ≤ 6) ∧ (∀ c j, (c < k ∧ j < dl c) ∨ (c = k ∧ j < i) → M.1 20 (6 * c + j) = nI (dn c j) ∧ N.1 61 (24 + (6 * c + j)) = nI (dn c j) ∧ 2 ≤ dn c j ∧ dn c j ≤ 5) ∧ (∀ v, v < 5 → M.1 22 v = nI (dv v) ∧ N.1 62 (5 + v) = nI (dv v) ∧ dv v ≤ 999) ∧ dv 4 ≤ 2 ∧ (M.1 1 5 = nI m ∧ m < 32 ∧ ∀ v, v < 5 → N.1 63 v = nI (bn_ (m.testBit v))) ∧ KRr N0 N
section cpA
variable {N0 : cd_M} {t : Nat} {b : Nat → Nat} {E : Nat}
theorem addN {M : cd_M} {k i v : Nat} (hk : k < 4) (hi : i < 6) (h3 : M.1 4 3 = nI (k + 1)) (h21 : M.1 21 k = nI i) : f5_addNumber_4 (nI v) M = some (cd_wI (cd_wI M 20 (6 * k + i) (nI v)) 21 k (nI (i + 1))) := by
  have cin : cd_in (nI k) 4 = true := by rw [ci_nI (by omega)]; omega
  have e6 : nI k * 6 + nI i = nI (6 * k + i) := by rw [show (6 : Int32) = nI 6 from rfl, pk_mul, nI_add, Nat.mul_comm]
  unfold f5_addNumber_4
  rw [h3, nI_pred, cd_lt_p, if_neg (nI_pos (by omega)), if_pos cin, nI_clamp (by omega), h21, show (6 : Int32) = nI 6 from rfl, if_neg (nI_ge hi (by omega)), if_pos cin]
  rw [show nI k * nI 6 + nI i = nI (6 * k + i) from e6, if_pos (by rw [ci_nI (by omega)]; omega), nI_clamp (by omega), cd_lt_p, if_pos cin, if_pos cin]
  have e1 : (cd_wI M 20 (6 * k + i) (nI v)).1 21 k + 1 = nI (i + 1) := by rw [cd_wI_at, if_neg (by omega), h21, nI_1]
  rw [cd_lt_p, e1]
/-- one more number on both sides -/
theorem CPr_add {M N : cd_M} {k i : Nat} {dl : Nat → Nat} {dn : Nat → Nat → Nat} {dv : Nat → Nat} {m v : Nat} (h : CPr M N N0 k i dl dn dv m) (hi : i < 6) (hv : 2 ≤ v ∧ v ≤ 5) {M1 N1 : cd_M} (eM : ∀ x j, M1.1 x j = if x = 21 ∧ j = k then nI (i + 1) else if x = 20 ∧ j = 6 * k + i then nI v else M.1 x j) (eN : ∀ x j, N1.1 x j = if x = 60 ∧ j = 4 + k then nI (i + 1) else if x = 61 ∧ j = 24 + (6 * k + i) then nI v else N.1 x j) : CPr M1 N1 N0 k (i + 1) dl (fun c j => if c = k ∧ j = i then v else dn c j) dv m := by
  obtain ⟨⟨a1, a2, a3⟩, ⟨b1, b2, b3⟩, h3, h4, h5, h6, ⟨c1, c2, c3⟩, h8⟩ := h
  refine ⟨⟨?_, ?_, a3⟩, ⟨?_, ?_, by omega⟩, fun c hc => ⟨?_, ?_, (h3 c hc).2.2⟩, fun c j hcj => ?_, fun u hu => ?_, h6, ⟨?_, c2, fun u hu => ?_⟩, fun c hc => ?_, fun j hj => ?_, fun u hu => ?_⟩
  · rw [eM, if_neg (by omega), if_neg (by omega)]; exact a1
  · rw [eN, if_neg (by omega), if_neg (by omega)]; exact a2
  · rw [eM, if_pos ⟨rfl, rfl⟩]
  · rw [eN, if_pos ⟨rfl, rfl⟩]
  · rw [eM, if_neg (by omega), if_neg (by omega)]; exact (h3 c hc).1
  · rw [eN, if_neg (by omega), if_neg (by omega)]; exact (h3 c hc).2.1
  · have e20 : M1.1 20 (6 * c + j) = if 6 * c + j = 6 * k + i then nI v else M.1 20 (6 * c + j) := by
      rw [eM, if_neg (by omega)]
      by_cases y : 6 * c + j = 6 * k + i
      · rw [if_pos ⟨rfl, y⟩, if_pos y]
      · rw [if_neg (fun q => y q.2), if_neg y]
    have e61 : N1.1 61 (24 + (6 * c + j)) = if 6 * c + j = 6 * k + i then nI v else N.1 61 (24 + (6 * c + j)) := by
      rw [eN, if_neg (by omega)]
      by_cases y : 6 * c + j = 6 * k + i
      · rw [if_pos ⟨rfl, by omega⟩, if_pos y]
      · rw [if_neg (fun q => y (by omega)), if_neg y]
    rw [e20, e61]
    dsimp only
    by_cases z : c = k ∧ j = i
    · rw [if_pos z, if_pos (by rw [z.1, z.2]), if_pos (by rw [z.1, z.2])]
      exact ⟨rfl, rfl, hv⟩
    · have dj : c < k → dl c ≤ 6 := fun q => (h3 c q).2.2.2
      have ne : ¬ (6 * c + j = 6 * k + i) := by
        rcases hcj with ⟨q1, q2⟩ | ⟨q1, q2⟩
        · have := dj q1; omega
        · omega
      rw [if_neg z, if_neg ne, if_neg ne]
      exact h4 c j (by omega)
  · rw [eM, if_neg (by omega), if_neg (by omega), eN, if_neg (by omega), if_neg (by omega)]; exact h5 u hu
  · rw [eM, if_neg (by omega), if_neg (by omega)]; exact c1
  · rw [eN, if_neg (by omega), if_neg (by omega)]; exact c3 u hu
  · rw [eN, if_neg (by omega), if_neg (by omega)]; exact h8.1 c hc
  · rw [eN, if_neg (by omega), if_neg (by omega)]; exact h8.2.1 j hj
  · rw [eN, if_neg (by omega), if_neg (by omega)]; exact h8.2.2 u hu
theorem CPr_f {M N M1 N1 : cd_M} {k i : Nat} {dl : Nat → Nat} {dn : Nat → Nat → Nat} {dv : Nat → Nat} {m : Nat} {w1 w2 : List (Nat × Option Nat)} (h : CPr M N N0 k i dl dn dv m) (hf : cf_ w1 M M1) (hg : cf_ w2 N N1) (q : (!cf_cov w1 4 3 && na_ w1 20 && na_ w1 21 && na_ w1 22 && !cf_cov w1 1 5 && !cf_cov w2 15 18 && na_ w2 60 && na_ w2 61 && na_ w2 62 && na_ w2 63) = true) : CPr M1 N1 N0 k i dl dn dv m := by
  simp only [Bool.and_eq_true] at q
  obtain ⟨⟨⟨⟨⟨⟨⟨⟨⟨q1, q2⟩, q3⟩, q4⟩, q5⟩, q6⟩, q7⟩, q8⟩, q9⟩, q10⟩ := q
  obtain ⟨⟨a1, a2, a3⟩, ⟨b1, b2, b3⟩, h3, h4, h5, h6, ⟨c1, c2, c3⟩, h8⟩ := h
  refine ⟨⟨(hf _ _ (nf_cov q1)).1.trans a1, (hg _ _ (nf_cov q6)).1.trans a2, a3⟩, ⟨(hf _ _ (na_cov q3 _)).1.trans b1, (hg _ _ (na_cov q7 _)).1.trans b2, b3⟩, fun c hc => ?_, fun c j hcj => ?_, fun u hu => ?_, h6, ⟨(hf _ _ (nf_cov q5)).1.trans c1, c2, fun u hu => (hg _ _ (na_cov q10 _)).1.trans (c3 u hu)⟩, fun c hc => (hg _ _ (na_cov q7 _)).1.trans (h8.1 c hc), fun j hj => (hg _ _ (na_cov q8 _)).1.trans (h8.2.1 j hj), fun u hu => (hg _ _ (na_cov q9 _)).1.trans (h8.2.2 u hu)⟩
  · rw [(hf _ _ (na_cov q3 _)).1, (hg _ _ (na_cov q7 _)).1]; exact h3 c hc
  · rw [(hf _ _ (na_cov q2 _)).1, (hg _ _ (na_cov q8 _)).1]; exact h4 c j hcj
  · rw [(hf _ _ (na_cov q4 _)).1, (hg _ _ (na_cov q9 _)).1]; exact h5 u hu
theorem CPr_c {M N M1 N1 : cd_M} {k i : Nat} {dl : Nat → Nat} {dn : Nat → Nat → Nat} {dv : Nat → Nat} {m : Nat} (e : ∀ x j, ((x = 4 ∧ j = 3) ∨ x = 20 ∨ x = 21 ∨ x = 22 ∨ (x = 1 ∧ j = 5)) → M1.1 x j = M.1 x j) (g : ∀ x j, ((x = 15 ∧ j = 18) ∨ x = 60 ∨ x = 61 ∨ x = 62 ∨ x = 63) → N1.1 x j = N.1 x j) (h : CPr M N N0 k i dl dn dv m) : CPr M1 N1 N0 k i dl dn dv m := by
  obtain ⟨⟨a1, a2, a3⟩, ⟨b1, b2, b3⟩, h3, h4, h5, h6, ⟨c1, c2, c3⟩, h8⟩ := h
  refine ⟨⟨(e _ _ (by omega)).trans a1, (g _ _ (by omega)).trans a2, a3⟩, ⟨(e _ _ (by omega)).trans b1, (g _ _ (by omega)).trans b2, b3⟩, fun c hc => ?_, fun c j hcj => ?_, fun u hu => ?_, h6, ⟨(e _ _ (by omega)).trans c1, c2, fun u hu => (g _ _ (by omega)).trans (c3 u hu)⟩, fun c hc => (g _ _ (by omega)).trans (h8.1 c hc), fun j hj => (g _ _ (by omega)).trans (h8.2.1 j hj), fun u hu => (g _ _ (by omega)).trans (h8.2.2 u hu)⟩
  · rw [e _ _ (by omega), g _ _ (by omega)]; exact h3 c hc
  · rw [e _ _ (by omega), g _ _ (by omega)]; exact h4 c j hcj
  · rw [e _ _ (by omega), g _ _ (by omega)]; exact h5 u hu
theorem cl_56 {k i s : Nat} {dl : Nat → Nat} {dn : Nat → Nat → Nat} {dv : Nat → Nat} {m : Nat} {M N : cd_M} {r33 : Int32 → cd_M → Option (Int32 × cd_M)} {r72 : Int32 → cd_M → Option (Int32 × cd_M)} {Q : cd_M → cd_M → Prop} (h : JT M N t b E s) (hC : CPr M N N0 k i dl dn dv m)
    (H : i < 6 → ∀ (M1 N1 : cd_M) (s1 : Nat) (dn' : Nat → Nat → Nat), JT M1 N1 t b E s1 → CPr M1 N1 N0 k (i + 1) dl dn' dv m → jk_ N0 (r33 (nI (i + 1)) M1) (r72 (nI (4 + k)) N1) Q) : jk_ N0 (f8_readCadence_1_L56 r33 (nI i) M) (if N.1 15 6 = 2 then (f11_cadenceHere_15_L94 r72 (nI (4 + k)) 1 N) else (f11_cadenceHere_15_L94 r72 (nI (4 + k)) 0 N)) Q := by
  have h0 := h
  have hC0 := hC
  obtain ⟨h1, h2, h3, h4, h8⟩ := h
  obtain ⟨⟨a1, a2, a3⟩, ⟨b1, b2, b3⟩, -, -, -, -, -, hK⟩ := hC
  have kl := tkk_le (b := b) (E := E) (s := s)
  have nl := tkn_le (b := b) (E := E) (s := s)
  unfold f8_readCadence_1_L56
  rw [h4.2.2.1, show (2 : Int32) = nI 2 from rfl]
  by_cases q : tkk_ b E s = 2
  · have e7 := h4.2.2.2.1 q
    have e6 := h3.2.2.2.1 q
    rw [if_pos (show nI (tkk_ b E s) = nI 2 by rw [q])]
    unfold f11_cadenceHere_15_L94
    rw [mT_p h8 (by decide), e7]
    have wi := wiN (x := tkn_ b E s) (lo := 2) (hi := 5) (l := 2) (u := 5) rfl rfl (by omega) (by decide) (by decide) N
    by_cases q1 : 2 ≤ tkn_ b E s ∧ tkn_ b E s ≤ 5
    · have ec : f8_isNumberWithin_1 (nI 2) 5 M = (1, M) := nwA_ (lo := 2) (hi := 5) h0 q (by decide) (by decide) q1
      rw [mT_p h8 (fun z => wi.mp z q1), ec, cd_lt_p, u2_p, if_neg (show ¬ (1 : Int32) = 0 by decide), if_pos (show cd_in (nI (4 + k)) 8 = true by rw [ci_nI (by omega)]; omega), nI_clamp (by omega), b2, show (6 : Int32) = nI 6 from rfl]
      unfold f11_cadenceHere_15_L140 f7_number_2
      by_cases q2 : i < 6
      · rw [if_pos (nI_lt q2 (by omega)), if_neg (nI_ge q2 (by omega)), mT_p h8 (by decide), e6, addN a3 q2 a1 b1, bind_p, if_pos (show cd_in (nI (4 + k)) 8 = true by rw [ci_nI (by omega)]; omega), nI_clamp (by omega), b2]
        have e24 : nI 6 * nI (4 + k) + nI i = nI (24 + (6 * k + i)) := by rw [pk_mul, nI_add]; congr 1; omega
        rw [show (6 : Int32) * nI (4 + k) + nI i = nI (24 + (6 * k + i)) from e24, if_pos (by rw [ci_nI (by omega)]; omega), nI_clamp (by omega), e7, cd_lt_p, if_pos (show cd_in (nI (4 + k)) 8 = true by rw [ci_nI (by omega)]; omega), if_pos (show cd_in (nI (4 + k)) 8 = true by rw [ci_nI (by omega)]; omega), cd_lt_p]
        have e60 : (cd_wI N 61 (24 + (6 * k + i)) (nI (tkn_ b E s))).1 60 (4 + k) + 1 = nI (i + 1) := by rw [cd_wI_at, if_neg (by omega), b2, nI_1]
        rw [e60]
        have fM : cf_ [(20, none), (21, none)] M (cd_wI (cd_wI M 20 (6 * k + i) (nI (tkn_ b E s))) 21 k (nI (i + 1))) := cf_wcI (cf_cov_iff.mpr (Or.inl (by simp))) (cf_wcI (cf_cov_iff.mpr (Or.inl (by simp))) cf_refl)
        have fN : cf_ [(60, none), (61, none)] N (cd_wI (cd_wI N 61 (24 + (6 * k + i)) (nI (tkn_ b E s))) 60 (4 + k) (nI (i + 1))) := cf_wcI (cf_cov_iff.mpr (Or.inl (by simp))) (cf_wcI (cf_cov_iff.mpr (Or.inl (by simp))) cf_refl)
        have C1 := CPr_add hC0 q2 q1 (M1 := cd_wI (cd_wI M 20 (6 * k + i) (nI (tkn_ b E s))) 21 k (nI (i + 1))) (N1 := cd_wI (cd_wI N 61 (24 + (6 * k + i)) (nI (tkn_ b E s))) 60 (4 + k) (nI (i + 1))) (fun x j => by rw [cd_wI_at, cd_wI_at]) (fun x j => by rw [cd_wI_at, cd_wI_at])
        obtain ⟨M1, N1, s1, o1, o2, o3, o4, o5⟩ := advJ' (JT_f h0 fM fN (by decide))
        rw [o1, o2, bind_p, bind_p, cd_lt_p, nI_1]
        exact H q2 M1 N1 s1 _ o3 (CPr_f C1 o4 o5 (by decide))
      · rw [if_neg (nI_nlt (by omega) (by omega)), if_pos (nI_le (by omega) (by omega)), show (4 : Int32) = nI 4 from rfl, mF_p h8 (by decide) (by decide), rp_]
        exact jk_no h3.1 h4.1 hK
    · have ec : f8_isNumberWithin_1 (nI 2) 5 M = (0, (f8_refuse_1 (nI 2) M).2) := nwB_ (lo := 2) (hi := 5) h0 q (by decide) (by decide) q1
      rw [wi.mpr q1, show f11_must_15 0 2 N = f11_must_15 0 (nI 2) N from rfl, mF_p h8 (by decide) (by decide), ec, cd_lt_p, u2_p, if_pos (show (0 : Int32) = 0 from rfl)]
      exact jk_no h3.1 h4.1 hK
  · have ec : f8_isNumberWithin_1 (nI 2) 5 M = (0, (f8_refuse_1 (nI 1) M).2) := nwC_ (lo := 2) (hi := 5) h0 q
    rw [if_neg (fun z => q ((nI_eq (by omega) (by decide)).mp z))]
    unfold f11_cadenceHere_15_L94
    rw [show f11_must_15 0 1 N = f11_must_15 0 (nI 1) N from rfl, mF_p h8 (by decide) (by decide), ec, cd_lt_p, u2_p, if_pos (show (0 : Int32) = 0 from rfl)]
    exact jk_no h3.1 h4.1 hK
theorem cl_33 {k : Nat} {dl : Nat → Nat} {dv : Nat → Nat} {m : Nat} : ∀ (r fu gu i s : Nat) (dn : Nat → Nat → Nat) (M N : cd_M), i + r = 6 → r + 1 < fu → r + 1 < gu → 1 ≤ i → JT M N t b E s → CPr M N N0 k i dl dn dv m → jk_ N0 (f8_readCadence_1_L33 fu (nI i) M) (f11_cadenceHere_15_L72 gu (nI (4 + k)) N) (fun M1 N1 => ∃ s2 dl' dn', JT M1 N1 t b E s2 ∧ DR M1 N1 N0 (k + 1) dl' dn' dv m) := by
  intro r
  have step : ∀ (fu gu i s : Nat) (dn : Nat → Nat → Nat) (M N : cd_M), 1 ≤ i → i ≤ 6 → JT M N t b E s → CPr M N N0 k i dl dn dv m → (i < 6 → ∀ (M1 N1 : cd_M) (s1 : Nat) (dn' : Nat → Nat → Nat), JT M1 N1 t b E s1 → CPr M1 N1 N0 k (i + 1) dl dn' dv m → jk_ N0 (f8_readCadence_1_L33 fu (nI (i + 1)) M1) (f11_cadenceHere_15_L72 gu (nI (4 + k)) N1) (fun M1 N1 => ∃ s2 dl' dn', JT M1 N1 t b E s2 ∧ DR M1 N1 N0 (k + 1) dl' dn' dv m)) → jk_ N0 (f8_readCadence_1_L33 (fu + 1) (nI i) M) (f11_cadenceHere_15_L72 (gu + 1) (nI (4 + k)) N) (fun M1 N1 => ∃ s2 dl' dn', JT M1 N1 t b E s2 ∧ DR M1 N1 N0 (k + 1) dl' dn' dv m) := by
    intro fu gu i s dn M N h1 h6 hJ hC H
    have kl := tkk_le (b := b) (E := E) (s := s)
    have K := cl_56 (r33 := f8_readCadence_1_L33 fu) (r72 := f11_cadenceHere_15_L72 gu) hJ hC H
    rw [f8_readCadence_1_L33, f11_cadenceHere_15_L72, show (6 : Int32) = nI 6 from rfl, if_neg (nI_nlt h6 (by omega)), if_neg (nI_nle (by omega) (by omega))]
    unfold f7_kind_2
    rw [hJ.2.2.1.2.2.1, show (3 : Int32) = nI 3 from rfl]
    by_cases q : tkk_ b E s = 3
    · have e6 : N.1 15 6 = nI 3 := hJ.2.2.2.1.2.2.1.trans (by rw [q])
      rw [if_pos (show nI (tkk_ b E s) = nI 3 by rw [q]), if_pos e6, cd_lt_p]
      obtain ⟨⟨a1, a2, a3⟩, ⟨b1, b2, b3⟩, h3, h4, h5, h6', ⟨c1, c2, c3⟩, h8⟩ := hC
      rw [a2, nI_1]
      have g2 : cf_ [(15, some 18)] N (cd_wI N 15 18 (nI (k + 1))) := cf_wcI (by decide) cf_refl
      have g : ∀ x j, x ≠ 15 → (cd_wI N 15 18 (nI (k + 1))).1 x j = N.1 x j := fun x j z => by rw [cd_wI_at, if_neg (fun y => z y.1)]
      refine jk_ok ⟨s, (fun c => if c = k then i else dl c), dn, JT_f hJ (w1 := []) cf_refl g2 (by decide), ⟨a1, by rw [cd_wI_at, if_pos ⟨rfl, rfl⟩], by omega⟩, fun c hc => ?_, fun c j hc hj => ?_, fun v hv => ?_, h6', ⟨c1, c2, fun v hv => by rw [g _ _ (by omega)]; exact c3 v hv⟩, fun c hc => by rw [g _ _ (by omega)]; exact h8.1 c hc, fun j hj => by rw [g _ _ (by omega)]; exact h8.2.1 j hj, fun v hv => by rw [g _ _ (by omega)]; exact h8.2.2 v hv⟩
      · dsimp only
        rw [g _ _ (by omega)]
        by_cases z : c = k
        · rw [if_pos z, z]; exact ⟨b1, b2, h1, h6⟩
        · rw [if_neg z]; exact h3 c (by omega)
      · dsimp only at hj
        rw [g _ _ (by omega)]
        by_cases z : c = k
        · rw [if_pos z] at hj; exact h4 c j (Or.inr ⟨z, hj⟩)
        · rw [if_neg z] at hj; exact h4 c j (Or.inl ⟨by omega, hj⟩)
      · rw [g _ _ (by omega)]; exact h5 v hv
    · have e6 : ¬ N.1 15 6 = nI 3 := fun z => q ((nI_eq (by omega) (by decide)).mp (hJ.2.2.2.1.2.2.1.symm.trans z))
      rw [if_neg (fun z => q ((nI_eq (by omega) (by decide)).mp z)), if_neg e6]
      exact K
  induction r with
  | zero =>
    intro fu gu i s dn M N hi hfu hgu h1 hJ hC
    obtain ⟨fu, rfl⟩ := Nat.exists_eq_succ_of_ne_zero (show fu ≠ 0 by omega)
    obtain ⟨gu, rfl⟩ := Nat.exists_eq_succ_of_ne_zero (show gu ≠ 0 by omega)
    exact step fu gu i s dn M N h1 (by omega) hJ hC (fun z => by omega)
  | succ r ih =>
    intro fu gu i s dn M N hi hfu hgu h1 hJ hC
    obtain ⟨fu, rfl⟩ := Nat.exists_eq_succ_of_ne_zero (show fu ≠ 0 by omega)
    obtain ⟨gu, rfl⟩ := Nat.exists_eq_succ_of_ne_zero (show gu ≠ 0 by omega)
    exact step fu gu i s dn M N h1 (by omega) hJ hC (fun _ M1 N1 s1 dn' j1 c1 => ih fu gu (i + 1) s1 dn' M1 N1 (by omega) (by omega) (by omega) (by omega) j1 c1)
theorem cadJ {M N : cd_M} {k s : Nat} {dl : Nat → Nat} {dn : Nat → Nat → Nat} {dv : Nat → Nat} {m : Nat} (hJ : JT M N t b E s) (hD : DR M N N0 k dl dn dv m) : jk_ N0 (f8_readCadence_1 M) (f11_cadenceHere_15 N) (fun M1 N1 => k < 4 ∧ ∃ s2 dl' dn', JT M1 N1 t b E s2 ∧ DR M1 N1 N0 (k + 1) dl' dn' dv m) := by
  have h0 := hJ
  have hD0 := hD
  obtain ⟨h1, h2, h3, h4, h8⟩ := hJ
  obtain ⟨⟨a1, a2, a3⟩, d2, d3, d4, d5, d6, hK⟩ := hD
  unfold f8_readCadence_1 f5_cadences_4 f11_cadenceHere_15 f11_cadenceHere_15_L14
  rw [a1, a2, show (4 : Int32) = nI 4 from rfl]
  by_cases q : k < 4
  · have cin : cd_in (nI (4 + k)) 8 = true := by rw [ci_nI (by omega)]; omega
    rw [if_pos (nI_lt q (by omega)), if_neg (nI_ge q (by omega)), mT_p h8 (by decide), a2, show nI 4 + nI k = nI (4 + k) from nI_add 4 k, cd_lt_p, if_pos cin, nI_clamp (by omega), cd_lt_p]
    have g0 : cf_ [(60, none)] N (cd_wI N 60 (4 + k) 0) := cf_wcI (cf_cov_iff.mpr (Or.inl (by simp))) cf_refl
    obtain ⟨M1, N1, s1, o1, o2, o3, o4, o5⟩ := advJ' (JT_f h0 (w1 := []) cf_refl g0 (by decide))
    rw [o1, o2, bind_p, bind_p]
    have e43 : M1.1 4 3 = nI k := (o4 4 3 (by decide)).1.trans a1
    have ea : f5_addCadence_4 M1 = some (cd_wI (cd_wI M1 21 k 0) 4 3 (nI (k + 1))) := by
      unfold f5_addCadence_4
      rw [e43, show (4 : Int32) = nI 4 from rfl, if_neg (nI_ge q (by omega)), if_pos (by rw [ci_nI (by omega)]; omega), nI_clamp (by omega), cd_lt_p]
      have z : (cd_wI M1 21 k 0).1 4 3 + 1 = nI (k + 1) := by rw [cd_wI_at, if_neg (by omega), e43, nI_1]
      rw [z, cd_lt_p]
    rw [ea, bind_p]
    have gM : cf_ [(21, none), (4, some 3)] M1 (cd_wI (cd_wI M1 21 k 0) 4 3 (nI (k + 1))) := cf_wcI (by decide) (cf_wcI (cf_cov_iff.mpr (Or.inl (by simp))) cf_refl)
    have J2 := JT_f o3 (w2 := []) gM cf_refl (by decide)
    have C0 : CPr (cd_wI (cd_wI M1 21 k 0) 4 3 (nI (k + 1))) N1 N0 k 0 dl dn dv m := by
      have eN : ∀ x j, ¬ (x = 60 ∧ j = 4 + k) → x ≠ 15 → N1.1 x j = N.1 x j := fun x j z1 z2 => by
        have e := (o5 x j (by
          cases e : cf_cov f11_steps_15_w x j with
          | false => rfl
          | true =>
            rcases cf_cov_iff.mp e with u | u <;> simp [f11_steps_15_w] at u <;> omega)).1
        rw [e, cd_wI_at, if_neg z1]
      have eM : ∀ x j, x ≠ 2 → M1.1 x j = M.1 x j := fun x j z => (o4 x j (by
          cases e : cf_cov f7_advance_2_w x j with
          | false => rfl
          | true =>
            rcases cf_cov_iff.mp e with u | u <;> simp [f7_advance_2_w] at u <;> omega)).1
      have eM2 : ∀ x j, x ≠ 2 → ¬ (x = 21 ∧ j = k) → ¬ (x = 4 ∧ j = 3) → (cd_wI (cd_wI M1 21 k 0) 4 3 (nI (k + 1))).1 x j = M.1 x j := fun x j z1 z2 z3 => by rw [cd_wI_at, if_neg z3, cd_wI_at, if_neg z2, eM x j z1]
      refine ⟨⟨by rw [cd_wI_at, if_pos ⟨rfl, rfl⟩], (o5 15 18 (by decide)).1.trans (by rw [cd_wI_at, if_neg (by omega)]; exact a2), q⟩, ⟨by rw [cd_wI_at, if_neg (by omega), cd_wI_at, if_pos ⟨rfl, rfl⟩]; rfl, ?_, by omega⟩, fun c hc => ?_, fun c j hcj => ?_, fun v hv => ?_, d5, ⟨?_, d6.2.1, fun v hv => ?_⟩, fun c hc => ?_, fun j hj => ?_, fun v hv => ?_⟩
      · rw [(o5 60 _ (na_cov (by decide) _)).1, cd_wI_at, if_pos ⟨rfl, rfl⟩]; rfl
      · rw [eM2 _ _ (by omega) (by omega) (by omega), eN _ _ (by omega) (by omega)]; exact d2 c hc
      · have hcj' : c < k ∧ j < dl c := by omega
        rw [eM2 _ _ (by omega) (by omega) (by omega), eN _ _ (by omega) (by omega)]; exact d3 c j hcj'.1 hcj'.2
      · rw [eM2 _ _ (by omega) (by omega) (by omega), eN _ _ (by omega) (by omega)]; exact d4 v hv
      · rw [eM2 _ _ (by omega) (by omega) (by omega)]; exact d6.1
      · rw [eN _ _ (by omega) (by omega)]; exact d6.2.2 v hv
      · rw [eN _ _ (by omega) (by omega)]; exact hK.1 c hc
      · rw [eN _ _ (by omega) (by omega)]; exact hK.2.1 j hj
      · rw [eN _ _ (by omega) (by omega)]; exact hK.2.2 v hv
    generalize cd_wI (cd_wI M1 21 k 0) 4 3 (nI (k + 1)) = M2 at *
    have J2' := J2
    obtain ⟨j1, j2, j3, j4, j8⟩ := J2
    have kl := tkk_le (b := b) (E := E) (s := s1)
    have nl := tkn_le (b := b) (E := E) (s := s1)
    have hK1 := C0.2.2.2.2.2.2.2
    rw [show f8_readCadence_1_L33 cd_fu 0 M2 = f8_readCadence_1_L33 (19999 + 1) (nI 0) M2 from rfl, f8_readCadence_1_L33, if_neg (by decide), if_pos (by decide)]
    unfold f8_readCadence_1_L56
    by_cases z : tkk_ b E s1 = 2
    · have e7 := j4.2.2.2.1 z
      have e6 := j3.2.2.2.1 z
      have wi := wiN (x := tkn_ b E s1) (lo := 2) (hi := 5) (l := (2 : Int32).toInt64) (u := (5 : Int32).toInt64) rfl rfl (by omega) (by decide) (by decide) N1
      by_cases z1 : 2 ≤ tkn_ b E s1 ∧ tkn_ b E s1 ≤ 5
      · have ec : f8_isNumberWithin_1 2 5 M2 = (1, M2) := nwA_ (lo := 2) (hi := 5) J2' z (by decide) (by decide) z1
        have em : f11_takesNumber_15 2 5 N1 = (f11_steps_15 (cd_wI N1 15 10 (nI (tkn_ b E s1)))).bind fun M11 => some (1, M11) := by
          unfold f11_takesNumber_15 f11_takesNumber_15_L14
          rw [j4.2.2.1, show (2 : Int32) = nI 2 from rfl, if_pos (show nI (tkk_ b E s1) = nI 2 by rw [z]), mT_p j8 (by decide), e7]
          rw [mT_p j8 (show ¬ f11_within (nI (tkn_ b E s1)).toInt64 (nI 2).toInt64 (Int32.toInt64 5) N1 = 0 from fun y => wi.mp y z1), cd_lt_p, e7]
        rw [ec, cd_lt_p, u2_p, if_neg (show ¬ (1 : Int32) = 0 by decide), if_pos (show nI 0 < 6 by decide), em]
        unfold f7_number_2
        rw [e6, addN (i := 0) q (by omega) C0.1.1 C0.2.1.1, bind_p]
        have fM : cf_ [(20, none), (21, none)] M2 (cd_wI (cd_wI M2 20 (6 * k + 0) (nI (tkn_ b E s1))) 21 k (nI (0 + 1))) := cf_wcI (cf_cov_iff.mpr (Or.inl (by simp))) (cf_wcI (cf_cov_iff.mpr (Or.inl (by simp))) cf_refl)
        have fN : cf_ [(15, some 10)] N1 (cd_wI N1 15 10 (nI (tkn_ b E s1))) := cf_wcI (by decide) cf_refl
        obtain ⟨M4, N4, s4, p1, p2, p3, p4, p5⟩ := advJ' (JT_f J2' fM fN (by decide))
        have e24 : (6 : Int32) * nI (4 + k) = nI (24 + 6 * k) := by rw [show (6 : Int32) = nI 6 from rfl, pk_mul]; congr 1; omega
        have e10 : N4.1 15 10 = nI (tkn_ b E s1) := (p5 15 10 (by decide)).1.trans (by rw [cd_wI_at, if_pos ⟨rfl, rfl⟩])
        rw [p1, p2, bind_p, bind_p, bind_p, u2_p, if_neg (show ¬ (1 : Int32) = 0 by decide), cd_lt_p, nI_1, e24, if_pos (by rw [ci_nI (by omega)]; omega), nI_clamp (by omega), e10, cd_lt_p, if_pos cin, cd_lt_p]
        have gN : cf_ [(60, none), (61, none)] N4 (cd_wI (cd_wI N4 61 (24 + 6 * k) (nI (tkn_ b E s1))) 60 (4 + k) 1) := cf_wcI (cf_cov_iff.mpr (Or.inl (by simp))) (cf_wcI (cf_cov_iff.mpr (Or.inl (by simp))) cf_refl)
        have C1 := CPr_add C0 (by omega) z1 (M1 := cd_wI (cd_wI M2 20 (6 * k + 0) (nI (tkn_ b E s1))) 21 k (nI (0 + 1))) (N1 := cd_wI (cd_wI N1 61 (24 + (6 * k + 0)) (nI (tkn_ b E s1))) 60 (4 + k) (nI (0 + 1))) (fun x j => by rw [cd_wI_at, cd_wI_at]) (fun x j => by rw [cd_wI_at, cd_wI_at])
        have C2 : CPr M4 (cd_wI (cd_wI N4 61 (24 + 6 * k) (nI (tkn_ b E s1))) 60 (4 + k) 1) N0 k 1 dl (fun c j => if c = k ∧ j = 0 then tkn_ b E s1 else dn c j) dv m := by
          refine CPr_c (fun x j y => ?_) (fun x j y => ?_) C1
          · exact (p4 x j (by
              rcases y with ⟨rfl, rfl⟩ | rfl | rfl | rfl | ⟨rfl, rfl⟩
              · decide
              · exact na_cov (by decide) j
              · exact na_cov (by decide) j
              · exact na_cov (by decide) j
              · decide)).1
          · have e4 : N4.1 x j = N1.1 x j := by
              have u1 := (p5 x j (by
                rcases y with ⟨rfl, rfl⟩ | rfl | rfl | rfl | rfl
                · decide
                · exact na_cov (by decide) j
                · exact na_cov (by decide) j
                · exact na_cov (by decide) j
                · exact na_cov (by decide) j)).1
              rw [u1, cd_wI_at, if_neg (by omega)]
            rw [cd_wI_at, cd_wI_at, e4, cd_wI_at, cd_wI_at]
            rfl
        refine jk_mono (cl_33 5 19999 cd_fu 1 s4 _ M4 _ (by omega) (by omega) (by unfold cd_fu; omega) (by omega) (JT_f p3 (w1 := []) cf_refl gN (by decide)) C2) (fun M5 N5 y => ⟨q, y⟩)
      · have ec : f8_isNumberWithin_1 2 5 M2 = (0, (f8_refuse_1 (nI 2) M2).2) := nwB_ (lo := 2) (hi := 5) J2' z (by decide) (by decide) z1
        have em : f11_takesNumber_15 2 5 N1 = some (0, cd_wI (cd_wI N1 15 8 (nI 2)) 15 9 (N1.1 15 4)) := by
          unfold f11_takesNumber_15 f11_takesNumber_15_L14
          rw [j4.2.2.1, show (2 : Int32) = nI 2 from rfl, if_pos (show nI (tkk_ b E s1) = nI 2 by rw [z]), mT_p j8 (by decide), e7]
          rw [show f11_within (nI (tkn_ b E s1)).toInt64 (nI 2).toInt64 (Int32.toInt64 5) N1 = 0 from wi.mpr z1, mF_p j8 (by decide) (by decide)]
        rw [ec, cd_lt_p, u2_p, if_pos (show (0 : Int32) = 0 from rfl), em, bind_p, u2_p, if_pos (show (0 : Int32) = 0 from rfl)]
        exact jk_no j3.1 j4.1 hK1
    · have ec : f8_isNumberWithin_1 2 5 M2 = (0, (f8_refuse_1 (nI 1) M2).2) := nwC_ (lo := 2) (hi := 5) J2' z
      have em : f11_takesNumber_15 2 5 N1 = some (0, cd_wI (cd_wI N1 15 8 (nI 1)) 15 9 (N1.1 15 4)) := by
        unfold f11_takesNumber_15 f11_takesNumber_15_L14
        rw [j4.2.2.1, show (2 : Int32) = nI 2 from rfl, if_neg (show ¬ nI (tkk_ b E s1) = nI 2 from fun y => z ((nI_eq (by omega) (by decide)).mp y)), show f11_must_15 0 1 N1 = f11_must_15 0 (nI 1) N1 from rfl, mF_p j8 (by decide) (by decide)]
      rw [ec, cd_lt_p, u2_p, if_pos (show (0 : Int32) = 0 from rfl), em, bind_p, u2_p, if_pos (show (0 : Int32) = 0 from rfl)]
      exact jk_no j3.1 j4.1 hK1
  · rw [if_neg (nI_nlt (by omega) (by omega)), if_pos (nI_le (by omega) (by omega)), mF_p h8 (by decide) (by decide), rp_]
    exact jk_no h3.1 h4.1 hK
end cpA
