/-! reading on both sides at once -/
def FRt (M N : cd_M) : Prop := ∃ x k : Nat, M.1 1 3 = nI (8 * x + k) ∧ N.1 15 9 = nI x ∧ N.1 15 8 = nI k
def jt_ (o1 o2 : Option (Int32 × cd_M)) (Q : cd_M → cd_M → Prop) : Prop := ∃ M1 N1, (o1 = some (1, M1) ∧ o2 = some (1, N1) ∧ Q M1 N1) ∨ (o1 = some (0, M1) ∧ o2 = some (0, N1) ∧ FRt M1 N1)
def JT (M N : cd_M) (t : Nat) (b : Nat → Nat) (E s : Nat) : Prop := PBc M t b E ∧ PBm N b E ∧ CK M b E s ∧ MKt N b E s ∧ N.1 15 8 = 0
theorem u2_p {γ : Type} {f : Int32 → cd_M → γ} {a : Int32} {m : cd_M} : cd_u2 f (a, m) = f a m := id rfl
theorem ref_p {γ : Type} {f : Int32 → cd_M → γ} {a : Int32} {m : cd_M} : cd_u2 f (f8_refuse_1 a m) = f 0 (f8_refuse_1 a m).2 := id rfl
def cw0 : List (Nat × Option Nat) := [(1, some 3), (1, some 4), (2, some 3), (2, some 4), (2, some 5), (2, some 6)]
def mw0 : List (Nat × Option Nat) := [(15, some 4), (15, some 5), (15, some 6), (15, some 7), (15, some 8), (15, some 9), (15, some 10)]
theorem jt_mono {o1 o2 : Option (Int32 × cd_M)} {Q R : cd_M → cd_M → Prop} (h : jt_ o1 o2 Q) (k : ∀ M1 N1, Q M1 N1 → R M1 N1) : jt_ o1 o2 R := by
  obtain ⟨M1, N1, ⟨a, b, c⟩ | c⟩ := h
  · exact ⟨M1, N1, Or.inl ⟨a, b, k _ _ c⟩⟩
  · exact ⟨M1, N1, Or.inr c⟩
theorem jt_bind {o1 o2 : Option (Int32 × cd_M)} {K1 K2 : cd_M → Option (Int32 × cd_M)} {Q R : cd_M → cd_M → Prop} (h : jt_ o1 o2 Q) (k : ∀ M1 N1, Q M1 N1 → jt_ (K1 M1) (K2 N1) R) : jt_ (o1.bind (cd_u2 fun v M1 => if v = 0 then some (0, M1) else K1 M1)) (o2.bind (cd_u2 fun v N1 => if v = 0 then some (0, N1) else K2 N1)) R := by
  obtain ⟨M1, N1, ⟨a, b, c⟩ | ⟨a, b, c⟩⟩ := h
  · rw [a, b, bind_p, bind_p]
    show jt_ (if (1 : Int32) = 0 then some (0, M1) else K1 M1) (if (1 : Int32) = 0 then some (0, N1) else K2 N1) R
    rw [if_neg (by decide), if_neg (by decide)]
    exact k M1 N1 c
  · rw [a, b, bind_p, bind_p]
    show jt_ (if (0 : Int32) = 0 then some (0, M1) else K1 M1) (if (0 : Int32) = 0 then some (0, N1) else K2 N1) R
    rw [if_pos rfl, if_pos rfl]
    exact ⟨M1, N1, Or.inr ⟨rfl, rfl, c⟩⟩
theorem jt_ok {M1 N1 : cd_M} {Q : cd_M → cd_M → Prop} (h : Q M1 N1) : jt_ (some (1, M1)) (some (1, N1)) Q := ⟨M1, N1, Or.inl ⟨rfl, rfl, h⟩⟩
theorem jt_no {M1 N1 : cd_M} {Q : cd_M → cd_M → Prop} (h : FRt M1 N1) : jt_ (some (0, M1)) (some (0, N1)) Q := ⟨M1, N1, Or.inr ⟨rfl, rfl, h⟩⟩
theorem mustT {N : cd_M} {a k : Int32} (h8 : N.1 15 8 = 0) (ha : ¬ a = 0) : f11_must_15 a k N = (1, N) := by
  unfold f11_must_15 f11_must_15_L24
  rw [if_pos h8, if_neg ha, if_pos h8]
theorem mustF {N : cd_M} {k : Nat} (h8 : N.1 15 8 = 0) (h0 : 0 < k) (hk : k < 100) : f11_must_15 0 (nI k) N = (0, cd_wI (cd_wI N 15 8 (nI k)) 15 9 (N.1 15 4)) := by
  unfold f11_must_15 f11_must_15_L24
  rw [if_pos h8, if_pos rfl]
  simp only [cd_lt_p]
  have e4 : (cd_wI N 15 8 (nI k)).1 15 4 = N.1 15 4 := by rw [cd_wI_at, if_neg (by decide)]
  rw [e4]
  have e8 : (cd_wI (cd_wI N 15 8 (nI k)) 15 9 (N.1 15 4)).1 15 8 = nI k := by rw [cd_wI_at, if_neg (by decide), cd_wI_at, if_pos ⟨rfl, rfl⟩]
  rw [e8, if_neg (nI_ne0 h0 (by omega))]
theorem mT_p {N : cd_M} {a k : Int32} {K : cd_M → Option (Int32 × cd_M)} (h8 : N.1 15 8 = 0) (ha : ¬ a = 0) : cd_lt (f11_must_15 a k N) (cd_u2 fun v M => if v = 0 then some (0, M) else K M) = K N := by
  rw [mustT h8 ha, cd_lt_p, u2_p, if_neg (show ¬ (1 : Int32) = 0 by decide)]
theorem mF_p {N : cd_M} {k : Nat} {K : cd_M → Option (Int32 × cd_M)} (h8 : N.1 15 8 = 0) (h0 : 0 < k) (hk : k < 100) : cd_lt (f11_must_15 0 (nI k) N) (cd_u2 fun v M => if v = 0 then some (0, M) else K M) = some (0, cd_wI (cd_wI N 15 8 (nI k)) 15 9 (N.1 15 4)) := by
  rw [mustF h8 h0 hk, cd_lt_p, u2_p, if_pos rfl]
theorem rp_ {M : cd_M} {a : Int32} : cd_lt (f8_refuse_1 a M) (cd_u2 fun v M => some (v, M)) = some (0, (f8_refuse_1 a M).2) := id rfl
section jtA
variable {M N : cd_M} {t : Nat} {b : Nat → Nat} {E s : Nat}
theorem refJ (h4 : M.1 2 4 = nI s) (m4 : N.1 15 4 = nI s) {k : Nat} : FRt (f8_refuse_1 (nI k) M).2 (cd_wI (cd_wI N 15 8 (nI k)) 15 9 (N.1 15 4)) := by
  refine ⟨s, k, ?_, ?_, ?_⟩
  · show (cd_wI M 1 3 (8 * f7_start_2 M + nI k)).1 1 3 = _
    unfold f7_start_2
    rw [cd_wI_at, if_pos ⟨rfl, rfl⟩, h4, show (8 : Int32) = nI 8 from rfl, pk_mul, nI_add]
  · rw [cd_wI_at, if_pos ⟨rfl, rfl⟩]; exact m4
  · rw [cd_wI_at, if_neg (by decide), cd_wI_at, if_pos ⟨rfl, rfl⟩]
theorem advJ (hc : PBc M t b E) (hm : PBm N b E) (hs : s ≤ E) (h3 : M.1 2 3 = nI (tke_ b E s)) (h5 : N.1 15 5 = nI (tke_ b E s)) (h8 : N.1 15 8 = 0) : ∃ M1 N1 s1, f7_advance_2 M = some M1 ∧ f11_steps_15 N = some N1 ∧ JT M1 N1 t b E s1 ∧ cf_ f7_advance_2_w M M1 ∧ cf_ f11_steps_15_w N N1 := by
  have tb := tke_b (b := b) hs
  obtain ⟨M1, a1, a2, a3⟩ := advC hc tb.2 h3
  obtain ⟨N1, c1, c2, c3⟩ := stepM hm tb.2 h5
  exact ⟨M1, N1, _, a1, c1, ⟨PBc_f hc (a3 2 1 (by decide)).1 (a3 2 2 (by decide)).1 (fun i => (a3 17 i (na_cov (by decide) i)).1), ⟨(c3 15 3 (by decide)).1.trans hm.1, hm.2.1, fun i hi => ⟨(hm.2.2 i hi).1, by rw [(c3 57 i (na_cov (by decide) i)).1]; exact (hm.2.2 i hi).2⟩⟩, a2, c2, (c3 15 8 (by decide)).1.trans h8⟩, a3, c3⟩
theorem advJ' (h : JT M N t b E s) : ∃ M1 N1 s1, f7_advance_2 M = some M1 ∧ f11_steps_15 N = some N1 ∧ JT M1 N1 t b E s1 ∧ cf_ f7_advance_2_w M M1 ∧ cf_ f11_steps_15_w N N1 := advJ h.1 h.2.1 h.2.2.1.2.2.2.2 h.2.2.1.2.1 h.2.2.2.1.2.1 h.2.2.2.2
/-- JT where other cells changed -/
theorem JT_f {M1 N1 : cd_M} {w1 w2 : List (Nat × Option Nat)} (h : JT M N t b E s) (hf : cf_ w1 M M1) (hg : cf_ w2 N N1) (k : (!cf_cov w1 2 1 && !cf_cov w1 2 2 && !cf_cov w1 2 3 && !cf_cov w1 2 4 && !cf_cov w1 2 5 && !cf_cov w1 2 6 && na_ w1 17 && !cf_cov w2 15 3 && !cf_cov w2 15 4 && !cf_cov w2 15 5 && !cf_cov w2 15 6 && !cf_cov w2 15 7 && !cf_cov w2 15 8 && na_ w2 57) = true) : JT M1 N1 t b E s := by
  simp only [Bool.and_eq_true] at k
  obtain ⟨⟨⟨⟨⟨⟨⟨⟨⟨⟨⟨⟨⟨k1, k2⟩, k3⟩, k4⟩, k5⟩, k6⟩, k7⟩, m1⟩, m2⟩, m3⟩, m4⟩, m5⟩, m6⟩, m7⟩ := k
  obtain ⟨h1, h2, ⟨c1, c2, c3, c4, c5⟩, ⟨d1, d2, d3, d4, d5⟩, h8⟩ := h
  refine ⟨PBc_f h1 (hf _ _ (nf_cov k1)).1 (hf _ _ (nf_cov k2)).1 (fun i => (hf _ _ (na_cov k7 i)).1), ⟨(hg _ _ (nf_cov m1)).1.trans h2.1, h2.2.1, fun i hi => ⟨(h2.2.2 i hi).1, by rw [(hg _ _ (na_cov m7 i)).1]; exact (h2.2.2 i hi).2⟩⟩, ⟨(hf _ _ (nf_cov k4)).1.trans c1, (hf _ _ (nf_cov k3)).1.trans c2, (hf _ _ (nf_cov k5)).1.trans c3, fun z => (hf _ _ (nf_cov k6)).1.trans (c4 z), c5⟩, ⟨(hg _ _ (nf_cov m2)).1.trans d1, (hg _ _ (nf_cov m3)).1.trans d2, (hg _ _ (nf_cov m4)).1.trans d3, fun z => (hg _ _ (nf_cov m5)).1.trans (d4 z), d5⟩, (hg _ _ (nf_cov m6)).1.trans h8⟩
theorem numJ (h : JT M N t b E s) {lo hi : Nat} (hlo : lo < 10000) (hhi : hi < 10000) : jt_ (f8_takeNumber_1 (nI lo) (nI hi) M) (f11_takesNumber_15 (nI lo) (nI hi) N) (fun M1 N1 => ∃ s1 v, lo ≤ v ∧ v ≤ hi ∧ JT M1 N1 t b E s1 ∧ M1.1 1 4 = nI v ∧ N1.1 15 10 = nI v ∧ cf_ cw0 M M1 ∧ cf_ mw0 N N1) := by
  have h0 := h
  obtain ⟨h1, h2, ⟨c1, c2, c3, c4, c5⟩, ⟨d1, d2, d3, d4, d5⟩, h8⟩ := h
  have kl := tkk_le (b := b) (E := E) (s := s)
  have nl := tkn_le (b := b) (E := E) (s := s)
  unfold f8_takeNumber_1 f8_isNumberWithin_1 f8_isNumberWithin_1_L39 f7_kind_2 f7_number_2 f11_takesNumber_15
  rw [c3, d3, show (2 : Int32) = nI 2 from rfl]
  by_cases q : tkk_ b E s = 2
  · have e6 := c4 q
    have e7 := d4 q
    rw [if_pos (show nI (tkk_ b E s) = nI 2 by rw [q]), if_pos (show nI (tkk_ b E s) = nI 2 by rw [q]), e6]
    have hm : f11_takesNumber_15_L14 (nI lo) (nI hi) 1 N = cd_lt (f11_must_15 (f11_within (nI (tkn_ b E s)).toInt64 (nI lo).toInt64 (nI hi).toInt64 N) 2 N) (cd_u2 fun v7 M6 => if v7 = 0 then (some (0, M6)) else (cd_lt (cd_wI M6 15 10 (M6.1 15 7)) fun M10 => (f11_steps_15 M10).bind fun M11 => some (1, M11))) := by
      unfold f11_takesNumber_15_L14
      rw [mustT h8 (by decide), cd_lt_p, u2_p, if_neg (show ¬ (1 : Int32) = 0 by decide), e7]
    rw [hm]
    have wi := wiN (x := tkn_ b E s) (lo := lo) (hi := hi) (l := (nI lo).toInt64) (u := (nI hi).toInt64) rfl rfl (by omega) hlo hhi N
    have bad : ¬ (lo ≤ tkn_ b E s ∧ tkn_ b E s ≤ hi) → jt_ (some (0, (f8_refuse_1 (nI 2) M).2)) (cd_lt (f11_must_15 (f11_within (nI (tkn_ b E s)).toInt64 (nI lo).toInt64 (nI hi).toInt64 N) 2 N) (cd_u2 fun v7 M6 => if v7 = 0 then (some (0, M6)) else (cd_lt (cd_wI M6 15 10 (M6.1 15 7)) fun M10 => (f11_steps_15 M10).bind fun M11 => some (1, M11)))) (fun M1 N1 => ∃ s1 v, lo ≤ v ∧ v ≤ hi ∧ JT M1 N1 t b E s1 ∧ M1.1 1 4 = nI v ∧ N1.1 15 10 = nI v ∧ cf_ cw0 M M1 ∧ cf_ mw0 N N1) := by
      intro z
      rw [wi.mpr z, show (2 : Int32) = nI 2 from rfl, mustF h8 (by decide) (by decide), cd_lt_p]
      rw [u2_p, if_pos rfl]
      exact jt_no (refJ c1 d1)
    by_cases q1 : tkn_ b E s < lo
    · rw [if_pos (nI_lt q1 (by omega))]
      exact bad (by omega)
    · rw [if_neg (nI_nlt (by omega) (by omega))]
      by_cases q2 : tkn_ b E s ≤ hi
      · rw [if_pos (nI_le q2 (by omega)), mustT h8 (fun z => wi.mp z ⟨by omega, q2⟩), cd_lt_p, cd_lt_p]
        rw [u2_p, u2_p, if_neg (show ¬ (1 : Int32) = 0 by decide), if_neg (show ¬ (1 : Int32) = 0 by decide), cd_lt_p, cd_lt_p, e6, e7]
        have f1 : cf_ [(1, some 4)] M (cd_wI M 1 4 (nI (tkn_ b E s))) := cf_wcI (by decide) cf_refl
        have f2 : cf_ [(15, some 10)] N (cd_wI N 15 10 (nI (tkn_ b E s))) := cf_wcI (by decide) cf_refl
        obtain ⟨M1, N1, s1, a1, a2, a3, a4, a5⟩ := advJ' (JT_f h0 f1 f2 (by decide))
        rw [a1, a2, bind_p, bind_p]
        refine jt_ok ⟨s1, tkn_ b E s, by omega, q2, a3, ?_, ?_, cf_trans (cf_le (by decide) f1) (cf_le (by decide) a4), cf_trans (cf_le (by decide) f2) (cf_le (by decide) a5)⟩
        · rw [(a4 1 4 (by decide)).1, cd_wI_at, if_pos ⟨rfl, rfl⟩]
        · rw [(a5 15 10 (by decide)).1, cd_wI_at, if_pos ⟨rfl, rfl⟩]
      · rw [if_neg (nI_ge (by omega) (by omega))]
        exact bad (by omega)
  · rw [if_neg (fun z => q ((nI_eq (by omega) (by decide)).mp z)), if_neg (fun z => q ((nI_eq (by omega) (by decide)).mp z))]
    unfold f11_takesNumber_15_L14
    rw [show (1 : Int32) = nI 1 from rfl, mustF h8 (by decide) (by decide), cd_lt_p, cd_lt_p]
    rw [cd_lt_p, ref_p, u2_p, u2_p, if_pos rfl, if_pos rfl]
    exact jt_no (refJ c1 d1)
theorem endJ (h : JT M N t b E s) : jt_ (f8_takeSemicolon_1 M) (f11_takesEnd_15 N) (fun M1 N1 => ∃ s1, JT M1 N1 t b E s1 ∧ cf_ cw0 M M1 ∧ cf_ mw0 N N1) := by
  have h0 := h
  obtain ⟨h1, h2, ⟨c1, c2, c3, c4, c5⟩, ⟨d1, d2, d3, d4, d5⟩, h8⟩ := h
  have kl := tkk_le (b := b) (E := E) (s := s)
  unfold f8_takeSemicolon_1 f7_kind_2 f11_takesEnd_15 f11_takesEnd_15_L14
  rw [c3, d3, show (3 : Int32) = nI 3 from rfl]
  by_cases q : tkk_ b E s = 3
  · rw [if_pos (show nI (tkk_ b E s) = nI 3 by rw [q]), if_pos (show nI (tkk_ b E s) = nI 3 by rw [q]), mustT h8 (by decide), cd_lt_p]
    rw [u2_p, if_neg (show ¬ (1 : Int32) = 0 by decide)]
    obtain ⟨M1, N1, s1, a1, a2, a3, a4, a5⟩ := advJ' h0
    rw [a1, a2, bind_p, bind_p]
    exact jt_ok ⟨s1, a3, cf_le (by decide) a4, cf_le (by decide) a5⟩
  · rw [if_neg (fun z => q ((nI_eq (by omega) (by decide)).mp z)), if_neg (fun z => q ((nI_eq (by omega) (by decide)).mp z)), show (1 : Int32) = nI 1 from rfl, mustF h8 (by decide) (by decide), cd_lt_p, cd_lt_p]
    rw [ref_p, u2_p, if_pos rfl]
    exact jt_no (refJ c1 d1)
end jtA
