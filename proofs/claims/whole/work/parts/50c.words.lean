/-! the words (by program, wip/whole/wordgen.py) -/
section wdA
variable {t : Nat} {b : Nat → Nat} {E s : Nat}
theorem wc_width {M : cd_M} (h : PBc M t b E) (k : CK M b E s) : f7_isWord_2_1000 M = some (if wd_ b E s [119, 105, 100, 116, 104] = true then 1 else 0) := by
  obtain ⟨k1, k2, k3, k4, k5⟩ := k
  have tb := tke_b (b := b) k5
  have kl := tkk_le (b := b) (E := E) (s := s)
  have hE : E ≤ 900 := by have := h.1.2.1; have := h.2.2; omega
  have el : fJ0_length_1000 M = nI 5 := by unfold fJ0_length_1000 fJ0_coder_1000; decide
  unfold f7_isWord_2_1000 wd_
  rw [k3, k2, k1, el, pk_sub tb.1, show (1 : Int32) = nI 1 from rfl]
  by_cases q : tkk_ b E s = 1
  · rw [if_pos (by rw [q]), decide_eq_true q, Bool.true_and]
    by_cases q2 : tke_ b E s - s = 5
    · rw [if_pos (by rw [q2]), decide_eq_true (show tke_ b E s - s = ([119, 105, 100, 116, 104] : List Nat).length from q2), Bool.true_and]
      refine wlp_ (L := f7_isWord_2_1000_L28) (M := M) (b := b) (s := s) [119, 105, 100, 116, 104] 0 cd_fu (fun i hi => (byteC h (by have hi : i < 5 := hi; omega)).2) (by decide) ?_ (by unfold cd_fu; decide)
      refine ⟨fun f => ?_, fun f => ?_, fun f => ?_, fun f => ?_, fun f => ?_, fun f => ?_⟩
      · rw [f7_isWord_2_1000_L28, el, if_neg (by decide), k1, nI_add, (byteC h (i := s + 0) (by omega)).1, bind_p, show fJ0_charAt_1000 (nI 0) M = some (nI 119) from rfl, bind_p]
        simp only [cd_lt_p]
        rw [nI_1]
      · rw [f7_isWord_2_1000_L28, el, if_neg (by decide), k1, nI_add, (byteC h (i := s + 1) (by omega)).1, bind_p, show fJ0_charAt_1000 (nI 1) M = some (nI 105) from rfl, bind_p]
        simp only [cd_lt_p]
        rw [nI_1]
      · rw [f7_isWord_2_1000_L28, el, if_neg (by decide), k1, nI_add, (byteC h (i := s + 2) (by omega)).1, bind_p, show fJ0_charAt_1000 (nI 2) M = some (nI 100) from rfl, bind_p]
        simp only [cd_lt_p]
        rw [nI_1]
      · rw [f7_isWord_2_1000_L28, el, if_neg (by decide), k1, nI_add, (byteC h (i := s + 3) (by omega)).1, bind_p, show fJ0_charAt_1000 (nI 3) M = some (nI 116) from rfl, bind_p]
        simp only [cd_lt_p]
        rw [nI_1]
      · rw [f7_isWord_2_1000_L28, el, if_neg (by decide), k1, nI_add, (byteC h (i := s + 4) (by omega)).1, bind_p, show fJ0_charAt_1000 (nI 4) M = some (nI 104) from rfl, bind_p]
        simp only [cd_lt_p]
        rw [nI_1]
      · rw [f7_isWord_2_1000_L28, el, if_pos (by decide)]
    · rw [if_neg (fun z => q2 ((nI_eq (by omega) (by decide)).mp z)), decide_eq_false (show ¬ tke_ b E s - s = ([119, 105, 100, 116, 104] : List Nat).length from q2), Bool.false_and, if_neg (by decide)]
  · rw [if_neg (fun z => q ((nI_eq (by omega) (by decide)).mp z)), decide_eq_false q, Bool.false_and, if_neg (by decide)]
theorem wm_width {N : cd_M} (h : PBm N b E) (k : MKt N b E s) : f11_isWord_15 119 105 100 116 104 0 0 N = some (if wd_ b E s [119, 105, 100, 116, 104] = true then 1 else 0) := by
  obtain ⟨k1, k2, k3, k4, k5⟩ := k
  have tb := tke_b (b := b) k5
  have kl := tkk_le (b := b) (E := E) (s := s)
  have hE := h.2.1
  unfold f11_isWord_15 wd_
  rw [k3, show (1 : Int32) = nI 1 from rfl]
  by_cases q : tkk_ b E s = 1
  · rw [if_pos (by rw [q]), decide_eq_true q, Bool.true_and]
    rw [if_neg (by decide), if_neg (by decide), if_pos (show (0 : Int32) = 0 from rfl)]
    unfold f11_isWord_15_L49 f11_isWord_15_L128 f11_isWord_15_L149 f11_isWord_15_L171
    rw [k2, k1, pk_sub tb.1, show (5 : Int32) = nI 5 from rfl]
    by_cases q2 : tke_ b E s - s = 5
    · rw [if_pos (by rw [q2]), decide_eq_true (show tke_ b E s - s = ([119, 105, 100, 116, 104] : List Nat).length from q2), Bool.true_and]
      have ew : wdm_ b s [119, 105, 100, 116, 104] = (decide (b s = 119) && (decide (b (s + 1) = 105) && (decide (b (s + 2) = 100) && (decide (b (s + 3) = 116) && (decide (b (s + 4) = 104) && true))))) := rfl
      rw [ew]
      have s0 : f11_see_15 (nI s) N = some (nI (b s)) := by rw [seeM h (by omega), if_pos (show s < E by omega)]
      have x0 := (h.2.2 s (by omega)).1
      have s1 : f11_see_15 (nI s + 1) N = some (nI (b (s + 1))) := by rw [show nI s + 1 = nI (s + 1) from nI_add s 1, seeM h (by omega), if_pos (show s + 1 < E by omega)]
      have x1 := (h.2.2 (s + 1) (by omega)).1
      have s2 : f11_see_15 (nI s + 2) N = some (nI (b (s + 2))) := by rw [show nI s + 2 = nI (s + 2) from nI_add s 2, seeM h (by omega), if_pos (show s + 2 < E by omega)]
      have x2 := (h.2.2 (s + 2) (by omega)).1
      have s3 : f11_see_15 (nI s + 3) N = some (nI (b (s + 3))) := by rw [show nI s + 3 = nI (s + 3) from nI_add s 3, seeM h (by omega), if_pos (show s + 3 < E by omega)]
      have x3 := (h.2.2 (s + 3) (by omega)).1
      have s4 : f11_see_15 (nI s + 4) N = some (nI (b (s + 4))) := by rw [show nI s + 4 = nI (s + 4) from nI_add s 4, seeM h (by omega), if_pos (show s + 4 < E by omega)]
      have x4 := (h.2.2 (s + 4) (by omega)).1
      rw [s0, bind_p]
      by_cases c0 : b s = 119
      · rw [if_pos (show nI (b s) = 119 by rw [c0]; rfl), decide_eq_true c0, Bool.true_and]
        rw [s1, bind_p]
        by_cases c1 : b (s + 1) = 105
        · rw [if_pos (show nI (b (s + 1)) = 105 by rw [c1]; rfl), decide_eq_true c1, Bool.true_and]
          rw [s2, bind_p]
          by_cases c2 : b (s + 2) = 100
          · rw [if_pos (show nI (b (s + 2)) = 100 by rw [c2]; rfl), decide_eq_true c2, Bool.true_and]
            rw [if_neg (by decide), s3, bind_p]
            by_cases c3 : b (s + 3) = 116
            · rw [if_pos (show nI (b (s + 3)) = 116 by rw [c3]; rfl), decide_eq_true c3, Bool.true_and]
              rw [if_neg (by decide), s4, bind_p]
              by_cases c4 : b (s + 4) = 104
              · rw [if_pos (show nI (b (s + 4)) = 104 by rw [c4]; rfl), decide_eq_true c4, Bool.true_and]
                rw [if_pos (by decide), if_pos (by decide), if_pos rfl]
                rfl
              · rw [if_neg (show ¬ nI (b (s + 4)) = 104 from fun z => c4 ((nI_eq (b := 104) (by omega) (by decide)).mp z)), decide_eq_false c4, Bool.false_and, if_neg (by decide)]
            · rw [if_neg (show ¬ nI (b (s + 3)) = 116 from fun z => c3 ((nI_eq (b := 116) (by omega) (by decide)).mp z)), decide_eq_false c3, Bool.false_and, if_neg (by decide)]
          · rw [if_neg (show ¬ nI (b (s + 2)) = 100 from fun z => c2 ((nI_eq (b := 100) (by omega) (by decide)).mp z)), decide_eq_false c2, Bool.false_and, if_neg (by decide)]
        · rw [if_neg (show ¬ nI (b (s + 1)) = 105 from fun z => c1 ((nI_eq (b := 105) (by omega) (by decide)).mp z)), decide_eq_false c1, Bool.false_and, if_neg (by decide)]
      · rw [if_neg (show ¬ nI (b s) = 119 from fun z => c0 ((nI_eq (b := 119) (by omega) (by decide)).mp z)), decide_eq_false c0, Bool.false_and, if_neg (by decide)]
    · rw [if_neg (fun z => q2 ((nI_eq (by omega) (by decide)).mp z)), decide_eq_false (show ¬ tke_ b E s - s = ([119, 105, 100, 116, 104] : List Nat).length from q2), Bool.false_and, if_neg (by decide)]
  · rw [if_neg (fun z => q ((nI_eq (by omega) (by decide)).mp z)), decide_eq_false q, Bool.false_and, if_neg (by decide)]
theorem wc_frame {M : cd_M} (h : PBc M t b E) (k : CK M b E s) : f7_isWord_2_1001 M = some (if wd_ b E s [102, 114, 97, 109, 101] = true then 1 else 0) := by
  obtain ⟨k1, k2, k3, k4, k5⟩ := k
  have tb := tke_b (b := b) k5
  have kl := tkk_le (b := b) (E := E) (s := s)
  have hE : E ≤ 900 := by have := h.1.2.1; have := h.2.2; omega
  have el : fJ0_length_1001 M = nI 5 := by unfold fJ0_length_1001 fJ0_coder_1001; decide
  unfold f7_isWord_2_1001 wd_
  rw [k3, k2, k1, el, pk_sub tb.1, show (1 : Int32) = nI 1 from rfl]
  by_cases q : tkk_ b E s = 1
  · rw [if_pos (by rw [q]), decide_eq_true q, Bool.true_and]
    by_cases q2 : tke_ b E s - s = 5
    · rw [if_pos (by rw [q2]), decide_eq_true (show tke_ b E s - s = ([102, 114, 97, 109, 101] : List Nat).length from q2), Bool.true_and]
      refine wlp_ (L := f7_isWord_2_1001_L28) (M := M) (b := b) (s := s) [102, 114, 97, 109, 101] 0 cd_fu (fun i hi => (byteC h (by have hi : i < 5 := hi; omega)).2) (by decide) ?_ (by unfold cd_fu; decide)
      refine ⟨fun f => ?_, fun f => ?_, fun f => ?_, fun f => ?_, fun f => ?_, fun f => ?_⟩
      · rw [f7_isWord_2_1001_L28, el, if_neg (by decide), k1, nI_add, (byteC h (i := s + 0) (by omega)).1, bind_p, show fJ0_charAt_1001 (nI 0) M = some (nI 102) from rfl, bind_p]
        simp only [cd_lt_p]
        rw [nI_1]
      · rw [f7_isWord_2_1001_L28, el, if_neg (by decide), k1, nI_add, (byteC h (i := s + 1) (by omega)).1, bind_p, show fJ0_charAt_1001 (nI 1) M = some (nI 114) from rfl, bind_p]
        simp only [cd_lt_p]
        rw [nI_1]
      · rw [f7_isWord_2_1001_L28, el, if_neg (by decide), k1, nI_add, (byteC h (i := s + 2) (by omega)).1, bind_p, show fJ0_charAt_1001 (nI 2) M = some (nI 97) from rfl, bind_p]
        simp only [cd_lt_p]
        rw [nI_1]
      · rw [f7_isWord_2_1001_L28, el, if_neg (by decide), k1, nI_add, (byteC h (i := s + 3) (by omega)).1, bind_p, show fJ0_charAt_1001 (nI 3) M = some (nI 109) from rfl, bind_p]
        simp only [cd_lt_p]
        rw [nI_1]
      · rw [f7_isWord_2_1001_L28, el, if_neg (by decide), k1, nI_add, (byteC h (i := s + 4) (by omega)).1, bind_p, show fJ0_charAt_1001 (nI 4) M = some (nI 101) from rfl, bind_p]
        simp only [cd_lt_p]
        rw [nI_1]
      · rw [f7_isWord_2_1001_L28, el, if_pos (by decide)]
    · rw [if_neg (fun z => q2 ((nI_eq (by omega) (by decide)).mp z)), decide_eq_false (show ¬ tke_ b E s - s = ([102, 114, 97, 109, 101] : List Nat).length from q2), Bool.false_and, if_neg (by decide)]
  · rw [if_neg (fun z => q ((nI_eq (by omega) (by decide)).mp z)), decide_eq_false q, Bool.false_and, if_neg (by decide)]
theorem wm_frame {N : cd_M} (h : PBm N b E) (k : MKt N b E s) : f11_isWord_15 102 114 97 109 101 0 0 N = some (if wd_ b E s [102, 114, 97, 109, 101] = true then 1 else 0) := by
  obtain ⟨k1, k2, k3, k4, k5⟩ := k
  have tb := tke_b (b := b) k5
  have kl := tkk_le (b := b) (E := E) (s := s)
  have hE := h.2.1
  unfold f11_isWord_15 wd_
  rw [k3, show (1 : Int32) = nI 1 from rfl]
  by_cases q : tkk_ b E s = 1
  · rw [if_pos (by rw [q]), decide_eq_true q, Bool.true_and]
    rw [if_neg (by decide), if_neg (by decide), if_pos (show (0 : Int32) = 0 from rfl)]
    unfold f11_isWord_15_L49 f11_isWord_15_L128 f11_isWord_15_L149 f11_isWord_15_L171
    rw [k2, k1, pk_sub tb.1, show (5 : Int32) = nI 5 from rfl]
    by_cases q2 : tke_ b E s - s = 5
    · rw [if_pos (by rw [q2]), decide_eq_true (show tke_ b E s - s = ([102, 114, 97, 109, 101] : List Nat).length from q2), Bool.true_and]
      have ew : wdm_ b s [102, 114, 97, 109, 101] = (decide (b s = 102) && (decide (b (s + 1) = 114) && (decide (b (s + 2) = 97) && (decide (b (s + 3) = 109) && (decide (b (s + 4) = 101) && true))))) := rfl
      rw [ew]
      have s0 : f11_see_15 (nI s) N = some (nI (b s)) := by rw [seeM h (by omega), if_pos (show s < E by omega)]
      have x0 := (h.2.2 s (by omega)).1
      have s1 : f11_see_15 (nI s + 1) N = some (nI (b (s + 1))) := by rw [show nI s + 1 = nI (s + 1) from nI_add s 1, seeM h (by omega), if_pos (show s + 1 < E by omega)]
      have x1 := (h.2.2 (s + 1) (by omega)).1
      have s2 : f11_see_15 (nI s + 2) N = some (nI (b (s + 2))) := by rw [show nI s + 2 = nI (s + 2) from nI_add s 2, seeM h (by omega), if_pos (show s + 2 < E by omega)]
      have x2 := (h.2.2 (s + 2) (by omega)).1
      have s3 : f11_see_15 (nI s + 3) N = some (nI (b (s + 3))) := by rw [show nI s + 3 = nI (s + 3) from nI_add s 3, seeM h (by omega), if_pos (show s + 3 < E by omega)]
      have x3 := (h.2.2 (s + 3) (by omega)).1
      have s4 : f11_see_15 (nI s + 4) N = some (nI (b (s + 4))) := by rw [show nI s + 4 = nI (s + 4) from nI_add s 4, seeM h (by omega), if_pos (show s + 4 < E by omega)]
      have x4 := (h.2.2 (s + 4) (by omega)).1
      rw [s0, bind_p]
      by_cases c0 : b s = 102
      · rw [if_pos (show nI (b s) = 102 by rw [c0]; rfl), decide_eq_true c0, Bool.true_and]
        rw [s1, bind_p]
        by_cases c1 : b (s + 1) = 114
        · rw [if_pos (show nI (b (s + 1)) = 114 by rw [c1]; rfl), decide_eq_true c1, Bool.true_and]
          rw [s2, bind_p]
          by_cases c2 : b (s + 2) = 97
          · rw [if_pos (show nI (b (s + 2)) = 97 by rw [c2]; rfl), decide_eq_true c2, Bool.true_and]
            rw [if_neg (by decide), s3, bind_p]
            by_cases c3 : b (s + 3) = 109
            · rw [if_pos (show nI (b (s + 3)) = 109 by rw [c3]; rfl), decide_eq_true c3, Bool.true_and]
              rw [if_neg (by decide), s4, bind_p]
              by_cases c4 : b (s + 4) = 101
              · rw [if_pos (show nI (b (s + 4)) = 101 by rw [c4]; rfl), decide_eq_true c4, Bool.true_and]
                rw [if_pos (by decide), if_pos (by decide), if_pos rfl]
                rfl
              · rw [if_neg (show ¬ nI (b (s + 4)) = 101 from fun z => c4 ((nI_eq (b := 101) (by omega) (by decide)).mp z)), decide_eq_false c4, Bool.false_and, if_neg (by decide)]
            · rw [if_neg (show ¬ nI (b (s + 3)) = 109 from fun z => c3 ((nI_eq (b := 109) (by omega) (by decide)).mp z)), decide_eq_false c3, Bool.false_and, if_neg (by decide)]
          · rw [if_neg (show ¬ nI (b (s + 2)) = 97 from fun z => c2 ((nI_eq (b := 97) (by omega) (by decide)).mp z)), decide_eq_false c2, Bool.false_and, if_neg (by decide)]
        · rw [if_neg (show ¬ nI (b (s + 1)) = 114 from fun z => c1 ((nI_eq (b := 114) (by omega) (by decide)).mp z)), decide_eq_false c1, Bool.false_and, if_neg (by decide)]
      · rw [if_neg (show ¬ nI (b s) = 102 from fun z => c0 ((nI_eq (b := 102) (by omega) (by decide)).mp z)), decide_eq_false c0, Bool.false_and, if_neg (by decide)]
    · rw [if_neg (fun z => q2 ((nI_eq (by omega) (by decide)).mp z)), decide_eq_false (show ¬ tke_ b E s - s = ([102, 114, 97, 109, 101] : List Nat).length from q2), Bool.false_and, if_neg (by decide)]
  · rw [if_neg (fun z => q ((nI_eq (by omega) (by decide)).mp z)), decide_eq_false q, Bool.false_and, if_neg (by decide)]
theorem wc_cadence {M : cd_M} (h : PBc M t b E) (k : CK M b E s) : f7_isWord_2_1002 M = some (if wd_ b E s [99, 97, 100, 101, 110, 99, 101] = true then 1 else 0) := by
  obtain ⟨k1, k2, k3, k4, k5⟩ := k
  have tb := tke_b (b := b) k5
  have kl := tkk_le (b := b) (E := E) (s := s)
  have hE : E ≤ 900 := by have := h.1.2.1; have := h.2.2; omega
  have el : fJ0_length_1002 M = nI 7 := by unfold fJ0_length_1002 fJ0_coder_1002; decide
  unfold f7_isWord_2_1002 wd_
  rw [k3, k2, k1, el, pk_sub tb.1, show (1 : Int32) = nI 1 from rfl]
  by_cases q : tkk_ b E s = 1
  · rw [if_pos (by rw [q]), decide_eq_true q, Bool.true_and]
    by_cases q2 : tke_ b E s - s = 7
    · rw [if_pos (by rw [q2]), decide_eq_true (show tke_ b E s - s = ([99, 97, 100, 101, 110, 99, 101] : List Nat).length from q2), Bool.true_and]
      refine wlp_ (L := f7_isWord_2_1002_L28) (M := M) (b := b) (s := s) [99, 97, 100, 101, 110, 99, 101] 0 cd_fu (fun i hi => (byteC h (by have hi : i < 7 := hi; omega)).2) (by decide) ?_ (by unfold cd_fu; decide)
      refine ⟨fun f => ?_, fun f => ?_, fun f => ?_, fun f => ?_, fun f => ?_, fun f => ?_, fun f => ?_, fun f => ?_⟩
      · rw [f7_isWord_2_1002_L28, el, if_neg (by decide), k1, nI_add, (byteC h (i := s + 0) (by omega)).1, bind_p, show fJ0_charAt_1002 (nI 0) M = some (nI 99) from rfl, bind_p]
        simp only [cd_lt_p]
        rw [nI_1]
      · rw [f7_isWord_2_1002_L28, el, if_neg (by decide), k1, nI_add, (byteC h (i := s + 1) (by omega)).1, bind_p, show fJ0_charAt_1002 (nI 1) M = some (nI 97) from rfl, bind_p]
        simp only [cd_lt_p]
        rw [nI_1]
      · rw [f7_isWord_2_1002_L28, el, if_neg (by decide), k1, nI_add, (byteC h (i := s + 2) (by omega)).1, bind_p, show fJ0_charAt_1002 (nI 2) M = some (nI 100) from rfl, bind_p]
        simp only [cd_lt_p]
        rw [nI_1]
      · rw [f7_isWord_2_1002_L28, el, if_neg (by decide), k1, nI_add, (byteC h (i := s + 3) (by omega)).1, bind_p, show fJ0_charAt_1002 (nI 3) M = some (nI 101) from rfl, bind_p]
        simp only [cd_lt_p]
        rw [nI_1]
      · rw [f7_isWord_2_1002_L28, el, if_neg (by decide), k1, nI_add, (byteC h (i := s + 4) (by omega)).1, bind_p, show fJ0_charAt_1002 (nI 4) M = some (nI 110) from rfl, bind_p]
        simp only [cd_lt_p]
        rw [nI_1]
      · rw [f7_isWord_2_1002_L28, el, if_neg (by decide), k1, nI_add, (byteC h (i := s + 5) (by omega)).1, bind_p, show fJ0_charAt_1002 (nI 5) M = some (nI 99) from rfl, bind_p]
        simp only [cd_lt_p]
        rw [nI_1]
      · rw [f7_isWord_2_1002_L28, el, if_neg (by decide), k1, nI_add, (byteC h (i := s + 6) (by omega)).1, bind_p, show fJ0_charAt_1002 (nI 6) M = some (nI 101) from rfl, bind_p]
        simp only [cd_lt_p]
        rw [nI_1]
      · rw [f7_isWord_2_1002_L28, el, if_pos (by decide)]
    · rw [if_neg (fun z => q2 ((nI_eq (by omega) (by decide)).mp z)), decide_eq_false (show ¬ tke_ b E s - s = ([99, 97, 100, 101, 110, 99, 101] : List Nat).length from q2), Bool.false_and, if_neg (by decide)]
  · rw [if_neg (fun z => q ((nI_eq (by omega) (by decide)).mp z)), decide_eq_false q, Bool.false_and, if_neg (by decide)]
theorem wm_cadence {N : cd_M} (h : PBm N b E) (k : MKt N b E s) : f11_isWord_15 99 97 100 101 110 99 101 N = some (if wd_ b E s [99, 97, 100, 101, 110, 99, 101] = true then 1 else 0) := by
  obtain ⟨k1, k2, k3, k4, k5⟩ := k
  have tb := tke_b (b := b) k5
  have kl := tkk_le (b := b) (E := E) (s := s)
  have hE := h.2.1
  unfold f11_isWord_15 wd_
  rw [k3, show (1 : Int32) = nI 1 from rfl]
  by_cases q : tkk_ b E s = 1
  · rw [if_pos (by rw [q]), decide_eq_true q, Bool.true_and]
    rw [if_neg (by decide), if_neg (by decide), if_neg (by decide), if_neg (by decide)]
    unfold f11_isWord_15_L49 f11_isWord_15_L128 f11_isWord_15_L149 f11_isWord_15_L171
    rw [k2, k1, pk_sub tb.1, show (7 : Int32) = nI 7 from rfl]
    by_cases q2 : tke_ b E s - s = 7
    · rw [if_pos (by rw [q2]), decide_eq_true (show tke_ b E s - s = ([99, 97, 100, 101, 110, 99, 101] : List Nat).length from q2), Bool.true_and]
      have ew : wdm_ b s [99, 97, 100, 101, 110, 99, 101] = (decide (b s = 99) && (decide (b (s + 1) = 97) && (decide (b (s + 2) = 100) && (decide (b (s + 3) = 101) && (decide (b (s + 4) = 110) && (decide (b (s + 5) = 99) && (decide (b (s + 6) = 101) && true))))))) := rfl
      rw [ew]
      have s0 : f11_see_15 (nI s) N = some (nI (b s)) := by rw [seeM h (by omega), if_pos (show s < E by omega)]
      have x0 := (h.2.2 s (by omega)).1
      have s1 : f11_see_15 (nI s + 1) N = some (nI (b (s + 1))) := by rw [show nI s + 1 = nI (s + 1) from nI_add s 1, seeM h (by omega), if_pos (show s + 1 < E by omega)]
      have x1 := (h.2.2 (s + 1) (by omega)).1
      have s2 : f11_see_15 (nI s + 2) N = some (nI (b (s + 2))) := by rw [show nI s + 2 = nI (s + 2) from nI_add s 2, seeM h (by omega), if_pos (show s + 2 < E by omega)]
      have x2 := (h.2.2 (s + 2) (by omega)).1
      have s3 : f11_see_15 (nI s + 3) N = some (nI (b (s + 3))) := by rw [show nI s + 3 = nI (s + 3) from nI_add s 3, seeM h (by omega), if_pos (show s + 3 < E by omega)]
      have x3 := (h.2.2 (s + 3) (by omega)).1
      have s4 : f11_see_15 (nI s + 4) N = some (nI (b (s + 4))) := by rw [show nI s + 4 = nI (s + 4) from nI_add s 4, seeM h (by omega), if_pos (show s + 4 < E by omega)]
      have x4 := (h.2.2 (s + 4) (by omega)).1
      have s5 : f11_see_15 (nI s + 5) N = some (nI (b (s + 5))) := by rw [show nI s + 5 = nI (s + 5) from nI_add s 5, seeM h (by omega), if_pos (show s + 5 < E by omega)]
      have x5 := (h.2.2 (s + 5) (by omega)).1
      have s6 : f11_see_15 (nI s + 6) N = some (nI (b (s + 6))) := by rw [show nI s + 6 = nI (s + 6) from nI_add s 6, seeM h (by omega), if_pos (show s + 6 < E by omega)]
      have x6 := (h.2.2 (s + 6) (by omega)).1
      rw [s0, bind_p]
      by_cases c0 : b s = 99
      · rw [if_pos (show nI (b s) = 99 by rw [c0]; rfl), decide_eq_true c0, Bool.true_and]
        rw [s1, bind_p]
        by_cases c1 : b (s + 1) = 97
        · rw [if_pos (show nI (b (s + 1)) = 97 by rw [c1]; rfl), decide_eq_true c1, Bool.true_and]
          rw [s2, bind_p]
          by_cases c2 : b (s + 2) = 100
          · rw [if_pos (show nI (b (s + 2)) = 100 by rw [c2]; rfl), decide_eq_true c2, Bool.true_and]
            rw [if_neg (by decide), s3, bind_p]
            by_cases c3 : b (s + 3) = 101
            · rw [if_pos (show nI (b (s + 3)) = 101 by rw [c3]; rfl), decide_eq_true c3, Bool.true_and]
              rw [if_neg (by decide), s4, bind_p]
              by_cases c4 : b (s + 4) = 110
              · rw [if_pos (show nI (b (s + 4)) = 110 by rw [c4]; rfl), decide_eq_true c4, Bool.true_and]
                rw [if_neg (by decide), s5, bind_p]
                by_cases c5 : b (s + 5) = 99
                · rw [if_pos (show nI (b (s + 5)) = 99 by rw [c5]; rfl), decide_eq_true c5, Bool.true_and]
                  rw [if_neg (by decide), s6, bind_p]
                  by_cases c6 : b (s + 6) = 101
                  · rw [if_pos (show nI (b (s + 6)) = 101 by rw [c6]; rfl), decide_eq_true c6, Bool.true_and]
                    rw [if_pos rfl]
                    rfl
                  · rw [if_neg (show ¬ nI (b (s + 6)) = 101 from fun z => c6 ((nI_eq (b := 101) (by omega) (by decide)).mp z)), decide_eq_false c6, Bool.false_and, if_neg (by decide)]
                · rw [if_neg (show ¬ nI (b (s + 5)) = 99 from fun z => c5 ((nI_eq (b := 99) (by omega) (by decide)).mp z)), decide_eq_false c5, Bool.false_and, if_neg (by decide)]
              · rw [if_neg (show ¬ nI (b (s + 4)) = 110 from fun z => c4 ((nI_eq (b := 110) (by omega) (by decide)).mp z)), decide_eq_false c4, Bool.false_and, if_neg (by decide)]
            · rw [if_neg (show ¬ nI (b (s + 3)) = 101 from fun z => c3 ((nI_eq (b := 101) (by omega) (by decide)).mp z)), decide_eq_false c3, Bool.false_and, if_neg (by decide)]
          · rw [if_neg (show ¬ nI (b (s + 2)) = 100 from fun z => c2 ((nI_eq (b := 100) (by omega) (by decide)).mp z)), decide_eq_false c2, Bool.false_and, if_neg (by decide)]
        · rw [if_neg (show ¬ nI (b (s + 1)) = 97 from fun z => c1 ((nI_eq (b := 97) (by omega) (by decide)).mp z)), decide_eq_false c1, Bool.false_and, if_neg (by decide)]
      · rw [if_neg (show ¬ nI (b s) = 99 from fun z => c0 ((nI_eq (b := 99) (by omega) (by decide)).mp z)), decide_eq_false c0, Bool.false_and, if_neg (by decide)]
    · rw [if_neg (fun z => q2 ((nI_eq (by omega) (by decide)).mp z)), decide_eq_false (show ¬ tke_ b E s - s = ([99, 97, 100, 101, 110, 99, 101] : List Nat).length from q2), Bool.false_and, if_neg (by decide)]
  · rw [if_neg (fun z => q ((nI_eq (by omega) (by decide)).mp z)), decide_eq_false q, Bool.false_and, if_neg (by decide)]
theorem wc_slack {M : cd_M} (h : PBc M t b E) (k : CK M b E s) : f7_isWord_2_1003 M = some (if wd_ b E s [115, 108, 97, 99, 107] = true then 1 else 0) := by
  obtain ⟨k1, k2, k3, k4, k5⟩ := k
  have tb := tke_b (b := b) k5
  have kl := tkk_le (b := b) (E := E) (s := s)
  have hE : E ≤ 900 := by have := h.1.2.1; have := h.2.2; omega
  have el : fJ0_length_1003 M = nI 5 := by unfold fJ0_length_1003 fJ0_coder_1003; decide
  unfold f7_isWord_2_1003 wd_
  rw [k3, k2, k1, el, pk_sub tb.1, show (1 : Int32) = nI 1 from rfl]
  by_cases q : tkk_ b E s = 1
  · rw [if_pos (by rw [q]), decide_eq_true q, Bool.true_and]
    by_cases q2 : tke_ b E s - s = 5
    · rw [if_pos (by rw [q2]), decide_eq_true (show tke_ b E s - s = ([115, 108, 97, 99, 107] : List Nat).length from q2), Bool.true_and]
      refine wlp_ (L := f7_isWord_2_1003_L28) (M := M) (b := b) (s := s) [115, 108, 97, 99, 107] 0 cd_fu (fun i hi => (byteC h (by have hi : i < 5 := hi; omega)).2) (by decide) ?_ (by unfold cd_fu; decide)
      refine ⟨fun f => ?_, fun f => ?_, fun f => ?_, fun f => ?_, fun f => ?_, fun f => ?_⟩
      · rw [f7_isWord_2_1003_L28, el, if_neg (by decide), k1, nI_add, (byteC h (i := s + 0) (by omega)).1, bind_p, show fJ0_charAt_1003 (nI 0) M = some (nI 115) from rfl, bind_p]
        simp only [cd_lt_p]
        rw [nI_1]
      · rw [f7_isWord_2_1003_L28, el, if_neg (by decide), k1, nI_add, (byteC h (i := s + 1) (by omega)).1, bind_p, show fJ0_charAt_1003 (nI 1) M = some (nI 108) from rfl, bind_p]
        simp only [cd_lt_p]
        rw [nI_1]
      · rw [f7_isWord_2_1003_L28, el, if_neg (by decide), k1, nI_add, (byteC h (i := s + 2) (by omega)).1, bind_p, show fJ0_charAt_1003 (nI 2) M = some (nI 97) from rfl, bind_p]
        simp only [cd_lt_p]
        rw [nI_1]
      · rw [f7_isWord_2_1003_L28, el, if_neg (by decide), k1, nI_add, (byteC h (i := s + 3) (by omega)).1, bind_p, show fJ0_charAt_1003 (nI 3) M = some (nI 99) from rfl, bind_p]
        simp only [cd_lt_p]
        rw [nI_1]
      · rw [f7_isWord_2_1003_L28, el, if_neg (by decide), k1, nI_add, (byteC h (i := s + 4) (by omega)).1, bind_p, show fJ0_charAt_1003 (nI 4) M = some (nI 107) from rfl, bind_p]
        simp only [cd_lt_p]
        rw [nI_1]
      · rw [f7_isWord_2_1003_L28, el, if_pos (by decide)]
    · rw [if_neg (fun z => q2 ((nI_eq (by omega) (by decide)).mp z)), decide_eq_false (show ¬ tke_ b E s - s = ([115, 108, 97, 99, 107] : List Nat).length from q2), Bool.false_and, if_neg (by decide)]
  · rw [if_neg (fun z => q ((nI_eq (by omega) (by decide)).mp z)), decide_eq_false q, Bool.false_and, if_neg (by decide)]
theorem wm_slack {N : cd_M} (h : PBm N b E) (k : MKt N b E s) : f11_isWord_15 115 108 97 99 107 0 0 N = some (if wd_ b E s [115, 108, 97, 99, 107] = true then 1 else 0) := by
  obtain ⟨k1, k2, k3, k4, k5⟩ := k
  have tb := tke_b (b := b) k5
  have kl := tkk_le (b := b) (E := E) (s := s)
  have hE := h.2.1
  unfold f11_isWord_15 wd_
  rw [k3, show (1 : Int32) = nI 1 from rfl]
  by_cases q : tkk_ b E s = 1
  · rw [if_pos (by rw [q]), decide_eq_true q, Bool.true_and]
    rw [if_neg (by decide), if_neg (by decide), if_pos (show (0 : Int32) = 0 from rfl)]
    unfold f11_isWord_15_L49 f11_isWord_15_L128 f11_isWord_15_L149 f11_isWord_15_L171
    rw [k2, k1, pk_sub tb.1, show (5 : Int32) = nI 5 from rfl]
    by_cases q2 : tke_ b E s - s = 5
    · rw [if_pos (by rw [q2]), decide_eq_true (show tke_ b E s - s = ([115, 108, 97, 99, 107] : List Nat).length from q2), Bool.true_and]
      have ew : wdm_ b s [115, 108, 97, 99, 107] = (decide (b s = 115) && (decide (b (s + 1) = 108) && (decide (b (s + 2) = 97) && (decide (b (s + 3) = 99) && (decide (b (s + 4) = 107) && true))))) := rfl
      rw [ew]
      have s0 : f11_see_15 (nI s) N = some (nI (b s)) := by rw [seeM h (by omega), if_pos (show s < E by omega)]
      have x0 := (h.2.2 s (by omega)).1
      have s1 : f11_see_15 (nI s + 1) N = some (nI (b (s + 1))) := by rw [show nI s + 1 = nI (s + 1) from nI_add s 1, seeM h (by omega), if_pos (show s + 1 < E by omega)]
      have x1 := (h.2.2 (s + 1) (by omega)).1
      have s2 : f11_see_15 (nI s + 2) N = some (nI (b (s + 2))) := by rw [show nI s + 2 = nI (s + 2) from nI_add s 2, seeM h (by omega), if_pos (show s + 2 < E by omega)]
      have x2 := (h.2.2 (s + 2) (by omega)).1
      have s3 : f11_see_15 (nI s + 3) N = some (nI (b (s + 3))) := by rw [show nI s + 3 = nI (s + 3) from nI_add s 3, seeM h (by omega), if_pos (show s + 3 < E by omega)]
      have x3 := (h.2.2 (s + 3) (by omega)).1
      have s4 : f11_see_15 (nI s + 4) N = some (nI (b (s + 4))) := by rw [show nI s + 4 = nI (s + 4) from nI_add s 4, seeM h (by omega), if_pos (show s + 4 < E by omega)]
      have x4 := (h.2.2 (s + 4) (by omega)).1
      rw [s0, bind_p]
      by_cases c0 : b s = 115
      · rw [if_pos (show nI (b s) = 115 by rw [c0]; rfl), decide_eq_true c0, Bool.true_and]
        rw [s1, bind_p]
        by_cases c1 : b (s + 1) = 108
        · rw [if_pos (show nI (b (s + 1)) = 108 by rw [c1]; rfl), decide_eq_true c1, Bool.true_and]
          rw [s2, bind_p]
          by_cases c2 : b (s + 2) = 97
          · rw [if_pos (show nI (b (s + 2)) = 97 by rw [c2]; rfl), decide_eq_true c2, Bool.true_and]
            rw [if_neg (by decide), s3, bind_p]
            by_cases c3 : b (s + 3) = 99
            · rw [if_pos (show nI (b (s + 3)) = 99 by rw [c3]; rfl), decide_eq_true c3, Bool.true_and]
              rw [if_neg (by decide), s4, bind_p]
              by_cases c4 : b (s + 4) = 107
              · rw [if_pos (show nI (b (s + 4)) = 107 by rw [c4]; rfl), decide_eq_true c4, Bool.true_and]
                rw [if_pos (by decide), if_pos (by decide), if_pos rfl]
                rfl
              · rw [if_neg (show ¬ nI (b (s + 4)) = 107 from fun z => c4 ((nI_eq (b := 107) (by omega) (by decide)).mp z)), decide_eq_false c4, Bool.false_and, if_neg (by decide)]
            · rw [if_neg (show ¬ nI (b (s + 3)) = 99 from fun z => c3 ((nI_eq (b := 99) (by omega) (by decide)).mp z)), decide_eq_false c3, Bool.false_and, if_neg (by decide)]
          · rw [if_neg (show ¬ nI (b (s + 2)) = 97 from fun z => c2 ((nI_eq (b := 97) (by omega) (by decide)).mp z)), decide_eq_false c2, Bool.false_and, if_neg (by decide)]
        · rw [if_neg (show ¬ nI (b (s + 1)) = 108 from fun z => c1 ((nI_eq (b := 108) (by omega) (by decide)).mp z)), decide_eq_false c1, Bool.false_and, if_neg (by decide)]
      · rw [if_neg (show ¬ nI (b s) = 115 from fun z => c0 ((nI_eq (b := 115) (by omega) (by decide)).mp z)), decide_eq_false c0, Bool.false_and, if_neg (by decide)]
    · rw [if_neg (fun z => q2 ((nI_eq (by omega) (by decide)).mp z)), decide_eq_false (show ¬ tke_ b E s - s = ([115, 108, 97, 99, 107] : List Nat).length from q2), Bool.false_and, if_neg (by decide)]
  · rw [if_neg (fun z => q ((nI_eq (by omega) (by decide)).mp z)), decide_eq_false q, Bool.false_and, if_neg (by decide)]
theorem wc_edit {M : cd_M} (h : PBc M t b E) (k : CK M b E s) : f7_isWord_2_1004 M = some (if wd_ b E s [101, 100, 105, 116] = true then 1 else 0) := by
  obtain ⟨k1, k2, k3, k4, k5⟩ := k
  have tb := tke_b (b := b) k5
  have kl := tkk_le (b := b) (E := E) (s := s)
  have hE : E ≤ 900 := by have := h.1.2.1; have := h.2.2; omega
  have el : fJ0_length_1004 M = nI 4 := by unfold fJ0_length_1004 fJ0_coder_1004; decide
  unfold f7_isWord_2_1004 wd_
  rw [k3, k2, k1, el, pk_sub tb.1, show (1 : Int32) = nI 1 from rfl]
  by_cases q : tkk_ b E s = 1
  · rw [if_pos (by rw [q]), decide_eq_true q, Bool.true_and]
    by_cases q2 : tke_ b E s - s = 4
    · rw [if_pos (by rw [q2]), decide_eq_true (show tke_ b E s - s = ([101, 100, 105, 116] : List Nat).length from q2), Bool.true_and]
      refine wlp_ (L := f7_isWord_2_1004_L28) (M := M) (b := b) (s := s) [101, 100, 105, 116] 0 cd_fu (fun i hi => (byteC h (by have hi : i < 4 := hi; omega)).2) (by decide) ?_ (by unfold cd_fu; decide)
      refine ⟨fun f => ?_, fun f => ?_, fun f => ?_, fun f => ?_, fun f => ?_⟩
      · rw [f7_isWord_2_1004_L28, el, if_neg (by decide), k1, nI_add, (byteC h (i := s + 0) (by omega)).1, bind_p, show fJ0_charAt_1004 (nI 0) M = some (nI 101) from rfl, bind_p]
        simp only [cd_lt_p]
        rw [nI_1]
      · rw [f7_isWord_2_1004_L28, el, if_neg (by decide), k1, nI_add, (byteC h (i := s + 1) (by omega)).1, bind_p, show fJ0_charAt_1004 (nI 1) M = some (nI 100) from rfl, bind_p]
        simp only [cd_lt_p]
        rw [nI_1]
      · rw [f7_isWord_2_1004_L28, el, if_neg (by decide), k1, nI_add, (byteC h (i := s + 2) (by omega)).1, bind_p, show fJ0_charAt_1004 (nI 2) M = some (nI 105) from rfl, bind_p]
        simp only [cd_lt_p]
        rw [nI_1]
      · rw [f7_isWord_2_1004_L28, el, if_neg (by decide), k1, nI_add, (byteC h (i := s + 3) (by omega)).1, bind_p, show fJ0_charAt_1004 (nI 3) M = some (nI 116) from rfl, bind_p]
        simp only [cd_lt_p]
        rw [nI_1]
      · rw [f7_isWord_2_1004_L28, el, if_pos (by decide)]
    · rw [if_neg (fun z => q2 ((nI_eq (by omega) (by decide)).mp z)), decide_eq_false (show ¬ tke_ b E s - s = ([101, 100, 105, 116] : List Nat).length from q2), Bool.false_and, if_neg (by decide)]
  · rw [if_neg (fun z => q ((nI_eq (by omega) (by decide)).mp z)), decide_eq_false q, Bool.false_and, if_neg (by decide)]
theorem wm_edit {N : cd_M} (h : PBm N b E) (k : MKt N b E s) : f11_isWord_15 101 100 105 116 0 0 0 N = some (if wd_ b E s [101, 100, 105, 116] = true then 1 else 0) := by
  obtain ⟨k1, k2, k3, k4, k5⟩ := k
  have tb := tke_b (b := b) k5
  have kl := tkk_le (b := b) (E := E) (s := s)
  have hE := h.2.1
  unfold f11_isWord_15 wd_
  rw [k3, show (1 : Int32) = nI 1 from rfl]
  by_cases q : tkk_ b E s = 1
  · rw [if_pos (by rw [q]), decide_eq_true q, Bool.true_and]
    rw [if_neg (by decide), if_pos (show (0 : Int32) = 0 from rfl)]
    unfold f11_isWord_15_L49 f11_isWord_15_L128 f11_isWord_15_L149 f11_isWord_15_L171
    rw [k2, k1, pk_sub tb.1, show (4 : Int32) = nI 4 from rfl]
    by_cases q2 : tke_ b E s - s = 4
    · rw [if_pos (by rw [q2]), decide_eq_true (show tke_ b E s - s = ([101, 100, 105, 116] : List Nat).length from q2), Bool.true_and]
      have ew : wdm_ b s [101, 100, 105, 116] = (decide (b s = 101) && (decide (b (s + 1) = 100) && (decide (b (s + 2) = 105) && (decide (b (s + 3) = 116) && true)))) := rfl
      rw [ew]
      have s0 : f11_see_15 (nI s) N = some (nI (b s)) := by rw [seeM h (by omega), if_pos (show s < E by omega)]
      have x0 := (h.2.2 s (by omega)).1
      have s1 : f11_see_15 (nI s + 1) N = some (nI (b (s + 1))) := by rw [show nI s + 1 = nI (s + 1) from nI_add s 1, seeM h (by omega), if_pos (show s + 1 < E by omega)]
      have x1 := (h.2.2 (s + 1) (by omega)).1
      have s2 : f11_see_15 (nI s + 2) N = some (nI (b (s + 2))) := by rw [show nI s + 2 = nI (s + 2) from nI_add s 2, seeM h (by omega), if_pos (show s + 2 < E by omega)]
      have x2 := (h.2.2 (s + 2) (by omega)).1
      have s3 : f11_see_15 (nI s + 3) N = some (nI (b (s + 3))) := by rw [show nI s + 3 = nI (s + 3) from nI_add s 3, seeM h (by omega), if_pos (show s + 3 < E by omega)]
      have x3 := (h.2.2 (s + 3) (by omega)).1
      rw [s0, bind_p]
      by_cases c0 : b s = 101
      · rw [if_pos (show nI (b s) = 101 by rw [c0]; rfl), decide_eq_true c0, Bool.true_and]
        rw [s1, bind_p]
        by_cases c1 : b (s + 1) = 100
        · rw [if_pos (show nI (b (s + 1)) = 100 by rw [c1]; rfl), decide_eq_true c1, Bool.true_and]
          rw [s2, bind_p]
          by_cases c2 : b (s + 2) = 105
          · rw [if_pos (show nI (b (s + 2)) = 105 by rw [c2]; rfl), decide_eq_true c2, Bool.true_and]
            rw [if_neg (by decide), s3, bind_p]
            by_cases c3 : b (s + 3) = 116
            · rw [if_pos (show nI (b (s + 3)) = 116 by rw [c3]; rfl), decide_eq_true c3, Bool.true_and]
              rw [if_pos (by decide), if_pos (by decide), if_pos (by decide), if_pos rfl]
              rfl
            · rw [if_neg (show ¬ nI (b (s + 3)) = 116 from fun z => c3 ((nI_eq (b := 116) (by omega) (by decide)).mp z)), decide_eq_false c3, Bool.false_and, if_neg (by decide)]
          · rw [if_neg (show ¬ nI (b (s + 2)) = 105 from fun z => c2 ((nI_eq (b := 105) (by omega) (by decide)).mp z)), decide_eq_false c2, Bool.false_and, if_neg (by decide)]
        · rw [if_neg (show ¬ nI (b (s + 1)) = 100 from fun z => c1 ((nI_eq (b := 100) (by omega) (by decide)).mp z)), decide_eq_false c1, Bool.false_and, if_neg (by decide)]
      · rw [if_neg (show ¬ nI (b s) = 101 from fun z => c0 ((nI_eq (b := 101) (by omega) (by decide)).mp z)), decide_eq_false c0, Bool.false_and, if_neg (by decide)]
    · rw [if_neg (fun z => q2 ((nI_eq (by omega) (by decide)).mp z)), decide_eq_false (show ¬ tke_ b E s - s = ([101, 100, 105, 116] : List Nat).length from q2), Bool.false_and, if_neg (by decide)]
  · rw [if_neg (fun z => q ((nI_eq (by omega) (by decide)).mp z)), decide_eq_false q, Bool.false_and, if_neg (by decide)]
theorem wc_still {M : cd_M} (h : PBc M t b E) (k : CK M b E s) : f7_isWord_2_1005 M = some (if wd_ b E s [115, 116, 105, 108, 108] = true then 1 else 0) := by
  obtain ⟨k1, k2, k3, k4, k5⟩ := k
  have tb := tke_b (b := b) k5
  have kl := tkk_le (b := b) (E := E) (s := s)
  have hE : E ≤ 900 := by have := h.1.2.1; have := h.2.2; omega
  have el : fJ0_length_1005 M = nI 5 := by unfold fJ0_length_1005 fJ0_coder_1005; decide
  unfold f7_isWord_2_1005 wd_
  rw [k3, k2, k1, el, pk_sub tb.1, show (1 : Int32) = nI 1 from rfl]
  by_cases q : tkk_ b E s = 1
  · rw [if_pos (by rw [q]), decide_eq_true q, Bool.true_and]
    by_cases q2 : tke_ b E s - s = 5
    · rw [if_pos (by rw [q2]), decide_eq_true (show tke_ b E s - s = ([115, 116, 105, 108, 108] : List Nat).length from q2), Bool.true_and]
      refine wlp_ (L := f7_isWord_2_1005_L28) (M := M) (b := b) (s := s) [115, 116, 105, 108, 108] 0 cd_fu (fun i hi => (byteC h (by have hi : i < 5 := hi; omega)).2) (by decide) ?_ (by unfold cd_fu; decide)
      refine ⟨fun f => ?_, fun f => ?_, fun f => ?_, fun f => ?_, fun f => ?_, fun f => ?_⟩
      · rw [f7_isWord_2_1005_L28, el, if_neg (by decide), k1, nI_add, (byteC h (i := s + 0) (by omega)).1, bind_p, show fJ0_charAt_1005 (nI 0) M = some (nI 115) from rfl, bind_p]
        simp only [cd_lt_p]
        rw [nI_1]
      · rw [f7_isWord_2_1005_L28, el, if_neg (by decide), k1, nI_add, (byteC h (i := s + 1) (by omega)).1, bind_p, show fJ0_charAt_1005 (nI 1) M = some (nI 116) from rfl, bind_p]
        simp only [cd_lt_p]
        rw [nI_1]
      · rw [f7_isWord_2_1005_L28, el, if_neg (by decide), k1, nI_add, (byteC h (i := s + 2) (by omega)).1, bind_p, show fJ0_charAt_1005 (nI 2) M = some (nI 105) from rfl, bind_p]
        simp only [cd_lt_p]
        rw [nI_1]
      · rw [f7_isWord_2_1005_L28, el, if_neg (by decide), k1, nI_add, (byteC h (i := s + 3) (by omega)).1, bind_p, show fJ0_charAt_1005 (nI 3) M = some (nI 108) from rfl, bind_p]
        simp only [cd_lt_p]
        rw [nI_1]
      · rw [f7_isWord_2_1005_L28, el, if_neg (by decide), k1, nI_add, (byteC h (i := s + 4) (by omega)).1, bind_p, show fJ0_charAt_1005 (nI 4) M = some (nI 108) from rfl, bind_p]
        simp only [cd_lt_p]
        rw [nI_1]
      · rw [f7_isWord_2_1005_L28, el, if_pos (by decide)]
    · rw [if_neg (fun z => q2 ((nI_eq (by omega) (by decide)).mp z)), decide_eq_false (show ¬ tke_ b E s - s = ([115, 116, 105, 108, 108] : List Nat).length from q2), Bool.false_and, if_neg (by decide)]
  · rw [if_neg (fun z => q ((nI_eq (by omega) (by decide)).mp z)), decide_eq_false q, Bool.false_and, if_neg (by decide)]
theorem wm_still {N : cd_M} (h : PBm N b E) (k : MKt N b E s) : f11_isWord_15 115 116 105 108 108 0 0 N = some (if wd_ b E s [115, 116, 105, 108, 108] = true then 1 else 0) := by
  obtain ⟨k1, k2, k3, k4, k5⟩ := k
  have tb := tke_b (b := b) k5
  have kl := tkk_le (b := b) (E := E) (s := s)
  have hE := h.2.1
  unfold f11_isWord_15 wd_
  rw [k3, show (1 : Int32) = nI 1 from rfl]
  by_cases q : tkk_ b E s = 1
  · rw [if_pos (by rw [q]), decide_eq_true q, Bool.true_and]
    rw [if_neg (by decide), if_neg (by decide), if_pos (show (0 : Int32) = 0 from rfl)]
    unfold f11_isWord_15_L49 f11_isWord_15_L128 f11_isWord_15_L149 f11_isWord_15_L171
    rw [k2, k1, pk_sub tb.1, show (5 : Int32) = nI 5 from rfl]
    by_cases q2 : tke_ b E s - s = 5
    · rw [if_pos (by rw [q2]), decide_eq_true (show tke_ b E s - s = ([115, 116, 105, 108, 108] : List Nat).length from q2), Bool.true_and]
      have ew : wdm_ b s [115, 116, 105, 108, 108] = (decide (b s = 115) && (decide (b (s + 1) = 116) && (decide (b (s + 2) = 105) && (decide (b (s + 3) = 108) && (decide (b (s + 4) = 108) && true))))) := rfl
      rw [ew]
      have s0 : f11_see_15 (nI s) N = some (nI (b s)) := by rw [seeM h (by omega), if_pos (show s < E by omega)]
      have x0 := (h.2.2 s (by omega)).1
      have s1 : f11_see_15 (nI s + 1) N = some (nI (b (s + 1))) := by rw [show nI s + 1 = nI (s + 1) from nI_add s 1, seeM h (by omega), if_pos (show s + 1 < E by omega)]
      have x1 := (h.2.2 (s + 1) (by omega)).1
      have s2 : f11_see_15 (nI s + 2) N = some (nI (b (s + 2))) := by rw [show nI s + 2 = nI (s + 2) from nI_add s 2, seeM h (by omega), if_pos (show s + 2 < E by omega)]
      have x2 := (h.2.2 (s + 2) (by omega)).1
      have s3 : f11_see_15 (nI s + 3) N = some (nI (b (s + 3))) := by rw [show nI s + 3 = nI (s + 3) from nI_add s 3, seeM h (by omega), if_pos (show s + 3 < E by omega)]
      have x3 := (h.2.2 (s + 3) (by omega)).1
      have s4 : f11_see_15 (nI s + 4) N = some (nI (b (s + 4))) := by rw [show nI s + 4 = nI (s + 4) from nI_add s 4, seeM h (by omega), if_pos (show s + 4 < E by omega)]
      have x4 := (h.2.2 (s + 4) (by omega)).1
      rw [s0, bind_p]
      by_cases c0 : b s = 115
      · rw [if_pos (show nI (b s) = 115 by rw [c0]; rfl), decide_eq_true c0, Bool.true_and]
        rw [s1, bind_p]
        by_cases c1 : b (s + 1) = 116
        · rw [if_pos (show nI (b (s + 1)) = 116 by rw [c1]; rfl), decide_eq_true c1, Bool.true_and]
          rw [s2, bind_p]
          by_cases c2 : b (s + 2) = 105
          · rw [if_pos (show nI (b (s + 2)) = 105 by rw [c2]; rfl), decide_eq_true c2, Bool.true_and]
            rw [if_neg (by decide), s3, bind_p]
            by_cases c3 : b (s + 3) = 108
            · rw [if_pos (show nI (b (s + 3)) = 108 by rw [c3]; rfl), decide_eq_true c3, Bool.true_and]
              rw [if_neg (by decide), s4, bind_p]
              by_cases c4 : b (s + 4) = 108
              · rw [if_pos (show nI (b (s + 4)) = 108 by rw [c4]; rfl), decide_eq_true c4, Bool.true_and]
                rw [if_pos (by decide), if_pos (by decide), if_pos rfl]
                rfl
              · rw [if_neg (show ¬ nI (b (s + 4)) = 108 from fun z => c4 ((nI_eq (b := 108) (by omega) (by decide)).mp z)), decide_eq_false c4, Bool.false_and, if_neg (by decide)]
            · rw [if_neg (show ¬ nI (b (s + 3)) = 108 from fun z => c3 ((nI_eq (b := 108) (by omega) (by decide)).mp z)), decide_eq_false c3, Bool.false_and, if_neg (by decide)]
          · rw [if_neg (show ¬ nI (b (s + 2)) = 105 from fun z => c2 ((nI_eq (b := 105) (by omega) (by decide)).mp z)), decide_eq_false c2, Bool.false_and, if_neg (by decide)]
        · rw [if_neg (show ¬ nI (b (s + 1)) = 116 from fun z => c1 ((nI_eq (b := 116) (by omega) (by decide)).mp z)), decide_eq_false c1, Bool.false_and, if_neg (by decide)]
      · rw [if_neg (show ¬ nI (b s) = 115 from fun z => c0 ((nI_eq (b := 115) (by omega) (by decide)).mp z)), decide_eq_false c0, Bool.false_and, if_neg (by decide)]
    · rw [if_neg (fun z => q2 ((nI_eq (by omega) (by decide)).mp z)), decide_eq_false (show ¬ tke_ b E s - s = ([115, 116, 105, 108, 108] : List Nat).length from q2), Bool.false_and, if_neg (by decide)]
  · rw [if_neg (fun z => q ((nI_eq (by omega) (by decide)).mp z)), decide_eq_false q, Bool.false_and, if_neg (by decide)]
theorem wc_mate {M : cd_M} (h : PBc M t b E) (k : CK M b E s) : f7_isWord_2_1006 M = some (if wd_ b E s [109, 97, 116, 101] = true then 1 else 0) := by
  obtain ⟨k1, k2, k3, k4, k5⟩ := k
  have tb := tke_b (b := b) k5
  have kl := tkk_le (b := b) (E := E) (s := s)
  have hE : E ≤ 900 := by have := h.1.2.1; have := h.2.2; omega
  have el : fJ0_length_1006 M = nI 4 := by unfold fJ0_length_1006 fJ0_coder_1006; decide
  unfold f7_isWord_2_1006 wd_
  rw [k3, k2, k1, el, pk_sub tb.1, show (1 : Int32) = nI 1 from rfl]
  by_cases q : tkk_ b E s = 1
  · rw [if_pos (by rw [q]), decide_eq_true q, Bool.true_and]
    by_cases q2 : tke_ b E s - s = 4
    · rw [if_pos (by rw [q2]), decide_eq_true (show tke_ b E s - s = ([109, 97, 116, 101] : List Nat).length from q2), Bool.true_and]
      refine wlp_ (L := f7_isWord_2_1006_L28) (M := M) (b := b) (s := s) [109, 97, 116, 101] 0 cd_fu (fun i hi => (byteC h (by have hi : i < 4 := hi; omega)).2) (by decide) ?_ (by unfold cd_fu; decide)
      refine ⟨fun f => ?_, fun f => ?_, fun f => ?_, fun f => ?_, fun f => ?_⟩
      · rw [f7_isWord_2_1006_L28, el, if_neg (by decide), k1, nI_add, (byteC h (i := s + 0) (by omega)).1, bind_p, show fJ0_charAt_1006 (nI 0) M = some (nI 109) from rfl, bind_p]
        simp only [cd_lt_p]
        rw [nI_1]
      · rw [f7_isWord_2_1006_L28, el, if_neg (by decide), k1, nI_add, (byteC h (i := s + 1) (by omega)).1, bind_p, show fJ0_charAt_1006 (nI 1) M = some (nI 97) from rfl, bind_p]
        simp only [cd_lt_p]
        rw [nI_1]
      · rw [f7_isWord_2_1006_L28, el, if_neg (by decide), k1, nI_add, (byteC h (i := s + 2) (by omega)).1, bind_p, show fJ0_charAt_1006 (nI 2) M = some (nI 116) from rfl, bind_p]
        simp only [cd_lt_p]
        rw [nI_1]
      · rw [f7_isWord_2_1006_L28, el, if_neg (by decide), k1, nI_add, (byteC h (i := s + 3) (by omega)).1, bind_p, show fJ0_charAt_1006 (nI 3) M = some (nI 101) from rfl, bind_p]
        simp only [cd_lt_p]
        rw [nI_1]
      · rw [f7_isWord_2_1006_L28, el, if_pos (by decide)]
    · rw [if_neg (fun z => q2 ((nI_eq (by omega) (by decide)).mp z)), decide_eq_false (show ¬ tke_ b E s - s = ([109, 97, 116, 101] : List Nat).length from q2), Bool.false_and, if_neg (by decide)]
  · rw [if_neg (fun z => q ((nI_eq (by omega) (by decide)).mp z)), decide_eq_false q, Bool.false_and, if_neg (by decide)]
theorem wm_mate {N : cd_M} (h : PBm N b E) (k : MKt N b E s) : f11_isWord_15 109 97 116 101 0 0 0 N = some (if wd_ b E s [109, 97, 116, 101] = true then 1 else 0) := by
  obtain ⟨k1, k2, k3, k4, k5⟩ := k
  have tb := tke_b (b := b) k5
  have kl := tkk_le (b := b) (E := E) (s := s)
  have hE := h.2.1
  unfold f11_isWord_15 wd_
  rw [k3, show (1 : Int32) = nI 1 from rfl]
  by_cases q : tkk_ b E s = 1
  · rw [if_pos (by rw [q]), decide_eq_true q, Bool.true_and]
    rw [if_neg (by decide), if_pos (show (0 : Int32) = 0 from rfl)]
    unfold f11_isWord_15_L49 f11_isWord_15_L128 f11_isWord_15_L149 f11_isWord_15_L171
    rw [k2, k1, pk_sub tb.1, show (4 : Int32) = nI 4 from rfl]
    by_cases q2 : tke_ b E s - s = 4
    · rw [if_pos (by rw [q2]), decide_eq_true (show tke_ b E s - s = ([109, 97, 116, 101] : List Nat).length from q2), Bool.true_and]
      have ew : wdm_ b s [109, 97, 116, 101] = (decide (b s = 109) && (decide (b (s + 1) = 97) && (decide (b (s + 2) = 116) && (decide (b (s + 3) = 101) && true)))) := rfl
      rw [ew]
      have s0 : f11_see_15 (nI s) N = some (nI (b s)) := by rw [seeM h (by omega), if_pos (show s < E by omega)]
      have x0 := (h.2.2 s (by omega)).1
      have s1 : f11_see_15 (nI s + 1) N = some (nI (b (s + 1))) := by rw [show nI s + 1 = nI (s + 1) from nI_add s 1, seeM h (by omega), if_pos (show s + 1 < E by omega)]
      have x1 := (h.2.2 (s + 1) (by omega)).1
      have s2 : f11_see_15 (nI s + 2) N = some (nI (b (s + 2))) := by rw [show nI s + 2 = nI (s + 2) from nI_add s 2, seeM h (by omega), if_pos (show s + 2 < E by omega)]
      have x2 := (h.2.2 (s + 2) (by omega)).1
      have s3 : f11_see_15 (nI s + 3) N = some (nI (b (s + 3))) := by rw [show nI s + 3 = nI (s + 3) from nI_add s 3, seeM h (by omega), if_pos (show s + 3 < E by omega)]
      have x3 := (h.2.2 (s + 3) (by omega)).1
      rw [s0, bind_p]
      by_cases c0 : b s = 109
      · rw [if_pos (show nI (b s) = 109 by rw [c0]; rfl), decide_eq_true c0, Bool.true_and]
        rw [s1, bind_p]
        by_cases c1 : b (s + 1) = 97
        · rw [if_pos (show nI (b (s + 1)) = 97 by rw [c1]; rfl), decide_eq_true c1, Bool.true_and]
          rw [s2, bind_p]
          by_cases c2 : b (s + 2) = 116
          · rw [if_pos (show nI (b (s + 2)) = 116 by rw [c2]; rfl), decide_eq_true c2, Bool.true_and]
            rw [if_neg (by decide), s3, bind_p]
            by_cases c3 : b (s + 3) = 101
            · rw [if_pos (show nI (b (s + 3)) = 101 by rw [c3]; rfl), decide_eq_true c3, Bool.true_and]
              rw [if_pos (by decide), if_pos (by decide), if_pos (by decide), if_pos rfl]
              rfl
            · rw [if_neg (show ¬ nI (b (s + 3)) = 101 from fun z => c3 ((nI_eq (b := 101) (by omega) (by decide)).mp z)), decide_eq_false c3, Bool.false_and, if_neg (by decide)]
          · rw [if_neg (show ¬ nI (b (s + 2)) = 116 from fun z => c2 ((nI_eq (b := 116) (by omega) (by decide)).mp z)), decide_eq_false c2, Bool.false_and, if_neg (by decide)]
        · rw [if_neg (show ¬ nI (b (s + 1)) = 97 from fun z => c1 ((nI_eq (b := 97) (by omega) (by decide)).mp z)), decide_eq_false c1, Bool.false_and, if_neg (by decide)]
      · rw [if_neg (show ¬ nI (b s) = 109 from fun z => c0 ((nI_eq (b := 109) (by omega) (by decide)).mp z)), decide_eq_false c0, Bool.false_and, if_neg (by decide)]
    · rw [if_neg (fun z => q2 ((nI_eq (by omega) (by decide)).mp z)), decide_eq_false (show ¬ tke_ b E s - s = ([109, 97, 116, 101] : List Nat).length from q2), Bool.false_and, if_neg (by decide)]
  · rw [if_neg (fun z => q ((nI_eq (by omega) (by decide)).mp z)), decide_eq_false q, Bool.false_and, if_neg (by decide)]
theorem wc_measure {M : cd_M} (h : PBc M t b E) (k : CK M b E s) : f7_isWord_2_1007 M = some (if wd_ b E s [109, 101, 97, 115, 117, 114, 101] = true then 1 else 0) := by
  obtain ⟨k1, k2, k3, k4, k5⟩ := k
  have tb := tke_b (b := b) k5
  have kl := tkk_le (b := b) (E := E) (s := s)
  have hE : E ≤ 900 := by have := h.1.2.1; have := h.2.2; omega
  have el : fJ0_length_1007 M = nI 7 := by unfold fJ0_length_1007 fJ0_coder_1007; decide
  unfold f7_isWord_2_1007 wd_
  rw [k3, k2, k1, el, pk_sub tb.1, show (1 : Int32) = nI 1 from rfl]
  by_cases q : tkk_ b E s = 1
  · rw [if_pos (by rw [q]), decide_eq_true q, Bool.true_and]
    by_cases q2 : tke_ b E s - s = 7
    · rw [if_pos (by rw [q2]), decide_eq_true (show tke_ b E s - s = ([109, 101, 97, 115, 117, 114, 101] : List Nat).length from q2), Bool.true_and]
      refine wlp_ (L := f7_isWord_2_1007_L28) (M := M) (b := b) (s := s) [109, 101, 97, 115, 117, 114, 101] 0 cd_fu (fun i hi => (byteC h (by have hi : i < 7 := hi; omega)).2) (by decide) ?_ (by unfold cd_fu; decide)
      refine ⟨fun f => ?_, fun f => ?_, fun f => ?_, fun f => ?_, fun f => ?_, fun f => ?_, fun f => ?_, fun f => ?_⟩
      · rw [f7_isWord_2_1007_L28, el, if_neg (by decide), k1, nI_add, (byteC h (i := s + 0) (by omega)).1, bind_p, show fJ0_charAt_1007 (nI 0) M = some (nI 109) from rfl, bind_p]
        simp only [cd_lt_p]
        rw [nI_1]
      · rw [f7_isWord_2_1007_L28, el, if_neg (by decide), k1, nI_add, (byteC h (i := s + 1) (by omega)).1, bind_p, show fJ0_charAt_1007 (nI 1) M = some (nI 101) from rfl, bind_p]
        simp only [cd_lt_p]
        rw [nI_1]
      · rw [f7_isWord_2_1007_L28, el, if_neg (by decide), k1, nI_add, (byteC h (i := s + 2) (by omega)).1, bind_p, show fJ0_charAt_1007 (nI 2) M = some (nI 97) from rfl, bind_p]
        simp only [cd_lt_p]
        rw [nI_1]
      · rw [f7_isWord_2_1007_L28, el, if_neg (by decide), k1, nI_add, (byteC h (i := s + 3) (by omega)).1, bind_p, show fJ0_charAt_1007 (nI 3) M = some (nI 115) from rfl, bind_p]
        simp only [cd_lt_p]
        rw [nI_1]
      · rw [f7_isWord_2_1007_L28, el, if_neg (by decide), k1, nI_add, (byteC h (i := s + 4) (by omega)).1, bind_p, show fJ0_charAt_1007 (nI 4) M = some (nI 117) from rfl, bind_p]
        simp only [cd_lt_p]
        rw [nI_1]
      · rw [f7_isWord_2_1007_L28, el, if_neg (by decide), k1, nI_add, (byteC h (i := s + 5) (by omega)).1, bind_p, show fJ0_charAt_1007 (nI 5) M = some (nI 114) from rfl, bind_p]
        simp only [cd_lt_p]
        rw [nI_1]
      · rw [f7_isWord_2_1007_L28, el, if_neg (by decide), k1, nI_add, (byteC h (i := s + 6) (by omega)).1, bind_p, show fJ0_charAt_1007 (nI 6) M = some (nI 101) from rfl, bind_p]
        simp only [cd_lt_p]
        rw [nI_1]
      · rw [f7_isWord_2_1007_L28, el, if_pos (by decide)]
    · rw [if_neg (fun z => q2 ((nI_eq (by omega) (by decide)).mp z)), decide_eq_false (show ¬ tke_ b E s - s = ([109, 101, 97, 115, 117, 114, 101] : List Nat).length from q2), Bool.false_and, if_neg (by decide)]
  · rw [if_neg (fun z => q ((nI_eq (by omega) (by decide)).mp z)), decide_eq_false q, Bool.false_and, if_neg (by decide)]
theorem wm_measure {N : cd_M} (h : PBm N b E) (k : MKt N b E s) : f11_isWord_15 109 101 97 115 117 114 101 N = some (if wd_ b E s [109, 101, 97, 115, 117, 114, 101] = true then 1 else 0) := by
  obtain ⟨k1, k2, k3, k4, k5⟩ := k
  have tb := tke_b (b := b) k5
  have kl := tkk_le (b := b) (E := E) (s := s)
  have hE := h.2.1
  unfold f11_isWord_15 wd_
  rw [k3, show (1 : Int32) = nI 1 from rfl]
  by_cases q : tkk_ b E s = 1
  · rw [if_pos (by rw [q]), decide_eq_true q, Bool.true_and]
    rw [if_neg (by decide), if_neg (by decide), if_neg (by decide), if_neg (by decide)]
    unfold f11_isWord_15_L49 f11_isWord_15_L128 f11_isWord_15_L149 f11_isWord_15_L171
    rw [k2, k1, pk_sub tb.1, show (7 : Int32) = nI 7 from rfl]
    by_cases q2 : tke_ b E s - s = 7
    · rw [if_pos (by rw [q2]), decide_eq_true (show tke_ b E s - s = ([109, 101, 97, 115, 117, 114, 101] : List Nat).length from q2), Bool.true_and]
      have ew : wdm_ b s [109, 101, 97, 115, 117, 114, 101] = (decide (b s = 109) && (decide (b (s + 1) = 101) && (decide (b (s + 2) = 97) && (decide (b (s + 3) = 115) && (decide (b (s + 4) = 117) && (decide (b (s + 5) = 114) && (decide (b (s + 6) = 101) && true))))))) := rfl
      rw [ew]
      have s0 : f11_see_15 (nI s) N = some (nI (b s)) := by rw [seeM h (by omega), if_pos (show s < E by omega)]
      have x0 := (h.2.2 s (by omega)).1
      have s1 : f11_see_15 (nI s + 1) N = some (nI (b (s + 1))) := by rw [show nI s + 1 = nI (s + 1) from nI_add s 1, seeM h (by omega), if_pos (show s + 1 < E by omega)]
      have x1 := (h.2.2 (s + 1) (by omega)).1
      have s2 : f11_see_15 (nI s + 2) N = some (nI (b (s + 2))) := by rw [show nI s + 2 = nI (s + 2) from nI_add s 2, seeM h (by omega), if_pos (show s + 2 < E by omega)]
      have x2 := (h.2.2 (s + 2) (by omega)).1
      have s3 : f11_see_15 (nI s + 3) N = some (nI (b (s + 3))) := by rw [show nI s + 3 = nI (s + 3) from nI_add s 3, seeM h (by omega), if_pos (show s + 3 < E by omega)]
      have x3 := (h.2.2 (s + 3) (by omega)).1
      have s4 : f11_see_15 (nI s + 4) N = some (nI (b (s + 4))) := by rw [show nI s + 4 = nI (s + 4) from nI_add s 4, seeM h (by omega), if_pos (show s + 4 < E by omega)]
      have x4 := (h.2.2 (s + 4) (by omega)).1
      have s5 : f11_see_15 (nI s + 5) N = some (nI (b (s + 5))) := by rw [show nI s + 5 = nI (s + 5) from nI_add s 5, seeM h (by omega), if_pos (show s + 5 < E by omega)]
      have x5 := (h.2.2 (s + 5) (by omega)).1
      have s6 : f11_see_15 (nI s + 6) N = some (nI (b (s + 6))) := by rw [show nI s + 6 = nI (s + 6) from nI_add s 6, seeM h (by omega), if_pos (show s + 6 < E by omega)]
      have x6 := (h.2.2 (s + 6) (by omega)).1
      rw [s0, bind_p]
      by_cases c0 : b s = 109
      · rw [if_pos (show nI (b s) = 109 by rw [c0]; rfl), decide_eq_true c0, Bool.true_and]
        rw [s1, bind_p]
        by_cases c1 : b (s + 1) = 101
        · rw [if_pos (show nI (b (s + 1)) = 101 by rw [c1]; rfl), decide_eq_true c1, Bool.true_and]
          rw [s2, bind_p]
          by_cases c2 : b (s + 2) = 97
          · rw [if_pos (show nI (b (s + 2)) = 97 by rw [c2]; rfl), decide_eq_true c2, Bool.true_and]
            rw [if_neg (by decide), s3, bind_p]
            by_cases c3 : b (s + 3) = 115
            · rw [if_pos (show nI (b (s + 3)) = 115 by rw [c3]; rfl), decide_eq_true c3, Bool.true_and]
              rw [if_neg (by decide), s4, bind_p]
              by_cases c4 : b (s + 4) = 117
              · rw [if_pos (show nI (b (s + 4)) = 117 by rw [c4]; rfl), decide_eq_true c4, Bool.true_and]
                rw [if_neg (by decide), s5, bind_p]
                by_cases c5 : b (s + 5) = 114
                · rw [if_pos (show nI (b (s + 5)) = 114 by rw [c5]; rfl), decide_eq_true c5, Bool.true_and]
                  rw [if_neg (by decide), s6, bind_p]
                  by_cases c6 : b (s + 6) = 101
                  · rw [if_pos (show nI (b (s + 6)) = 101 by rw [c6]; rfl), decide_eq_true c6, Bool.true_and]
                    rw [if_pos rfl]
                    rfl
                  · rw [if_neg (show ¬ nI (b (s + 6)) = 101 from fun z => c6 ((nI_eq (b := 101) (by omega) (by decide)).mp z)), decide_eq_false c6, Bool.false_and, if_neg (by decide)]
                · rw [if_neg (show ¬ nI (b (s + 5)) = 114 from fun z => c5 ((nI_eq (b := 114) (by omega) (by decide)).mp z)), decide_eq_false c5, Bool.false_and, if_neg (by decide)]
              · rw [if_neg (show ¬ nI (b (s + 4)) = 117 from fun z => c4 ((nI_eq (b := 117) (by omega) (by decide)).mp z)), decide_eq_false c4, Bool.false_and, if_neg (by decide)]
            · rw [if_neg (show ¬ nI (b (s + 3)) = 115 from fun z => c3 ((nI_eq (b := 115) (by omega) (by decide)).mp z)), decide_eq_false c3, Bool.false_and, if_neg (by decide)]
          · rw [if_neg (show ¬ nI (b (s + 2)) = 97 from fun z => c2 ((nI_eq (b := 97) (by omega) (by decide)).mp z)), decide_eq_false c2, Bool.false_and, if_neg (by decide)]
        · rw [if_neg (show ¬ nI (b (s + 1)) = 101 from fun z => c1 ((nI_eq (b := 101) (by omega) (by decide)).mp z)), decide_eq_false c1, Bool.false_and, if_neg (by decide)]
      · rw [if_neg (show ¬ nI (b s) = 109 from fun z => c0 ((nI_eq (b := 109) (by omega) (by decide)).mp z)), decide_eq_false c0, Bool.false_and, if_neg (by decide)]
    · rw [if_neg (fun z => q2 ((nI_eq (by omega) (by decide)).mp z)), decide_eq_false (show ¬ tke_ b E s - s = ([109, 101, 97, 115, 117, 114, 101] : List Nat).length from q2), Bool.false_and, if_neg (by decide)]
  · rw [if_neg (fun z => q ((nI_eq (by omega) (by decide)).mp z)), decide_eq_false q, Bool.false_and, if_neg (by decide)]
theorem wc_sum {M : cd_M} (h : PBc M t b E) (k : CK M b E s) : f7_isWord_2_1008 M = some (if wd_ b E s [115, 117, 109] = true then 1 else 0) := by
  obtain ⟨k1, k2, k3, k4, k5⟩ := k
  have tb := tke_b (b := b) k5
  have kl := tkk_le (b := b) (E := E) (s := s)
  have hE : E ≤ 900 := by have := h.1.2.1; have := h.2.2; omega
  have el : fJ0_length_1008 M = nI 3 := by unfold fJ0_length_1008 fJ0_coder_1008; decide
  unfold f7_isWord_2_1008 wd_
  rw [k3, k2, k1, el, pk_sub tb.1, show (1 : Int32) = nI 1 from rfl]
  by_cases q : tkk_ b E s = 1
  · rw [if_pos (by rw [q]), decide_eq_true q, Bool.true_and]
    by_cases q2 : tke_ b E s - s = 3
    · rw [if_pos (by rw [q2]), decide_eq_true (show tke_ b E s - s = ([115, 117, 109] : List Nat).length from q2), Bool.true_and]
      refine wlp_ (L := f7_isWord_2_1008_L28) (M := M) (b := b) (s := s) [115, 117, 109] 0 cd_fu (fun i hi => (byteC h (by have hi : i < 3 := hi; omega)).2) (by decide) ?_ (by unfold cd_fu; decide)
      refine ⟨fun f => ?_, fun f => ?_, fun f => ?_, fun f => ?_⟩
      · rw [f7_isWord_2_1008_L28, el, if_neg (by decide), k1, nI_add, (byteC h (i := s + 0) (by omega)).1, bind_p, show fJ0_charAt_1008 (nI 0) M = some (nI 115) from rfl, bind_p]
        simp only [cd_lt_p]
        rw [nI_1]
      · rw [f7_isWord_2_1008_L28, el, if_neg (by decide), k1, nI_add, (byteC h (i := s + 1) (by omega)).1, bind_p, show fJ0_charAt_1008 (nI 1) M = some (nI 117) from rfl, bind_p]
        simp only [cd_lt_p]
        rw [nI_1]
      · rw [f7_isWord_2_1008_L28, el, if_neg (by decide), k1, nI_add, (byteC h (i := s + 2) (by omega)).1, bind_p, show fJ0_charAt_1008 (nI 2) M = some (nI 109) from rfl, bind_p]
        simp only [cd_lt_p]
        rw [nI_1]
      · rw [f7_isWord_2_1008_L28, el, if_pos (by decide)]
    · rw [if_neg (fun z => q2 ((nI_eq (by omega) (by decide)).mp z)), decide_eq_false (show ¬ tke_ b E s - s = ([115, 117, 109] : List Nat).length from q2), Bool.false_and, if_neg (by decide)]
  · rw [if_neg (fun z => q ((nI_eq (by omega) (by decide)).mp z)), decide_eq_false q, Bool.false_and, if_neg (by decide)]
theorem wm_sum {N : cd_M} (h : PBm N b E) (k : MKt N b E s) : f11_isWord_15 115 117 109 0 0 0 0 N = some (if wd_ b E s [115, 117, 109] = true then 1 else 0) := by
  obtain ⟨k1, k2, k3, k4, k5⟩ := k
  have tb := tke_b (b := b) k5
  have kl := tkk_le (b := b) (E := E) (s := s)
  have hE := h.2.1
  unfold f11_isWord_15 wd_
  rw [k3, show (1 : Int32) = nI 1 from rfl]
  by_cases q : tkk_ b E s = 1
  · rw [if_pos (by rw [q]), decide_eq_true q, Bool.true_and]
    rw [if_pos (show (0 : Int32) = 0 from rfl)]
    unfold f11_isWord_15_L49 f11_isWord_15_L128 f11_isWord_15_L149 f11_isWord_15_L171
    rw [k2, k1, pk_sub tb.1, show (3 : Int32) = nI 3 from rfl]
    by_cases q2 : tke_ b E s - s = 3
    · rw [if_pos (by rw [q2]), decide_eq_true (show tke_ b E s - s = ([115, 117, 109] : List Nat).length from q2), Bool.true_and]
      have ew : wdm_ b s [115, 117, 109] = (decide (b s = 115) && (decide (b (s + 1) = 117) && (decide (b (s + 2) = 109) && true))) := rfl
      rw [ew]
      have s0 : f11_see_15 (nI s) N = some (nI (b s)) := by rw [seeM h (by omega), if_pos (show s < E by omega)]
      have x0 := (h.2.2 s (by omega)).1
      have s1 : f11_see_15 (nI s + 1) N = some (nI (b (s + 1))) := by rw [show nI s + 1 = nI (s + 1) from nI_add s 1, seeM h (by omega), if_pos (show s + 1 < E by omega)]
      have x1 := (h.2.2 (s + 1) (by omega)).1
      have s2 : f11_see_15 (nI s + 2) N = some (nI (b (s + 2))) := by rw [show nI s + 2 = nI (s + 2) from nI_add s 2, seeM h (by omega), if_pos (show s + 2 < E by omega)]
      have x2 := (h.2.2 (s + 2) (by omega)).1
      rw [s0, bind_p]
      by_cases c0 : b s = 115
      · rw [if_pos (show nI (b s) = 115 by rw [c0]; rfl), decide_eq_true c0, Bool.true_and]
        rw [s1, bind_p]
        by_cases c1 : b (s + 1) = 117
        · rw [if_pos (show nI (b (s + 1)) = 117 by rw [c1]; rfl), decide_eq_true c1, Bool.true_and]
          rw [s2, bind_p]
          by_cases c2 : b (s + 2) = 109
          · rw [if_pos (show nI (b (s + 2)) = 109 by rw [c2]; rfl), decide_eq_true c2, Bool.true_and]
            rw [if_pos (by decide), if_pos (by decide), if_pos (by decide), if_pos (by decide), if_pos rfl]
            rfl
          · rw [if_neg (show ¬ nI (b (s + 2)) = 109 from fun z => c2 ((nI_eq (b := 109) (by omega) (by decide)).mp z)), decide_eq_false c2, Bool.false_and, if_neg (by decide)]
        · rw [if_neg (show ¬ nI (b (s + 1)) = 117 from fun z => c1 ((nI_eq (b := 117) (by omega) (by decide)).mp z)), decide_eq_false c1, Bool.false_and, if_neg (by decide)]
      · rw [if_neg (show ¬ nI (b s) = 115 from fun z => c0 ((nI_eq (b := 115) (by omega) (by decide)).mp z)), decide_eq_false c0, Bool.false_and, if_neg (by decide)]
    · rw [if_neg (fun z => q2 ((nI_eq (by omega) (by decide)).mp z)), decide_eq_false (show ¬ tke_ b E s - s = ([115, 117, 109] : List Nat).length from q2), Bool.false_and, if_neg (by decide)]
  · rw [if_neg (fun z => q ((nI_eq (by omega) (by decide)).mp z)), decide_eq_false q, Bool.false_and, if_neg (by decide)]
theorem wc_most {M : cd_M} (h : PBc M t b E) (k : CK M b E s) : f7_isWord_2_1009 M = some (if wd_ b E s [109, 111, 115, 116] = true then 1 else 0) := by
  obtain ⟨k1, k2, k3, k4, k5⟩ := k
  have tb := tke_b (b := b) k5
  have kl := tkk_le (b := b) (E := E) (s := s)
  have hE : E ≤ 900 := by have := h.1.2.1; have := h.2.2; omega
  have el : fJ0_length_1009 M = nI 4 := by unfold fJ0_length_1009 fJ0_coder_1009; decide
  unfold f7_isWord_2_1009 wd_
  rw [k3, k2, k1, el, pk_sub tb.1, show (1 : Int32) = nI 1 from rfl]
  by_cases q : tkk_ b E s = 1
  · rw [if_pos (by rw [q]), decide_eq_true q, Bool.true_and]
    by_cases q2 : tke_ b E s - s = 4
    · rw [if_pos (by rw [q2]), decide_eq_true (show tke_ b E s - s = ([109, 111, 115, 116] : List Nat).length from q2), Bool.true_and]
      refine wlp_ (L := f7_isWord_2_1009_L28) (M := M) (b := b) (s := s) [109, 111, 115, 116] 0 cd_fu (fun i hi => (byteC h (by have hi : i < 4 := hi; omega)).2) (by decide) ?_ (by unfold cd_fu; decide)
      refine ⟨fun f => ?_, fun f => ?_, fun f => ?_, fun f => ?_, fun f => ?_⟩
      · rw [f7_isWord_2_1009_L28, el, if_neg (by decide), k1, nI_add, (byteC h (i := s + 0) (by omega)).1, bind_p, show fJ0_charAt_1009 (nI 0) M = some (nI 109) from rfl, bind_p]
        simp only [cd_lt_p]
        rw [nI_1]
      · rw [f7_isWord_2_1009_L28, el, if_neg (by decide), k1, nI_add, (byteC h (i := s + 1) (by omega)).1, bind_p, show fJ0_charAt_1009 (nI 1) M = some (nI 111) from rfl, bind_p]
        simp only [cd_lt_p]
        rw [nI_1]
      · rw [f7_isWord_2_1009_L28, el, if_neg (by decide), k1, nI_add, (byteC h (i := s + 2) (by omega)).1, bind_p, show fJ0_charAt_1009 (nI 2) M = some (nI 115) from rfl, bind_p]
        simp only [cd_lt_p]
        rw [nI_1]
      · rw [f7_isWord_2_1009_L28, el, if_neg (by decide), k1, nI_add, (byteC h (i := s + 3) (by omega)).1, bind_p, show fJ0_charAt_1009 (nI 3) M = some (nI 116) from rfl, bind_p]
        simp only [cd_lt_p]
        rw [nI_1]
      · rw [f7_isWord_2_1009_L28, el, if_pos (by decide)]
    · rw [if_neg (fun z => q2 ((nI_eq (by omega) (by decide)).mp z)), decide_eq_false (show ¬ tke_ b E s - s = ([109, 111, 115, 116] : List Nat).length from q2), Bool.false_and, if_neg (by decide)]
  · rw [if_neg (fun z => q ((nI_eq (by omega) (by decide)).mp z)), decide_eq_false q, Bool.false_and, if_neg (by decide)]
theorem wm_most {N : cd_M} (h : PBm N b E) (k : MKt N b E s) : f11_isWord_15 109 111 115 116 0 0 0 N = some (if wd_ b E s [109, 111, 115, 116] = true then 1 else 0) := by
  obtain ⟨k1, k2, k3, k4, k5⟩ := k
  have tb := tke_b (b := b) k5
  have kl := tkk_le (b := b) (E := E) (s := s)
  have hE := h.2.1
  unfold f11_isWord_15 wd_
  rw [k3, show (1 : Int32) = nI 1 from rfl]
  by_cases q : tkk_ b E s = 1
  · rw [if_pos (by rw [q]), decide_eq_true q, Bool.true_and]
    rw [if_neg (by decide), if_pos (show (0 : Int32) = 0 from rfl)]
    unfold f11_isWord_15_L49 f11_isWord_15_L128 f11_isWord_15_L149 f11_isWord_15_L171
    rw [k2, k1, pk_sub tb.1, show (4 : Int32) = nI 4 from rfl]
    by_cases q2 : tke_ b E s - s = 4
    · rw [if_pos (by rw [q2]), decide_eq_true (show tke_ b E s - s = ([109, 111, 115, 116] : List Nat).length from q2), Bool.true_and]
      have ew : wdm_ b s [109, 111, 115, 116] = (decide (b s = 109) && (decide (b (s + 1) = 111) && (decide (b (s + 2) = 115) && (decide (b (s + 3) = 116) && true)))) := rfl
      rw [ew]
      have s0 : f11_see_15 (nI s) N = some (nI (b s)) := by rw [seeM h (by omega), if_pos (show s < E by omega)]
      have x0 := (h.2.2 s (by omega)).1
      have s1 : f11_see_15 (nI s + 1) N = some (nI (b (s + 1))) := by rw [show nI s + 1 = nI (s + 1) from nI_add s 1, seeM h (by omega), if_pos (show s + 1 < E by omega)]
      have x1 := (h.2.2 (s + 1) (by omega)).1
      have s2 : f11_see_15 (nI s + 2) N = some (nI (b (s + 2))) := by rw [show nI s + 2 = nI (s + 2) from nI_add s 2, seeM h (by omega), if_pos (show s + 2 < E by omega)]
      have x2 := (h.2.2 (s + 2) (by omega)).1
      have s3 : f11_see_15 (nI s + 3) N = some (nI (b (s + 3))) := by rw [show nI s + 3 = nI (s + 3) from nI_add s 3, seeM h (by omega), if_pos (show s + 3 < E by omega)]
      have x3 := (h.2.2 (s + 3) (by omega)).1
      rw [s0, bind_p]
      by_cases c0 : b s = 109
      · rw [if_pos (show nI (b s) = 109 by rw [c0]; rfl), decide_eq_true c0, Bool.true_and]
        rw [s1, bind_p]
        by_cases c1 : b (s + 1) = 111
        · rw [if_pos (show nI (b (s + 1)) = 111 by rw [c1]; rfl), decide_eq_true c1, Bool.true_and]
          rw [s2, bind_p]
          by_cases c2 : b (s + 2) = 115
          · rw [if_pos (show nI (b (s + 2)) = 115 by rw [c2]; rfl), decide_eq_true c2, Bool.true_and]
            rw [if_neg (by decide), s3, bind_p]
            by_cases c3 : b (s + 3) = 116
            · rw [if_pos (show nI (b (s + 3)) = 116 by rw [c3]; rfl), decide_eq_true c3, Bool.true_and]
              rw [if_pos (by decide), if_pos (by decide), if_pos (by decide), if_pos rfl]
              rfl
            · rw [if_neg (show ¬ nI (b (s + 3)) = 116 from fun z => c3 ((nI_eq (b := 116) (by omega) (by decide)).mp z)), decide_eq_false c3, Bool.false_and, if_neg (by decide)]
          · rw [if_neg (show ¬ nI (b (s + 2)) = 115 from fun z => c2 ((nI_eq (b := 115) (by omega) (by decide)).mp z)), decide_eq_false c2, Bool.false_and, if_neg (by decide)]
        · rw [if_neg (show ¬ nI (b (s + 1)) = 111 from fun z => c1 ((nI_eq (b := 111) (by omega) (by decide)).mp z)), decide_eq_false c1, Bool.false_and, if_neg (by decide)]
      · rw [if_neg (show ¬ nI (b s) = 109 from fun z => c0 ((nI_eq (b := 109) (by omega) (by decide)).mp z)), decide_eq_false c0, Bool.false_and, if_neg (by decide)]
    · rw [if_neg (fun z => q2 ((nI_eq (by omega) (by decide)).mp z)), decide_eq_false (show ¬ tke_ b E s - s = ([109, 111, 115, 116] : List Nat).length from q2), Bool.false_and, if_neg (by decide)]
  · rw [if_neg (fun z => q ((nI_eq (by omega) (by decide)).mp z)), decide_eq_false q, Bool.false_and, if_neg (by decide)]
theorem wc_many {M : cd_M} (h : PBc M t b E) (k : CK M b E s) : f7_isWord_2_1010 M = some (if wd_ b E s [109, 97, 110, 121] = true then 1 else 0) := by
  obtain ⟨k1, k2, k3, k4, k5⟩ := k
  have tb := tke_b (b := b) k5
  have kl := tkk_le (b := b) (E := E) (s := s)
  have hE : E ≤ 900 := by have := h.1.2.1; have := h.2.2; omega
  have el : fJ0_length_1010 M = nI 4 := by unfold fJ0_length_1010 fJ0_coder_1010; decide
  unfold f7_isWord_2_1010 wd_
  rw [k3, k2, k1, el, pk_sub tb.1, show (1 : Int32) = nI 1 from rfl]
  by_cases q : tkk_ b E s = 1
  · rw [if_pos (by rw [q]), decide_eq_true q, Bool.true_and]
    by_cases q2 : tke_ b E s - s = 4
    · rw [if_pos (by rw [q2]), decide_eq_true (show tke_ b E s - s = ([109, 97, 110, 121] : List Nat).length from q2), Bool.true_and]
      refine wlp_ (L := f7_isWord_2_1010_L28) (M := M) (b := b) (s := s) [109, 97, 110, 121] 0 cd_fu (fun i hi => (byteC h (by have hi : i < 4 := hi; omega)).2) (by decide) ?_ (by unfold cd_fu; decide)
      refine ⟨fun f => ?_, fun f => ?_, fun f => ?_, fun f => ?_, fun f => ?_⟩
      · rw [f7_isWord_2_1010_L28, el, if_neg (by decide), k1, nI_add, (byteC h (i := s + 0) (by omega)).1, bind_p, show fJ0_charAt_1010 (nI 0) M = some (nI 109) from rfl, bind_p]
        simp only [cd_lt_p]
        rw [nI_1]
      · rw [f7_isWord_2_1010_L28, el, if_neg (by decide), k1, nI_add, (byteC h (i := s + 1) (by omega)).1, bind_p, show fJ0_charAt_1010 (nI 1) M = some (nI 97) from rfl, bind_p]
        simp only [cd_lt_p]
        rw [nI_1]
      · rw [f7_isWord_2_1010_L28, el, if_neg (by decide), k1, nI_add, (byteC h (i := s + 2) (by omega)).1, bind_p, show fJ0_charAt_1010 (nI 2) M = some (nI 110) from rfl, bind_p]
        simp only [cd_lt_p]
        rw [nI_1]
      · rw [f7_isWord_2_1010_L28, el, if_neg (by decide), k1, nI_add, (byteC h (i := s + 3) (by omega)).1, bind_p, show fJ0_charAt_1010 (nI 3) M = some (nI 121) from rfl, bind_p]
        simp only [cd_lt_p]
        rw [nI_1]
      · rw [f7_isWord_2_1010_L28, el, if_pos (by decide)]
    · rw [if_neg (fun z => q2 ((nI_eq (by omega) (by decide)).mp z)), decide_eq_false (show ¬ tke_ b E s - s = ([109, 97, 110, 121] : List Nat).length from q2), Bool.false_and, if_neg (by decide)]
  · rw [if_neg (fun z => q ((nI_eq (by omega) (by decide)).mp z)), decide_eq_false q, Bool.false_and, if_neg (by decide)]
theorem wm_many {N : cd_M} (h : PBm N b E) (k : MKt N b E s) : f11_isWord_15 109 97 110 121 0 0 0 N = some (if wd_ b E s [109, 97, 110, 121] = true then 1 else 0) := by
  obtain ⟨k1, k2, k3, k4, k5⟩ := k
  have tb := tke_b (b := b) k5
  have kl := tkk_le (b := b) (E := E) (s := s)
  have hE := h.2.1
  unfold f11_isWord_15 wd_
  rw [k3, show (1 : Int32) = nI 1 from rfl]
  by_cases q : tkk_ b E s = 1
  · rw [if_pos (by rw [q]), decide_eq_true q, Bool.true_and]
    rw [if_neg (by decide), if_pos (show (0 : Int32) = 0 from rfl)]
    unfold f11_isWord_15_L49 f11_isWord_15_L128 f11_isWord_15_L149 f11_isWord_15_L171
    rw [k2, k1, pk_sub tb.1, show (4 : Int32) = nI 4 from rfl]
    by_cases q2 : tke_ b E s - s = 4
    · rw [if_pos (by rw [q2]), decide_eq_true (show tke_ b E s - s = ([109, 97, 110, 121] : List Nat).length from q2), Bool.true_and]
      have ew : wdm_ b s [109, 97, 110, 121] = (decide (b s = 109) && (decide (b (s + 1) = 97) && (decide (b (s + 2) = 110) && (decide (b (s + 3) = 121) && true)))) := rfl
      rw [ew]
      have s0 : f11_see_15 (nI s) N = some (nI (b s)) := by rw [seeM h (by omega), if_pos (show s < E by omega)]
      have x0 := (h.2.2 s (by omega)).1
      have s1 : f11_see_15 (nI s + 1) N = some (nI (b (s + 1))) := by rw [show nI s + 1 = nI (s + 1) from nI_add s 1, seeM h (by omega), if_pos (show s + 1 < E by omega)]
      have x1 := (h.2.2 (s + 1) (by omega)).1
      have s2 : f11_see_15 (nI s + 2) N = some (nI (b (s + 2))) := by rw [show nI s + 2 = nI (s + 2) from nI_add s 2, seeM h (by omega), if_pos (show s + 2 < E by omega)]
      have x2 := (h.2.2 (s + 2) (by omega)).1
      have s3 : f11_see_15 (nI s + 3) N = some (nI (b (s + 3))) := by rw [show nI s + 3 = nI (s + 3) from nI_add s 3, seeM h (by omega), if_pos (show s + 3 < E by omega)]
      have x3 := (h.2.2 (s + 3) (by omega)).1
      rw [s0, bind_p]
      by_cases c0 : b s = 109
      · rw [if_pos (show nI (b s) = 109 by rw [c0]; rfl), decide_eq_true c0, Bool.true_and]
        rw [s1, bind_p]
        by_cases c1 : b (s + 1) = 97
        · rw [if_pos (show nI (b (s + 1)) = 97 by rw [c1]; rfl), decide_eq_true c1, Bool.true_and]
          rw [s2, bind_p]
          by_cases c2 : b (s + 2) = 110
          · rw [if_pos (show nI (b (s + 2)) = 110 by rw [c2]; rfl), decide_eq_true c2, Bool.true_and]
            rw [if_neg (by decide), s3, bind_p]
            by_cases c3 : b (s + 3) = 121
            · rw [if_pos (show nI (b (s + 3)) = 121 by rw [c3]; rfl), decide_eq_true c3, Bool.true_and]
              rw [if_pos (by decide), if_pos (by decide), if_pos (by decide), if_pos rfl]
              rfl
            · rw [if_neg (show ¬ nI (b (s + 3)) = 121 from fun z => c3 ((nI_eq (b := 121) (by omega) (by decide)).mp z)), decide_eq_false c3, Bool.false_and, if_neg (by decide)]
          · rw [if_neg (show ¬ nI (b (s + 2)) = 110 from fun z => c2 ((nI_eq (b := 110) (by omega) (by decide)).mp z)), decide_eq_false c2, Bool.false_and, if_neg (by decide)]
        · rw [if_neg (show ¬ nI (b (s + 1)) = 97 from fun z => c1 ((nI_eq (b := 97) (by omega) (by decide)).mp z)), decide_eq_false c1, Bool.false_and, if_neg (by decide)]
      · rw [if_neg (show ¬ nI (b s) = 109 from fun z => c0 ((nI_eq (b := 109) (by omega) (by decide)).mp z)), decide_eq_false c0, Bool.false_and, if_neg (by decide)]
    · rw [if_neg (fun z => q2 ((nI_eq (by omega) (by decide)).mp z)), decide_eq_false (show ¬ tke_ b E s - s = ([109, 97, 110, 121] : List Nat).length from q2), Bool.false_and, if_neg (by decide)]
  · rw [if_neg (fun z => q ((nI_eq (by omega) (by decide)).mp z)), decide_eq_false q, Bool.false_and, if_neg (by decide)]
end wdA
