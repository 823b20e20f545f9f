/-! frames, by program (frgen.py) -/
def f0_weighStates_9_7_6_L15_w : List (Nat × Option Nat) := [(33, none), (31, none)]
theorem w_f0_weighStates_9_7_6_L15 {ws : List (Nat × Option Nat)} {M0 M : cd_M} {a3 : Int32} {s0 : Int32} (hs : cf_sub f0_weighStates_9_7_6_L15_w ws = true) (hM : cf_ ws M0 M) : cp (f0_weighStates_9_7_6_L15 a3 s0 M) (cf_ ws M0) := by
  unfold f0_weighStates_9_7_6_L15
  refine cp_ite (fun _ => ?_) (fun _ => ?_)
  · skip
    refine cp_bindX (fun v1 => ?_)
    refine cp_bindX (fun v2 => ?_)
    refine cp_ite (fun _ => ?_) (fun _ => ?_)
    · skip
      exact (w_f0_weighStates_9_7_6_L41 (cf_tr (by decide : cf_sub f0_weighStates_9_7_6_L41_w f0_weighStates_9_7_6_L15_w = true) hs) hM)
    · skip
      exact (w_f0_weighStates_9_7_6_L42 (cf_tr (by decide : cf_sub f0_weighStates_9_7_6_L42_w f0_weighStates_9_7_6_L15_w = true) hs) hM)
  · skip
    exact (w_f0_weighStates_9_7_6_L41 (cf_tr (by decide : cf_sub f0_weighStates_9_7_6_L41_w f0_weighStates_9_7_6_L15_w = true) hs) hM)

def f0_weighStates_9_7_6_w : List (Nat × Option Nat) := [(33, none), (31, none)]
theorem w_f0_weighStates_9_7_6 {ws : List (Nat × Option Nat)} {M0 M : cd_M} {a3 : Int32} (hs : cf_sub f0_weighStates_9_7_6_w ws = true) (hM : cf_ ws M0 M) : cp (f0_weighStates_9_7_6 a3 M) (cf_ ws M0) := by
  unfold f0_weighStates_9_7_6
  refine cp_ite (fun _ => ?_) (fun _ => ?_)
  · skip
    exact (w_f0_weighStates_9_7_6_L15 (cf_tr (by decide : cf_sub f0_weighStates_9_7_6_L15_w f0_weighStates_9_7_6_w = true) hs) hM)
  · skip
    exact (w_f0_weighStates_9_7_6_L15 (cf_tr (by decide : cf_sub f0_weighStates_9_7_6_L15_w f0_weighStates_9_7_6_w = true) hs) hM)

def f0_solve_9_7_6_L22_w : List (Nat × Option Nat) := [(35, none), (36, none), (37, none), (38, none), (33, none), (31, none), (34, none), (9, some 5), (32, none)]
theorem w_f0_solve_9_7_6_L22 {ws : List (Nat × Option Nat)} {M0 : cd_M}  (hs : cf_sub f0_solve_9_7_6_L22_w ws = true) : ∀ (n : Nat) (a3 : Int32) (a4 : Int32) (M : cd_M), cf_ ws M0 M → cp (f0_solve_9_7_6_L22 n a3 a4 M) (cf_ ws M0) := by
  intro n
  induction n with
  | zero => intro a3 a4 M _; exact cp_none
  | succ n ih =>
    intro a3 a4 M hM
    unfold f0_solve_9_7_6_L22
    refine cp_ite (fun _ => ?_) (fun _ => ?_)
    · skip
      refine cp_ite (fun _ => ?_) (fun _ => ?_)
      · skip
        exact cp_some hM
      · skip
        refine cp_ite (fun _ => ?_) (fun _ => ?_)
        · skip
          exact cp_some hM
        · skip
          refine cp_ite (fun _ => ?_) (fun _ => ?_)
          · skip
            refine cp_ltM (cf_wI hs (k := 35) (by decide) hM) (fun M4 hM4 => ?_)
            refine cp_ite (fun _ => ?_) (fun _ => ?_)
            · skip
              refine cp_ltM (cf_wI hs (k := 36) (by decide) hM4) (fun M5 hM5 => ?_)
              refine cp_ite (fun _ => ?_) (fun _ => ?_)
              · skip
                refine cp_bindX (fun v6 => ?_)
                refine cp_ite (fun _ => ?_) (fun _ => ?_)
                · skip
                  refine cp_ltM (cf_wI hs (k := 37) (by decide) hM5) (fun M7 hM7 => ?_)
                  refine cp_ite (fun _ => ?_) (fun _ => ?_)
                  · skip
                    refine cp_bindX (fun v8 => ?_)
                    refine cp_ite (fun _ => ?_) (fun _ => ?_)
                    · skip
                      refine cp_ltM (cf_wI hs (k := 38) (by decide) hM7) (fun M9 hM9 => ?_)
                      exact cp_some hM9
                    · skip
                      exact cp_none
                  · skip
                    exact cp_none
                · skip
                  exact cp_none
              · skip
                exact cp_none
            · skip
              exact cp_none
          · skip
            exact cp_none
    · skip
      refine cp_bindM (w_f0_weighStates_9_7_6 (cf_tr (by decide : cf_sub f0_weighStates_9_7_6_w f0_solve_9_7_6_L22_w = true) hs) hM) (fun M10 hM10 => ?_)
      refine cp_bindX (fun v11 => ?_)
      refine cp_ite (fun _ => ?_) (fun _ => ?_)
      · skip
        refine cp_ltM (cf_wI hs (k := 34) (by decide) hM10) (fun M12 hM12 => ?_)
        refine cp_ite (fun _ => ?_) (fun _ => ?_)
        · skip
          refine cp_ite (fun _ => ?_) (fun _ => ?_)
          · skip
            refine cp_ltM (cf_wF hs (k := 9) (j := 5) (by decide) hM12) (fun M13 hM13 => ?_)
            refine cp_ite (fun _ => ?_) (fun _ => ?_)
            · skip
              refine cp_ltM (cf_cI hs (k1 := 32) (by decide) hM13) (fun M14 hM14 => ?_)
              refine cp_ltX (fun x15 => ?_)
              exact (ih _ _ _ hM14)
            · skip
              exact cp_none
          · skip
            exact cp_none
        · skip
          exact cp_none
      · skip
        exact cp_none

def f0_solve_9_7_6_w : List (Nat × Option Nat) := [(10, some 4), (39, none), (40, none), (41, none), (42, none), (9, some 5), (35, none), (36, none), (37, none), (38, none), (33, none), (31, none), (34, none), (32, none)]
theorem w_f0_solve_9_7_6 {ws : List (Nat × Option Nat)} {M0 M : cd_M} {a3 : Int32} (hs : cf_sub f0_solve_9_7_6_w ws = true) (hM : cf_ ws M0 M) : cp (f0_solve_9_7_6 a3 M) (cf_ ws M0) := by
  unfold f0_solve_9_7_6
  refine cp_bindM (w_f6_build_10_6 (cf_tr (by decide : cf_sub f6_build_10_6_w f0_solve_9_7_6_w = true) hs) hM) (fun M1 hM1 => ?_)
  refine cp_ltM (cf_wF hs (k := 9) (j := 5) (by decide) hM1) (fun M2 hM2 => ?_)
  refine cp_ltX (fun x3 => ?_)
  exact (w_f0_solve_9_7_6_L22 (cf_tr (by decide : cf_sub f0_solve_9_7_6_L22_w f0_solve_9_7_6_w = true) hs) _ _ _ _ hM2)

def f9_addField_11_10_L89_w : List (Nat × Option Nat) := [(11, some 6)]
theorem w_f9_addField_11_10_L89 {ws : List (Nat × Option Nat)} {M0 M : cd_M}  (hs : cf_sub f9_addField_11_10_L89_w ws = true) (hM : cf_ ws M0 M) : cp (f9_addField_11_10_L89 M) (cf_ ws M0) := by
  unfold f9_addField_11_10_L89
  refine cp_ltM (cf_wF hs (k := 11) (j := 6) (by decide) hM) (fun M8 hM8 => ?_)
  exact cp_some hM8

def f9_addField_11_10_w : List (Nat × Option Nat) := [(43, none), (44, none), (45, none), (46, none), (11, some 6), (48, none), (11, some 7)]
theorem w_f9_addField_11_10 {ws : List (Nat × Option Nat)} {M0 M : cd_M} {a2 : Int32} {a3 : Int32} (hs : cf_sub f9_addField_11_10_w ws = true) (hM : cf_ ws M0 M) : cp (f9_addField_11_10 a2 a3 M) (cf_ ws M0) := by
  unfold f9_addField_11_10
  refine cp_ite (fun _ => ?_) (fun _ => ?_)
  · skip
    refine cp_bindX (fun v1 => ?_)
    refine cp_ite (fun _ => ?_) (fun _ => ?_)
    · skip
      refine cp_ltM (cf_wI hs (k := 43) (by decide) hM) (fun M2 hM2 => ?_)
      refine cp_bindX (fun v3 => ?_)
      refine cp_ite (fun _ => ?_) (fun _ => ?_)
      · skip
        refine cp_ltM (cf_wI hs (k := 44) (by decide) hM2) (fun M4 hM4 => ?_)
        refine cp_bindX (fun v5 => ?_)
        refine cp_ite (fun _ => ?_) (fun _ => ?_)
        · skip
          refine cp_ltM (cf_wI hs (k := 45) (by decide) hM4) (fun M6 hM6 => ?_)
          refine cp_ite (fun _ => ?_) (fun _ => ?_)
          · skip
            refine cp_ltM (cf_wI hs (k := 46) (by decide) hM6) (fun M7 hM7 => ?_)
            refine cp_ite (fun _ => ?_) (fun _ => ?_)
            · skip
              exact (w_f9_addField_11_10_L89 (cf_tr (by decide : cf_sub f9_addField_11_10_L89_w f9_addField_11_10_w = true) hs) hM7)
            · skip
              refine cp_ite (fun _ => ?_) (fun _ => ?_)
              · skip
                refine cp_ltM (cf_wI hs (k := 48) (by decide) hM7) (fun M9 hM9 => ?_)
                refine cp_ltM (cf_wF hs (k := 11) (j := 7) (by decide) hM9) (fun M10 hM10 => ?_)
                exact (w_f9_addField_11_10_L89 (cf_tr (by decide : cf_sub f9_addField_11_10_L89_w f9_addField_11_10_w = true) hs) hM10)
              · skip
                exact cp_none
          · skip
            exact cp_none
        · skip
          exact cp_none
      · skip
        exact cp_none
    · skip
      exact cp_none
  · skip
    exact cp_some hM

def f9_putPrice_11_7_6_L90_w : List (Nat × Option Nat) := [(11, some 8)]
theorem w_f9_putPrice_11_7_6_L90 {ws : List (Nat × Option Nat)} {M0 M : cd_M} {s0 : Int32} {s1 : Int32} (hs : cf_sub f9_putPrice_11_7_6_L90_w ws = true) (hM : cf_ ws M0 M) : cp (f9_putPrice_11_7_6_L90 s0 s1 M) (cf_ ws M0) := by
  unfold f9_putPrice_11_7_6_L90
  refine cp_ltM (cf_wF hs (k := 11) (j := 8) (by decide) hM) (fun M9 hM9 => ?_)
  exact cp_some hM9

def f9_putPrice_11_7_6_L53_w : List (Nat × Option Nat) := [(47, none), (11, some 9), (11, some 8)]
theorem w_f9_putPrice_11_7_6_L53 {ws : List (Nat × Option Nat)} {M0 M : cd_M} {a3 : Int32} {a4 : Int32} (hs : cf_sub f9_putPrice_11_7_6_L53_w ws = true) (hM : cf_ ws M0 M) : cp (f9_putPrice_11_7_6_L53 a3 a4 M) (cf_ ws M0) := by
  unfold f9_putPrice_11_7_6_L53
  refine cp_ite (fun _ => ?_) (fun _ => ?_)
  · skip
    refine cp_ltM (cf_wI hs (k := 47) (by decide) hM) (fun M5 hM5 => ?_)
    refine cp_ltM (cf_wF hs (k := 11) (j := 9) (by decide) hM5) (fun M6 hM6 => ?_)
    refine cp_bindX (fun v7 => ?_)
    refine cp_ite (fun _ => ?_) (fun _ => ?_)
    · skip
      exact (w_f9_putPrice_11_7_6_L90 (cf_tr (by decide : cf_sub f9_putPrice_11_7_6_L90_w f9_putPrice_11_7_6_L53_w = true) hs) hM6)
    · skip
      exact (w_f9_putPrice_11_7_6_L90 (cf_tr (by decide : cf_sub f9_putPrice_11_7_6_L90_w f9_putPrice_11_7_6_L53_w = true) hs) hM6)
  · skip
    exact cp_none

def f9_putPrice_11_7_6_L32_w : List (Nat × Option Nat) := [(47, none), (11, some 9), (11, some 8)]
theorem w_f9_putPrice_11_7_6_L32 {ws : List (Nat × Option Nat)} {M0 M : cd_M} {a3 : Int32} {s0 : Int32} (hs : cf_sub f9_putPrice_11_7_6_L32_w ws = true) (hM : cf_ ws M0 M) : cp (f9_putPrice_11_7_6_L32 a3 s0 M) (cf_ ws M0) := by
  unfold f9_putPrice_11_7_6_L32
  refine cp_ite (fun _ => ?_) (fun _ => ?_)
  · skip
    refine cp_ite (fun _ => ?_) (fun _ => ?_)
    · skip
      exact (w_f9_putPrice_11_7_6_L53 (cf_tr (by decide : cf_sub f9_putPrice_11_7_6_L53_w f9_putPrice_11_7_6_L32_w = true) hs) hM)
    · skip
      refine cp_bindX (fun v10 => ?_)
      refine cp_ltX (fun x11 => ?_)
      exact (w_f9_putPrice_11_7_6_L53 (cf_tr (by decide : cf_sub f9_putPrice_11_7_6_L53_w f9_putPrice_11_7_6_L32_w = true) hs) hM)
  · skip
    exact cp_none

def f9_putPrice_11_7_6_w : List (Nat × Option Nat) := [(47, none), (11, some 9), (11, some 8)]
theorem w_f9_putPrice_11_7_6 {ws : List (Nat × Option Nat)} {M0 M : cd_M} {a3 : Int32} (hs : cf_sub f9_putPrice_11_7_6_w ws = true) (hM : cf_ ws M0 M) : cp (f9_putPrice_11_7_6 a3 M) (cf_ ws M0) := by
  unfold f9_putPrice_11_7_6
  refine cp_ite (fun _ => ?_) (fun _ => ?_)
  · skip
    exact cp_some hM
  · skip
    refine cp_bindX (fun v2 => ?_)
    refine cp_ite (fun _ => ?_) (fun _ => ?_)
    · skip
      refine cp_bindX (fun v4 => ?_)
      exact (w_f9_putPrice_11_7_6_L32 (cf_tr (by decide : cf_sub f9_putPrice_11_7_6_L32_w f9_putPrice_11_7_6_w = true) hs) hM)
    · skip
      refine cp_bindX (fun v12 => ?_)
      exact (w_f9_putPrice_11_7_6_L32 (cf_tr (by decide : cf_sub f9_putPrice_11_7_6_L32_w f9_putPrice_11_7_6_w = true) hs) hM)

def f9_follow_11_9_7_6_L96_w : List (Nat × Option Nat) := [(43, none), (44, none), (45, none), (46, none), (11, some 6), (48, none), (11, some 7), (47, none), (11, some 9), (11, some 8)]
theorem w_f9_follow_11_9_7_6_L96 {ws : List (Nat × Option Nat)} {M0 M : cd_M} {r30 : Int32 → Int32 → cd_M → Option cd_M} {a4 : Int32} {a5 : Int32} {a6 : Int32} (hs : cf_sub f9_follow_11_9_7_6_L96_w ws = true) (hr30 : ∀ (y0 : Int32) (y1 : Int32) (y2 : cd_M), cf_ ws M0 y2 → cp (r30 y0 y1 y2) (cf_ ws M0)) (hM : cf_ ws M0 M) : cp (f9_follow_11_9_7_6_L96 r30 a4 a5 a6 M) (cf_ ws M0) := by
  unfold f9_follow_11_9_7_6_L96
  refine cp_bindM (w_f9_addField_11_10 (cf_tr (by decide : cf_sub f9_addField_11_10_w f9_follow_11_9_7_6_L96_w = true) hs) hM) (fun M6 hM6 => ?_)
  refine cp_bindM (w_f9_putPrice_11_7_6 (cf_tr (by decide : cf_sub f9_putPrice_11_7_6_w f9_follow_11_9_7_6_L96_w = true) hs) hM6) (fun M7 hM7 => ?_)
  refine cp_ltX (fun x8 => ?_)
  exact (hr30 _ _ _ hM7)

def f9_follow_11_9_7_6_L62_w : List (Nat × Option Nat) := [(43, none), (44, none), (45, none), (46, none), (11, some 6), (48, none), (11, some 7), (47, none), (11, some 9), (11, some 8)]
theorem w_f9_follow_11_9_7_6_L62 {ws : List (Nat × Option Nat)} {M0 M : cd_M} {r30 : Int32 → Int32 → cd_M → Option cd_M} {a4 : Int32} {a5 : Int32} {s0 : Int32} (hs : cf_sub f9_follow_11_9_7_6_L62_w ws = true) (hr30 : ∀ (y0 : Int32) (y1 : Int32) (y2 : cd_M), cf_ ws M0 y2 → cp (r30 y0 y1 y2) (cf_ ws M0)) (hM : cf_ ws M0 M) : cp (f9_follow_11_9_7_6_L62 r30 a4 a5 s0 M) (cf_ ws M0) := by
  unfold f9_follow_11_9_7_6_L62
  refine cp_ite (fun _ => ?_) (fun _ => ?_)
  · skip
    refine cp_ite (fun _ => ?_) (fun _ => ?_)
    · skip
      exact (w_f9_follow_11_9_7_6_L96 (cf_tr (by decide : cf_sub f9_follow_11_9_7_6_L96_w f9_follow_11_9_7_6_L62_w = true) hs) hr30 hM)
    · skip
      refine cp_bindX (fun v9 => ?_)
      exact (w_f9_follow_11_9_7_6_L96 (cf_tr (by decide : cf_sub f9_follow_11_9_7_6_L96_w f9_follow_11_9_7_6_L62_w = true) hs) hr30 hM)
  · skip
    refine cp_bindX (fun v10 => ?_)
    exact (w_f9_follow_11_9_7_6_L96 (cf_tr (by decide : cf_sub f9_follow_11_9_7_6_L96_w f9_follow_11_9_7_6_L62_w = true) hs) hr30 hM)

def f9_follow_11_9_7_6_L61_w : List (Nat × Option Nat) := [(43, none), (44, none), (45, none), (46, none), (11, some 6), (48, none), (11, some 7), (47, none), (11, some 9), (11, some 8)]
theorem w_f9_follow_11_9_7_6_L61 {ws : List (Nat × Option Nat)} {M0 M : cd_M} {r30 : Int32 → Int32 → cd_M → Option cd_M} {a4 : Int32} {a5 : Int32} (hs : cf_sub f9_follow_11_9_7_6_L61_w ws = true) (hr30 : ∀ (y0 : Int32) (y1 : Int32) (y2 : cd_M), cf_ ws M0 y2 → cp (r30 y0 y1 y2) (cf_ ws M0)) (hM : cf_ ws M0 M) : cp (f9_follow_11_9_7_6_L61 r30 a4 a5 M) (cf_ ws M0) := by
  unfold f9_follow_11_9_7_6_L61
  exact (w_f9_follow_11_9_7_6_L62 (cf_tr (by decide : cf_sub f9_follow_11_9_7_6_L62_w f9_follow_11_9_7_6_L61_w = true) hs) hr30 hM)

def f9_follow_11_9_7_6_L30_w : List (Nat × Option Nat) := [(43, none), (44, none), (45, none), (46, none), (11, some 6), (48, none), (11, some 7), (47, none), (11, some 9), (11, some 8)]
theorem w_f9_follow_11_9_7_6_L30 {ws : List (Nat × Option Nat)} {M0 : cd_M}  (hs : cf_sub f9_follow_11_9_7_6_L30_w ws = true) : ∀ (n : Nat) (a4 : Int32) (a5 : Int32) (M : cd_M), cf_ ws M0 M → cp (f9_follow_11_9_7_6_L30 n a4 a5 M) (cf_ ws M0) := by
  intro n
  induction n with
  | zero => intro a4 a5 M _; exact cp_none
  | succ n ih =>
    intro a4 a5 M hM
    unfold f9_follow_11_9_7_6_L30
    refine cp_ite (fun _ => ?_) (fun _ => ?_)
    · skip
      exact cp_some hM
    · skip
      refine cp_ite (fun _ => ?_) (fun _ => ?_)
      · skip
        exact (w_f9_follow_11_9_7_6_L61 (cf_tr (by decide : cf_sub f9_follow_11_9_7_6_L61_w f9_follow_11_9_7_6_L30_w = true) hs) ih hM)
      · skip
        refine cp_bindX (fun v11 => ?_)
        refine cp_ite (fun _ => ?_) (fun _ => ?_)
        · skip
          exact (w_f9_follow_11_9_7_6_L62 (cf_tr (by decide : cf_sub f9_follow_11_9_7_6_L62_w f9_follow_11_9_7_6_L30_w = true) hs) ih hM)
        · skip
          exact (w_f9_follow_11_9_7_6_L61 (cf_tr (by decide : cf_sub f9_follow_11_9_7_6_L61_w f9_follow_11_9_7_6_L30_w = true) hs) ih hM)

def f9_follow_11_9_7_6_w : List (Nat × Option Nat) := [(11, some 6), (11, some 7), (11, some 8), (11, some 9), (43, none), (44, none), (45, none), (46, none), (48, none), (47, none)]
theorem w_f9_follow_11_9_7_6 {ws : List (Nat × Option Nat)} {M0 M : cd_M}  (hs : cf_sub f9_follow_11_9_7_6_w ws = true) (hM : cf_ ws M0 M) : cp (f9_follow_11_9_7_6 M) (cf_ ws M0) := by
  unfold f9_follow_11_9_7_6
  refine cp_ltM (cf_wF hs (k := 11) (j := 6) (by decide) hM) (fun M1 hM1 => ?_)
  refine cp_ltM (cf_wF hs (k := 11) (j := 7) (by decide) hM1) (fun M2 hM2 => ?_)
  refine cp_ltM (cf_wF hs (k := 11) (j := 8) (by decide) hM2) (fun M3 hM3 => ?_)
  refine cp_ltM (cf_wF hs (k := 11) (j := 9) (by decide) hM3) (fun M4 hM4 => ?_)
  refine cp_bindX (fun v5 => ?_)
  exact (w_f9_follow_11_9_7_6_L30 (cf_tr (by decide : cf_sub f9_follow_11_9_7_6_L30_w f9_follow_11_9_7_6_w = true) hs) _ _ _ _ hM4)

def f2_mateOrphans_12_7_6_L80_w : List (Nat × Option Nat) := []
theorem w_f2_mateOrphans_12_7_6_L80 {ws : List (Nat × Option Nat)} {M0 M : cd_M} {r12 : Int32 → cd_M → Option cd_M} {a3 : Int32} (hs : cf_sub f2_mateOrphans_12_7_6_L80_w ws = true) (hr12 : ∀ (y0 : Int32) (y1 : cd_M), cf_ ws M0 y1 → cp (r12 y0 y1) (cf_ ws M0)) (hM : cf_ ws M0 M) : cp (f2_mateOrphans_12_7_6_L80 r12 a3 M) (cf_ ws M0) := by
  unfold f2_mateOrphans_12_7_6_L80
  refine cp_ltX (fun x8 => ?_)
  exact (hr12 _ _ hM)

def f2_mateOrphans_12_7_6_L38_w : List (Nat × Option Nat) := [(12, some 7), (52, none), (12, some 8)]
theorem w_f2_mateOrphans_12_7_6_L38 {ws : List (Nat × Option Nat)} {M0 M : cd_M} {r12 : Int32 → cd_M → Option cd_M} {a3 : Int32} {s0 : Int32} {s1 : Int32} (hs : cf_sub f2_mateOrphans_12_7_6_L38_w ws = true) (hr12 : ∀ (y0 : Int32) (y1 : cd_M), cf_ ws M0 y1 → cp (r12 y0 y1) (cf_ ws M0)) (hM : cf_ ws M0 M) : cp (f2_mateOrphans_12_7_6_L38 r12 a3 s0 s1 M) (cf_ ws M0) := by
  unfold f2_mateOrphans_12_7_6_L38
  refine cp_ltM (cf_wF hs (k := 12) (j := 7) (by decide) hM) (fun M5 hM5 => ?_)
  refine cp_bindX (fun v6 => ?_)
  refine cp_ite (fun _ => ?_) (fun _ => ?_)
  · skip
    exact (w_f2_mateOrphans_12_7_6_L80 (cf_tr (by decide : cf_sub f2_mateOrphans_12_7_6_L80_w f2_mateOrphans_12_7_6_L38_w = true) hs) hr12 hM5)
  · skip
    refine cp_ite (fun _ => ?_) (fun _ => ?_)
    · skip
      refine cp_ltM (cf_wI hs (k := 52) (by decide) hM5) (fun M9 hM9 => ?_)
      refine cp_ite (fun _ => ?_) (fun _ => ?_)
      · skip
        refine cp_ltM (cf_wI hs (k := 52) (by decide) hM9) (fun M10 hM10 => ?_)
        refine cp_ltM (cf_wF hs (k := 12) (j := 8) (by decide) hM10) (fun M11 hM11 => ?_)
        exact (w_f2_mateOrphans_12_7_6_L80 (cf_tr (by decide : cf_sub f2_mateOrphans_12_7_6_L80_w f2_mateOrphans_12_7_6_L38_w = true) hs) hr12 hM11)
      · skip
        exact cp_none
    · skip
      exact cp_none

def f2_mateOrphans_12_7_6_L12_w : List (Nat × Option Nat) := [(12, some 7), (52, none), (12, some 8)]
theorem w_f2_mateOrphans_12_7_6_L12 {ws : List (Nat × Option Nat)} {M0 : cd_M}  (hs : cf_sub f2_mateOrphans_12_7_6_L12_w ws = true) : ∀ (n : Nat) (a3 : Int32) (M : cd_M), cf_ ws M0 M → cp (f2_mateOrphans_12_7_6_L12 n a3 M) (cf_ ws M0) := by
  intro n
  induction n with
  | zero => intro a3 M _; exact cp_none
  | succ n ih =>
    intro a3 M hM
    unfold f2_mateOrphans_12_7_6_L12
    refine cp_ite (fun _ => ?_) (fun _ => ?_)
    · skip
      exact cp_some hM
    · skip
      refine cp_bindX (fun v3 => ?_)
      refine cp_ite (fun _ => ?_) (fun _ => ?_)
      · skip
        exact (w_f2_mateOrphans_12_7_6_L38 (cf_tr (by decide : cf_sub f2_mateOrphans_12_7_6_L38_w f2_mateOrphans_12_7_6_L12_w = true) hs) ih hM)
      · skip
        exact (w_f2_mateOrphans_12_7_6_L38 (cf_tr (by decide : cf_sub f2_mateOrphans_12_7_6_L38_w f2_mateOrphans_12_7_6_L12_w = true) hs) ih hM)

def f2_mateOrphans_12_7_6_w : List (Nat × Option Nat) := [(12, some 7), (12, some 8), (52, none)]
theorem w_f2_mateOrphans_12_7_6 {ws : List (Nat × Option Nat)} {M0 M : cd_M}  (hs : cf_sub f2_mateOrphans_12_7_6_w ws = true) (hM : cf_ ws M0 M) : cp (f2_mateOrphans_12_7_6 M) (cf_ ws M0) := by
  unfold f2_mateOrphans_12_7_6
  refine cp_ltM (cf_wF hs (k := 12) (j := 7) (by decide) hM) (fun M1 hM1 => ?_)
  refine cp_ltM (cf_wF hs (k := 12) (j := 8) (by decide) hM1) (fun M2 hM2 => ?_)
  exact (w_f2_mateOrphans_12_7_6_L12 (cf_tr (by decide : cf_sub f2_mateOrphans_12_7_6_L12_w f2_mateOrphans_12_7_6_w = true) hs) _ _ _ hM2)

def f1_begin_13_w : List (Nat × Option Nat) := [(13, some 2), (13, some 3)]
theorem w_f1_begin_13 {ws : List (Nat × Option Nat)} {M0 M : cd_M} {a1 : Int32} (hs : cf_sub f1_begin_13_w ws = true) (hM : cf_ ws M0 M) : ci_ (f1_begin_13 a1 M) (cf_ ws M0) := by
  unfold f1_begin_13
  refine ci_ltM (cf_wF hs (k := 13) (j := 2) (by decide) hM) (fun M1 hM1 => ?_)
  refine ci_ltM (cf_wF hs (k := 13) (j := 3) (by decide) hM1) (fun M2 hM2 => ?_)
  exact ci_some hM2

def f1_add_13_w : List (Nat × Option Nat) := [(54, none), (55, none), (13, some 3)]
theorem w_f1_add_13 {ws : List (Nat × Option Nat)} {M0 M : cd_M} {a1 : Int64} {a2 : Int64} (hs : cf_sub f1_add_13_w ws = true) (hM : cf_ ws M0 M) : cp (f1_add_13 a1 a2 M) (cf_ ws M0) := by
  unfold f1_add_13
  refine cp_ite (fun _ => ?_) (fun _ => ?_)
  · skip
    exact cp_some hM
  · skip
    refine cp_ite (fun _ => ?_) (fun _ => ?_)
    · skip
      exact cp_some hM
    · skip
      refine cp_ite (fun _ => ?_) (fun _ => ?_)
      · skip
        refine cp_ltM (cf_wL hs (k := 54) (by decide) hM) (fun M1 hM1 => ?_)
        refine cp_ite (fun _ => ?_) (fun _ => ?_)
        · skip
          refine cp_ltM (cf_wL hs (k := 55) (by decide) hM1) (fun M2 hM2 => ?_)
          refine cp_ltM (cf_wF hs (k := 13) (j := 3) (by decide) hM2) (fun M3 hM3 => ?_)
          exact cp_some hM3
        · skip
          exact cp_none
      · skip
        exact cp_none

def f2_addFrame_12_7_w : List (Nat × Option Nat) := [(54, none), (55, none), (13, some 3)]
theorem w_f2_addFrame_12_7 {ws : List (Nat × Option Nat)} {M0 M : cd_M} {a2 : Int32} {a3 : Int32} (hs : cf_sub f2_addFrame_12_7_w ws = true) (hM : cf_ ws M0 M) : cp (f2_addFrame_12_7 a2 a3 M) (cf_ ws M0) := by
  unfold f2_addFrame_12_7
  refine cp_bindX (fun v1 => ?_)
  refine cp_ite (fun _ => ?_) (fun _ => ?_)
  · skip
    refine cp_bindX (fun v2 => ?_)
    refine cp_bindX (fun v3 => ?_)
    refine cp_bindM (w_f1_add_13 (cf_tr (by decide : cf_sub f1_add_13_w f2_addFrame_12_7_w = true) hs) hM) (fun M4 hM4 => ?_)
    exact cp_some hM4
  · skip
    refine cp_bindX (fun v5 => ?_)
    refine cp_bindX (fun v6 => ?_)
    refine cp_bindM (w_f1_add_13 (cf_tr (by decide : cf_sub f1_add_13_w f2_addFrame_12_7_w = true) hs) hM) (fun M7 hM7 => ?_)
    exact cp_some hM7

def f2_rebuildFrames_12_7_L60_w : List (Nat × Option Nat) := [(53, none)]
theorem w_f2_rebuildFrames_12_7_L60 {ws : List (Nat × Option Nat)} {M0 M : cd_M} {r10 : Int32 → cd_M → Option cd_M} {a2 : Int32} (hs : cf_sub f2_rebuildFrames_12_7_L60_w ws = true) (hr10 : ∀ (y0 : Int32) (y1 : cd_M), cf_ ws M0 y1 → cp (r10 y0 y1) (cf_ ws M0)) (hM : cf_ ws M0 M) : cp (f2_rebuildFrames_12_7_L60 r10 a2 M) (cf_ ws M0) := by
  unfold f2_rebuildFrames_12_7_L60
  refine cp_ite (fun _ => ?_) (fun _ => ?_)
  · skip
    refine cp_ltM (cf_wI hs (k := 53) (by decide) hM) (fun M4 hM4 => ?_)
    refine cp_ltX (fun x5 => ?_)
    exact (hr10 _ _ hM4)
  · skip
    exact cp_none

def f2_rebuildFrames_12_7_L39_w : List (Nat × Option Nat) := [(54, none), (55, none), (13, some 3), (53, none)]
theorem w_f2_rebuildFrames_12_7_L39 {ws : List (Nat × Option Nat)} {M0 M : cd_M} {r10 : Int32 → cd_M → Option cd_M} {a2 : Int32} {s0 : Int32} (hs : cf_sub f2_rebuildFrames_12_7_L39_w ws = true) (hr10 : ∀ (y0 : Int32) (y1 : cd_M), cf_ ws M0 y1 → cp (r10 y0 y1) (cf_ ws M0)) (hM : cf_ ws M0 M) : cp (f2_rebuildFrames_12_7_L39 r10 a2 s0 M) (cf_ ws M0) := by
  unfold f2_rebuildFrames_12_7_L39
  refine cp_ite (fun _ => ?_) (fun _ => ?_)
  · skip
    refine cp_ite (fun _ => ?_) (fun _ => ?_)
    · skip
      refine cp_bindX (fun v2 => ?_)
      refine cp_bindM (w_f2_addFrame_12_7 (cf_tr (by decide : cf_sub f2_addFrame_12_7_w f2_rebuildFrames_12_7_L39_w = true) hs) hM) (fun M3 hM3 => ?_)
      exact (w_f2_rebuildFrames_12_7_L60 (cf_tr (by decide : cf_sub f2_rebuildFrames_12_7_L60_w f2_rebuildFrames_12_7_L39_w = true) hs) hr10 hM3)
    · skip
      exact cp_none
  · skip
    exact (w_f2_rebuildFrames_12_7_L60 (cf_tr (by decide : cf_sub f2_rebuildFrames_12_7_L60_w f2_rebuildFrames_12_7_L39_w = true) hs) hr10 hM)

def f2_rebuildFrames_12_7_L38_w : List (Nat × Option Nat) := [(54, none), (55, none), (13, some 3), (53, none)]
theorem w_f2_rebuildFrames_12_7_L38 {ws : List (Nat × Option Nat)} {M0 M : cd_M} {r10 : Int32 → cd_M → Option cd_M} {a2 : Int32} (hs : cf_sub f2_rebuildFrames_12_7_L38_w ws = true) (hr10 : ∀ (y0 : Int32) (y1 : cd_M), cf_ ws M0 y1 → cp (r10 y0 y1) (cf_ ws M0)) (hM : cf_ ws M0 M) : cp (f2_rebuildFrames_12_7_L38 r10 a2 M) (cf_ ws M0) := by
  unfold f2_rebuildFrames_12_7_L38
  exact (w_f2_rebuildFrames_12_7_L39 (cf_tr (by decide : cf_sub f2_rebuildFrames_12_7_L39_w f2_rebuildFrames_12_7_L38_w = true) hs) hr10 hM)

def f2_rebuildFrames_12_7_L10_w : List (Nat × Option Nat) := [(54, none), (55, none), (13, some 3), (53, none)]
theorem w_f2_rebuildFrames_12_7_L10 {ws : List (Nat × Option Nat)} {M0 : cd_M}  (hs : cf_sub f2_rebuildFrames_12_7_L10_w ws = true) : ∀ (n : Nat) (a2 : Int32) (M : cd_M), cf_ ws M0 M → cp (f2_rebuildFrames_12_7_L10 n a2 M) (cf_ ws M0) := by
  intro n
  induction n with
  | zero => intro a2 M _; exact cp_none
  | succ n ih =>
    intro a2 M hM
    unfold f2_rebuildFrames_12_7_L10
    refine cp_ite (fun _ => ?_) (fun _ => ?_)
    · skip
      exact cp_some hM
    · skip
      refine cp_ite (fun _ => ?_) (fun _ => ?_)
      · skip
        exact (w_f2_rebuildFrames_12_7_L38 (cf_tr (by decide : cf_sub f2_rebuildFrames_12_7_L38_w f2_rebuildFrames_12_7_L10_w = true) hs) ih hM)
      · skip
        refine cp_ite (fun _ => ?_) (fun _ => ?_)
        · skip
          refine cp_ite (fun _ => ?_) (fun _ => ?_)
          · skip
            exact (w_f2_rebuildFrames_12_7_L39 (cf_tr (by decide : cf_sub f2_rebuildFrames_12_7_L39_w f2_rebuildFrames_12_7_L10_w = true) hs) ih hM)
          · skip
            exact (w_f2_rebuildFrames_12_7_L38 (cf_tr (by decide : cf_sub f2_rebuildFrames_12_7_L38_w f2_rebuildFrames_12_7_L10_w = true) hs) ih hM)
        · skip
          exact cp_none

def f2_rebuildFrames_12_7_w : List (Nat × Option Nat) := [(13, some 2), (13, some 3), (54, none), (55, none), (53, none)]
theorem w_f2_rebuildFrames_12_7 {ws : List (Nat × Option Nat)} {M0 M : cd_M}  (hs : cf_sub f2_rebuildFrames_12_7_w ws = true) (hM : cf_ ws M0 M) : cp (f2_rebuildFrames_12_7 M) (cf_ ws M0) := by
  unfold f2_rebuildFrames_12_7
  refine cp_ltM (w_f1_begin_13 (cf_tr (by decide : cf_sub f1_begin_13_w f2_rebuildFrames_12_7_w = true) hs) hM) (fun M1 hM1 => ?_)
  exact (w_f2_rebuildFrames_12_7_L10 (cf_tr (by decide : cf_sub f2_rebuildFrames_12_7_L10_w f2_rebuildFrames_12_7_w = true) hs) _ _ _ hM1)

def f2_addField_12_L71_w : List (Nat × Option Nat) := [(49, none), (51, none)]
theorem w_f2_addField_12_L71 {ws : List (Nat × Option Nat)} {M0 M : cd_M} {a1 : Int32} (hs : cf_sub f2_addField_12_L71_w ws = true) (hM : cf_ ws M0 M) : cp (f2_addField_12_L71 a1 M) (cf_ ws M0) := by
  unfold f2_addField_12_L71
  refine cp_ite (fun _ => ?_) (fun _ => ?_)
  · skip
    refine cp_ltM (cf_wI hs (k := 49) (by decide) hM) (fun M1 hM1 => ?_)
    refine cp_ite (fun _ => ?_) (fun _ => ?_)
    · skip
      refine cp_ite (fun _ => ?_) (fun _ => ?_)
      · skip
        refine cp_ltM (cf_wI hs (k := 51) (by decide) hM1) (fun M2 hM2 => ?_)
        exact cp_some hM2
      · skip
        exact cp_none
    · skip
      exact cp_none
  · skip
    exact cp_none

def f2_addField_12_L31_w : List (Nat × Option Nat) := [(50, none), (51, none), (52, none), (12, some 6), (49, none)]
theorem w_f2_addField_12_L31 {ws : List (Nat × Option Nat)} {M0 M : cd_M} {a1 : Int32} (hs : cf_sub f2_addField_12_L31_w ws = true) (hM : cf_ ws M0 M) : cp (f2_addField_12_L31 a1 M) (cf_ ws M0) := by
  unfold f2_addField_12_L31
  refine cp_ite (fun _ => ?_) (fun _ => ?_)
  · skip
    refine cp_ltM (cf_wI hs (k := 50) (by decide) hM) (fun M3 hM3 => ?_)
    refine cp_ite (fun _ => ?_) (fun _ => ?_)
    · skip
      refine cp_ltM (cf_wI hs (k := 51) (by decide) hM3) (fun M4 hM4 => ?_)
      refine cp_ite (fun _ => ?_) (fun _ => ?_)
      · skip
        refine cp_ltM (cf_wI hs (k := 52) (by decide) hM4) (fun M5 hM5 => ?_)
        refine cp_ltM (cf_wF hs (k := 12) (j := 6) (by decide) hM5) (fun M6 hM6 => ?_)
        exact (w_f2_addField_12_L71 (cf_tr (by decide : cf_sub f2_addField_12_L71_w f2_addField_12_L31_w = true) hs) hM6)
      · skip
        exact cp_none
    · skip
      exact cp_none
  · skip
    exact cp_none

def f2_addField_12_w : List (Nat × Option Nat) := [(49, none), (51, none), (50, none), (52, none), (12, some 6)]
theorem w_f2_addField_12 {ws : List (Nat × Option Nat)} {M0 M : cd_M} {a1 : Int32} {a2 : Int32} (hs : cf_sub f2_addField_12_w ws = true) (hM : cf_ ws M0 M) : cp (f2_addField_12 a1 a2 M) (cf_ ws M0) := by
  unfold f2_addField_12
  refine cp_ite (fun _ => ?_) (fun _ => ?_)
  · skip
    exact cp_some hM
  · skip
    refine cp_ite (fun _ => ?_) (fun _ => ?_)
    · skip
      refine cp_ite (fun _ => ?_) (fun _ => ?_)
      · skip
        exact (w_f2_addField_12_L71 (cf_tr (by decide : cf_sub f2_addField_12_L71_w f2_addField_12_w = true) hs) hM)
      · skip
        refine cp_ite (fun _ => ?_) (fun _ => ?_)
        · skip
          refine cp_ite (fun _ => ?_) (fun _ => ?_)
          · skip
            exact (w_f2_addField_12_L31 (cf_tr (by decide : cf_sub f2_addField_12_L31_w f2_addField_12_w = true) hs) hM)
          · skip
            exact (w_f2_addField_12_L71 (cf_tr (by decide : cf_sub f2_addField_12_L71_w f2_addField_12_w = true) hs) hM)
        · skip
          exact (w_f2_addField_12_L31 (cf_tr (by decide : cf_sub f2_addField_12_L31_w f2_addField_12_w = true) hs) hM)
    · skip
      exact cp_some hM

def f2_gather_12_11_7_6_L34_w : List (Nat × Option Nat) := [(49, none), (51, none), (50, none), (52, none), (12, some 6)]
theorem w_f2_gather_12_11_7_6_L34 {ws : List (Nat × Option Nat)} {M0 M : cd_M} {r8 : Int32 → cd_M → Option cd_M} {a4 : Int32} {s0 : Int32} {s1 : Int32} (hs : cf_sub f2_gather_12_11_7_6_L34_w ws = true) (hr8 : ∀ (y0 : Int32) (y1 : cd_M), cf_ ws M0 y1 → cp (r8 y0 y1) (cf_ ws M0)) (hM : cf_ ws M0 M) : cp (f2_gather_12_11_7_6_L34 r8 a4 s0 s1 M) (cf_ ws M0) := by
  unfold f2_gather_12_11_7_6_L34
  refine cp_bindM (w_f2_addField_12 (cf_tr (by decide : cf_sub f2_addField_12_w f2_gather_12_11_7_6_L34_w = true) hs) hM) (fun M5 hM5 => ?_)
  refine cp_ltX (fun x6 => ?_)
  exact (hr8 _ _ hM5)

def f2_gather_12_11_7_6_L8_w : List (Nat × Option Nat) := [(12, some 7), (12, some 8), (52, none), (13, some 2), (13, some 3), (54, none), (55, none), (53, none), (49, none), (51, none), (50, none), (12, some 6)]
theorem w_f2_gather_12_11_7_6_L8 {ws : List (Nat × Option Nat)} {M0 : cd_M}  (hs : cf_sub f2_gather_12_11_7_6_L8_w ws = true) : ∀ (n : Nat) (a4 : Int32) (M : cd_M), cf_ ws M0 M → cp (f2_gather_12_11_7_6_L8 n a4 M) (cf_ ws M0) := by
  intro n
  induction n with
  | zero => intro a4 M _; exact cp_none
  | succ n ih =>
    intro a4 M hM
    unfold f2_gather_12_11_7_6_L8
    refine cp_ite (fun _ => ?_) (fun _ => ?_)
    · skip
      refine cp_bindM (w_f2_mateOrphans_12_7_6 (cf_tr (by decide : cf_sub f2_mateOrphans_12_7_6_w f2_gather_12_11_7_6_L8_w = true) hs) hM) (fun M2 hM2 => ?_)
      refine cp_bindM (w_f2_rebuildFrames_12_7 (cf_tr (by decide : cf_sub f2_rebuildFrames_12_7_w f2_gather_12_11_7_6_L8_w = true) hs) hM2) (fun M3 hM3 => ?_)
      exact cp_some hM3
    · skip
      refine cp_bindX (fun v4 => ?_)
      refine cp_ite (fun _ => ?_) (fun _ => ?_)
      · skip
        exact (w_f2_gather_12_11_7_6_L34 (cf_tr (by decide : cf_sub f2_gather_12_11_7_6_L34_w f2_gather_12_11_7_6_L8_w = true) hs) ih hM)
      · skip
        exact (w_f2_gather_12_11_7_6_L34 (cf_tr (by decide : cf_sub f2_gather_12_11_7_6_L34_w f2_gather_12_11_7_6_L8_w = true) hs) ih hM)

def f2_gather_12_11_7_6_w : List (Nat × Option Nat) := [(12, some 6), (12, some 7), (12, some 8), (52, none), (13, some 2), (13, some 3), (54, none), (55, none), (53, none), (49, none), (51, none), (50, none)]
theorem w_f2_gather_12_11_7_6 {ws : List (Nat × Option Nat)} {M0 M : cd_M}  (hs : cf_sub f2_gather_12_11_7_6_w ws = true) (hM : cf_ ws M0 M) : cp (f2_gather_12_11_7_6 M) (cf_ ws M0) := by
  unfold f2_gather_12_11_7_6
  refine cp_ltM (cf_wF hs (k := 12) (j := 6) (by decide) hM) (fun M1 hM1 => ?_)
  exact (w_f2_gather_12_11_7_6_L8 (cf_tr (by decide : cf_sub f2_gather_12_11_7_6_L8_w f2_gather_12_11_7_6_w = true) hs) _ _ _ hM1)

def f10_followPath_0_w : List (Nat × Option Nat) := [(10, some 4), (39, none), (40, none), (41, none), (42, none), (9, some 5), (35, none), (36, none), (37, none), (38, none), (33, none), (31, none), (34, none), (32, none), (11, some 6), (11, some 7), (11, some 8), (11, some 9), (43, none), (44, none), (45, none), (46, none), (48, none), (47, none), (12, some 6), (12, some 7), (12, some 8), (52, none), (13, some 2), (13, some 3), (54, none), (55, none), (53, none), (49, none), (51, none), (50, none), (0, some 11)]
theorem w_f10_followPath_0 {ws : List (Nat × Option Nat)} {M0 M : cd_M}  (hs : cf_sub f10_followPath_0_w ws = true) (hM : cf_ ws M0 M) : cp (f10_followPath_0 M) (cf_ ws M0) := by
  unfold f10_followPath_0
  refine cp_ite (fun _ => ?_) (fun _ => ?_)
  · skip
    refine cp_bindM (w_f0_solve_9_7_6 (cf_tr (by decide : cf_sub f0_solve_9_7_6_w f10_followPath_0_w = true) hs) hM) (fun M1 hM1 => ?_)
    refine cp_bindM (w_f9_follow_11_9_7_6 (cf_tr (by decide : cf_sub f9_follow_11_9_7_6_w f10_followPath_0_w = true) hs) hM1) (fun M2 hM2 => ?_)
    refine cp_bindM (w_f2_gather_12_11_7_6 (cf_tr (by decide : cf_sub f2_gather_12_11_7_6_w f10_followPath_0_w = true) hs) hM2) (fun M3 hM3 => ?_)
    refine cp_ltM (cf_wF hs (k := 0) (j := 11) (by decide) hM3) (fun M4 hM4 => ?_)
    exact cp_some hM4
  · skip
    exact cp_some hM

def f10_path_0_w : List (Nat × Option Nat) := [(10, some 4), (39, none), (40, none), (41, none), (42, none), (9, some 5), (35, none), (36, none), (37, none), (38, none), (33, none), (31, none), (34, none), (32, none), (11, some 6), (11, some 7), (11, some 8), (11, some 9), (43, none), (44, none), (45, none), (46, none), (48, none), (47, none), (12, some 6), (12, some 7), (12, some 8), (52, none), (13, some 2), (13, some 3), (54, none), (55, none), (53, none), (49, none), (51, none), (50, none), (0, some 11)]
theorem w_f10_path_0 {ws : List (Nat × Option Nat)} {M0 M : cd_M} {a1 : Int32} {a2 : Int32} (hs : cf_sub f10_path_0_w ws = true) (hM : cf_ ws M0 M) : cp (f10_path_0 a1 a2 M) (fun r => cf_ ws M0 r.2) := by
  unfold f10_path_0
  refine cp_ite (fun _ => ?_) (fun _ => ?_)
  · skip
    exact cp_some hM
  · skip
    refine cp_bindM (w_f10_followPath_0 (cf_tr (by decide : cf_sub f10_followPath_0_w f10_path_0_w = true) hs) hM) (fun M2 hM2 => ?_)
    refine cp_ite (fun _ => ?_) (fun _ => ?_)
    · skip
      refine cp_bindX (fun v3 => ?_)
      exact cp_some hM2
    · skip
      refine cp_ite (fun _ => ?_) (fun _ => ?_)
      · skip
        refine cp_bindX (fun v4 => ?_)
        exact cp_some hM2
      · skip
        refine cp_ite (fun _ => ?_) (fun _ => ?_)
        · skip
          refine cp_bindX (fun v5 => ?_)
          exact cp_some hM2
        · skip
          refine cp_ite (fun _ => ?_) (fun _ => ?_)
          · skip
            refine cp_bindX (fun v6 => ?_)
            refine cp_ite (fun _ => ?_) (fun _ => ?_)
            · skip
              exact cp_some hM2
            · skip
              exact cp_some hM2
          · skip
            refine cp_ite (fun _ => ?_) (fun _ => ?_)
            · skip
              refine cp_bindX (fun v8 => ?_)
              exact cp_some hM2
            · skip
              refine cp_ite (fun _ => ?_) (fun _ => ?_)
              · skip
                refine cp_bindX (fun v9 => ?_)
                exact cp_some hM2
              · skip
                refine cp_ite (fun _ => ?_) (fun _ => ?_)
                · skip
                  refine cp_bindX (fun v10 => ?_)
                  refine cp_ite (fun _ => ?_) (fun _ => ?_)
                  · skip
                    exact cp_some hM2
                  · skip
                    exact cp_some hM2
                · skip
                  refine cp_ite (fun _ => ?_) (fun _ => ?_)
                  · skip
                    refine cp_bindX (fun v12 => ?_)
                    refine cp_bindX (fun v13 => ?_)
                    exact cp_some hM2
                  · skip
                    exact cp_some hM2

def f10_all_0_w : List (Nat × Option Nat) := [(10, some 4), (39, none), (40, none), (41, none), (42, none), (9, some 5), (35, none), (36, none), (37, none), (38, none), (33, none), (31, none), (34, none), (32, none), (11, some 6), (11, some 7), (11, some 8), (11, some 9), (43, none), (44, none), (45, none), (46, none), (48, none), (47, none), (12, some 6), (12, some 7), (12, some 8), (52, none), (13, some 2), (13, some 3), (54, none), (55, none), (53, none), (49, none), (51, none), (50, none), (0, some 11)]
theorem w_f10_all_0 {ws : List (Nat × Option Nat)} {M0 M : cd_M} {a1 : Int32} (hs : cf_sub f10_all_0_w ws = true) (hM : cf_ ws M0 M) : cp (f10_all_0 a1 M) (fun r => cf_ ws M0 r.2) := by
  unfold f10_all_0
  refine cp_bindM (w_f10_followPath_0 (cf_tr (by decide : cf_sub f10_followPath_0_w f10_all_0_w = true) hs) hM) (fun M1 hM1 => ?_)
  refine cp_ite (fun _ => ?_) (fun _ => ?_)
  · skip
    exact cp_some hM1
  · skip
    refine cp_ite (fun _ => ?_) (fun _ => ?_)
    · skip
      exact cp_some hM1
    · skip
      refine cp_ite (fun _ => ?_) (fun _ => ?_)
      · skip
        exact cp_some hM1
      · skip
        refine cp_ite (fun _ => ?_) (fun _ => ?_)
        · skip
          exact cp_some hM1
        · skip
          refine cp_ite (fun _ => ?_) (fun _ => ?_)
          · skip
            exact cp_some hM1
          · skip
            refine cp_ite (fun _ => ?_) (fun _ => ?_)
            · skip
              exact cp_some hM1
            · skip
              refine cp_ite (fun _ => ?_) (fun _ => ?_)
              · skip
                exact cp_some hM1
              · skip
                exact cp_some hM1

def f10_edit_0_w : List (Nat × Option Nat) := [(10, some 4), (39, none), (40, none), (41, none), (42, none), (9, some 5), (35, none), (36, none), (37, none), (38, none), (33, none), (31, none), (34, none), (32, none), (11, some 6), (11, some 7), (11, some 8), (11, some 9), (43, none), (44, none), (45, none), (46, none), (48, none), (47, none), (12, some 6), (12, some 7), (12, some 8), (52, none), (13, some 2), (13, some 3), (54, none), (55, none), (53, none), (49, none), (51, none), (50, none), (0, some 11)]
theorem w_f10_edit_0 {ws : List (Nat × Option Nat)} {M0 M : cd_M} {a1 : Int32} (hs : cf_sub f10_edit_0_w ws = true) (hM : cf_ ws M0 M) : cp (f10_edit_0 a1 M) (fun r => cf_ ws M0 r.2) := by
  unfold f10_edit_0
  refine cp_bindM (w_f10_followPath_0 (cf_tr (by decide : cf_sub f10_followPath_0_w f10_edit_0_w = true) hs) hM) (fun M1 hM1 => ?_)
  refine cp_ite (fun _ => ?_) (fun _ => ?_)
  · skip
    exact cp_some hM1
  · skip
    refine cp_ite (fun _ => ?_) (fun _ => ?_)
    · skip
      exact cp_some hM1
    · skip
      refine cp_bindX (fun v2 => ?_)
      exact cp_some hM1

def f10_group_0_w : List (Nat × Option Nat) := [(10, some 4), (39, none), (40, none), (41, none), (42, none), (9, some 5), (35, none), (36, none), (37, none), (38, none), (33, none), (31, none), (34, none), (32, none), (11, some 6), (11, some 7), (11, some 8), (11, some 9), (43, none), (44, none), (45, none), (46, none), (48, none), (47, none), (12, some 6), (12, some 7), (12, some 8), (52, none), (13, some 2), (13, some 3), (54, none), (55, none), (53, none), (49, none), (51, none), (50, none), (0, some 11)]
theorem w_f10_group_0 {ws : List (Nat × Option Nat)} {M0 M : cd_M} {a1 : Int32} {a2 : Int32} (hs : cf_sub f10_group_0_w ws = true) (hM : cf_ ws M0 M) : cp (f10_group_0 a1 a2 M) (fun r => cf_ ws M0 r.2) := by
  unfold f10_group_0
  refine cp_bindM (w_f10_followPath_0 (cf_tr (by decide : cf_sub f10_followPath_0_w f10_group_0_w = true) hs) hM) (fun M1 hM1 => ?_)
  refine cp_ite (fun _ => ?_) (fun _ => ?_)
  · skip
    exact cp_some hM1
  · skip
    refine cp_ite (fun _ => ?_) (fun _ => ?_)
    · skip
      refine cp_bindX (fun v3 => ?_)
      exact cp_some hM1
    · skip
      refine cp_ite (fun _ => ?_) (fun _ => ?_)
      · skip
        refine cp_bindX (fun v4 => ?_)
        exact cp_some hM1
      · skip
        refine cp_ite (fun _ => ?_) (fun _ => ?_)
        · skip
          refine cp_bindX (fun v5 => ?_)
          refine cp_ite (fun _ => ?_) (fun _ => ?_)
          · skip
            exact cp_some hM1
          · skip
            exact cp_some hM1
        · skip
          refine cp_ite (fun _ => ?_) (fun _ => ?_)
          · skip
            refine cp_bindX (fun v7 => ?_)
            exact cp_some hM1
          · skip
            exact cp_some hM1

def f10_found_0_w : List (Nat × Option Nat) := [(10, some 4), (39, none), (40, none), (41, none), (42, none), (9, some 5), (35, none), (36, none), (37, none), (38, none), (33, none), (31, none), (34, none), (32, none), (11, some 6), (11, some 7), (11, some 8), (11, some 9), (43, none), (44, none), (45, none), (46, none), (48, none), (47, none), (12, some 6), (12, some 7), (12, some 8), (52, none), (13, some 2), (13, some 3), (54, none), (55, none), (53, none), (49, none), (51, none), (50, none), (0, some 11)]
theorem w_f10_found_0 {ws : List (Nat × Option Nat)} {M0 M : cd_M} {a1 : Int32} {a2 : Int32} {a3 : Int32} (hs : cf_sub f10_found_0_w ws = true) (hM : cf_ ws M0 M) : cp (f10_found_0 a1 a2 a3 M) (fun r => cf_ ws M0 r.2) := by
  unfold f10_found_0
  refine cp_bindM (w_f10_followPath_0 (cf_tr (by decide : cf_sub f10_followPath_0_w f10_found_0_w = true) hs) hM) (fun M1 hM1 => ?_)
  refine cp_bindX (fun v2 => ?_)
  exact cp_some hM1

def f10_known_0_L24_w : List (Nat × Option Nat) := []
theorem w_f10_known_0_L24 {ws : List (Nat × Option Nat)} {M0 : cd_M}  (hs : cf_sub f10_known_0_L24_w ws = true) : ∀ (n : Nat) (a1 : Int32) (a3 : Int32) (M : cd_M), cf_ ws M0 M → cp (f10_known_0_L24 n a1 a3 M) (fun r => cf_ ws M0 r.2) := by
  intro n
  induction n with
  | zero => intro a1 a3 M _; exact cp_none
  | succ n ih =>
    intro a1 a3 M hM
    unfold f10_known_0_L24
    refine cp_ite (fun _ => ?_) (fun _ => ?_)
    · skip
      exact cp_some hM
    · skip
      refine cp_bindX (fun v3 => ?_)
      refine cp_ite (fun _ => ?_) (fun _ => ?_)
      · skip
        refine cp_ltX (fun x5 => ?_)
        exact (ih _ _ _ hM)
      · skip
        exact cp_some hM

def f10_known_0_w : List (Nat × Option Nat) := [(10, some 4), (39, none), (40, none), (41, none), (42, none), (9, some 5), (35, none), (36, none), (37, none), (38, none), (33, none), (31, none), (34, none), (32, none), (11, some 6), (11, some 7), (11, some 8), (11, some 9), (43, none), (44, none), (45, none), (46, none), (48, none), (47, none), (12, some 6), (12, some 7), (12, some 8), (52, none), (13, some 2), (13, some 3), (54, none), (55, none), (53, none), (49, none), (51, none), (50, none), (0, some 11)]
theorem w_f10_known_0 {ws : List (Nat × Option Nat)} {M0 M : cd_M} {a1 : Int32} (hs : cf_sub f10_known_0_w ws = true) (hM : cf_ ws M0 M) : cp (f10_known_0 a1 M) (fun r => cf_ ws M0 r.2) := by
  unfold f10_known_0
  refine cp_bindM (w_f10_followPath_0 (cf_tr (by decide : cf_sub f10_followPath_0_w f10_known_0_w = true) hs) hM) (fun M1 hM1 => ?_)
  refine cp_ite (fun _ => ?_) (fun _ => ?_)
  · skip
    exact cp_some hM1
  · skip
    exact (w_f10_known_0_L24 (cf_tr (by decide : cf_sub f10_known_0_L24_w f10_known_0_w = true) hs) _ _ _ _ hM1)

def f10_mostInOrder_0_13_L103_w : List (Nat × Option Nat) := [(16, none)]
theorem w_f10_mostInOrder_0_13_L103 {ws : List (Nat × Option Nat)} {M0 M : cd_M} {r23 : Int32 → cd_M → Option (Int32 × cd_M)} {r36 : Int32 → Int32 → Int32 → cd_M → Option (Int32 × cd_M)} {a2 : Int32} {a4 : Int32} {a5 : Int32} {s0 : Int32} {s1 : Int32} (hs : cf_sub f10_mostInOrder_0_13_L103_w ws = true) (hr23 : ∀ (y0 : Int32) (y1 : cd_M), cf_ ws M0 y1 → cp (r23 y0 y1) (fun r => cf_ ws M0 r.2)) (hr36 : ∀ (y0 : Int32) (y1 : Int32) (y2 : Int32) (y3 : cd_M), cf_ ws M0 y3 → cp (r36 y0 y1 y2 y3) (fun r => cf_ ws M0 r.2)) (hM : cf_ ws M0 M) : cp (f10_mostInOrder_0_13_L103 r23 r36 a2 a4 a5 s0 s1 M) (fun r => cf_ ws M0 r.2) := by
  unfold f10_mostInOrder_0_13_L103
  refine cp_ite (fun _ => ?_) (fun _ => ?_)
  · skip
    refine cp_ltM (cf_wI hs (k := 16) (by decide) hM) (fun M5 hM5 => ?_)
    refine cp_ltX (fun x6 => ?_)
    exact (hr36 _ _ _ _ hM5)
  · skip
    exact cp_none

def f10_mostInOrder_0_13_L36_w : List (Nat × Option Nat) := [(16, none)]
theorem w_f10_mostInOrder_0_13_L36 {ws : List (Nat × Option Nat)} {M0 : cd_M} {r23 : Int32 → cd_M → Option (Int32 × cd_M)} (hs : cf_sub f10_mostInOrder_0_13_L36_w ws = true) (hr23 : ∀ (y0 : Int32) (y1 : cd_M), cf_ ws M0 y1 → cp (r23 y0 y1) (fun r => cf_ ws M0 r.2)) : ∀ (n : Nat) (a2 : Int32) (a3 : Int32) (a4 : Int32) (M : cd_M), cf_ ws M0 M → cp (f10_mostInOrder_0_13_L36 r23 n a2 a3 a4 M) (fun r => cf_ ws M0 r.2) := by
  intro n
  induction n with
  | zero => intro a2 a3 a4 M _; exact cp_none
  | succ n ih =>
    intro a2 a3 a4 M hM
    unfold f10_mostInOrder_0_13_L36
    refine cp_ite (fun _ => ?_) (fun _ => ?_)
    · skip
      refine cp_ltX (fun x1 => ?_)
      exact (hr23 _ _ hM)
    · skip
      refine cp_ite (fun _ => ?_) (fun _ => ?_)
      · skip
        refine cp_ltX (fun x2 => ?_)
        refine cp_bindX (fun v3 => ?_)
        refine cp_ite (fun _ => ?_) (fun _ => ?_)
        · skip
          refine cp_ite (fun _ => ?_) (fun _ => ?_)
          · skip
            exact (w_f10_mostInOrder_0_13_L103 (cf_tr (by decide : cf_sub f10_mostInOrder_0_13_L103_w f10_mostInOrder_0_13_L36_w = true) hs) hr23 ih hM)
          · skip
            exact cp_none
        · skip
          exact (w_f10_mostInOrder_0_13_L103 (cf_tr (by decide : cf_sub f10_mostInOrder_0_13_L103_w f10_mostInOrder_0_13_L36_w = true) hs) hr23 ih hM)
      · skip
        exact cp_none

def f10_mostInOrder_0_13_L23_w : List (Nat × Option Nat) := [(16, none)]
theorem w_f10_mostInOrder_0_13_L23 {ws : List (Nat × Option Nat)} {M0 : cd_M}  (hs : cf_sub f10_mostInOrder_0_13_L23_w ws = true) : ∀ (n : Nat) (a2 : Int32) (M : cd_M), cf_ ws M0 M → cp (f10_mostInOrder_0_13_L23 n a2 M) (fun r => cf_ ws M0 r.2) := by
  intro n
  induction n with
  | zero => intro a2 M _; exact cp_none
  | succ n ih =>
    intro a2 M hM
    unfold f10_mostInOrder_0_13_L23
    refine cp_ite (fun _ => ?_) (fun _ => ?_)
    · skip
      refine cp_ite (fun _ => ?_) (fun _ => ?_)
      · skip
        exact cp_some hM
      · skip
        exact cp_none
    · skip
      exact (w_f10_mostInOrder_0_13_L36 (cf_tr (by decide : cf_sub f10_mostInOrder_0_13_L36_w f10_mostInOrder_0_13_L23_w = true) hs) ih _ _ _ _ _ hM)

def f10_mostInOrder_0_13_L2_w : List (Nat × Option Nat) := [(16, none)]
theorem w_f10_mostInOrder_0_13_L2 {ws : List (Nat × Option Nat)} {M0 : cd_M}  (hs : cf_sub f10_mostInOrder_0_13_L2_w ws = true) : ∀ (n : Nat) (a2 : Int32) (M : cd_M), cf_ ws M0 M → cp (f10_mostInOrder_0_13_L2 n a2 M) (fun r => cf_ ws M0 r.2) := by
  intro n
  induction n with
  | zero => intro a2 M _; exact cp_none
  | succ n ih =>
    intro a2 M hM
    unfold f10_mostInOrder_0_13_L2
    refine cp_ite (fun _ => ?_) (fun _ => ?_)
    · skip
      exact (w_f10_mostInOrder_0_13_L23 (cf_tr (by decide : cf_sub f10_mostInOrder_0_13_L23_w f10_mostInOrder_0_13_L2_w = true) hs) _ _ _ hM)
    · skip
      refine cp_ite (fun _ => ?_) (fun _ => ?_)
      · skip
        refine cp_ltM (cf_wI hs (k := 16) (by decide) hM) (fun M7 hM7 => ?_)
        refine cp_ltX (fun x8 => ?_)
        exact (ih _ _ hM7)
      · skip
        exact cp_none

def f10_mostInOrder_0_13_w : List (Nat × Option Nat) := [(16, none)]
theorem w_f10_mostInOrder_0_13 {ws : List (Nat × Option Nat)} {M0 M : cd_M}  (hs : cf_sub f10_mostInOrder_0_13_w ws = true) (hM : cf_ ws M0 M) : cp (f10_mostInOrder_0_13 M) (fun r => cf_ ws M0 r.2) := by
  unfold f10_mostInOrder_0_13
  exact (w_f10_mostInOrder_0_13_L2 (cf_tr (by decide : cf_sub f10_mostInOrder_0_13_L2_w f10_mostInOrder_0_13_w = true) hs) _ _ _ hM)

def f10_restored_0_w : List (Nat × Option Nat) := [(10, some 4), (39, none), (40, none), (41, none), (42, none), (9, some 5), (35, none), (36, none), (37, none), (38, none), (33, none), (31, none), (34, none), (32, none), (11, some 6), (11, some 7), (11, some 8), (11, some 9), (43, none), (44, none), (45, none), (46, none), (48, none), (47, none), (12, some 6), (12, some 7), (12, some 8), (52, none), (13, some 2), (13, some 3), (54, none), (55, none), (53, none), (49, none), (51, none), (50, none), (0, some 11), (16, none)]
theorem w_f10_restored_0 {ws : List (Nat × Option Nat)} {M0 M : cd_M}  (hs : cf_sub f10_restored_0_w ws = true) (hM : cf_ ws M0 M) : cp (f10_restored_0 M) (fun r => cf_ ws M0 r.2) := by
  unfold f10_restored_0
  refine cp_ite (fun _ => ?_) (fun _ => ?_)
  · skip
    exact cp_some hM
  · skip
    refine cp_bindM (w_f10_followPath_0 (cf_tr (by decide : cf_sub f10_followPath_0_w f10_restored_0_w = true) hs) hM) (fun M1 hM1 => ?_)
    refine cp_bindU (w_f10_mostInOrder_0_13 (cf_tr (by decide : cf_sub f10_mostInOrder_0_13_w f10_restored_0_w = true) hs) hM1) (fun v3 M2 hM2 => ?_)
    exact cp_some hM2

def f0_costBy_9_7_6_L27_w : List (Nat × Option Nat) := []
theorem w_f0_costBy_9_7_6_L27 {ws : List (Nat × Option Nat)} {M0 M : cd_M} {a3 : Int32} (hs : cf_sub f0_costBy_9_7_6_L27_w ws = true) (hM : cf_ ws M0 M) : cp (f0_costBy_9_7_6_L27 a3 M) (fun r => cf_ ws M0 r.2) := by
  unfold f0_costBy_9_7_6_L27
  refine cp_ite (fun _ => ?_) (fun _ => ?_)
  · skip
    exact cp_some hM
  · skip
    exact cp_none
