/-! frames, by program (frgen.py) -/
def f0_costBy_9_7_6_w : List (Nat × Option Nat) := [(10, some 4), (39, none), (40, none), (41, none), (42, none), (9, some 5), (35, none), (36, none), (37, none), (38, none), (33, none), (31, none), (34, none), (32, none)]
theorem w_f0_costBy_9_7_6 {ws : List (Nat × Option Nat)} {M0 M : cd_M} {a3 : Int32} (hs : cf_sub f0_costBy_9_7_6_w ws = true) (hM : cf_ ws M0 M) : cp (f0_costBy_9_7_6 a3 M) (fun r => cf_ ws M0 r.2) := by
  unfold f0_costBy_9_7_6
  refine cp_ite (fun _ => ?_) (fun _ => ?_)
  · skip
    exact cp_some hM
  · skip
    refine cp_ite (fun _ => ?_) (fun _ => ?_)
    · skip
      refine cp_ite (fun _ => ?_) (fun _ => ?_)
      · skip
        refine cp_ite (fun _ => ?_) (fun _ => ?_)
        · skip
          refine cp_bindM (w_f0_solve_9_7_6 (cf_tr (by decide : cf_sub f0_solve_9_7_6_w f0_costBy_9_7_6_w = true) hs) hM) (fun M1 hM1 => ?_)
          exact (w_f0_costBy_9_7_6_L27 (cf_tr (by decide : cf_sub f0_costBy_9_7_6_L27_w f0_costBy_9_7_6_w = true) hs) hM1)
        · skip
          exact (w_f0_costBy_9_7_6_L27 (cf_tr (by decide : cf_sub f0_costBy_9_7_6_L27_w f0_costBy_9_7_6_w = true) hs) hM)
      · skip
        exact cp_none
    · skip
      exact cp_some hM

def f10_costs_0_w : List (Nat × Option Nat) := [(10, some 4), (39, none), (40, none), (41, none), (42, none), (9, some 5), (35, none), (36, none), (37, none), (38, none), (33, none), (31, none), (34, none), (32, none)]
theorem w_f10_costs_0 {ws : List (Nat × Option Nat)} {M0 M : cd_M} {a1 : Int32} (hs : cf_sub f10_costs_0_w ws = true) (hM : cf_ ws M0 M) : cp (f10_costs_0 a1 M) (fun r => cf_ ws M0 r.2) := by
  unfold f10_costs_0
  refine cp_ite (fun _ => ?_) (fun _ => ?_)
  · skip
    exact cp_some hM
  · skip
    refine cp_bindU (w_f0_costBy_9_7_6 (cf_tr (by decide : cf_sub f0_costBy_9_7_6_w f10_costs_0_w = true) hs) hM) (fun v3 M2 hM2 => ?_)
    exact cp_some hM2

def f10_guess_0_L52_w : List (Nat × Option Nat) := []
theorem w_f10_guess_0_L52 {ws : List (Nat × Option Nat)} {M0 M : cd_M} {r4 : Int32 → Int32 → Int32 → cd_M → Option (Int32 × cd_M)} {a1 : Int32} {a2 : Int32} {a3 : Int32} (hs : cf_sub f10_guess_0_L52_w ws = true) (hr4 : ∀ (y0 : Int32) (y1 : Int32) (y2 : Int32) (y3 : cd_M), cf_ ws M0 y3 → cp (r4 y0 y1 y2 y3) (fun r => cf_ ws M0 r.2)) (hM : cf_ ws M0 M) : cp (f10_guess_0_L52 r4 a1 a2 a3 M) (fun r => cf_ ws M0 r.2) := by
  unfold f10_guess_0_L52
  refine cp_ltX (fun x9 => ?_)
  exact (hr4 _ _ _ _ hM)

def f10_guess_0_L4_w : List (Nat × Option Nat) := [(10, some 4), (39, none), (40, none), (41, none), (42, none), (9, some 5), (35, none), (36, none), (37, none), (38, none), (33, none), (31, none), (34, none), (32, none)]
theorem w_f10_guess_0_L4 {ws : List (Nat × Option Nat)} {M0 : cd_M}  (hs : cf_sub f10_guess_0_L4_w ws = true) : ∀ (n : Nat) (a1 : Int32) (a2 : Int32) (a3 : Int32) (M : cd_M), cf_ ws M0 M → cp (f10_guess_0_L4 n a1 a2 a3 M) (fun r => cf_ ws M0 r.2) := by
  intro n
  induction n with
  | zero => intro a1 a2 a3 M _; exact cp_none
  | succ n ih =>
    intro a1 a2 a3 M hM
    unfold f10_guess_0_L4
    refine cp_ite (fun _ => ?_) (fun _ => ?_)
    · skip
      refine cp_ite (fun _ => ?_) (fun _ => ?_)
      · skip
        exact cp_some hM
      · skip
        refine cp_ite (fun _ => ?_) (fun _ => ?_)
        · skip
          exact cp_some hM
        · skip
          refine cp_ite (fun _ => ?_) (fun _ => ?_)
          · skip
            refine cp_bindX (fun v1 => ?_)
            exact cp_some hM
          · skip
            refine cp_ite (fun _ => ?_) (fun _ => ?_)
            · skip
              refine cp_bindX (fun v2 => ?_)
              exact cp_some hM
            · skip
              exact cp_some hM
    · skip
      refine cp_bindU (w_f0_costBy_9_7_6 (cf_tr (by decide : cf_sub f0_costBy_9_7_6_w f10_guess_0_L4_w = true) hs) hM) (fun v4 M3 hM3 => ?_)
      refine cp_bindU (w_f0_costBy_9_7_6 (cf_tr (by decide : cf_sub f0_costBy_9_7_6_w f10_guess_0_L4_w = true) hs) hM3) (fun v7 M6 hM6 => ?_)
      refine cp_ite (fun _ => ?_) (fun _ => ?_)
      · skip
        exact (w_f10_guess_0_L52 (cf_tr (by decide : cf_sub f10_guess_0_L52_w f10_guess_0_L4_w = true) hs) ih hM6)
      · skip
        exact (w_f10_guess_0_L52 (cf_tr (by decide : cf_sub f10_guess_0_L52_w f10_guess_0_L4_w = true) hs) ih hM6)

def f10_guess_0_w : List (Nat × Option Nat) := [(10, some 4), (39, none), (40, none), (41, none), (42, none), (9, some 5), (35, none), (36, none), (37, none), (38, none), (33, none), (31, none), (34, none), (32, none)]
theorem w_f10_guess_0 {ws : List (Nat × Option Nat)} {M0 M : cd_M} {a1 : Int32} (hs : cf_sub f10_guess_0_w ws = true) (hM : cf_ ws M0 M) : cp (f10_guess_0 a1 M) (fun r => cf_ ws M0 r.2) := by
  unfold f10_guess_0
  exact (w_f10_guess_0_L4 (cf_tr (by decide : cf_sub f10_guess_0_L4_w f10_guess_0_w = true) hs) _ _ _ _ _ hM)

def f4_addField_14_w : List (Nat × Option Nat) := [(56, none), (14, some 1)]
theorem w_f4_addField_14 {ws : List (Nat × Option Nat)} {M0 M : cd_M} {a1 : Int64} {a2 : Int32} (hs : cf_sub f4_addField_14_w ws = true) (hM : cf_ ws M0 M) : cp (f4_addField_14 a1 a2 M) (cf_ ws M0) := by
  unfold f4_addField_14
  refine cp_ite (fun _ => ?_) (fun _ => ?_)
  · skip
    exact cp_some hM
  · skip
    refine cp_ite (fun _ => ?_) (fun _ => ?_)
    · skip
      refine cp_ltM (cf_wL hs (k := 56) (by decide) hM) (fun M1 hM1 => ?_)
      refine cp_ltM (cf_wF hs (k := 14) (j := 1) (by decide) hM1) (fun M2 hM2 => ?_)
      exact cp_some hM2
    · skip
      exact cp_none

def f4_carryFrames_14_13_6_L90_w : List (Nat × Option Nat) := []
theorem w_f4_carryFrames_14_13_6_L90 {ws : List (Nat × Option Nat)} {M0 M : cd_M} {r16 : Int32 → Int32 → Int32 → Int32 → cd_M → Option cd_M} {a3 : Int32} {a7 : Int32} {a8 : Int32} {s0 : Int32} (hs : cf_sub f4_carryFrames_14_13_6_L90_w ws = true) (hr16 : ∀ (y0 : Int32) (y1 : Int32) (y2 : Int32) (y3 : Int32) (y4 : cd_M), cf_ ws M0 y4 → cp (r16 y0 y1 y2 y3 y4) (cf_ ws M0)) (hM : cf_ ws M0 M) : cp (f4_carryFrames_14_13_6_L90 r16 a3 a7 a8 s0 M) (cf_ ws M0) := by
  unfold f4_carryFrames_14_13_6_L90
  refine cp_ltX (fun x5 => ?_)
  exact (hr16 _ _ _ _ _ hM)

def f4_carryFrames_14_13_6_L37_w : List (Nat × Option Nat) := [(56, none), (14, some 1)]
theorem w_f4_carryFrames_14_13_6_L37 {ws : List (Nat × Option Nat)} {M0 : cd_M} {r16 : Int32 → Int32 → Int32 → Int32 → cd_M → Option cd_M} (hs : cf_sub f4_carryFrames_14_13_6_L37_w ws = true) (hr16 : ∀ (y0 : Int32) (y1 : Int32) (y2 : Int32) (y3 : Int32) (y4 : cd_M), cf_ ws M0 y4 → cp (r16 y0 y1 y2 y3 y4) (cf_ ws M0)) : ∀ (n : Nat) (a3 : Int32) (a6 : Int32) (a7 : Int32) (a8 : Int32) (a9 : Int32) (a10 : Int32) (M : cd_M), cf_ ws M0 M → cp (f4_carryFrames_14_13_6_L37 r16 n a3 a6 a7 a8 a9 a10 M) (cf_ ws M0) := by
  intro n
  induction n with
  | zero => intro a3 a6 a7 a8 a9 a10 M _; exact cp_none
  | succ n ih =>
    intro a3 a6 a7 a8 a9 a10 M hM
    unfold f4_carryFrames_14_13_6_L37
    refine cp_ite (fun _ => ?_) (fun _ => ?_)
    · skip
      refine cp_bindX (fun v3 => ?_)
      refine cp_ite (fun _ => ?_) (fun _ => ?_)
      · skip
        exact (w_f4_carryFrames_14_13_6_L90 (cf_tr (by decide : cf_sub f4_carryFrames_14_13_6_L90_w f4_carryFrames_14_13_6_L37_w = true) hs) hr16 hM)
      · skip
        exact (w_f4_carryFrames_14_13_6_L90 (cf_tr (by decide : cf_sub f4_carryFrames_14_13_6_L90_w f4_carryFrames_14_13_6_L37_w = true) hs) hr16 hM)
    · skip
      refine cp_bindX (fun v6 => ?_)
      refine cp_bindM (w_f4_addField_14 (cf_tr (by decide : cf_sub f4_addField_14_w f4_carryFrames_14_13_6_L37_w = true) hs) hM) (fun M7 hM7 => ?_)
      refine cp_ltX (fun x8 => ?_)
      refine cp_ltX (fun x9 => ?_)
      exact (ih _ _ _ _ _ _ _ hM7)

def f4_carryFrames_14_13_6_L16_w : List (Nat × Option Nat) := [(56, none), (14, some 1)]
theorem w_f4_carryFrames_14_13_6_L16 {ws : List (Nat × Option Nat)} {M0 : cd_M}  (hs : cf_sub f4_carryFrames_14_13_6_L16_w ws = true) : ∀ (n : Nat) (a3 : Int32) (a6 : Int32) (a7 : Int32) (a8 : Int32) (M : cd_M), cf_ ws M0 M → cp (f4_carryFrames_14_13_6_L16 n a3 a6 a7 a8 M) (cf_ ws M0) := by
  intro n
  induction n with
  | zero => intro a3 a6 a7 a8 M _; exact cp_none
  | succ n ih =>
    intro a3 a6 a7 a8 M hM
    unfold f4_carryFrames_14_13_6_L16
    refine cp_ite (fun _ => ?_) (fun _ => ?_)
    · skip
      exact cp_some hM
    · skip
      refine cp_bindX (fun v2 => ?_)
      exact (w_f4_carryFrames_14_13_6_L37 (cf_tr (by decide : cf_sub f4_carryFrames_14_13_6_L37_w f4_carryFrames_14_13_6_L16_w = true) hs) ih _ _ _ _ _ _ _ _ hM)

def f4_carryFrames_14_13_6_w : List (Nat × Option Nat) := [(14, some 1), (56, none)]
theorem w_f4_carryFrames_14_13_6 {ws : List (Nat × Option Nat)} {M0 M : cd_M} {a3 : Int32} {a4 : Int32} {a5 : Int32} (hs : cf_sub f4_carryFrames_14_13_6_w ws = true) (hM : cf_ ws M0 M) : cp (f4_carryFrames_14_13_6 a3 a4 a5 M) (cf_ ws M0) := by
  unfold f4_carryFrames_14_13_6
  refine cp_ltM (cf_wF hs (k := 14) (j := 1) (by decide) hM) (fun M1 hM1 => ?_)
  exact (w_f4_carryFrames_14_13_6_L16 (cf_tr (by decide : cf_sub f4_carryFrames_14_13_6_L16_w f4_carryFrames_14_13_6_w = true) hs) _ _ _ _ _ _ hM1)

def f10_anew_0_w : List (Nat × Option Nat) := [(10, some 4), (39, none), (40, none), (41, none), (42, none), (9, some 5), (35, none), (36, none), (37, none), (38, none), (33, none), (31, none), (34, none), (32, none), (11, some 6), (11, some 7), (11, some 8), (11, some 9), (43, none), (44, none), (45, none), (46, none), (48, none), (47, none), (12, some 6), (12, some 7), (12, some 8), (52, none), (13, some 2), (13, some 3), (54, none), (55, none), (53, none), (49, none), (51, none), (50, none), (0, some 11), (14, some 1), (56, none)]
theorem w_f10_anew_0 {ws : List (Nat × Option Nat)} {M0 M : cd_M} {a1 : Int32} {a2 : Int32} {a3 : Int32} (hs : cf_sub f10_anew_0_w ws = true) (hM : cf_ ws M0 M) : cp (f10_anew_0 a1 a2 a3 M) (fun r => cf_ ws M0 r.2) := by
  unfold f10_anew_0
  refine cp_ite (fun _ => ?_) (fun _ => ?_)
  · skip
    exact cp_some hM
  · skip
    refine cp_bindM (w_f10_followPath_0 (cf_tr (by decide : cf_sub f10_followPath_0_w f10_anew_0_w = true) hs) hM) (fun M2 hM2 => ?_)
    refine cp_bindM (w_f4_carryFrames_14_13_6 (cf_tr (by decide : cf_sub f4_carryFrames_14_13_6_w f10_anew_0_w = true) hs) hM2) (fun M3 hM3 => ?_)
    refine cp_ite (fun _ => ?_) (fun _ => ?_)
    · skip
      exact cp_some hM3
    · skip
      refine cp_ite (fun _ => ?_) (fun _ => ?_)
      · skip
        exact cp_some hM3
      · skip
        refine cp_ite (fun _ => ?_) (fun _ => ?_)
        · skip
          refine cp_bindX (fun v5 => ?_)
          exact cp_some hM3
        · skip
          refine cp_ite (fun _ => ?_) (fun _ => ?_)
          · skip
            exact cp_some hM3
          · skip
            refine cp_bindX (fun v7 => ?_)
            exact cp_some hM3

def f10_isClean_0_w : List (Nat × Option Nat) := [(10, some 4), (39, none), (40, none), (41, none), (42, none), (9, some 5), (35, none), (36, none), (37, none), (38, none), (33, none), (31, none), (34, none), (32, none), (11, some 6), (11, some 7), (11, some 8), (11, some 9), (43, none), (44, none), (45, none), (46, none), (48, none), (47, none), (12, some 6), (12, some 7), (12, some 8), (52, none), (13, some 2), (13, some 3), (54, none), (55, none), (53, none), (49, none), (51, none), (50, none), (0, some 11), (14, some 1), (56, none)]
theorem w_f10_isClean_0 {ws : List (Nat × Option Nat)} {M0 M : cd_M} {a1 : Int32} (hs : cf_sub f10_isClean_0_w ws = true) (hM : cf_ ws M0 M) : cp (f10_isClean_0 a1 M) (fun r => cf_ ws M0 r.2) := by
  unfold f10_isClean_0
  refine cp_ite (fun _ => ?_) (fun _ => ?_)
  · skip
    exact cp_some hM
  · skip
    refine cp_bindM (w_f10_followPath_0 (cf_tr (by decide : cf_sub f10_followPath_0_w f10_isClean_0_w = true) hs) hM) (fun M2 hM2 => ?_)
    refine cp_bindM (w_f4_carryFrames_14_13_6 (cf_tr (by decide : cf_sub f4_carryFrames_14_13_6_w f10_isClean_0_w = true) hs) hM2) (fun M3 hM3 => ?_)
    refine cp_bindX (fun v4 => ?_)
    exact cp_some hM3

def f11_puts_15_L3_w : List (Nat × Option Nat) := [(57, none), (15, some 2)]
theorem w_f11_puts_15_L3 {ws : List (Nat × Option Nat)} {M0 : cd_M}  (hs : cf_sub f11_puts_15_L3_w ws = true) : ∀ (n : Nat) (a1 : Int32) (a2 : Int32) (M : cd_M), cf_ ws M0 M → cp (f11_puts_15_L3 n a1 a2 M) (cf_ ws M0) := by
  intro n
  induction n with
  | zero => intro a1 a2 M _; exact cp_none
  | succ n ih =>
    intro a1 a2 M hM
    unfold f11_puts_15_L3
    refine cp_ite (fun _ => ?_) (fun _ => ?_)
    · skip
      exact cp_some hM
    · skip
      refine cp_ite (fun _ => ?_) (fun _ => ?_)
      · skip
        refine cp_ltM (cf_wI hs (k := 57) (by decide) hM) (fun M1 hM1 => ?_)
        refine cp_ltM (cf_wF hs (k := 15) (j := 2) (by decide) hM1) (fun M2 hM2 => ?_)
        refine cp_ltX (fun x3 => ?_)
        exact (ih _ _ _ hM2)
      · skip
        exact cp_none

def f11_puts_15_w : List (Nat × Option Nat) := [(57, none), (15, some 2)]
theorem w_f11_puts_15 {ws : List (Nat × Option Nat)} {M0 M : cd_M} {a1 : Int32} (hs : cf_sub f11_puts_15_w ws = true) (hM : cf_ ws M0 M) : cp (f11_puts_15 a1 M) (cf_ ws M0) := by
  unfold f11_puts_15
  exact (w_f11_puts_15_L3 (cf_tr (by decide : cf_sub f11_puts_15_L3_w f11_puts_15_w = true) hs) _ _ _ _ hM)

def f11_feed_15_w : List (Nat × Option Nat) := [(15, some 0), (57, none), (15, some 2)]
theorem w_f11_feed_15 {ws : List (Nat × Option Nat)} {M0 M : cd_M} {a1 : Int32} {a2 : Int32} {a3 : Int32} {a4 : Int32} {a5 : Int32} (hs : cf_sub f11_feed_15_w ws = true) (hM : cf_ ws M0 M) : cp (f11_feed_15 a1 a2 a3 a4 a5 M) (fun r => cf_ ws M0 r.2) := by
  unfold f11_feed_15
  refine cp_ltM (cf_wF hs (k := 15) (j := 0) (by decide) hM) (fun M1 hM1 => ?_)
  refine cp_ite (fun _ => ?_) (fun _ => ?_)
  · skip
    refine cp_bindM (w_f11_puts_15 (cf_tr (by decide : cf_sub f11_puts_15_w f11_feed_15_w = true) hs) hM1) (fun M2 hM2 => ?_)
    refine cp_bindM (w_f11_puts_15 (cf_tr (by decide : cf_sub f11_puts_15_w f11_feed_15_w = true) hs) hM2) (fun M3 hM3 => ?_)
    refine cp_bindM (w_f11_puts_15 (cf_tr (by decide : cf_sub f11_puts_15_w f11_feed_15_w = true) hs) hM3) (fun M4 hM4 => ?_)
    refine cp_bindM (w_f11_puts_15 (cf_tr (by decide : cf_sub f11_puts_15_w f11_feed_15_w = true) hs) hM4) (fun M5 hM5 => ?_)
    refine cp_bindM (w_f11_puts_15 (cf_tr (by decide : cf_sub f11_puts_15_w f11_feed_15_w = true) hs) hM5) (fun M6 hM6 => ?_)
    exact cp_some hM6
  · skip
    exact cp_some hM1

def f11_steps_15_L34_w : List (Nat × Option Nat) := [(15, some 4)]
theorem w_f11_steps_15_L34 {ws : List (Nat × Option Nat)} {M0 M : cd_M} {r8 : cd_M → Option cd_M} (hs : cf_sub f11_steps_15_L34_w ws = true) (hr8 : ∀ (y0 : cd_M), cf_ ws M0 y0 → cp (r8 y0) (cf_ ws M0)) (hM : cf_ ws M0 M) : cp (f11_steps_15_L34 r8 M) (cf_ ws M0) := by
  unfold f11_steps_15_L34
  refine cp_ltM (cf_wF hs (k := 15) (j := 4) (by decide) hM) (fun M3 hM3 => ?_)
  exact (hr8 _ hM3)

def f11_steps_15_L285_w : List (Nat × Option Nat) := [(15, some 6)]
theorem w_f11_steps_15_L285 {ws : List (Nat × Option Nat)} {M0 M : cd_M} {s0 : Int32} (hs : cf_sub f11_steps_15_L285_w ws = true) (hM : cf_ ws M0 M) : cp (f11_steps_15_L285 s0 M) (cf_ ws M0) := by
  unfold f11_steps_15_L285
  refine cp_ltM (cf_wF hs (k := 15) (j := 6) (by decide) hM) (fun M17 hM17 => ?_)
  exact cp_some hM17

def f11_steps_15_L250_w : List (Nat × Option Nat) := [(15, some 7), (15, some 5)]
theorem w_f11_steps_15_L250 {ws : List (Nat × Option Nat)} {M0 M : cd_M} {r189 : cd_M → Option cd_M} {s0 : Int32} (hs : cf_sub f11_steps_15_L250_w ws = true) (hr189 : ∀ (y0 : cd_M), cf_ ws M0 y0 → cp (r189 y0) (cf_ ws M0)) (hM : cf_ ws M0 M) : cp (f11_steps_15_L250 r189 s0 M) (cf_ ws M0) := by
  unfold f11_steps_15_L250
  refine cp_ltM (cf_wF hs (k := 15) (j := 7) (by decide) hM) (fun M18 hM18 => ?_)
  refine cp_ltM (cf_wF hs (k := 15) (j := 5) (by decide) hM18) (fun M19 hM19 => ?_)
  exact (hr189 _ hM19)

def f11_steps_15_L189_w : List (Nat × Option Nat) := [(15, some 6), (15, some 7), (15, some 5)]
theorem w_f11_steps_15_L189 {ws : List (Nat × Option Nat)} {M0 : cd_M}  (hs : cf_sub f11_steps_15_L189_w ws = true) : ∀ (n : Nat) (M : cd_M), cf_ ws M0 M → cp (f11_steps_15_L189 n M) (cf_ ws M0) := by
  intro n
  induction n with
  | zero => intro M _; exact cp_none
  | succ n ih =>
    intro M hM
    unfold f11_steps_15_L189
    refine cp_bindX (fun v15 => ?_)
    refine cp_ite (fun _ => ?_) (fun _ => ?_)
    · skip
      refine cp_ite (fun _ => ?_) (fun _ => ?_)
      · skip
        exact (w_f11_steps_15_L285 (cf_tr (by decide : cf_sub f11_steps_15_L285_w f11_steps_15_L189_w = true) hs) hM)
      · skip
        exact (w_f11_steps_15_L285 (cf_tr (by decide : cf_sub f11_steps_15_L285_w f11_steps_15_L189_w = true) hs) hM)
    · skip
      refine cp_ite (fun _ => ?_) (fun _ => ?_)
      · skip
        exact (w_f11_steps_15_L250 (cf_tr (by decide : cf_sub f11_steps_15_L250_w f11_steps_15_L189_w = true) hs) ih hM)
      · skip
        refine cp_bindX (fun v20 => ?_)
        exact (w_f11_steps_15_L250 (cf_tr (by decide : cf_sub f11_steps_15_L250_w f11_steps_15_L189_w = true) hs) ih hM)

def f11_steps_15_L125_w : List (Nat × Option Nat) := [(15, some 6), (15, some 5)]
theorem w_f11_steps_15_L125 {ws : List (Nat × Option Nat)} {M0 : cd_M}  (hs : cf_sub f11_steps_15_L125_w ws = true) : ∀ (n : Nat) (M : cd_M), cf_ ws M0 M → cp (f11_steps_15_L125 n M) (cf_ ws M0) := by
  intro n
  induction n with
  | zero => intro M _; exact cp_none
  | succ n ih =>
    intro M hM
    unfold f11_steps_15_L125
    refine cp_bindX (fun v21 => ?_)
    refine cp_ite (fun _ => ?_) (fun _ => ?_)
    · skip
      refine cp_ltM (cf_wF hs (k := 15) (j := 6) (by decide) hM) (fun M23 hM23 => ?_)
      exact cp_some hM23
    · skip
      refine cp_ltM (cf_wF hs (k := 15) (j := 5) (by decide) hM) (fun M24 hM24 => ?_)
      exact (ih _ hM24)

def f11_steps_15_L8_w : List (Nat × Option Nat) := [(15, some 4), (15, some 5), (15, some 6), (15, some 7)]
theorem w_f11_steps_15_L8 {ws : List (Nat × Option Nat)} {M0 : cd_M}  (hs : cf_sub f11_steps_15_L8_w ws = true) : ∀ (n : Nat) (M : cd_M), cf_ ws M0 M → cp (f11_steps_15_L8 n M) (cf_ ws M0) := by
  intro n
  induction n with
  | zero => intro M _; exact cp_none
  | succ n ih =>
    intro M hM
    unfold f11_steps_15_L8
    refine cp_bindX (fun v2 => ?_)
    refine cp_ite (fun _ => ?_) (fun _ => ?_)
    · skip
      exact (w_f11_steps_15_L34 (cf_tr (by decide : cf_sub f11_steps_15_L34_w f11_steps_15_L8_w = true) hs) ih hM)
    · skip
      refine cp_bindX (fun v4 => ?_)
      refine cp_ite (fun _ => ?_) (fun _ => ?_)
      · skip
        exact (w_f11_steps_15_L34 (cf_tr (by decide : cf_sub f11_steps_15_L34_w f11_steps_15_L8_w = true) hs) ih hM)
      · skip
        refine cp_bindX (fun v5 => ?_)
        refine cp_ltM (cf_wF hs (k := 15) (j := 5) (by decide) hM) (fun M6 hM6 => ?_)
        refine cp_ltM (cf_wF hs (k := 15) (j := 6) (by decide) hM6) (fun M7 hM7 => ?_)
        refine cp_ltM (cf_wF hs (k := 15) (j := 7) (by decide) hM7) (fun M8 hM8 => ?_)
        refine cp_ite (fun _ => ?_) (fun _ => ?_)
        · skip
          refine cp_ltM (cf_wF hs (k := 15) (j := 5) (by decide) hM8) (fun M9 hM9 => ?_)
          refine cp_ltM (cf_wF hs (k := 15) (j := 6) (by decide) hM9) (fun M10 hM10 => ?_)
          exact cp_some hM10
        · skip
          refine cp_ite (fun _ => ?_) (fun _ => ?_)
          · skip
            refine cp_ltM (cf_wF hs (k := 15) (j := 6) (by decide) hM8) (fun M11 hM11 => ?_)
            exact cp_some hM11
          · skip
            refine cp_ite (fun _ => ?_) (fun _ => ?_)
            · skip
              refine cp_ite (fun _ => ?_) (fun _ => ?_)
              · skip
                exact cp_some hM8
              · skip
                refine cp_ltM (cf_wF hs (k := 15) (j := 5) (by decide) hM8) (fun M14 hM14 => ?_)
                exact (w_f11_steps_15_L189 (cf_tr (by decide : cf_sub f11_steps_15_L189_w f11_steps_15_L8_w = true) hs) _ _ hM14)
            · skip
              exact (w_f11_steps_15_L125 (cf_tr (by decide : cf_sub f11_steps_15_L125_w f11_steps_15_L8_w = true) hs) _ _ hM8)

def f11_steps_15_w : List (Nat × Option Nat) := [(15, some 4), (15, some 5), (15, some 6), (15, some 7)]
theorem w_f11_steps_15 {ws : List (Nat × Option Nat)} {M0 M : cd_M}  (hs : cf_sub f11_steps_15_w ws = true) (hM : cf_ ws M0 M) : cp (f11_steps_15 M) (cf_ ws M0) := by
  unfold f11_steps_15
  refine cp_ltM (cf_wF hs (k := 15) (j := 4) (by decide) hM) (fun M1 hM1 => ?_)
  exact (w_f11_steps_15_L8 (cf_tr (by decide : cf_sub f11_steps_15_L8_w f11_steps_15_w = true) hs) _ _ hM1)

def f11_begins_15_w : List (Nat × Option Nat) := [(15, some 2), (15, some 3), (15, some 5), (15, some 8), (15, some 4), (15, some 6), (15, some 7)]
theorem w_f11_begins_15 {ws : List (Nat × Option Nat)} {M0 M : cd_M} {a1 : Int32} (hs : cf_sub f11_begins_15_w ws = true) (hM : cf_ ws M0 M) : cp (f11_begins_15 a1 M) (cf_ ws M0) := by
  unfold f11_begins_15
  refine cp_ltM (cf_wF hs (k := 15) (j := 2) (by decide) hM) (fun M1 hM1 => ?_)
  refine cp_ltM (cf_wF hs (k := 15) (j := 3) (by decide) hM1) (fun M2 hM2 => ?_)
  refine cp_ltM (cf_wF hs (k := 15) (j := 5) (by decide) hM2) (fun M3 hM3 => ?_)
  refine cp_ltM (cf_wF hs (k := 15) (j := 8) (by decide) hM3) (fun M4 hM4 => ?_)
  refine cp_bindM (w_f11_steps_15 (cf_tr (by decide : cf_sub f11_steps_15_w f11_begins_15_w = true) hs) hM4) (fun M5 hM5 => ?_)
  exact cp_some hM5

def f11_must_15_L24_w : List (Nat × Option Nat) := []
theorem w_f11_must_15_L24 {ws : List (Nat × Option Nat)} {M0 M : cd_M}  (hs : cf_sub f11_must_15_L24_w ws = true) (hM : cf_ ws M0 M) : ci_ (f11_must_15_L24 M) (fun r => cf_ ws M0 r.2) := by
  unfold f11_must_15_L24
  refine ci_ite (fun _ => ?_) (fun _ => ?_)
  · skip
    exact ci_some hM
  · skip
    exact ci_some hM

def f11_must_15_w : List (Nat × Option Nat) := [(15, some 8), (15, some 9)]
theorem w_f11_must_15 {ws : List (Nat × Option Nat)} {M0 M : cd_M} {a1 : Int32} {a2 : Int32} (hs : cf_sub f11_must_15_w ws = true) (hM : cf_ ws M0 M) : ci_ (f11_must_15 a1 a2 M) (fun r => cf_ ws M0 r.2) := by
  unfold f11_must_15
  refine ci_ite (fun _ => ?_) (fun _ => ?_)
  · skip
    refine ci_ite (fun _ => ?_) (fun _ => ?_)
    · skip
      refine ci_ltM (cf_wF hs (k := 15) (j := 8) (by decide) hM) (fun M1 hM1 => ?_)
      refine ci_ltM (cf_wF hs (k := 15) (j := 9) (by decide) hM1) (fun M2 hM2 => ?_)
      exact (w_f11_must_15_L24 (cf_tr (by decide : cf_sub f11_must_15_L24_w f11_must_15_w = true) hs) hM2)
    · skip
      exact (w_f11_must_15_L24 (cf_tr (by decide : cf_sub f11_must_15_L24_w f11_must_15_w = true) hs) hM)
  · skip
    exact (w_f11_must_15_L24 (cf_tr (by decide : cf_sub f11_must_15_L24_w f11_must_15_w = true) hs) hM)

def f11_takesNumber_15_L14_w : List (Nat × Option Nat) := [(15, some 8), (15, some 9), (15, some 10), (15, some 4), (15, some 5), (15, some 6), (15, some 7)]
theorem w_f11_takesNumber_15_L14 {ws : List (Nat × Option Nat)} {M0 M : cd_M} {a1 : Int32} {a2 : Int32} {s0 : Int32} (hs : cf_sub f11_takesNumber_15_L14_w ws = true) (hM : cf_ ws M0 M) : cp (f11_takesNumber_15_L14 a1 a2 s0 M) (fun r => cf_ ws M0 r.2) := by
  unfold f11_takesNumber_15_L14
  refine cp_ltU (w_f11_must_15 (cf_tr (by decide : cf_sub f11_must_15_w f11_takesNumber_15_L14_w = true) hs) hM) (fun v2 M1 hM1 => ?_)
  refine cp_ite (fun _ => ?_) (fun _ => ?_)
  · skip
    exact cp_some hM1
  · skip
    refine cp_ltU (w_f11_must_15 (cf_tr (by decide : cf_sub f11_must_15_w f11_takesNumber_15_L14_w = true) hs) hM1) (fun v7 M6 hM6 => ?_)
    refine cp_ite (fun _ => ?_) (fun _ => ?_)
    · skip
      exact cp_some hM6
    · skip
      refine cp_ltM (cf_wF hs (k := 15) (j := 10) (by decide) hM6) (fun M10 hM10 => ?_)
      refine cp_bindM (w_f11_steps_15 (cf_tr (by decide : cf_sub f11_steps_15_w f11_takesNumber_15_L14_w = true) hs) hM10) (fun M11 hM11 => ?_)
      exact cp_some hM11

def f11_takesNumber_15_w : List (Nat × Option Nat) := [(15, some 8), (15, some 9), (15, some 10), (15, some 4), (15, some 5), (15, some 6), (15, some 7)]
theorem w_f11_takesNumber_15 {ws : List (Nat × Option Nat)} {M0 M : cd_M} {a1 : Int32} {a2 : Int32} (hs : cf_sub f11_takesNumber_15_w ws = true) (hM : cf_ ws M0 M) : cp (f11_takesNumber_15 a1 a2 M) (fun r => cf_ ws M0 r.2) := by
  unfold f11_takesNumber_15
  refine cp_ite (fun _ => ?_) (fun _ => ?_)
  · skip
    exact (w_f11_takesNumber_15_L14 (cf_tr (by decide : cf_sub f11_takesNumber_15_L14_w f11_takesNumber_15_w = true) hs) hM)
  · skip
    exact (w_f11_takesNumber_15_L14 (cf_tr (by decide : cf_sub f11_takesNumber_15_L14_w f11_takesNumber_15_w = true) hs) hM)

def f11_takesEnd_15_L14_w : List (Nat × Option Nat) := [(15, some 8), (15, some 9), (15, some 4), (15, some 5), (15, some 6), (15, some 7)]
theorem w_f11_takesEnd_15_L14 {ws : List (Nat × Option Nat)} {M0 M : cd_M} {s0 : Int32} (hs : cf_sub f11_takesEnd_15_L14_w ws = true) (hM : cf_ ws M0 M) : cp (f11_takesEnd_15_L14 s0 M) (fun r => cf_ ws M0 r.2) := by
  unfold f11_takesEnd_15_L14
  refine cp_ltU (w_f11_must_15 (cf_tr (by decide : cf_sub f11_must_15_w f11_takesEnd_15_L14_w = true) hs) hM) (fun v2 M1 hM1 => ?_)
  refine cp_ite (fun _ => ?_) (fun _ => ?_)
  · skip
    exact cp_some hM1
  · skip
    refine cp_bindM (w_f11_steps_15 (cf_tr (by decide : cf_sub f11_steps_15_w f11_takesEnd_15_L14_w = true) hs) hM1) (fun M5 hM5 => ?_)
    exact cp_some hM5

def f11_takesEnd_15_w : List (Nat × Option Nat) := [(15, some 8), (15, some 9), (15, some 4), (15, some 5), (15, some 6), (15, some 7)]
theorem w_f11_takesEnd_15 {ws : List (Nat × Option Nat)} {M0 M : cd_M}  (hs : cf_sub f11_takesEnd_15_w ws = true) (hM : cf_ ws M0 M) : cp (f11_takesEnd_15 M) (fun r => cf_ ws M0 r.2) := by
  unfold f11_takesEnd_15
  refine cp_ite (fun _ => ?_) (fun _ => ?_)
  · skip
    exact (w_f11_takesEnd_15_L14 (cf_tr (by decide : cf_sub f11_takesEnd_15_L14_w f11_takesEnd_15_w = true) hs) hM)
  · skip
    exact (w_f11_takesEnd_15_L14 (cf_tr (by decide : cf_sub f11_takesEnd_15_L14_w f11_takesEnd_15_w = true) hs) hM)

def f11_frameHere_15_L42_w : List (Nat × Option Nat) := [(15, some 15), (15, some 8), (15, some 9), (15, some 4), (15, some 5), (15, some 6), (15, some 7), (15, some 10), (59, none)]
theorem w_f11_frameHere_15_L42 {ws : List (Nat × Option Nat)} {M0 : cd_M}  (hs : cf_sub f11_frameHere_15_L42_w ws = true) : ∀ (n : Nat) (a1 : Int32) (M : cd_M), cf_ ws M0 M → cp (f11_frameHere_15_L42 n a1 M) (fun r => cf_ ws M0 r.2) := by
  intro n
  induction n with
  | zero => intro a1 M _; exact cp_none
  | succ n ih =>
    intro a1 M hM
    unfold f11_frameHere_15_L42
    refine cp_ite (fun _ => ?_) (fun _ => ?_)
    · skip
      refine cp_ltM (cf_wF hs (k := 15) (j := 15) (by decide) hM) (fun M12 hM12 => ?_)
      refine cp_bindU (w_f11_takesEnd_15 (cf_tr (by decide : cf_sub f11_takesEnd_15_w f11_frameHere_15_L42_w = true) hs) hM12) (fun v14 M13 hM13 => ?_)
      exact cp_some hM13
    · skip
      refine cp_bindU (w_f11_takesNumber_15 (cf_tr (by decide : cf_sub f11_takesNumber_15_w f11_frameHere_15_L42_w = true) hs) hM) (fun v18 M17 hM17 => ?_)
      refine cp_ite (fun _ => ?_) (fun _ => ?_)
      · skip
        exact cp_some hM17
      · skip
        refine cp_ite (fun _ => ?_) (fun _ => ?_)
        · skip
          exact cp_none
        · skip
          refine cp_ite (fun _ => ?_) (fun _ => ?_)
          · skip
            exact cp_none
          · skip
            refine cp_ite (fun _ => ?_) (fun _ => ?_)
            · skip
              refine cp_ltM (cf_wI hs (k := 59) (by decide) hM17) (fun M21 hM21 => ?_)
              refine cp_ltX (fun x22 => ?_)
              exact (ih _ _ hM21)
            · skip
              exact cp_none

def f11_frameHere_15_L27_w : List (Nat × Option Nat) := [(15, some 8), (15, some 9), (15, some 4), (15, some 5), (15, some 6), (15, some 7), (15, some 15), (15, some 10), (59, none)]
theorem w_f11_frameHere_15_L27 {ws : List (Nat × Option Nat)} {M0 M : cd_M} {s0 : Int32} (hs : cf_sub f11_frameHere_15_L27_w ws = true) (hM : cf_ ws M0 M) : cp (f11_frameHere_15_L27 s0 M) (fun r => cf_ ws M0 r.2) := by
  unfold f11_frameHere_15_L27
  refine cp_ltU (w_f11_must_15 (cf_tr (by decide : cf_sub f11_must_15_w f11_frameHere_15_L27_w = true) hs) hM) (fun v8 M7 hM7 => ?_)
  refine cp_ite (fun _ => ?_) (fun _ => ?_)
  · skip
    exact cp_some hM7
  · skip
    refine cp_bindM (w_f11_steps_15 (cf_tr (by decide : cf_sub f11_steps_15_w f11_frameHere_15_L27_w = true) hs) hM7) (fun M11 hM11 => ?_)
    exact (w_f11_frameHere_15_L42 (cf_tr (by decide : cf_sub f11_frameHere_15_L42_w f11_frameHere_15_L27_w = true) hs) _ _ _ hM11)

def f11_frameHere_15_w : List (Nat × Option Nat) := [(15, some 8), (15, some 9), (15, some 4), (15, some 5), (15, some 6), (15, some 7), (15, some 15), (15, some 10), (59, none)]
theorem w_f11_frameHere_15 {ws : List (Nat × Option Nat)} {M0 M : cd_M}  (hs : cf_sub f11_frameHere_15_w ws = true) (hM : cf_ ws M0 M) : cp (f11_frameHere_15 M) (fun r => cf_ ws M0 r.2) := by
  unfold f11_frameHere_15
  refine cp_bindX (fun v1 => ?_)
  refine cp_ltU (w_f11_must_15 (cf_tr (by decide : cf_sub f11_must_15_w f11_frameHere_15_w = true) hs) hM) (fun v4 M3 hM3 => ?_)
  refine cp_ite (fun _ => ?_) (fun _ => ?_)
  · skip
    exact cp_some hM3
  · skip
    refine cp_ite (fun _ => ?_) (fun _ => ?_)
    · skip
      exact (w_f11_frameHere_15_L27 (cf_tr (by decide : cf_sub f11_frameHere_15_L27_w f11_frameHere_15_w = true) hs) hM3)
    · skip
      exact (w_f11_frameHere_15_L27 (cf_tr (by decide : cf_sub f11_frameHere_15_L27_w f11_frameHere_15_w = true) hs) hM3)

def f11_readsFilm_15_L66_w : List (Nat × Option Nat) := [(15, some 8), (15, some 9), (15, some 4), (15, some 5), (15, some 6), (15, some 7), (15, some 15), (15, some 10), (59, none)]
theorem w_f11_readsFilm_15_L66 {ws : List (Nat × Option Nat)} {M0 : cd_M}  (hs : cf_sub f11_readsFilm_15_L66_w ws = true) : ∀ (n : Nat) (M : cd_M), cf_ ws M0 M → cp (f11_readsFilm_15_L66 n M) (fun r => cf_ ws M0 r.2) := by
  intro n
  induction n with
  | zero => intro M _; exact cp_none
  | succ n ih =>
    intro M hM
    unfold f11_readsFilm_15_L66
    refine cp_ite (fun _ => ?_) (fun _ => ?_)
    · skip
      exact cp_some hM
    · skip
      refine cp_bindU (w_f11_frameHere_15 (cf_tr (by decide : cf_sub f11_frameHere_15_w f11_readsFilm_15_L66_w = true) hs) hM) (fun v22 M21 hM21 => ?_)
      refine cp_ite (fun _ => ?_) (fun _ => ?_)
      · skip
        exact cp_some hM21
      · skip
        exact (ih _ hM21)

def f11_readsFilm_15_w : List (Nat × Option Nat) := [(15, some 8), (15, some 9), (15, some 4), (15, some 5), (15, some 6), (15, some 7), (15, some 10), (15, some 14), (15, some 15), (59, none)]
theorem w_f11_readsFilm_15 {ws : List (Nat × Option Nat)} {M0 M : cd_M}  (hs : cf_sub f11_readsFilm_15_w ws = true) (hM : cf_ ws M0 M) : cp (f11_readsFilm_15 M) (fun r => cf_ ws M0 r.2) := by
  unfold f11_readsFilm_15
  refine cp_bindX (fun v1 => ?_)
  refine cp_ltU (w_f11_must_15 (cf_tr (by decide : cf_sub f11_must_15_w f11_readsFilm_15_w = true) hs) hM) (fun v4 M3 hM3 => ?_)
  refine cp_ite (fun _ => ?_) (fun _ => ?_)
  · skip
    exact cp_some hM3
  · skip
    refine cp_bindM (w_f11_steps_15 (cf_tr (by decide : cf_sub f11_steps_15_w f11_readsFilm_15_w = true) hs) hM3) (fun M7 hM7 => ?_)
    refine cp_bindU (w_f11_takesNumber_15 (cf_tr (by decide : cf_sub f11_takesNumber_15_w f11_readsFilm_15_w = true) hs) hM7) (fun v9 M8 hM8 => ?_)
    refine cp_ite (fun _ => ?_) (fun _ => ?_)
    · skip
      exact cp_some hM8
    · skip
      refine cp_ltM (cf_wF hs (k := 15) (j := 14) (by decide) hM8) (fun M12 hM12 => ?_)
      refine cp_bindU (w_f11_takesEnd_15 (cf_tr (by decide : cf_sub f11_takesEnd_15_w f11_readsFilm_15_w = true) hs) hM12) (fun v14 M13 hM13 => ?_)
      refine cp_ite (fun _ => ?_) (fun _ => ?_)
      · skip
        exact cp_some hM13
      · skip
        refine cp_bindU (w_f11_frameHere_15 (cf_tr (by decide : cf_sub f11_frameHere_15_w f11_readsFilm_15_w = true) hs) hM13) (fun v18 M17 hM17 => ?_)
        refine cp_ite (fun _ => ?_) (fun _ => ?_)
        · skip
          exact cp_some hM17
        · skip
          exact (w_f11_readsFilm_15_L66 (cf_tr (by decide : cf_sub f11_readsFilm_15_L66_w f11_readsFilm_15_w = true) hs) _ _ hM17)

def f11_film_15_L61_w : List (Nat × Option Nat) := [(15, some 24), (15, some 26), (58, none)]
theorem w_f11_film_15_L61 {ws : List (Nat × Option Nat)} {M0 : cd_M}  (hs : cf_sub f11_film_15_L61_w ws = true) : ∀ (n : Nat) (a2 : Int32) (M : cd_M), cf_ ws M0 M → cp (f11_film_15_L61 n a2 M) (fun r => cf_ ws M0 r.2) := by
  intro n
  induction n with
  | zero => intro a2 M _; exact cp_none
  | succ n ih =>
    intro a2 M hM
    unfold f11_film_15_L61
    refine cp_ite (fun _ => ?_) (fun _ => ?_)
    · skip
      refine cp_ltM (cf_wF hs (k := 15) (j := 24) (by decide) hM) (fun M11 hM11 => ?_)
      refine cp_ltM (cf_wF hs (k := 15) (j := 26) (by decide) hM11) (fun M12 hM12 => ?_)
      exact cp_some hM12
    · skip
      refine cp_ite (fun _ => ?_) (fun _ => ?_)
      · skip
        refine cp_ite (fun _ => ?_) (fun _ => ?_)
        · skip
          refine cp_ltM (cf_wI hs (k := 58) (by decide) hM) (fun M13 hM13 => ?_)
          refine cp_ltX (fun x14 => ?_)
          exact (ih _ _ hM13)
        · skip
          exact cp_none
      · skip
        exact cp_none

def f11_film_15_w : List (Nat × Option Nat) := [(15, some 0), (15, some 2), (15, some 3), (15, some 5), (15, some 8), (15, some 4), (15, some 6), (15, some 7), (15, some 15), (15, some 9), (15, some 10), (15, some 14), (59, none), (15, some 11), (15, some 12), (15, some 24), (15, some 26), (58, none)]
theorem w_f11_film_15 {ws : List (Nat × Option Nat)} {M0 M : cd_M} {a1 : Int32} (hs : cf_sub f11_film_15_w ws = true) (hM : cf_ ws M0 M) : cp (f11_film_15 a1 M) (fun r => cf_ ws M0 r.2) := by
  unfold f11_film_15
  refine cp_ltM (cf_wF hs (k := 15) (j := 0) (by decide) hM) (fun M1 hM1 => ?_)
  refine cp_ite (fun _ => ?_) (fun _ => ?_)
  · skip
    exact cp_some hM1
  · skip
    refine cp_bindM (w_f11_begins_15 (cf_tr (by decide : cf_sub f11_begins_15_w f11_film_15_w = true) hs) hM1) (fun M3 hM3 => ?_)
    refine cp_ltM (cf_wF hs (k := 15) (j := 15) (by decide) hM3) (fun M4 hM4 => ?_)
    refine cp_bindU (w_f11_readsFilm_15 (cf_tr (by decide : cf_sub f11_readsFilm_15_w f11_film_15_w = true) hs) hM4) (fun v6 M5 hM5 => ?_)
    refine cp_ite (fun _ => ?_) (fun _ => ?_)
    · skip
      exact cp_some hM5
    · skip
      refine cp_ltM (cf_wF hs (k := 15) (j := 11) (by decide) hM5) (fun M9 hM9 => ?_)
      refine cp_ltM (cf_wF hs (k := 15) (j := 12) (by decide) hM9) (fun M10 hM10 => ?_)
      exact (w_f11_film_15_L61 (cf_tr (by decide : cf_sub f11_film_15_L61_w f11_film_15_w = true) hs) _ _ _ hM10)

def f11_asAtFirst_15_w : List (Nat × Option Nat) := [(62, none)]
theorem w_f11_asAtFirst_15 {ws : List (Nat × Option Nat)} {M0 M : cd_M} {a1 : Int32} (hs : cf_sub f11_asAtFirst_15_w ws = true) (hM : cf_ ws M0 M) : cp (f11_asAtFirst_15 a1 M) (cf_ ws M0) := by
  unfold f11_asAtFirst_15
  refine cp_ite (fun _ => ?_) (fun _ => ?_)
  · skip
    refine cp_ltM (cf_wI hs (k := 62) (by decide) hM) (fun M1 hM1 => ?_)
    refine cp_ite (fun _ => ?_) (fun _ => ?_)
    · skip
      refine cp_ltM (cf_wI hs (k := 62) (by decide) hM1) (fun M2 hM2 => ?_)
      refine cp_ite (fun _ => ?_) (fun _ => ?_)
      · skip
        refine cp_ltM (cf_wI hs (k := 62) (by decide) hM2) (fun M3 hM3 => ?_)
        refine cp_ite (fun _ => ?_) (fun _ => ?_)
        · skip
          refine cp_ltM (cf_wI hs (k := 62) (by decide) hM3) (fun M4 hM4 => ?_)
          refine cp_ite (fun _ => ?_) (fun _ => ?_)
          · skip
            refine cp_ltM (cf_wI hs (k := 62) (by decide) hM4) (fun M5 hM5 => ?_)
            exact cp_some hM5
          · skip
            exact cp_none
        · skip
          exact cp_none
      · skip
        exact cp_none
    · skip
      exact cp_none
  · skip
    exact cp_none

def f11_oneRule_15_L99_w : List (Nat × Option Nat) := [(15, some 8), (15, some 9), (62, none), (15, some 4), (15, some 5), (15, some 6), (15, some 7)]
theorem w_f11_oneRule_15_L99 {ws : List (Nat × Option Nat)} {M0 M : cd_M} {a2 : Int32} {s0 : Int32} (hs : cf_sub f11_oneRule_15_L99_w ws = true) (hM : cf_ ws M0 M) : cp (f11_oneRule_15_L99 a2 s0 M) (fun r => cf_ ws M0 r.2) := by
  unfold f11_oneRule_15_L99
  refine cp_ltU (w_f11_must_15 (cf_tr (by decide : cf_sub f11_must_15_w f11_oneRule_15_L99_w = true) hs) hM) (fun v13 M12 hM12 => ?_)
  refine cp_ite (fun _ => ?_) (fun _ => ?_)
  · skip
    exact cp_some hM12
  · skip
    refine cp_ite (fun _ => ?_) (fun _ => ?_)
    · skip
      refine cp_ltM (cf_wI hs (k := 62) (by decide) hM12) (fun M16 hM16 => ?_)
      refine cp_bindM (w_f11_steps_15 (cf_tr (by decide : cf_sub f11_steps_15_w f11_oneRule_15_L99_w = true) hs) hM16) (fun M17 hM17 => ?_)
      exact cp_some hM17
    · skip
      exact cp_none

def f11_oneRule_15_L32_w : List (Nat × Option Nat) := [(15, some 8), (15, some 9), (63, none), (15, some 4), (15, some 5), (15, some 6), (15, some 7), (62, none), (15, some 10)]
theorem w_f11_oneRule_15_L32 {ws : List (Nat × Option Nat)} {M0 M : cd_M} {a1 : Int32} {s0 : Int32} (hs : cf_sub f11_oneRule_15_L32_w ws = true) (hM : cf_ ws M0 M) : cp (f11_oneRule_15_L32 a1 s0 M) (fun r => cf_ ws M0 r.2) := by
  unfold f11_oneRule_15_L32
  refine cp_ltU (w_f11_must_15 (cf_tr (by decide : cf_sub f11_must_15_w f11_oneRule_15_L32_w = true) hs) hM) (fun v6 M5 hM5 => ?_)
  refine cp_ite (fun _ => ?_) (fun _ => ?_)
  · skip
    exact cp_some hM5
  · skip
    refine cp_ite (fun _ => ?_) (fun _ => ?_)
    · skip
      refine cp_ltM (cf_wI hs (k := 63) (by decide) hM5) (fun M9 hM9 => ?_)
      refine cp_bindM (w_f11_steps_15 (cf_tr (by decide : cf_sub f11_steps_15_w f11_oneRule_15_L32_w = true) hs) hM9) (fun M10 hM10 => ?_)
      refine cp_ite (fun _ => ?_) (fun _ => ?_)
      · skip
        refine cp_bindX (fun v11 => ?_)
        refine cp_ite (fun _ => ?_) (fun _ => ?_)
        · skip
          exact (w_f11_oneRule_15_L99 (cf_tr (by decide : cf_sub f11_oneRule_15_L99_w f11_oneRule_15_L32_w = true) hs) hM10)
        · skip
          exact (w_f11_oneRule_15_L99 (cf_tr (by decide : cf_sub f11_oneRule_15_L99_w f11_oneRule_15_L32_w = true) hs) hM10)
      · skip
        refine cp_bindU (w_f11_takesNumber_15 (cf_tr (by decide : cf_sub f11_takesNumber_15_w f11_oneRule_15_L32_w = true) hs) hM10) (fun v19 M18 hM18 => ?_)
        refine cp_ite (fun _ => ?_) (fun _ => ?_)
        · skip
          exact cp_some hM18
        · skip
          refine cp_ite (fun _ => ?_) (fun _ => ?_)
          · skip
            refine cp_ltM (cf_wI hs (k := 62) (by decide) hM18) (fun M22 hM22 => ?_)
            exact cp_some hM22
          · skip
            exact cp_none
    · skip
      exact cp_none

def f11_oneRule_15_L10_w : List (Nat × Option Nat) := [(15, some 8), (15, some 9), (63, none), (15, some 4), (15, some 5), (15, some 6), (15, some 7), (62, none), (15, some 10)]
theorem w_f11_oneRule_15_L10 {ws : List (Nat × Option Nat)} {M0 M : cd_M} {a1 : Int32} {s0 : Int32} (hs : cf_sub f11_oneRule_15_L10_w ws = true) (hM : cf_ ws M0 M) : cp (f11_oneRule_15_L10 a1 s0 M) (fun r => cf_ ws M0 r.2) := by
  unfold f11_oneRule_15_L10
  refine cp_ltU (w_f11_must_15 (cf_tr (by decide : cf_sub f11_must_15_w f11_oneRule_15_L10_w = true) hs) hM) (fun v2 M1 hM1 => ?_)
  refine cp_ite (fun _ => ?_) (fun _ => ?_)
  · skip
    exact cp_some hM1
  · skip
    refine cp_ite (fun _ => ?_) (fun _ => ?_)
    · skip
      refine cp_ite (fun _ => ?_) (fun _ => ?_)
      · skip
        exact (w_f11_oneRule_15_L32 (cf_tr (by decide : cf_sub f11_oneRule_15_L32_w f11_oneRule_15_L10_w = true) hs) hM1)
      · skip
        exact (w_f11_oneRule_15_L32 (cf_tr (by decide : cf_sub f11_oneRule_15_L32_w f11_oneRule_15_L10_w = true) hs) hM1)
    · skip
      exact cp_none

def f11_oneRule_15_w : List (Nat × Option Nat) := [(15, some 8), (15, some 9), (63, none), (15, some 4), (15, some 5), (15, some 6), (15, some 7), (62, none), (15, some 10)]
theorem w_f11_oneRule_15 {ws : List (Nat × Option Nat)} {M0 M : cd_M} {a1 : Int32} (hs : cf_sub f11_oneRule_15_w ws = true) (hM : cf_ ws M0 M) : cp (f11_oneRule_15 a1 M) (fun r => cf_ ws M0 r.2) := by
  unfold f11_oneRule_15
  refine cp_ite (fun _ => ?_) (fun _ => ?_)
  · skip
    exact (w_f11_oneRule_15_L10 (cf_tr (by decide : cf_sub f11_oneRule_15_L10_w f11_oneRule_15_w = true) hs) hM)
  · skip
    exact (w_f11_oneRule_15_L10 (cf_tr (by decide : cf_sub f11_oneRule_15_L10_w f11_oneRule_15_w = true) hs) hM)

def f11_cadenceHere_15_L140_w : List (Nat × Option Nat) := [(15, some 8), (15, some 9), (61, none), (60, none), (15, some 4), (15, some 5), (15, some 6), (15, some 7)]
theorem w_f11_cadenceHere_15_L140 {ws : List (Nat × Option Nat)} {M0 M : cd_M} {r72 : Int32 → cd_M → Option (Int32 × cd_M)} {a1 : Int32} {s0 : Int32} (hs : cf_sub f11_cadenceHere_15_L140_w ws = true) (hr72 : ∀ (y0 : Int32) (y1 : cd_M), cf_ ws M0 y1 → cp (r72 y0 y1) (fun r => cf_ ws M0 r.2)) (hM : cf_ ws M0 M) : cp (f11_cadenceHere_15_L140 r72 a1 s0 M) (fun r => cf_ ws M0 r.2) := by
  unfold f11_cadenceHere_15_L140
  refine cp_ltU (w_f11_must_15 (cf_tr (by decide : cf_sub f11_must_15_w f11_cadenceHere_15_L140_w = true) hs) hM) (fun v25 M24 hM24 => ?_)
  refine cp_ite (fun _ => ?_) (fun _ => ?_)
  · skip
    exact cp_some hM24
  · skip
    refine cp_ite (fun _ => ?_) (fun _ => ?_)
    · skip
      refine cp_ite (fun _ => ?_) (fun _ => ?_)
      · skip
        refine cp_ltM (cf_wI hs (k := 61) (by decide) hM24) (fun M28 hM28 => ?_)
        refine cp_ite (fun _ => ?_) (fun _ => ?_)
        · skip
          refine cp_ite (fun _ => ?_) (fun _ => ?_)
          · skip
            refine cp_ltM (cf_wI hs (k := 60) (by decide) hM28) (fun M29 hM29 => ?_)
            refine cp_bindM (w_f11_steps_15 (cf_tr (by decide : cf_sub f11_steps_15_w f11_cadenceHere_15_L140_w = true) hs) hM29) (fun M30 hM30 => ?_)
            exact (hr72 _ _ hM30)
          · skip
            exact cp_none
        · skip
          exact cp_none
      · skip
        exact cp_none
    · skip
      exact cp_none

def f11_cadenceHere_15_L94_w : List (Nat × Option Nat) := [(15, some 8), (15, some 9), (61, none), (60, none), (15, some 4), (15, some 5), (15, some 6), (15, some 7)]
theorem w_f11_cadenceHere_15_L94 {ws : List (Nat × Option Nat)} {M0 M : cd_M} {r72 : Int32 → cd_M → Option (Int32 × cd_M)} {a1 : Int32} {s0 : Int32} (hs : cf_sub f11_cadenceHere_15_L94_w ws = true) (hr72 : ∀ (y0 : Int32) (y1 : cd_M), cf_ ws M0 y1 → cp (r72 y0 y1) (fun r => cf_ ws M0 r.2)) (hM : cf_ ws M0 M) : cp (f11_cadenceHere_15_L94 r72 a1 s0 M) (fun r => cf_ ws M0 r.2) := by
  unfold f11_cadenceHere_15_L94
  refine cp_ltU (w_f11_must_15 (cf_tr (by decide : cf_sub f11_must_15_w f11_cadenceHere_15_L94_w = true) hs) hM) (fun v16 M15 hM15 => ?_)
  refine cp_ite (fun _ => ?_) (fun _ => ?_)
  · skip
    exact cp_some hM15
  · skip
    refine cp_ltU (w_f11_must_15 (cf_tr (by decide : cf_sub f11_must_15_w f11_cadenceHere_15_L94_w = true) hs) hM15) (fun v21 M20 hM20 => ?_)
    refine cp_ite (fun _ => ?_) (fun _ => ?_)
    · skip
      exact cp_some hM20
    · skip
      refine cp_ite (fun _ => ?_) (fun _ => ?_)
      · skip
        refine cp_ite (fun _ => ?_) (fun _ => ?_)
        · skip
          exact (w_f11_cadenceHere_15_L140 (cf_tr (by decide : cf_sub f11_cadenceHere_15_L140_w f11_cadenceHere_15_L94_w = true) hs) hr72 hM20)
        · skip
          exact (w_f11_cadenceHere_15_L140 (cf_tr (by decide : cf_sub f11_cadenceHere_15_L140_w f11_cadenceHere_15_L94_w = true) hs) hr72 hM20)
      · skip
        exact cp_none

def f11_cadenceHere_15_L72_w : List (Nat × Option Nat) := [(15, some 18), (15, some 8), (15, some 9), (61, none), (60, none), (15, some 4), (15, some 5), (15, some 6), (15, some 7)]
theorem w_f11_cadenceHere_15_L72 {ws : List (Nat × Option Nat)} {M0 : cd_M}  (hs : cf_sub f11_cadenceHere_15_L72_w ws = true) : ∀ (n : Nat) (a1 : Int32) (M : cd_M), cf_ ws M0 M → cp (f11_cadenceHere_15_L72 n a1 M) (fun r => cf_ ws M0 r.2) := by
  intro n
  induction n with
  | zero => intro a1 M _; exact cp_none
  | succ n ih =>
    intro a1 M hM
    unfold f11_cadenceHere_15_L72
    refine cp_ite (fun _ => ?_) (fun _ => ?_)
    · skip
      refine cp_ltM (cf_wF hs (k := 15) (j := 18) (by decide) hM) (fun M14 hM14 => ?_)
      exact cp_some hM14
    · skip
      refine cp_ite (fun _ => ?_) (fun _ => ?_)
      · skip
        exact (w_f11_cadenceHere_15_L94 (cf_tr (by decide : cf_sub f11_cadenceHere_15_L94_w f11_cadenceHere_15_L72_w = true) hs) ih hM)
      · skip
        exact (w_f11_cadenceHere_15_L94 (cf_tr (by decide : cf_sub f11_cadenceHere_15_L94_w f11_cadenceHere_15_L72_w = true) hs) ih hM)

def f11_cadenceHere_15_L14_w : List (Nat × Option Nat) := [(15, some 8), (15, some 9), (60, none), (15, some 4), (15, some 5), (15, some 6), (15, some 7), (15, some 10), (61, none), (15, some 18)]
theorem w_f11_cadenceHere_15_L14 {ws : List (Nat × Option Nat)} {M0 M : cd_M} {s0 : Int32} (hs : cf_sub f11_cadenceHere_15_L14_w ws = true) (hM : cf_ ws M0 M) : cp (f11_cadenceHere_15_L14 s0 M) (fun r => cf_ ws M0 r.2) := by
  unfold f11_cadenceHere_15_L14
  refine cp_ltU (w_f11_must_15 (cf_tr (by decide : cf_sub f11_must_15_w f11_cadenceHere_15_L14_w = true) hs) hM) (fun v2 M1 hM1 => ?_)
  refine cp_ite (fun _ => ?_) (fun _ => ?_)
  · skip
    exact cp_some hM1
  · skip
    refine cp_ltX (fun x5 => ?_)
    refine cp_ite (fun _ => ?_) (fun _ => ?_)
    · skip
      refine cp_ltM (cf_wI hs (k := 60) (by decide) hM1) (fun M6 hM6 => ?_)
      refine cp_bindM (w_f11_steps_15 (cf_tr (by decide : cf_sub f11_steps_15_w f11_cadenceHere_15_L14_w = true) hs) hM6) (fun M7 hM7 => ?_)
      refine cp_bindU (w_f11_takesNumber_15 (cf_tr (by decide : cf_sub f11_takesNumber_15_w f11_cadenceHere_15_L14_w = true) hs) hM7) (fun v9 M8 hM8 => ?_)
      refine cp_ite (fun _ => ?_) (fun _ => ?_)
      · skip
        exact cp_some hM8
      · skip
        refine cp_ite (fun _ => ?_) (fun _ => ?_)
        · skip
          refine cp_ltM (cf_wI hs (k := 61) (by decide) hM8) (fun M12 hM12 => ?_)
          refine cp_ite (fun _ => ?_) (fun _ => ?_)
          · skip
            refine cp_ltM (cf_wI hs (k := 60) (by decide) hM12) (fun M13 hM13 => ?_)
            exact (w_f11_cadenceHere_15_L72 (cf_tr (by decide : cf_sub f11_cadenceHere_15_L72_w f11_cadenceHere_15_L14_w = true) hs) _ _ _ hM13)
          · skip
            exact cp_none
        · skip
          exact cp_none
    · skip
      exact cp_none

def f11_cadenceHere_15_w : List (Nat × Option Nat) := [(15, some 8), (15, some 9), (60, none), (15, some 4), (15, some 5), (15, some 6), (15, some 7), (15, some 10), (61, none), (15, some 18)]
theorem w_f11_cadenceHere_15 {ws : List (Nat × Option Nat)} {M0 M : cd_M}  (hs : cf_sub f11_cadenceHere_15_w ws = true) (hM : cf_ ws M0 M) : cp (f11_cadenceHere_15 M) (fun r => cf_ ws M0 r.2) := by
  unfold f11_cadenceHere_15
  refine cp_ite (fun _ => ?_) (fun _ => ?_)
  · skip
    exact (w_f11_cadenceHere_15_L14 (cf_tr (by decide : cf_sub f11_cadenceHere_15_L14_w f11_cadenceHere_15_w = true) hs) hM)
  · skip
    exact (w_f11_cadenceHere_15_L14 (cf_tr (by decide : cf_sub f11_cadenceHere_15_L14_w f11_cadenceHere_15_w = true) hs) hM)

def f11_lineHere_15_L36_w : List (Nat × Option Nat) := [(15, some 8), (15, some 9), (15, some 4), (15, some 5), (15, some 6), (15, some 7)]
theorem w_f11_lineHere_15_L36 {ws : List (Nat × Option Nat)} {M0 M : cd_M} {s0 : Int32} (hs : cf_sub f11_lineHere_15_L36_w ws = true) (hM : cf_ ws M0 M) : cp (f11_lineHere_15_L36 s0 M) (fun r => cf_ ws M0 r.2) := by
  unfold f11_lineHere_15_L36
  refine cp_ite (fun _ => ?_) (fun _ => ?_)
  · skip
    exact cp_some hM
  · skip
    refine cp_bindU (w_f11_takesEnd_15 (cf_tr (by decide : cf_sub f11_takesEnd_15_w f11_lineHere_15_L36_w = true) hs) hM) (fun v9 M8 hM8 => ?_)
    refine cp_ite (fun _ => ?_) (fun _ => ?_)
    · skip
      exact cp_some hM8
    · skip
      exact cp_some hM8

def f11_lineHere_15_w : List (Nat × Option Nat) := [(15, some 8), (15, some 9), (63, none), (15, some 4), (15, some 5), (15, some 6), (15, some 7), (62, none), (15, some 10), (60, none), (61, none), (15, some 18)]
theorem w_f11_lineHere_15 {ws : List (Nat × Option Nat)} {M0 M : cd_M}  (hs : cf_sub f11_lineHere_15_w ws = true) (hM : cf_ ws M0 M) : cp (f11_lineHere_15 M) (fun r => cf_ ws M0 r.2) := by
  unfold f11_lineHere_15
  refine cp_bindX (fun v1 => ?_)
  refine cp_ite (fun _ => ?_) (fun _ => ?_)
  · skip
    refine cp_bindX (fun v3 => ?_)
    refine cp_bindU (w_f11_oneRule_15 (cf_tr (by decide : cf_sub f11_oneRule_15_w f11_lineHere_15_w = true) hs) hM) (fun v5 M4 hM4 => ?_)
    exact (w_f11_lineHere_15_L36 (cf_tr (by decide : cf_sub f11_lineHere_15_L36_w f11_lineHere_15_w = true) hs) hM4)
  · skip
    refine cp_bindU (w_f11_cadenceHere_15 (cf_tr (by decide : cf_sub f11_cadenceHere_15_w f11_lineHere_15_w = true) hs) hM) (fun v13 M12 hM12 => ?_)
    exact (w_f11_lineHere_15_L36 (cf_tr (by decide : cf_sub f11_lineHere_15_L36_w f11_lineHere_15_w = true) hs) hM12)
