/-! frames, by program (frgen.py) -/
def f5_addNumber_4_w : List (Nat × Option Nat) := [(20, none), (21, none)]
theorem w_f5_addNumber_4 {ws : List (Nat × Option Nat)} {M0 M : cd_M} {a1 : Int32} (hs : cf_sub f5_addNumber_4_w ws = true) (hM : cf_ ws M0 M) : cp (f5_addNumber_4 a1 M) (cf_ ws M0) := by
  unfold f5_addNumber_4
  refine cp_ltX (fun x1 => ?_)
  refine cp_ite (fun _ => ?_) (fun _ => ?_)
  · skip
    exact cp_some hM
  · skip
    refine cp_ite (fun _ => ?_) (fun _ => ?_)
    · skip
      refine cp_ite (fun _ => ?_) (fun _ => ?_)
      · skip
        exact cp_some hM
      · skip
        refine cp_ite (fun _ => ?_) (fun _ => ?_)
        · skip
          refine cp_ite (fun _ => ?_) (fun _ => ?_)
          · skip
            refine cp_ltM (cf_wI hs (k := 20) (by decide) hM) (fun M2 hM2 => ?_)
            refine cp_ite (fun _ => ?_) (fun _ => ?_)
            · skip
              refine cp_ite (fun _ => ?_) (fun _ => ?_)
              · skip
                refine cp_ltM (cf_wI hs (k := 21) (by decide) hM2) (fun M3 hM3 => ?_)
                exact cp_some hM3
              · skip
                exact cp_none
            · skip
              exact cp_none
          · skip
            exact cp_none
        · skip
          exact cp_none
    · skip
      exact cp_none

def f8_readCadence_1_L56_w : List (Nat × Option Nat) := [(1, some 3), (20, none), (21, none), (2, some 4), (2, some 5), (2, some 3), (2, some 6)]
theorem w_f8_readCadence_1_L56 {ws : List (Nat × Option Nat)} {M0 M : cd_M} {r33 : Int32 → cd_M → Option (Int32 × cd_M)} {a1 : Int32} (hs : cf_sub f8_readCadence_1_L56_w ws = true) (hr33 : ∀ (y0 : Int32) (y1 : cd_M), cf_ ws M0 y1 → cp (r33 y0 y1) (fun r => cf_ ws M0 r.2)) (hM : cf_ ws M0 M) : cp (f8_readCadence_1_L56 r33 a1 M) (fun r => cf_ ws M0 r.2) := by
  unfold f8_readCadence_1_L56
  refine cp_ltU (w_f8_isNumberWithin_1 (cf_tr (by decide : cf_sub f8_isNumberWithin_1_w f8_readCadence_1_L56_w = true) hs) hM) (fun v4 M3 hM3 => ?_)
  refine cp_ite (fun _ => ?_) (fun _ => ?_)
  · skip
    exact cp_some hM3
  · skip
    refine cp_ite (fun _ => ?_) (fun _ => ?_)
    · skip
      refine cp_bindM (w_f5_addNumber_4 (cf_tr (by decide : cf_sub f5_addNumber_4_w f8_readCadence_1_L56_w = true) hs) hM3) (fun M7 hM7 => ?_)
      refine cp_bindM (w_f7_advance_2 (cf_tr (by decide : cf_sub f7_advance_2_w f8_readCadence_1_L56_w = true) hs) hM7) (fun M8 hM8 => ?_)
      refine cp_ltX (fun x9 => ?_)
      exact (hr33 _ _ hM8)
    · skip
      refine cp_ltU (w_f8_refuse_1 (cf_tr (by decide : cf_sub f8_refuse_1_w f8_readCadence_1_L56_w = true) hs) hM3) (fun v11 M10 hM10 => ?_)
      exact cp_some hM10

def f8_readCadence_1_L33_w : List (Nat × Option Nat) := [(1, some 3), (20, none), (21, none), (2, some 4), (2, some 5), (2, some 3), (2, some 6)]
theorem w_f8_readCadence_1_L33 {ws : List (Nat × Option Nat)} {M0 : cd_M}  (hs : cf_sub f8_readCadence_1_L33_w ws = true) : ∀ (n : Nat) (a1 : Int32) (M : cd_M), cf_ ws M0 M → cp (f8_readCadence_1_L33 n a1 M) (fun r => cf_ ws M0 r.2) := by
  intro n
  induction n with
  | zero => intro a1 M _; exact cp_none
  | succ n ih =>
    intro a1 M hM
    unfold f8_readCadence_1_L33
    refine cp_ite (fun _ => ?_) (fun _ => ?_)
    · skip
      exact cp_some hM
    · skip
      refine cp_ite (fun _ => ?_) (fun _ => ?_)
      · skip
        exact (w_f8_readCadence_1_L56 (cf_tr (by decide : cf_sub f8_readCadence_1_L56_w f8_readCadence_1_L33_w = true) hs) ih hM)
      · skip
        refine cp_ite (fun _ => ?_) (fun _ => ?_)
        · skip
          exact cp_some hM
        · skip
          exact (w_f8_readCadence_1_L56 (cf_tr (by decide : cf_sub f8_readCadence_1_L56_w f8_readCadence_1_L33_w = true) hs) ih hM)

def f8_readCadence_1_w : List (Nat × Option Nat) := [(2, some 4), (2, some 5), (2, some 3), (2, some 6), (21, none), (4, some 3), (1, some 3), (20, none)]
theorem w_f8_readCadence_1 {ws : List (Nat × Option Nat)} {M0 M : cd_M}  (hs : cf_sub f8_readCadence_1_w ws = true) (hM : cf_ ws M0 M) : cp (f8_readCadence_1 M) (fun r => cf_ ws M0 r.2) := by
  unfold f8_readCadence_1
  refine cp_ite (fun _ => ?_) (fun _ => ?_)
  · skip
    refine cp_bindM (w_f7_advance_2 (cf_tr (by decide : cf_sub f7_advance_2_w f8_readCadence_1_w = true) hs) hM) (fun M1 hM1 => ?_)
    refine cp_bindM (w_f5_addCadence_4 (cf_tr (by decide : cf_sub f5_addCadence_4_w f8_readCadence_1_w = true) hs) hM1) (fun M2 hM2 => ?_)
    exact (w_f8_readCadence_1_L33 (cf_tr (by decide : cf_sub f8_readCadence_1_L33_w f8_readCadence_1_w = true) hs) _ _ _ hM2)
  · skip
    refine cp_ltU (w_f8_refuse_1 (cf_tr (by decide : cf_sub f8_refuse_1_w f8_readCadence_1_w = true) hs) hM) (fun v15 M14 hM14 => ?_)
    exact cp_some hM14

def f8_readRules_1_L89_w : List (Nat × Option Nat) := [(2, some 4), (2, some 5), (2, some 3), (2, some 6), (1, some 3)]
theorem w_f8_readRules_1_L89 {ws : List (Nat × Option Nat)} {M0 M : cd_M} {r22 : Int32 → cd_M → Option (Int32 × cd_M)} {a2 : Int32} {s0 : Int32} (hs : cf_sub f8_readRules_1_L89_w ws = true) (hr22 : ∀ (y0 : Int32) (y1 : cd_M), cf_ ws M0 y1 → cp (r22 y0 y1) (fun r => cf_ ws M0 r.2)) (hM : cf_ ws M0 M) : cp (f8_readRules_1_L89 r22 a2 s0 M) (fun r => cf_ ws M0 r.2) := by
  unfold f8_readRules_1_L89
  refine cp_ite (fun _ => ?_) (fun _ => ?_)
  · skip
    exact cp_some hM
  · skip
    refine cp_bindU (w_f8_takeSemicolon_1 (cf_tr (by decide : cf_sub f8_takeSemicolon_1_w f8_readRules_1_L89_w = true) hs) hM) (fun v16 M15 hM15 => ?_)
    refine cp_ite (fun _ => ?_) (fun _ => ?_)
    · skip
      exact cp_some hM15
    · skip
      refine cp_ltX (fun x19 => ?_)
      exact (hr22 _ _ hM15)

def f8_readRules_1_L22_w : List (Nat × Option Nat) := [(1, some 3), (1, some 5), (2, some 4), (2, some 5), (2, some 3), (2, some 6), (1, some 4), (22, none), (21, none), (4, some 3), (20, none)]
theorem w_f8_readRules_1_L22 {ws : List (Nat × Option Nat)} {M0 : cd_M}  (hs : cf_sub f8_readRules_1_L22_w ws = true) : ∀ (n : Nat) (a2 : Int32) (M : cd_M), cf_ ws M0 M → cp (f8_readRules_1_L22 n a2 M) (fun r => cf_ ws M0 r.2) := by
  intro n
  induction n with
  | zero => intro a2 M _; exact cp_none
  | succ n ih =>
    intro a2 M hM
    unfold f8_readRules_1_L22
    refine cp_ite (fun _ => ?_) (fun _ => ?_)
    · skip
      exact cp_some hM
    · skip
      refine cp_ite (fun _ => ?_) (fun _ => ?_)
      · skip
        refine cp_ite (fun _ => ?_) (fun _ => ?_)
        · skip
          exact cp_some hM
        · skip
          refine cp_ltU (w_f8_refuse_1 (cf_tr (by decide : cf_sub f8_refuse_1_w f8_readRules_1_L22_w = true) hs) hM) (fun v5 M4 hM4 => ?_)
          refine cp_ite (fun _ => ?_) (fun _ => ?_)
          · skip
            exact cp_some hM4
          · skip
            exact cp_some hM4
      · skip
        refine cp_bindX (fun v8 => ?_)
        refine cp_ite (fun _ => ?_) (fun _ => ?_)
        · skip
          refine cp_bindX (fun v10 => ?_)
          refine cp_bindU (w_f8_readValue_1 (cf_tr (by decide : cf_sub f8_readValue_1_w f8_readRules_1_L22_w = true) hs) hM) (fun v12 M11 hM11 => ?_)
          exact (w_f8_readRules_1_L89 (cf_tr (by decide : cf_sub f8_readRules_1_L89_w f8_readRules_1_L22_w = true) hs) ih hM11)
        · skip
          refine cp_bindU (w_f8_readCadence_1 (cf_tr (by decide : cf_sub f8_readCadence_1_w f8_readRules_1_L22_w = true) hs) hM) (fun v21 M20 hM20 => ?_)
          exact (w_f8_readRules_1_L89 (cf_tr (by decide : cf_sub f8_readRules_1_L89_w f8_readRules_1_L22_w = true) hs) ih hM20)

def f8_readRules_1_w : List (Nat × Option Nat) := [(2, some 2), (2, some 3), (2, some 4), (2, some 5), (2, some 6), (4, some 3), (22, none), (1, some 5), (1, some 3), (1, some 4), (21, none), (20, none)]
theorem w_f8_readRules_1 {ws : List (Nat × Option Nat)} {M0 M : cd_M} {a1 : Int32} (hs : cf_sub f8_readRules_1_w ws = true) (hM : cf_ ws M0 M) : cp (f8_readRules_1 a1 M) (fun r => cf_ ws M0 r.2) := by
  unfold f8_readRules_1
  refine cp_bindM (w_f7_open_2 (cf_tr (by decide : cf_sub f7_open_2_w f8_readRules_1_w = true) hs) hM) (fun M1 hM1 => ?_)
  refine cp_bindM (w_f5_clear_4 (cf_tr (by decide : cf_sub f5_clear_4_w f8_readRules_1_w = true) hs) hM1) (fun M2 hM2 => ?_)
  refine cp_ltM (cf_wF hs (k := 1) (j := 5) (by decide) hM2) (fun M3 hM3 => ?_)
  exact (w_f8_readRules_1_L22 (cf_tr (by decide : cf_sub f8_readRules_1_L22_w f8_readRules_1_w = true) hs) _ _ _ hM3)

def f5_copyFrom_6_4_w : List (Nat × Option Nat) := [(25, none), (26, none), (27, none), (6, some 3)]
theorem w_f5_copyFrom_6_4 {ws : List (Nat × Option Nat)} {M0 M : cd_M}  (hs : cf_sub f5_copyFrom_6_4_w ws = true) (hM : cf_ ws M0 M) : cp (f5_copyFrom_6_4 M) (cf_ ws M0) := by
  unfold f5_copyFrom_6_4
  refine cp_ite (fun _ => ?_) (fun _ => ?_)
  · skip
    refine cp_ltM (cf_cI hs (k1 := 25) (by decide) hM) (fun M1 hM1 => ?_)
    refine cp_ite (fun _ => ?_) (fun _ => ?_)
    · skip
      refine cp_ltM (cf_cI hs (k1 := 26) (by decide) hM1) (fun M2 hM2 => ?_)
      refine cp_ite (fun _ => ?_) (fun _ => ?_)
      · skip
        refine cp_ltM (cf_cI hs (k1 := 27) (by decide) hM2) (fun M3 hM3 => ?_)
        refine cp_ltM (cf_wF hs (k := 6) (j := 3) (by decide) hM3) (fun M4 hM4 => ?_)
        exact cp_some hM4
      · skip
        exact cp_none
    · skip
      exact cp_none
  · skip
    exact cp_none

def f10_rules_0_w : List (Nat × Option Nat) := [(2, some 2), (2, some 3), (2, some 4), (2, some 5), (2, some 6), (4, some 3), (22, none), (1, some 5), (1, some 3), (1, some 4), (21, none), (20, none), (2, some 1), (25, none), (26, none), (27, none), (6, some 3), (0, some 10), (8, some 3), (0, some 11), (35, none)]
theorem w_f10_rules_0 {ws : List (Nat × Option Nat)} {M0 M : cd_M} {a1 : Int32} (hs : cf_sub f10_rules_0_w ws = true) (hM : cf_ ws M0 M) : cp (f10_rules_0 a1 M) (fun r => cf_ ws M0 r.2) := by
  unfold f10_rules_0
  refine cp_ite (fun _ => ?_) (fun _ => ?_)
  · skip
    exact cp_some hM
  · skip
    refine cp_bindU (w_f8_readRules_1 (cf_tr (by decide : cf_sub f8_readRules_1_w f10_rules_0_w = true) hs) hM) (fun v3 M2 hM2 => ?_)
    refine cp_ltM (w_f7_empty_2 (cf_tr (by decide : cf_sub f7_empty_2_w f10_rules_0_w = true) hs) hM2) (fun M6 hM6 => ?_)
    refine cp_ite (fun _ => ?_) (fun _ => ?_)
    · skip
      exact cp_some hM6
    · skip
      refine cp_bindM (w_f5_copyFrom_6_4 (cf_tr (by decide : cf_sub f5_copyFrom_6_4_w f10_rules_0_w = true) hs) hM6) (fun M7 hM7 => ?_)
      refine cp_ltM (cf_wF hs (k := 0) (j := 10) (by decide) hM7) (fun M8 hM8 => ?_)
      refine cp_ltM (w_f3_empty_8 (cf_tr (by decide : cf_sub f3_empty_8_w f10_rules_0_w = true) hs) hM8) (fun M9 hM9 => ?_)
      refine cp_bindM (w_f10_forgetPaths_0 (cf_tr (by decide : cf_sub f10_forgetPaths_0_w f10_rules_0_w = true) hs) hM9) (fun M10 hM10 => ?_)
      exact cp_some hM10

def f10_force_0_w : List (Nat × Option Nat) := [(0, some 10), (0, some 11)]
theorem w_f10_force_0 {ws : List (Nat × Option Nat)} {M0 M : cd_M} {a1 : Int32} (hs : cf_sub f10_force_0_w ws = true) (hM : cf_ ws M0 M) : ci_ (f10_force_0 a1 M) (fun r => cf_ ws M0 r.2) := by
  unfold f10_force_0
  refine ci_ite (fun _ => ?_) (fun _ => ?_)
  · skip
    exact ci_some hM
  · skip
    refine ci_ltX (fun x2 => ?_)
    refine ci_ltM (cf_wF hs (k := 0) (j := 10) (by decide) hM) (fun M3 hM3 => ?_)
    refine ci_ltM (cf_wF hs (k := 0) (j := 11) (by decide) hM3) (fun M4 hM4 => ?_)
    exact ci_some hM4

def f3_keep_8_7_L58_w : List (Nat × Option Nat) := [(8, some 2), (8, some 3)]
theorem w_f3_keep_8_7_L58 {ws : List (Nat × Option Nat)} {M0 M : cd_M} {s0 : Int32} (hs : cf_sub f3_keep_8_7_L58_w ws = true) (hM : cf_ ws M0 M) : cp (f3_keep_8_7_L58 s0 M) (cf_ ws M0) := by
  unfold f3_keep_8_7_L58
  refine cp_ltM (cf_wF hs (k := 8) (j := 2) (by decide) hM) (fun M3 hM3 => ?_)
  refine cp_ltM (cf_wF hs (k := 8) (j := 3) (by decide) hM3) (fun M4 hM4 => ?_)
  exact cp_some hM4

def f3_keep_8_7_w : List (Nat × Option Nat) := [(29, none), (30, none), (8, some 2), (8, some 3)]
theorem w_f3_keep_8_7 {ws : List (Nat × Option Nat)} {M0 M : cd_M}  (hs : cf_sub f3_keep_8_7_w ws = true) (hM : cf_ ws M0 M) : cp (f3_keep_8_7 M) (cf_ ws M0) := by
  unfold f3_keep_8_7
  refine cp_ite (fun _ => ?_) (fun _ => ?_)
  · skip
    refine cp_ltM (cf_cL hs (k1 := 29) (by decide) hM) (fun M1 hM1 => ?_)
    refine cp_ite (fun _ => ?_) (fun _ => ?_)
    · skip
      refine cp_ltM (cf_wI hs (k := 30) (by decide) hM1) (fun M2 hM2 => ?_)
      refine cp_ite (fun _ => ?_) (fun _ => ?_)
      · skip
        exact (w_f3_keep_8_7_L58 (cf_tr (by decide : cf_sub f3_keep_8_7_L58_w f3_keep_8_7_w = true) hs) hM2)
      · skip
        exact (w_f3_keep_8_7_L58 (cf_tr (by decide : cf_sub f3_keep_8_7_L58_w f3_keep_8_7_w = true) hs) hM2)
    · skip
      exact cp_none
  · skip
    exact cp_none

def f10_beginAct_0_w : List (Nat × Option Nat) := [(29, none), (30, none), (8, some 2), (8, some 3), (0, some 11), (35, none)]
theorem w_f10_beginAct_0 {ws : List (Nat × Option Nat)} {M0 M : cd_M}  (hs : cf_sub f10_beginAct_0_w ws = true) (hM : cf_ ws M0 M) : cp (f10_beginAct_0 M) (cf_ ws M0) := by
  unfold f10_beginAct_0
  refine cp_bindM (w_f3_keep_8_7 (cf_tr (by decide : cf_sub f3_keep_8_7_w f10_beginAct_0_w = true) hs) hM) (fun M1 hM1 => ?_)
  refine cp_bindM (w_f10_forgetPaths_0 (cf_tr (by decide : cf_sub f10_forgetPaths_0_w f10_beginAct_0_w = true) hs) hM1) (fun M2 hM2 => ?_)
  exact cp_some hM2

def f4_addField_7_w : List (Nat × Option Nat) := [(28, none), (7, some 1)]
theorem w_f4_addField_7 {ws : List (Nat × Option Nat)} {M0 M : cd_M} {a1 : Int64} {a2 : Int32} (hs : cf_sub f4_addField_7_w ws = true) (hM : cf_ ws M0 M) : cp (f4_addField_7 a1 a2 M) (cf_ ws M0) := by
  unfold f4_addField_7
  refine cp_ite (fun _ => ?_) (fun _ => ?_)
  · skip
    exact cp_some hM
  · skip
    refine cp_ite (fun _ => ?_) (fun _ => ?_)
    · skip
      refine cp_ltM (cf_wL hs (k := 28) (by decide) hM) (fun M1 hM1 => ?_)
      refine cp_ltM (cf_wF hs (k := 7) (j := 1) (by decide) hM1) (fun M2 hM2 => ?_)
      exact cp_some hM2
    · skip
      exact cp_none

def f4_carryFrames_7_5_6_L90_w : List (Nat × Option Nat) := []
theorem w_f4_carryFrames_7_5_6_L90 {ws : List (Nat × Option Nat)} {M0 M : cd_M} {r16 : Int32 → Int32 → Int32 → Int32 → cd_M → Option cd_M} {a3 : Int32} {a7 : Int32} {a8 : Int32} {s0 : Int32} (hs : cf_sub f4_carryFrames_7_5_6_L90_w ws = true) (hr16 : ∀ (y0 : Int32) (y1 : Int32) (y2 : Int32) (y3 : Int32) (y4 : cd_M), cf_ ws M0 y4 → cp (r16 y0 y1 y2 y3 y4) (cf_ ws M0)) (hM : cf_ ws M0 M) : cp (f4_carryFrames_7_5_6_L90 r16 a3 a7 a8 s0 M) (cf_ ws M0) := by
  unfold f4_carryFrames_7_5_6_L90
  refine cp_ltX (fun x5 => ?_)
  exact (hr16 _ _ _ _ _ hM)

def f4_carryFrames_7_5_6_L37_w : List (Nat × Option Nat) := [(28, none), (7, some 1)]
theorem w_f4_carryFrames_7_5_6_L37 {ws : List (Nat × Option Nat)} {M0 : cd_M} {r16 : Int32 → Int32 → Int32 → Int32 → cd_M → Option cd_M} (hs : cf_sub f4_carryFrames_7_5_6_L37_w ws = true) (hr16 : ∀ (y0 : Int32) (y1 : Int32) (y2 : Int32) (y3 : Int32) (y4 : cd_M), cf_ ws M0 y4 → cp (r16 y0 y1 y2 y3 y4) (cf_ ws M0)) : ∀ (n : Nat) (a3 : Int32) (a6 : Int32) (a7 : Int32) (a8 : Int32) (a9 : Int32) (a10 : Int32) (M : cd_M), cf_ ws M0 M → cp (f4_carryFrames_7_5_6_L37 r16 n a3 a6 a7 a8 a9 a10 M) (cf_ ws M0) := by
  intro n
  induction n with
  | zero => intro a3 a6 a7 a8 a9 a10 M _; exact cp_none
  | succ n ih =>
    intro a3 a6 a7 a8 a9 a10 M hM
    unfold f4_carryFrames_7_5_6_L37
    refine cp_ite (fun _ => ?_) (fun _ => ?_)
    · skip
      refine cp_bindX (fun v3 => ?_)
      refine cp_ite (fun _ => ?_) (fun _ => ?_)
      · skip
        exact (w_f4_carryFrames_7_5_6_L90 (cf_tr (by decide : cf_sub f4_carryFrames_7_5_6_L90_w f4_carryFrames_7_5_6_L37_w = true) hs) hr16 hM)
      · skip
        exact (w_f4_carryFrames_7_5_6_L90 (cf_tr (by decide : cf_sub f4_carryFrames_7_5_6_L90_w f4_carryFrames_7_5_6_L37_w = true) hs) hr16 hM)
    · skip
      refine cp_bindX (fun v6 => ?_)
      refine cp_bindM (w_f4_addField_7 (cf_tr (by decide : cf_sub f4_addField_7_w f4_carryFrames_7_5_6_L37_w = true) hs) hM) (fun M7 hM7 => ?_)
      refine cp_ltX (fun x8 => ?_)
      refine cp_ltX (fun x9 => ?_)
      exact (ih _ _ _ _ _ _ _ hM7)

def f4_carryFrames_7_5_6_L16_w : List (Nat × Option Nat) := [(28, none), (7, some 1)]
theorem w_f4_carryFrames_7_5_6_L16 {ws : List (Nat × Option Nat)} {M0 : cd_M}  (hs : cf_sub f4_carryFrames_7_5_6_L16_w ws = true) : ∀ (n : Nat) (a3 : Int32) (a6 : Int32) (a7 : Int32) (a8 : Int32) (M : cd_M), cf_ ws M0 M → cp (f4_carryFrames_7_5_6_L16 n a3 a6 a7 a8 M) (cf_ ws M0) := by
  intro n
  induction n with
  | zero => intro a3 a6 a7 a8 M _; exact cp_none
  | succ n ih =>
    intro a3 a6 a7 a8 M hM
    unfold f4_carryFrames_7_5_6_L16
    refine cp_ite (fun _ => ?_) (fun _ => ?_)
    · skip
      exact cp_some hM
    · skip
      refine cp_bindX (fun v2 => ?_)
      exact (w_f4_carryFrames_7_5_6_L37 (cf_tr (by decide : cf_sub f4_carryFrames_7_5_6_L37_w f4_carryFrames_7_5_6_L16_w = true) hs) ih _ _ _ _ _ _ _ _ hM)

def f4_carryFrames_7_5_6_w : List (Nat × Option Nat) := [(7, some 1), (28, none)]
theorem w_f4_carryFrames_7_5_6 {ws : List (Nat × Option Nat)} {M0 M : cd_M} {a3 : Int32} {a4 : Int32} {a5 : Int32} (hs : cf_sub f4_carryFrames_7_5_6_w ws = true) (hM : cf_ ws M0 M) : cp (f4_carryFrames_7_5_6 a3 a4 a5 M) (cf_ ws M0) := by
  unfold f4_carryFrames_7_5_6
  refine cp_ltM (cf_wF hs (k := 7) (j := 1) (by decide) hM) (fun M1 hM1 => ?_)
  exact (w_f4_carryFrames_7_5_6_L16 (cf_tr (by decide : cf_sub f4_carryFrames_7_5_6_L16_w f4_carryFrames_7_5_6_w = true) hs) _ _ _ _ _ _ hM1)

def f10_carry_0_w : List (Nat × Option Nat) := [(29, none), (30, none), (8, some 2), (8, some 3), (0, some 11), (35, none), (7, some 1), (28, none)]
theorem w_f10_carry_0 {ws : List (Nat × Option Nat)} {M0 M : cd_M} {a1 : Int32} {a2 : Int32} (hs : cf_sub f10_carry_0_w ws = true) (hM : cf_ ws M0 M) : cp (f10_carry_0 a1 a2 M) (fun r => cf_ ws M0 r.2) := by
  unfold f10_carry_0
  refine cp_ite (fun _ => ?_) (fun _ => ?_)
  · skip
    exact cp_some hM
  · skip
    refine cp_bindX (fun v1 => ?_)
    refine cp_ite (fun _ => ?_) (fun _ => ?_)
    · skip
      exact cp_some hM
    · skip
      refine cp_ite (fun _ => ?_) (fun _ => ?_)
      · skip
        exact cp_some hM
      · skip
        refine cp_bindM (w_f10_beginAct_0 (cf_tr (by decide : cf_sub f10_beginAct_0_w f10_carry_0_w = true) hs) hM) (fun M4 hM4 => ?_)
        refine cp_bindM (w_f4_carryFrames_7_5_6 (cf_tr (by decide : cf_sub f4_carryFrames_7_5_6_w f10_carry_0_w = true) hs) hM4) (fun M5 hM5 => ?_)
        exact cp_some hM5

def f4_removeSpan_7_w : List (Nat × Option Nat) := [(28, none), (7, some 1)]
theorem w_f4_removeSpan_7 {ws : List (Nat × Option Nat)} {M0 M : cd_M} {a1 : Int32} {a2 : Int32} (hs : cf_sub f4_removeSpan_7_w ws = true) (hM : cf_ ws M0 M) : cp (f4_removeSpan_7 a1 a2 M) (cf_ ws M0) := by
  unfold f4_removeSpan_7
  refine cp_ite (fun _ => ?_) (fun _ => ?_)
  · skip
    exact cp_some hM
  · skip
    refine cp_ite (fun _ => ?_) (fun _ => ?_)
    · skip
      refine cp_ltM (cf_cL hs (k1 := 28) (by decide) hM) (fun M2 hM2 => ?_)
      refine cp_ltM (cf_wF hs (k := 7) (j := 1) (by decide) hM2) (fun M3 hM3 => ?_)
      exact cp_some hM3
    · skip
      exact cp_none

def f10_cut_0_w : List (Nat × Option Nat) := [(29, none), (30, none), (8, some 2), (8, some 3), (0, some 11), (35, none), (28, none), (7, some 1)]
theorem w_f10_cut_0 {ws : List (Nat × Option Nat)} {M0 M : cd_M} {a1 : Int32} {a2 : Int32} (hs : cf_sub f10_cut_0_w ws = true) (hM : cf_ ws M0 M) : cp (f10_cut_0 a1 a2 M) (fun r => cf_ ws M0 r.2) := by
  unfold f10_cut_0
  refine cp_ite (fun _ => ?_) (fun _ => ?_)
  · skip
    exact cp_some hM
  · skip
    refine cp_bindM (w_f10_beginAct_0 (cf_tr (by decide : cf_sub f10_beginAct_0_w f10_cut_0_w = true) hs) hM) (fun M2 hM2 => ?_)
    refine cp_bindM (w_f4_removeSpan_7 (cf_tr (by decide : cf_sub f4_removeSpan_7_w f10_cut_0_w = true) hs) hM2) (fun M3 hM3 => ?_)
    exact cp_some hM3

def f4_repeatSpan_7_w : List (Nat × Option Nat) := [(28, none), (7, some 1)]
theorem w_f4_repeatSpan_7 {ws : List (Nat × Option Nat)} {M0 M : cd_M} {a1 : Int32} {a2 : Int32} (hs : cf_sub f4_repeatSpan_7_w ws = true) (hM : cf_ ws M0 M) : cp (f4_repeatSpan_7 a1 a2 M) (cf_ ws M0) := by
  unfold f4_repeatSpan_7
  refine cp_ite (fun _ => ?_) (fun _ => ?_)
  · skip
    exact cp_some hM
  · skip
    refine cp_ite (fun _ => ?_) (fun _ => ?_)
    · skip
      exact cp_some hM
    · skip
      refine cp_ite (fun _ => ?_) (fun _ => ?_)
      · skip
        refine cp_ltM (cf_cL hs (k1 := 28) (by decide) hM) (fun M2 hM2 => ?_)
        refine cp_ltM (cf_wF hs (k := 7) (j := 1) (by decide) hM2) (fun M3 hM3 => ?_)
        exact cp_some hM3
      · skip
        exact cp_none

def f10_doubled_0_w : List (Nat × Option Nat) := [(29, none), (30, none), (8, some 2), (8, some 3), (0, some 11), (35, none), (28, none), (7, some 1)]
theorem w_f10_doubled_0 {ws : List (Nat × Option Nat)} {M0 M : cd_M} {a1 : Int32} {a2 : Int32} (hs : cf_sub f10_doubled_0_w ws = true) (hM : cf_ ws M0 M) : cp (f10_doubled_0 a1 a2 M) (fun r => cf_ ws M0 r.2) := by
  unfold f10_doubled_0
  refine cp_ite (fun _ => ?_) (fun _ => ?_)
  · skip
    exact cp_some hM
  · skip
    refine cp_ite (fun _ => ?_) (fun _ => ?_)
    · skip
      refine cp_bindM (w_f10_beginAct_0 (cf_tr (by decide : cf_sub f10_beginAct_0_w f10_doubled_0_w = true) hs) hM) (fun M2 hM2 => ?_)
      refine cp_bindM (w_f4_repeatSpan_7 (cf_tr (by decide : cf_sub f4_repeatSpan_7_w f10_doubled_0_w = true) hs) hM2) (fun M3 hM3 => ?_)
      exact cp_some hM3
    · skip
      exact cp_some hM

def f4_putSample_7_w : List (Nat × Option Nat) := [(28, none)]
theorem w_f4_putSample_7 {ws : List (Nat × Option Nat)} {M0 M : cd_M} {a1 : Int32} {a2 : Int32} {a3 : Int32} (hs : cf_sub f4_putSample_7_w ws = true) (hM : cf_ ws M0 M) : cp (f4_putSample_7 a1 a2 a3 M) (cf_ ws M0) := by
  unfold f4_putSample_7
  refine cp_ite (fun _ => ?_) (fun _ => ?_)
  · skip
    exact cp_some hM
  · skip
    refine cp_ite (fun _ => ?_) (fun _ => ?_)
    · skip
      refine cp_ite (fun _ => ?_) (fun _ => ?_)
      · skip
        refine cp_ltM (cf_wL hs (k := 28) (by decide) hM) (fun M2 hM2 => ?_)
        exact cp_some hM2
      · skip
        exact cp_none
    · skip
      exact cp_none

def f4_disturb_7_L113_w : List (Nat × Option Nat) := []
theorem w_f4_disturb_7_L113 {ws : List (Nat × Option Nat)} {M0 M : cd_M} {r23 : Int32 → Int32 → Int32 → Int32 → Int32 → Int32 → cd_M → Option (Int32 × cd_M)} {r35 : Int32 → Int32 → Int32 → Int32 → Int32 → Int32 → Int32 → cd_M → Option (Int32 × cd_M)} {a2 : Int32} {a3 : Int32} {a4 : Int32} {a5 : Int32} {a7 : Int32} {a8 : Int32} {s0 : Int32} {s1 : Int32} (hs : cf_sub f4_disturb_7_L113_w ws = true) (hr23 : ∀ (y0 : Int32) (y1 : Int32) (y2 : Int32) (y3 : Int32) (y4 : Int32) (y5 : Int32) (y6 : cd_M), cf_ ws M0 y6 → cp (r23 y0 y1 y2 y3 y4 y5 y6) (fun r => cf_ ws M0 r.2)) (hr35 : ∀ (y0 : Int32) (y1 : Int32) (y2 : Int32) (y3 : Int32) (y4 : Int32) (y5 : Int32) (y6 : Int32) (y7 : cd_M), cf_ ws M0 y7 → cp (r35 y0 y1 y2 y3 y4 y5 y6 y7) (fun r => cf_ ws M0 r.2)) (hM : cf_ ws M0 M) : cp (f4_disturb_7_L113 r23 r35 a2 a3 a4 a5 a7 a8 s0 s1 M) (fun r => cf_ ws M0 r.2) := by
  unfold f4_disturb_7_L113
  refine cp_ltX (fun x8 => ?_)
  refine cp_ltX (fun x9 => ?_)
  exact (hr35 _ _ _ _ _ _ _ _ hM)

def f4_disturb_7_L35_w : List (Nat × Option Nat) := [(28, none)]
theorem w_f4_disturb_7_L35 {ws : List (Nat × Option Nat)} {M0 : cd_M} {r23 : Int32 → Int32 → Int32 → Int32 → Int32 → Int32 → cd_M → Option (Int32 × cd_M)} (hs : cf_sub f4_disturb_7_L35_w ws = true) (hr23 : ∀ (y0 : Int32) (y1 : Int32) (y2 : Int32) (y3 : Int32) (y4 : Int32) (y5 : Int32) (y6 : cd_M), cf_ ws M0 y6 → cp (r23 y0 y1 y2 y3 y4 y5 y6) (fun r => cf_ ws M0 r.2)) : ∀ (n : Nat) (a2 : Int32) (a3 : Int32) (a4 : Int32) (a5 : Int32) (a6 : Int32) (a7 : Int32) (a8 : Int32) (M : cd_M), cf_ ws M0 M → cp (f4_disturb_7_L35 r23 n a2 a3 a4 a5 a6 a7 a8 M) (fun r => cf_ ws M0 r.2) := by
  intro n
  induction n with
  | zero => intro a2 a3 a4 a5 a6 a7 a8 M _; exact cp_none
  | succ n ih =>
    intro a2 a3 a4 a5 a6 a7 a8 M hM
    unfold f4_disturb_7_L35
    refine cp_ite (fun _ => ?_) (fun _ => ?_)
    · skip
      refine cp_ltX (fun x2 => ?_)
      exact (hr23 _ _ _ _ _ _ _ hM)
    · skip
      refine cp_ltX (fun x3 => ?_)
      refine cp_bindX (fun v4 => ?_)
      refine cp_ite (fun _ => ?_) (fun _ => ?_)
      · skip
        exact cp_none
      · skip
        refine cp_ltX (fun x5 => ?_)
        refine cp_ltX (fun x6 => ?_)
        refine cp_bindM (w_f4_putSample_7 (cf_tr (by decide : cf_sub f4_putSample_7_w f4_disturb_7_L35_w = true) hs) hM) (fun M7 hM7 => ?_)
        refine cp_ite (fun _ => ?_) (fun _ => ?_)
        · skip
          exact (w_f4_disturb_7_L113 (cf_tr (by decide : cf_sub f4_disturb_7_L113_w f4_disturb_7_L35_w = true) hs) hr23 ih hM7)
        · skip
          exact (w_f4_disturb_7_L113 (cf_tr (by decide : cf_sub f4_disturb_7_L113_w f4_disturb_7_L35_w = true) hs) hr23 ih hM7)

def f4_disturb_7_L23_w : List (Nat × Option Nat) := [(28, none)]
theorem w_f4_disturb_7_L23 {ws : List (Nat × Option Nat)} {M0 : cd_M}  (hs : cf_sub f4_disturb_7_L23_w ws = true) : ∀ (n : Nat) (a2 : Int32) (a3 : Int32) (a4 : Int32) (a5 : Int32) (a6 : Int32) (a7 : Int32) (M : cd_M), cf_ ws M0 M → cp (f4_disturb_7_L23 n a2 a3 a4 a5 a6 a7 M) (fun r => cf_ ws M0 r.2) := by
  intro n
  induction n with
  | zero => intro a2 a3 a4 a5 a6 a7 M _; exact cp_none
  | succ n ih =>
    intro a2 a3 a4 a5 a6 a7 M hM
    unfold f4_disturb_7_L23
    refine cp_ite (fun _ => ?_) (fun _ => ?_)
    · skip
      exact cp_some hM
    · skip
      exact (w_f4_disturb_7_L35 (cf_tr (by decide : cf_sub f4_disturb_7_L35_w f4_disturb_7_L23_w = true) hs) ih _ _ _ _ _ _ _ _ _ hM)

def f4_disturb_7_w : List (Nat × Option Nat) := [(28, none)]
theorem w_f4_disturb_7 {ws : List (Nat × Option Nat)} {M0 M : cd_M} {a1 : Int32} {a2 : Int32} {a3 : Int32} (hs : cf_sub f4_disturb_7_w ws = true) (hM : cf_ ws M0 M) : cp (f4_disturb_7 a1 a2 a3 M) (fun r => cf_ ws M0 r.2) := by
  unfold f4_disturb_7
  refine cp_ltX (fun x1 => ?_)
  refine cp_ite (fun _ => ?_) (fun _ => ?_)
  · skip
    exact (w_f4_disturb_7_L23 (cf_tr (by decide : cf_sub f4_disturb_7_L23_w f4_disturb_7_w = true) hs) _ _ _ _ _ _ _ _ hM)
  · skip
    exact cp_some hM

def f10_noise_0_w : List (Nat × Option Nat) := [(29, none), (30, none), (8, some 2), (8, some 3), (0, some 11), (35, none), (28, none)]
theorem w_f10_noise_0 {ws : List (Nat × Option Nat)} {M0 M : cd_M} {a1 : Int32} {a2 : Int32} (hs : cf_sub f10_noise_0_w ws = true) (hM : cf_ ws M0 M) : cp (f10_noise_0 a1 a2 M) (fun r => cf_ ws M0 r.2) := by
  unfold f10_noise_0
  refine cp_ite (fun _ => ?_) (fun _ => ?_)
  · skip
    exact cp_some hM
  · skip
    refine cp_ite (fun _ => ?_) (fun _ => ?_)
    · skip
      exact cp_some hM
    · skip
      refine cp_ite (fun _ => ?_) (fun _ => ?_)
      · skip
        refine cp_bindM (w_f10_beginAct_0 (cf_tr (by decide : cf_sub f10_beginAct_0_w f10_noise_0_w = true) hs) hM) (fun M1 hM1 => ?_)
        refine cp_bindU (w_f4_disturb_7 (cf_tr (by decide : cf_sub f4_disturb_7_w f10_noise_0_w = true) hs) hM1) (fun v3 M2 hM2 => ?_)
        exact cp_some hM2
      · skip
        exact cp_some hM

def f10_set_0_w : List (Nat × Option Nat) := [(29, none), (30, none), (8, some 2), (8, some 3), (0, some 11), (35, none), (28, none)]
theorem w_f10_set_0 {ws : List (Nat × Option Nat)} {M0 M : cd_M} {a1 : Int32} {a2 : Int32} {a3 : Int32} (hs : cf_sub f10_set_0_w ws = true) (hM : cf_ ws M0 M) : cp (f10_set_0 a1 a2 a3 M) (fun r => cf_ ws M0 r.2) := by
  unfold f10_set_0
  refine cp_ite (fun _ => ?_) (fun _ => ?_)
  · skip
    exact cp_some hM
  · skip
    refine cp_ite (fun _ => ?_) (fun _ => ?_)
    · skip
      exact cp_some hM
    · skip
      refine cp_ite (fun _ => ?_) (fun _ => ?_)
      · skip
        exact cp_some hM
      · skip
        refine cp_ite (fun _ => ?_) (fun _ => ?_)
        · skip
          refine cp_bindM (w_f10_beginAct_0 (cf_tr (by decide : cf_sub f10_beginAct_0_w f10_set_0_w = true) hs) hM) (fun M3 hM3 => ?_)
          refine cp_bindX (fun v4 => ?_)
          refine cp_bindM (w_f4_putSample_7 (cf_tr (by decide : cf_sub f4_putSample_7_w f10_set_0_w = true) hs) hM3) (fun M5 hM5 => ?_)
          exact cp_some hM5
        · skip
          exact cp_some hM

def f3_giveBack_8_7_L27_w : List (Nat × Option Nat) := [(8, some 2), (8, some 3), (7, some 1), (28, none)]
theorem w_f3_giveBack_8_7_L27 {ws : List (Nat × Option Nat)} {M0 M : cd_M} {s0 : Int32} (hs : cf_sub f3_giveBack_8_7_L27_w ws = true) (hM : cf_ ws M0 M) : cp (f3_giveBack_8_7_L27 s0 M) (cf_ ws M0) := by
  unfold f3_giveBack_8_7_L27
  refine cp_ltM (cf_wF hs (k := 8) (j := 2) (by decide) hM) (fun M1 hM1 => ?_)
  refine cp_ltM (cf_wF hs (k := 8) (j := 3) (by decide) hM1) (fun M2 hM2 => ?_)
  refine cp_ite (fun _ => ?_) (fun _ => ?_)
  · skip
    refine cp_ltM (cf_wF hs (k := 7) (j := 1) (by decide) hM2) (fun M3 hM3 => ?_)
    refine cp_ite (fun _ => ?_) (fun _ => ?_)
    · skip
      refine cp_ltM (cf_cL hs (k1 := 28) (by decide) hM3) (fun M4 hM4 => ?_)
      exact cp_some hM4
    · skip
      exact cp_none
  · skip
    exact cp_none

def f3_giveBack_8_7_w : List (Nat × Option Nat) := [(8, some 2), (8, some 3), (7, some 1), (28, none)]
theorem w_f3_giveBack_8_7 {ws : List (Nat × Option Nat)} {M0 M : cd_M}  (hs : cf_sub f3_giveBack_8_7_w ws = true) (hM : cf_ ws M0 M) : cp (f3_giveBack_8_7 M) (cf_ ws M0) := by
  unfold f3_giveBack_8_7
  refine cp_ite (fun _ => ?_) (fun _ => ?_)
  · skip
    exact cp_some hM
  · skip
    refine cp_ite (fun _ => ?_) (fun _ => ?_)
    · skip
      exact (w_f3_giveBack_8_7_L27 (cf_tr (by decide : cf_sub f3_giveBack_8_7_L27_w f3_giveBack_8_7_w = true) hs) hM)
    · skip
      exact (w_f3_giveBack_8_7_L27 (cf_tr (by decide : cf_sub f3_giveBack_8_7_L27_w f3_giveBack_8_7_w = true) hs) hM)

def f10_undo_0_w : List (Nat × Option Nat) := [(8, some 2), (8, some 3), (7, some 1), (28, none), (0, some 11), (35, none)]
theorem w_f10_undo_0 {ws : List (Nat × Option Nat)} {M0 M : cd_M}  (hs : cf_sub f10_undo_0_w ws = true) (hM : cf_ ws M0 M) : cp (f10_undo_0 M) (fun r => cf_ ws M0 r.2) := by
  unfold f10_undo_0
  refine cp_ite (fun _ => ?_) (fun _ => ?_)
  · skip
    exact cp_some hM
  · skip
    refine cp_bindM (w_f3_giveBack_8_7 (cf_tr (by decide : cf_sub f3_giveBack_8_7_w f10_undo_0_w = true) hs) hM) (fun M1 hM1 => ?_)
    refine cp_bindM (w_f10_forgetPaths_0 (cf_tr (by decide : cf_sub f10_forgetPaths_0_w f10_undo_0_w = true) hs) hM1) (fun M2 hM2 => ?_)
    exact cp_some hM2

def f6_addState_10_w : List (Nat × Option Nat) := [(39, none), (40, none), (41, none), (42, none), (10, some 4)]
theorem w_f6_addState_10 {ws : List (Nat × Option Nat)} {M0 M : cd_M} {a1 : Int32} {a2 : Int32} {a3 : Int32} {a4 : Int32} (hs : cf_sub f6_addState_10_w ws = true) (hM : cf_ ws M0 M) : cp (f6_addState_10 a1 a2 a3 a4 M) (cf_ ws M0) := by
  unfold f6_addState_10
  refine cp_ite (fun _ => ?_) (fun _ => ?_)
  · skip
    exact cp_some hM
  · skip
    refine cp_ite (fun _ => ?_) (fun _ => ?_)
    · skip
      refine cp_ltM (cf_wI hs (k := 39) (by decide) hM) (fun M1 hM1 => ?_)
      refine cp_ite (fun _ => ?_) (fun _ => ?_)
      · skip
        refine cp_ltM (cf_wI hs (k := 40) (by decide) hM1) (fun M2 hM2 => ?_)
        refine cp_ite (fun _ => ?_) (fun _ => ?_)
        · skip
          refine cp_ltM (cf_wI hs (k := 41) (by decide) hM2) (fun M3 hM3 => ?_)
          refine cp_ite (fun _ => ?_) (fun _ => ?_)
          · skip
            refine cp_ltM (cf_wI hs (k := 42) (by decide) hM3) (fun M4 hM4 => ?_)
            refine cp_ltM (cf_wF hs (k := 10) (j := 4) (by decide) hM4) (fun M5 hM5 => ?_)
            exact cp_some hM5
          · skip
            exact cp_none
        · skip
          exact cp_none
      · skip
        exact cp_none
    · skip
      exact cp_none

def f6_addPlace_10_L80_w : List (Nat × Option Nat) := [(39, none), (40, none), (41, none), (42, none), (10, some 4)]
theorem w_f6_addPlace_10_L80 {ws : List (Nat × Option Nat)} {M0 M : cd_M} {r26 : Int32 → Int32 → Int32 → Int32 → Int32 → cd_M → Option cd_M} {r35 : Int32 → Int32 → Int32 → Int32 → Int32 → Int32 → cd_M → Option cd_M} {a1 : Int32} {a2 : Int32} {a4 : Int32} {a5 : Int32} {a6 : Int32} {a7 : Int32} {s0 : Int32} {s1 : Int32} {s2 : Int32} {s3 : Int32} (hs : cf_sub f6_addPlace_10_L80_w ws = true) (hr26 : ∀ (y0 : Int32) (y1 : Int32) (y2 : Int32) (y3 : Int32) (y4 : Int32) (y5 : cd_M), cf_ ws M0 y5 → cp (r26 y0 y1 y2 y3 y4 y5) (cf_ ws M0)) (hr35 : ∀ (y0 : Int32) (y1 : Int32) (y2 : Int32) (y3 : Int32) (y4 : Int32) (y5 : Int32) (y6 : cd_M), cf_ ws M0 y6 → cp (r35 y0 y1 y2 y3 y4 y5 y6) (cf_ ws M0)) (hM : cf_ ws M0 M) : cp (f6_addPlace_10_L80 r26 r35 a1 a2 a4 a5 a6 a7 s0 s1 s2 s3 M) (cf_ ws M0) := by
  unfold f6_addPlace_10_L80
  refine cp_bindM (w_f6_addState_10 (cf_tr (by decide : cf_sub f6_addState_10_w f6_addPlace_10_L80_w = true) hs) hM) (fun M4 hM4 => ?_)
  refine cp_ltX (fun x5 => ?_)
  exact (hr35 _ _ _ _ _ _ _ hM4)

def f6_addPlace_10_L35_w : List (Nat × Option Nat) := [(39, none), (40, none), (41, none), (42, none), (10, some 4)]
theorem w_f6_addPlace_10_L35 {ws : List (Nat × Option Nat)} {M0 : cd_M} {r26 : Int32 → Int32 → Int32 → Int32 → Int32 → cd_M → Option cd_M} (hs : cf_sub f6_addPlace_10_L35_w ws = true) (hr26 : ∀ (y0 : Int32) (y1 : Int32) (y2 : Int32) (y3 : Int32) (y4 : Int32) (y5 : cd_M), cf_ ws M0 y5 → cp (r26 y0 y1 y2 y3 y4 y5) (cf_ ws M0)) : ∀ (n : Nat) (a1 : Int32) (a2 : Int32) (a4 : Int32) (a5 : Int32) (a6 : Int32) (a7 : Int32) (M : cd_M), cf_ ws M0 M → cp (f6_addPlace_10_L35 r26 n a1 a2 a4 a5 a6 a7 M) (cf_ ws M0) := by
  intro n
  induction n with
  | zero => intro a1 a2 a4 a5 a6 a7 M _; exact cp_none
  | succ n ih =>
    intro a1 a2 a4 a5 a6 a7 M hM
    unfold f6_addPlace_10_L35
    refine cp_ite (fun _ => ?_) (fun _ => ?_)
    · skip
      refine cp_ltX (fun x2 => ?_)
      exact (hr26 _ _ _ _ _ _ hM)
    · skip
      refine cp_ltX (fun x3 => ?_)
      refine cp_ite (fun _ => ?_) (fun _ => ?_)
      · skip
        exact (w_f6_addPlace_10_L80 (cf_tr (by decide : cf_sub f6_addPlace_10_L80_w f6_addPlace_10_L35_w = true) hs) hr26 ih hM)
      · skip
        exact (w_f6_addPlace_10_L80 (cf_tr (by decide : cf_sub f6_addPlace_10_L80_w f6_addPlace_10_L35_w = true) hs) hr26 ih hM)

def f6_addPlace_10_L26_w : List (Nat × Option Nat) := [(39, none), (40, none), (41, none), (42, none), (10, some 4)]
theorem w_f6_addPlace_10_L26 {ws : List (Nat × Option Nat)} {M0 : cd_M}  (hs : cf_sub f6_addPlace_10_L26_w ws = true) : ∀ (n : Nat) (a1 : Int32) (a2 : Int32) (a4 : Int32) (a5 : Int32) (a6 : Int32) (M : cd_M), cf_ ws M0 M → cp (f6_addPlace_10_L26 n a1 a2 a4 a5 a6 M) (cf_ ws M0) := by
  intro n
  induction n with
  | zero => intro a1 a2 a4 a5 a6 M _; exact cp_none
  | succ n ih =>
    intro a1 a2 a4 a5 a6 M hM
    unfold f6_addPlace_10_L26
    refine cp_ite (fun _ => ?_) (fun _ => ?_)
    · skip
      exact cp_some hM
    · skip
      exact (w_f6_addPlace_10_L35 (cf_tr (by decide : cf_sub f6_addPlace_10_L35_w f6_addPlace_10_L26_w = true) hs) ih _ _ _ _ _ _ _ _ hM)

def f6_addPlace_10_L21_w : List (Nat × Option Nat) := [(39, none), (40, none), (41, none), (42, none), (10, some 4)]
theorem w_f6_addPlace_10_L21 {ws : List (Nat × Option Nat)} {M0 M : cd_M} {a1 : Int32} {a2 : Int32} {a4 : Int32} {s0 : Int32} (hs : cf_sub f6_addPlace_10_L21_w ws = true) (hM : cf_ ws M0 M) : cp (f6_addPlace_10_L21 a1 a2 a4 s0 M) (cf_ ws M0) := by
  unfold f6_addPlace_10_L21
  exact (w_f6_addPlace_10_L26 (cf_tr (by decide : cf_sub f6_addPlace_10_L26_w f6_addPlace_10_L21_w = true) hs) _ _ _ _ _ _ _ hM)

def f6_addPlace_10_w : List (Nat × Option Nat) := [(39, none), (40, none), (41, none), (42, none), (10, some 4)]
theorem w_f6_addPlace_10 {ws : List (Nat × Option Nat)} {M0 M : cd_M} {a1 : Int32} {a2 : Int32} {a3 : Int32} (hs : cf_sub f6_addPlace_10_w ws = true) (hM : cf_ ws M0 M) : cp (f6_addPlace_10 a1 a2 a3 M) (cf_ ws M0) := by
  unfold f6_addPlace_10
  refine cp_ltX (fun x1 => ?_)
  refine cp_ite (fun _ => ?_) (fun _ => ?_)
  · skip
    exact (w_f6_addPlace_10_L21 (cf_tr (by decide : cf_sub f6_addPlace_10_L21_w f6_addPlace_10_w = true) hs) hM)
  · skip
    exact (w_f6_addPlace_10_L21 (cf_tr (by decide : cf_sub f6_addPlace_10_L21_w f6_addPlace_10_w = true) hs) hM)

def f6_build_10_6_L43_w : List (Nat × Option Nat) := [(39, none), (40, none), (41, none), (42, none), (10, some 4)]
theorem w_f6_build_10_6_L43 {ws : List (Nat × Option Nat)} {M0 M : cd_M} {r14 : Int32 → Int32 → Int32 → cd_M → Option cd_M} {a2 : Int32} {a3 : Int32} {a4 : Int32} {s0 : Int32} {s1 : Int32} {s2 : Int32} (hs : cf_sub f6_build_10_6_L43_w ws = true) (hr14 : ∀ (y0 : Int32) (y1 : Int32) (y2 : Int32) (y3 : cd_M), cf_ ws M0 y3 → cp (r14 y0 y1 y2 y3) (cf_ ws M0)) (hM : cf_ ws M0 M) : cp (f6_build_10_6_L43 r14 a2 a3 a4 s0 s1 s2 M) (cf_ ws M0) := by
  unfold f6_build_10_6_L43
  refine cp_bindM (w_f6_addPlace_10 (cf_tr (by decide : cf_sub f6_addPlace_10_w f6_build_10_6_L43_w = true) hs) hM) (fun M4 hM4 => ?_)
  refine cp_ltX (fun x5 => ?_)
  exact (hr14 _ _ _ _ hM4)

def f6_build_10_6_L14_w : List (Nat × Option Nat) := [(39, none), (40, none), (41, none), (42, none), (10, some 4)]
theorem w_f6_build_10_6_L14 {ws : List (Nat × Option Nat)} {M0 : cd_M}  (hs : cf_sub f6_build_10_6_L14_w ws = true) : ∀ (n : Nat) (a2 : Int32) (a3 : Int32) (a4 : Int32) (M : cd_M), cf_ ws M0 M → cp (f6_build_10_6_L14 n a2 a3 a4 M) (cf_ ws M0) := by
  intro n
  induction n with
  | zero => intro a2 a3 a4 M _; exact cp_none
  | succ n ih =>
    intro a2 a3 a4 M hM
    unfold f6_build_10_6_L14
    refine cp_ite (fun _ => ?_) (fun _ => ?_)
    · skip
      exact cp_some hM
    · skip
      refine cp_bindX (fun v3 => ?_)
      refine cp_ite (fun _ => ?_) (fun _ => ?_)
      · skip
        exact (w_f6_build_10_6_L43 (cf_tr (by decide : cf_sub f6_build_10_6_L43_w f6_build_10_6_L14_w = true) hs) ih hM)
      · skip
        exact (w_f6_build_10_6_L43 (cf_tr (by decide : cf_sub f6_build_10_6_L43_w f6_build_10_6_L14_w = true) hs) ih hM)

def f6_build_10_6_w : List (Nat × Option Nat) := [(10, some 4), (39, none), (40, none), (41, none), (42, none)]
theorem w_f6_build_10_6 {ws : List (Nat × Option Nat)} {M0 M : cd_M} {a2 : Int32} (hs : cf_sub f6_build_10_6_w ws = true) (hM : cf_ ws M0 M) : cp (f6_build_10_6 a2 M) (cf_ ws M0) := by
  unfold f6_build_10_6
  refine cp_ltM (cf_wF hs (k := 10) (j := 4) (by decide) hM) (fun M1 hM1 => ?_)
  refine cp_bindX (fun v2 => ?_)
  exact (w_f6_build_10_6_L14 (cf_tr (by decide : cf_sub f6_build_10_6_L14_w f6_build_10_6_w = true) hs) _ _ _ _ _ hM1)

def f0_weighStates_9_7_6_L228_w : List (Nat × Option Nat) := [(31, none)]
theorem w_f0_weighStates_9_7_6_L228 {ws : List (Nat × Option Nat)} {M0 M : cd_M} {r118 : Int32 → Int32 → Int32 → Int32 → Int32 → Int32 → cd_M → Option cd_M} {a3 : Int32} {a5 : Int32} {a6 : Int32} {a7 : Int32} {a8 : Int32} {a9 : Int32} {s0 : Int32} {s1 : Int32} {s2 : Int32} (hs : cf_sub f0_weighStates_9_7_6_L228_w ws = true) (hr118 : ∀ (y0 : Int32) (y1 : Int32) (y2 : Int32) (y3 : Int32) (y4 : Int32) (y5 : Int32) (y6 : cd_M), cf_ ws M0 y6 → cp (r118 y0 y1 y2 y3 y4 y5 y6) (cf_ ws M0)) (hM : cf_ ws M0 M) : cp (f0_weighStates_9_7_6_L228 r118 a3 a5 a6 a7 a8 a9 s0 s1 s2 M) (cf_ ws M0) := by
  unfold f0_weighStates_9_7_6_L228
  refine cp_ite (fun _ => ?_) (fun _ => ?_)
  · skip
    refine cp_ltM (cf_wI hs (k := 31) (by decide) hM) (fun M11 hM11 => ?_)
    refine cp_ltX (fun x12 => ?_)
    exact (hr118 _ _ _ _ _ _ _ hM11)
  · skip
    exact cp_none

def f0_weighStates_9_7_6_L200_w : List (Nat × Option Nat) := [(31, none)]
theorem w_f0_weighStates_9_7_6_L200 {ws : List (Nat × Option Nat)} {M0 M : cd_M} {r118 : Int32 → Int32 → Int32 → Int32 → Int32 → Int32 → cd_M → Option cd_M} {a3 : Int32} {a5 : Int32} {a6 : Int32} {a7 : Int32} {a8 : Int32} {a9 : Int32} {a10 : Int32} (hs : cf_sub f0_weighStates_9_7_6_L200_w ws = true) (hr118 : ∀ (y0 : Int32) (y1 : Int32) (y2 : Int32) (y3 : Int32) (y4 : Int32) (y5 : Int32) (y6 : cd_M), cf_ ws M0 y6 → cp (r118 y0 y1 y2 y3 y4 y5 y6) (cf_ ws M0)) (hM : cf_ ws M0 M) : cp (f0_weighStates_9_7_6_L200 r118 a3 a5 a6 a7 a8 a9 a10 M) (cf_ ws M0) := by
  unfold f0_weighStates_9_7_6_L200
  refine cp_bindX (fun v10 => ?_)
  refine cp_ite (fun _ => ?_) (fun _ => ?_)
  · skip
    exact (w_f0_weighStates_9_7_6_L228 (cf_tr (by decide : cf_sub f0_weighStates_9_7_6_L228_w f0_weighStates_9_7_6_L200_w = true) hs) hr118 hM)
  · skip
    exact (w_f0_weighStates_9_7_6_L228 (cf_tr (by decide : cf_sub f0_weighStates_9_7_6_L228_w f0_weighStates_9_7_6_L200_w = true) hs) hr118 hM)

def f0_weighStates_9_7_6_L118_w : List (Nat × Option Nat) := [(31, none), (33, none)]
theorem w_f0_weighStates_9_7_6_L118 {ws : List (Nat × Option Nat)} {M0 : cd_M}  (hs : cf_sub f0_weighStates_9_7_6_L118_w ws = true) : ∀ (n : Nat) (a3 : Int32) (a5 : Int32) (a6 : Int32) (a7 : Int32) (a8 : Int32) (a9 : Int32) (M : cd_M), cf_ ws M0 M → cp (f0_weighStates_9_7_6_L118 n a3 a5 a6 a7 a8 a9 M) (cf_ ws M0) := by
  intro n
  induction n with
  | zero => intro a3 a5 a6 a7 a8 a9 M _; exact cp_none
  | succ n ih =>
    intro a3 a5 a6 a7 a8 a9 M hM
    unfold f0_weighStates_9_7_6_L118
    refine cp_ite (fun _ => ?_) (fun _ => ?_)
    · skip
      exact cp_some hM
    · skip
      refine cp_ite (fun _ => ?_) (fun _ => ?_)
      · skip
        exact (w_f0_weighStates_9_7_6_L200 (cf_tr (by decide : cf_sub f0_weighStates_9_7_6_L200_w f0_weighStates_9_7_6_L118_w = true) hs) ih hM)
      · skip
        refine cp_bindX (fun v13 => ?_)
        refine cp_bindX (fun v14 => ?_)
        refine cp_ite (fun _ => ?_) (fun _ => ?_)
        · skip
          exact (w_f0_weighStates_9_7_6_L200 (cf_tr (by decide : cf_sub f0_weighStates_9_7_6_L200_w f0_weighStates_9_7_6_L118_w = true) hs) ih hM)
        · skip
          refine cp_bindX (fun v16 => ?_)
          refine cp_ite (fun _ => ?_) (fun _ => ?_)
          · skip
            refine cp_ltX (fun x17 => ?_)
            refine cp_ite (fun _ => ?_) (fun _ => ?_)
            · skip
              refine cp_ite (fun _ => ?_) (fun _ => ?_)
              · skip
                refine cp_ltM (cf_wL hs (k := 33) (by decide) hM) (fun M18 hM18 => ?_)
                exact (w_f0_weighStates_9_7_6_L200 (cf_tr (by decide : cf_sub f0_weighStates_9_7_6_L200_w f0_weighStates_9_7_6_L118_w = true) hs) ih hM18)
              · skip
                exact cp_none
            · skip
              exact cp_none
          · skip
            exact cp_none

def f0_weighStates_9_7_6_L93_w : List (Nat × Option Nat) := [(33, none), (31, none)]
theorem w_f0_weighStates_9_7_6_L93 {ws : List (Nat × Option Nat)} {M0 M : cd_M} {a3 : Int32} {a5 : Int32} {a6 : Int32} {a7 : Int32} {s0 : Int32} (hs : cf_sub f0_weighStates_9_7_6_L93_w ws = true) (hM : cf_ ws M0 M) : cp (f0_weighStates_9_7_6_L93 a3 a5 a6 a7 s0 M) (cf_ ws M0) := by
  unfold f0_weighStates_9_7_6_L93
  refine cp_ite (fun _ => ?_) (fun _ => ?_)
  · skip
    refine cp_ltM (cf_wL hs (k := 33) (by decide) hM) (fun M8 hM8 => ?_)
    refine cp_ite (fun _ => ?_) (fun _ => ?_)
    · skip
      refine cp_ltM (cf_wL hs (k := 33) (by decide) hM8) (fun M9 hM9 => ?_)
      exact (w_f0_weighStates_9_7_6_L118 (cf_tr (by decide : cf_sub f0_weighStates_9_7_6_L118_w f0_weighStates_9_7_6_L93_w = true) hs) _ _ _ _ _ _ _ _ hM9)
    · skip
      exact cp_none
  · skip
    exact cp_none

def f0_weighStates_9_7_6_L42_w : List (Nat × Option Nat) := [(33, none), (31, none)]
theorem w_f0_weighStates_9_7_6_L42 {ws : List (Nat × Option Nat)} {M0 M : cd_M} {a3 : Int32} {a4 : Int32} {s0 : Int32} (hs : cf_sub f0_weighStates_9_7_6_L42_w ws = true) (hM : cf_ ws M0 M) : cp (f0_weighStates_9_7_6_L42 a3 a4 s0 M) (cf_ ws M0) := by
  unfold f0_weighStates_9_7_6_L42
  refine cp_bindX (fun v3 => ?_)
  refine cp_ltX (fun x4 => ?_)
  refine cp_bindX (fun v5 => ?_)
  refine cp_ltX (fun x6 => ?_)
  refine cp_ite (fun _ => ?_) (fun _ => ?_)
  · skip
    refine cp_bindX (fun v7 => ?_)
    exact (w_f0_weighStates_9_7_6_L93 (cf_tr (by decide : cf_sub f0_weighStates_9_7_6_L93_w f0_weighStates_9_7_6_L42_w = true) hs) hM)
  · skip
    exact (w_f0_weighStates_9_7_6_L93 (cf_tr (by decide : cf_sub f0_weighStates_9_7_6_L93_w f0_weighStates_9_7_6_L42_w = true) hs) hM)

def f0_weighStates_9_7_6_L41_w : List (Nat × Option Nat) := [(33, none), (31, none)]
theorem w_f0_weighStates_9_7_6_L41 {ws : List (Nat × Option Nat)} {M0 M : cd_M} {a3 : Int32} {a4 : Int32} (hs : cf_sub f0_weighStates_9_7_6_L41_w ws = true) (hM : cf_ ws M0 M) : cp (f0_weighStates_9_7_6_L41 a3 a4 M) (cf_ ws M0) := by
  unfold f0_weighStates_9_7_6_L41
  exact (w_f0_weighStates_9_7_6_L42 (cf_tr (by decide : cf_sub f0_weighStates_9_7_6_L42_w f0_weighStates_9_7_6_L41_w = true) hs) hM)
