/-! frames, by program (frgen.py) -/
def f11_laysRest_15_L76_w : List (Nat × Option Nat) := []
theorem w_f11_laysRest_15_L76 {ws : List (Nat × Option Nat)} {M0 M : cd_M} {r7 : Int32 → cd_M → Option cd_M} {r13 : Int32 → Int32 → cd_M → Option cd_M} {a1 : Int32} {a2 : Int32} (hs : cf_sub f11_laysRest_15_L76_w ws = true) (hr7 : ∀ (y0 : Int32) (y1 : cd_M), cf_ ws M0 y1 → cp (r7 y0 y1) (cf_ ws M0)) (hr13 : ∀ (y0 : Int32) (y1 : Int32) (y2 : cd_M), cf_ ws M0 y2 → cp (r13 y0 y1 y2) (cf_ ws M0)) (hM : cf_ ws M0 M) : cp (f11_laysRest_15_L76 r7 r13 a1 a2 M) (cf_ ws M0) := by
  unfold f11_laysRest_15_L76
  refine cp_ltX (fun x5 => ?_)
  exact (hr13 _ _ _ hM)

def f11_laysRest_15_L75_w : List (Nat × Option Nat) := [(69, none)]
theorem w_f11_laysRest_15_L75 {ws : List (Nat × Option Nat)} {M0 M : cd_M} {r7 : Int32 → cd_M → Option cd_M} {r13 : Int32 → Int32 → cd_M → Option cd_M} {a1 : Int32} {a2 : Int32} {s0 : Int32} {s1 : Int32} (hs : cf_sub f11_laysRest_15_L75_w ws = true) (hr7 : ∀ (y0 : Int32) (y1 : cd_M), cf_ ws M0 y1 → cp (r7 y0 y1) (cf_ ws M0)) (hr13 : ∀ (y0 : Int32) (y1 : Int32) (y2 : cd_M), cf_ ws M0 y2 → cp (r13 y0 y1 y2) (cf_ ws M0)) (hM : cf_ ws M0 M) : cp (f11_laysRest_15_L75 r7 r13 a1 a2 s0 s1 M) (cf_ ws M0) := by
  unfold f11_laysRest_15_L75
  refine cp_ite (fun _ => ?_) (fun _ => ?_)
  · skip
    refine cp_ltM (cf_wI hs (k := 69) (by decide) hM) (fun M6 hM6 => ?_)
    exact (w_f11_laysRest_15_L76 (cf_tr (by decide : cf_sub f11_laysRest_15_L76_w f11_laysRest_15_L75_w = true) hs) hr7 hr13 hM6)
  · skip
    exact cp_none

def f11_laysRest_15_L13_w : List (Nat × Option Nat) := [(69, none)]
theorem w_f11_laysRest_15_L13 {ws : List (Nat × Option Nat)} {M0 : cd_M} {r7 : Int32 → cd_M → Option cd_M} (hs : cf_sub f11_laysRest_15_L13_w ws = true) (hr7 : ∀ (y0 : Int32) (y1 : cd_M), cf_ ws M0 y1 → cp (r7 y0 y1) (cf_ ws M0)) : ∀ (n : Nat) (a1 : Int32) (a2 : Int32) (M : cd_M), cf_ ws M0 M → cp (f11_laysRest_15_L13 r7 n a1 a2 M) (cf_ ws M0) := by
  intro n
  induction n with
  | zero => intro a1 a2 M _; exact cp_none
  | succ n ih =>
    intro a1 a2 M hM
    unfold f11_laysRest_15_L13
    refine cp_ite (fun _ => ?_) (fun _ => ?_)
    · skip
      refine cp_ltX (fun x2 => ?_)
      exact (hr7 _ _ hM)
    · skip
      refine cp_bindX (fun v3 => ?_)
      refine cp_ite (fun _ => ?_) (fun _ => ?_)
      · skip
        exact (w_f11_laysRest_15_L76 (cf_tr (by decide : cf_sub f11_laysRest_15_L76_w f11_laysRest_15_L13_w = true) hs) hr7 ih hM)
      · skip
        refine cp_ite (fun _ => ?_) (fun _ => ?_)
        · skip
          exact (w_f11_laysRest_15_L75 (cf_tr (by decide : cf_sub f11_laysRest_15_L75_w f11_laysRest_15_L13_w = true) hs) hr7 ih hM)
        · skip
          refine cp_bindX (fun v7 => ?_)
          exact (w_f11_laysRest_15_L75 (cf_tr (by decide : cf_sub f11_laysRest_15_L75_w f11_laysRest_15_L13_w = true) hs) hr7 ih hM)

def f11_laysRest_15_L7_w : List (Nat × Option Nat) := [(69, none)]
theorem w_f11_laysRest_15_L7 {ws : List (Nat × Option Nat)} {M0 : cd_M}  (hs : cf_sub f11_laysRest_15_L7_w ws = true) : ∀ (n : Nat) (a1 : Int32) (M : cd_M), cf_ ws M0 M → cp (f11_laysRest_15_L7 n a1 M) (cf_ ws M0) := by
  intro n
  induction n with
  | zero => intro a1 M _; exact cp_none
  | succ n ih =>
    intro a1 M hM
    unfold f11_laysRest_15_L7
    refine cp_ite (fun _ => ?_) (fun _ => ?_)
    · skip
      exact cp_some hM
    · skip
      exact (w_f11_laysRest_15_L13 (cf_tr (by decide : cf_sub f11_laysRest_15_L13_w f11_laysRest_15_L7_w = true) hs) ih _ _ _ _ hM)

def f11_laysRest_15_w : List (Nat × Option Nat) := [(69, none)]
theorem w_f11_laysRest_15 {ws : List (Nat × Option Nat)} {M0 M : cd_M}  (hs : cf_sub f11_laysRest_15_w ws = true) (hM : cf_ ws M0 M) : cp (f11_laysRest_15 M) (cf_ ws M0) := by
  unfold f11_laysRest_15
  refine cp_ltX (fun x1 => ?_)
  exact (w_f11_laysRest_15_L7 (cf_tr (by decide : cf_sub f11_laysRest_15_L7_w f11_laysRest_15_w = true) hs) _ _ _ hM)

def f11_goes_15_L125_w : List (Nat × Option Nat) := []
theorem w_f11_goes_15_L125 {ws : List (Nat × Option Nat)} {M0 M : cd_M} {r29 : Int32 → Int32 → Int32 → Int32 → Int32 → Int32 → cd_M → Option cd_M} {a1 : Int32} {a3 : Int32} {a4 : Int32} {a5 : Int32} {a6 : Int32} {a7 : Int32} (hs : cf_sub f11_goes_15_L125_w ws = true) (hr29 : ∀ (y0 : Int32) (y1 : Int32) (y2 : Int32) (y3 : Int32) (y4 : Int32) (y5 : Int32) (y6 : cd_M), cf_ ws M0 y6 → cp (r29 y0 y1 y2 y3 y4 y5 y6) (cf_ ws M0)) (hM : cf_ ws M0 M) : cp (f11_goes_15_L125 r29 a1 a3 a4 a5 a6 a7 M) (cf_ ws M0) := by
  unfold f11_goes_15_L125
  refine cp_ltX (fun x5 => ?_)
  exact (hr29 _ _ _ _ _ _ _ hM)

def f11_goes_15_L90_w : List (Nat × Option Nat) := []
theorem w_f11_goes_15_L90 {ws : List (Nat × Option Nat)} {M0 M : cd_M} {r29 : Int32 → Int32 → Int32 → Int32 → Int32 → Int32 → cd_M → Option cd_M} {a1 : Int32} {a3 : Int32} {a4 : Int32} {a5 : Int32} {a6 : Int32} {a7 : Int32} {s0 : Int32} (hs : cf_sub f11_goes_15_L90_w ws = true) (hr29 : ∀ (y0 : Int32) (y1 : Int32) (y2 : Int32) (y3 : Int32) (y4 : Int32) (y5 : Int32) (y6 : cd_M), cf_ ws M0 y6 → cp (r29 y0 y1 y2 y3 y4 y5 y6) (cf_ ws M0)) (hM : cf_ ws M0 M) : cp (f11_goes_15_L90 r29 a1 a3 a4 a5 a6 a7 s0 M) (cf_ ws M0) := by
  unfold f11_goes_15_L90
  refine cp_bindX (fun v6 => ?_)
  refine cp_ite (fun _ => ?_) (fun _ => ?_)
  · skip
    exact (w_f11_goes_15_L125 (cf_tr (by decide : cf_sub f11_goes_15_L125_w f11_goes_15_L90_w = true) hs) hr29 hM)
  · skip
    exact (w_f11_goes_15_L125 (cf_tr (by decide : cf_sub f11_goes_15_L125_w f11_goes_15_L90_w = true) hs) hr29 hM)

def f11_goes_15_L89_w : List (Nat × Option Nat) := []
theorem w_f11_goes_15_L89 {ws : List (Nat × Option Nat)} {M0 M : cd_M} {r29 : Int32 → Int32 → Int32 → Int32 → Int32 → Int32 → cd_M → Option cd_M} {a1 : Int32} {a3 : Int32} {a4 : Int32} {a5 : Int32} {a6 : Int32} {a7 : Int32} (hs : cf_sub f11_goes_15_L89_w ws = true) (hr29 : ∀ (y0 : Int32) (y1 : Int32) (y2 : Int32) (y3 : Int32) (y4 : Int32) (y5 : Int32) (y6 : cd_M), cf_ ws M0 y6 → cp (r29 y0 y1 y2 y3 y4 y5 y6) (cf_ ws M0)) (hM : cf_ ws M0 M) : cp (f11_goes_15_L89 r29 a1 a3 a4 a5 a6 a7 M) (cf_ ws M0) := by
  unfold f11_goes_15_L89
  exact (w_f11_goes_15_L90 (cf_tr (by decide : cf_sub f11_goes_15_L90_w f11_goes_15_L89_w = true) hs) hr29 hM)

def f11_goes_15_L75_w : List (Nat × Option Nat) := []
theorem w_f11_goes_15_L75 {ws : List (Nat × Option Nat)} {M0 M : cd_M} {r29 : Int32 → Int32 → Int32 → Int32 → Int32 → Int32 → cd_M → Option cd_M} {a1 : Int32} {a3 : Int32} {a4 : Int32} {a5 : Int32} {a6 : Int32} {a7 : Int32} (hs : cf_sub f11_goes_15_L75_w ws = true) (hr29 : ∀ (y0 : Int32) (y1 : Int32) (y2 : Int32) (y3 : Int32) (y4 : Int32) (y5 : Int32) (y6 : cd_M), cf_ ws M0 y6 → cp (r29 y0 y1 y2 y3 y4 y5 y6) (cf_ ws M0)) (hM : cf_ ws M0 M) : cp (f11_goes_15_L75 r29 a1 a3 a4 a5 a6 a7 M) (cf_ ws M0) := by
  unfold f11_goes_15_L75
  refine cp_ite (fun _ => ?_) (fun _ => ?_)
  · skip
    exact (w_f11_goes_15_L89 (cf_tr (by decide : cf_sub f11_goes_15_L89_w f11_goes_15_L75_w = true) hs) hr29 hM)
  · skip
    refine cp_ite (fun _ => ?_) (fun _ => ?_)
    · skip
      exact (w_f11_goes_15_L89 (cf_tr (by decide : cf_sub f11_goes_15_L89_w f11_goes_15_L75_w = true) hs) hr29 hM)
    · skip
      exact (w_f11_goes_15_L90 (cf_tr (by decide : cf_sub f11_goes_15_L90_w f11_goes_15_L75_w = true) hs) hr29 hM)

def f11_goes_15_L29_w : List (Nat × Option Nat) := [(70, none), (71, none)]
theorem w_f11_goes_15_L29 {ws : List (Nat × Option Nat)} {M0 : cd_M}  (hs : cf_sub f11_goes_15_L29_w ws = true) : ∀ (n : Nat) (a1 : Int32) (a3 : Int32) (a4 : Int32) (a5 : Int32) (a6 : Int32) (a7 : Int32) (M : cd_M), cf_ ws M0 M → cp (f11_goes_15_L29 n a1 a3 a4 a5 a6 a7 M) (cf_ ws M0) := by
  intro n
  induction n with
  | zero => intro a1 a3 a4 a5 a6 a7 M _; exact cp_none
  | succ n ih =>
    intro a1 a3 a4 a5 a6 a7 M hM
    unfold f11_goes_15_L29
    refine cp_ite (fun _ => ?_) (fun _ => ?_)
    · skip
      refine cp_ite (fun _ => ?_) (fun _ => ?_)
      · skip
        refine cp_ltM (cf_wI hs (k := 70) (by decide) hM) (fun M1 hM1 => ?_)
        refine cp_ite (fun _ => ?_) (fun _ => ?_)
        · skip
          refine cp_ltM (cf_wI hs (k := 71) (by decide) hM1) (fun M2 hM2 => ?_)
          exact cp_some hM2
        · skip
          exact cp_none
      · skip
        exact cp_none
    · skip
      refine cp_bindX (fun v3 => ?_)
      refine cp_ite (fun _ => ?_) (fun _ => ?_)
      · skip
        exact (w_f11_goes_15_L125 (cf_tr (by decide : cf_sub f11_goes_15_L125_w f11_goes_15_L29_w = true) hs) ih hM)
      · skip
        refine cp_ite (fun _ => ?_) (fun _ => ?_)
        · skip
          exact (w_f11_goes_15_L75 (cf_tr (by decide : cf_sub f11_goes_15_L75_w f11_goes_15_L29_w = true) hs) ih hM)
        · skip
          refine cp_ite (fun _ => ?_) (fun _ => ?_)
          · skip
            exact (w_f11_goes_15_L75 (cf_tr (by decide : cf_sub f11_goes_15_L75_w f11_goes_15_L29_w = true) hs) ih hM)
          · skip
            exact (w_f11_goes_15_L125 (cf_tr (by decide : cf_sub f11_goes_15_L125_w f11_goes_15_L29_w = true) hs) ih hM)

def f11_goes_15_L14_w : List (Nat × Option Nat) := [(70, none), (71, none)]
theorem w_f11_goes_15_L14 {ws : List (Nat × Option Nat)} {M0 M : cd_M} {a1 : Int32} {s0 : Int32} (hs : cf_sub f11_goes_15_L14_w ws = true) (hM : cf_ ws M0 M) : cp (f11_goes_15_L14 a1 s0 M) (cf_ ws M0) := by
  unfold f11_goes_15_L14
  exact (w_f11_goes_15_L29 (cf_tr (by decide : cf_sub f11_goes_15_L29_w f11_goes_15_L14_w = true) hs) _ _ _ _ _ _ _ _ hM)

def f11_goes_15_w : List (Nat × Option Nat) := [(70, none), (71, none)]
theorem w_f11_goes_15 {ws : List (Nat × Option Nat)} {M0 M : cd_M} {a1 : Int32} {a2 : Int32} (hs : cf_sub f11_goes_15_w ws = true) (hM : cf_ ws M0 M) : cp (f11_goes_15 a1 a2 M) (cf_ ws M0) := by
  unfold f11_goes_15
  refine cp_ite (fun _ => ?_) (fun _ => ?_)
  · skip
    exact (w_f11_goes_15_L14 (cf_tr (by decide : cf_sub f11_goes_15_L14_w f11_goes_15_w = true) hs) hM)
  · skip
    refine cp_bindX (fun v7 => ?_)
    exact (w_f11_goes_15_L14 (cf_tr (by decide : cf_sub f11_goes_15_L14_w f11_goes_15_w = true) hs) hM)

def f11_laysPath_15_L73_w : List (Nat × Option Nat) := [(15, some 36), (15, some 35)]
theorem w_f11_laysPath_15_L73 {ws : List (Nat × Option Nat)} {M0 M : cd_M} {r25 : Int32 → cd_M → Option cd_M} {a2 : Int32} {s0 : Int32} {s1 : Int32} (hs : cf_sub f11_laysPath_15_L73_w ws = true) (hr25 : ∀ (y0 : Int32) (y1 : cd_M), cf_ ws M0 y1 → cp (r25 y0 y1) (cf_ ws M0)) (hM : cf_ ws M0 M) : cp (f11_laysPath_15_L73 r25 a2 s0 s1 M) (cf_ ws M0) := by
  unfold f11_laysPath_15_L73
  refine cp_ltM (cf_wF hs (k := 15) (j := 36) (by decide) hM) (fun M7 hM7 => ?_)
  refine cp_bindX (fun v8 => ?_)
  refine cp_ltM (cf_wF hs (k := 15) (j := 35) (by decide) hM7) (fun M9 hM9 => ?_)
  refine cp_ltX (fun x10 => ?_)
  exact (hr25 _ _ hM9)

def f11_laysPath_15_L51_w : List (Nat × Option Nat) := [(70, none), (71, none), (15, some 36), (15, some 35)]
theorem w_f11_laysPath_15_L51 {ws : List (Nat × Option Nat)} {M0 M : cd_M} {r25 : Int32 → cd_M → Option cd_M} {a2 : Int32} {s0 : Int32} {s1 : Int32} (hs : cf_sub f11_laysPath_15_L51_w ws = true) (hr25 : ∀ (y0 : Int32) (y1 : cd_M), cf_ ws M0 y1 → cp (r25 y0 y1) (cf_ ws M0)) (hM : cf_ ws M0 M) : cp (f11_laysPath_15_L51 r25 a2 s0 s1 M) (cf_ ws M0) := by
  unfold f11_laysPath_15_L51
  refine cp_bindM (w_f11_goes_15 (cf_tr (by decide : cf_sub f11_goes_15_w f11_laysPath_15_L51_w = true) hs) hM) (fun M6 hM6 => ?_)
  refine cp_ite (fun _ => ?_) (fun _ => ?_)
  · skip
    refine cp_ite (fun _ => ?_) (fun _ => ?_)
    · skip
      exact (w_f11_laysPath_15_L73 (cf_tr (by decide : cf_sub f11_laysPath_15_L73_w f11_laysPath_15_L51_w = true) hs) hr25 hM6)
    · skip
      exact (w_f11_laysPath_15_L73 (cf_tr (by decide : cf_sub f11_laysPath_15_L73_w f11_laysPath_15_L51_w = true) hs) hr25 hM6)
  · skip
    exact cp_none

def f11_laysPath_15_L25_w : List (Nat × Option Nat) := [(70, none), (71, none), (15, some 36), (15, some 35)]
theorem w_f11_laysPath_15_L25 {ws : List (Nat × Option Nat)} {M0 : cd_M}  (hs : cf_sub f11_laysPath_15_L25_w ws = true) : ∀ (n : Nat) (a2 : Int32) (M : cd_M), cf_ ws M0 M → cp (f11_laysPath_15_L25 n a2 M) (cf_ ws M0) := by
  intro n
  induction n with
  | zero => intro a2 M _; exact cp_none
  | succ n ih =>
    intro a2 M hM
    unfold f11_laysPath_15_L25
    refine cp_ite (fun _ => ?_) (fun _ => ?_)
    · skip
      exact cp_some hM
    · skip
      refine cp_ite (fun _ => ?_) (fun _ => ?_)
      · skip
        exact (w_f11_laysPath_15_L51 (cf_tr (by decide : cf_sub f11_laysPath_15_L51_w f11_laysPath_15_L25_w = true) hs) ih hM)
      · skip
        refine cp_ite (fun _ => ?_) (fun _ => ?_)
        · skip
          exact (w_f11_laysPath_15_L51 (cf_tr (by decide : cf_sub f11_laysPath_15_L51_w f11_laysPath_15_L25_w = true) hs) ih hM)
        · skip
          exact cp_none

def f11_laysPath_15_w : List (Nat × Option Nat) := [(15, some 29), (67, none), (68, none), (69, none), (15, some 35), (15, some 36), (70, none), (71, none)]
theorem w_f11_laysPath_15 {ws : List (Nat × Option Nat)} {M0 M : cd_M} {a1 : Int32} (hs : cf_sub f11_laysPath_15_w ws = true) (hM : cf_ ws M0 M) : cp (f11_laysPath_15 a1 M) (cf_ ws M0) := by
  unfold f11_laysPath_15
  refine cp_ltM (cf_wF hs (k := 15) (j := 29) (by decide) hM) (fun M1 hM1 => ?_)
  refine cp_bindM (w_f11_laysCosts_15 (cf_tr (by decide : cf_sub f11_laysCosts_15_w f11_laysPath_15_w = true) hs) hM1) (fun M2 hM2 => ?_)
  refine cp_bindM (w_f11_laysRest_15 (cf_tr (by decide : cf_sub f11_laysRest_15_w f11_laysPath_15_w = true) hs) hM2) (fun M3 hM3 => ?_)
  refine cp_ltM (cf_wF hs (k := 15) (j := 35) (by decide) hM3) (fun M4 hM4 => ?_)
  refine cp_ltM (cf_wF hs (k := 15) (j := 36) (by decide) hM4) (fun M5 hM5 => ?_)
  exact (w_f11_laysPath_15_L25 (cf_tr (by decide : cf_sub f11_laysPath_15_L25_w f11_laysPath_15_w = true) hs) _ _ _ hM5)

def f11_laysGroups_15_L172_w : List (Nat × Option Nat) := [(15, some 47)]
theorem w_f11_laysGroups_15_L172 {ws : List (Nat × Option Nat)} {M0 M : cd_M} {r12 : Int32 → cd_M → Option cd_M} {a1 : Int32} {s0 : Int32} {s1 : Int32} (hs : cf_sub f11_laysGroups_15_L172_w ws = true) (hr12 : ∀ (y0 : Int32) (y1 : cd_M), cf_ ws M0 y1 → cp (r12 y0 y1) (cf_ ws M0)) (hM : cf_ ws M0 M) : cp (f11_laysGroups_15_L172 r12 a1 s0 s1 M) (cf_ ws M0) := by
  unfold f11_laysGroups_15_L172
  refine cp_ltM (cf_wF hs (k := 15) (j := 47) (by decide) hM) (fun M13 hM13 => ?_)
  refine cp_ltX (fun x14 => ?_)
  exact (hr12 _ _ hM13)

def f11_laysGroups_15_L153_w : List (Nat × Option Nat) := [(15, some 47)]
theorem w_f11_laysGroups_15_L153 {ws : List (Nat × Option Nat)} {M0 M : cd_M} {r12 : Int32 → cd_M → Option cd_M} {a1 : Int32} (hs : cf_sub f11_laysGroups_15_L153_w ws = true) (hr12 : ∀ (y0 : Int32) (y1 : cd_M), cf_ ws M0 y1 → cp (r12 y0 y1) (cf_ ws M0)) (hM : cf_ ws M0 M) : cp (f11_laysGroups_15_L153 r12 a1 M) (cf_ ws M0) := by
  unfold f11_laysGroups_15_L153
  refine cp_ite (fun _ => ?_) (fun _ => ?_)
  · skip
    refine cp_ite (fun _ => ?_) (fun _ => ?_)
    · skip
      exact (w_f11_laysGroups_15_L172 (cf_tr (by decide : cf_sub f11_laysGroups_15_L172_w f11_laysGroups_15_L153_w = true) hs) hr12 hM)
    · skip
      exact (w_f11_laysGroups_15_L172 (cf_tr (by decide : cf_sub f11_laysGroups_15_L172_w f11_laysGroups_15_L153_w = true) hs) hr12 hM)
  · skip
    exact cp_none

def f11_laysGroups_15_L128_w : List (Nat × Option Nat) := [(74, none), (15, some 47), (75, none)]
theorem w_f11_laysGroups_15_L128 {ws : List (Nat × Option Nat)} {M0 M : cd_M} {r12 : Int32 → cd_M → Option cd_M} {a1 : Int32} {a2 : Int32} {s0 : Int32} {s1 : Int32} (hs : cf_sub f11_laysGroups_15_L128_w ws = true) (hr12 : ∀ (y0 : Int32) (y1 : cd_M), cf_ ws M0 y1 → cp (r12 y0 y1) (cf_ ws M0)) (hM : cf_ ws M0 M) : cp (f11_laysGroups_15_L128 r12 a1 a2 s0 s1 M) (cf_ ws M0) := by
  unfold f11_laysGroups_15_L128
  refine cp_ite (fun _ => ?_) (fun _ => ?_)
  · skip
    refine cp_ltM (cf_wI hs (k := 74) (by decide) hM) (fun M12 hM12 => ?_)
    refine cp_ite (fun _ => ?_) (fun _ => ?_)
    · skip
      refine cp_ite (fun _ => ?_) (fun _ => ?_)
      · skip
        exact (w_f11_laysGroups_15_L153 (cf_tr (by decide : cf_sub f11_laysGroups_15_L153_w f11_laysGroups_15_L128_w = true) hs) hr12 hM12)
      · skip
        refine cp_bindX (fun v15 => ?_)
        refine cp_ite (fun _ => ?_) (fun _ => ?_)
        · skip
          refine cp_ltM (cf_wI hs (k := 75) (by decide) hM12) (fun M16 hM16 => ?_)
          exact (w_f11_laysGroups_15_L153 (cf_tr (by decide : cf_sub f11_laysGroups_15_L153_w f11_laysGroups_15_L128_w = true) hs) hr12 hM16)
        · skip
          exact cp_none
    · skip
      exact cp_none
  · skip
    exact cp_none

def f11_laysGroups_15_L87_w : List (Nat × Option Nat) := [(72, none), (74, none), (15, some 47), (75, none)]
theorem w_f11_laysGroups_15_L87 {ws : List (Nat × Option Nat)} {M0 M : cd_M} {r12 : Int32 → cd_M → Option cd_M} {a1 : Int32} (hs : cf_sub f11_laysGroups_15_L87_w ws = true) (hr12 : ∀ (y0 : Int32) (y1 : cd_M), cf_ ws M0 y1 → cp (r12 y0 y1) (cf_ ws M0)) (hM : cf_ ws M0 M) : cp (f11_laysGroups_15_L87 r12 a1 M) (cf_ ws M0) := by
  unfold f11_laysGroups_15_L87
  refine cp_ltX (fun x9 => ?_)
  refine cp_ite (fun _ => ?_) (fun _ => ?_)
  · skip
    refine cp_ltM (cf_wI hs (k := 72) (by decide) hM) (fun M10 hM10 => ?_)
    refine cp_bindX (fun v11 => ?_)
    refine cp_ite (fun _ => ?_) (fun _ => ?_)
    · skip
      refine cp_ite (fun _ => ?_) (fun _ => ?_)
      · skip
        exact (w_f11_laysGroups_15_L128 (cf_tr (by decide : cf_sub f11_laysGroups_15_L128_w f11_laysGroups_15_L87_w = true) hs) hr12 hM10)
      · skip
        exact (w_f11_laysGroups_15_L128 (cf_tr (by decide : cf_sub f11_laysGroups_15_L128_w f11_laysGroups_15_L87_w = true) hs) hr12 hM10)
    · skip
      exact cp_none
  · skip
    exact cp_none

def f11_laysGroups_15_L12_w : List (Nat × Option Nat) := [(73, none), (75, none), (76, none), (15, some 37), (72, none), (74, none), (15, some 47)]
theorem w_f11_laysGroups_15_L12 {ws : List (Nat × Option Nat)} {M0 : cd_M}  (hs : cf_sub f11_laysGroups_15_L12_w ws = true) : ∀ (n : Nat) (a1 : Int32) (M : cd_M), cf_ ws M0 M → cp (f11_laysGroups_15_L12 n a1 M) (cf_ ws M0) := by
  intro n
  induction n with
  | zero => intro a1 M _; exact cp_none
  | succ n ih =>
    intro a1 M hM
    unfold f11_laysGroups_15_L12
    refine cp_ite (fun _ => ?_) (fun _ => ?_)
    · skip
      refine cp_ite (fun _ => ?_) (fun _ => ?_)
      · skip
        refine cp_ltM (cf_wI hs (k := 73) (by decide) hM) (fun M3 hM3 => ?_)
        exact cp_some hM3
      · skip
        exact cp_none
    · skip
      refine cp_ite (fun _ => ?_) (fun _ => ?_)
      · skip
        refine cp_ite (fun _ => ?_) (fun _ => ?_)
        · skip
          refine cp_ite (fun _ => ?_) (fun _ => ?_)
          · skip
            refine cp_ltM (cf_wI hs (k := 73) (by decide) hM) (fun M4 hM4 => ?_)
            refine cp_ite (fun _ => ?_) (fun _ => ?_)
            · skip
              refine cp_ltM (cf_wI hs (k := 75) (by decide) hM4) (fun M5 hM5 => ?_)
              refine cp_ite (fun _ => ?_) (fun _ => ?_)
              · skip
                refine cp_ltM (cf_wI hs (k := 75) (by decide) hM5) (fun M6 hM6 => ?_)
                refine cp_ite (fun _ => ?_) (fun _ => ?_)
                · skip
                  refine cp_ltM (cf_wI hs (k := 76) (by decide) hM6) (fun M7 hM7 => ?_)
                  refine cp_ltM (cf_wF hs (k := 15) (j := 37) (by decide) hM7) (fun M8 hM8 => ?_)
                  exact (w_f11_laysGroups_15_L87 (cf_tr (by decide : cf_sub f11_laysGroups_15_L87_w f11_laysGroups_15_L12_w = true) hs) ih hM8)
                · skip
                  exact cp_none
              · skip
                exact cp_none
            · skip
              exact cp_none
          · skip
            exact cp_none
        · skip
          exact (w_f11_laysGroups_15_L87 (cf_tr (by decide : cf_sub f11_laysGroups_15_L87_w f11_laysGroups_15_L12_w = true) hs) ih hM)
      · skip
        exact cp_none

def f11_laysGroups_15_w : List (Nat × Option Nat) := [(15, some 37), (15, some 47), (73, none), (75, none), (76, none), (72, none), (74, none)]
theorem w_f11_laysGroups_15 {ws : List (Nat × Option Nat)} {M0 M : cd_M}  (hs : cf_sub f11_laysGroups_15_w ws = true) (hM : cf_ ws M0 M) : cp (f11_laysGroups_15 M) (cf_ ws M0) := by
  unfold f11_laysGroups_15
  refine cp_ltM (cf_wF hs (k := 15) (j := 37) (by decide) hM) (fun M1 hM1 => ?_)
  refine cp_ltM (cf_wF hs (k := 15) (j := 47) (by decide) hM1) (fun M2 hM2 => ?_)
  exact (w_f11_laysGroups_15_L12 (cf_tr (by decide : cf_sub f11_laysGroups_15_L12_w f11_laysGroups_15_w = true) hs) _ _ _ hM2)

def f11_laysFound_15_L316_w : List (Nat × Option Nat) := []
theorem w_f11_laysFound_15_L316 {ws : List (Nat × Option Nat)} {M0 M : cd_M} {r115 : Int32 → cd_M → Option cd_M} {a1 : Int32} (hs : cf_sub f11_laysFound_15_L316_w ws = true) (hr115 : ∀ (y0 : Int32) (y1 : cd_M), cf_ ws M0 y1 → cp (r115 y0 y1) (cf_ ws M0)) (hM : cf_ ws M0 M) : cp (f11_laysFound_15_L316 r115 a1 M) (cf_ ws M0) := by
  unfold f11_laysFound_15_L316
  refine cp_ltX (fun x9 => ?_)
  exact (hr115 _ _ hM)

def f11_laysFound_15_L279_w : List (Nat × Option Nat) := [(78, none), (15, some 44)]
theorem w_f11_laysFound_15_L279 {ws : List (Nat × Option Nat)} {M0 M : cd_M} {r115 : Int32 → cd_M → Option cd_M} {a1 : Int32} {a3 : Int32} {a4 : Int32} (hs : cf_sub f11_laysFound_15_L279_w ws = true) (hr115 : ∀ (y0 : Int32) (y1 : cd_M), cf_ ws M0 y1 → cp (r115 y0 y1) (cf_ ws M0)) (hM : cf_ ws M0 M) : cp (f11_laysFound_15_L279 r115 a1 a3 a4 M) (cf_ ws M0) := by
  unfold f11_laysFound_15_L279
  refine cp_ite (fun _ => ?_) (fun _ => ?_)
  · skip
    refine cp_ltM (cf_wI hs (k := 78) (by decide) hM) (fun M6 hM6 => ?_)
    refine cp_ite (fun _ => ?_) (fun _ => ?_)
    · skip
      refine cp_ltM (cf_wI hs (k := 78) (by decide) hM6) (fun M7 hM7 => ?_)
      refine cp_ltM (cf_wF hs (k := 15) (j := 44) (by decide) hM7) (fun M8 hM8 => ?_)
      exact (w_f11_laysFound_15_L316 (cf_tr (by decide : cf_sub f11_laysFound_15_L316_w f11_laysFound_15_L279_w = true) hs) hr115 hM8)
    · skip
      exact cp_none
  · skip
    exact cp_none

def f11_laysFound_15_L277_w : List (Nat × Option Nat) := [(78, none), (15, some 44)]
theorem w_f11_laysFound_15_L277 {ws : List (Nat × Option Nat)} {M0 M : cd_M} {r115 : Int32 → cd_M → Option cd_M} {a1 : Int32} {a3 : Int32} {s0 : Int32} (hs : cf_sub f11_laysFound_15_L277_w ws = true) (hr115 : ∀ (y0 : Int32) (y1 : cd_M), cf_ ws M0 y1 → cp (r115 y0 y1) (cf_ ws M0)) (hM : cf_ ws M0 M) : cp (f11_laysFound_15_L277 r115 a1 a3 s0 M) (cf_ ws M0) := by
  unfold f11_laysFound_15_L277
  exact (w_f11_laysFound_15_L279 (cf_tr (by decide : cf_sub f11_laysFound_15_L279_w f11_laysFound_15_L277_w = true) hs) hr115 hM)

def f11_laysFound_15_L261_w : List (Nat × Option Nat) := [(78, none), (15, some 44)]
theorem w_f11_laysFound_15_L261 {ws : List (Nat × Option Nat)} {M0 M : cd_M} {r115 : Int32 → cd_M → Option cd_M} {a1 : Int32} {a2 : Int32} {a5 : Int32} {s0 : Int32} (hs : cf_sub f11_laysFound_15_L261_w ws = true) (hr115 : ∀ (y0 : Int32) (y1 : cd_M), cf_ ws M0 y1 → cp (r115 y0 y1) (cf_ ws M0)) (hM : cf_ ws M0 M) : cp (f11_laysFound_15_L261 r115 a1 a2 a5 s0 M) (cf_ ws M0) := by
  unfold f11_laysFound_15_L261
  refine cp_bindX (fun v12 => ?_)
  refine cp_ite (fun _ => ?_) (fun _ => ?_)
  · skip
    exact (w_f11_laysFound_15_L277 (cf_tr (by decide : cf_sub f11_laysFound_15_L277_w f11_laysFound_15_L261_w = true) hs) hr115 hM)
  · skip
    exact (w_f11_laysFound_15_L277 (cf_tr (by decide : cf_sub f11_laysFound_15_L277_w f11_laysFound_15_L261_w = true) hs) hr115 hM)

def f11_laysFound_15_L226_w : List (Nat × Option Nat) := [(78, none), (15, some 44)]
theorem w_f11_laysFound_15_L226 {ws : List (Nat × Option Nat)} {M0 M : cd_M} {r115 : Int32 → cd_M → Option cd_M} {a1 : Int32} {a2 : Int32} {a3 : Int32} {s0 : Int32} (hs : cf_sub f11_laysFound_15_L226_w ws = true) (hr115 : ∀ (y0 : Int32) (y1 : cd_M), cf_ ws M0 y1 → cp (r115 y0 y1) (cf_ ws M0)) (hM : cf_ ws M0 M) : cp (f11_laysFound_15_L226 r115 a1 a2 a3 s0 M) (cf_ ws M0) := by
  unfold f11_laysFound_15_L226
  refine cp_ite (fun _ => ?_) (fun _ => ?_)
  · skip
    refine cp_ite (fun _ => ?_) (fun _ => ?_)
    · skip
      exact (w_f11_laysFound_15_L279 (cf_tr (by decide : cf_sub f11_laysFound_15_L279_w f11_laysFound_15_L226_w = true) hs) hr115 hM)
    · skip
      refine cp_bindX (fun v10 => ?_)
      refine cp_bindX (fun v11 => ?_)
      refine cp_ite (fun _ => ?_) (fun _ => ?_)
      · skip
        exact (w_f11_laysFound_15_L261 (cf_tr (by decide : cf_sub f11_laysFound_15_L261_w f11_laysFound_15_L226_w = true) hs) hr115 hM)
      · skip
        exact (w_f11_laysFound_15_L261 (cf_tr (by decide : cf_sub f11_laysFound_15_L261_w f11_laysFound_15_L226_w = true) hs) hr115 hM)
  · skip
    exact cp_none

def f11_laysFound_15_L198_w : List (Nat × Option Nat) := [(78, none), (15, some 44)]
theorem w_f11_laysFound_15_L198 {ws : List (Nat × Option Nat)} {M0 M : cd_M} {r115 : Int32 → cd_M → Option cd_M} {a1 : Int32} {a2 : Int32} {s0 : Int32} (hs : cf_sub f11_laysFound_15_L198_w ws = true) (hr115 : ∀ (y0 : Int32) (y1 : cd_M), cf_ ws M0 y1 → cp (r115 y0 y1) (cf_ ws M0)) (hM : cf_ ws M0 M) : cp (f11_laysFound_15_L198 r115 a1 a2 s0 M) (cf_ ws M0) := by
  unfold f11_laysFound_15_L198
  refine cp_ite (fun _ => ?_) (fun _ => ?_)
  · skip
    refine cp_ite (fun _ => ?_) (fun _ => ?_)
    · skip
      exact (w_f11_laysFound_15_L226 (cf_tr (by decide : cf_sub f11_laysFound_15_L226_w f11_laysFound_15_L198_w = true) hs) hr115 hM)
    · skip
      refine cp_ite (fun _ => ?_) (fun _ => ?_)
      · skip
        exact (w_f11_laysFound_15_L226 (cf_tr (by decide : cf_sub f11_laysFound_15_L226_w f11_laysFound_15_L198_w = true) hs) hr115 hM)
      · skip
        exact cp_none
  · skip
    exact cp_none

def f11_laysFound_15_L159_w : List (Nat × Option Nat) := [(77, none), (78, none), (15, some 44)]
theorem w_f11_laysFound_15_L159 {ws : List (Nat × Option Nat)} {M0 M : cd_M} {r115 : Int32 → cd_M → Option cd_M} {a1 : Int32} (hs : cf_sub f11_laysFound_15_L159_w ws = true) (hr115 : ∀ (y0 : Int32) (y1 : cd_M), cf_ ws M0 y1 → cp (r115 y0 y1) (cf_ ws M0)) (hM : cf_ ws M0 M) : cp (f11_laysFound_15_L159 r115 a1 M) (cf_ ws M0) := by
  unfold f11_laysFound_15_L159
  refine cp_ite (fun _ => ?_) (fun _ => ?_)
  · skip
    refine cp_ltM (cf_wI hs (k := 77) (by decide) hM) (fun M4 hM4 => ?_)
    refine cp_bindX (fun v5 => ?_)
    refine cp_ite (fun _ => ?_) (fun _ => ?_)
    · skip
      refine cp_ite (fun _ => ?_) (fun _ => ?_)
      · skip
        exact (w_f11_laysFound_15_L198 (cf_tr (by decide : cf_sub f11_laysFound_15_L198_w f11_laysFound_15_L159_w = true) hs) hr115 hM4)
      · skip
        refine cp_ite (fun _ => ?_) (fun _ => ?_)
        · skip
          exact (w_f11_laysFound_15_L198 (cf_tr (by decide : cf_sub f11_laysFound_15_L198_w f11_laysFound_15_L159_w = true) hs) hr115 hM4)
        · skip
          exact cp_none
    · skip
      exact cp_none
  · skip
    exact cp_none

def f11_laysFound_15_L115_w : List (Nat × Option Nat) := [(77, none), (78, none), (15, some 44)]
theorem w_f11_laysFound_15_L115 {ws : List (Nat × Option Nat)} {M0 : cd_M}  (hs : cf_sub f11_laysFound_15_L115_w ws = true) : ∀ (n : Nat) (a1 : Int32) (M : cd_M), cf_ ws M0 M → cp (f11_laysFound_15_L115 n a1 M) (cf_ ws M0) := by
  intro n
  induction n with
  | zero => intro a1 M _; exact cp_none
  | succ n ih =>
    intro a1 M hM
    unfold f11_laysFound_15_L115
    refine cp_ite (fun _ => ?_) (fun _ => ?_)
    · skip
      exact cp_some hM
    · skip
      refine cp_ite (fun _ => ?_) (fun _ => ?_)
      · skip
        refine cp_ite (fun _ => ?_) (fun _ => ?_)
        · skip
          exact (w_f11_laysFound_15_L159 (cf_tr (by decide : cf_sub f11_laysFound_15_L159_w f11_laysFound_15_L115_w = true) hs) ih hM)
        · skip
          refine cp_ite (fun _ => ?_) (fun _ => ?_)
          · skip
            refine cp_ite (fun _ => ?_) (fun _ => ?_)
            · skip
              exact (w_f11_laysFound_15_L159 (cf_tr (by decide : cf_sub f11_laysFound_15_L159_w f11_laysFound_15_L115_w = true) hs) ih hM)
            · skip
              refine cp_ite (fun _ => ?_) (fun _ => ?_)
              · skip
                refine cp_ite (fun _ => ?_) (fun _ => ?_)
                · skip
                  refine cp_ltM (cf_wI hs (k := 77) (by decide) hM) (fun M13 hM13 => ?_)
                  exact (w_f11_laysFound_15_L316 (cf_tr (by decide : cf_sub f11_laysFound_15_L316_w f11_laysFound_15_L115_w = true) hs) ih hM13)
                · skip
                  exact cp_none
              · skip
                exact cp_none
          · skip
            exact cp_none
      · skip
        exact cp_none

def f11_laysFound_15_L107_w : List (Nat × Option Nat) := []
theorem w_f11_laysFound_15_L107 {ws : List (Nat × Option Nat)} {M0 M : cd_M} {r55 : Int32 → cd_M → Option cd_M} {a1 : Int32} (hs : cf_sub f11_laysFound_15_L107_w ws = true) (hr55 : ∀ (y0 : Int32) (y1 : cd_M), cf_ ws M0 y1 → cp (r55 y0 y1) (cf_ ws M0)) (hM : cf_ ws M0 M) : cp (f11_laysFound_15_L107 r55 a1 M) (cf_ ws M0) := by
  unfold f11_laysFound_15_L107
  refine cp_ltX (fun x16 => ?_)
  exact (hr55 _ _ hM)

def f11_laysFound_15_L55_w : List (Nat × Option Nat) := [(77, none), (78, none), (15, some 44), (76, none), (15, some 46)]
theorem w_f11_laysFound_15_L55 {ws : List (Nat × Option Nat)} {M0 : cd_M}  (hs : cf_sub f11_laysFound_15_L55_w ws = true) : ∀ (n : Nat) (a1 : Int32) (M : cd_M), cf_ ws M0 M → cp (f11_laysFound_15_L55 n a1 M) (cf_ ws M0) := by
  intro n
  induction n with
  | zero => intro a1 M _; exact cp_none
  | succ n ih =>
    intro a1 M hM
    unfold f11_laysFound_15_L55
    refine cp_ite (fun _ => ?_) (fun _ => ?_)
    · skip
      exact (w_f11_laysFound_15_L115 (cf_tr (by decide : cf_sub f11_laysFound_15_L115_w f11_laysFound_15_L55_w = true) hs) _ _ _ hM)
    · skip
      refine cp_bindX (fun v14 => ?_)
      refine cp_ite (fun _ => ?_) (fun _ => ?_)
      · skip
        exact (w_f11_laysFound_15_L107 (cf_tr (by decide : cf_sub f11_laysFound_15_L107_w f11_laysFound_15_L55_w = true) hs) ih hM)
      · skip
        refine cp_ite (fun _ => ?_) (fun _ => ?_)
        · skip
          refine cp_ltM (cf_wI hs (k := 76) (by decide) hM) (fun M17 hM17 => ?_)
          refine cp_ite (fun _ => ?_) (fun _ => ?_)
          · skip
            refine cp_ltM (cf_wI hs (k := 76) (by decide) hM17) (fun M18 hM18 => ?_)
            refine cp_ltM (cf_wF hs (k := 15) (j := 46) (by decide) hM18) (fun M19 hM19 => ?_)
            exact (w_f11_laysFound_15_L107 (cf_tr (by decide : cf_sub f11_laysFound_15_L107_w f11_laysFound_15_L55_w = true) hs) ih hM19)
          · skip
            exact cp_none
        · skip
          exact cp_none

def f11_laysFound_15_L43_w : List (Nat × Option Nat) := [(15, some 45)]
theorem w_f11_laysFound_15_L43 {ws : List (Nat × Option Nat)} {M0 M : cd_M} {r17 : Int32 → cd_M → Option cd_M} {a1 : Int32} {s0 : Int32} {s1 : Int32} (hs : cf_sub f11_laysFound_15_L43_w ws = true) (hr17 : ∀ (y0 : Int32) (y1 : cd_M), cf_ ws M0 y1 → cp (r17 y0 y1) (cf_ ws M0)) (hM : cf_ ws M0 M) : cp (f11_laysFound_15_L43 r17 a1 s0 s1 M) (cf_ ws M0) := by
  unfold f11_laysFound_15_L43
  refine cp_ltM (cf_wF hs (k := 15) (j := 45) (by decide) hM) (fun M22 hM22 => ?_)
  refine cp_ltX (fun x23 => ?_)
  exact (hr17 _ _ hM22)

def f11_laysFound_15_L17_w : List (Nat × Option Nat) := [(77, none), (78, none), (15, some 44), (76, none), (15, some 46), (15, some 45)]
theorem w_f11_laysFound_15_L17 {ws : List (Nat × Option Nat)} {M0 : cd_M}  (hs : cf_sub f11_laysFound_15_L17_w ws = true) : ∀ (n : Nat) (a1 : Int32) (M : cd_M), cf_ ws M0 M → cp (f11_laysFound_15_L17 n a1 M) (cf_ ws M0) := by
  intro n
  induction n with
  | zero => intro a1 M _; exact cp_none
  | succ n ih =>
    intro a1 M hM
    unfold f11_laysFound_15_L17
    refine cp_ite (fun _ => ?_) (fun _ => ?_)
    · skip
      exact (w_f11_laysFound_15_L55 (cf_tr (by decide : cf_sub f11_laysFound_15_L55_w f11_laysFound_15_L17_w = true) hs) _ _ _ hM)
    · skip
      refine cp_bindX (fun v20 => ?_)
      refine cp_ite (fun _ => ?_) (fun _ => ?_)
      · skip
        exact (w_f11_laysFound_15_L43 (cf_tr (by decide : cf_sub f11_laysFound_15_L43_w f11_laysFound_15_L17_w = true) hs) ih hM)
      · skip
        exact (w_f11_laysFound_15_L43 (cf_tr (by decide : cf_sub f11_laysFound_15_L43_w f11_laysFound_15_L17_w = true) hs) ih hM)

def f11_laysFound_15_w : List (Nat × Option Nat) := [(15, some 45), (15, some 46), (15, some 44), (77, none), (78, none), (76, none)]
theorem w_f11_laysFound_15 {ws : List (Nat × Option Nat)} {M0 M : cd_M}  (hs : cf_sub f11_laysFound_15_w ws = true) (hM : cf_ ws M0 M) : cp (f11_laysFound_15 M) (cf_ ws M0) := by
  unfold f11_laysFound_15
  refine cp_ltM (cf_wF hs (k := 15) (j := 45) (by decide) hM) (fun M1 hM1 => ?_)
  refine cp_ltM (cf_wF hs (k := 15) (j := 46) (by decide) hM1) (fun M2 hM2 => ?_)
  refine cp_ltM (cf_wF hs (k := 15) (j := 44) (by decide) hM2) (fun M3 hM3 => ?_)
  exact (w_f11_laysFound_15_L17 (cf_tr (by decide : cf_sub f11_laysFound_15_L17_w f11_laysFound_15_w = true) hs) _ _ _ hM3)

def f11_laysAll_15_w : List (Nat × Option Nat) := [(15, some 29), (67, none), (68, none), (69, none), (15, some 35), (15, some 36), (70, none), (71, none), (15, some 37), (15, some 47), (73, none), (75, none), (76, none), (72, none), (74, none), (15, some 45), (15, some 46), (15, some 44), (77, none), (78, none)]
theorem w_f11_laysAll_15 {ws : List (Nat × Option Nat)} {M0 M : cd_M}  (hs : cf_sub f11_laysAll_15_w ws = true) (hM : cf_ ws M0 M) : cp (f11_laysAll_15 M) (cf_ ws M0) := by
  unfold f11_laysAll_15
  refine cp_bindM (w_f11_laysPath_15 (cf_tr (by decide : cf_sub f11_laysPath_15_w f11_laysAll_15_w = true) hs) hM) (fun M1 hM1 => ?_)
  refine cp_bindM (w_f11_laysGroups_15 (cf_tr (by decide : cf_sub f11_laysGroups_15_w f11_laysAll_15_w = true) hs) hM1) (fun M2 hM2 => ?_)
  refine cp_bindM (w_f11_laysFound_15 (cf_tr (by decide : cf_sub f11_laysFound_15_w f11_laysAll_15_w = true) hs) hM2) (fun M3 hM3 => ?_)
  exact cp_some hM3

def f11_path_15_w : List (Nat × Option Nat) := [(15, some 0), (15, some 29), (67, none), (68, none), (69, none), (15, some 35), (15, some 36), (70, none), (71, none), (15, some 37), (15, some 47), (73, none), (75, none), (76, none), (72, none), (74, none), (15, some 45), (15, some 46), (15, some 44), (77, none), (78, none)]
theorem w_f11_path_15 {ws : List (Nat × Option Nat)} {M0 M : cd_M} {a1 : Int32} {a2 : Int32} (hs : cf_sub f11_path_15_w ws = true) (hM : cf_ ws M0 M) : cp (f11_path_15 a1 a2 M) (fun r => cf_ ws M0 r.2) := by
  unfold f11_path_15
  refine cp_ltM (cf_wF hs (k := 15) (j := 0) (by decide) hM) (fun M1 hM1 => ?_)
  refine cp_ite (fun _ => ?_) (fun _ => ?_)
  · skip
    exact cp_some hM1
  · skip
    refine cp_bindM (w_f11_laysAll_15 (cf_tr (by decide : cf_sub f11_laysAll_15_w f11_path_15_w = true) hs) hM1) (fun M3 hM3 => ?_)
    refine cp_ite (fun _ => ?_) (fun _ => ?_)
    · skip
      refine cp_ite (fun _ => ?_) (fun _ => ?_)
      · skip
        exact cp_some hM3
      · skip
        exact cp_none
    · skip
      refine cp_ite (fun _ => ?_) (fun _ => ?_)
      · skip
        refine cp_ite (fun _ => ?_) (fun _ => ?_)
        · skip
          exact cp_some hM3
        · skip
          exact cp_none
      · skip
        refine cp_ite (fun _ => ?_) (fun _ => ?_)
        · skip
          refine cp_ite (fun _ => ?_) (fun _ => ?_)
          · skip
            exact cp_some hM3
          · skip
            exact cp_none
        · skip
          refine cp_ite (fun _ => ?_) (fun _ => ?_)
          · skip
            refine cp_ite (fun _ => ?_) (fun _ => ?_)
            · skip
              refine cp_ite (fun _ => ?_) (fun _ => ?_)
              · skip
                exact cp_some hM3
              · skip
                exact cp_some hM3
            · skip
              exact cp_none
          · skip
            refine cp_ite (fun _ => ?_) (fun _ => ?_)
            · skip
              refine cp_bindX (fun v4 => ?_)
              exact cp_some hM3
            · skip
              refine cp_ite (fun _ => ?_) (fun _ => ?_)
              · skip
                refine cp_ite (fun _ => ?_) (fun _ => ?_)
                · skip
                  exact cp_some hM3
                · skip
                  exact cp_none
              · skip
                refine cp_ite (fun _ => ?_) (fun _ => ?_)
                · skip
                  refine cp_ite (fun _ => ?_) (fun _ => ?_)
                  · skip
                    refine cp_ite (fun _ => ?_) (fun _ => ?_)
                    · skip
                      exact cp_some hM3
                    · skip
                      exact cp_some hM3
                  · skip
                    exact cp_none
                · skip
                  refine cp_ite (fun _ => ?_) (fun _ => ?_)
                  · skip
                    refine cp_ite (fun _ => ?_) (fun _ => ?_)
                    · skip
                      refine cp_ite (fun _ => ?_) (fun _ => ?_)
                      · skip
                        exact cp_some hM3
                      · skip
                        exact cp_none
                    · skip
                      exact cp_none
                  · skip
                    exact cp_some hM3

def f11_all_15_w : List (Nat × Option Nat) := [(15, some 0), (15, some 29), (67, none), (68, none), (69, none), (15, some 35), (15, some 36), (70, none), (71, none), (15, some 37), (15, some 47), (73, none), (75, none), (76, none), (72, none), (74, none), (15, some 45), (15, some 46), (15, some 44), (77, none), (78, none)]
theorem w_f11_all_15 {ws : List (Nat × Option Nat)} {M0 M : cd_M} {a1 : Int32} (hs : cf_sub f11_all_15_w ws = true) (hM : cf_ ws M0 M) : cp (f11_all_15 a1 M) (fun r => cf_ ws M0 r.2) := by
  unfold f11_all_15
  refine cp_ltM (cf_wF hs (k := 15) (j := 0) (by decide) hM) (fun M1 hM1 => ?_)
  refine cp_bindM (w_f11_laysAll_15 (cf_tr (by decide : cf_sub f11_laysAll_15_w f11_all_15_w = true) hs) hM1) (fun M2 hM2 => ?_)
  refine cp_ite (fun _ => ?_) (fun _ => ?_)
  · skip
    exact cp_some hM2
  · skip
    refine cp_ite (fun _ => ?_) (fun _ => ?_)
    · skip
      exact cp_some hM2
    · skip
      refine cp_ite (fun _ => ?_) (fun _ => ?_)
      · skip
        exact cp_some hM2
      · skip
        refine cp_ite (fun _ => ?_) (fun _ => ?_)
        · skip
          exact cp_some hM2
        · skip
          refine cp_ite (fun _ => ?_) (fun _ => ?_)
          · skip
            exact cp_some hM2
          · skip
            refine cp_ite (fun _ => ?_) (fun _ => ?_)
            · skip
              exact cp_some hM2
            · skip
              refine cp_ite (fun _ => ?_) (fun _ => ?_)
              · skip
                exact cp_some hM2
              · skip
                exact cp_some hM2

def f11_edit_15_L49_w : List (Nat × Option Nat) := []
theorem w_f11_edit_15_L49 {ws : List (Nat × Option Nat)} {M0 M : cd_M} {r19 : Int32 → Int32 → Int32 → cd_M → Option (Int32 × cd_M)} {a1 : Int32} {a2 : Int32} {a3 : Int32} (hs : cf_sub f11_edit_15_L49_w ws = true) (hr19 : ∀ (y0 : Int32) (y1 : Int32) (y2 : Int32) (y3 : cd_M), cf_ ws M0 y3 → cp (r19 y0 y1 y2 y3) (fun r => cf_ ws M0 r.2)) (hM : cf_ ws M0 M) : cp (f11_edit_15_L49 r19 a1 a2 a3 M) (fun r => cf_ ws M0 r.2) := by
  unfold f11_edit_15_L49
  refine cp_ltX (fun x3 => ?_)
  exact (hr19 _ _ _ _ hM)

def f11_edit_15_L19_w : List (Nat × Option Nat) := []
theorem w_f11_edit_15_L19 {ws : List (Nat × Option Nat)} {M0 : cd_M}  (hs : cf_sub f11_edit_15_L19_w ws = true) : ∀ (n : Nat) (a1 : Int32) (a2 : Int32) (a3 : Int32) (M : cd_M), cf_ ws M0 M → cp (f11_edit_15_L19 n a1 a2 a3 M) (fun r => cf_ ws M0 r.2) := by
  intro n
  induction n with
  | zero => intro a1 a2 a3 M _; exact cp_none
  | succ n ih =>
    intro a1 a2 a3 M hM
    unfold f11_edit_15_L19
    refine cp_ite (fun _ => ?_) (fun _ => ?_)
    · skip
      exact cp_some hM
    · skip
      refine cp_ite (fun _ => ?_) (fun _ => ?_)
      · skip
        refine cp_ite (fun _ => ?_) (fun _ => ?_)
        · skip
          exact (w_f11_edit_15_L49 (cf_tr (by decide : cf_sub f11_edit_15_L49_w f11_edit_15_L19_w = true) hs) ih hM)
        · skip
          refine cp_ite (fun _ => ?_) (fun _ => ?_)
          · skip
            exact cp_some hM
          · skip
            refine cp_ltX (fun x4 => ?_)
            exact (w_f11_edit_15_L49 (cf_tr (by decide : cf_sub f11_edit_15_L49_w f11_edit_15_L19_w = true) hs) ih hM)
      · skip
        exact cp_none

def f11_edit_15_w : List (Nat × Option Nat) := [(15, some 0), (15, some 29), (67, none), (68, none), (69, none), (15, some 35), (15, some 36), (70, none), (71, none), (15, some 37), (15, some 47), (73, none), (75, none), (76, none), (72, none), (74, none), (15, some 45), (15, some 46), (15, some 44), (77, none), (78, none)]
theorem w_f11_edit_15 {ws : List (Nat × Option Nat)} {M0 M : cd_M} {a1 : Int32} (hs : cf_sub f11_edit_15_w ws = true) (hM : cf_ ws M0 M) : cp (f11_edit_15 a1 M) (fun r => cf_ ws M0 r.2) := by
  unfold f11_edit_15
  refine cp_ltM (cf_wF hs (k := 15) (j := 0) (by decide) hM) (fun M1 hM1 => ?_)
  refine cp_ite (fun _ => ?_) (fun _ => ?_)
  · skip
    refine cp_bindM (w_f11_laysAll_15 (cf_tr (by decide : cf_sub f11_laysAll_15_w f11_edit_15_w = true) hs) hM1) (fun M2 hM2 => ?_)
    exact (w_f11_edit_15_L19 (cf_tr (by decide : cf_sub f11_edit_15_L19_w f11_edit_15_w = true) hs) _ _ _ _ _ hM2)
  · skip
    exact cp_some hM1

def f11_group_15_w : List (Nat × Option Nat) := [(15, some 0), (15, some 29), (67, none), (68, none), (69, none), (15, some 35), (15, some 36), (70, none), (71, none), (15, some 37), (15, some 47), (73, none), (75, none), (76, none), (72, none), (74, none), (15, some 45), (15, some 46), (15, some 44), (77, none), (78, none)]
theorem w_f11_group_15 {ws : List (Nat × Option Nat)} {M0 M : cd_M} {a1 : Int32} {a2 : Int32} (hs : cf_sub f11_group_15_w ws = true) (hM : cf_ ws M0 M) : cp (f11_group_15 a1 a2 M) (fun r => cf_ ws M0 r.2) := by
  unfold f11_group_15
  refine cp_ltM (cf_wF hs (k := 15) (j := 0) (by decide) hM) (fun M1 hM1 => ?_)
  refine cp_bindM (w_f11_laysAll_15 (cf_tr (by decide : cf_sub f11_laysAll_15_w f11_group_15_w = true) hs) hM1) (fun M2 hM2 => ?_)
  refine cp_ite (fun _ => ?_) (fun _ => ?_)
  · skip
    exact cp_some hM2
  · skip
    refine cp_ite (fun _ => ?_) (fun _ => ?_)
    · skip
      refine cp_ite (fun _ => ?_) (fun _ => ?_)
      · skip
        exact cp_some hM2
      · skip
        exact cp_none
    · skip
      refine cp_ite (fun _ => ?_) (fun _ => ?_)
      · skip
        refine cp_ite (fun _ => ?_) (fun _ => ?_)
        · skip
          refine cp_ite (fun _ => ?_) (fun _ => ?_)
          · skip
            exact cp_some hM2
          · skip
            exact cp_none
        · skip
          exact cp_none
      · skip
        refine cp_ite (fun _ => ?_) (fun _ => ?_)
        · skip
          refine cp_bindX (fun v4 => ?_)
          refine cp_ite (fun _ => ?_) (fun _ => ?_)
          · skip
            exact cp_some hM2
          · skip
            exact cp_some hM2
        · skip
          refine cp_ite (fun _ => ?_) (fun _ => ?_)
          · skip
            refine cp_ite (fun _ => ?_) (fun _ => ?_)
            · skip
              exact cp_some hM2
            · skip
              exact cp_none
          · skip
            exact cp_some hM2

def f11_found_15_w : List (Nat × Option Nat) := [(15, some 0), (15, some 29), (67, none), (68, none), (69, none), (15, some 35), (15, some 36), (70, none), (71, none), (15, some 37), (15, some 47), (73, none), (75, none), (76, none), (72, none), (74, none), (15, some 45), (15, some 46), (15, some 44), (77, none), (78, none)]
theorem w_f11_found_15 {ws : List (Nat × Option Nat)} {M0 M : cd_M} {a1 : Int32} {a2 : Int32} {a3 : Int32} (hs : cf_sub f11_found_15_w ws = true) (hM : cf_ ws M0 M) : cp (f11_found_15 a1 a2 a3 M) (fun r => cf_ ws M0 r.2) := by
  unfold f11_found_15
  refine cp_ltM (cf_wF hs (k := 15) (j := 0) (by decide) hM) (fun M1 hM1 => ?_)
  refine cp_bindM (w_f11_laysAll_15 (cf_tr (by decide : cf_sub f11_laysAll_15_w f11_found_15_w = true) hs) hM1) (fun M2 hM2 => ?_)
  refine cp_ite (fun _ => ?_) (fun _ => ?_)
  · skip
    exact cp_some hM2
  · skip
    refine cp_ite (fun _ => ?_) (fun _ => ?_)
    · skip
      exact cp_some hM2
    · skip
      refine cp_ite (fun _ => ?_) (fun _ => ?_)
      · skip
        exact cp_some hM2
      · skip
        refine cp_ite (fun _ => ?_) (fun _ => ?_)
        · skip
          refine cp_bindX (fun v6 => ?_)
          exact cp_some hM2
        · skip
          exact cp_none

def f11_known_15_L29_w : List (Nat × Option Nat) := []
theorem w_f11_known_15_L29 {ws : List (Nat × Option Nat)} {M0 : cd_M}  (hs : cf_sub f11_known_15_L29_w ws = true) : ∀ (n : Nat) (a1 : Int32) (a2 : Int32) (M : cd_M), cf_ ws M0 M → cp (f11_known_15_L29 n a1 a2 M) (fun r => cf_ ws M0 r.2) := by
  intro n
  induction n with
  | zero => intro a1 a2 M _; exact cp_none
  | succ n ih =>
    intro a1 a2 M hM
    unfold f11_known_15_L29
    refine cp_ite (fun _ => ?_) (fun _ => ?_)
    · skip
      exact cp_some hM
    · skip
      refine cp_bindX (fun v4 => ?_)
      refine cp_ite (fun _ => ?_) (fun _ => ?_)
      · skip
        refine cp_ltX (fun x6 => ?_)
        exact (ih _ _ _ hM)
      · skip
        exact cp_some hM

def f11_known_15_w : List (Nat × Option Nat) := [(15, some 0), (15, some 29), (67, none), (68, none), (69, none), (15, some 35), (15, some 36), (70, none), (71, none), (15, some 37), (15, some 47), (73, none), (75, none), (76, none), (72, none), (74, none), (15, some 45), (15, some 46), (15, some 44), (77, none), (78, none)]
theorem w_f11_known_15 {ws : List (Nat × Option Nat)} {M0 M : cd_M} {a1 : Int32} (hs : cf_sub f11_known_15_w ws = true) (hM : cf_ ws M0 M) : cp (f11_known_15 a1 M) (fun r => cf_ ws M0 r.2) := by
  unfold f11_known_15
  refine cp_ltM (cf_wF hs (k := 15) (j := 0) (by decide) hM) (fun M1 hM1 => ?_)
  refine cp_bindM (w_f11_laysAll_15 (cf_tr (by decide : cf_sub f11_laysAll_15_w f11_known_15_w = true) hs) hM1) (fun M2 hM2 => ?_)
  refine cp_ite (fun _ => ?_) (fun _ => ?_)
  · skip
    exact cp_some hM2
  · skip
    exact (w_f11_known_15_L29 (cf_tr (by decide : cf_sub f11_known_15_L29_w f11_known_15_w = true) hs) _ _ _ _ hM2)

def f11_restored_15_L125_w : List (Nat × Option Nat) := []
theorem w_f11_restored_15_L125 {ws : List (Nat × Option Nat)} {M0 M : cd_M} {r43 : Int32 → cd_M → Option (Int32 × cd_M)} {r55 : Int32 → Int32 → Int32 → cd_M → Option (Int32 × cd_M)} {a1 : Int32} {a3 : Int32} {a4 : Int32} (hs : cf_sub f11_restored_15_L125_w ws = true) (hr43 : ∀ (y0 : Int32) (y1 : cd_M), cf_ ws M0 y1 → cp (r43 y0 y1) (fun r => cf_ ws M0 r.2)) (hr55 : ∀ (y0 : Int32) (y1 : Int32) (y2 : Int32) (y3 : cd_M), cf_ ws M0 y3 → cp (r55 y0 y1 y2 y3) (fun r => cf_ ws M0 r.2)) (hM : cf_ ws M0 M) : cp (f11_restored_15_L125 r43 r55 a1 a3 a4 M) (fun r => cf_ ws M0 r.2) := by
  unfold f11_restored_15_L125
  refine cp_ltX (fun x7 => ?_)
  exact (hr55 _ _ _ _ hM)

def f11_restored_15_L55_w : List (Nat × Option Nat) := [(79, none)]
theorem w_f11_restored_15_L55 {ws : List (Nat × Option Nat)} {M0 : cd_M} {r43 : Int32 → cd_M → Option (Int32 × cd_M)} (hs : cf_sub f11_restored_15_L55_w ws = true) (hr43 : ∀ (y0 : Int32) (y1 : cd_M), cf_ ws M0 y1 → cp (r43 y0 y1) (fun r => cf_ ws M0 r.2)) : ∀ (n : Nat) (a1 : Int32) (a2 : Int32) (a3 : Int32) (M : cd_M), cf_ ws M0 M → cp (f11_restored_15_L55 r43 n a1 a2 a3 M) (fun r => cf_ ws M0 r.2) := by
  intro n
  induction n with
  | zero => intro a1 a2 a3 M _; exact cp_none
  | succ n ih =>
    intro a1 a2 a3 M hM
    unfold f11_restored_15_L55
    refine cp_ite (fun _ => ?_) (fun _ => ?_)
    · skip
      refine cp_ltX (fun x3 => ?_)
      exact (hr43 _ _ hM)
    · skip
      refine cp_ite (fun _ => ?_) (fun _ => ?_)
      · skip
        refine cp_ltX (fun x4 => ?_)
        refine cp_bindX (fun v5 => ?_)
        refine cp_ite (fun _ => ?_) (fun _ => ?_)
        · skip
          refine cp_ite (fun _ => ?_) (fun _ => ?_)
          · skip
            refine cp_ite (fun _ => ?_) (fun _ => ?_)
            · skip
              refine cp_ite (fun _ => ?_) (fun _ => ?_)
              · skip
                exact (w_f11_restored_15_L125 (cf_tr (by decide : cf_sub f11_restored_15_L125_w f11_restored_15_L55_w = true) hs) hr43 ih hM)
              · skip
                refine cp_ite (fun _ => ?_) (fun _ => ?_)
                · skip
                  refine cp_ite (fun _ => ?_) (fun _ => ?_)
                  · skip
                    refine cp_ltM (cf_wI hs (k := 79) (by decide) hM) (fun M8 hM8 => ?_)
                    exact (w_f11_restored_15_L125 (cf_tr (by decide : cf_sub f11_restored_15_L125_w f11_restored_15_L55_w = true) hs) hr43 ih hM8)
                  · skip
                    exact cp_none
                · skip
                  exact cp_none
            · skip
              exact cp_none
          · skip
            exact cp_none
        · skip
          refine cp_ite (fun _ => ?_) (fun _ => ?_)
          · skip
            refine cp_ltM (cf_wI hs (k := 79) (by decide) hM) (fun M9 hM9 => ?_)
            exact (w_f11_restored_15_L125 (cf_tr (by decide : cf_sub f11_restored_15_L125_w f11_restored_15_L55_w = true) hs) hr43 ih hM9)
          · skip
            exact cp_none
      · skip
        exact cp_none

def f11_restored_15_L43_w : List (Nat × Option Nat) := [(79, none)]
theorem w_f11_restored_15_L43 {ws : List (Nat × Option Nat)} {M0 : cd_M}  (hs : cf_sub f11_restored_15_L43_w ws = true) : ∀ (n : Nat) (a1 : Int32) (M : cd_M), cf_ ws M0 M → cp (f11_restored_15_L43 n a1 M) (fun r => cf_ ws M0 r.2) := by
  intro n
  induction n with
  | zero => intro a1 M _; exact cp_none
  | succ n ih =>
    intro a1 M hM
    unfold f11_restored_15_L43
    refine cp_ite (fun _ => ?_) (fun _ => ?_)
    · skip
      refine cp_ite (fun _ => ?_) (fun _ => ?_)
      · skip
        exact cp_some hM
      · skip
        exact cp_none
    · skip
      exact (w_f11_restored_15_L55 (cf_tr (by decide : cf_sub f11_restored_15_L55_w f11_restored_15_L43_w = true) hs) ih _ _ _ _ _ hM)
