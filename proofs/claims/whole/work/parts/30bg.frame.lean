/-! frames, by program (frgen.py) -/
def f11_restored_15_L20_w : List (Nat × Option Nat) := [(79, none)]
theorem w_f11_restored_15_L20 {ws : List (Nat × Option Nat)} {M0 : cd_M}  (hs : cf_sub f11_restored_15_L20_w ws = true) : ∀ (n : Nat) (a1 : Int32) (M : cd_M), cf_ ws M0 M → cp (f11_restored_15_L20 n a1 M) (fun r => cf_ ws M0 r.2) := by
  intro n
  induction n with
  | zero => intro a1 M _; exact cp_none
  | succ n ih =>
    intro a1 M hM
    unfold f11_restored_15_L20
    refine cp_ite (fun _ => ?_) (fun _ => ?_)
    · skip
      exact (w_f11_restored_15_L43 (cf_tr (by decide : cf_sub f11_restored_15_L43_w f11_restored_15_L20_w = true) hs) _ _ _ hM)
    · skip
      refine cp_ite (fun _ => ?_) (fun _ => ?_)
      · skip
        refine cp_ltM (cf_wI hs (k := 79) (by decide) hM) (fun M10 hM10 => ?_)
        refine cp_ltX (fun x11 => ?_)
        exact (ih _ _ hM10)
      · skip
        exact cp_none

def f11_restored_15_w : List (Nat × Option Nat) := [(15, some 0), (15, some 29), (67, none), (68, none), (69, none), (15, some 35), (15, some 36), (70, none), (71, none), (15, some 37), (15, some 47), (73, none), (75, none), (76, none), (72, none), (74, none), (15, some 45), (15, some 46), (15, some 44), (77, none), (78, none), (79, none)]
theorem w_f11_restored_15 {ws : List (Nat × Option Nat)} {M0 M : cd_M}  (hs : cf_sub f11_restored_15_w ws = true) (hM : cf_ ws M0 M) : cp (f11_restored_15 M) (fun r => cf_ ws M0 r.2) := by
  unfold f11_restored_15
  refine cp_ltM (cf_wF hs (k := 15) (j := 0) (by decide) hM) (fun M1 hM1 => ?_)
  refine cp_ite (fun _ => ?_) (fun _ => ?_)
  · skip
    exact cp_some hM1
  · skip
    refine cp_bindM (w_f11_laysAll_15 (cf_tr (by decide : cf_sub f11_laysAll_15_w f11_restored_15_w = true) hs) hM1) (fun M2 hM2 => ?_)
    exact (w_f11_restored_15_L20 (cf_tr (by decide : cf_sub f11_restored_15_L20_w f11_restored_15_w = true) hs) _ _ _ hM2)

def f11_costs__15_w : List (Nat × Option Nat) := [(15, some 0), (15, some 29), (67, none), (68, none), (69, none), (15, some 35), (15, some 36), (70, none), (71, none)]
theorem w_f11_costs__15 {ws : List (Nat × Option Nat)} {M0 M : cd_M} {a1 : Int32} (hs : cf_sub f11_costs__15_w ws = true) (hM : cf_ ws M0 M) : cp (f11_costs__15 a1 M) (fun r => cf_ ws M0 r.2) := by
  unfold f11_costs__15
  refine cp_ltM (cf_wF hs (k := 15) (j := 0) (by decide) hM) (fun M1 hM1 => ?_)
  refine cp_ite (fun _ => ?_) (fun _ => ?_)
  · skip
    exact cp_some hM1
  · skip
    refine cp_bindM (w_f11_laysPath_15 (cf_tr (by decide : cf_sub f11_laysPath_15_w f11_costs__15_w = true) hs) hM1) (fun M3 hM3 => ?_)
    exact cp_some hM3

def f11_guess_15_L86_w : List (Nat × Option Nat) := []
theorem w_f11_guess_15_L86 {ws : List (Nat × Option Nat)} {M0 M : cd_M} {r29 : Int32 → Int32 → Int32 → Int32 → Int32 → cd_M → Option (Int32 × cd_M)} {a1 : Int32} {a2 : Int32} {a3 : Int32} {a4 : Int32} {a5 : Int32} (hs : cf_sub f11_guess_15_L86_w ws = true) (hr29 : ∀ (y0 : Int32) (y1 : Int32) (y2 : Int32) (y3 : Int32) (y4 : Int32) (y5 : cd_M), cf_ ws M0 y5 → cp (r29 y0 y1 y2 y3 y4 y5) (fun r => cf_ ws M0 r.2)) (hM : cf_ ws M0 M) : cp (f11_guess_15_L86 r29 a1 a2 a3 a4 a5 M) (fun r => cf_ ws M0 r.2) := by
  unfold f11_guess_15_L86
  refine cp_ltX (fun x5 => ?_)
  exact (hr29 _ _ _ _ _ _ hM)

def f11_guess_15_L84_w : List (Nat × Option Nat) := []
theorem w_f11_guess_15_L84 {ws : List (Nat × Option Nat)} {M0 M : cd_M} {r29 : Int32 → Int32 → Int32 → Int32 → Int32 → cd_M → Option (Int32 × cd_M)} {a1 : Int32} {a2 : Int32} {a3 : Int32} {a5 : Int32} {s0 : Int32} (hs : cf_sub f11_guess_15_L84_w ws = true) (hr29 : ∀ (y0 : Int32) (y1 : Int32) (y2 : Int32) (y3 : Int32) (y4 : Int32) (y5 : cd_M), cf_ ws M0 y5 → cp (r29 y0 y1 y2 y3 y4 y5) (fun r => cf_ ws M0 r.2)) (hM : cf_ ws M0 M) : cp (f11_guess_15_L84 r29 a1 a2 a3 a5 s0 M) (fun r => cf_ ws M0 r.2) := by
  unfold f11_guess_15_L84
  exact (w_f11_guess_15_L86 (cf_tr (by decide : cf_sub f11_guess_15_L86_w f11_guess_15_L84_w = true) hs) hr29 hM)

def f11_guess_15_L59_w : List (Nat × Option Nat) := []
theorem w_f11_guess_15_L59 {ws : List (Nat × Option Nat)} {M0 M : cd_M} {r29 : Int32 → Int32 → Int32 → Int32 → Int32 → cd_M → Option (Int32 × cd_M)} {a1 : Int32} {a5 : Int32} (hs : cf_sub f11_guess_15_L59_w ws = true) (hr29 : ∀ (y0 : Int32) (y1 : Int32) (y2 : Int32) (y3 : Int32) (y4 : Int32) (y5 : cd_M), cf_ ws M0 y5 → cp (r29 y0 y1 y2 y3 y4 y5) (fun r => cf_ ws M0 r.2)) (hM : cf_ ws M0 M) : cp (f11_guess_15_L59 r29 a1 a5 M) (fun r => cf_ ws M0 r.2) := by
  unfold f11_guess_15_L59
  refine cp_ltX (fun x4 => ?_)
  refine cp_ite (fun _ => ?_) (fun _ => ?_)
  · skip
    exact (w_f11_guess_15_L84 (cf_tr (by decide : cf_sub f11_guess_15_L84_w f11_guess_15_L59_w = true) hs) hr29 hM)
  · skip
    refine cp_ite (fun _ => ?_) (fun _ => ?_)
    · skip
      exact (w_f11_guess_15_L84 (cf_tr (by decide : cf_sub f11_guess_15_L84_w f11_guess_15_L59_w = true) hs) hr29 hM)
    · skip
      exact cp_none

def f11_guess_15_L29_w : List (Nat × Option Nat) := [(15, some 29), (67, none), (68, none), (69, none), (15, some 35), (15, some 36), (70, none), (71, none)]
theorem w_f11_guess_15_L29 {ws : List (Nat × Option Nat)} {M0 : cd_M}  (hs : cf_sub f11_guess_15_L29_w ws = true) : ∀ (n : Nat) (a1 : Int32) (a2 : Int32) (a3 : Int32) (a4 : Int32) (a5 : Int32) (M : cd_M), cf_ ws M0 M → cp (f11_guess_15_L29 n a1 a2 a3 a4 a5 M) (fun r => cf_ ws M0 r.2) := by
  intro n
  induction n with
  | zero => intro a1 a2 a3 a4 a5 M _; exact cp_none
  | succ n ih =>
    intro a1 a2 a3 a4 a5 M hM
    unfold f11_guess_15_L29
    refine cp_ite (fun _ => ?_) (fun _ => ?_)
    · skip
      refine cp_ite (fun _ => ?_) (fun _ => ?_)
      · skip
        exact cp_some hM
      · skip
        refine cp_ite (fun _ => ?_) (fun _ => ?_)
        · skip
          refine cp_ite (fun _ => ?_) (fun _ => ?_)
          · skip
            exact cp_some hM
          · skip
            exact cp_some hM
        · skip
          exact cp_some hM
    · skip
      refine cp_bindM (w_f11_laysPath_15 (cf_tr (by decide : cf_sub f11_laysPath_15_w f11_guess_15_L29_w = true) hs) hM) (fun M3 hM3 => ?_)
      refine cp_ite (fun _ => ?_) (fun _ => ?_)
      · skip
        exact (w_f11_guess_15_L59 (cf_tr (by decide : cf_sub f11_guess_15_L59_w f11_guess_15_L29_w = true) hs) ih hM3)
      · skip
        refine cp_ite (fun _ => ?_) (fun _ => ?_)
        · skip
          exact (w_f11_guess_15_L59 (cf_tr (by decide : cf_sub f11_guess_15_L59_w f11_guess_15_L29_w = true) hs) ih hM3)
        · skip
          exact (w_f11_guess_15_L86 (cf_tr (by decide : cf_sub f11_guess_15_L86_w f11_guess_15_L29_w = true) hs) ih hM3)

def f11_guess_15_w : List (Nat × Option Nat) := [(15, some 0), (15, some 29), (67, none), (68, none), (69, none), (15, some 35), (15, some 36), (70, none), (71, none)]
theorem w_f11_guess_15 {ws : List (Nat × Option Nat)} {M0 M : cd_M} {a1 : Int32} (hs : cf_sub f11_guess_15_w ws = true) (hM : cf_ ws M0 M) : cp (f11_guess_15 a1 M) (fun r => cf_ ws M0 r.2) := by
  unfold f11_guess_15
  refine cp_ltM (cf_wF hs (k := 15) (j := 0) (by decide) hM) (fun M1 hM1 => ?_)
  refine cp_ite (fun _ => ?_) (fun _ => ?_)
  · skip
    exact cp_some hM1
  · skip
    exact (w_f11_guess_15_L29 (cf_tr (by decide : cf_sub f11_guess_15_L29_w f11_guess_15_w = true) hs) _ _ _ _ _ _ _ hM1)

def f11_laysAnew_15_L96_w : List (Nat × Option Nat) := []
theorem w_f11_laysAnew_15_L96 {ws : List (Nat × Option Nat)} {M0 M : cd_M} {r13 : Int32 → Int32 → Int32 → cd_M → Option cd_M} {a1 : Int32} {a2 : Int32} {a3 : Int32} (hs : cf_sub f11_laysAnew_15_L96_w ws = true) (hr13 : ∀ (y0 : Int32) (y1 : Int32) (y2 : Int32) (y3 : cd_M), cf_ ws M0 y3 → cp (r13 y0 y1 y2 y3) (cf_ ws M0)) (hM : cf_ ws M0 M) : cp (f11_laysAnew_15_L96 r13 a1 a2 a3 M) (cf_ ws M0) := by
  unfold f11_laysAnew_15_L96
  refine cp_ltX (fun x3 => ?_)
  exact (hr13 _ _ _ _ hM)

def f11_laysAnew_15_L24_w : List (Nat × Option Nat) := [(80, none), (81, none), (15, some 50)]
theorem w_f11_laysAnew_15_L24 {ws : List (Nat × Option Nat)} {M0 : cd_M} {r13 : Int32 → Int32 → Int32 → cd_M → Option cd_M} (hs : cf_sub f11_laysAnew_15_L24_w ws = true) (hr13 : ∀ (y0 : Int32) (y1 : Int32) (y2 : Int32) (y3 : cd_M), cf_ ws M0 y3 → cp (r13 y0 y1 y2 y3) (cf_ ws M0)) : ∀ (n : Nat) (a1 : Int32) (a2 : Int32) (a3 : Int32) (a4 : Int32) (M : cd_M), cf_ ws M0 M → cp (f11_laysAnew_15_L24 r13 n a1 a2 a3 a4 M) (cf_ ws M0) := by
  intro n
  induction n with
  | zero => intro a1 a2 a3 a4 M _; exact cp_none
  | succ n ih =>
    intro a1 a2 a3 a4 M hM
    unfold f11_laysAnew_15_L24
    refine cp_ite (fun _ => ?_) (fun _ => ?_)
    · skip
      refine cp_ite (fun _ => ?_) (fun _ => ?_)
      · skip
        exact cp_none
      · skip
        refine cp_ite (fun _ => ?_) (fun _ => ?_)
        · skip
          refine cp_ite (fun _ => ?_) (fun _ => ?_)
          · skip
            exact (w_f11_laysAnew_15_L96 (cf_tr (by decide : cf_sub f11_laysAnew_15_L96_w f11_laysAnew_15_L24_w = true) hs) hr13 hM)
          · skip
            refine cp_ite (fun _ => ?_) (fun _ => ?_)
            · skip
              exact (w_f11_laysAnew_15_L96 (cf_tr (by decide : cf_sub f11_laysAnew_15_L96_w f11_laysAnew_15_L24_w = true) hs) hr13 hM)
            · skip
              refine cp_ite (fun _ => ?_) (fun _ => ?_)
              · skip
                refine cp_ltM (cf_wI hs (k := 80) (by decide) hM) (fun M4 hM4 => ?_)
                refine cp_ite (fun _ => ?_) (fun _ => ?_)
                · skip
                  refine cp_ltM (cf_wI hs (k := 81) (by decide) hM4) (fun M5 hM5 => ?_)
                  refine cp_ltX (fun x6 => ?_)
                  refine cp_ltM (cf_wF hs (k := 15) (j := 50) (by decide) hM5) (fun M7 hM7 => ?_)
                  refine cp_ltX (fun x8 => ?_)
                  exact (ih _ _ _ _ _ hM7)
                · skip
                  exact cp_none
              · skip
                exact cp_none
        · skip
          exact cp_none
    · skip
      exact cp_none

def f11_laysAnew_15_L13_w : List (Nat × Option Nat) := [(80, none), (81, none), (15, some 50)]
theorem w_f11_laysAnew_15_L13 {ws : List (Nat × Option Nat)} {M0 : cd_M}  (hs : cf_sub f11_laysAnew_15_L13_w ws = true) : ∀ (n : Nat) (a1 : Int32) (a2 : Int32) (a3 : Int32) (M : cd_M), cf_ ws M0 M → cp (f11_laysAnew_15_L13 n a1 a2 a3 M) (cf_ ws M0) := by
  intro n
  induction n with
  | zero => intro a1 a2 a3 M _; exact cp_none
  | succ n ih =>
    intro a1 a2 a3 M hM
    unfold f11_laysAnew_15_L13
    refine cp_ite (fun _ => ?_) (fun _ => ?_)
    · skip
      exact cp_some hM
    · skip
      exact (w_f11_laysAnew_15_L24 (cf_tr (by decide : cf_sub f11_laysAnew_15_L24_w f11_laysAnew_15_L13_w = true) hs) ih _ _ _ _ _ _ hM)

def f11_laysAnew_15_w : List (Nat × Option Nat) := [(15, some 29), (67, none), (68, none), (69, none), (15, some 35), (15, some 36), (70, none), (71, none), (15, some 37), (15, some 47), (73, none), (75, none), (76, none), (72, none), (74, none), (15, some 45), (15, some 46), (15, some 44), (77, none), (78, none), (15, some 50), (80, none), (81, none)]
theorem w_f11_laysAnew_15 {ws : List (Nat × Option Nat)} {M0 M : cd_M} {a1 : Int32} (hs : cf_sub f11_laysAnew_15_w ws = true) (hM : cf_ ws M0 M) : cp (f11_laysAnew_15 a1 M) (cf_ ws M0) := by
  unfold f11_laysAnew_15
  refine cp_bindM (w_f11_laysAll_15 (cf_tr (by decide : cf_sub f11_laysAll_15_w f11_laysAnew_15_w = true) hs) hM) (fun M1 hM1 => ?_)
  refine cp_ltM (cf_wF hs (k := 15) (j := 50) (by decide) hM1) (fun M2 hM2 => ?_)
  exact (w_f11_laysAnew_15_L13 (cf_tr (by decide : cf_sub f11_laysAnew_15_L13_w f11_laysAnew_15_w = true) hs) _ _ _ _ _ hM2)

def f11_anew_15_w : List (Nat × Option Nat) := [(15, some 0), (15, some 29), (67, none), (68, none), (69, none), (15, some 35), (15, some 36), (70, none), (71, none), (15, some 37), (15, some 47), (73, none), (75, none), (76, none), (72, none), (74, none), (15, some 45), (15, some 46), (15, some 44), (77, none), (78, none), (15, some 50), (80, none), (81, none)]
theorem w_f11_anew_15 {ws : List (Nat × Option Nat)} {M0 M : cd_M} {a1 : Int32} {a2 : Int32} {a3 : Int32} (hs : cf_sub f11_anew_15_w ws = true) (hM : cf_ ws M0 M) : cp (f11_anew_15 a1 a2 a3 M) (fun r => cf_ ws M0 r.2) := by
  unfold f11_anew_15
  refine cp_ltM (cf_wF hs (k := 15) (j := 0) (by decide) hM) (fun M1 hM1 => ?_)
  refine cp_ite (fun _ => ?_) (fun _ => ?_)
  · skip
    exact cp_some hM1
  · skip
    refine cp_bindM (w_f11_laysAnew_15 (cf_tr (by decide : cf_sub f11_laysAnew_15_w f11_anew_15_w = true) hs) hM1) (fun M3 hM3 => ?_)
    refine cp_ite (fun _ => ?_) (fun _ => ?_)
    · skip
      exact cp_some hM3
    · skip
      refine cp_ite (fun _ => ?_) (fun _ => ?_)
      · skip
        exact cp_some hM3
      · skip
        refine cp_ite (fun _ => ?_) (fun _ => ?_)
        · skip
          refine cp_ite (fun _ => ?_) (fun _ => ?_)
          · skip
            exact cp_some hM3
          · skip
            exact cp_none
        · skip
          refine cp_ite (fun _ => ?_) (fun _ => ?_)
          · skip
            exact cp_some hM3
          · skip
            refine cp_bindX (fun v6 => ?_)
            exact cp_some hM3

def f11_isClean_15_L61_w : List (Nat × Option Nat) := []
theorem w_f11_isClean_15_L61 {ws : List (Nat × Option Nat)} {M0 : cd_M} {r35 : Int32 → cd_M → Option (Int32 × cd_M)} (hs : cf_sub f11_isClean_15_L61_w ws = true) (hr35 : ∀ (y0 : Int32) (y1 : cd_M), cf_ ws M0 y1 → cp (r35 y0 y1) (fun r => cf_ ws M0 r.2)) : ∀ (n : Nat) (a2 : Int32) (a3 : Int32) (M : cd_M), cf_ ws M0 M → cp (f11_isClean_15_L61 r35 n a2 a3 M) (fun r => cf_ ws M0 r.2) := by
  intro n
  induction n with
  | zero => intro a2 a3 M _; exact cp_none
  | succ n ih =>
    intro a2 a3 M hM
    unfold f11_isClean_15_L61
    refine cp_ite (fun _ => ?_) (fun _ => ?_)
    · skip
      refine cp_ltX (fun x5 => ?_)
      exact (hr35 _ _ hM)
    · skip
      refine cp_bindX (fun v6 => ?_)
      refine cp_bindX (fun v7 => ?_)
      refine cp_ite (fun _ => ?_) (fun _ => ?_)
      · skip
        refine cp_ltX (fun x8 => ?_)
        exact (ih _ _ _ hM)
      · skip
        exact cp_some hM

def f11_isClean_15_L35_w : List (Nat × Option Nat) := []
theorem w_f11_isClean_15_L35 {ws : List (Nat × Option Nat)} {M0 : cd_M}  (hs : cf_sub f11_isClean_15_L35_w ws = true) : ∀ (n : Nat) (a2 : Int32) (M : cd_M), cf_ ws M0 M → cp (f11_isClean_15_L35 n a2 M) (fun r => cf_ ws M0 r.2) := by
  intro n
  induction n with
  | zero => intro a2 M _; exact cp_none
  | succ n ih =>
    intro a2 M hM
    unfold f11_isClean_15_L35
    refine cp_ite (fun _ => ?_) (fun _ => ?_)
    · skip
      exact cp_some hM
    · skip
      refine cp_ite (fun _ => ?_) (fun _ => ?_)
      · skip
        refine cp_bindX (fun v4 => ?_)
        refine cp_ite (fun _ => ?_) (fun _ => ?_)
        · skip
          exact (w_f11_isClean_15_L61 (cf_tr (by decide : cf_sub f11_isClean_15_L61_w f11_isClean_15_L35_w = true) hs) ih _ _ _ _ hM)
        · skip
          exact cp_some hM
      · skip
        exact cp_none

def f11_isClean_15_w : List (Nat × Option Nat) := [(15, some 0), (15, some 29), (67, none), (68, none), (69, none), (15, some 35), (15, some 36), (70, none), (71, none), (15, some 37), (15, some 47), (73, none), (75, none), (76, none), (72, none), (74, none), (15, some 45), (15, some 46), (15, some 44), (77, none), (78, none), (15, some 50), (80, none), (81, none)]
theorem w_f11_isClean_15 {ws : List (Nat × Option Nat)} {M0 M : cd_M} {a1 : Int32} (hs : cf_sub f11_isClean_15_w ws = true) (hM : cf_ ws M0 M) : cp (f11_isClean_15 a1 M) (fun r => cf_ ws M0 r.2) := by
  unfold f11_isClean_15
  refine cp_ltM (cf_wF hs (k := 15) (j := 0) (by decide) hM) (fun M1 hM1 => ?_)
  refine cp_ite (fun _ => ?_) (fun _ => ?_)
  · skip
    exact cp_some hM1
  · skip
    refine cp_bindM (w_f11_laysAnew_15 (cf_tr (by decide : cf_sub f11_laysAnew_15_w f11_isClean_15_w = true) hs) hM1) (fun M3 hM3 => ?_)
    refine cp_ite (fun _ => ?_) (fun _ => ?_)
    · skip
      exact (w_f11_isClean_15_L35 (cf_tr (by decide : cf_sub f11_isClean_15_L35_w f11_isClean_15_w = true) hs) _ _ _ hM3)
    · skip
      exact cp_some hM3

def f11_count_15_w : List (Nat × Option Nat) := [(15, some 0)]
theorem w_f11_count_15 {ws : List (Nat × Option Nat)} {M0 M : cd_M} {a1 : Int32} (hs : cf_sub f11_count_15_w ws = true) (hM : cf_ ws M0 M) : cp (f11_count_15 a1 M) (fun r => cf_ ws M0 r.2) := by
  unfold f11_count_15
  refine cp_ltM (cf_wF hs (k := 15) (j := 0) (by decide) hM) (fun M1 hM1 => ?_)
  refine cp_ite (fun _ => ?_) (fun _ => ?_)
  · skip
    exact cp_some hM1
  · skip
    refine cp_ite (fun _ => ?_) (fun _ => ?_)
    · skip
      exact cp_some hM1
    · skip
      refine cp_ite (fun _ => ?_) (fun _ => ?_)
      · skip
        exact cp_some hM1
      · skip
        refine cp_ite (fun _ => ?_) (fun _ => ?_)
        · skip
          exact cp_some hM1
        · skip
          refine cp_ite (fun _ => ?_) (fun _ => ?_)
          · skip
            exact cp_some hM1
          · skip
            refine cp_ite (fun _ => ?_) (fun _ => ?_)
            · skip
              refine cp_ite (fun _ => ?_) (fun _ => ?_)
              · skip
                exact cp_some hM1
              · skip
                exact cp_none
            · skip
              refine cp_ite (fun _ => ?_) (fun _ => ?_)
              · skip
                refine cp_ite (fun _ => ?_) (fun _ => ?_)
                · skip
                  exact cp_some hM1
                · skip
                  exact cp_none
              · skip
                refine cp_ite (fun _ => ?_) (fun _ => ?_)
                · skip
                  refine cp_ite (fun _ => ?_) (fun _ => ?_)
                  · skip
                    exact cp_some hM1
                  · skip
                    exact cp_none
                · skip
                  refine cp_ite (fun _ => ?_) (fun _ => ?_)
                  · skip
                    refine cp_ite (fun _ => ?_) (fun _ => ?_)
                    · skip
                      exact cp_some hM1
                    · skip
                      exact cp_none
                  · skip
                    refine cp_ite (fun _ => ?_) (fun _ => ?_)
                    · skip
                      refine cp_ite (fun _ => ?_) (fun _ => ?_)
                      · skip
                        exact cp_some hM1
                      · skip
                        exact cp_none
                    · skip
                      refine cp_ite (fun _ => ?_) (fun _ => ?_)
                      · skip
                        exact cp_some hM1
                      · skip
                        refine cp_ite (fun _ => ?_) (fun _ => ?_)
                        · skip
                          exact cp_some hM1
                        · skip
                          exact cp_some hM1
