/-! frames, by program (frgen.py) -/
def f11_readsRules_15_L29_w : List (Nat × Option Nat) := [(15, some 8), (15, some 9)]
theorem w_f11_readsRules_15_L29 {ws : List (Nat × Option Nat)} {M0 M : cd_M} {s0 : Int32} (hs : cf_sub f11_readsRules_15_L29_w ws = true) (hM : cf_ ws M0 M) : cp (f11_readsRules_15_L29 s0 M) (fun r => cf_ ws M0 r.2) := by
  unfold f11_readsRules_15_L29
  refine cp_ltU (w_f11_must_15 (cf_tr (by decide : cf_sub f11_must_15_w f11_readsRules_15_L29_w = true) hs) hM) (fun v2 M1 hM1 => ?_)
  exact cp_some hM1

def f11_readsRules_15_L0_w : List (Nat × Option Nat) := [(15, some 8), (15, some 9), (63, none), (15, some 4), (15, some 5), (15, some 6), (15, some 7), (62, none), (15, some 10), (60, none), (61, none), (15, some 18)]
theorem w_f11_readsRules_15_L0 {ws : List (Nat × Option Nat)} {M0 : cd_M}  (hs : cf_sub f11_readsRules_15_L0_w ws = true) : ∀ (n : Nat) (M : cd_M), cf_ ws M0 M → cp (f11_readsRules_15_L0 n M) (fun r => cf_ ws M0 r.2) := by
  intro n
  induction n with
  | zero => intro M _; exact cp_none
  | succ n ih =>
    intro M hM
    unfold f11_readsRules_15_L0
    refine cp_ite (fun _ => ?_) (fun _ => ?_)
    · skip
      refine cp_ite (fun _ => ?_) (fun _ => ?_)
      · skip
        exact (w_f11_readsRules_15_L29 (cf_tr (by decide : cf_sub f11_readsRules_15_L29_w f11_readsRules_15_L0_w = true) hs) hM)
      · skip
        exact (w_f11_readsRules_15_L29 (cf_tr (by decide : cf_sub f11_readsRules_15_L29_w f11_readsRules_15_L0_w = true) hs) hM)
    · skip
      refine cp_bindU (w_f11_lineHere_15 (cf_tr (by decide : cf_sub f11_lineHere_15_w f11_readsRules_15_L0_w = true) hs) hM) (fun v6 M5 hM5 => ?_)
      refine cp_ite (fun _ => ?_) (fun _ => ?_)
      · skip
        exact cp_some hM5
      · skip
        exact (ih _ hM5)

def f11_readsRules_15_w : List (Nat × Option Nat) := [(15, some 8), (15, some 9), (63, none), (15, some 4), (15, some 5), (15, some 6), (15, some 7), (62, none), (15, some 10), (60, none), (61, none), (15, some 18)]
theorem w_f11_readsRules_15 {ws : List (Nat × Option Nat)} {M0 M : cd_M}  (hs : cf_sub f11_readsRules_15_w ws = true) (hM : cf_ ws M0 M) : cp (f11_readsRules_15 M) (fun r => cf_ ws M0 r.2) := by
  unfold f11_readsRules_15
  exact (w_f11_readsRules_15_L0 (cf_tr (by decide : cf_sub f11_readsRules_15_L0_w f11_readsRules_15_w = true) hs) _ _ hM)

def f11_rules_15_L134_w : List (Nat × Option Nat) := [(15, some 26), (15, some 23), (62, none)]
theorem w_f11_rules_15_L134 {ws : List (Nat × Option Nat)} {M0 : cd_M}  (hs : cf_sub f11_rules_15_L134_w ws = true) : ∀ (n : Nat) (a2 : Int32) (M : cd_M), cf_ ws M0 M → cp (f11_rules_15_L134 n a2 M) (fun r => cf_ ws M0 r.2) := by
  intro n
  induction n with
  | zero => intro a2 M _; exact cp_none
  | succ n ih =>
    intro a2 M hM
    unfold f11_rules_15_L134
    refine cp_ite (fun _ => ?_) (fun _ => ?_)
    · skip
      refine cp_ltM (cf_wF hs (k := 15) (j := 26) (by decide) hM) (fun M11 hM11 => ?_)
      refine cp_ltM (cf_wF hs (k := 15) (j := 23) (by decide) hM11) (fun M12 hM12 => ?_)
      exact cp_some hM12
    · skip
      refine cp_ite (fun _ => ?_) (fun _ => ?_)
      · skip
        refine cp_ite (fun _ => ?_) (fun _ => ?_)
        · skip
          refine cp_ltM (cf_wI hs (k := 62) (by decide) hM) (fun M13 hM13 => ?_)
          refine cp_ltX (fun x14 => ?_)
          exact (ih _ _ hM13)
        · skip
          exact cp_none
      · skip
        exact cp_none

def f11_rules_15_L105_w : List (Nat × Option Nat) := [(15, some 26), (15, some 23), (62, none), (61, none)]
theorem w_f11_rules_15_L105 {ws : List (Nat × Option Nat)} {M0 : cd_M}  (hs : cf_sub f11_rules_15_L105_w ws = true) : ∀ (n : Nat) (a2 : Int32) (M : cd_M), cf_ ws M0 M → cp (f11_rules_15_L105 n a2 M) (fun r => cf_ ws M0 r.2) := by
  intro n
  induction n with
  | zero => intro a2 M _; exact cp_none
  | succ n ih =>
    intro a2 M hM
    unfold f11_rules_15_L105
    refine cp_ite (fun _ => ?_) (fun _ => ?_)
    · skip
      exact (w_f11_rules_15_L134 (cf_tr (by decide : cf_sub f11_rules_15_L134_w f11_rules_15_L105_w = true) hs) _ _ _ hM)
    · skip
      refine cp_ite (fun _ => ?_) (fun _ => ?_)
      · skip
        refine cp_ite (fun _ => ?_) (fun _ => ?_)
        · skip
          refine cp_ltM (cf_wI hs (k := 61) (by decide) hM) (fun M15 hM15 => ?_)
          refine cp_ltX (fun x16 => ?_)
          exact (ih _ _ hM15)
        · skip
          exact cp_none
      · skip
        exact cp_none

def f11_rules_15_L78_w : List (Nat × Option Nat) := [(15, some 26), (15, some 23), (62, none), (61, none), (60, none)]
theorem w_f11_rules_15_L78 {ws : List (Nat × Option Nat)} {M0 : cd_M}  (hs : cf_sub f11_rules_15_L78_w ws = true) : ∀ (n : Nat) (a2 : Int32) (M : cd_M), cf_ ws M0 M → cp (f11_rules_15_L78 n a2 M) (fun r => cf_ ws M0 r.2) := by
  intro n
  induction n with
  | zero => intro a2 M _; exact cp_none
  | succ n ih =>
    intro a2 M hM
    unfold f11_rules_15_L78
    refine cp_ite (fun _ => ?_) (fun _ => ?_)
    · skip
      exact (w_f11_rules_15_L105 (cf_tr (by decide : cf_sub f11_rules_15_L105_w f11_rules_15_L78_w = true) hs) _ _ _ hM)
    · skip
      refine cp_ite (fun _ => ?_) (fun _ => ?_)
      · skip
        refine cp_ite (fun _ => ?_) (fun _ => ?_)
        · skip
          refine cp_ltM (cf_wI hs (k := 60) (by decide) hM) (fun M17 hM17 => ?_)
          refine cp_ltX (fun x18 => ?_)
          exact (ih _ _ hM17)
        · skip
          exact cp_none
      · skip
        exact cp_none

def f11_rules_15_L38_w : List (Nat × Option Nat) := [(15, some 8), (15, some 9), (63, none), (15, some 4), (15, some 5), (15, some 6), (15, some 7), (62, none), (15, some 10), (60, none), (61, none), (15, some 18), (15, some 17), (15, some 26), (15, some 23)]
theorem w_f11_rules_15_L38 {ws : List (Nat × Option Nat)} {M0 : cd_M}  (hs : cf_sub f11_rules_15_L38_w ws = true) : ∀ (n : Nat) (a2 : Int32) (M : cd_M), cf_ ws M0 M → cp (f11_rules_15_L38 n a2 M) (fun r => cf_ ws M0 r.2) := by
  intro n
  induction n with
  | zero => intro a2 M _; exact cp_none
  | succ n ih =>
    intro a2 M hM
    unfold f11_rules_15_L38
    refine cp_ite (fun _ => ?_) (fun _ => ?_)
    · skip
      refine cp_bindU (w_f11_readsRules_15 (cf_tr (by decide : cf_sub f11_readsRules_15_w f11_rules_15_L38_w = true) hs) hM) (fun v7 M6 hM6 => ?_)
      refine cp_ite (fun _ => ?_) (fun _ => ?_)
      · skip
        exact cp_some hM6
      · skip
        refine cp_ltM (cf_wF hs (k := 15) (j := 17) (by decide) hM6) (fun M10 hM10 => ?_)
        exact (w_f11_rules_15_L78 (cf_tr (by decide : cf_sub f11_rules_15_L78_w f11_rules_15_L38_w = true) hs) _ _ _ hM10)
    · skip
      refine cp_ite (fun _ => ?_) (fun _ => ?_)
      · skip
        refine cp_ltM (cf_wI hs (k := 63) (by decide) hM) (fun M19 hM19 => ?_)
        refine cp_ltX (fun x20 => ?_)
        exact (ih _ _ hM19)
      · skip
        exact cp_none

def f11_rules_15_w : List (Nat × Option Nat) := [(15, some 0), (15, some 2), (15, some 3), (15, some 5), (15, some 8), (15, some 4), (15, some 6), (15, some 7), (15, some 18), (62, none), (15, some 9), (63, none), (15, some 10), (60, none), (61, none), (15, some 17), (15, some 26), (15, some 23)]
theorem w_f11_rules_15 {ws : List (Nat × Option Nat)} {M0 M : cd_M} {a1 : Int32} (hs : cf_sub f11_rules_15_w ws = true) (hM : cf_ ws M0 M) : cp (f11_rules_15 a1 M) (fun r => cf_ ws M0 r.2) := by
  unfold f11_rules_15
  refine cp_ltM (cf_wF hs (k := 15) (j := 0) (by decide) hM) (fun M1 hM1 => ?_)
  refine cp_ite (fun _ => ?_) (fun _ => ?_)
  · skip
    exact cp_some hM1
  · skip
    refine cp_bindM (w_f11_begins_15 (cf_tr (by decide : cf_sub f11_begins_15_w f11_rules_15_w = true) hs) hM1) (fun M3 hM3 => ?_)
    refine cp_ltM (cf_wF hs (k := 15) (j := 18) (by decide) hM3) (fun M4 hM4 => ?_)
    refine cp_bindM (w_f11_asAtFirst_15 (cf_tr (by decide : cf_sub f11_asAtFirst_15_w f11_rules_15_w = true) hs) hM4) (fun M5 hM5 => ?_)
    exact (w_f11_rules_15_L38 (cf_tr (by decide : cf_sub f11_rules_15_L38_w f11_rules_15_w = true) hs) _ _ _ hM5)

def f11_frame_15_w : List (Nat × Option Nat) := [(15, some 0)]
theorem w_f11_frame_15 {ws : List (Nat × Option Nat)} {M0 M : cd_M} {a1 : Int32} {a2 : Int32} {a3 : Int32} (hs : cf_sub f11_frame_15_w ws = true) (hM : cf_ ws M0 M) : cp (f11_frame_15 a1 a2 a3 M) (fun r => cf_ ws M0 r.2) := by
  unfold f11_frame_15
  refine cp_ltM (cf_wF hs (k := 15) (j := 0) (by decide) hM) (fun M1 hM1 => ?_)
  refine cp_ite (fun _ => ?_) (fun _ => ?_)
  · skip
    exact cp_some hM1
  · skip
    refine cp_ite (fun _ => ?_) (fun _ => ?_)
    · skip
      exact cp_some hM1
    · skip
      refine cp_ite (fun _ => ?_) (fun _ => ?_)
      · skip
        exact cp_some hM1
      · skip
        refine cp_ite (fun _ => ?_) (fun _ => ?_)
        · skip
          exact cp_some hM1
        · skip
          exact cp_none

def f11_cadence_15_w : List (Nat × Option Nat) := [(15, some 0)]
theorem w_f11_cadence_15 {ws : List (Nat × Option Nat)} {M0 M : cd_M} {a1 : Int32} {a2 : Int32} (hs : cf_sub f11_cadence_15_w ws = true) (hM : cf_ ws M0 M) : cp (f11_cadence_15 a1 a2 M) (fun r => cf_ ws M0 r.2) := by
  unfold f11_cadence_15
  refine cp_ltM (cf_wF hs (k := 15) (j := 0) (by decide) hM) (fun M1 hM1 => ?_)
  refine cp_ite (fun _ => ?_) (fun _ => ?_)
  · skip
    exact cp_some hM1
  · skip
    refine cp_ite (fun _ => ?_) (fun _ => ?_)
    · skip
      refine cp_ite (fun _ => ?_) (fun _ => ?_)
      · skip
        exact cp_some hM1
      · skip
        exact cp_none
    · skip
      refine cp_ite (fun _ => ?_) (fun _ => ?_)
      · skip
        refine cp_ite (fun _ => ?_) (fun _ => ?_)
        · skip
          exact cp_some hM1
        · skip
          refine cp_ite (fun _ => ?_) (fun _ => ?_)
          · skip
            exact cp_some hM1
          · skip
            exact cp_none
      · skip
        exact cp_none

def f11_force_15_w : List (Nat × Option Nat) := [(15, some 0), (15, some 23)]
theorem w_f11_force_15 {ws : List (Nat × Option Nat)} {M0 M : cd_M} {a1 : Int32} (hs : cf_sub f11_force_15_w ws = true) (hM : cf_ ws M0 M) : ci_ (f11_force_15 a1 M) (fun r => cf_ ws M0 r.2) := by
  unfold f11_force_15
  refine ci_ltM (cf_wF hs (k := 15) (j := 0) (by decide) hM) (fun M1 hM1 => ?_)
  refine ci_ite (fun _ => ?_) (fun _ => ?_)
  · skip
    exact ci_some hM1
  · skip
    refine ci_ltX (fun x3 => ?_)
    refine ci_ltM (cf_wF hs (k := 15) (j := 23) (by decide) hM1) (fun M4 hM4 => ?_)
    exact ci_some hM4

def f11_keeps_15_L93_w : List (Nat × Option Nat) := [(15, some 26), (66, none)]
theorem w_f11_keeps_15_L93 {ws : List (Nat × Option Nat)} {M0 : cd_M}  (hs : cf_sub f11_keeps_15_L93_w ws = true) : ∀ (n : Nat) (a1 : Int32) (M : cd_M), cf_ ws M0 M → cp (f11_keeps_15_L93 n a1 M) (cf_ ws M0) := by
  intro n
  induction n with
  | zero => intro a1 M _; exact cp_none
  | succ n ih =>
    intro a1 M hM
    unfold f11_keeps_15_L93
    refine cp_ite (fun _ => ?_) (fun _ => ?_)
    · skip
      refine cp_ltM (cf_wF hs (k := 15) (j := 26) (by decide) hM) (fun M3 hM3 => ?_)
      exact cp_some hM3
    · skip
      refine cp_ite (fun _ => ?_) (fun _ => ?_)
      · skip
        refine cp_ite (fun _ => ?_) (fun _ => ?_)
        · skip
          refine cp_ltM (cf_wI hs (k := 66) (by decide) hM) (fun M4 hM4 => ?_)
          refine cp_ltX (fun x5 => ?_)
          exact (ih _ _ hM4)
        · skip
          exact cp_none
      · skip
        exact cp_none

def f11_keeps_15_L78_w : List (Nat × Option Nat) := [(65, none), (15, some 26), (66, none)]
theorem w_f11_keeps_15_L78 {ws : List (Nat × Option Nat)} {M0 M : cd_M}  (hs : cf_sub f11_keeps_15_L78_w ws = true) (hM : cf_ ws M0 M) : cp (f11_keeps_15_L78 M) (cf_ ws M0) := by
  unfold f11_keeps_15_L78
  refine cp_ite (fun _ => ?_) (fun _ => ?_)
  · skip
    refine cp_ltM (cf_wI hs (k := 65) (by decide) hM) (fun M2 hM2 => ?_)
    exact (w_f11_keeps_15_L93 (cf_tr (by decide : cf_sub f11_keeps_15_L93_w f11_keeps_15_L78_w = true) hs) _ _ _ hM2)
  · skip
    exact cp_none

def f11_keeps_15_L39_w : List (Nat × Option Nat) := [(15, some 26), (65, none), (66, none)]
theorem w_f11_keeps_15_L39 {ws : List (Nat × Option Nat)} {M0 : cd_M}  (hs : cf_sub f11_keeps_15_L39_w ws = true) : ∀ (n : Nat) (a1 : Int32) (M : cd_M), cf_ ws M0 M → cp (f11_keeps_15_L39 n a1 M) (cf_ ws M0) := by
  intro n
  induction n with
  | zero => intro a1 M _; exact cp_none
  | succ n ih =>
    intro a1 M hM
    unfold f11_keeps_15_L39
    refine cp_ite (fun _ => ?_) (fun _ => ?_)
    · skip
      refine cp_ltM (cf_wF hs (k := 15) (j := 26) (by decide) hM) (fun M1 hM1 => ?_)
      exact (w_f11_keeps_15_L78 (cf_tr (by decide : cf_sub f11_keeps_15_L78_w f11_keeps_15_L39_w = true) hs) hM1)
    · skip
      refine cp_ite (fun _ => ?_) (fun _ => ?_)
      · skip
        refine cp_ite (fun _ => ?_) (fun _ => ?_)
        · skip
          refine cp_ltM (cf_wI hs (k := 66) (by decide) hM) (fun M6 hM6 => ?_)
          refine cp_ltX (fun x7 => ?_)
          exact (ih _ _ hM6)
        · skip
          exact cp_none
      · skip
        exact cp_none

def f11_keeps_15_L11_w : List (Nat × Option Nat) := [(15, some 26), (65, none), (66, none)]
theorem w_f11_keeps_15_L11 {ws : List (Nat × Option Nat)} {M0 : cd_M}  (hs : cf_sub f11_keeps_15_L11_w ws = true) : ∀ (n : Nat) (a1 : Int32) (M : cd_M), cf_ ws M0 M → cp (f11_keeps_15_L11 n a1 M) (cf_ ws M0) := by
  intro n
  induction n with
  | zero => intro a1 M _; exact cp_none
  | succ n ih =>
    intro a1 M hM
    unfold f11_keeps_15_L11
    refine cp_ite (fun _ => ?_) (fun _ => ?_)
    · skip
      exact (w_f11_keeps_15_L39 (cf_tr (by decide : cf_sub f11_keeps_15_L39_w f11_keeps_15_L11_w = true) hs) _ _ _ hM)
    · skip
      refine cp_ite (fun _ => ?_) (fun _ => ?_)
      · skip
        refine cp_ite (fun _ => ?_) (fun _ => ?_)
        · skip
          refine cp_ltM (cf_wI hs (k := 65) (by decide) hM) (fun M8 hM8 => ?_)
          refine cp_ltX (fun x9 => ?_)
          exact (ih _ _ hM8)
        · skip
          exact cp_none
      · skip
        exact cp_none

def f11_keeps_15_w : List (Nat × Option Nat) := [(15, some 26), (65, none), (66, none)]
theorem w_f11_keeps_15 {ws : List (Nat × Option Nat)} {M0 M : cd_M}  (hs : cf_sub f11_keeps_15_w ws = true) (hM : cf_ ws M0 M) : cp (f11_keeps_15 M) (cf_ ws M0) := by
  unfold f11_keeps_15
  refine cp_ite (fun _ => ?_) (fun _ => ?_)
  · skip
    exact (w_f11_keeps_15_L11 (cf_tr (by decide : cf_sub f11_keeps_15_L11_w f11_keeps_15_w = true) hs) _ _ _ hM)
  · skip
    exact (w_f11_keeps_15_L78 (cf_tr (by decide : cf_sub f11_keeps_15_L78_w f11_keeps_15_w = true) hs) hM)

def f11_carry_15_L188_w : List (Nat × Option Nat) := []
theorem w_f11_carry_15_L188 {ws : List (Nat × Option Nat)} {M0 M : cd_M} {r62 : Int32 → Int32 → Int32 → cd_M → Option (Int32 × cd_M)} {a3 : Int32} {a4 : Int32} {a5 : Int32} (hs : cf_sub f11_carry_15_L188_w ws = true) (hr62 : ∀ (y0 : Int32) (y1 : Int32) (y2 : Int32) (y3 : cd_M), cf_ ws M0 y3 → cp (r62 y0 y1 y2 y3) (fun r => cf_ ws M0 r.2)) (hM : cf_ ws M0 M) : cp (f11_carry_15_L188 r62 a3 a4 a5 M) (fun r => cf_ ws M0 r.2) := by
  unfold f11_carry_15_L188
  refine cp_ite (fun _ => ?_) (fun _ => ?_)
  · skip
    refine cp_ite (fun _ => ?_) (fun _ => ?_)
    · skip
      exact cp_none
    · skip
      refine cp_ltX (fun x6 => ?_)
      refine cp_ltX (fun x7 => ?_)
      exact (hr62 _ _ _ _ hM)
  · skip
    exact cp_none

def f11_carry_15_L105_w : List (Nat × Option Nat) := [(64, none), (15, some 24)]
theorem w_f11_carry_15_L105 {ws : List (Nat × Option Nat)} {M0 : cd_M} {r62 : Int32 → Int32 → Int32 → cd_M → Option (Int32 × cd_M)} {r74 : Int32 → Int32 → Int32 → Int32 → cd_M → Option (Int32 × cd_M)} (hs : cf_sub f11_carry_15_L105_w ws = true) (hr62 : ∀ (y0 : Int32) (y1 : Int32) (y2 : Int32) (y3 : cd_M), cf_ ws M0 y3 → cp (r62 y0 y1 y2 y3) (fun r => cf_ ws M0 r.2)) (hr74 : ∀ (y0 : Int32) (y1 : Int32) (y2 : Int32) (y3 : Int32) (y4 : cd_M), cf_ ws M0 y4 → cp (r74 y0 y1 y2 y3 y4) (fun r => cf_ ws M0 r.2)) : ∀ (n : Nat) (a3 : Int32) (a4 : Int32) (a5 : Int32) (a6 : Int32) (a7 : Int32) (M : cd_M), cf_ ws M0 M → cp (f11_carry_15_L105 r62 r74 n a3 a4 a5 a6 a7 M) (fun r => cf_ ws M0 r.2) := by
  intro n
  induction n with
  | zero => intro a3 a4 a5 a6 a7 M _; exact cp_none
  | succ n ih =>
    intro a3 a4 a5 a6 a7 M hM
    unfold f11_carry_15_L105
    refine cp_ite (fun _ => ?_) (fun _ => ?_)
    · skip
      refine cp_ite (fun _ => ?_) (fun _ => ?_)
      · skip
        refine cp_ltM (cf_wI hs (k := 64) (by decide) hM) (fun M8 hM8 => ?_)
        refine cp_ltX (fun x9 => ?_)
        refine cp_ltM (cf_wF hs (k := 15) (j := 24) (by decide) hM8) (fun M10 hM10 => ?_)
        refine cp_ltX (fun x11 => ?_)
        exact (hr74 _ _ _ _ _ hM10)
      · skip
        exact cp_none
    · skip
      refine cp_ite (fun _ => ?_) (fun _ => ?_)
      · skip
        refine cp_ite (fun _ => ?_) (fun _ => ?_)
        · skip
          refine cp_ltM (cf_wI hs (k := 64) (by decide) hM) (fun M12 hM12 => ?_)
          refine cp_ltX (fun x13 => ?_)
          exact (ih _ _ _ _ _ _ hM12)
        · skip
          exact cp_none
      · skip
        exact cp_none

def f11_carry_15_L74_w : List (Nat × Option Nat) := [(64, none), (15, some 24)]
theorem w_f11_carry_15_L74 {ws : List (Nat × Option Nat)} {M0 : cd_M} {r62 : Int32 → Int32 → Int32 → cd_M → Option (Int32 × cd_M)} (hs : cf_sub f11_carry_15_L74_w ws = true) (hr62 : ∀ (y0 : Int32) (y1 : Int32) (y2 : Int32) (y3 : cd_M), cf_ ws M0 y3 → cp (r62 y0 y1 y2 y3) (fun r => cf_ ws M0 r.2)) : ∀ (n : Nat) (a3 : Int32) (a4 : Int32) (a5 : Int32) (a6 : Int32) (M : cd_M), cf_ ws M0 M → cp (f11_carry_15_L74 r62 n a3 a4 a5 a6 M) (fun r => cf_ ws M0 r.2) := by
  intro n
  induction n with
  | zero => intro a3 a4 a5 a6 M _; exact cp_none
  | succ n ih =>
    intro a3 a4 a5 a6 M hM
    unfold f11_carry_15_L74
    refine cp_ite (fun _ => ?_) (fun _ => ?_)
    · skip
      refine cp_ite (fun _ => ?_) (fun _ => ?_)
      · skip
        exact (w_f11_carry_15_L188 (cf_tr (by decide : cf_sub f11_carry_15_L188_w f11_carry_15_L74_w = true) hs) hr62 hM)
      · skip
        refine cp_ite (fun _ => ?_) (fun _ => ?_)
        · skip
          exact (w_f11_carry_15_L188 (cf_tr (by decide : cf_sub f11_carry_15_L188_w f11_carry_15_L74_w = true) hs) hr62 hM)
        · skip
          exact (w_f11_carry_15_L105 (cf_tr (by decide : cf_sub f11_carry_15_L105_w f11_carry_15_L74_w = true) hs) hr62 ih _ _ _ _ _ _ _ hM)
    · skip
      exact cp_none

def f11_carry_15_L62_w : List (Nat × Option Nat) := [(64, none), (15, some 24)]
theorem w_f11_carry_15_L62 {ws : List (Nat × Option Nat)} {M0 : cd_M}  (hs : cf_sub f11_carry_15_L62_w ws = true) : ∀ (n : Nat) (a3 : Int32) (a4 : Int32) (a5 : Int32) (M : cd_M), cf_ ws M0 M → cp (f11_carry_15_L62 n a3 a4 a5 M) (fun r => cf_ ws M0 r.2) := by
  intro n
  induction n with
  | zero => intro a3 a4 a5 M _; exact cp_none
  | succ n ih =>
    intro a3 a4 a5 M hM
    unfold f11_carry_15_L62
    refine cp_ite (fun _ => ?_) (fun _ => ?_)
    · skip
      exact cp_some hM
    · skip
      exact (w_f11_carry_15_L74 (cf_tr (by decide : cf_sub f11_carry_15_L74_w f11_carry_15_L62_w = true) hs) ih _ _ _ _ _ _ hM)

def f11_carry_15_w : List (Nat × Option Nat) := [(15, some 0), (15, some 26), (65, none), (66, none), (15, some 24), (64, none)]
theorem w_f11_carry_15 {ws : List (Nat × Option Nat)} {M0 M : cd_M} {a1 : Int32} {a2 : Int32} (hs : cf_sub f11_carry_15_w ws = true) (hM : cf_ ws M0 M) : cp (f11_carry_15 a1 a2 M) (fun r => cf_ ws M0 r.2) := by
  unfold f11_carry_15
  refine cp_ltM (cf_wF hs (k := 15) (j := 0) (by decide) hM) (fun M1 hM1 => ?_)
  refine cp_ite (fun _ => ?_) (fun _ => ?_)
  · skip
    exact cp_some hM1
  · skip
    refine cp_ite (fun _ => ?_) (fun _ => ?_)
    · skip
      refine cp_ite (fun _ => ?_) (fun _ => ?_)
      · skip
        exact cp_some hM1
      · skip
        refine cp_ite (fun _ => ?_) (fun _ => ?_)
        · skip
          exact cp_some hM1
        · skip
          refine cp_bindM (w_f11_keeps_15 (cf_tr (by decide : cf_sub f11_keeps_15_w f11_carry_15_w = true) hs) hM1) (fun M4 hM4 => ?_)
          refine cp_ltM (cf_wF hs (k := 15) (j := 24) (by decide) hM4) (fun M5 hM5 => ?_)
          exact (w_f11_carry_15_L62 (cf_tr (by decide : cf_sub f11_carry_15_L62_w f11_carry_15_w = true) hs) _ _ _ _ _ hM5)
    · skip
      exact cp_none

def f11_copiesField_15_L2_w : List (Nat × Option Nat) := [(64, none)]
theorem w_f11_copiesField_15_L2 {ws : List (Nat × Option Nat)} {M0 : cd_M}  (hs : cf_sub f11_copiesField_15_L2_w ws = true) : ∀ (n : Nat) (a1 : Int32) (a2 : Int32) (a3 : Int32) (M : cd_M), cf_ ws M0 M → cp (f11_copiesField_15_L2 n a1 a2 a3 M) (cf_ ws M0) := by
  intro n
  induction n with
  | zero => intro a1 a2 a3 M _; exact cp_none
  | succ n ih =>
    intro a1 a2 a3 M hM
    unfold f11_copiesField_15_L2
    refine cp_ite (fun _ => ?_) (fun _ => ?_)
    · skip
      exact cp_some hM
    · skip
      refine cp_ite (fun _ => ?_) (fun _ => ?_)
      · skip
        refine cp_ite (fun _ => ?_) (fun _ => ?_)
        · skip
          refine cp_ltM (cf_wI hs (k := 64) (by decide) hM) (fun M1 hM1 => ?_)
          refine cp_ltX (fun x2 => ?_)
          exact (ih _ _ _ _ hM1)
        · skip
          exact cp_none
      · skip
        exact cp_none

def f11_copiesField_15_w : List (Nat × Option Nat) := [(64, none)]
theorem w_f11_copiesField_15 {ws : List (Nat × Option Nat)} {M0 M : cd_M} {a1 : Int32} {a2 : Int32} (hs : cf_sub f11_copiesField_15_w ws = true) (hM : cf_ ws M0 M) : cp (f11_copiesField_15 a1 a2 M) (cf_ ws M0) := by
  unfold f11_copiesField_15
  exact (w_f11_copiesField_15_L2 (cf_tr (by decide : cf_sub f11_copiesField_15_L2_w f11_copiesField_15_w = true) hs) _ _ _ _ _ hM)

def f11_cut_15_L22_w : List (Nat × Option Nat) := [(15, some 24), (64, none)]
theorem w_f11_cut_15_L22 {ws : List (Nat × Option Nat)} {M0 : cd_M}  (hs : cf_sub f11_cut_15_L22_w ws = true) : ∀ (n : Nat) (a2 : Int32) (a3 : Int32) (M : cd_M), cf_ ws M0 M → cp (f11_cut_15_L22 n a2 a3 M) (fun r => cf_ ws M0 r.2) := by
  intro n
  induction n with
  | zero => intro a2 a3 M _; exact cp_none
  | succ n ih =>
    intro a2 a3 M hM
    unfold f11_cut_15_L22
    refine cp_ite (fun _ => ?_) (fun _ => ?_)
    · skip
      refine cp_ltM (cf_wF hs (k := 15) (j := 24) (by decide) hM) (fun M4 hM4 => ?_)
      exact cp_some hM4
    · skip
      refine cp_bindM (w_f11_copiesField_15 (cf_tr (by decide : cf_sub f11_copiesField_15_w f11_cut_15_L22_w = true) hs) hM) (fun M5 hM5 => ?_)
      refine cp_ltX (fun x6 => ?_)
      exact (ih _ _ _ hM5)

def f11_cut_15_w : List (Nat × Option Nat) := [(15, some 0), (15, some 26), (65, none), (66, none), (15, some 24), (64, none)]
theorem w_f11_cut_15 {ws : List (Nat × Option Nat)} {M0 M : cd_M} {a1 : Int32} {a2 : Int32} (hs : cf_sub f11_cut_15_w ws = true) (hM : cf_ ws M0 M) : cp (f11_cut_15 a1 a2 M) (fun r => cf_ ws M0 r.2) := by
  unfold f11_cut_15
  refine cp_ltM (cf_wF hs (k := 15) (j := 0) (by decide) hM) (fun M1 hM1 => ?_)
  refine cp_ite (fun _ => ?_) (fun _ => ?_)
  · skip
    exact cp_some hM1
  · skip
    refine cp_bindM (w_f11_keeps_15 (cf_tr (by decide : cf_sub f11_keeps_15_w f11_cut_15_w = true) hs) hM1) (fun M3 hM3 => ?_)
    exact (w_f11_cut_15_L22 (cf_tr (by decide : cf_sub f11_cut_15_L22_w f11_cut_15_w = true) hs) _ _ _ _ hM3)

def f11_doubled_15_L61_w : List (Nat × Option Nat) := [(15, some 24), (64, none)]
theorem w_f11_doubled_15_L61 {ws : List (Nat × Option Nat)} {M0 : cd_M}  (hs : cf_sub f11_doubled_15_L61_w ws = true) : ∀ (n : Nat) (a1 : Int32) (a2 : Int32) (a3 : Int32) (M : cd_M), cf_ ws M0 M → cp (f11_doubled_15_L61 n a1 a2 a3 M) (fun r => cf_ ws M0 r.2) := by
  intro n
  induction n with
  | zero => intro a1 a2 a3 M _; exact cp_none
  | succ n ih =>
    intro a1 a2 a3 M hM
    unfold f11_doubled_15_L61
    refine cp_ite (fun _ => ?_) (fun _ => ?_)
    · skip
      refine cp_ltM (cf_wF hs (k := 15) (j := 24) (by decide) hM) (fun M5 hM5 => ?_)
      exact cp_some hM5
    · skip
      refine cp_bindM (w_f11_copiesField_15 (cf_tr (by decide : cf_sub f11_copiesField_15_w f11_doubled_15_L61_w = true) hs) hM) (fun M6 hM6 => ?_)
      refine cp_ltX (fun x7 => ?_)
      exact (ih _ _ _ _ hM6)

def f11_doubled_15_L38_w : List (Nat × Option Nat) := [(15, some 24), (64, none)]
theorem w_f11_doubled_15_L38 {ws : List (Nat × Option Nat)} {M0 : cd_M}  (hs : cf_sub f11_doubled_15_L38_w ws = true) : ∀ (n : Nat) (a1 : Int32) (a2 : Int32) (a3 : Int32) (M : cd_M), cf_ ws M0 M → cp (f11_doubled_15_L38 n a1 a2 a3 M) (fun r => cf_ ws M0 r.2) := by
  intro n
  induction n with
  | zero => intro a1 a2 a3 M _; exact cp_none
  | succ n ih =>
    intro a1 a2 a3 M hM
    unfold f11_doubled_15_L38
    refine cp_ite (fun _ => ?_) (fun _ => ?_)
    · skip
      exact (w_f11_doubled_15_L61 (cf_tr (by decide : cf_sub f11_doubled_15_L61_w f11_doubled_15_L38_w = true) hs) _ _ _ _ _ hM)
    · skip
      refine cp_bindM (w_f11_copiesField_15 (cf_tr (by decide : cf_sub f11_copiesField_15_w f11_doubled_15_L38_w = true) hs) hM) (fun M8 hM8 => ?_)
      refine cp_ltX (fun x9 => ?_)
      exact (ih _ _ _ _ hM8)

def f11_doubled_15_w : List (Nat × Option Nat) := [(15, some 0), (15, some 26), (65, none), (66, none), (15, some 24), (64, none)]
theorem w_f11_doubled_15 {ws : List (Nat × Option Nat)} {M0 M : cd_M} {a1 : Int32} {a2 : Int32} (hs : cf_sub f11_doubled_15_w ws = true) (hM : cf_ ws M0 M) : cp (f11_doubled_15 a1 a2 M) (fun r => cf_ ws M0 r.2) := by
  unfold f11_doubled_15
  refine cp_ltM (cf_wF hs (k := 15) (j := 0) (by decide) hM) (fun M1 hM1 => ?_)
  refine cp_ite (fun _ => ?_) (fun _ => ?_)
  · skip
    exact cp_some hM1
  · skip
    refine cp_ite (fun _ => ?_) (fun _ => ?_)
    · skip
      refine cp_bindM (w_f11_keeps_15 (cf_tr (by decide : cf_sub f11_keeps_15_w f11_doubled_15_w = true) hs) hM1) (fun M3 hM3 => ?_)
      refine cp_ltX (fun x4 => ?_)
      exact (w_f11_doubled_15_L38 (cf_tr (by decide : cf_sub f11_doubled_15_L38_w f11_doubled_15_w = true) hs) _ _ _ _ _ hM3)
    · skip
      exact cp_some hM1

def f11_noise_15_L148_w : List (Nat × Option Nat) := []
theorem w_f11_noise_15_L148 {ws : List (Nat × Option Nat)} {M0 M : cd_M} {r38 : Int32 → Int32 → Int32 → Int32 → cd_M → Option (Int32 × cd_M)} {r50 : Int32 → Int32 → Int32 → Int32 → Int32 → cd_M → Option (Int32 × cd_M)} {a2 : Int32} {a3 : Int32} {a5 : Int32} {a6 : Int32} {s0 : Int32} {s1 : Int32} (hs : cf_sub f11_noise_15_L148_w ws = true) (hr38 : ∀ (y0 : Int32) (y1 : Int32) (y2 : Int32) (y3 : Int32) (y4 : cd_M), cf_ ws M0 y4 → cp (r38 y0 y1 y2 y3 y4) (fun r => cf_ ws M0 r.2)) (hr50 : ∀ (y0 : Int32) (y1 : Int32) (y2 : Int32) (y3 : Int32) (y4 : Int32) (y5 : cd_M), cf_ ws M0 y5 → cp (r50 y0 y1 y2 y3 y4 y5) (fun r => cf_ ws M0 r.2)) (hM : cf_ ws M0 M) : cp (f11_noise_15_L148 r38 r50 a2 a3 a5 a6 s0 s1 M) (fun r => cf_ ws M0 r.2) := by
  unfold f11_noise_15_L148
  refine cp_ltX (fun x9 => ?_)
  refine cp_ltX (fun x10 => ?_)
  exact (hr50 _ _ _ _ _ _ hM)

def f11_noise_15_L117_w : List (Nat × Option Nat) := [(64, none)]
theorem w_f11_noise_15_L117 {ws : List (Nat × Option Nat)} {M0 M : cd_M} {r38 : Int32 → Int32 → Int32 → Int32 → cd_M → Option (Int32 × cd_M)} {r50 : Int32 → Int32 → Int32 → Int32 → Int32 → cd_M → Option (Int32 × cd_M)} {a2 : Int32} {a3 : Int32} {a4 : Int32} {a5 : Int32} {a6 : Int32} {a7 : Int32} {s0 : Int32} (hs : cf_sub f11_noise_15_L117_w ws = true) (hr38 : ∀ (y0 : Int32) (y1 : Int32) (y2 : Int32) (y3 : Int32) (y4 : cd_M), cf_ ws M0 y4 → cp (r38 y0 y1 y2 y3 y4) (fun r => cf_ ws M0 r.2)) (hr50 : ∀ (y0 : Int32) (y1 : Int32) (y2 : Int32) (y3 : Int32) (y4 : Int32) (y5 : cd_M), cf_ ws M0 y5 → cp (r50 y0 y1 y2 y3 y4 y5) (fun r => cf_ ws M0 r.2)) (hM : cf_ ws M0 M) : cp (f11_noise_15_L117 r38 r50 a2 a3 a4 a5 a6 a7 s0 M) (fun r => cf_ ws M0 r.2) := by
  unfold f11_noise_15_L117
  refine cp_ite (fun _ => ?_) (fun _ => ?_)
  · skip
    refine cp_ltM (cf_wI hs (k := 64) (by decide) hM) (fun M8 hM8 => ?_)
    refine cp_ite (fun _ => ?_) (fun _ => ?_)
    · skip
      exact (w_f11_noise_15_L148 (cf_tr (by decide : cf_sub f11_noise_15_L148_w f11_noise_15_L117_w = true) hs) hr38 hr50 hM8)
    · skip
      exact (w_f11_noise_15_L148 (cf_tr (by decide : cf_sub f11_noise_15_L148_w f11_noise_15_L117_w = true) hs) hr38 hr50 hM8)
  · skip
    exact cp_none

def f11_noise_15_L50_w : List (Nat × Option Nat) := [(64, none)]
theorem w_f11_noise_15_L50 {ws : List (Nat × Option Nat)} {M0 : cd_M} {r38 : Int32 → Int32 → Int32 → Int32 → cd_M → Option (Int32 × cd_M)} (hs : cf_sub f11_noise_15_L50_w ws = true) (hr38 : ∀ (y0 : Int32) (y1 : Int32) (y2 : Int32) (y3 : Int32) (y4 : cd_M), cf_ ws M0 y4 → cp (r38 y0 y1 y2 y3 y4) (fun r => cf_ ws M0 r.2)) : ∀ (n : Nat) (a2 : Int32) (a3 : Int32) (a4 : Int32) (a5 : Int32) (a6 : Int32) (M : cd_M), cf_ ws M0 M → cp (f11_noise_15_L50 r38 n a2 a3 a4 a5 a6 M) (fun r => cf_ ws M0 r.2) := by
  intro n
  induction n with
  | zero => intro a2 a3 a4 a5 a6 M _; exact cp_none
  | succ n ih =>
    intro a2 a3 a4 a5 a6 M hM
    unfold f11_noise_15_L50
    refine cp_ite (fun _ => ?_) (fun _ => ?_)
    · skip
      refine cp_ltX (fun x4 => ?_)
      exact (hr38 _ _ _ _ _ hM)
    · skip
      refine cp_ltX (fun x5 => ?_)
      refine cp_bindX (fun v6 => ?_)
      refine cp_ite (fun _ => ?_) (fun _ => ?_)
      · skip
        exact cp_none
      · skip
        refine cp_ltX (fun x7 => ?_)
        refine cp_ite (fun _ => ?_) (fun _ => ?_)
        · skip
          refine cp_ite (fun _ => ?_) (fun _ => ?_)
          · skip
            exact (w_f11_noise_15_L117 (cf_tr (by decide : cf_sub f11_noise_15_L117_w f11_noise_15_L50_w = true) hs) hr38 ih hM)
          · skip
            exact (w_f11_noise_15_L117 (cf_tr (by decide : cf_sub f11_noise_15_L117_w f11_noise_15_L50_w = true) hs) hr38 ih hM)
        · skip
          exact (w_f11_noise_15_L117 (cf_tr (by decide : cf_sub f11_noise_15_L117_w f11_noise_15_L50_w = true) hs) hr38 ih hM)

def f11_noise_15_L38_w : List (Nat × Option Nat) := [(64, none)]
theorem w_f11_noise_15_L38 {ws : List (Nat × Option Nat)} {M0 : cd_M}  (hs : cf_sub f11_noise_15_L38_w ws = true) : ∀ (n : Nat) (a2 : Int32) (a3 : Int32) (a4 : Int32) (a5 : Int32) (M : cd_M), cf_ ws M0 M → cp (f11_noise_15_L38 n a2 a3 a4 a5 M) (fun r => cf_ ws M0 r.2) := by
  intro n
  induction n with
  | zero => intro a2 a3 a4 a5 M _; exact cp_none
  | succ n ih =>
    intro a2 a3 a4 a5 M hM
    unfold f11_noise_15_L38
    refine cp_ite (fun _ => ?_) (fun _ => ?_)
    · skip
      exact cp_some hM
    · skip
      exact (w_f11_noise_15_L50 (cf_tr (by decide : cf_sub f11_noise_15_L50_w f11_noise_15_L38_w = true) hs) ih _ _ _ _ _ _ _ hM)

def f11_noise_15_w : List (Nat × Option Nat) := [(15, some 0), (15, some 26), (65, none), (66, none), (64, none)]
theorem w_f11_noise_15 {ws : List (Nat × Option Nat)} {M0 M : cd_M} {a1 : Int32} {a2 : Int32} (hs : cf_sub f11_noise_15_w ws = true) (hM : cf_ ws M0 M) : cp (f11_noise_15 a1 a2 M) (fun r => cf_ ws M0 r.2) := by
  unfold f11_noise_15
  refine cp_ltM (cf_wF hs (k := 15) (j := 0) (by decide) hM) (fun M1 hM1 => ?_)
  refine cp_ite (fun _ => ?_) (fun _ => ?_)
  · skip
    exact cp_some hM1
  · skip
    refine cp_ite (fun _ => ?_) (fun _ => ?_)
    · skip
      exact cp_some hM1
    · skip
      refine cp_bindM (w_f11_keeps_15 (cf_tr (by decide : cf_sub f11_keeps_15_w f11_noise_15_w = true) hs) hM1) (fun M3 hM3 => ?_)
      exact (w_f11_noise_15_L38 (cf_tr (by decide : cf_sub f11_noise_15_L38_w f11_noise_15_w = true) hs) _ _ _ _ _ _ hM3)

def f11_set_15_w : List (Nat × Option Nat) := [(15, some 0), (15, some 26), (65, none), (66, none), (64, none)]
theorem w_f11_set_15 {ws : List (Nat × Option Nat)} {M0 M : cd_M} {a1 : Int32} {a2 : Int32} {a3 : Int32} (hs : cf_sub f11_set_15_w ws = true) (hM : cf_ ws M0 M) : cp (f11_set_15 a1 a2 a3 M) (fun r => cf_ ws M0 r.2) := by
  unfold f11_set_15
  refine cp_ltM (cf_wF hs (k := 15) (j := 0) (by decide) hM) (fun M1 hM1 => ?_)
  refine cp_ite (fun _ => ?_) (fun _ => ?_)
  · skip
    exact cp_some hM1
  · skip
    refine cp_ite (fun _ => ?_) (fun _ => ?_)
    · skip
      exact cp_some hM1
    · skip
      refine cp_ite (fun _ => ?_) (fun _ => ?_)
      · skip
        exact cp_some hM1
      · skip
        refine cp_bindM (w_f11_keeps_15 (cf_tr (by decide : cf_sub f11_keeps_15_w f11_set_15_w = true) hs) hM1) (fun M5 hM5 => ?_)
        refine cp_bindX (fun v6 => ?_)
        refine cp_ite (fun _ => ?_) (fun _ => ?_)
        · skip
          refine cp_ltM (cf_wI hs (k := 64) (by decide) hM5) (fun M7 hM7 => ?_)
          exact cp_some hM7
        · skip
          exact cp_none

def f11_undo_15_L39_w : List (Nat × Option Nat) := [(64, none)]
theorem w_f11_undo_15_L39 {ws : List (Nat × Option Nat)} {M0 : cd_M}  (hs : cf_sub f11_undo_15_L39_w ws = true) : ∀ (n : Nat) (a1 : Int32) (M : cd_M), cf_ ws M0 M → cp (f11_undo_15_L39 n a1 M) (fun r => cf_ ws M0 r.2) := by
  intro n
  induction n with
  | zero => intro a1 M _; exact cp_none
  | succ n ih =>
    intro a1 M hM
    unfold f11_undo_15_L39
    refine cp_ite (fun _ => ?_) (fun _ => ?_)
    · skip
      exact cp_some hM
    · skip
      refine cp_ite (fun _ => ?_) (fun _ => ?_)
      · skip
        refine cp_ite (fun _ => ?_) (fun _ => ?_)
        · skip
          refine cp_ltM (cf_wI hs (k := 64) (by decide) hM) (fun M4 hM4 => ?_)
          refine cp_ltX (fun x5 => ?_)
          exact (ih _ _ hM4)
        · skip
          exact cp_none
      · skip
        exact cp_none

def f11_undo_15_w : List (Nat × Option Nat) := [(15, some 0), (15, some 26), (15, some 24), (64, none)]
theorem w_f11_undo_15 {ws : List (Nat × Option Nat)} {M0 M : cd_M}  (hs : cf_sub f11_undo_15_w ws = true) (hM : cf_ ws M0 M) : cp (f11_undo_15 M) (fun r => cf_ ws M0 r.2) := by
  unfold f11_undo_15
  refine cp_ltM (cf_wF hs (k := 15) (j := 0) (by decide) hM) (fun M1 hM1 => ?_)
  refine cp_ite (fun _ => ?_) (fun _ => ?_)
  · skip
    exact cp_some hM1
  · skip
    refine cp_ltM (cf_wF hs (k := 15) (j := 26) (by decide) hM1) (fun M2 hM2 => ?_)
    refine cp_ite (fun _ => ?_) (fun _ => ?_)
    · skip
      refine cp_ltM (cf_wF hs (k := 15) (j := 24) (by decide) hM2) (fun M3 hM3 => ?_)
      exact (w_f11_undo_15_L39 (cf_tr (by decide : cf_sub f11_undo_15_L39_w f11_undo_15_w = true) hs) _ _ _ hM3)
    · skip
      exact cp_none

def f11_field_15_L32_w : List (Nat × Option Nat) := [(15, some 0)]
theorem w_f11_field_15_L32 {ws : List (Nat × Option Nat)} {M0 M : cd_M} {a1 : Int32} {a2 : Int32} {s0 : Int32} (hs : cf_sub f11_field_15_L32_w ws = true) (hM : cf_ ws M0 M) : cp (f11_field_15_L32 a1 a2 s0 M) (fun r => cf_ ws M0 r.2) := by
  unfold f11_field_15_L32
  refine cp_ltM (cf_wF hs (k := 15) (j := 0) (by decide) hM) (fun M2 hM2 => ?_)
  refine cp_ite (fun _ => ?_) (fun _ => ?_)
  · skip
    exact cp_some hM2
  · skip
    refine cp_ite (fun _ => ?_) (fun _ => ?_)
    · skip
      refine cp_bindX (fun v3 => ?_)
      exact cp_some hM2
    · skip
      refine cp_bindX (fun v4 => ?_)
      exact cp_some hM2

def f11_field_15_L31_w : List (Nat × Option Nat) := [(15, some 0)]
theorem w_f11_field_15_L31 {ws : List (Nat × Option Nat)} {M0 M : cd_M} {a1 : Int32} {a2 : Int32} (hs : cf_sub f11_field_15_L31_w ws = true) (hM : cf_ ws M0 M) : cp (f11_field_15_L31 a1 a2 M) (fun r => cf_ ws M0 r.2) := by
  unfold f11_field_15_L31
  exact (w_f11_field_15_L32 (cf_tr (by decide : cf_sub f11_field_15_L32_w f11_field_15_L31_w = true) hs) hM)

def f11_field_15_w : List (Nat × Option Nat) := [(15, some 0)]
theorem w_f11_field_15 {ws : List (Nat × Option Nat)} {M0 M : cd_M} {a1 : Int32} {a2 : Int32} (hs : cf_sub f11_field_15_w ws = true) (hM : cf_ ws M0 M) : cp (f11_field_15 a1 a2 M) (fun r => cf_ ws M0 r.2) := by
  unfold f11_field_15
  refine cp_ite (fun _ => ?_) (fun _ => ?_)
  · skip
    exact (w_f11_field_15_L31 (cf_tr (by decide : cf_sub f11_field_15_L31_w f11_field_15_w = true) hs) hM)
  · skip
    refine cp_ite (fun _ => ?_) (fun _ => ?_)
    · skip
      exact (w_f11_field_15_L31 (cf_tr (by decide : cf_sub f11_field_15_L31_w f11_field_15_w = true) hs) hM)
    · skip
      exact (w_f11_field_15_L32 (cf_tr (by decide : cf_sub f11_field_15_L32_w f11_field_15_w = true) hs) hM)

def f11_apart_15_w : List (Nat × Option Nat) := [(15, some 0)]
theorem w_f11_apart_15 {ws : List (Nat × Option Nat)} {M0 M : cd_M} {a1 : Int32} {a2 : Int32} (hs : cf_sub f11_apart_15_w ws = true) (hM : cf_ ws M0 M) : cp (f11_apart_15 a1 a2 M) (fun r => cf_ ws M0 r.2) := by
  unfold f11_apart_15
  refine cp_ltM (cf_wF hs (k := 15) (j := 0) (by decide) hM) (fun M1 hM1 => ?_)
  refine cp_ite (fun _ => ?_) (fun _ => ?_)
  · skip
    exact cp_some hM1
  · skip
    refine cp_ite (fun _ => ?_) (fun _ => ?_)
    · skip
      exact cp_some hM1
    · skip
      refine cp_bindX (fun v4 => ?_)
      exact cp_some hM1

def f11_laysCosts_15_L122_w : List (Nat × Option Nat) := [(68, none)]
theorem w_f11_laysCosts_15_L122 {ws : List (Nat × Option Nat)} {M0 M : cd_M} {r2 : Int32 → cd_M → Option cd_M} {a1 : Int32} {s0 : Int32} {s1 : Int32} (hs : cf_sub f11_laysCosts_15_L122_w ws = true) (hr2 : ∀ (y0 : Int32) (y1 : cd_M), cf_ ws M0 y1 → cp (r2 y0 y1) (cf_ ws M0)) (hM : cf_ ws M0 M) : cp (f11_laysCosts_15_L122 r2 a1 s0 s1 M) (cf_ ws M0) := by
  unfold f11_laysCosts_15_L122
  refine cp_ite (fun _ => ?_) (fun _ => ?_)
  · skip
    refine cp_ltM (cf_wI hs (k := 68) (by decide) hM) (fun M2 hM2 => ?_)
    refine cp_ltX (fun x3 => ?_)
    exact (hr2 _ _ hM2)
  · skip
    exact cp_none

def f11_laysCosts_15_L104_w : List (Nat × Option Nat) := [(68, none)]
theorem w_f11_laysCosts_15_L104 {ws : List (Nat × Option Nat)} {M0 M : cd_M} {r2 : Int32 → cd_M → Option cd_M} {a1 : Int32} {s0 : Int32} (hs : cf_sub f11_laysCosts_15_L104_w ws = true) (hr2 : ∀ (y0 : Int32) (y1 : cd_M), cf_ ws M0 y1 → cp (r2 y0 y1) (cf_ ws M0)) (hM : cf_ ws M0 M) : cp (f11_laysCosts_15_L104 r2 a1 s0 M) (cf_ ws M0) := by
  unfold f11_laysCosts_15_L104
  exact (w_f11_laysCosts_15_L122 (cf_tr (by decide : cf_sub f11_laysCosts_15_L122_w f11_laysCosts_15_L104_w = true) hs) hr2 hM)

def f11_laysCosts_15_L83_w : List (Nat × Option Nat) := [(68, none)]
theorem w_f11_laysCosts_15_L83 {ws : List (Nat × Option Nat)} {M0 M : cd_M} {r2 : Int32 → cd_M → Option cd_M} {a1 : Int32} {a2 : Int32} {s0 : Int32} (hs : cf_sub f11_laysCosts_15_L83_w ws = true) (hr2 : ∀ (y0 : Int32) (y1 : cd_M), cf_ ws M0 y1 → cp (r2 y0 y1) (cf_ ws M0)) (hM : cf_ ws M0 M) : cp (f11_laysCosts_15_L83 r2 a1 a2 s0 M) (cf_ ws M0) := by
  unfold f11_laysCosts_15_L83
  refine cp_ite (fun _ => ?_) (fun _ => ?_)
  · skip
    exact (w_f11_laysCosts_15_L104 (cf_tr (by decide : cf_sub f11_laysCosts_15_L104_w f11_laysCosts_15_L83_w = true) hs) hr2 hM)
  · skip
    refine cp_bindX (fun v4 => ?_)
    refine cp_ite (fun _ => ?_) (fun _ => ?_)
    · skip
      refine cp_ite (fun _ => ?_) (fun _ => ?_)
      · skip
        exact (w_f11_laysCosts_15_L122 (cf_tr (by decide : cf_sub f11_laysCosts_15_L122_w f11_laysCosts_15_L83_w = true) hs) hr2 hM)
      · skip
        exact (w_f11_laysCosts_15_L122 (cf_tr (by decide : cf_sub f11_laysCosts_15_L122_w f11_laysCosts_15_L83_w = true) hs) hr2 hM)
    · skip
      exact (w_f11_laysCosts_15_L104 (cf_tr (by decide : cf_sub f11_laysCosts_15_L104_w f11_laysCosts_15_L83_w = true) hs) hr2 hM)

def f11_laysCosts_15_L66_w : List (Nat × Option Nat) := [(67, none), (68, none)]
theorem w_f11_laysCosts_15_L66 {ws : List (Nat × Option Nat)} {M0 M : cd_M} {r2 : Int32 → cd_M → Option cd_M} {a1 : Int32} {a2 : Int32} {s0 : Int32} {s1 : Int32} (hs : cf_sub f11_laysCosts_15_L66_w ws = true) (hr2 : ∀ (y0 : Int32) (y1 : cd_M), cf_ ws M0 y1 → cp (r2 y0 y1) (cf_ ws M0)) (hM : cf_ ws M0 M) : cp (f11_laysCosts_15_L66 r2 a1 a2 s0 s1 M) (cf_ ws M0) := by
  unfold f11_laysCosts_15_L66
  refine cp_ite (fun _ => ?_) (fun _ => ?_)
  · skip
    refine cp_ltM (cf_wI hs (k := 67) (by decide) hM) (fun M1 hM1 => ?_)
    refine cp_ite (fun _ => ?_) (fun _ => ?_)
    · skip
      exact (w_f11_laysCosts_15_L83 (cf_tr (by decide : cf_sub f11_laysCosts_15_L83_w f11_laysCosts_15_L66_w = true) hs) hr2 hM1)
    · skip
      refine cp_bindX (fun v6 => ?_)
      exact (w_f11_laysCosts_15_L83 (cf_tr (by decide : cf_sub f11_laysCosts_15_L83_w f11_laysCosts_15_L66_w = true) hs) hr2 hM1)
  · skip
    exact cp_none

def f11_laysCosts_15_L65_w : List (Nat × Option Nat) := [(67, none), (68, none)]
theorem w_f11_laysCosts_15_L65 {ws : List (Nat × Option Nat)} {M0 M : cd_M} {r2 : Int32 → cd_M → Option cd_M} {a1 : Int32} {a2 : Int32} {s0 : Int32} (hs : cf_sub f11_laysCosts_15_L65_w ws = true) (hr2 : ∀ (y0 : Int32) (y1 : cd_M), cf_ ws M0 y1 → cp (r2 y0 y1) (cf_ ws M0)) (hM : cf_ ws M0 M) : cp (f11_laysCosts_15_L65 r2 a1 a2 s0 M) (cf_ ws M0) := by
  unfold f11_laysCosts_15_L65
  exact (w_f11_laysCosts_15_L66 (cf_tr (by decide : cf_sub f11_laysCosts_15_L66_w f11_laysCosts_15_L65_w = true) hs) hr2 hM)

def f11_laysCosts_15_L20_w : List (Nat × Option Nat) := [(67, none), (68, none)]
theorem w_f11_laysCosts_15_L20 {ws : List (Nat × Option Nat)} {M0 M : cd_M} {r2 : Int32 → cd_M → Option cd_M} {a1 : Int32} {s0 : Int32} (hs : cf_sub f11_laysCosts_15_L20_w ws = true) (hr2 : ∀ (y0 : Int32) (y1 : cd_M), cf_ ws M0 y1 → cp (r2 y0 y1) (cf_ ws M0)) (hM : cf_ ws M0 M) : cp (f11_laysCosts_15_L20 r2 a1 s0 M) (cf_ ws M0) := by
  unfold f11_laysCosts_15_L20
  refine cp_ite (fun _ => ?_) (fun _ => ?_)
  · skip
    exact (w_f11_laysCosts_15_L65 (cf_tr (by decide : cf_sub f11_laysCosts_15_L65_w f11_laysCosts_15_L20_w = true) hs) hr2 hM)
  · skip
    refine cp_bindX (fun v7 => ?_)
    refine cp_bindX (fun v8 => ?_)
    refine cp_ite (fun _ => ?_) (fun _ => ?_)
    · skip
      refine cp_bindX (fun v9 => ?_)
      refine cp_ite (fun _ => ?_) (fun _ => ?_)
      · skip
        exact (w_f11_laysCosts_15_L65 (cf_tr (by decide : cf_sub f11_laysCosts_15_L65_w f11_laysCosts_15_L20_w = true) hs) hr2 hM)
      · skip
        refine cp_ite (fun _ => ?_) (fun _ => ?_)
        · skip
          exact (w_f11_laysCosts_15_L66 (cf_tr (by decide : cf_sub f11_laysCosts_15_L66_w f11_laysCosts_15_L20_w = true) hs) hr2 hM)
        · skip
          exact cp_none
    · skip
      exact (w_f11_laysCosts_15_L65 (cf_tr (by decide : cf_sub f11_laysCosts_15_L65_w f11_laysCosts_15_L20_w = true) hs) hr2 hM)

def f11_laysCosts_15_L2_w : List (Nat × Option Nat) := [(67, none), (68, none)]
theorem w_f11_laysCosts_15_L2 {ws : List (Nat × Option Nat)} {M0 : cd_M}  (hs : cf_sub f11_laysCosts_15_L2_w ws = true) : ∀ (n : Nat) (a1 : Int32) (M : cd_M), cf_ ws M0 M → cp (f11_laysCosts_15_L2 n a1 M) (cf_ ws M0) := by
  intro n
  induction n with
  | zero => intro a1 M _; exact cp_none
  | succ n ih =>
    intro a1 M hM
    unfold f11_laysCosts_15_L2
    refine cp_ite (fun _ => ?_) (fun _ => ?_)
    · skip
      exact cp_some hM
    · skip
      refine cp_ite (fun _ => ?_) (fun _ => ?_)
      · skip
        exact (w_f11_laysCosts_15_L20 (cf_tr (by decide : cf_sub f11_laysCosts_15_L20_w f11_laysCosts_15_L2_w = true) hs) ih hM)
      · skip
        exact (w_f11_laysCosts_15_L20 (cf_tr (by decide : cf_sub f11_laysCosts_15_L20_w f11_laysCosts_15_L2_w = true) hs) ih hM)

def f11_laysCosts_15_w : List (Nat × Option Nat) := [(67, none), (68, none)]
theorem w_f11_laysCosts_15 {ws : List (Nat × Option Nat)} {M0 M : cd_M}  (hs : cf_sub f11_laysCosts_15_w ws = true) (hM : cf_ ws M0 M) : cp (f11_laysCosts_15 M) (cf_ ws M0) := by
  unfold f11_laysCosts_15
  exact (w_f11_laysCosts_15_L2 (cf_tr (by decide : cf_sub f11_laysCosts_15_L2_w f11_laysCosts_15_w = true) hs) _ _ _ hM)
