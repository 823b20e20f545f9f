/-! frames, by program (frgen.py) -/
def f7_put_2_w : List (Nat × Option Nat) := [(17, none), (2, some 1)]
theorem w_f7_put_2 {ws : List (Nat × Option Nat)} {M0 M : cd_M} {a1 : Int32} (hs : cf_sub f7_put_2_w ws = true) (hM : cf_ ws M0 M) : cp (f7_put_2 a1 M) (cf_ ws M0) := by
  unfold f7_put_2
  refine cp_ite (fun _ => ?_) (fun _ => ?_)
  · skip
    exact cp_some hM
  · skip
    refine cp_ite (fun _ => ?_) (fun _ => ?_)
    · skip
      refine cp_ltM (cf_wI hs (k := 17) (by decide) hM) (fun M1 hM1 => ?_)
      refine cp_ltM (cf_wF hs (k := 2) (j := 1) (by decide) hM1) (fun M2 hM2 => ?_)
      exact cp_some hM2
    · skip
      exact cp_none

def f10_feed_0_w : List (Nat × Option Nat) := [(17, none), (2, some 1)]
theorem w_f10_feed_0 {ws : List (Nat × Option Nat)} {M0 M : cd_M} {a1 : Int32} {a2 : Int32} {a3 : Int32} {a4 : Int32} {a5 : Int32} (hs : cf_sub f10_feed_0_w ws = true) (hM : cf_ ws M0 M) : cp (f10_feed_0 a1 a2 a3 a4 a5 M) (fun r => cf_ ws M0 r.2) := by
  unfold f10_feed_0
  refine cp_ite (fun _ => ?_) (fun _ => ?_)
  · skip
    exact cp_some hM
  · skip
    refine cp_bindM (w_f7_put_2 (cf_tr (by decide : cf_sub f7_put_2_w f10_feed_0_w = true) hs) hM) (fun M2 hM2 => ?_)
    refine cp_bindM (w_f7_put_2 (cf_tr (by decide : cf_sub f7_put_2_w f10_feed_0_w = true) hs) hM2) (fun M3 hM3 => ?_)
    refine cp_bindM (w_f7_put_2 (cf_tr (by decide : cf_sub f7_put_2_w f10_feed_0_w = true) hs) hM3) (fun M4 hM4 => ?_)
    refine cp_bindM (w_f7_put_2 (cf_tr (by decide : cf_sub f7_put_2_w f10_feed_0_w = true) hs) hM4) (fun M5 hM5 => ?_)
    refine cp_bindM (w_f7_put_2 (cf_tr (by decide : cf_sub f7_put_2_w f10_feed_0_w = true) hs) hM5) (fun M6 hM6 => ?_)
    exact cp_some hM6

def f7_passNumber_2_L98_w : List (Nat × Option Nat) := [(2, some 5)]
theorem w_f7_passNumber_2_L98 {ws : List (Nat × Option Nat)} {M0 M : cd_M} {s0 : Int32} (hs : cf_sub f7_passNumber_2_L98_w ws = true) (hM : cf_ ws M0 M) : cp (f7_passNumber_2_L98 s0 M) (cf_ ws M0) := by
  unfold f7_passNumber_2_L98
  refine cp_ltM (cf_wF hs (k := 2) (j := 5) (by decide) hM) (fun M2 hM2 => ?_)
  exact cp_some hM2

def f7_passNumber_2_L79_w : List (Nat × Option Nat) := [(2, some 5)]
theorem w_f7_passNumber_2_L79 {ws : List (Nat × Option Nat)} {M0 M : cd_M}  (hs : cf_sub f7_passNumber_2_L79_w ws = true) (hM : cf_ ws M0 M) : cp (f7_passNumber_2_L79 M) (cf_ ws M0) := by
  unfold f7_passNumber_2_L79
  refine cp_ite (fun _ => ?_) (fun _ => ?_)
  · skip
    exact (w_f7_passNumber_2_L98 (cf_tr (by decide : cf_sub f7_passNumber_2_L98_w f7_passNumber_2_L79_w = true) hs) hM)
  · skip
    exact (w_f7_passNumber_2_L98 (cf_tr (by decide : cf_sub f7_passNumber_2_L98_w f7_passNumber_2_L79_w = true) hs) hM)

def f7_passNumber_2_L66_w : List (Nat × Option Nat) := [(2, some 3)]
theorem w_f7_passNumber_2_L66 {ws : List (Nat × Option Nat)} {M0 M : cd_M} {r5 : cd_M → Option cd_M} (hs : cf_sub f7_passNumber_2_L66_w ws = true) (hr5 : ∀ (y0 : cd_M), cf_ ws M0 y0 → cp (r5 y0) (cf_ ws M0)) (hM : cf_ ws M0 M) : cp (f7_passNumber_2_L66 r5 M) (cf_ ws M0) := by
  unfold f7_passNumber_2_L66
  refine cp_ltM (cf_wF hs (k := 2) (j := 3) (by decide) hM) (fun M5 hM5 => ?_)
  exact (hr5 _ hM5)

def f7_passNumber_2_L5_w : List (Nat × Option Nat) := [(2, some 5), (2, some 3), (2, some 6)]
theorem w_f7_passNumber_2_L5 {ws : List (Nat × Option Nat)} {M0 : cd_M}  (hs : cf_sub f7_passNumber_2_L5_w ws = true) : ∀ (n : Nat) (M : cd_M), cf_ ws M0 M → cp (f7_passNumber_2_L5 n M) (cf_ ws M0) := by
  intro n
  induction n with
  | zero => intro M _; exact cp_none
  | succ n ih =>
    intro M hM
    unfold f7_passNumber_2_L5
    refine cp_ite (fun _ => ?_) (fun _ => ?_)
    · skip
      exact (w_f7_passNumber_2_L79 (cf_tr (by decide : cf_sub f7_passNumber_2_L79_w f7_passNumber_2_L5_w = true) hs) hM)
    · skip
      refine cp_bindX (fun v3 => ?_)
      refine cp_ite (fun _ => ?_) (fun _ => ?_)
      · skip
        exact (w_f7_passNumber_2_L79 (cf_tr (by decide : cf_sub f7_passNumber_2_L79_w f7_passNumber_2_L5_w = true) hs) hM)
      · skip
        refine cp_ite (fun _ => ?_) (fun _ => ?_)
        · skip
          exact (w_f7_passNumber_2_L66 (cf_tr (by decide : cf_sub f7_passNumber_2_L66_w f7_passNumber_2_L5_w = true) hs) ih hM)
        · skip
          refine cp_bindX (fun v6 => ?_)
          refine cp_ltM (cf_wF hs (k := 2) (j := 6) (by decide) hM) (fun M7 hM7 => ?_)
          exact (w_f7_passNumber_2_L66 (cf_tr (by decide : cf_sub f7_passNumber_2_L66_w f7_passNumber_2_L5_w = true) hs) ih hM7)

def f7_passNumber_2_w : List (Nat × Option Nat) := [(2, some 6), (2, some 5), (2, some 3)]
theorem w_f7_passNumber_2 {ws : List (Nat × Option Nat)} {M0 M : cd_M}  (hs : cf_sub f7_passNumber_2_w ws = true) (hM : cf_ ws M0 M) : cp (f7_passNumber_2 M) (cf_ ws M0) := by
  unfold f7_passNumber_2
  refine cp_ltM (cf_wF hs (k := 2) (j := 6) (by decide) hM) (fun M1 hM1 => ?_)
  exact (w_f7_passNumber_2_L5 (cf_tr (by decide : cf_sub f7_passNumber_2_L5_w f7_passNumber_2_w = true) hs) _ _ hM1)

def f7_passWord_2_L38_w : List (Nat × Option Nat) := [(2, some 5)]
theorem w_f7_passWord_2_L38 {ws : List (Nat × Option Nat)} {M0 M : cd_M}  (hs : cf_sub f7_passWord_2_L38_w ws = true) (hM : cf_ ws M0 M) : cp (f7_passWord_2_L38 M) (cf_ ws M0) := by
  unfold f7_passWord_2_L38
  refine cp_ltM (cf_wF hs (k := 2) (j := 5) (by decide) hM) (fun M1 hM1 => ?_)
  exact cp_some hM1

def f7_passWord_2_L0_w : List (Nat × Option Nat) := [(2, some 5), (2, some 3)]
theorem w_f7_passWord_2_L0 {ws : List (Nat × Option Nat)} {M0 : cd_M}  (hs : cf_sub f7_passWord_2_L0_w ws = true) : ∀ (n : Nat) (M : cd_M), cf_ ws M0 M → cp (f7_passWord_2_L0 n M) (cf_ ws M0) := by
  intro n
  induction n with
  | zero => intro M _; exact cp_none
  | succ n ih =>
    intro M hM
    unfold f7_passWord_2_L0
    refine cp_ite (fun _ => ?_) (fun _ => ?_)
    · skip
      exact (w_f7_passWord_2_L38 (cf_tr (by decide : cf_sub f7_passWord_2_L38_w f7_passWord_2_L0_w = true) hs) hM)
    · skip
      refine cp_bindX (fun v2 => ?_)
      refine cp_ite (fun _ => ?_) (fun _ => ?_)
      · skip
        exact (w_f7_passWord_2_L38 (cf_tr (by decide : cf_sub f7_passWord_2_L38_w f7_passWord_2_L0_w = true) hs) hM)
      · skip
        refine cp_ltM (cf_wF hs (k := 2) (j := 3) (by decide) hM) (fun M4 hM4 => ?_)
        exact (ih _ hM4)

def f7_passWord_2_w : List (Nat × Option Nat) := [(2, some 5), (2, some 3)]
theorem w_f7_passWord_2 {ws : List (Nat × Option Nat)} {M0 M : cd_M}  (hs : cf_sub f7_passWord_2_w ws = true) (hM : cf_ ws M0 M) : cp (f7_passWord_2 M) (cf_ ws M0) := by
  unfold f7_passWord_2
  exact (w_f7_passWord_2_L0 (cf_tr (by decide : cf_sub f7_passWord_2_L0_w f7_passWord_2_w = true) hs) _ _ hM)

def f7_advance_2_L112_w : List (Nat × Option Nat) := [(2, some 5), (2, some 3)]
theorem w_f7_advance_2_L112 {ws : List (Nat × Option Nat)} {M0 M : cd_M} {s0 : Int32} (hs : cf_sub f7_advance_2_L112_w ws = true) (hM : cf_ ws M0 M) : cp (f7_advance_2_L112 s0 M) (cf_ ws M0) := by
  unfold f7_advance_2_L112
  refine cp_ltM (cf_wF hs (k := 2) (j := 5) (by decide) hM) (fun M5 hM5 => ?_)
  refine cp_ltM (cf_wF hs (k := 2) (j := 3) (by decide) hM5) (fun M6 hM6 => ?_)
  exact cp_some hM6

def f7_advance_2_L38_w : List (Nat × Option Nat) := [(2, some 4), (2, some 5), (2, some 3), (2, some 6)]
theorem w_f7_advance_2_L38 {ws : List (Nat × Option Nat)} {M0 M : cd_M}  (hs : cf_sub f7_advance_2_L38_w ws = true) (hM : cf_ ws M0 M) : cp (f7_advance_2_L38 M) (cf_ ws M0) := by
  unfold f7_advance_2_L38
  refine cp_ltM (cf_wF hs (k := 2) (j := 4) (by decide) hM) (fun M1 hM1 => ?_)
  refine cp_ite (fun _ => ?_) (fun _ => ?_)
  · skip
    refine cp_bindX (fun v2 => ?_)
    refine cp_ite (fun _ => ?_) (fun _ => ?_)
    · skip
      refine cp_ite (fun _ => ?_) (fun _ => ?_)
      · skip
        refine cp_ite (fun _ => ?_) (fun _ => ?_)
        · skip
          exact (w_f7_advance_2_L112 (cf_tr (by decide : cf_sub f7_advance_2_L112_w f7_advance_2_L38_w = true) hs) hM1)
        · skip
          exact (w_f7_advance_2_L112 (cf_tr (by decide : cf_sub f7_advance_2_L112_w f7_advance_2_L38_w = true) hs) hM1)
      · skip
        refine cp_bindM (w_f7_passNumber_2 (cf_tr (by decide : cf_sub f7_passNumber_2_w f7_advance_2_L38_w = true) hs) hM1) (fun M7 hM7 => ?_)
        exact cp_some hM7
    · skip
      refine cp_bindM (w_f7_passWord_2 (cf_tr (by decide : cf_sub f7_passWord_2_w f7_advance_2_L38_w = true) hs) hM1) (fun M8 hM8 => ?_)
      exact cp_some hM8
  · skip
    refine cp_ltM (cf_wF hs (k := 2) (j := 5) (by decide) hM1) (fun M9 hM9 => ?_)
    exact cp_some hM9

def f7_advance_2_L0_w : List (Nat × Option Nat) := [(2, some 4), (2, some 5), (2, some 3), (2, some 6)]
theorem w_f7_advance_2_L0 {ws : List (Nat × Option Nat)} {M0 : cd_M}  (hs : cf_sub f7_advance_2_L0_w ws = true) : ∀ (n : Nat) (M : cd_M), cf_ ws M0 M → cp (f7_advance_2_L0 n M) (cf_ ws M0) := by
  intro n
  induction n with
  | zero => intro M _; exact cp_none
  | succ n ih =>
    intro M hM
    unfold f7_advance_2_L0
    refine cp_ite (fun _ => ?_) (fun _ => ?_)
    · skip
      exact (w_f7_advance_2_L38 (cf_tr (by decide : cf_sub f7_advance_2_L38_w f7_advance_2_L0_w = true) hs) hM)
    · skip
      refine cp_bindX (fun v10 => ?_)
      refine cp_ite (fun _ => ?_) (fun _ => ?_)
      · skip
        exact (w_f7_advance_2_L38 (cf_tr (by decide : cf_sub f7_advance_2_L38_w f7_advance_2_L0_w = true) hs) hM)
      · skip
        refine cp_ltM (cf_wF hs (k := 2) (j := 3) (by decide) hM) (fun M12 hM12 => ?_)
        exact (ih _ hM12)

def f7_advance_2_w : List (Nat × Option Nat) := [(2, some 4), (2, some 5), (2, some 3), (2, some 6)]
theorem w_f7_advance_2 {ws : List (Nat × Option Nat)} {M0 M : cd_M}  (hs : cf_sub f7_advance_2_w ws = true) (hM : cf_ ws M0 M) : cp (f7_advance_2 M) (cf_ ws M0) := by
  unfold f7_advance_2
  exact (w_f7_advance_2_L0 (cf_tr (by decide : cf_sub f7_advance_2_L0_w f7_advance_2_w = true) hs) _ _ hM)

def f7_open_2_L14_w : List (Nat × Option Nat) := [(2, some 2), (2, some 3), (2, some 4), (2, some 5), (2, some 6)]
theorem w_f7_open_2_L14 {ws : List (Nat × Option Nat)} {M0 M : cd_M} {s0 : Int32} (hs : cf_sub f7_open_2_L14_w ws = true) (hM : cf_ ws M0 M) : cp (f7_open_2_L14 s0 M) (cf_ ws M0) := by
  unfold f7_open_2_L14
  refine cp_ltM (cf_wF hs (k := 2) (j := 2) (by decide) hM) (fun M2 hM2 => ?_)
  refine cp_ltM (cf_wF hs (k := 2) (j := 3) (by decide) hM2) (fun M3 hM3 => ?_)
  refine cp_bindM (w_f7_advance_2 (cf_tr (by decide : cf_sub f7_advance_2_w f7_open_2_L14_w = true) hs) hM3) (fun M4 hM4 => ?_)
  exact cp_some hM4

def f7_open_2_w : List (Nat × Option Nat) := [(2, some 2), (2, some 3), (2, some 4), (2, some 5), (2, some 6)]
theorem w_f7_open_2 {ws : List (Nat × Option Nat)} {M0 M : cd_M} {a1 : Int32} (hs : cf_sub f7_open_2_w ws = true) (hM : cf_ ws M0 M) : cp (f7_open_2 a1 M) (cf_ ws M0) := by
  unfold f7_open_2
  refine cp_ite (fun _ => ?_) (fun _ => ?_)
  · skip
    exact (w_f7_open_2_L14 (cf_tr (by decide : cf_sub f7_open_2_L14_w f7_open_2_w = true) hs) hM)
  · skip
    exact (w_f7_open_2_L14 (cf_tr (by decide : cf_sub f7_open_2_L14_w f7_open_2_w = true) hs) hM)

def f8_refuse_1_w : List (Nat × Option Nat) := [(1, some 3)]
theorem w_f8_refuse_1 {ws : List (Nat × Option Nat)} {M0 M : cd_M} {a1 : Int32} (hs : cf_sub f8_refuse_1_w ws = true) (hM : cf_ ws M0 M) : ci_ (f8_refuse_1 a1 M) (fun r => cf_ ws M0 r.2) := by
  unfold f8_refuse_1
  refine ci_ltM (cf_wF hs (k := 1) (j := 3) (by decide) hM) (fun M1 hM1 => ?_)
  exact ci_some hM1

def f8_takeWord_1_1000_w : List (Nat × Option Nat) := [(1, some 3), (2, some 4), (2, some 5), (2, some 3), (2, some 6)]
theorem w_f8_takeWord_1_1000 {ws : List (Nat × Option Nat)} {M0 M : cd_M}  (hs : cf_sub f8_takeWord_1_1000_w ws = true) (hM : cf_ ws M0 M) : cp (f8_takeWord_1_1000 M) (fun r => cf_ ws M0 r.2) := by
  unfold f8_takeWord_1_1000
  refine cp_bindX (fun v1 => ?_)
  refine cp_ite (fun _ => ?_) (fun _ => ?_)
  · skip
    refine cp_ltU (w_f8_refuse_1 (cf_tr (by decide : cf_sub f8_refuse_1_w f8_takeWord_1_1000_w = true) hs) hM) (fun v4 M3 hM3 => ?_)
    exact cp_some hM3
  · skip
    refine cp_bindM (w_f7_advance_2 (cf_tr (by decide : cf_sub f7_advance_2_w f8_takeWord_1_1000_w = true) hs) hM) (fun M7 hM7 => ?_)
    exact cp_some hM7

def f8_isNumberWithin_1_L39_w : List (Nat × Option Nat) := [(1, some 3)]
theorem w_f8_isNumberWithin_1_L39 {ws : List (Nat × Option Nat)} {M0 M : cd_M}  (hs : cf_sub f8_isNumberWithin_1_L39_w ws = true) (hM : cf_ ws M0 M) : ci_ (f8_isNumberWithin_1_L39 M) (fun r => cf_ ws M0 r.2) := by
  unfold f8_isNumberWithin_1_L39
  refine ci_ltU (w_f8_refuse_1 (cf_tr (by decide : cf_sub f8_refuse_1_w f8_isNumberWithin_1_L39_w = true) hs) hM) (fun v2 M1 hM1 => ?_)
  exact ci_some hM1

def f8_isNumberWithin_1_w : List (Nat × Option Nat) := [(1, some 3)]
theorem w_f8_isNumberWithin_1 {ws : List (Nat × Option Nat)} {M0 M : cd_M} {a1 : Int32} {a2 : Int32} (hs : cf_sub f8_isNumberWithin_1_w ws = true) (hM : cf_ ws M0 M) : ci_ (f8_isNumberWithin_1 a1 a2 M) (fun r => cf_ ws M0 r.2) := by
  unfold f8_isNumberWithin_1
  refine ci_ite (fun _ => ?_) (fun _ => ?_)
  · skip
    refine ci_ite (fun _ => ?_) (fun _ => ?_)
    · skip
      exact (w_f8_isNumberWithin_1_L39 (cf_tr (by decide : cf_sub f8_isNumberWithin_1_L39_w f8_isNumberWithin_1_w = true) hs) hM)
    · skip
      refine ci_ite (fun _ => ?_) (fun _ => ?_)
      · skip
        exact ci_some hM
      · skip
        exact (w_f8_isNumberWithin_1_L39 (cf_tr (by decide : cf_sub f8_isNumberWithin_1_L39_w f8_isNumberWithin_1_w = true) hs) hM)
  · skip
    refine ci_ltU (w_f8_refuse_1 (cf_tr (by decide : cf_sub f8_refuse_1_w f8_isNumberWithin_1_w = true) hs) hM) (fun v6 M5 hM5 => ?_)
    exact ci_some hM5

def f8_takeNumber_1_w : List (Nat × Option Nat) := [(1, some 3), (1, some 4), (2, some 4), (2, some 5), (2, some 3), (2, some 6)]
theorem w_f8_takeNumber_1 {ws : List (Nat × Option Nat)} {M0 M : cd_M} {a1 : Int32} {a2 : Int32} (hs : cf_sub f8_takeNumber_1_w ws = true) (hM : cf_ ws M0 M) : cp (f8_takeNumber_1 a1 a2 M) (fun r => cf_ ws M0 r.2) := by
  unfold f8_takeNumber_1
  refine cp_ltU (w_f8_isNumberWithin_1 (cf_tr (by decide : cf_sub f8_isNumberWithin_1_w f8_takeNumber_1_w = true) hs) hM) (fun v2 M1 hM1 => ?_)
  refine cp_ite (fun _ => ?_) (fun _ => ?_)
  · skip
    exact cp_some hM1
  · skip
    refine cp_ltM (cf_wF hs (k := 1) (j := 4) (by decide) hM1) (fun M5 hM5 => ?_)
    refine cp_bindM (w_f7_advance_2 (cf_tr (by decide : cf_sub f7_advance_2_w f8_takeNumber_1_w = true) hs) hM5) (fun M6 hM6 => ?_)
    exact cp_some hM6

def f1_begin_3_w : List (Nat × Option Nat) := [(3, some 2), (3, some 3)]
theorem w_f1_begin_3 {ws : List (Nat × Option Nat)} {M0 M : cd_M} {a1 : Int32} (hs : cf_sub f1_begin_3_w ws = true) (hM : cf_ ws M0 M) : ci_ (f1_begin_3 a1 M) (cf_ ws M0) := by
  unfold f1_begin_3
  refine ci_ltM (cf_wF hs (k := 3) (j := 2) (by decide) hM) (fun M1 hM1 => ?_)
  refine ci_ltM (cf_wF hs (k := 3) (j := 3) (by decide) hM1) (fun M2 hM2 => ?_)
  exact ci_some hM2

def f8_takeSemicolon_1_w : List (Nat × Option Nat) := [(2, some 4), (2, some 5), (2, some 3), (2, some 6), (1, some 3)]
theorem w_f8_takeSemicolon_1 {ws : List (Nat × Option Nat)} {M0 M : cd_M}  (hs : cf_sub f8_takeSemicolon_1_w ws = true) (hM : cf_ ws M0 M) : cp (f8_takeSemicolon_1 M) (fun r => cf_ ws M0 r.2) := by
  unfold f8_takeSemicolon_1
  refine cp_ite (fun _ => ?_) (fun _ => ?_)
  · skip
    refine cp_bindM (w_f7_advance_2 (cf_tr (by decide : cf_sub f7_advance_2_w f8_takeSemicolon_1_w = true) hs) hM) (fun M1 hM1 => ?_)
    exact cp_some hM1
  · skip
    refine cp_ltU (w_f8_refuse_1 (cf_tr (by decide : cf_sub f8_refuse_1_w f8_takeSemicolon_1_w = true) hs) hM) (fun v3 M2 hM2 => ?_)
    exact cp_some hM2

def f1_add_3_w : List (Nat × Option Nat) := [(18, none), (19, none), (3, some 3)]
theorem w_f1_add_3 {ws : List (Nat × Option Nat)} {M0 M : cd_M} {a1 : Int64} {a2 : Int64} (hs : cf_sub f1_add_3_w ws = true) (hM : cf_ ws M0 M) : cp (f1_add_3 a1 a2 M) (cf_ ws M0) := by
  unfold f1_add_3
  refine cp_ite (fun _ => ?_) (fun _ => ?_)
  · skip
    exact cp_some hM
  · skip
    refine cp_ite (fun _ => ?_) (fun _ => ?_)
    · skip
      exact cp_some hM
    · skip
      refine cp_ite (fun _ => ?_) (fun _ => ?_)
      · skip
        refine cp_ltM (cf_wL hs (k := 18) (by decide) hM) (fun M1 hM1 => ?_)
        refine cp_ite (fun _ => ?_) (fun _ => ?_)
        · skip
          refine cp_ltM (cf_wL hs (k := 19) (by decide) hM1) (fun M2 hM2 => ?_)
          refine cp_ltM (cf_wF hs (k := 3) (j := 3) (by decide) hM2) (fun M3 hM3 => ?_)
          exact cp_some hM3
        · skip
          exact cp_none
      · skip
        exact cp_none

def f8_readFrame_1_L112_w : List (Nat × Option Nat) := []
theorem w_f8_readFrame_1_L112 {ws : List (Nat × Option Nat)} {M0 M : cd_M} {r54 : Int64 → Int64 → Int32 → Int32 → cd_M → Option (Int32 × cd_M)} {a2 : Int64} {a4 : Int64} {a6 : Int32} {a7 : Int32} (hs : cf_sub f8_readFrame_1_L112_w ws = true) (hr54 : ∀ (y0 : Int64) (y1 : Int64) (y2 : Int32) (y3 : Int32) (y4 : cd_M), cf_ ws M0 y4 → cp (r54 y0 y1 y2 y3 y4) (fun r => cf_ ws M0 r.2)) (hM : cf_ ws M0 M) : cp (f8_readFrame_1_L112 r54 a2 a4 a6 a7 M) (fun r => cf_ ws M0 r.2) := by
  unfold f8_readFrame_1_L112
  refine cp_ltX (fun x19 => ?_)
  exact (hr54 _ _ _ _ _ hM)

def f8_readFrame_1_L54_w : List (Nat × Option Nat) := [(18, none), (19, none), (3, some 3), (2, some 4), (2, some 5), (2, some 3), (2, some 6), (1, some 3), (1, some 4)]
theorem w_f8_readFrame_1_L54 {ws : List (Nat × Option Nat)} {M0 : cd_M}  (hs : cf_sub f8_readFrame_1_L54_w ws = true) : ∀ (n : Nat) (a2 : Int64) (a4 : Int64) (a6 : Int32) (a7 : Int32) (M : cd_M), cf_ ws M0 M → cp (f8_readFrame_1_L54 n a2 a4 a6 a7 M) (fun r => cf_ ws M0 r.2) := by
  intro n
  induction n with
  | zero => intro a2 a4 a6 a7 M _; exact cp_none
  | succ n ih =>
    intro a2 a4 a6 a7 M hM
    unfold f8_readFrame_1_L54
    refine cp_ite (fun _ => ?_) (fun _ => ?_)
    · skip
      refine cp_bindM (w_f1_add_3 (cf_tr (by decide : cf_sub f1_add_3_w f8_readFrame_1_L54_w = true) hs) hM) (fun M9 hM9 => ?_)
      refine cp_bindU (w_f8_takeSemicolon_1 (cf_tr (by decide : cf_sub f8_takeSemicolon_1_w f8_readFrame_1_L54_w = true) hs) hM9) (fun v11 M10 hM10 => ?_)
      exact cp_some hM10
    · skip
      refine cp_bindU (w_f8_takeNumber_1 (cf_tr (by decide : cf_sub f8_takeNumber_1_w f8_readFrame_1_L54_w = true) hs) hM) (fun v15 M14 hM14 => ?_)
      refine cp_ite (fun _ => ?_) (fun _ => ?_)
      · skip
        exact cp_some hM14
      · skip
        refine cp_ite (fun _ => ?_) (fun _ => ?_)
        · skip
          refine cp_ltX (fun x18 => ?_)
          exact (w_f8_readFrame_1_L112 (cf_tr (by decide : cf_sub f8_readFrame_1_L112_w f8_readFrame_1_L54_w = true) hs) ih hM14)
        · skip
          refine cp_ltX (fun x20 => ?_)
          exact (w_f8_readFrame_1_L112 (cf_tr (by decide : cf_sub f8_readFrame_1_L112_w f8_readFrame_1_L54_w = true) hs) ih hM14)

def f8_readFrame_1_w : List (Nat × Option Nat) := [(1, some 3), (2, some 4), (2, some 5), (2, some 3), (2, some 6), (18, none), (19, none), (3, some 3), (1, some 4)]
theorem w_f8_readFrame_1 {ws : List (Nat × Option Nat)} {M0 M : cd_M} {a1 : Int32} (hs : cf_sub f8_readFrame_1_w ws = true) (hM : cf_ ws M0 M) : cp (f8_readFrame_1 a1 M) (fun r => cf_ ws M0 r.2) := by
  unfold f8_readFrame_1
  refine cp_bindX (fun v1 => ?_)
  refine cp_ite (fun _ => ?_) (fun _ => ?_)
  · skip
    refine cp_ltU (w_f8_refuse_1 (cf_tr (by decide : cf_sub f8_refuse_1_w f8_readFrame_1_w = true) hs) hM) (fun v4 M3 hM3 => ?_)
    exact cp_some hM3
  · skip
    refine cp_ite (fun _ => ?_) (fun _ => ?_)
    · skip
      refine cp_bindM (w_f7_advance_2 (cf_tr (by decide : cf_sub f7_advance_2_w f8_readFrame_1_w = true) hs) hM) (fun M7 hM7 => ?_)
      refine cp_ltX (fun x8 => ?_)
      exact (w_f8_readFrame_1_L54 (cf_tr (by decide : cf_sub f8_readFrame_1_L54_w f8_readFrame_1_w = true) hs) _ _ _ _ _ _ hM7)
    · skip
      refine cp_ltU (w_f8_refuse_1 (cf_tr (by decide : cf_sub f8_refuse_1_w f8_readFrame_1_w = true) hs) hM) (fun v22 M21 hM21 => ?_)
      exact cp_some hM21

def f8_readFilm_1_L73_w : List (Nat × Option Nat) := [(1, some 3), (2, some 4), (2, some 5), (2, some 3), (2, some 6), (18, none), (19, none), (3, some 3), (1, some 4)]
theorem w_f8_readFilm_1_L73 {ws : List (Nat × Option Nat)} {M0 M : cd_M} {r51 : Int32 → cd_M → Option (Int32 × cd_M)} {a2 : Int32} (hs : cf_sub f8_readFilm_1_L73_w ws = true) (hr51 : ∀ (y0 : Int32) (y1 : cd_M), cf_ ws M0 y1 → cp (r51 y0 y1) (fun r => cf_ ws M0 r.2)) (hM : cf_ ws M0 M) : cp (f8_readFilm_1_L73 r51 a2 M) (fun r => cf_ ws M0 r.2) := by
  unfold f8_readFilm_1_L73
  refine cp_bindU (w_f8_readFrame_1 (cf_tr (by decide : cf_sub f8_readFrame_1_w f8_readFilm_1_L73_w = true) hs) hM) (fun v16 M15 hM15 => ?_)
  refine cp_ite (fun _ => ?_) (fun _ => ?_)
  · skip
    exact cp_some hM15
  · skip
    refine cp_ltX (fun x19 => ?_)
    exact (hr51 _ _ hM15)

def f8_readFilm_1_L51_w : List (Nat × Option Nat) := [(1, some 3), (2, some 4), (2, some 5), (2, some 3), (2, some 6), (18, none), (19, none), (3, some 3), (1, some 4)]
theorem w_f8_readFilm_1_L51 {ws : List (Nat × Option Nat)} {M0 : cd_M}  (hs : cf_sub f8_readFilm_1_L51_w ws = true) : ∀ (n : Nat) (a2 : Int32) (M : cd_M), cf_ ws M0 M → cp (f8_readFilm_1_L51 n a2 M) (fun r => cf_ ws M0 r.2) := by
  intro n
  induction n with
  | zero => intro a2 M _; exact cp_none
  | succ n ih =>
    intro a2 M hM
    unfold f8_readFilm_1_L51
    refine cp_ite (fun _ => ?_) (fun _ => ?_)
    · skip
      exact cp_some hM
    · skip
      refine cp_ite (fun _ => ?_) (fun _ => ?_)
      · skip
        exact (w_f8_readFilm_1_L73 (cf_tr (by decide : cf_sub f8_readFilm_1_L73_w f8_readFilm_1_L51_w = true) hs) ih hM)
      · skip
        refine cp_ite (fun _ => ?_) (fun _ => ?_)
        · skip
          exact cp_some hM
        · skip
          exact (w_f8_readFilm_1_L73 (cf_tr (by decide : cf_sub f8_readFilm_1_L73_w f8_readFilm_1_L51_w = true) hs) ih hM)

def f8_readFilm_1_w : List (Nat × Option Nat) := [(2, some 2), (2, some 3), (2, some 4), (2, some 5), (2, some 6), (1, some 3), (1, some 4), (3, some 2), (3, some 3), (18, none), (19, none)]
theorem w_f8_readFilm_1 {ws : List (Nat × Option Nat)} {M0 M : cd_M} {a1 : Int32} (hs : cf_sub f8_readFilm_1_w ws = true) (hM : cf_ ws M0 M) : cp (f8_readFilm_1 a1 M) (fun r => cf_ ws M0 r.2) := by
  unfold f8_readFilm_1
  refine cp_bindM (w_f7_open_2 (cf_tr (by decide : cf_sub f7_open_2_w f8_readFilm_1_w = true) hs) hM) (fun M1 hM1 => ?_)
  refine cp_bindU (w_f8_takeWord_1_1000 (cf_tr (by decide : cf_sub f8_takeWord_1_1000_w f8_readFilm_1_w = true) hs) hM1) (fun v3 M2 hM2 => ?_)
  refine cp_ite (fun _ => ?_) (fun _ => ?_)
  · skip
    exact cp_some hM2
  · skip
    refine cp_bindU (w_f8_takeNumber_1 (cf_tr (by decide : cf_sub f8_takeNumber_1_w f8_readFilm_1_w = true) hs) hM2) (fun v7 M6 hM6 => ?_)
    refine cp_ite (fun _ => ?_) (fun _ => ?_)
    · skip
      exact cp_some hM6
    · skip
      refine cp_ltM (w_f1_begin_3 (cf_tr (by decide : cf_sub f1_begin_3_w f8_readFilm_1_w = true) hs) hM6) (fun M10 hM10 => ?_)
      refine cp_bindU (w_f8_takeSemicolon_1 (cf_tr (by decide : cf_sub f8_takeSemicolon_1_w f8_readFilm_1_w = true) hs) hM10) (fun v12 M11 hM11 => ?_)
      refine cp_ite (fun _ => ?_) (fun _ => ?_)
      · skip
        exact cp_some hM11
      · skip
        exact (w_f8_readFilm_1_L51 (cf_tr (by decide : cf_sub f8_readFilm_1_L51_w f8_readFilm_1_w = true) hs) _ _ _ hM11)

def f7_empty_2_w : List (Nat × Option Nat) := [(2, some 1)]
theorem w_f7_empty_2 {ws : List (Nat × Option Nat)} {M0 M : cd_M}  (hs : cf_sub f7_empty_2_w ws = true) (hM : cf_ ws M0 M) : ci_ (f7_empty_2 M) (cf_ ws M0) := by
  unfold f7_empty_2
  refine ci_ltM (cf_wF hs (k := 2) (j := 1) (by decide) hM) (fun M1 hM1 => ?_)
  exact ci_some hM1

def f1_begin_5_w : List (Nat × Option Nat) := [(5, some 2), (5, some 3)]
theorem w_f1_begin_5 {ws : List (Nat × Option Nat)} {M0 M : cd_M} {a1 : Int32} (hs : cf_sub f1_begin_5_w ws = true) (hM : cf_ ws M0 M) : ci_ (f1_begin_5 a1 M) (cf_ ws M0) := by
  unfold f1_begin_5
  refine ci_ltM (cf_wF hs (k := 5) (j := 2) (by decide) hM) (fun M1 hM1 => ?_)
  refine ci_ltM (cf_wF hs (k := 5) (j := 3) (by decide) hM1) (fun M2 hM2 => ?_)
  exact ci_some hM2

def f1_add_5_w : List (Nat × Option Nat) := [(23, none), (24, none), (5, some 3)]
theorem w_f1_add_5 {ws : List (Nat × Option Nat)} {M0 M : cd_M} {a1 : Int64} {a2 : Int64} (hs : cf_sub f1_add_5_w ws = true) (hM : cf_ ws M0 M) : cp (f1_add_5 a1 a2 M) (cf_ ws M0) := by
  unfold f1_add_5
  refine cp_ite (fun _ => ?_) (fun _ => ?_)
  · skip
    exact cp_some hM
  · skip
    refine cp_ite (fun _ => ?_) (fun _ => ?_)
    · skip
      exact cp_some hM
    · skip
      refine cp_ite (fun _ => ?_) (fun _ => ?_)
      · skip
        refine cp_ltM (cf_wL hs (k := 23) (by decide) hM) (fun M1 hM1 => ?_)
        refine cp_ite (fun _ => ?_) (fun _ => ?_)
        · skip
          refine cp_ltM (cf_wL hs (k := 24) (by decide) hM1) (fun M2 hM2 => ?_)
          refine cp_ltM (cf_wF hs (k := 5) (j := 3) (by decide) hM2) (fun M3 hM3 => ?_)
          exact cp_some hM3
        · skip
          exact cp_none
      · skip
        exact cp_none

def f1_copyFrom_5_3_L10_w : List (Nat × Option Nat) := [(23, none), (24, none), (5, some 3)]
theorem w_f1_copyFrom_5_3_L10 {ws : List (Nat × Option Nat)} {M0 : cd_M}  (hs : cf_sub f1_copyFrom_5_3_L10_w ws = true) : ∀ (n : Nat) (a2 : Int32) (M : cd_M), cf_ ws M0 M → cp (f1_copyFrom_5_3_L10 n a2 M) (cf_ ws M0) := by
  intro n
  induction n with
  | zero => intro a2 M _; exact cp_none
  | succ n ih =>
    intro a2 M hM
    unfold f1_copyFrom_5_3_L10
    refine cp_ite (fun _ => ?_) (fun _ => ?_)
    · skip
      exact cp_some hM
    · skip
      refine cp_bindX (fun v2 => ?_)
      refine cp_bindX (fun v3 => ?_)
      refine cp_bindM (w_f1_add_5 (cf_tr (by decide : cf_sub f1_add_5_w f1_copyFrom_5_3_L10_w = true) hs) hM) (fun M4 hM4 => ?_)
      refine cp_ltX (fun x5 => ?_)
      exact (ih _ _ hM4)

def f1_copyFrom_5_3_w : List (Nat × Option Nat) := [(5, some 2), (5, some 3), (23, none), (24, none)]
theorem w_f1_copyFrom_5_3 {ws : List (Nat × Option Nat)} {M0 M : cd_M}  (hs : cf_sub f1_copyFrom_5_3_w ws = true) (hM : cf_ ws M0 M) : cp (f1_copyFrom_5_3 M) (cf_ ws M0) := by
  unfold f1_copyFrom_5_3
  refine cp_ltM (w_f1_begin_5 (cf_tr (by decide : cf_sub f1_begin_5_w f1_copyFrom_5_3_w = true) hs) hM) (fun M1 hM1 => ?_)
  exact (w_f1_copyFrom_5_3_L10 (cf_tr (by decide : cf_sub f1_copyFrom_5_3_L10_w f1_copyFrom_5_3_w = true) hs) _ _ _ hM1)

def f4_empty_7_w : List (Nat × Option Nat) := [(7, some 1)]
theorem w_f4_empty_7 {ws : List (Nat × Option Nat)} {M0 M : cd_M}  (hs : cf_sub f4_empty_7_w ws = true) (hM : cf_ ws M0 M) : ci_ (f4_empty_7 M) (cf_ ws M0) := by
  unfold f4_empty_7
  refine ci_ltM (cf_wF hs (k := 7) (j := 1) (by decide) hM) (fun M1 hM1 => ?_)
  exact ci_some hM1

def f3_empty_8_w : List (Nat × Option Nat) := [(8, some 3)]
theorem w_f3_empty_8 {ws : List (Nat × Option Nat)} {M0 M : cd_M}  (hs : cf_sub f3_empty_8_w ws = true) (hM : cf_ ws M0 M) : ci_ (f3_empty_8 M) (cf_ ws M0) := by
  unfold f3_empty_8
  refine ci_ltM (cf_wF hs (k := 8) (j := 3) (by decide) hM) (fun M1 hM1 => ?_)
  exact ci_some hM1

def f0_forget_9_L2_w : List (Nat × Option Nat) := [(35, none)]
theorem w_f0_forget_9_L2 {ws : List (Nat × Option Nat)} {M0 : cd_M}  (hs : cf_sub f0_forget_9_L2_w ws = true) : ∀ (n : Nat) (a1 : Int32) (M : cd_M), cf_ ws M0 M → cp (f0_forget_9_L2 n a1 M) (cf_ ws M0) := by
  intro n
  induction n with
  | zero => intro a1 M _; exact cp_none
  | succ n ih =>
    intro a1 M hM
    unfold f0_forget_9_L2
    refine cp_ite (fun _ => ?_) (fun _ => ?_)
    · skip
      exact cp_some hM
    · skip
      refine cp_ite (fun _ => ?_) (fun _ => ?_)
      · skip
        refine cp_ltM (cf_wI hs (k := 35) (by decide) hM) (fun M1 hM1 => ?_)
        refine cp_ltX (fun x2 => ?_)
        exact (ih _ _ hM1)
      · skip
        exact cp_none

def f0_forget_9_w : List (Nat × Option Nat) := [(35, none)]
theorem w_f0_forget_9 {ws : List (Nat × Option Nat)} {M0 M : cd_M}  (hs : cf_sub f0_forget_9_w ws = true) (hM : cf_ ws M0 M) : cp (f0_forget_9 M) (cf_ ws M0) := by
  unfold f0_forget_9
  exact (w_f0_forget_9_L2 (cf_tr (by decide : cf_sub f0_forget_9_L2_w f0_forget_9_w = true) hs) _ _ _ hM)

def f10_forgetPaths_0_w : List (Nat × Option Nat) := [(0, some 11), (35, none)]
theorem w_f10_forgetPaths_0 {ws : List (Nat × Option Nat)} {M0 M : cd_M}  (hs : cf_sub f10_forgetPaths_0_w ws = true) (hM : cf_ ws M0 M) : cp (f10_forgetPaths_0 M) (cf_ ws M0) := by
  unfold f10_forgetPaths_0
  refine cp_ltM (cf_wF hs (k := 0) (j := 11) (by decide) hM) (fun M1 hM1 => ?_)
  refine cp_bindM (w_f0_forget_9 (cf_tr (by decide : cf_sub f0_forget_9_w f10_forgetPaths_0_w = true) hs) hM1) (fun M2 hM2 => ?_)
  exact cp_some hM2

def f10_film_0_w : List (Nat × Option Nat) := [(2, some 2), (2, some 3), (2, some 4), (2, some 5), (2, some 6), (1, some 3), (1, some 4), (3, some 2), (3, some 3), (18, none), (19, none), (2, some 1), (5, some 2), (5, some 3), (23, none), (24, none), (7, some 1), (8, some 3), (0, some 11), (35, none)]
theorem w_f10_film_0 {ws : List (Nat × Option Nat)} {M0 M : cd_M} {a1 : Int32} (hs : cf_sub f10_film_0_w ws = true) (hM : cf_ ws M0 M) : cp (f10_film_0 a1 M) (fun r => cf_ ws M0 r.2) := by
  unfold f10_film_0
  refine cp_ite (fun _ => ?_) (fun _ => ?_)
  · skip
    exact cp_some hM
  · skip
    refine cp_bindU (w_f8_readFilm_1 (cf_tr (by decide : cf_sub f8_readFilm_1_w f10_film_0_w = true) hs) hM) (fun v3 M2 hM2 => ?_)
    refine cp_ltM (w_f7_empty_2 (cf_tr (by decide : cf_sub f7_empty_2_w f10_film_0_w = true) hs) hM2) (fun M6 hM6 => ?_)
    refine cp_ite (fun _ => ?_) (fun _ => ?_)
    · skip
      exact cp_some hM6
    · skip
      refine cp_bindM (w_f1_copyFrom_5_3 (cf_tr (by decide : cf_sub f1_copyFrom_5_3_w f10_film_0_w = true) hs) hM6) (fun M7 hM7 => ?_)
      refine cp_ltM (w_f4_empty_7 (cf_tr (by decide : cf_sub f4_empty_7_w f10_film_0_w = true) hs) hM7) (fun M8 hM8 => ?_)
      refine cp_ltM (w_f3_empty_8 (cf_tr (by decide : cf_sub f3_empty_8_w f10_film_0_w = true) hs) hM8) (fun M9 hM9 => ?_)
      refine cp_bindM (w_f10_forgetPaths_0 (cf_tr (by decide : cf_sub f10_forgetPaths_0_w f10_film_0_w = true) hs) hM9) (fun M10 hM10 => ?_)
      exact cp_some hM10

def f5_clear_4_w : List (Nat × Option Nat) := [(4, some 3), (22, none)]
theorem w_f5_clear_4 {ws : List (Nat × Option Nat)} {M0 M : cd_M}  (hs : cf_sub f5_clear_4_w ws = true) (hM : cf_ ws M0 M) : cp (f5_clear_4 M) (cf_ ws M0) := by
  unfold f5_clear_4
  refine cp_ltM (cf_wF hs (k := 4) (j := 3) (by decide) hM) (fun M1 hM1 => ?_)
  refine cp_ite (fun _ => ?_) (fun _ => ?_)
  · skip
    refine cp_ltM (cf_wI hs (k := 22) (by decide) hM1) (fun M2 hM2 => ?_)
    refine cp_ite (fun _ => ?_) (fun _ => ?_)
    · skip
      refine cp_ltM (cf_wI hs (k := 22) (by decide) hM2) (fun M3 hM3 => ?_)
      refine cp_ite (fun _ => ?_) (fun _ => ?_)
      · skip
        refine cp_ltM (cf_wI hs (k := 22) (by decide) hM3) (fun M4 hM4 => ?_)
        refine cp_ite (fun _ => ?_) (fun _ => ?_)
        · skip
          refine cp_ltM (cf_wI hs (k := 22) (by decide) hM4) (fun M5 hM5 => ?_)
          refine cp_ite (fun _ => ?_) (fun _ => ?_)
          · skip
            refine cp_ltM (cf_wI hs (k := 22) (by decide) hM5) (fun M6 hM6 => ?_)
            exact cp_some hM6
          · skip
            exact cp_none
        · skip
          exact cp_none
      · skip
        exact cp_none
    · skip
      exact cp_none
  · skip
    exact cp_none

def f5_putValue_4_w : List (Nat × Option Nat) := [(22, none)]
theorem w_f5_putValue_4 {ws : List (Nat × Option Nat)} {M0 M : cd_M} {a1 : Int32} {a2 : Int32} (hs : cf_sub f5_putValue_4_w ws = true) (hM : cf_ ws M0 M) : cp (f5_putValue_4 a1 a2 M) (cf_ ws M0) := by
  unfold f5_putValue_4
  refine cp_ite (fun _ => ?_) (fun _ => ?_)
  · skip
    exact cp_some hM
  · skip
    refine cp_ite (fun _ => ?_) (fun _ => ?_)
    · skip
      exact cp_some hM
    · skip
      refine cp_ite (fun _ => ?_) (fun _ => ?_)
      · skip
        refine cp_ltM (cf_wI hs (k := 22) (by decide) hM) (fun M1 hM1 => ?_)
        exact cp_some hM1
      · skip
        exact cp_none

def f8_takeMeasure_1_L66_w : List (Nat × Option Nat) := [(2, some 4), (2, some 5), (2, some 3), (2, some 6)]
theorem w_f8_takeMeasure_1_L66 {ws : List (Nat × Option Nat)} {M0 M : cd_M}  (hs : cf_sub f8_takeMeasure_1_L66_w ws = true) (hM : cf_ ws M0 M) : cp (f8_takeMeasure_1_L66 M) (fun r => cf_ ws M0 r.2) := by
  unfold f8_takeMeasure_1_L66
  refine cp_bindM (w_f7_advance_2 (cf_tr (by decide : cf_sub f7_advance_2_w f8_takeMeasure_1_L66_w = true) hs) hM) (fun M12 hM12 => ?_)
  exact cp_some hM12

def f8_takeMeasure_1_w : List (Nat × Option Nat) := [(1, some 3), (1, some 4), (2, some 4), (2, some 5), (2, some 3), (2, some 6)]
theorem w_f8_takeMeasure_1 {ws : List (Nat × Option Nat)} {M0 M : cd_M}  (hs : cf_sub f8_takeMeasure_1_w ws = true) (hM : cf_ ws M0 M) : cp (f8_takeMeasure_1 M) (fun r => cf_ ws M0 r.2) := by
  unfold f8_takeMeasure_1
  refine cp_bindX (fun v1 => ?_)
  refine cp_ite (fun _ => ?_) (fun _ => ?_)
  · skip
    refine cp_bindX (fun v3 => ?_)
    refine cp_ite (fun _ => ?_) (fun _ => ?_)
    · skip
      refine cp_bindX (fun v5 => ?_)
      refine cp_ite (fun _ => ?_) (fun _ => ?_)
      · skip
        refine cp_ltU (w_f8_refuse_1 (cf_tr (by decide : cf_sub f8_refuse_1_w f8_takeMeasure_1_w = true) hs) hM) (fun v8 M7 hM7 => ?_)
        exact cp_some hM7
      · skip
        refine cp_ltM (cf_wF hs (k := 1) (j := 4) (by decide) hM) (fun M11 hM11 => ?_)
        exact (w_f8_takeMeasure_1_L66 (cf_tr (by decide : cf_sub f8_takeMeasure_1_L66_w f8_takeMeasure_1_w = true) hs) hM11)
    · skip
      refine cp_ltM (cf_wF hs (k := 1) (j := 4) (by decide) hM) (fun M13 hM13 => ?_)
      exact (w_f8_takeMeasure_1_L66 (cf_tr (by decide : cf_sub f8_takeMeasure_1_L66_w f8_takeMeasure_1_w = true) hs) hM13)
  · skip
    refine cp_ltM (cf_wF hs (k := 1) (j := 4) (by decide) hM) (fun M14 hM14 => ?_)
    exact (w_f8_takeMeasure_1_L66 (cf_tr (by decide : cf_sub f8_takeMeasure_1_L66_w f8_takeMeasure_1_w = true) hs) hM14)

def f8_readValue_1_L75_w : List (Nat × Option Nat) := [(22, none)]
theorem w_f8_readValue_1_L75 {ws : List (Nat × Option Nat)} {M0 M : cd_M} {a1 : Int32} (hs : cf_sub f8_readValue_1_L75_w ws = true) (hM : cf_ ws M0 M) : cp (f8_readValue_1_L75 a1 M) (fun r => cf_ ws M0 r.2) := by
  unfold f8_readValue_1_L75
  refine cp_bindM (w_f5_putValue_4 (cf_tr (by decide : cf_sub f5_putValue_4_w f8_readValue_1_L75_w = true) hs) hM) (fun M12 hM12 => ?_)
  exact cp_some hM12

def f8_readValue_1_w : List (Nat × Option Nat) := [(1, some 3), (1, some 5), (2, some 4), (2, some 5), (2, some 3), (2, some 6), (1, some 4), (22, none)]
theorem w_f8_readValue_1 {ws : List (Nat × Option Nat)} {M0 M : cd_M} {a1 : Int32} (hs : cf_sub f8_readValue_1_w ws = true) (hM : cf_ ws M0 M) : cp (f8_readValue_1 a1 M) (fun r => cf_ ws M0 r.2) := by
  unfold f8_readValue_1
  refine cp_ite (fun _ => ?_) (fun _ => ?_)
  · skip
    refine cp_ltU (w_f8_refuse_1 (cf_tr (by decide : cf_sub f8_refuse_1_w f8_readValue_1_w = true) hs) hM) (fun v2 M1 hM1 => ?_)
    exact cp_some hM1
  · skip
    refine cp_ltX (fun x5 => ?_)
    refine cp_ite (fun _ => ?_) (fun _ => ?_)
    · skip
      refine cp_ltM (cf_wF hs (k := 1) (j := 5) (by decide) hM) (fun M6 hM6 => ?_)
      refine cp_bindM (w_f7_advance_2 (cf_tr (by decide : cf_sub f7_advance_2_w f8_readValue_1_w = true) hs) hM6) (fun M7 hM7 => ?_)
      refine cp_ite (fun _ => ?_) (fun _ => ?_)
      · skip
        refine cp_bindU (w_f8_takeMeasure_1 (cf_tr (by decide : cf_sub f8_takeMeasure_1_w f8_readValue_1_w = true) hs) hM7) (fun v9 M8 hM8 => ?_)
        refine cp_ite (fun _ => ?_) (fun _ => ?_)
        · skip
          exact cp_some hM8
        · skip
          exact (w_f8_readValue_1_L75 (cf_tr (by decide : cf_sub f8_readValue_1_L75_w f8_readValue_1_w = true) hs) hM8)
      · skip
        refine cp_bindU (w_f8_takeNumber_1 (cf_tr (by decide : cf_sub f8_takeNumber_1_w f8_readValue_1_w = true) hs) hM7) (fun v14 M13 hM13 => ?_)
        refine cp_ite (fun _ => ?_) (fun _ => ?_)
        · skip
          exact cp_some hM13
        · skip
          exact (w_f8_readValue_1_L75 (cf_tr (by decide : cf_sub f8_readValue_1_L75_w f8_readValue_1_w = true) hs) hM13)
    · skip
      refine cp_ltU (w_f8_refuse_1 (cf_tr (by decide : cf_sub f8_refuse_1_w f8_readValue_1_w = true) hs) hM) (fun v18 M17 hM17 => ?_)
      exact cp_some hM17

def f5_addCadence_4_w : List (Nat × Option Nat) := [(21, none), (4, some 3)]
theorem w_f5_addCadence_4 {ws : List (Nat × Option Nat)} {M0 M : cd_M}  (hs : cf_sub f5_addCadence_4_w ws = true) (hM : cf_ ws M0 M) : cp (f5_addCadence_4 M) (cf_ ws M0) := by
  unfold f5_addCadence_4
  refine cp_ite (fun _ => ?_) (fun _ => ?_)
  · skip
    exact cp_some hM
  · skip
    refine cp_ite (fun _ => ?_) (fun _ => ?_)
    · skip
      refine cp_ltM (cf_wI hs (k := 21) (by decide) hM) (fun M1 hM1 => ?_)
      refine cp_ltM (cf_wF hs (k := 4) (j := 3) (by decide) hM1) (fun M2 hM2 => ?_)
      exact cp_some hM2
    · skip
      exact cp_none
