def f10_rules_0 (a1 : Int32) (M : cd_M) : Option (Int32 × cd_M) := if f7_holds_2 a1 M = 0 then (some ((-1), M)) else ((f8_readRules_1 a1 M).bind (cd_u2 fun v3 M2 => cd_lt (f7_empty_2 M2) fun M6 => if v3 = 0 then (some ((-2) - (f8_fault_1 M6), M6)) else ((f5_copyFrom_6_4 M6).bind fun M7 => cd_lt (cd_wI M7 0 10 0) fun M8 => cd_lt (f3_empty_8 M8) fun M9 => (f10_forgetPaths_0 M9).bind fun M10 => some (f5_cadences_6 M10, M10))))
set_option maxRecDepth 8000 in
theorem k10_rules_0 (a1 : Int32) (M : cd_M) : cd_R 128 0 [some (.ref 0), some (.int (a1)), none] [] M (w_PM (f10_rules_0 a1 M)) := by
  unfold f10_rules_0
  refine r_ld (.aload_n 0) 1 2 0 (.ref 0) rfl rfl rfl rfl 1 rfl ?_
  refine r_go (.getfield 10) 3 rfl rfl rfl 4 [.ref 1] rfl ?_
  refine q_cTR (.invokevirtual 82) rfl rfl rfl 96 [.ref 1] [] rfl (k8_tape_1 M) ?_
  refine r_ld (.iload_n 1) 1 0 1 (.int (a1)) rfl rfl rfl rfl 8 rfl ?_
  refine q_cTIz (.invokevirtual 99) rfl rfl rfl 82 rfl [.ref 2, .int (a1)] [] rfl (k7_holds_2 a1 M) (fun z1 => ?_)
  refine q_br w_PM (.ifCond .ne 5) 3 rfl rfl rfl (f7_holds_2 a1 M = 0) 14 16 [] rfl (fun _ => ?_) (fun _ => ?_)
  · refine q_const (.iconst (-1)) 1 rfl rfl rfl 15 (-1) _ rfl cd_kjm1 ?_
    exact r_ret .ireturn 1 rfl rfl rfl _ rfl
  · refine r_ld (.aload_n 0) 1 2 0 (.ref 0) rfl rfl rfl rfl 17 rfl ?_
    refine r_go (.getfield 10) 3 rfl rfl rfl 20 [.ref 1] rfl ?_
    refine r_ld (.iload_n 1) 1 0 1 (.int (a1)) rfl rfl rfl rfl 21 rfl ?_
    refine q_cMz w_PM rfl (.invokevirtual 126) rfl rfl rfl 102 rfl [.ref 1, .int (a1)] [] rfl (k8_readRules_1 a1 M) (fun v3 M2 z4 => ?_)
    refine r_st (.istore_n 2) 1 0 2 rfl rfl rfl 25 rfl [some (.ref 0), some (.int (a1)), some (.int (v3))] rfl ?_
    refine r_ld (.aload_n 0) 1 2 0 (.ref 0) rfl rfl rfl rfl 26 rfl ?_
    refine r_go (.getfield 10) 3 rfl rfl rfl 29 [.ref 1] rfl ?_
    refine q_cTR (.invokevirtual 82) rfl rfl rfl 96 [.ref 1] [] rfl (k8_tape_1 M2) ?_
    refine q_cTV w_PM (.invokevirtual 106) rfl rfl rfl 83 [.ref 2] [] rfl (k7_empty_2 M2) (fun M6 => ?_)
    refine r_ld (.iload_n 2) 1 0 2 (.int (v3)) rfl rfl rfl rfl 36 rfl ?_
    refine q_br w_PM (.ifCond .ne 14) 3 rfl rfl rfl (v3 = 0) 39 50 [] rfl (fun _ => ?_) (fun _ => ?_)
    · refine q_const (.bipush (-2)) 2 rfl rfl rfl 41 (-2) _ rfl cd_kcm2 ?_
      refine r_ld (.aload_n 0) 1 2 0 (.ref 0) rfl rfl rfl rfl 42 rfl ?_
      refine r_go (.getfield 10) 3 rfl rfl rfl 45 [.ref 1, .int ((-2))] rfl ?_
      refine q_cTI (.invokevirtual 109) rfl rfl rfl 99 [.ref 1] [.int ((-2))] rfl (k8_fault_1 M6) ?_
      refine r_go (.isub) 1 rfl rfl rfl 49 [.int ((-2) - (f8_fault_1 M6))] rfl ?_
      exact r_ret .ireturn 1 rfl rfl rfl _ rfl
    · refine r_ld (.aload_n 0) 1 2 0 (.ref 0) rfl rfl rfl rfl 51 rfl ?_
      refine r_go (.getfield 28) 3 rfl rfl rfl 54 [.ref 6] rfl ?_
      refine r_ld (.aload_n 0) 1 2 0 (.ref 0) rfl rfl rfl rfl 55 rfl ?_
      refine r_go (.getfield 10) 3 rfl rfl rfl 58 [.ref 1, .ref 6] rfl ?_
      refine q_cTR (.invokevirtual 129) rfl rfl rfl 98 [.ref 1] [.ref 6] rfl (k8_rulesRead_1 M6) ?_
      refine q_cV w_PM rfl (.invokevirtual 133) rfl rfl rfl 59 [.ref 6, .ref 4] [] rfl (k5_copyFrom_6_4 M6) (fun M7 => ?_)
      refine r_ld (.aload_n 0) 1 2 0 (.ref 0) rfl rfl rfl rfl 65 rfl ?_
      refine q_const (.iconst 0) 1 rfl rfl rfl 66 (0) _ rfl cd_kj0 ?_
      refine q_wr w_PM (.putfield 74) 3 rfl rfl rfl 69 [] (cd_wI M7 0 10 0) rfl (fun M8 => ?_)
      refine r_ld (.aload_n 0) 1 2 0 (.ref 0) rfl rfl rfl rfl 70 rfl ?_
      refine r_go (.getfield 42) 3 rfl rfl rfl 73 [.ref 8] rfl ?_
      refine q_cTV w_PM (.invokevirtual 121) rfl rfl rfl 38 [.ref 8] [] rfl (k3_empty_8 M8) (fun M9 => ?_)
      refine r_ld (.aload_n 0) 1 2 0 (.ref 0) rfl rfl rfl rfl 77 rfl ?_
      refine q_cV w_PM rfl (.invokevirtual 122) rfl rfl rfl 152 [.ref 0] [] rfl (k10_forgetPaths_0 M9) (fun M10 => ?_)
      refine r_ld (.aload_n 0) 1 2 0 (.ref 0) rfl rfl rfl rfl 81 rfl ?_
      refine r_go (.getfield 28) 3 rfl rfl rfl 84 [.ref 6] rfl ?_
      refine q_cTI (.invokevirtual 136) rfl rfl rfl 60 [.ref 6] [] rfl (k5_cadences_6 M10) ?_
      exact r_ret .ireturn 1 rfl rfl rfl _ rfl
def f1_has_5 (a1 : Int32) (M : cd_M) : Int32 := if a1 < 0 then (0) else (if M.1 5 3 ≤ a1 then (0) else (1))
set_option maxRecDepth 8000 in
theorem k1_has_5 (a1 : Int32) (M : cd_M) : cd_R 14 0 [some (.ref 5), some (.int (a1))] [] M ((w_TI M) (f1_has_5 a1 M)) := by
  unfold f1_has_5
  refine r_ld (.iload_n 1) 1 0 1 (.int (a1)) rfl rfl rfl rfl 1 rfl ?_
  refine q_br (w_TI M) (.ifCond .lt 15) 3 rfl rfl rfl (a1 < 0) 16 4 [] rfl (fun _ => ?_) (fun _ => ?_)
  · refine q_const (.iconst 0) 1 rfl rfl rfl 17 (0) _ rfl cd_kj0 ?_
    exact r_retZ rfl rfl (by decide)
  · refine r_ld (.iload_n 1) 1 0 1 (.int (a1)) rfl rfl rfl rfl 5 rfl ?_
    refine r_ld (.aload_n 0) 1 2 0 (.ref 5) rfl rfl rfl rfl 6 rfl ?_
    refine r_go (.getfield 13) 3 rfl rfl rfl 9 [.int (M.1 5 3), .int (a1)] rfl ?_
    refine q_br (w_TI M) (.if_icmp .ge 7) 3 rfl rfl rfl (M.1 5 3 ≤ a1) 16 12 [] rfl (fun _ => ?_) (fun _ => ?_)
    · refine q_const (.iconst 0) 1 rfl rfl rfl 17 (0) _ rfl cd_kj0 ?_
      exact r_retZ rfl rfl (by decide)
    · refine q_const (.iconst 1) 1 rfl rfl rfl 13 (1) _ rfl cd_kj1 ?_
      refine r_go (.goto 4) 3 rfl rfl rfl 17 [.int (1)] rfl ?_
      exact r_retZ rfl rfl (by decide)
def f10_isParity (a0 : Int32) (M : cd_M) : Int32 := if a0 = 0 then (1) else (if a0 = 1 then (1) else (0))
set_option maxRecDepth 8000 in
theorem k10_isParity (a0 : Int32) (M : cd_M) : cd_R 157 0 [some (.int (a0))] [] M ((w_TI M) (f10_isParity a0 M)) := by
  unfold f10_isParity
  refine r_ld (.iload_n 0) 1 0 0 (.int (a0)) rfl rfl rfl rfl 1 rfl ?_
  refine q_br (w_TI M) (.ifCond .eq 8) 3 rfl rfl rfl (a0 = 0) 9 4 [] rfl (fun _ => ?_) (fun _ => ?_)
  · refine q_const (.iconst 1) 1 rfl rfl rfl 10 (1) _ rfl cd_kj1 ?_
    refine r_go (.goto 4) 3 rfl rfl rfl 14 [.int (1)] rfl ?_
    exact r_retZ rfl rfl (by decide)
  · refine r_ld (.iload_n 0) 1 0 0 (.int (a0)) rfl rfl rfl rfl 5 rfl ?_
    refine q_const (.iconst 1) 1 rfl rfl rfl 6 (1) _ rfl cd_kj1 ?_
    refine q_br (w_TI M) (.if_icmp .ne 7) 3 rfl rfl rfl (a0 = 1) 9 13 [] rfl (fun _ => ?_) (fun _ => ?_)
    · refine q_const (.iconst 1) 1 rfl rfl rfl 10 (1) _ rfl cd_kj1 ?_
      refine r_go (.goto 4) 3 rfl rfl rfl 14 [.int (1)] rfl ?_
      exact r_retZ rfl rfl (by decide)
    · refine q_const (.iconst 0) 1 rfl rfl rfl 14 (0) _ rfl cd_kj0 ?_
      exact r_retZ rfl rfl (by decide)
def f1_width_5 (M : cd_M) : Int32 := (M.1 5 2)
set_option maxRecDepth 8000 in
theorem k1_width_5 (M : cd_M) : cd_R 12 0 [some (.ref 5)] [] M ((w_TI M) (f1_width_5 M)) := by
  unfold f1_width_5
  refine r_ld (.aload_n 0) 1 2 0 (.ref 5) rfl rfl rfl rfl 1 rfl ?_
  refine r_go (.getfield 7) 3 rfl rfl rfl 4 [.int (M.1 5 2)] rfl ?_
  exact r_ret .ireturn 1 rfl rfl rfl _ rfl
def f10_isSampleNumber_0 (a1 : Int32) (M : cd_M) : Int32 := if a1 < 0 then (0) else (if f1_width_5 M ≤ a1 then (0) else (1))
set_option maxRecDepth 8000 in
theorem k10_isSampleNumber_0 (a1 : Int32) (M : cd_M) : cd_R 156 0 [some (.ref 0), some (.int (a1))] [] M ((w_TI M) (f10_isSampleNumber_0 a1 M)) := by
  unfold f10_isSampleNumber_0
  refine r_ld (.iload_n 1) 1 0 1 (.int (a1)) rfl rfl rfl rfl 1 rfl ?_
  refine q_br (w_TI M) (.ifCond .lt 18) 3 rfl rfl rfl (a1 < 0) 19 4 [] rfl (fun _ => ?_) (fun _ => ?_)
  · refine q_const (.iconst 0) 1 rfl rfl rfl 20 (0) _ rfl cd_kj0 ?_
    exact r_retZ rfl rfl (by decide)
  · refine r_ld (.iload_n 1) 1 0 1 (.int (a1)) rfl rfl rfl rfl 5 rfl ?_
    refine r_ld (.aload_n 0) 1 2 0 (.ref 0) rfl rfl rfl rfl 6 rfl ?_
    refine r_go (.getfield 21) 3 rfl rfl rfl 9 [.ref 5, .int (a1)] rfl ?_
    refine q_cTI (.invokevirtual 179) rfl rfl rfl 12 [.ref 5] [.int (a1)] rfl (k1_width_5 M) ?_
    refine q_br (w_TI M) (.if_icmp .ge 7) 3 rfl rfl rfl (f1_width_5 M ≤ a1) 19 15 [] rfl (fun _ => ?_) (fun _ => ?_)
    · refine q_const (.iconst 0) 1 rfl rfl rfl 20 (0) _ rfl cd_kj0 ?_
      exact r_retZ rfl rfl (by decide)
    · refine q_const (.iconst 1) 1 rfl rfl rfl 16 (1) _ rfl cd_kj1 ?_
      refine r_go (.goto 4) 3 rfl rfl rfl 20 [.int (1)] rfl ?_
      exact r_retZ rfl rfl (by decide)
def f1_row_5 (a1 : Int32) (a2 : Int32) (M : cd_M) : Option (Int64) := if f1_has_5 a1 M = 0 then (some 0) else (if a2 = 0 then (if cd_in a1 20 = true then (some (M.2 23 a1.toNatClampNeg)) else none) else (if cd_in a1 20 = true then (some (M.2 24 a1.toNatClampNeg)) else none))
set_option maxRecDepth 8000 in
theorem k1_row_5 (a1 : Int32) (a2 : Int32) (M : cd_M) : cd_R 16 0 [some (.ref 5), some (.int (a1)), some (.int (a2))] [] M ((w_PL M) (f1_row_5 a1 a2 M)) := by
  unfold f1_row_5
  refine r_ld (.aload_n 0) 1 2 0 (.ref 5) rfl rfl rfl rfl 1 rfl ?_
  refine r_ld (.iload_n 1) 1 0 1 (.int (a1)) rfl rfl rfl rfl 2 rfl ?_
  refine q_cTIz (.invokevirtual 29) rfl rfl rfl 14 rfl [.ref 5, .int (a1)] [] rfl (k1_has_5 a1 M) (fun z1 => ?_)
  refine q_br (w_PL M) (.ifCond .ne 5) 3 rfl rfl rfl (f1_has_5 a1 M = 0) 8 10 [] rfl (fun _ => ?_) (fun _ => ?_)
  · refine r_go (.lconst 0) 1 rfl rfl rfl 9 [.long (0)] rfl ?_
    exact r_ret .lreturn 1 rfl rfl rfl _ rfl
  · refine r_ld (.iload_n 2) 1 0 2 (.int (a2)) rfl rfl rfl rfl 11 rfl ?_
    refine q_br (w_PL M) (.ifCond .ne 12) 3 rfl rfl rfl (a2 = 0) 14 23 [] rfl (fun _ => ?_) (fun _ => ?_)
    · refine r_ld (.aload_n 0) 1 2 0 (.ref 5) rfl rfl rfl rfl 15 rfl ?_
      refine r_go (.getfield 22) 3 rfl rfl rfl 18 [.ref 23] rfl ?_
      refine r_ld (.iload_n 1) 1 0 1 (.int (a1)) rfl rfl rfl rfl 19 rfl ?_
      refine q_lald (w_PL M) rfl rfl 23 20 rfl ?_
      refine r_go (.goto 9) 3 rfl rfl rfl 29 [.long (M.2 23 a1.toNatClampNeg)] rfl ?_
      exact r_ret .lreturn 1 rfl rfl rfl _ rfl
    · refine r_ld (.aload_n 0) 1 2 0 (.ref 5) rfl rfl rfl rfl 24 rfl ?_
      refine r_go (.getfield 26) 3 rfl rfl rfl 27 [.ref 24] rfl ?_
      refine r_ld (.iload_n 1) 1 0 1 (.int (a1)) rfl rfl rfl rfl 28 rfl ?_
      refine q_lald (w_PL M) rfl rfl 24 20 rfl ?_
      exact r_ret .lreturn 1 rfl rfl rfl _ rfl
def f10_sampleOf (a0 : Int64) (a1 : Int32) (M : cd_M) : Int32 := ((((a0.toUInt64 >>> ((7 * a1 : Int32).toInt64.toUInt64 &&& Int64.toUInt64 63)).toInt64 : Int64) &&& (127 : Int64)).toInt32)
set_option maxRecDepth 8000 in
theorem k10_sampleOf (a0 : Int64) (a1 : Int32) (M : cd_M) : cd_R 158 0 [some (.long (a0)), none, some (.int (a1))] [] M ((w_TI M) (f10_sampleOf a0 a1 M)) := by
  unfold f10_sampleOf
  refine r_ld (.lload_n 0) 1 1 0 (.long (a0)) rfl rfl rfl rfl 1 rfl ?_
  refine q_const (.bipush 7) 2 rfl rfl rfl 3 (7) _ rfl cd_kc7 ?_
  refine r_ld (.iload_n 2) 1 0 2 (.int (a1)) rfl rfl rfl rfl 4 rfl ?_
  refine r_go (.imul) 1 rfl rfl rfl 5 [.int (7 * a1), .long (a0)] rfl ?_
  refine r_go (.lushr) 1 rfl rfl rfl 6 [.long ((a0.toUInt64 >>> ((7 * a1 : Int32).toInt64.toUInt64 &&& Int64.toUInt64 63)).toInt64)] rfl ?_
  refine r_go (.ldc2_w 337) 3 rfl rfl rfl 9 [.long (127), .long ((a0.toUInt64 >>> ((7 * a1 : Int32).toInt64.toUInt64 &&& Int64.toUInt64 63)).toInt64)] rfl ?_
  refine r_go (.land) 1 rfl rfl rfl 10 [.long (((a0.toUInt64 >>> ((7 * a1 : Int32).toInt64.toUInt64 &&& Int64.toUInt64 63)).toInt64 : Int64) &&& (127 : Int64))] rfl ?_
  refine r_go (.l2i) 1 rfl rfl rfl 11 [.int ((((a0.toUInt64 >>> ((7 * a1 : Int32).toInt64.toUInt64 &&& Int64.toUInt64 63)).toInt64 : Int64) &&& (127 : Int64)).toInt32)] rfl ?_
  exact r_ret .ireturn 1 rfl rfl rfl _ rfl
def f10_sampleOfFrame_0_5 (a2 : Int32) (a3 : Int32) (a4 : Int32) (M : cd_M) : Option (Int32) := if f1_has_5 a2 M = 0 then (some (-1)) else (if f10_isParity a3 M = 0 then (some (-1)) else (if f10_isSampleNumber_0 a4 M = 0 then (some (-1)) else ((f1_row_5 a2 a3 M).bind fun v4 => some (f10_sampleOf v4 a4 M))))
set_option maxRecDepth 8000 in
theorem k10_sampleOfFrame_0_5 (a2 : Int32) (a3 : Int32) (a4 : Int32) (M : cd_M) : cd_R 155 0 [some (.ref 0), some (.ref 5), some (.int (a2)), some (.int (a3)), some (.int (a4))] [] M ((w_PI M) (f10_sampleOfFrame_0_5 a2 a3 a4 M)) := by
  unfold f10_sampleOfFrame_0_5
  refine r_ld (.aload_n 1) 1 2 1 (.ref 5) rfl rfl rfl rfl 1 rfl ?_
  refine r_ld (.iload_n 2) 1 0 2 (.int (a2)) rfl rfl rfl rfl 2 rfl ?_
  refine q_cTIz (.invokevirtual 282) rfl rfl rfl 14 rfl [.ref 5, .int (a2)] [] rfl (k1_has_5 a2 M) (fun z1 => ?_)
  refine q_br (w_PI M) (.ifCond .eq 19) 3 rfl rfl rfl (f1_has_5 a2 M = 0) 24 8 [] rfl (fun _ => ?_) (fun _ => ?_)
  · refine q_const (.iconst (-1)) 1 rfl rfl rfl 25 (-1) _ rfl cd_kjm1 ?_
    exact r_ret .ireturn 1 rfl rfl rfl _ rfl
  · refine r_ld (.iload_n 3) 1 0 3 (.int (a3)) rfl rfl rfl rfl 9 rfl ?_
    refine q_cTIz (.invokestatic 158) rfl rfl rfl 157 rfl [.int (a3)] [] rfl (k10_isParity a3 M) (fun z2 => ?_)
    refine q_br (w_PI M) (.ifCond .eq 12) 3 rfl rfl rfl (f10_isParity a3 M = 0) 24 15 [] rfl (fun _ => ?_) (fun _ => ?_)
    · refine q_const (.iconst (-1)) 1 rfl rfl rfl 25 (-1) _ rfl cd_kjm1 ?_
      exact r_ret .ireturn 1 rfl rfl rfl _ rfl
    · refine r_ld (.aload_n 0) 1 2 0 (.ref 0) rfl rfl rfl rfl 16 rfl ?_
      refine r_ld (.iload 4) 2 0 4 (.int (a4)) rfl rfl rfl rfl 18 rfl ?_
      refine q_cTIz (.invokevirtual 189) rfl rfl rfl 156 rfl [.ref 0, .int (a4)] [] rfl (k10_isSampleNumber_0 a4 M) (fun z3 => ?_)
      refine q_br (w_PI M) (.ifCond .ne 5) 3 rfl rfl rfl (f10_isSampleNumber_0 a4 M = 0) 24 26 [] rfl (fun _ => ?_) (fun _ => ?_)
      · refine q_const (.iconst (-1)) 1 rfl rfl rfl 25 (-1) _ rfl cd_kjm1 ?_
        exact r_ret .ireturn 1 rfl rfl rfl _ rfl
      · refine r_ld (.aload_n 1) 1 2 1 (.ref 5) rfl rfl rfl rfl 27 rfl ?_
        refine r_ld (.iload_n 2) 1 0 2 (.int (a2)) rfl rfl rfl rfl 28 rfl ?_
        refine r_ld (.iload_n 3) 1 0 3 (.int (a3)) rfl rfl rfl rfl 29 rfl ?_
        refine q_cL (w_PI M) rfl (.invokevirtual 330) rfl rfl rfl 16 [.ref 5, .int (a2), .int (a3)] [] rfl (k1_row_5 a2 a3 M) (fun v4 => ?_)
        refine r_ld (.iload 4) 2 0 4 (.int (a4)) rfl rfl rfl rfl 34 rfl ?_
        refine q_cTI (.invokestatic 333) rfl rfl rfl 158 [.long (v4), .int (a4)] [] rfl (k10_sampleOf v4 a4 M) ?_
        exact r_ret .ireturn 1 rfl rfl rfl _ rfl
def f10_frame_0 (a1 : Int32) (a2 : Int32) (a3 : Int32) (M : cd_M) : Option (Int32) := (f10_sampleOfFrame_0_5 a1 a2 a3 M).bind fun v1 => some v1
set_option maxRecDepth 8000 in
theorem k10_frame_0 (a1 : Int32) (a2 : Int32) (a3 : Int32) (M : cd_M) : cd_R 129 0 [some (.ref 0), some (.int (a1)), some (.int (a2)), some (.int (a3))] [] M ((w_PI M) (f10_frame_0 a1 a2 a3 M)) := by
  unfold f10_frame_0
  refine r_ld (.aload_n 0) 1 2 0 (.ref 0) rfl rfl rfl rfl 1 rfl ?_
  refine r_ld (.aload_n 0) 1 2 0 (.ref 0) rfl rfl rfl rfl 2 rfl ?_
  refine r_go (.getfield 21) 3 rfl rfl rfl 5 [.ref 5, .ref 0] rfl ?_
  refine r_ld (.iload_n 1) 1 0 1 (.int (a1)) rfl rfl rfl rfl 6 rfl ?_
  refine r_ld (.iload_n 2) 1 0 2 (.int (a2)) rfl rfl rfl rfl 7 rfl ?_
  refine r_ld (.iload_n 3) 1 0 3 (.int (a3)) rfl rfl rfl rfl 8 rfl ?_
  refine q_cI (w_PI M) rfl (.invokevirtual 139) rfl rfl rfl 155 [.ref 0, .ref 5, .int (a1), .int (a2), .int (a3)] [] rfl (k10_sampleOfFrame_0_5 a1 a2 a3 M) (fun v1 => ?_)
  exact r_ret .ireturn 1 rfl rfl rfl _ rfl
def f5_hasCadence_6 (a1 : Int32) (M : cd_M) : Int32 := if a1 < 0 then (0) else (if M.1 6 3 ≤ a1 then (0) else (1))
set_option maxRecDepth 8000 in
theorem k5_hasCadence_6 (a1 : Int32) (M : cd_M) : cd_R 61 0 [some (.ref 6), some (.int (a1))] [] M ((w_TI M) (f5_hasCadence_6 a1 M)) := by
  unfold f5_hasCadence_6
  refine r_ld (.iload_n 1) 1 0 1 (.int (a1)) rfl rfl rfl rfl 1 rfl ?_
  refine q_br (w_TI M) (.ifCond .lt 15) 3 rfl rfl rfl (a1 < 0) 16 4 [] rfl (fun _ => ?_) (fun _ => ?_)
  · refine q_const (.iconst 0) 1 rfl rfl rfl 17 (0) _ rfl cd_kj0 ?_
    exact r_retZ rfl rfl (by decide)
  · refine r_ld (.iload_n 1) 1 0 1 (.int (a1)) rfl rfl rfl rfl 5 rfl ?_
    refine r_ld (.aload_n 0) 1 2 0 (.ref 6) rfl rfl rfl rfl 6 rfl ?_
    refine r_go (.getfield 21) 3 rfl rfl rfl 9 [.int (M.1 6 3), .int (a1)] rfl ?_
    refine q_br (w_TI M) (.if_icmp .ge 7) 3 rfl rfl rfl (M.1 6 3 ≤ a1) 16 12 [] rfl (fun _ => ?_) (fun _ => ?_)
    · refine q_const (.iconst 0) 1 rfl rfl rfl 17 (0) _ rfl cd_kj0 ?_
      exact r_retZ rfl rfl (by decide)
    · refine q_const (.iconst 1) 1 rfl rfl rfl 13 (1) _ rfl cd_kj1 ?_
      refine r_go (.goto 4) 3 rfl rfl rfl 17 [.int (1)] rfl ?_
      exact r_retZ rfl rfl (by decide)
def f5_length_6 (a1 : Int32) (M : cd_M) : Option (Int32) := if f5_hasCadence_6 a1 M = 0 then (some 0) else (if cd_in a1 4 = true then (some (M.1 26 a1.toNatClampNeg)) else none)
set_option maxRecDepth 8000 in
theorem k5_length_6 (a1 : Int32) (M : cd_M) : cd_R 62 0 [some (.ref 6), some (.int (a1))] [] M ((w_PI M) (f5_length_6 a1 M)) := by
  unfold f5_length_6
  refine r_ld (.aload_n 0) 1 2 0 (.ref 6) rfl rfl rfl rfl 1 rfl ?_
  refine r_ld (.iload_n 1) 1 0 1 (.int (a1)) rfl rfl rfl rfl 2 rfl ?_
  refine q_cTIz (.invokevirtual 41) rfl rfl rfl 61 rfl [.ref 6, .int (a1)] [] rfl (k5_hasCadence_6 a1 M) (fun z1 => ?_)
  refine q_br (w_PI M) (.ifCond .eq 12) 3 rfl rfl rfl (f5_hasCadence_6 a1 M = 0) 17 8 [] rfl (fun _ => ?_) (fun _ => ?_)
  · refine q_const (.iconst 0) 1 rfl rfl rfl 18 (0) _ rfl cd_kj0 ?_
    exact r_ret .ireturn 1 rfl rfl rfl _ rfl
  · refine r_ld (.aload_n 0) 1 2 0 (.ref 6) rfl rfl rfl rfl 9 rfl ?_
    refine r_go (.getfield 15) 3 rfl rfl rfl 12 [.ref 26] rfl ?_
    refine r_ld (.iload_n 1) 1 0 1 (.int (a1)) rfl rfl rfl rfl 13 rfl ?_
    refine q_iald (w_PI M) rfl rfl 26 4 rfl ?_
    refine r_go (.goto 4) 3 rfl rfl rfl 18 [.int (M.1 26 a1.toNatClampNeg)] rfl ?_
    exact r_ret .ireturn 1 rfl rfl rfl _ rfl
def f5_hasPlace_6 (a1 : Int32) (a2 : Int32) (M : cd_M) : Option (Int32) := if a2 < 0 then (some 0) else ((f5_length_6 a1 M).bind fun v1 => if v1 ≤ a2 then (some 0) else (some 1))
set_option maxRecDepth 8000 in
theorem k5_hasPlace_6 (a1 : Int32) (a2 : Int32) (M : cd_M) : cd_R 63 0 [some (.ref 6), some (.int (a1)), some (.int (a2))] [] M ((w_PI M) (f5_hasPlace_6 a1 a2 M)) := by
  unfold f5_hasPlace_6
  refine r_ld (.iload_n 2) 1 0 2 (.int (a2)) rfl rfl rfl rfl 1 rfl ?_
  refine q_br (w_PI M) (.ifCond .lt 16) 3 rfl rfl rfl (a2 < 0) 17 4 [] rfl (fun _ => ?_) (fun _ => ?_)
  · refine q_const (.iconst 0) 1 rfl rfl rfl 18 (0) _ rfl cd_kj0 ?_
    exact r_retZ rfl rfl (by decide)
  · refine r_ld (.iload_n 2) 1 0 2 (.int (a2)) rfl rfl rfl rfl 5 rfl ?_
    refine r_ld (.aload_n 0) 1 2 0 (.ref 6) rfl rfl rfl rfl 6 rfl ?_
    refine r_ld (.iload_n 1) 1 0 1 (.int (a1)) rfl rfl rfl rfl 7 rfl ?_
    refine q_cI (w_PI M) rfl (.invokevirtual 45) rfl rfl rfl 62 [.ref 6, .int (a1)] [.int (a2)] rfl (k5_length_6 a1 M) (fun v1 => ?_)
    refine q_br (w_PI M) (.if_icmp .ge 7) 3 rfl rfl rfl (v1 ≤ a2) 17 13 [] rfl (fun _ => ?_) (fun _ => ?_)
    · refine q_const (.iconst 0) 1 rfl rfl rfl 18 (0) _ rfl cd_kj0 ?_
      exact r_retZ rfl rfl (by decide)
    · refine q_const (.iconst 1) 1 rfl rfl rfl 14 (1) _ rfl cd_kj1 ?_
      refine r_go (.goto 4) 3 rfl rfl rfl 18 [.int (1)] rfl ?_
      exact r_retZ rfl rfl (by decide)
def f5_number_6 (a1 : Int32) (a2 : Int32) (M : cd_M) : Option (Int32) := (f5_hasPlace_6 a1 a2 M).bind fun v1 => if v1 = 0 then (some 0) else (if cd_in ((a1 * 6) + a2) 24 = true then (some (M.1 25 ((a1 * 6) + a2 : Int32).toNatClampNeg)) else none)
set_option maxRecDepth 8000 in
theorem k5_number_6 (a1 : Int32) (a2 : Int32) (M : cd_M) : cd_R 64 0 [some (.ref 6), some (.int (a1)), some (.int (a2))] [] M ((w_PI M) (f5_number_6 a1 a2 M)) := by
  unfold f5_number_6
  refine r_ld (.aload_n 0) 1 2 0 (.ref 6) rfl rfl rfl rfl 1 rfl ?_
  refine r_ld (.iload_n 1) 1 0 1 (.int (a1)) rfl rfl rfl rfl 2 rfl ?_
  refine r_ld (.iload_n 2) 1 0 2 (.int (a2)) rfl rfl rfl rfl 3 rfl ?_
  refine q_cIz (w_PI M) rfl (.invokevirtual 49) rfl rfl rfl 63 rfl [.ref 6, .int (a1), .int (a2)] [] rfl (k5_hasPlace_6 a1 a2 M) (fun v1 z2 => ?_)
  refine q_br (w_PI M) (.ifCond .eq 17) 3 rfl rfl rfl (v1 = 0) 23 9 [] rfl (fun _ => ?_) (fun _ => ?_)
  · refine q_const (.iconst 0) 1 rfl rfl rfl 24 (0) _ rfl cd_kj0 ?_
    exact r_ret .ireturn 1 rfl rfl rfl _ rfl
  · refine r_ld (.aload_n 0) 1 2 0 (.ref 6) rfl rfl rfl rfl 10 rfl ?_
    refine r_go (.getfield 9) 3 rfl rfl rfl 13 [.ref 25] rfl ?_
    refine r_ld (.iload_n 1) 1 0 1 (.int (a1)) rfl rfl rfl rfl 14 rfl ?_
    refine q_const (.bipush 6) 2 rfl rfl rfl 16 (6) _ rfl cd_kc6 ?_
    refine r_go (.imul) 1 rfl rfl rfl 17 [.int (a1 * 6), .ref 25] rfl ?_
    refine r_ld (.iload_n 2) 1 0 2 (.int (a2)) rfl rfl rfl rfl 18 rfl ?_
    refine r_go (.iadd) 1 rfl rfl rfl 19 [.int ((a1 * 6) + a2), .ref 25] rfl ?_
    refine q_iald (w_PI M) rfl rfl 25 24 rfl ?_
    refine r_go (.goto 4) 3 rfl rfl rfl 24 [.int (M.1 25 ((a1 * 6) + a2 : Int32).toNatClampNeg)] rfl ?_
    exact r_ret .ireturn 1 rfl rfl rfl _ rfl
def f10_cadence_0 (a1 : Int32) (a2 : Int32) (M : cd_M) : Option (Int32) := if f5_hasCadence_6 a1 M = 0 then (some (-1)) else (if a2 = (-1) then ((f5_length_6 a1 M).bind fun v2 => some v2) else ((f5_hasPlace_6 a1 a2 M).bind fun v3 => if v3 = 0 then (some (-1)) else ((f5_number_6 a1 a2 M).bind fun v5 => some v5)))
set_option maxRecDepth 8000 in
theorem k10_cadence_0 (a1 : Int32) (a2 : Int32) (M : cd_M) : cd_R 130 0 [some (.ref 0), some (.int (a1)), some (.int (a2))] [] M ((w_PI M) (f10_cadence_0 a1 a2 M)) := by
  unfold f10_cadence_0
  refine r_ld (.aload_n 0) 1 2 0 (.ref 0) rfl rfl rfl rfl 1 rfl ?_
  refine r_go (.getfield 28) 3 rfl rfl rfl 4 [.ref 6] rfl ?_
  refine r_ld (.iload_n 1) 1 0 1 (.int (a1)) rfl rfl rfl rfl 5 rfl ?_
  refine q_cTIz (.invokevirtual 143) rfl rfl rfl 61 rfl [.ref 6, .int (a1)] [] rfl (k5_hasCadence_6 a1 M) (fun z1 => ?_)
  refine q_br (w_PI M) (.ifCond .ne 5) 3 rfl rfl rfl (f5_hasCadence_6 a1 M = 0) 11 13 [] rfl (fun _ => ?_) (fun _ => ?_)
  · refine q_const (.iconst (-1)) 1 rfl rfl rfl 12 (-1) _ rfl cd_kjm1 ?_
    exact r_ret .ireturn 1 rfl rfl rfl _ rfl
  · refine r_ld (.iload_n 2) 1 0 2 (.int (a2)) rfl rfl rfl rfl 14 rfl ?_
    refine q_const (.iconst (-1)) 1 rfl rfl rfl 15 (-1) _ rfl cd_kjm1 ?_
    refine q_br (w_PI M) (.if_icmp .ne 12) 3 rfl rfl rfl (a2 = (-1)) 18 27 [] rfl (fun _ => ?_) (fun _ => ?_)
    · refine r_ld (.aload_n 0) 1 2 0 (.ref 0) rfl rfl rfl rfl 19 rfl ?_
      refine r_go (.getfield 28) 3 rfl rfl rfl 22 [.ref 6] rfl ?_
      refine r_ld (.iload_n 1) 1 0 1 (.int (a1)) rfl rfl rfl rfl 23 rfl ?_
      refine q_cI (w_PI M) rfl (.invokevirtual 146) rfl rfl rfl 62 [.ref 6, .int (a1)] [] rfl (k5_length_6 a1 M) (fun v2 => ?_)
      exact r_ret .ireturn 1 rfl rfl rfl _ rfl
    · refine r_ld (.aload_n 0) 1 2 0 (.ref 0) rfl rfl rfl rfl 28 rfl ?_
      refine r_go (.getfield 28) 3 rfl rfl rfl 31 [.ref 6] rfl ?_
      refine r_ld (.iload_n 1) 1 0 1 (.int (a1)) rfl rfl rfl rfl 32 rfl ?_
      refine r_ld (.iload_n 2) 1 0 2 (.int (a2)) rfl rfl rfl rfl 33 rfl ?_
      refine q_cIz (w_PI M) rfl (.invokevirtual 150) rfl rfl rfl 63 rfl [.ref 6, .int (a1), .int (a2)] [] rfl (k5_hasPlace_6 a1 a2 M) (fun v3 z4 => ?_)
      refine q_br (w_PI M) (.ifCond .eq 15) 3 rfl rfl rfl (v3 = 0) 51 39 [] rfl (fun _ => ?_) (fun _ => ?_)
      · refine q_const (.iconst (-1)) 1 rfl rfl rfl 52 (-1) _ rfl cd_kjm1 ?_
        exact r_ret .ireturn 1 rfl rfl rfl _ rfl
      · refine r_ld (.aload_n 0) 1 2 0 (.ref 0) rfl rfl rfl rfl 40 rfl ?_
        refine r_go (.getfield 28) 3 rfl rfl rfl 43 [.ref 6] rfl ?_
        refine r_ld (.iload_n 1) 1 0 1 (.int (a1)) rfl rfl rfl rfl 44 rfl ?_
        refine r_ld (.iload_n 2) 1 0 2 (.int (a2)) rfl rfl rfl rfl 45 rfl ?_
        refine q_cI (w_PI M) rfl (.invokevirtual 154) rfl rfl rfl 64 [.ref 6, .int (a1), .int (a2)] [] rfl (k5_number_6 a1 a2 M) (fun v5 => ?_)
        refine r_go (.goto 4) 3 rfl rfl rfl 52 [.int (v5)] rfl ?_
        exact r_ret .ireturn 1 rfl rfl rfl _ rfl
def f10_force_0 (a1 : Int32) (M : cd_M) : Int32 × cd_M := if f5_hasCadence_6 a1 M = 0 then (((-1), M)) else (cd_lt (M.1 0 10) fun x2 => cd_lt (cd_wI M 0 10 a1) fun M3 => cd_lt (cd_wI M3 0 11 0) fun M4 => (x2, M4))
set_option maxRecDepth 8000 in
theorem k10_force_0 (a1 : Int32) (M : cd_M) : cd_R 131 0 [some (.ref 0), some (.int (a1)), none] [] M (w_TM (f10_force_0 a1 M)) := by
  unfold f10_force_0
  refine r_ld (.aload_n 0) 1 2 0 (.ref 0) rfl rfl rfl rfl 1 rfl ?_
  refine r_go (.getfield 28) 3 rfl rfl rfl 4 [.ref 6] rfl ?_
  refine r_ld (.iload_n 1) 1 0 1 (.int (a1)) rfl rfl rfl rfl 5 rfl ?_
  refine q_cTIz (.invokevirtual 143) rfl rfl rfl 61 rfl [.ref 6, .int (a1)] [] rfl (k5_hasCadence_6 a1 M) (fun z1 => ?_)
  refine q_br w_TM (.ifCond .ne 5) 3 rfl rfl rfl (f5_hasCadence_6 a1 M = 0) 11 13 [] rfl (fun _ => ?_) (fun _ => ?_)
  · refine q_const (.iconst (-1)) 1 rfl rfl rfl 12 (-1) _ rfl cd_kjm1 ?_
    exact r_ret .ireturn 1 rfl rfl rfl _ rfl
  · refine r_ld (.aload_n 0) 1 2 0 (.ref 0) rfl rfl rfl rfl 14 rfl ?_
    refine r_go (.getfield 74) 3 rfl rfl rfl 17 [.int (M.1 0 10)] rfl ?_
    refine q_stB w_TM (.istore_n 2) 1 0 2 rfl rfl (fun _ => rfl) 18 rfl (fun x2 => [some (.ref 0), some (.int (a1)), some (.int (x2))]) (fun _ => rfl) (fun x2 => ?_)
    refine r_ld (.aload_n 0) 1 2 0 (.ref 0) rfl rfl rfl rfl 19 rfl ?_
    refine r_ld (.iload_n 1) 1 0 1 (.int (a1)) rfl rfl rfl rfl 20 rfl ?_
    refine q_wr w_TM (.putfield 74) 3 rfl rfl rfl 23 [] (cd_wI M 0 10 a1) rfl (fun M3 => ?_)
    refine r_ld (.aload_n 0) 1 2 0 (.ref 0) rfl rfl rfl rfl 24 rfl ?_
    refine q_const (.iconst 0) 1 rfl rfl rfl 25 (0) _ rfl cd_kj0 ?_
    refine q_wr w_TM (.putfield 78) 3 rfl rfl rfl 28 [] (cd_wI M3 0 11 0) rfl (fun M4 => ?_)
    refine r_ld (.iload_n 2) 1 0 2 (.int (x2)) rfl rfl rfl rfl 29 rfl ?_
    exact r_ret .ireturn 1 rfl rfl rfl _ rfl
def f3_keep_8_7_L58 (s0 : Int32) (M : cd_M) : Option cd_M := cd_lt (cd_wI M 8 2 s0) fun M3 => cd_lt (cd_wI M3 8 3 (if 12 < ((M3.1 8 3) + 1) then 12 else ((M3.1 8 3) + 1))) fun M4 => some M4
set_option maxRecDepth 8000 in
theorem k3_keep_8_7_L58 (s0 : Int32) (M : cd_M) : cd_R 39 58 [some (.ref 8), none] [.int (s0), .ref 8] M (w_PV (f3_keep_8_7_L58 s0 M)) := by
  unfold f3_keep_8_7_L58
  refine q_wr w_PV (.putfield 19) 3 rfl rfl rfl 61 [] (cd_wI M 8 2 s0) rfl (fun M3 => ?_)
  refine r_ld (.aload_n 0) 1 2 0 (.ref 8) rfl rfl rfl rfl 62 rfl ?_
  refine r_ld (.aload_n 0) 1 2 0 (.ref 8) rfl rfl rfl rfl 63 rfl ?_
  refine r_go (.getfield 23) 3 rfl rfl rfl 66 [.int (M3.1 8 3), .ref 8] rfl ?_
  refine q_const (.iconst 1) 1 rfl rfl rfl 67 (1) _ rfl cd_kj1 ?_
  refine r_go (.iadd) 1 rfl rfl rfl 68 [.int ((M3.1 8 3) + 1), .ref 8] rfl ?_
  refine q_const (.bipush 12) 2 rfl rfl rfl 70 (12) _ rfl cd_kc12 ?_
  refine r_go (.invokestatic 38) 3 rfl rfl rfl 73 [.int (if 12 < ((M3.1 8 3) + 1) then 12 else ((M3.1 8 3) + 1)), .ref 8] rfl ?_
  refine q_wr w_PV (.putfield 23) 3 rfl rfl rfl 76 [] (cd_wI M3 8 3 (if 12 < ((M3.1 8 3) + 1) then 12 else ((M3.1 8 3) + 1))) rfl (fun M4 => ?_)
  exact r_ret .return_ 1 rfl rfl rfl _ rfl
def f3_keep_8_7 (M : cd_M) : Option cd_M := if cd_cpOK 0 ((M.1 8 2) * 90) (M.1 7 1) 90 1080 then (cd_lt (cd_cL M 28 29 (0 : Int32).toNatClampNeg ((M.1 8 2) * 90 : Int32).toNatClampNeg (M.1 7 1 : Int32).toNatClampNeg) fun M1 => if cd_in (M1.1 8 2) 12 = true then (cd_lt (cd_wI M1 30 (M1.1 8 2 : Int32).toNatClampNeg (M1.1 7 1)) fun M2 => if 12 ≤ (M2.1 8 2) + 1 then (f3_keep_8_7_L58 0 M2) else (f3_keep_8_7_L58 ((M2.1 8 2) + 1) M2)) else none) else none
set_option maxRecDepth 8000 in
theorem k3_keep_8_7 (M : cd_M) : cd_R 39 0 [some (.ref 8), some (.ref 7)] [] M (w_PV (f3_keep_8_7 M)) := by
  unfold f3_keep_8_7
  refine r_ld (.aload_n 1) 1 2 1 (.ref 7) rfl rfl rfl rfl 1 rfl ?_
  refine r_go (.getfield 26) 3 rfl rfl rfl 4 [.ref 28] rfl ?_
  refine q_const (.iconst 0) 1 rfl rfl rfl 5 (0) _ rfl cd_kj0 ?_
  refine r_ld (.aload_n 0) 1 2 0 (.ref 8) rfl rfl rfl rfl 6 rfl ?_
  refine r_go (.getfield 9) 3 rfl rfl rfl 9 [.ref 29, .int (0), .ref 28] rfl ?_
  refine r_ld (.aload_n 0) 1 2 0 (.ref 8) rfl rfl rfl rfl 10 rfl ?_
  refine r_go (.getfield 19) 3 rfl rfl rfl 13 [.int (M.1 8 2), .ref 29, .int (0), .ref 28] rfl ?_
  refine q_const (.bipush 90) 2 rfl rfl rfl 15 (90) _ rfl cd_kc90 ?_
  refine r_go (.imul) 1 rfl rfl rfl 16 [.int ((M.1 8 2) * 90), .ref 29, .int (0), .ref 28] rfl ?_
  refine r_ld (.aload_n 1) 1 2 1 (.ref 7) rfl rfl rfl rfl 17 rfl ?_
  refine r_go (.getfield 31) 3 rfl rfl rfl 20 [.int (M.1 7 1), .int ((M.1 8 2) * 90), .ref 29, .int (0), .ref 28] rfl ?_
  refine q_cpy w_PV rfl (.invokestatic 32) rfl rfl rfl 28 90 29 1080 21 rfl rfl (cd_cL M 28 29 (0 : Int32).toNatClampNeg ((M.1 8 2) * 90 : Int32).toNatClampNeg (M.1 7 1 : Int32).toNatClampNeg) (fun h => cd_cpL _ rfl rfl rfl rfl h) (fun M1 => ?_)
  refine r_ld (.aload_n 0) 1 2 0 (.ref 8) rfl rfl rfl rfl 24 rfl ?_
  refine r_go (.getfield 15) 3 rfl rfl rfl 27 [.ref 30] rfl ?_
  refine r_ld (.aload_n 0) 1 2 0 (.ref 8) rfl rfl rfl rfl 28 rfl ?_
  refine r_go (.getfield 19) 3 rfl rfl rfl 31 [.int (M1.1 8 2), .ref 30] rfl ?_
  refine r_ld (.aload_n 1) 1 2 1 (.ref 7) rfl rfl rfl rfl 32 rfl ?_
  refine r_go (.getfield 31) 3 rfl rfl rfl 35 [.int (M1.1 7 1), .int (M1.1 8 2), .ref 30] rfl ?_
  refine q_iast w_PV rfl rfl 30 12 rfl (fun M2 => ?_)
  refine r_ld (.aload_n 0) 1 2 0 (.ref 8) rfl rfl rfl rfl 37 rfl ?_
  refine r_ld (.aload_n 0) 1 2 0 (.ref 8) rfl rfl rfl rfl 38 rfl ?_
  refine r_go (.getfield 19) 3 rfl rfl rfl 41 [.int (M2.1 8 2), .ref 8] rfl ?_
  refine q_const (.iconst 1) 1 rfl rfl rfl 42 (1) _ rfl cd_kj1 ?_
  refine r_go (.iadd) 1 rfl rfl rfl 43 [.int ((M2.1 8 2) + 1), .ref 8] rfl ?_
  refine q_const (.bipush 12) 2 rfl rfl rfl 45 (12) _ rfl cd_kc12 ?_
  refine q_br w_PV (.if_icmp .ge 12) 3 rfl rfl rfl (12 ≤ (M2.1 8 2) + 1) 57 48 [.ref 8] rfl (fun _ => ?_) (fun _ => ?_)
  · refine q_const (.iconst 0) 1 rfl rfl rfl 58 (0) _ rfl cd_kj0 ?_
    exact r_w (k3_keep_8_7_L58 0 M2) (cd_le_s (cd_le_n cd_le_0))
  · refine r_ld (.aload_n 0) 1 2 0 (.ref 8) rfl rfl rfl rfl 49 rfl ?_
    refine r_go (.getfield 19) 3 rfl rfl rfl 52 [.int (M2.1 8 2), .ref 8] rfl ?_
    refine q_const (.iconst 1) 1 rfl rfl rfl 53 (1) _ rfl cd_kj1 ?_
    refine r_go (.iadd) 1 rfl rfl rfl 54 [.int ((M2.1 8 2) + 1), .ref 8] rfl ?_
    refine r_go (.goto 4) 3 rfl rfl rfl 58 [.int ((M2.1 8 2) + 1), .ref 8] rfl ?_
    exact r_w (k3_keep_8_7_L58 ((M2.1 8 2) + 1) M2) (cd_le_s (cd_le_n cd_le_0))
def f10_beginAct_0 (M : cd_M) : Option cd_M := (f3_keep_8_7 M).bind fun M1 => (f10_forgetPaths_0 M1).bind fun M2 => some M2
set_option maxRecDepth 8000 in
theorem k10_beginAct_0 (M : cd_M) : cd_R 151 0 [some (.ref 0)] [] M (w_PV (f10_beginAct_0 M)) := by
  unfold f10_beginAct_0
  refine r_ld (.aload_n 0) 1 2 0 (.ref 0) rfl rfl rfl rfl 1 rfl ?_
  refine r_go (.getfield 42) 3 rfl rfl rfl 4 [.ref 8] rfl ?_
  refine r_ld (.aload_n 0) 1 2 0 (.ref 0) rfl rfl rfl rfl 5 rfl ?_
  refine r_go (.getfield 35) 3 rfl rfl rfl 8 [.ref 7, .ref 8] rfl ?_
  refine q_cV w_PV rfl (.invokevirtual 307) rfl rfl rfl 39 [.ref 8, .ref 7] [] rfl (k3_keep_8_7 M) (fun M1 => ?_)
  refine r_ld (.aload_n 0) 1 2 0 (.ref 0) rfl rfl rfl rfl 12 rfl ?_
  refine q_cV w_PV rfl (.invokevirtual 122) rfl rfl rfl 152 [.ref 0] [] rfl (k10_forgetPaths_0 M1) (fun M2 => ?_)
  exact r_ret .return_ 1 rfl rfl rfl _ rfl
def f4_addField_7 (a1 : Int64) (a2 : Int32) (M : cd_M) : Option cd_M := if 90 ≤ M.1 7 1 then (some M) else (if cd_in (M.1 7 1) 90 = true then (cd_lt (cd_wL M 28 (M.1 7 1 : Int32).toNatClampNeg (a1 ||| ((a2.toInt64 : Int64) <<< ((42 : Int32).toInt64 &&& 63) : Int64))) fun M1 => cd_lt (cd_wI M1 7 1 ((M1.1 7 1) + 1)) fun M2 => some M2) else none)
set_option maxRecDepth 8000 in
theorem k4_addField_7 (a1 : Int64) (a2 : Int32) (M : cd_M) : cd_R 50 0 [some (.ref 7), some (.long (a1)), none, some (.int (a2))] [] M (w_PV (f4_addField_7 a1 a2 M)) := by
  unfold f4_addField_7
  refine r_ld (.aload_n 0) 1 2 0 (.ref 7) rfl rfl rfl rfl 1 rfl ?_
  refine r_go (.getfield 15) 3 rfl rfl rfl 4 [.int (M.1 7 1)] rfl ?_
  refine q_const (.bipush 90) 2 rfl rfl rfl 6 (90) _ rfl cd_kc90 ?_
  refine q_br w_PV (.if_icmp .ge 29) 3 rfl rfl rfl (90 ≤ M.1 7 1) 35 9 [] rfl (fun _ => ?_) (fun _ => ?_)
  · exact r_ret .return_ 1 rfl rfl rfl _ rfl
  · refine r_ld (.aload_n 0) 1 2 0 (.ref 7) rfl rfl rfl rfl 10 rfl ?_
    refine r_go (.getfield 11) 3 rfl rfl rfl 13 [.ref 28] rfl ?_
    refine r_ld (.aload_n 0) 1 2 0 (.ref 7) rfl rfl rfl rfl 14 rfl ?_
    refine r_go (.getfield 15) 3 rfl rfl rfl 17 [.int (M.1 7 1), .ref 28] rfl ?_
    refine r_ld (.lload_n 1) 1 1 1 (.long (a1)) rfl rfl rfl rfl 18 rfl ?_
    refine r_ld (.iload_n 3) 1 0 3 (.int (a2)) rfl rfl rfl rfl 19 rfl ?_
    refine r_go (.i2l) 1 rfl rfl rfl 20 [.long (a2.toInt64), .long (a1), .int (M.1 7 1), .ref 28] rfl ?_
    refine q_const (.bipush 42) 2 rfl rfl rfl 22 (42) _ rfl cd_kc42 ?_
    refine r_go (.lshl) 1 rfl rfl rfl 23 [.long ((a2.toInt64 : Int64) <<< ((42 : Int32).toInt64 &&& 63)), .long (a1), .int (M.1 7 1), .ref 28] rfl ?_
    refine r_go (.lor) 1 rfl rfl rfl 24 [.long (a1 ||| ((a2.toInt64 : Int64) <<< ((42 : Int32).toInt64 &&& 63) : Int64)), .int (M.1 7 1), .ref 28] rfl ?_
    refine q_last w_PV rfl rfl 28 90 rfl (fun M1 => ?_)
    refine r_ld (.aload_n 0) 1 2 0 (.ref 7) rfl rfl rfl rfl 26 rfl ?_
    refine r_go (.dup) 1 rfl rfl rfl 27 [.ref 7, .ref 7] rfl ?_
    refine r_go (.getfield 15) 3 rfl rfl rfl 30 [.int (M1.1 7 1), .ref 7] rfl ?_
    refine q_const (.iconst 1) 1 rfl rfl rfl 31 (1) _ rfl cd_kj1 ?_
    refine r_go (.iadd) 1 rfl rfl rfl 32 [.int ((M1.1 7 1) + 1), .ref 7] rfl ?_
    refine q_wr w_PV (.putfield 15) 3 rfl rfl rfl 35 [] (cd_wI M1 7 1 ((M1.1 7 1) + 1)) rfl (fun M2 => ?_)
    exact r_ret .return_ 1 rfl rfl rfl _ rfl
def f4_carryFrames_7_5_6_L90 (r16 : Int32 → Int32 → Int32 → Int32 → cd_M → Option cd_M) (a3 : Int32) (a7 : Int32) (a8 : Int32) (s0 : Int32) (M : cd_M) : Option cd_M := cd_lt (a8 + (1)) fun x5 => r16 a3 s0 a7 x5 M
set_option maxRecDepth 8000 in
theorem k4_carryFrames_7_5_6_L90 (r16 : Int32 → Int32 → Int32 → Int32 → cd_M → Option cd_M) (h16 : ∀ (a3 : Int32) (a6 : Int32) (a7 : Int32) (a8 : Int32) (M : cd_M), cd_R 49 16 [some (.ref 7), some (.ref 5), some (.ref 6), some (.int (a3)), none, none, some (.int (a6)), some (.int (a7)), some (.int (a8)), none, none] [] M (w_PV (r16 a3 a6 a7 a8 M))) (a3 : Int32) (a7 : Int32) (a8 : Int32) (s0 : Int32) (M : cd_M) : cd_R 49 90 [some (.ref 7), some (.ref 5), some (.ref 6), some (.int (a3)), none, none, none, some (.int (a7)), some (.int (a8)), none, none] [.int (s0)] M (w_PV (f4_carryFrames_7_5_6_L90 r16 a3 a7 a8 s0 M)) := by
  unfold f4_carryFrames_7_5_6_L90
  refine r_st (.istore 6) 2 0 6 rfl rfl rfl 92 rfl [some (.ref 7), some (.ref 5), some (.ref 6), some (.int (a3)), none, none, some (.int (s0)), some (.int (a7)), some (.int (a8)), none, none] rfl ?_
  refine q_inc w_PV 8 (1) (a8) rfl rfl rfl 95 rfl (1) cd_kj1 (fun x5 => [some (.ref 7), some (.ref 5), some (.ref 6), some (.int (a3)), none, none, some (.int (s0)), some (.int (a7)), some (.int (x5)), none, none]) (fun _ => rfl) (fun x5 => ?_)
  refine r_go (.goto (-79)) 3 rfl rfl rfl 16 [] rfl ?_
  exact r_w (h16 a3 s0 a7 x5 M) (cd_le_s (cd_le_s (cd_le_s (cd_le_s (cd_le_n (cd_le_n (cd_le_s (cd_le_s (cd_le_s (cd_le_n (cd_le_n cd_le_0)))))))))))
def f4_carryFrames_7_5_6_L37 (r16 : Int32 → Int32 → Int32 → Int32 → cd_M → Option cd_M) : Nat → Int32 → Int32 → Int32 → Int32 → Int32 → Int32 → cd_M → Option cd_M
  | 0, _, _, _, _, _, _, _ => none
  | n + 1, a3, a6, a7, a8, a9, a10, M => if a9 ≤ a10 then ((f5_hasPlace_6 a3 (a6 + 1) M).bind fun v3 => if v3 = 0 then (f4_carryFrames_7_5_6_L90 r16 a3 a7 a8 0 M) else (f4_carryFrames_7_5_6_L90 r16 a3 a7 a8 (a6 + 1) M)) else ((f1_row_5 a8 a7 M).bind fun v6 => (f4_addField_7 v6 a7 M).bind fun M7 => cd_lt (1 - a7) fun x8 => cd_lt (a10 + (1)) fun x9 => f4_carryFrames_7_5_6_L37 r16 n a3 a6 x8 a8 a9 x9 M7)
set_option maxRecDepth 8000 in
theorem k4_carryFrames_7_5_6_L37 (r16 : Int32 → Int32 → Int32 → Int32 → cd_M → Option cd_M) (h16 : ∀ (a3 : Int32) (a6 : Int32) (a7 : Int32) (a8 : Int32) (M : cd_M), cd_R 49 16 [some (.ref 7), some (.ref 5), some (.ref 6), some (.int (a3)), none, none, some (.int (a6)), some (.int (a7)), some (.int (a8)), none, none] [] M (w_PV (r16 a3 a6 a7 a8 M))) : ∀ (n : Nat) (a3 : Int32) (a6 : Int32) (a7 : Int32) (a8 : Int32) (a9 : Int32) (a10 : Int32) (M : cd_M), cd_R 49 37 [some (.ref 7), some (.ref 5), some (.ref 6), some (.int (a3)), none, none, some (.int (a6)), some (.int (a7)), some (.int (a8)), some (.int (a9)), some (.int (a10))] [] M (w_PV (f4_carryFrames_7_5_6_L37 r16 n a3 a6 a7 a8 a9 a10 M)) := by
  intro n
  induction n with
  | zero =>
    intro a3 a6 a7 a8 a9 a10 M
    exact q_none w_PV rfl
  | succ n ih =>
    intro a3 a6 a7 a8 a9 a10 M
    rw [f4_carryFrames_7_5_6_L37]
    refine r_ld (.iload 10) 2 0 10 (.int (a10)) rfl rfl rfl rfl 39 rfl ?_
    refine r_ld (.iload 9) 2 0 9 (.int (a9)) rfl rfl rfl rfl 41 rfl ?_
    refine q_br w_PV (.if_icmp .ge 29) 3 rfl rfl rfl (a9 ≤ a10) 70 44 [] rfl (fun _ => ?_) (fun _ => ?_)
    · refine r_ld (.aload_n 2) 1 2 2 (.ref 6) rfl rfl rfl rfl 71 rfl ?_
      refine r_ld (.iload_n 3) 1 0 3 (.int (a3)) rfl rfl rfl rfl 72 rfl ?_
      refine r_ld (.iload 6) 2 0 6 (.int (a6)) rfl rfl rfl rfl 74 rfl ?_
      refine q_const (.iconst 1) 1 rfl rfl rfl 75 (1) _ rfl cd_kj1 ?_
      refine r_go (.iadd) 1 rfl rfl rfl 76 [.int (a6 + 1), .int (a3), .ref 6] rfl ?_
      refine q_cIz w_PV rfl (.invokevirtual 55) rfl rfl rfl 63 rfl [.ref 6, .int (a3), .int (a6 + 1)] [] rfl (k5_hasPlace_6 a3 (a6 + 1) M) (fun v3 z4 => ?_)
      refine q_br w_PV (.ifCond .eq 10) 3 rfl rfl rfl (v3 = 0) 89 82 [] rfl (fun _ => ?_) (fun _ => ?_)
      · refine q_const (.iconst 0) 1 rfl rfl rfl 90 (0) _ rfl cd_kj0 ?_
        exact r_w (k4_carryFrames_7_5_6_L90 r16 h16 a3 a7 a8 0 M) (cd_le_s (cd_le_s (cd_le_s (cd_le_s (cd_le_n (cd_le_n (cd_le_n (cd_le_s (cd_le_s (cd_le_n (cd_le_n cd_le_0)))))))))))
      · refine r_ld (.iload 6) 2 0 6 (.int (a6)) rfl rfl rfl rfl 84 rfl ?_
        refine q_const (.iconst 1) 1 rfl rfl rfl 85 (1) _ rfl cd_kj1 ?_
        refine r_go (.iadd) 1 rfl rfl rfl 86 [.int (a6 + 1)] rfl ?_
        refine r_go (.goto 4) 3 rfl rfl rfl 90 [.int (a6 + 1)] rfl ?_
        exact r_w (k4_carryFrames_7_5_6_L90 r16 h16 a3 a7 a8 (a6 + 1) M) (cd_le_s (cd_le_s (cd_le_s (cd_le_s (cd_le_n (cd_le_n (cd_le_n (cd_le_s (cd_le_s (cd_le_n (cd_le_n cd_le_0)))))))))))
    · refine r_ld (.aload_n 0) 1 2 0 (.ref 7) rfl rfl rfl rfl 45 rfl ?_
      refine r_ld (.aload_n 1) 1 2 1 (.ref 5) rfl rfl rfl rfl 46 rfl ?_
      refine r_ld (.iload 8) 2 0 8 (.int (a8)) rfl rfl rfl rfl 48 rfl ?_
      refine r_ld (.iload 7) 2 0 7 (.int (a7)) rfl rfl rfl rfl 50 rfl ?_
      refine q_cL w_PV rfl (.invokevirtual 48) rfl rfl rfl 16 [.ref 5, .int (a8), .int (a7)] [.ref 7] rfl (k1_row_5 a8 a7 M) (fun v6 => ?_)
      refine r_ld (.iload 7) 2 0 7 (.int (a7)) rfl rfl rfl rfl 55 rfl ?_
      refine q_cV w_PV rfl (.invokevirtual 51) rfl rfl rfl 50 [.ref 7, .long (v6), .int (a7)] [] rfl (k4_addField_7 v6 a7 M) (fun M7 => ?_)
      refine q_const (.iconst 1) 1 rfl rfl rfl 59 (1) _ rfl cd_kj1 ?_
      refine r_ld (.iload 7) 2 0 7 (.int (a7)) rfl rfl rfl rfl 61 rfl ?_
      refine r_go (.isub) 1 rfl rfl rfl 62 [.int (1 - a7)] rfl ?_
      refine q_stB w_PV (.istore 7) 2 0 7 rfl rfl (fun _ => rfl) 64 rfl (fun x8 => [some (.ref 7), some (.ref 5), some (.ref 6), some (.int (a3)), none, none, some (.int (a6)), some (.int (x8)), some (.int (a8)), some (.int (a9)), some (.int (a10))]) (fun _ => rfl) (fun x8 => ?_)
      refine q_inc w_PV 10 (1) (a10) rfl rfl rfl 67 rfl (1) cd_kj1 (fun x9 => [some (.ref 7), some (.ref 5), some (.ref 6), some (.int (a3)), none, none, some (.int (a6)), some (.int (x8)), some (.int (a8)), some (.int (a9)), some (.int (x9))]) (fun _ => rfl) (fun x9 => ?_)
      refine r_go (.goto (-30)) 3 rfl rfl rfl 37 [] rfl ?_
      exact r_w (ih a3 a6 x8 a8 a9 x9 M7) (cd_le_s (cd_le_s (cd_le_s (cd_le_s (cd_le_n (cd_le_n (cd_le_s (cd_le_s (cd_le_s (cd_le_s (cd_le_s cd_le_0)))))))))))
def f4_carryFrames_7_5_6_L16 : Nat → Int32 → Int32 → Int32 → Int32 → cd_M → Option cd_M
  | 0, _, _, _, _, _ => none
  | n + 1, a3, a6, a7, a8, M => if f1_size_5 M ≤ a8 then (some M) else ((f5_number_6 a3 a6 M).bind fun v2 => f4_carryFrames_7_5_6_L37 (f4_carryFrames_7_5_6_L16 n) cd_fu a3 a6 a7 a8 v2 0 M)
set_option maxRecDepth 8000 in
theorem k4_carryFrames_7_5_6_L16 : ∀ (n : Nat) (a3 : Int32) (a6 : Int32) (a7 : Int32) (a8 : Int32) (M : cd_M), cd_R 49 16 [some (.ref 7), some (.ref 5), some (.ref 6), some (.int (a3)), none, none, some (.int (a6)), some (.int (a7)), some (.int (a8)), none, none] [] M (w_PV (f4_carryFrames_7_5_6_L16 n a3 a6 a7 a8 M)) := by
  intro n
  induction n with
  | zero =>
    intro a3 a6 a7 a8 M
    exact q_none w_PV rfl
  | succ n ih =>
    intro a3 a6 a7 a8 M
    rw [f4_carryFrames_7_5_6_L16]
    refine r_ld (.iload 8) 2 0 8 (.int (a8)) rfl rfl rfl rfl 18 rfl ?_
    refine r_ld (.aload_n 1) 1 2 1 (.ref 5) rfl rfl rfl rfl 19 rfl ?_
    refine q_cTI (.invokevirtual 37) rfl rfl rfl 13 [.ref 5] [.int (a8)] rfl (k1_size_5 M) ?_
    refine q_br w_PV (.if_icmp .ge 76) 3 rfl rfl rfl (f1_size_5 M ≤ a8) 98 25 [] rfl (fun _ => ?_) (fun _ => ?_)
    · exact r_ret .return_ 1 rfl rfl rfl _ rfl
    · refine r_ld (.aload_n 2) 1 2 2 (.ref 6) rfl rfl rfl rfl 26 rfl ?_
      refine r_ld (.iload_n 3) 1 0 3 (.int (a3)) rfl rfl rfl rfl 27 rfl ?_
      refine r_ld (.iload 6) 2 0 6 (.int (a6)) rfl rfl rfl rfl 29 rfl ?_
      refine q_cI w_PV rfl (.invokevirtual 42) rfl rfl rfl 64 [.ref 6, .int (a3), .int (a6)] [] rfl (k5_number_6 a3 a6 M) (fun v2 => ?_)
      refine r_st (.istore 9) 2 0 9 rfl rfl rfl 34 rfl [some (.ref 7), some (.ref 5), some (.ref 6), some (.int (a3)), none, none, some (.int (a6)), some (.int (a7)), some (.int (a8)), some (.int (v2)), none] rfl ?_
      refine q_const (.iconst 0) 1 rfl rfl rfl 35 (0) _ rfl cd_kj0 ?_
      refine r_st (.istore 10) 2 0 10 rfl rfl rfl 37 rfl [some (.ref 7), some (.ref 5), some (.ref 6), some (.int (a3)), none, none, some (.int (a6)), some (.int (a7)), some (.int (a8)), some (.int (v2)), some (.int (0))] rfl ?_
      exact r_w (k4_carryFrames_7_5_6_L37 (f4_carryFrames_7_5_6_L16 n) ih cd_fu a3 a6 a7 a8 v2 0 M) (cd_le_s (cd_le_s (cd_le_s (cd_le_s (cd_le_n (cd_le_n (cd_le_s (cd_le_s (cd_le_s (cd_le_s (cd_le_s cd_le_0)))))))))))
def f4_carryFrames_7_5_6 (a3 : Int32) (a4 : Int32) (a5 : Int32) (M : cd_M) : Option cd_M := cd_lt (cd_wI M 7 1 0) fun M1 => f4_carryFrames_7_5_6_L16 cd_fu a3 a4 a5 0 M1
set_option maxRecDepth 8000 in
theorem k4_carryFrames_7_5_6 (a3 : Int32) (a4 : Int32) (a5 : Int32) (M : cd_M) : cd_R 49 0 [some (.ref 7), some (.ref 5), some (.ref 6), some (.int (a3)), some (.int (a4)), some (.int (a5)), none, none, none, none, none] [] M (w_PV (f4_carryFrames_7_5_6 a3 a4 a5 M)) := by
  unfold f4_carryFrames_7_5_6
  refine r_ld (.aload_n 0) 1 2 0 (.ref 7) rfl rfl rfl rfl 1 rfl ?_
  refine q_const (.iconst 0) 1 rfl rfl rfl 2 (0) _ rfl cd_kj0 ?_
  refine q_wr w_PV (.putfield 15) 3 rfl rfl rfl 5 [] (cd_wI M 7 1 0) rfl (fun M1 => ?_)
  refine r_ld (.iload 4) 2 0 4 (.int (a4)) rfl rfl rfl rfl 7 rfl ?_
  refine r_st (.istore 6) 2 0 6 rfl rfl rfl 9 rfl [some (.ref 7), some (.ref 5), some (.ref 6), some (.int (a3)), some (.int (a4)), some (.int (a5)), some (.int (a4)), none, none, none, none] rfl ?_
  refine r_ld (.iload 5) 2 0 5 (.int (a5)) rfl rfl rfl rfl 11 rfl ?_
  refine r_st (.istore 7) 2 0 7 rfl rfl rfl 13 rfl [some (.ref 7), some (.ref 5), some (.ref 6), some (.int (a3)), some (.int (a4)), some (.int (a5)), some (.int (a4)), some (.int (a5)), none, none, none] rfl ?_
  refine q_const (.iconst 0) 1 rfl rfl rfl 14 (0) _ rfl cd_kj0 ?_
  refine r_st (.istore 8) 2 0 8 rfl rfl rfl 16 rfl [some (.ref 7), some (.ref 5), some (.ref 6), some (.int (a3)), some (.int (a4)), some (.int (a5)), some (.int (a4)), some (.int (a5)), some (.int (0)), none, none] rfl ?_
  exact r_w (k4_carryFrames_7_5_6_L16 cd_fu a3 a4 a5 0 M1) (cd_le_s (cd_le_s (cd_le_s (cd_le_s (cd_le_n (cd_le_n (cd_le_s (cd_le_s (cd_le_s (cd_le_n (cd_le_n cd_le_0)))))))))))
def f4_size_7 (M : cd_M) : Int32 := (M.1 7 1)
set_option maxRecDepth 8000 in
theorem k4_size_7 (M : cd_M) : cd_R 41 0 [some (.ref 7)] [] M ((w_TI M) (f4_size_7 M)) := by
  unfold f4_size_7
  refine r_ld (.aload_n 0) 1 2 0 (.ref 7) rfl rfl rfl rfl 1 rfl ?_
  refine r_go (.getfield 15) 3 rfl rfl rfl 4 [.int (M.1 7 1)] rfl ?_
  exact r_ret .ireturn 1 rfl rfl rfl _ rfl
def f10_carry_0 (a1 : Int32) (a2 : Int32) (M : cd_M) : Option (Int32 × cd_M) := if f1_size_5 M = 0 then (some ((-1), M)) else ((f5_hasPlace_6 (M.1 0 10) a1 M).bind fun v1 => if v1 = 0 then (some ((-1), M)) else (if f10_isParity a2 M = 0 then (some ((-1), M)) else ((f10_beginAct_0 M).bind fun M4 => (f4_carryFrames_7_5_6 (M4.1 0 10) a1 a2 M4).bind fun M5 => some (f4_size_7 M5, M5))))
set_option maxRecDepth 8000 in
theorem k10_carry_0 (a1 : Int32) (a2 : Int32) (M : cd_M) : cd_R 132 0 [some (.ref 0), some (.int (a1)), some (.int (a2))] [] M (w_PM (f10_carry_0 a1 a2 M)) := by
  unfold f10_carry_0
  refine r_ld (.aload_n 0) 1 2 0 (.ref 0) rfl rfl rfl rfl 1 rfl ?_
  refine r_go (.getfield 21) 3 rfl rfl rfl 4 [.ref 5] rfl ?_
  refine q_cTI (.invokevirtual 125) rfl rfl rfl 13 [.ref 5] [] rfl (k1_size_5 M) ?_
  refine q_br w_PM (.ifCond .eq 25) 3 rfl rfl rfl (f1_size_5 M = 0) 32 10 [] rfl (fun _ => ?_) (fun _ => ?_)
  · refine q_const (.iconst (-1)) 1 rfl rfl rfl 33 (-1) _ rfl cd_kjm1 ?_
    exact r_ret .ireturn 1 rfl rfl rfl _ rfl
  · refine r_ld (.aload_n 0) 1 2 0 (.ref 0) rfl rfl rfl rfl 11 rfl ?_
    refine r_go (.getfield 28) 3 rfl rfl rfl 14 [.ref 6] rfl ?_
    refine r_ld (.aload_n 0) 1 2 0 (.ref 0) rfl rfl rfl rfl 15 rfl ?_
    refine r_go (.getfield 74) 3 rfl rfl rfl 18 [.int (M.1 0 10), .ref 6] rfl ?_
    refine r_ld (.iload_n 1) 1 0 1 (.int (a1)) rfl rfl rfl rfl 19 rfl ?_
    refine q_cIz w_PM rfl (.invokevirtual 150) rfl rfl rfl 63 rfl [.ref 6, .int (M.1 0 10), .int (a1)] [] rfl (k5_hasPlace_6 (M.1 0 10) a1 M) (fun v1 z2 => ?_)
    refine q_br w_PM (.ifCond .eq 10) 3 rfl rfl rfl (v1 = 0) 32 25 [] rfl (fun _ => ?_) (fun _ => ?_)
    · refine q_const (.iconst (-1)) 1 rfl rfl rfl 33 (-1) _ rfl cd_kjm1 ?_
      exact r_ret .ireturn 1 rfl rfl rfl _ rfl
    · refine r_ld (.iload_n 2) 1 0 2 (.int (a2)) rfl rfl rfl rfl 26 rfl ?_
      refine q_cTIz (.invokestatic 158) rfl rfl rfl 157 rfl [.int (a2)] [] rfl (k10_isParity a2 M) (fun z3 => ?_)
      refine q_br w_PM (.ifCond .ne 5) 3 rfl rfl rfl (f10_isParity a2 M = 0) 32 34 [] rfl (fun _ => ?_) (fun _ => ?_)
      · refine q_const (.iconst (-1)) 1 rfl rfl rfl 33 (-1) _ rfl cd_kjm1 ?_
        exact r_ret .ireturn 1 rfl rfl rfl _ rfl
      · refine r_ld (.aload_n 0) 1 2 0 (.ref 0) rfl rfl rfl rfl 35 rfl ?_
        refine q_cV w_PM rfl (.invokevirtual 161) rfl rfl rfl 151 [.ref 0] [] rfl (k10_beginAct_0 M) (fun M4 => ?_)
        refine r_ld (.aload_n 0) 1 2 0 (.ref 0) rfl rfl rfl rfl 39 rfl ?_
        refine r_go (.getfield 35) 3 rfl rfl rfl 42 [.ref 7] rfl ?_
        refine r_ld (.aload_n 0) 1 2 0 (.ref 0) rfl rfl rfl rfl 43 rfl ?_
        refine r_go (.getfield 21) 3 rfl rfl rfl 46 [.ref 5, .ref 7] rfl ?_
        refine r_ld (.aload_n 0) 1 2 0 (.ref 0) rfl rfl rfl rfl 47 rfl ?_
        refine r_go (.getfield 28) 3 rfl rfl rfl 50 [.ref 6, .ref 5, .ref 7] rfl ?_
        refine r_ld (.aload_n 0) 1 2 0 (.ref 0) rfl rfl rfl rfl 51 rfl ?_
        refine r_go (.getfield 74) 3 rfl rfl rfl 54 [.int (M4.1 0 10), .ref 6, .ref 5, .ref 7] rfl ?_
        refine r_ld (.iload_n 1) 1 0 1 (.int (a1)) rfl rfl rfl rfl 55 rfl ?_
        refine r_ld (.iload_n 2) 1 0 2 (.int (a2)) rfl rfl rfl rfl 56 rfl ?_
        refine q_cV w_PM rfl (.invokevirtual 164) rfl rfl rfl 49 [.ref 7, .ref 5, .ref 6, .int (M4.1 0 10), .int (a1), .int (a2)] [] rfl (k4_carryFrames_7_5_6 (M4.1 0 10) a1 a2 M4) (fun M5 => ?_)
        refine r_ld (.aload_n 0) 1 2 0 (.ref 0) rfl rfl rfl rfl 60 rfl ?_
        refine r_go (.getfield 35) 3 rfl rfl rfl 63 [.ref 7] rfl ?_
        refine q_cTI (.invokevirtual 168) rfl rfl rfl 41 [.ref 7] [] rfl (k4_size_7 M5) ?_
        exact r_ret .ireturn 1 rfl rfl rfl _ rfl
def f4_has_7 (a1 : Int32) (M : cd_M) : Int32 := if a1 < 0 then (0) else (if M.1 7 1 ≤ a1 then (0) else (1))
set_option maxRecDepth 8000 in
theorem k4_has_7 (a1 : Int32) (M : cd_M) : cd_R 43 0 [some (.ref 7), some (.int (a1))] [] M ((w_TI M) (f4_has_7 a1 M)) := by
  unfold f4_has_7
  refine r_ld (.iload_n 1) 1 0 1 (.int (a1)) rfl rfl rfl rfl 1 rfl ?_
  refine q_br (w_TI M) (.ifCond .lt 15) 3 rfl rfl rfl (a1 < 0) 16 4 [] rfl (fun _ => ?_) (fun _ => ?_)
  · refine q_const (.iconst 0) 1 rfl rfl rfl 17 (0) _ rfl cd_kj0 ?_
    exact r_retZ rfl rfl (by decide)
  · refine r_ld (.iload_n 1) 1 0 1 (.int (a1)) rfl rfl rfl rfl 5 rfl ?_
    refine r_ld (.aload_n 0) 1 2 0 (.ref 7) rfl rfl rfl rfl 6 rfl ?_
    refine r_go (.getfield 15) 3 rfl rfl rfl 9 [.int (M.1 7 1), .int (a1)] rfl ?_
    refine q_br (w_TI M) (.if_icmp .ge 7) 3 rfl rfl rfl (M.1 7 1 ≤ a1) 16 12 [] rfl (fun _ => ?_) (fun _ => ?_)
    · refine q_const (.iconst 0) 1 rfl rfl rfl 17 (0) _ rfl cd_kj0 ?_
      exact r_retZ rfl rfl (by decide)
    · refine q_const (.iconst 1) 1 rfl rfl rfl 13 (1) _ rfl cd_kj1 ?_
      refine r_go (.goto 4) 3 rfl rfl rfl 17 [.int (1)] rfl ?_
      exact r_retZ rfl rfl (by decide)
def f4_hasSpan_7 (a1 : Int32) (a2 : Int32) (M : cd_M) : Int32 := if f4_has_7 a1 M = 0 then (0) else (if a2 < 1 then (0) else (if (M.1 7 1) - a1 < a2 then (0) else (1)))
set_option maxRecDepth 8000 in
theorem k4_hasSpan_7 (a1 : Int32) (a2 : Int32) (M : cd_M) : cd_R 44 0 [some (.ref 7), some (.int (a1)), some (.int (a2))] [] M ((w_TI M) (f4_hasSpan_7 a1 a2 M)) := by
  unfold f4_hasSpan_7
  refine r_ld (.aload_n 0) 1 2 0 (.ref 7) rfl rfl rfl rfl 1 rfl ?_
  refine r_ld (.iload_n 1) 1 0 1 (.int (a1)) rfl rfl rfl rfl 2 rfl ?_
  refine q_cTIz (.invokevirtual 19) rfl rfl rfl 43 rfl [.ref 7, .int (a1)] [] rfl (k4_has_7 a1 M) (fun z1 => ?_)
  refine q_br (w_TI M) (.ifCond .eq 22) 3 rfl rfl rfl (f4_has_7 a1 M = 0) 27 8 [] rfl (fun _ => ?_) (fun _ => ?_)
  · refine q_const (.iconst 0) 1 rfl rfl rfl 28 (0) _ rfl cd_kj0 ?_
    exact r_retZ rfl rfl (by decide)
  · refine r_ld (.iload_n 2) 1 0 2 (.int (a2)) rfl rfl rfl rfl 9 rfl ?_
    refine q_const (.iconst 1) 1 rfl rfl rfl 10 (1) _ rfl cd_kj1 ?_
    refine q_br (w_TI M) (.if_icmp .lt 17) 3 rfl rfl rfl (a2 < 1) 27 13 [] rfl (fun _ => ?_) (fun _ => ?_)
    · refine q_const (.iconst 0) 1 rfl rfl rfl 28 (0) _ rfl cd_kj0 ?_
      exact r_retZ rfl rfl (by decide)
    · refine r_ld (.iload_n 2) 1 0 2 (.int (a2)) rfl rfl rfl rfl 14 rfl ?_
      refine r_ld (.aload_n 0) 1 2 0 (.ref 7) rfl rfl rfl rfl 15 rfl ?_
      refine r_go (.getfield 15) 3 rfl rfl rfl 18 [.int (M.1 7 1), .int (a2)] rfl ?_
      refine r_ld (.iload_n 1) 1 0 1 (.int (a1)) rfl rfl rfl rfl 19 rfl ?_
      refine r_go (.isub) 1 rfl rfl rfl 20 [.int ((M.1 7 1) - a1), .int (a2)] rfl ?_
      refine q_br (w_TI M) (.if_icmp .gt 7) 3 rfl rfl rfl ((M.1 7 1) - a1 < a2) 27 23 [] rfl (fun _ => ?_) (fun _ => ?_)
      · refine q_const (.iconst 0) 1 rfl rfl rfl 28 (0) _ rfl cd_kj0 ?_
        exact r_retZ rfl rfl (by decide)
      · refine q_const (.iconst 1) 1 rfl rfl rfl 24 (1) _ rfl cd_kj1 ?_
        refine r_go (.goto 4) 3 rfl rfl rfl 28 [.int (1)] rfl ?_
        exact r_retZ rfl rfl (by decide)
def f4_removeSpan_7 (a1 : Int32) (a2 : Int32) (M : cd_M) : Option cd_M := if f4_hasSpan_7 a1 a2 M = 0 then (some M) else (if cd_cpOK (a1 + a2) a1 (((M.1 7 1) - a1) - a2) 90 90 then (cd_lt (cd_cL M 28 28 (a1 + a2 : Int32).toNatClampNeg a1.toNatClampNeg (((M.1 7 1) - a1) - a2 : Int32).toNatClampNeg) fun M2 => cd_lt (cd_wI M2 7 1 ((M2.1 7 1) - a2)) fun M3 => some M3) else none)
set_option maxRecDepth 8000 in
theorem k4_removeSpan_7 (a1 : Int32) (a2 : Int32) (M : cd_M) : cd_R 51 0 [some (.ref 7), some (.int (a1)), some (.int (a2))] [] M (w_PV (f4_removeSpan_7 a1 a2 M)) := by
  unfold f4_removeSpan_7
  refine r_ld (.aload_n 0) 1 2 0 (.ref 7) rfl rfl rfl rfl 1 rfl ?_
  refine r_ld (.iload_n 1) 1 0 1 (.int (a1)) rfl rfl rfl rfl 2 rfl ?_
  refine r_ld (.iload_n 2) 1 0 2 (.int (a2)) rfl rfl rfl rfl 3 rfl ?_
  refine q_cTIz (.invokevirtual 59) rfl rfl rfl 44 rfl [.ref 7, .int (a1), .int (a2)] [] rfl (k4_hasSpan_7 a1 a2 M) (fun z1 => ?_)
  refine q_br w_PV (.ifCond .eq 36) 3 rfl rfl rfl (f4_hasSpan_7 a1 a2 M = 0) 42 9 [] rfl (fun _ => ?_) (fun _ => ?_)
  · exact r_ret .return_ 1 rfl rfl rfl _ rfl
  · refine r_ld (.aload_n 0) 1 2 0 (.ref 7) rfl rfl rfl rfl 10 rfl ?_
    refine r_go (.getfield 11) 3 rfl rfl rfl 13 [.ref 28] rfl ?_
    refine r_ld (.iload_n 1) 1 0 1 (.int (a1)) rfl rfl rfl rfl 14 rfl ?_
    refine r_ld (.iload_n 2) 1 0 2 (.int (a2)) rfl rfl rfl rfl 15 rfl ?_
    refine r_go (.iadd) 1 rfl rfl rfl 16 [.int (a1 + a2), .ref 28] rfl ?_
    refine r_ld (.aload_n 0) 1 2 0 (.ref 7) rfl rfl rfl rfl 17 rfl ?_
    refine r_go (.getfield 11) 3 rfl rfl rfl 20 [.ref 28, .int (a1 + a2), .ref 28] rfl ?_
    refine r_ld (.iload_n 1) 1 0 1 (.int (a1)) rfl rfl rfl rfl 21 rfl ?_
    refine r_ld (.aload_n 0) 1 2 0 (.ref 7) rfl rfl rfl rfl 22 rfl ?_
    refine r_go (.getfield 15) 3 rfl rfl rfl 25 [.int (M.1 7 1), .int (a1), .ref 28, .int (a1 + a2), .ref 28] rfl ?_
    refine r_ld (.iload_n 1) 1 0 1 (.int (a1)) rfl rfl rfl rfl 26 rfl ?_
    refine r_go (.isub) 1 rfl rfl rfl 27 [.int ((M.1 7 1) - a1), .int (a1), .ref 28, .int (a1 + a2), .ref 28] rfl ?_
    refine r_ld (.iload_n 2) 1 0 2 (.int (a2)) rfl rfl rfl rfl 28 rfl ?_
    refine r_go (.isub) 1 rfl rfl rfl 29 [.int (((M.1 7 1) - a1) - a2), .int (a1), .ref 28, .int (a1 + a2), .ref 28] rfl ?_
    refine q_cpy w_PV rfl (.invokestatic 62) rfl rfl rfl 28 90 28 90 21 rfl rfl (cd_cL M 28 28 (a1 + a2 : Int32).toNatClampNeg a1.toNatClampNeg (((M.1 7 1) - a1) - a2 : Int32).toNatClampNeg) (fun h => cd_cpL _ rfl rfl rfl rfl h) (fun M2 => ?_)
    refine r_ld (.aload_n 0) 1 2 0 (.ref 7) rfl rfl rfl rfl 33 rfl ?_
    refine r_go (.dup) 1 rfl rfl rfl 34 [.ref 7, .ref 7] rfl ?_
    refine r_go (.getfield 15) 3 rfl rfl rfl 37 [.int (M2.1 7 1), .ref 7] rfl ?_
    refine r_ld (.iload_n 2) 1 0 2 (.int (a2)) rfl rfl rfl rfl 38 rfl ?_
    refine r_go (.isub) 1 rfl rfl rfl 39 [.int ((M2.1 7 1) - a2), .ref 7] rfl ?_
    refine q_wr w_PV (.putfield 15) 3 rfl rfl rfl 42 [] (cd_wI M2 7 1 ((M2.1 7 1) - a2)) rfl (fun M3 => ?_)
    exact r_ret .return_ 1 rfl rfl rfl _ rfl
def f10_cut_0 (a1 : Int32) (a2 : Int32) (M : cd_M) : Option (Int32 × cd_M) := if f4_hasSpan_7 a1 a2 M = 0 then (some ((-1), M)) else ((f10_beginAct_0 M).bind fun M2 => (f4_removeSpan_7 a1 a2 M2).bind fun M3 => some (f4_size_7 M3, M3))
set_option maxRecDepth 8000 in
theorem k10_cut_0 (a1 : Int32) (a2 : Int32) (M : cd_M) : cd_R 133 0 [some (.ref 0), some (.int (a1)), some (.int (a2))] [] M (w_PM (f10_cut_0 a1 a2 M)) := by
  unfold f10_cut_0
  refine r_ld (.aload_n 0) 1 2 0 (.ref 0) rfl rfl rfl rfl 1 rfl ?_
  refine r_go (.getfield 35) 3 rfl rfl rfl 4 [.ref 7] rfl ?_
  refine r_ld (.iload_n 1) 1 0 1 (.int (a1)) rfl rfl rfl rfl 5 rfl ?_
  refine r_ld (.iload_n 2) 1 0 2 (.int (a2)) rfl rfl rfl rfl 6 rfl ?_
  refine q_cTIz (.invokevirtual 169) rfl rfl rfl 44 rfl [.ref 7, .int (a1), .int (a2)] [] rfl (k4_hasSpan_7 a1 a2 M) (fun z1 => ?_)
  refine q_br w_PM (.ifCond .ne 5) 3 rfl rfl rfl (f4_hasSpan_7 a1 a2 M = 0) 12 14 [] rfl (fun _ => ?_) (fun _ => ?_)
  · refine q_const (.iconst (-1)) 1 rfl rfl rfl 13 (-1) _ rfl cd_kjm1 ?_
    exact r_ret .ireturn 1 rfl rfl rfl _ rfl
  · refine r_ld (.aload_n 0) 1 2 0 (.ref 0) rfl rfl rfl rfl 15 rfl ?_
    refine q_cV w_PM rfl (.invokevirtual 161) rfl rfl rfl 151 [.ref 0] [] rfl (k10_beginAct_0 M) (fun M2 => ?_)
    refine r_ld (.aload_n 0) 1 2 0 (.ref 0) rfl rfl rfl rfl 19 rfl ?_
    refine r_go (.getfield 35) 3 rfl rfl rfl 22 [.ref 7] rfl ?_
    refine r_ld (.iload_n 1) 1 0 1 (.int (a1)) rfl rfl rfl rfl 23 rfl ?_
    refine r_ld (.iload_n 2) 1 0 2 (.int (a2)) rfl rfl rfl rfl 24 rfl ?_
    refine q_cV w_PM rfl (.invokevirtual 172) rfl rfl rfl 51 [.ref 7, .int (a1), .int (a2)] [] rfl (k4_removeSpan_7 a1 a2 M2) (fun M3 => ?_)
    refine r_ld (.aload_n 0) 1 2 0 (.ref 0) rfl rfl rfl rfl 28 rfl ?_
    refine r_go (.getfield 35) 3 rfl rfl rfl 31 [.ref 7] rfl ?_
    refine q_cTI (.invokevirtual 168) rfl rfl rfl 41 [.ref 7] [] rfl (k4_size_7 M3) ?_
    exact r_ret .ireturn 1 rfl rfl rfl _ rfl
def f4_repeatSpan_7 (a1 : Int32) (a2 : Int32) (M : cd_M) : Option cd_M := if f4_hasSpan_7 a1 a2 M = 0 then (some M) else (if 90 - (M.1 7 1) < a2 then (some M) else (if cd_cpOK a1 (a1 + a2) ((M.1 7 1) - a1) 90 90 then (cd_lt (cd_cL M 28 28 a1.toNatClampNeg (a1 + a2 : Int32).toNatClampNeg ((M.1 7 1) - a1 : Int32).toNatClampNeg) fun M2 => cd_lt (cd_wI M2 7 1 ((M2.1 7 1) + a2)) fun M3 => some M3) else none))
set_option maxRecDepth 8000 in
theorem k4_repeatSpan_7 (a1 : Int32) (a2 : Int32) (M : cd_M) : cd_R 52 0 [some (.ref 7), some (.int (a1)), some (.int (a2))] [] M (w_PV (f4_repeatSpan_7 a1 a2 M)) := by
  unfold f4_repeatSpan_7
  refine r_ld (.aload_n 0) 1 2 0 (.ref 7) rfl rfl rfl rfl 1 rfl ?_
  refine r_ld (.iload_n 1) 1 0 1 (.int (a1)) rfl rfl rfl rfl 2 rfl ?_
  refine r_ld (.iload_n 2) 1 0 2 (.int (a2)) rfl rfl rfl rfl 3 rfl ?_
  refine q_cTIz (.invokevirtual 59) rfl rfl rfl 44 rfl [.ref 7, .int (a1), .int (a2)] [] rfl (k4_hasSpan_7 a1 a2 M) (fun z1 => ?_)
  refine q_br w_PV (.ifCond .eq 45) 3 rfl rfl rfl (f4_hasSpan_7 a1 a2 M = 0) 51 9 [] rfl (fun _ => ?_) (fun _ => ?_)
  · exact r_ret .return_ 1 rfl rfl rfl _ rfl
  · refine r_ld (.iload_n 2) 1 0 2 (.int (a2)) rfl rfl rfl rfl 10 rfl ?_
    refine q_const (.bipush 90) 2 rfl rfl rfl 12 (90) _ rfl cd_kc90 ?_
    refine r_ld (.aload_n 0) 1 2 0 (.ref 7) rfl rfl rfl rfl 13 rfl ?_
    refine r_go (.getfield 15) 3 rfl rfl rfl 16 [.int (M.1 7 1), .int (90), .int (a2)] rfl ?_
    refine r_go (.isub) 1 rfl rfl rfl 17 [.int (90 - (M.1 7 1)), .int (a2)] rfl ?_
    refine q_br w_PV (.if_icmp .gt 34) 3 rfl rfl rfl (90 - (M.1 7 1) < a2) 51 20 [] rfl (fun _ => ?_) (fun _ => ?_)
    · exact r_ret .return_ 1 rfl rfl rfl _ rfl
    · refine r_ld (.aload_n 0) 1 2 0 (.ref 7) rfl rfl rfl rfl 21 rfl ?_
      refine r_go (.getfield 11) 3 rfl rfl rfl 24 [.ref 28] rfl ?_
      refine r_ld (.iload_n 1) 1 0 1 (.int (a1)) rfl rfl rfl rfl 25 rfl ?_
      refine r_ld (.aload_n 0) 1 2 0 (.ref 7) rfl rfl rfl rfl 26 rfl ?_
      refine r_go (.getfield 11) 3 rfl rfl rfl 29 [.ref 28, .int (a1), .ref 28] rfl ?_
      refine r_ld (.iload_n 1) 1 0 1 (.int (a1)) rfl rfl rfl rfl 30 rfl ?_
      refine r_ld (.iload_n 2) 1 0 2 (.int (a2)) rfl rfl rfl rfl 31 rfl ?_
      refine r_go (.iadd) 1 rfl rfl rfl 32 [.int (a1 + a2), .ref 28, .int (a1), .ref 28] rfl ?_
      refine r_ld (.aload_n 0) 1 2 0 (.ref 7) rfl rfl rfl rfl 33 rfl ?_
      refine r_go (.getfield 15) 3 rfl rfl rfl 36 [.int (M.1 7 1), .int (a1 + a2), .ref 28, .int (a1), .ref 28] rfl ?_
      refine r_ld (.iload_n 1) 1 0 1 (.int (a1)) rfl rfl rfl rfl 37 rfl ?_
      refine r_go (.isub) 1 rfl rfl rfl 38 [.int ((M.1 7 1) - a1), .int (a1 + a2), .ref 28, .int (a1), .ref 28] rfl ?_
      refine q_cpy w_PV rfl (.invokestatic 62) rfl rfl rfl 28 90 28 90 21 rfl rfl (cd_cL M 28 28 a1.toNatClampNeg (a1 + a2 : Int32).toNatClampNeg ((M.1 7 1) - a1 : Int32).toNatClampNeg) (fun h => cd_cpL _ rfl rfl rfl rfl h) (fun M2 => ?_)
      refine r_ld (.aload_n 0) 1 2 0 (.ref 7) rfl rfl rfl rfl 42 rfl ?_
      refine r_go (.dup) 1 rfl rfl rfl 43 [.ref 7, .ref 7] rfl ?_
      refine r_go (.getfield 15) 3 rfl rfl rfl 46 [.int (M2.1 7 1), .ref 7] rfl ?_
      refine r_ld (.iload_n 2) 1 0 2 (.int (a2)) rfl rfl rfl rfl 47 rfl ?_
      refine r_go (.iadd) 1 rfl rfl rfl 48 [.int ((M2.1 7 1) + a2), .ref 7] rfl ?_
      refine q_wr w_PV (.putfield 15) 3 rfl rfl rfl 51 [] (cd_wI M2 7 1 ((M2.1 7 1) + a2)) rfl (fun M3 => ?_)
      exact r_ret .return_ 1 rfl rfl rfl _ rfl
