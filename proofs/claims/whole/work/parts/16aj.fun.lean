def f10_followPath_0 (M : cd_M) : Option cd_M := if M.1 0 11 = 0 then ((f0_solve_9_7_6 (M.1 0 10) M).bind fun M1 => (f9_follow_11_9_7_6 M1).bind fun M2 => (f2_gather_12_11_7_6 M2).bind fun M3 => cd_lt (cd_wI M3 0 11 1) fun M4 => some M4) else (some M)
set_option maxRecDepth 8000 in
theorem k10_followPath_0 (M : cd_M) : cd_R 153 0 [some (.ref 0)] [] M (w_PV (f10_followPath_0 M)) := by
  unfold f10_followPath_0
  refine r_ld (.aload_n 0) 1 2 0 (.ref 0) rfl rfl rfl rfl 1 rfl ?_
  refine r_go (.getfield 78) 3 rfl rfl rfl 4 [.int (M.1 0 11)] rfl ?_
  refine q_br w_PV (.ifCond .eq 4) 3 rfl rfl rfl (M.1 0 11 = 0) 8 7 [] rfl (fun _ => ?_) (fun _ => ?_)
  · refine r_ld (.aload_n 0) 1 2 0 (.ref 0) rfl rfl rfl rfl 9 rfl ?_
    refine r_go (.getfield 49) 3 rfl rfl rfl 12 [.ref 9] rfl ?_
    refine r_ld (.aload_n 0) 1 2 0 (.ref 0) rfl rfl rfl rfl 13 rfl ?_
    refine r_go (.getfield 35) 3 rfl rfl rfl 16 [.ref 7, .ref 9] rfl ?_
    refine r_ld (.aload_n 0) 1 2 0 (.ref 0) rfl rfl rfl rfl 17 rfl ?_
    refine r_go (.getfield 28) 3 rfl rfl rfl 20 [.ref 6, .ref 7, .ref 9] rfl ?_
    refine r_ld (.aload_n 0) 1 2 0 (.ref 0) rfl rfl rfl rfl 21 rfl ?_
    refine r_go (.getfield 74) 3 rfl rfl rfl 24 [.int (M.1 0 10), .ref 6, .ref 7, .ref 9] rfl ?_
    refine q_cV w_PV rfl (.invokevirtual 313) rfl rfl rfl 7 [.ref 9, .ref 7, .ref 6, .int (M.1 0 10)] [] rfl (k0_solve_9_7_6 (M.1 0 10) M) (fun M1 => ?_)
    refine r_ld (.aload_n 0) 1 2 0 (.ref 0) rfl rfl rfl rfl 28 rfl ?_
    refine r_go (.getfield 56) 3 rfl rfl rfl 31 [.ref 11] rfl ?_
    refine r_ld (.aload_n 0) 1 2 0 (.ref 0) rfl rfl rfl rfl 32 rfl ?_
    refine r_go (.getfield 49) 3 rfl rfl rfl 35 [.ref 9, .ref 11] rfl ?_
    refine r_ld (.aload_n 0) 1 2 0 (.ref 0) rfl rfl rfl rfl 36 rfl ?_
    refine r_go (.getfield 35) 3 rfl rfl rfl 39 [.ref 7, .ref 9, .ref 11] rfl ?_
    refine r_ld (.aload_n 0) 1 2 0 (.ref 0) rfl rfl rfl rfl 40 rfl ?_
    refine r_go (.getfield 28) 3 rfl rfl rfl 43 [.ref 6, .ref 7, .ref 9, .ref 11] rfl ?_
    refine q_cV w_PV rfl (.invokevirtual 317) rfl rfl rfl 112 [.ref 11, .ref 9, .ref 7, .ref 6] [] rfl (k9_follow_11_9_7_6 M1) (fun M2 => ?_)
    refine r_ld (.aload_n 0) 1 2 0 (.ref 0) rfl rfl rfl rfl 47 rfl ?_
    refine r_go (.getfield 63) 3 rfl rfl rfl 50 [.ref 12] rfl ?_
    refine r_ld (.aload_n 0) 1 2 0 (.ref 0) rfl rfl rfl rfl 51 rfl ?_
    refine r_go (.getfield 56) 3 rfl rfl rfl 54 [.ref 11, .ref 12] rfl ?_
    refine r_ld (.aload_n 0) 1 2 0 (.ref 0) rfl rfl rfl rfl 55 rfl ?_
    refine r_go (.getfield 35) 3 rfl rfl rfl 58 [.ref 7, .ref 11, .ref 12] rfl ?_
    refine r_ld (.aload_n 0) 1 2 0 (.ref 0) rfl rfl rfl rfl 59 rfl ?_
    refine r_go (.getfield 28) 3 rfl rfl rfl 62 [.ref 6, .ref 7, .ref 11, .ref 12] rfl ?_
    refine q_cV w_PV rfl (.invokevirtual 321) rfl rfl rfl 19 [.ref 12, .ref 11, .ref 7, .ref 6] [] rfl (k2_gather_12_11_7_6 M2) (fun M3 => ?_)
    refine r_ld (.aload_n 0) 1 2 0 (.ref 0) rfl rfl rfl rfl 66 rfl ?_
    refine q_const (.iconst 1) 1 rfl rfl rfl 67 (1) _ rfl cd_kj1 ?_
    refine q_wr w_PV (.putfield 78) 3 rfl rfl rfl 70 [] (cd_wI M3 0 11 1) rfl (fun M4 => ?_)
    exact r_ret .return_ 1 rfl rfl rfl _ rfl
  · exact r_ret .return_ 1 rfl rfl rfl _ rfl
def f2_groupOf_12 (a1 : Int32) (M : cd_M) : Option (Int32) := if a1 < 0 then (some (-1)) else (if 90 ≤ a1 then (some (-1)) else (if cd_in a1 90 = true then (some (M.1 49 a1.toNatClampNeg)) else none))
set_option maxRecDepth 8000 in
theorem k2_groupOf_12 (a1 : Int32) (M : cd_M) : cd_R 31 0 [some (.ref 12), some (.int (a1))] [] M ((w_PI M) (f2_groupOf_12 a1 M)) := by
  unfold f2_groupOf_12
  refine r_ld (.iload_n 1) 1 0 1 (.int (a1)) rfl rfl rfl rfl 1 rfl ?_
  refine q_br (w_PI M) (.ifCond .lt 18) 3 rfl rfl rfl (a1 < 0) 19 4 [] rfl (fun _ => ?_) (fun _ => ?_)
  · refine q_const (.iconst (-1)) 1 rfl rfl rfl 20 (-1) _ rfl cd_kjm1 ?_
    exact r_ret .ireturn 1 rfl rfl rfl _ rfl
  · refine r_ld (.iload_n 1) 1 0 1 (.int (a1)) rfl rfl rfl rfl 5 rfl ?_
    refine q_const (.bipush 90) 2 rfl rfl rfl 7 (90) _ rfl cd_kc90 ?_
    refine q_br (w_PI M) (.if_icmp .ge 12) 3 rfl rfl rfl (90 ≤ a1) 19 10 [] rfl (fun _ => ?_) (fun _ => ?_)
    · refine q_const (.iconst (-1)) 1 rfl rfl rfl 20 (-1) _ rfl cd_kjm1 ?_
      exact r_ret .ireturn 1 rfl rfl rfl _ rfl
    · refine r_ld (.aload_n 0) 1 2 0 (.ref 12) rfl rfl rfl rfl 11 rfl ?_
      refine r_go (.getfield 9) 3 rfl rfl rfl 14 [.ref 49] rfl ?_
      refine r_ld (.iload_n 1) 1 0 1 (.int (a1)) rfl rfl rfl rfl 15 rfl ?_
      refine q_iald (w_PI M) rfl rfl 49 90 rfl ?_
      refine r_go (.goto 4) 3 rfl rfl rfl 20 [.int (M.1 49 a1.toNatClampNeg)] rfl ?_
      exact r_ret .ireturn 1 rfl rfl rfl _ rfl
def f2_frameOf_12 (a1 : Int32) (M : cd_M) : Option (Int32) := if f2_has_12 a1 M = 0 then (some (-1)) else (if cd_in a1 90 = true then (some (M.1 53 a1.toNatClampNeg)) else none)
set_option maxRecDepth 8000 in
theorem k2_frameOf_12 (a1 : Int32) (M : cd_M) : cd_R 32 0 [some (.ref 12), some (.int (a1))] [] M ((w_PI M) (f2_frameOf_12 a1 M)) := by
  unfold f2_frameOf_12
  refine r_ld (.aload_n 0) 1 2 0 (.ref 12) rfl rfl rfl rfl 1 rfl ?_
  refine r_ld (.iload_n 1) 1 0 1 (.int (a1)) rfl rfl rfl rfl 2 rfl ?_
  refine q_cTIz (.invokevirtual 104) rfl rfl rfl 26 rfl [.ref 12, .int (a1)] [] rfl (k2_has_12 a1 M) (fun z1 => ?_)
  refine q_br (w_PI M) (.ifCond .eq 12) 3 rfl rfl rfl (f2_has_12 a1 M = 0) 17 8 [] rfl (fun _ => ?_) (fun _ => ?_)
  · refine q_const (.iconst (-1)) 1 rfl rfl rfl 18 (-1) _ rfl cd_kjm1 ?_
    exact r_ret .ireturn 1 rfl rfl rfl _ rfl
  · refine r_ld (.aload_n 0) 1 2 0 (.ref 12) rfl rfl rfl rfl 9 rfl ?_
    refine r_go (.getfield 24) 3 rfl rfl rfl 12 [.ref 53] rfl ?_
    refine r_ld (.iload_n 1) 1 0 1 (.int (a1)) rfl rfl rfl rfl 13 rfl ?_
    refine q_iald (w_PI M) rfl rfl 53 90 rfl ?_
    refine r_go (.goto 4) 3 rfl rfl rfl 18 [.int (M.1 53 a1.toNatClampNeg)] rfl ?_
    exact r_ret .ireturn 1 rfl rfl rfl _ rfl
def f9_price_11 (a1 : Int32) (M : cd_M) : Option (Int32) := if f9_has_11 a1 M = 0 then (some (-1)) else (if cd_in a1 90 = true then (some (M.1 47 a1.toNatClampNeg)) else none)
set_option maxRecDepth 8000 in
theorem k9_price_11 (a1 : Int32) (M : cd_M) : cd_R 120 0 [some (.ref 11), some (.int (a1))] [] M ((w_PI M) (f9_price_11 a1 M)) := by
  unfold f9_price_11
  refine r_ld (.aload_n 0) 1 2 0 (.ref 11) rfl rfl rfl rfl 1 rfl ?_
  refine r_ld (.iload_n 1) 1 0 1 (.int (a1)) rfl rfl rfl rfl 2 rfl ?_
  refine q_cTIz (.invokevirtual 85) rfl rfl rfl 115 rfl [.ref 11, .int (a1)] [] rfl (k9_has_11 a1 M) (fun z1 => ?_)
  refine q_br (w_PI M) (.ifCond .eq 12) 3 rfl rfl rfl (f9_has_11 a1 M = 0) 17 8 [] rfl (fun _ => ?_) (fun _ => ?_)
  · refine q_const (.iconst (-1)) 1 rfl rfl rfl 18 (-1) _ rfl cd_kjm1 ?_
    exact r_ret .ireturn 1 rfl rfl rfl _ rfl
  · refine r_ld (.aload_n 0) 1 2 0 (.ref 11) rfl rfl rfl rfl 9 rfl ?_
    refine r_go (.getfield 25) 3 rfl rfl rfl 12 [.ref 47] rfl ?_
    refine r_ld (.iload_n 1) 1 0 1 (.int (a1)) rfl rfl rfl rfl 13 rfl ?_
    refine q_iald (w_PI M) rfl rfl 47 90 rfl ?_
    refine r_go (.goto 4) 3 rfl rfl rfl 18 [.int (M.1 47 a1.toNatClampNeg)] rfl ?_
    exact r_ret .ireturn 1 rfl rfl rfl _ rfl
def f9_isEdit_11 (a1 : Int32) (M : cd_M) : Option (Int32) := if f9_has_11 a1 M = 0 then (some 0) else (if cd_in a1 90 = true then (if M.1 46 a1.toNatClampNeg = 0 then (some 0) else (some 1)) else none)
set_option maxRecDepth 8000 in
theorem k9_isEdit_11 (a1 : Int32) (M : cd_M) : cd_R 119 0 [some (.ref 11), some (.int (a1))] [] M ((w_PI M) (f9_isEdit_11 a1 M)) := by
  unfold f9_isEdit_11
  refine r_ld (.aload_n 0) 1 2 0 (.ref 11) rfl rfl rfl rfl 1 rfl ?_
  refine r_ld (.iload_n 1) 1 0 1 (.int (a1)) rfl rfl rfl rfl 2 rfl ?_
  refine q_cTIz (.invokevirtual 85) rfl rfl rfl 115 rfl [.ref 11, .int (a1)] [] rfl (k9_has_11 a1 M) (fun z1 => ?_)
  refine q_br (w_PI M) (.ifCond .eq 16) 3 rfl rfl rfl (f9_has_11 a1 M = 0) 21 8 [] rfl (fun _ => ?_) (fun _ => ?_)
  · refine q_const (.iconst 0) 1 rfl rfl rfl 22 (0) _ rfl cd_kj0 ?_
    exact r_retZ rfl rfl (by decide)
  · refine r_ld (.aload_n 0) 1 2 0 (.ref 11) rfl rfl rfl rfl 9 rfl ?_
    refine r_go (.getfield 21) 3 rfl rfl rfl 12 [.ref 46] rfl ?_
    refine r_ld (.iload_n 1) 1 0 1 (.int (a1)) rfl rfl rfl rfl 13 rfl ?_
    refine q_bald (w_PI M) rfl rfl 46 90 23 rfl rfl (by decide) ?_
    refine q_br (w_PI M) (.ifCond .eq 7) 3 rfl rfl rfl (M.1 46 a1.toNatClampNeg = 0) 21 17 [] rfl (fun _ => ?_) (fun _ => ?_)
    · refine q_const (.iconst 0) 1 rfl rfl rfl 22 (0) _ rfl cd_kj0 ?_
      exact r_retZ rfl rfl (by decide)
    · refine q_const (.iconst 1) 1 rfl rfl rfl 18 (1) _ rfl cd_kj1 ?_
      refine r_go (.goto 4) 3 rfl rfl rfl 22 [.int (1)] rfl ?_
      exact r_retZ rfl rfl (by decide)
def f9_step_11 (a1 : Int32) (M : cd_M) : Option (Int32) := if f9_has_11 a1 M = 0 then (some (-1)) else (if cd_in a1 90 = true then (some (M.1 44 a1.toNatClampNeg)) else none)
set_option maxRecDepth 8000 in
theorem k9_step_11 (a1 : Int32) (M : cd_M) : cd_R 117 0 [some (.ref 11), some (.int (a1))] [] M ((w_PI M) (f9_step_11 a1 M)) := by
  unfold f9_step_11
  refine r_ld (.aload_n 0) 1 2 0 (.ref 11) rfl rfl rfl rfl 1 rfl ?_
  refine r_ld (.iload_n 1) 1 0 1 (.int (a1)) rfl rfl rfl rfl 2 rfl ?_
  refine q_cTIz (.invokevirtual 85) rfl rfl rfl 115 rfl [.ref 11, .int (a1)] [] rfl (k9_has_11 a1 M) (fun z1 => ?_)
  refine q_br (w_PI M) (.ifCond .eq 12) 3 rfl rfl rfl (f9_has_11 a1 M = 0) 17 8 [] rfl (fun _ => ?_) (fun _ => ?_)
  · refine q_const (.iconst (-1)) 1 rfl rfl rfl 18 (-1) _ rfl cd_kjm1 ?_
    exact r_ret .ireturn 1 rfl rfl rfl _ rfl
  · refine r_ld (.aload_n 0) 1 2 0 (.ref 11) rfl rfl rfl rfl 9 rfl ?_
    refine r_go (.getfield 15) 3 rfl rfl rfl 12 [.ref 44] rfl ?_
    refine r_ld (.iload_n 1) 1 0 1 (.int (a1)) rfl rfl rfl rfl 13 rfl ?_
    refine q_iald (w_PI M) rfl rfl 44 90 rfl ?_
    refine r_go (.goto 4) 3 rfl rfl rfl 18 [.int (M.1 44 a1.toNatClampNeg)] rfl ?_
    exact r_ret .ireturn 1 rfl rfl rfl _ rfl
def f9_place_11 (a1 : Int32) (M : cd_M) : Option (Int32) := if f9_has_11 a1 M = 0 then (some (-1)) else (if cd_in a1 90 = true then (some (M.1 43 a1.toNatClampNeg)) else none)
set_option maxRecDepth 8000 in
theorem k9_place_11 (a1 : Int32) (M : cd_M) : cd_R 116 0 [some (.ref 11), some (.int (a1))] [] M ((w_PI M) (f9_place_11 a1 M)) := by
  unfold f9_place_11
  refine r_ld (.aload_n 0) 1 2 0 (.ref 11) rfl rfl rfl rfl 1 rfl ?_
  refine r_ld (.iload_n 1) 1 0 1 (.int (a1)) rfl rfl rfl rfl 2 rfl ?_
  refine q_cTIz (.invokevirtual 85) rfl rfl rfl 115 rfl [.ref 11, .int (a1)] [] rfl (k9_has_11 a1 M) (fun z1 => ?_)
  refine q_br (w_PI M) (.ifCond .eq 12) 3 rfl rfl rfl (f9_has_11 a1 M = 0) 17 8 [] rfl (fun _ => ?_) (fun _ => ?_)
  · refine q_const (.iconst (-1)) 1 rfl rfl rfl 18 (-1) _ rfl cd_kjm1 ?_
    exact r_ret .ireturn 1 rfl rfl rfl _ rfl
  · refine r_ld (.aload_n 0) 1 2 0 (.ref 11) rfl rfl rfl rfl 9 rfl ?_
    refine r_go (.getfield 9) 3 rfl rfl rfl 12 [.ref 43] rfl ?_
    refine r_ld (.iload_n 1) 1 0 1 (.int (a1)) rfl rfl rfl rfl 13 rfl ?_
    refine q_iald (w_PI M) rfl rfl 43 90 rfl ?_
    refine r_go (.goto 4) 3 rfl rfl rfl 18 [.int (M.1 43 a1.toNatClampNeg)] rfl ?_
    exact r_ret .ireturn 1 rfl rfl rfl _ rfl
def f10_path_0 (a1 : Int32) (a2 : Int32) (M : cd_M) : Option (Int32 × cd_M) := if f4_has_7 a1 M = 0 then (some ((-1), M)) else ((f10_followPath_0 M).bind fun M2 => if a2 = 0 then ((f9_place_11 a1 M2).bind fun v3 => some (v3, M2)) else (if a2 = 1 then ((f9_step_11 a1 M2).bind fun v4 => some (v4, M2)) else (if a2 = 2 then ((f9_seen_11 a1 M2).bind fun v5 => some (v5, M2)) else (if a2 = 3 then ((f9_isEdit_11 a1 M2).bind fun v6 => if v6 = 0 then (some (0, M2)) else (some (1, M2))) else (if a2 = 4 then ((f9_price_11 a1 M2).bind fun v8 => some (v8, M2)) else (if a2 = 5 then ((f2_groupOf_12 a1 M2).bind fun v9 => some (v9, M2)) else (if a2 = 6 then ((f9_isKept_11 a1 M2).bind fun v10 => if v10 = 0 then (some (0, M2)) else (some (1, M2))) else (if a2 = 7 then ((f2_groupOf_12 a1 M2).bind fun v12 => (f2_frameOf_12 v12 M2).bind fun v13 => some (v13, M2)) else (some ((-1), M2))))))))))
set_option maxRecDepth 8000 in
theorem k10_path_0 (a1 : Int32) (a2 : Int32) (M : cd_M) : cd_R 139 0 [some (.ref 0), some (.int (a1)), some (.int (a2))] [] M (w_PM (f10_path_0 a1 a2 M)) := by
  unfold f10_path_0
  refine r_ld (.aload_n 0) 1 2 0 (.ref 0) rfl rfl rfl rfl 1 rfl ?_
  refine r_go (.getfield 35) 3 rfl rfl rfl 4 [.ref 7] rfl ?_
  refine r_ld (.iload_n 1) 1 0 1 (.int (a1)) rfl rfl rfl rfl 5 rfl ?_
  refine q_cTIz (.invokevirtual 186) rfl rfl rfl 43 rfl [.ref 7, .int (a1)] [] rfl (k4_has_7 a1 M) (fun z1 => ?_)
  refine q_br w_PM (.ifCond .ne 5) 3 rfl rfl rfl (f4_has_7 a1 M = 0) 11 13 [] rfl (fun _ => ?_) (fun _ => ?_)
  · refine q_const (.iconst (-1)) 1 rfl rfl rfl 12 (-1) _ rfl cd_kjm1 ?_
    exact r_ret .ireturn 1 rfl rfl rfl _ rfl
  · refine r_ld (.aload_n 0) 1 2 0 (.ref 0) rfl rfl rfl rfl 14 rfl ?_
    refine q_cV w_PM rfl (.invokevirtual 224) rfl rfl rfl 153 [.ref 0] [] rfl (k10_followPath_0 M) (fun M2 => ?_)
    refine r_ld (.iload_n 2) 1 0 2 (.int (a2)) rfl rfl rfl rfl 18 rfl ?_
    refine q_or w_PM (a2 = 0) (fun e0 => ?_) (fun e0 => ?_)
    · rw [e0]
      refine r_go (.tableswitch 141 0 7 #[46, 55, 64, 73, 90, 99, 108, 125]) 46 rfl rfl rfl 64 [] rfl ?_
      refine r_ld (.aload_n 0) 1 2 0 (.ref 0) rfl rfl rfl rfl 65 rfl ?_
      refine r_go (.getfield 56) 3 rfl rfl rfl 68 [.ref 11] rfl ?_
      refine r_ld (.iload_n 1) 1 0 1 (.int (a1)) rfl rfl rfl rfl 69 rfl ?_
      refine q_cI w_PM rfl (.invokevirtual 227) rfl rfl rfl 116 [.ref 11, .int (a1)] [] rfl (k9_place_11 a1 M2) (fun v3 => ?_)
      exact r_ret .ireturn 1 rfl rfl rfl _ rfl
    refine q_or w_PM (a2 = 1) (fun e1 => ?_) (fun e1 => ?_)
    · rw [e1]
      refine r_go (.tableswitch 141 0 7 #[46, 55, 64, 73, 90, 99, 108, 125]) 46 rfl rfl rfl 73 [] rfl ?_
      refine r_ld (.aload_n 0) 1 2 0 (.ref 0) rfl rfl rfl rfl 74 rfl ?_
      refine r_go (.getfield 56) 3 rfl rfl rfl 77 [.ref 11] rfl ?_
      refine r_ld (.iload_n 1) 1 0 1 (.int (a1)) rfl rfl rfl rfl 78 rfl ?_
      refine q_cI w_PM rfl (.invokevirtual 230) rfl rfl rfl 117 [.ref 11, .int (a1)] [] rfl (k9_step_11 a1 M2) (fun v4 => ?_)
      exact r_ret .ireturn 1 rfl rfl rfl _ rfl
    refine q_or w_PM (a2 = 2) (fun e2 => ?_) (fun e2 => ?_)
    · rw [e2]
      refine r_go (.tableswitch 141 0 7 #[46, 55, 64, 73, 90, 99, 108, 125]) 46 rfl rfl rfl 82 [] rfl ?_
      refine r_ld (.aload_n 0) 1 2 0 (.ref 0) rfl rfl rfl rfl 83 rfl ?_
      refine r_go (.getfield 56) 3 rfl rfl rfl 86 [.ref 11] rfl ?_
      refine r_ld (.iload_n 1) 1 0 1 (.int (a1)) rfl rfl rfl rfl 87 rfl ?_
      refine q_cI w_PM rfl (.invokevirtual 233) rfl rfl rfl 118 [.ref 11, .int (a1)] [] rfl (k9_seen_11 a1 M2) (fun v5 => ?_)
      exact r_ret .ireturn 1 rfl rfl rfl _ rfl
    refine q_or w_PM (a2 = 3) (fun e3 => ?_) (fun e3 => ?_)
    · rw [e3]
      refine r_go (.tableswitch 141 0 7 #[46, 55, 64, 73, 90, 99, 108, 125]) 46 rfl rfl rfl 91 [] rfl ?_
      refine r_ld (.aload_n 0) 1 2 0 (.ref 0) rfl rfl rfl rfl 92 rfl ?_
      refine r_go (.getfield 56) 3 rfl rfl rfl 95 [.ref 11] rfl ?_
      refine r_ld (.iload_n 1) 1 0 1 (.int (a1)) rfl rfl rfl rfl 96 rfl ?_
      refine q_cIz w_PM rfl (.invokevirtual 236) rfl rfl rfl 119 rfl [.ref 11, .int (a1)] [] rfl (k9_isEdit_11 a1 M2) (fun v6 z7 => ?_)
      refine q_br w_PM (.ifCond .eq 7) 3 rfl rfl rfl (v6 = 0) 106 102 [] rfl (fun _ => ?_) (fun _ => ?_)
      · refine q_const (.iconst 0) 1 rfl rfl rfl 107 (0) _ rfl cd_kj0 ?_
        exact r_ret .ireturn 1 rfl rfl rfl _ rfl
      · refine q_const (.iconst 1) 1 rfl rfl rfl 103 (1) _ rfl cd_kj1 ?_
        refine r_go (.goto 4) 3 rfl rfl rfl 107 [.int (1)] rfl ?_
        exact r_ret .ireturn 1 rfl rfl rfl _ rfl
    refine q_or w_PM (a2 = 4) (fun e4 => ?_) (fun e4 => ?_)
    · rw [e4]
      refine r_go (.tableswitch 141 0 7 #[46, 55, 64, 73, 90, 99, 108, 125]) 46 rfl rfl rfl 108 [] rfl ?_
      refine r_ld (.aload_n 0) 1 2 0 (.ref 0) rfl rfl rfl rfl 109 rfl ?_
      refine r_go (.getfield 56) 3 rfl rfl rfl 112 [.ref 11] rfl ?_
      refine r_ld (.iload_n 1) 1 0 1 (.int (a1)) rfl rfl rfl rfl 113 rfl ?_
      refine q_cI w_PM rfl (.invokevirtual 239) rfl rfl rfl 120 [.ref 11, .int (a1)] [] rfl (k9_price_11 a1 M2) (fun v8 => ?_)
      exact r_ret .ireturn 1 rfl rfl rfl _ rfl
    refine q_or w_PM (a2 = 5) (fun e5 => ?_) (fun e5 => ?_)
    · rw [e5]
      refine r_go (.tableswitch 141 0 7 #[46, 55, 64, 73, 90, 99, 108, 125]) 46 rfl rfl rfl 117 [] rfl ?_
      refine r_ld (.aload_n 0) 1 2 0 (.ref 0) rfl rfl rfl rfl 118 rfl ?_
      refine r_go (.getfield 63) 3 rfl rfl rfl 121 [.ref 12] rfl ?_
      refine r_ld (.iload_n 1) 1 0 1 (.int (a1)) rfl rfl rfl rfl 122 rfl ?_
      refine q_cI w_PM rfl (.invokevirtual 242) rfl rfl rfl 31 [.ref 12, .int (a1)] [] rfl (k2_groupOf_12 a1 M2) (fun v9 => ?_)
      exact r_ret .ireturn 1 rfl rfl rfl _ rfl
    refine q_or w_PM (a2 = 6) (fun e6 => ?_) (fun e6 => ?_)
    · rw [e6]
      refine r_go (.tableswitch 141 0 7 #[46, 55, 64, 73, 90, 99, 108, 125]) 46 rfl rfl rfl 126 [] rfl ?_
      refine r_ld (.aload_n 0) 1 2 0 (.ref 0) rfl rfl rfl rfl 127 rfl ?_
      refine r_go (.getfield 56) 3 rfl rfl rfl 130 [.ref 11] rfl ?_
      refine r_ld (.iload_n 1) 1 0 1 (.int (a1)) rfl rfl rfl rfl 131 rfl ?_
      refine q_cIz w_PM rfl (.invokevirtual 245) rfl rfl rfl 121 rfl [.ref 11, .int (a1)] [] rfl (k9_isKept_11 a1 M2) (fun v10 z11 => ?_)
      refine q_br w_PM (.ifCond .eq 7) 3 rfl rfl rfl (v10 = 0) 141 137 [] rfl (fun _ => ?_) (fun _ => ?_)
      · refine q_const (.iconst 0) 1 rfl rfl rfl 142 (0) _ rfl cd_kj0 ?_
        exact r_ret .ireturn 1 rfl rfl rfl _ rfl
      · refine q_const (.iconst 1) 1 rfl rfl rfl 138 (1) _ rfl cd_kj1 ?_
        refine r_go (.goto 4) 3 rfl rfl rfl 142 [.int (1)] rfl ?_
        exact r_ret .ireturn 1 rfl rfl rfl _ rfl
    refine q_or w_PM (a2 = 7) (fun e7 => ?_) (fun e7 => ?_)
    · rw [e7]
      refine r_go (.tableswitch 141 0 7 #[46, 55, 64, 73, 90, 99, 108, 125]) 46 rfl rfl rfl 143 [] rfl ?_
      refine r_ld (.aload_n 0) 1 2 0 (.ref 0) rfl rfl rfl rfl 144 rfl ?_
      refine r_go (.getfield 63) 3 rfl rfl rfl 147 [.ref 12] rfl ?_
      refine r_ld (.aload_n 0) 1 2 0 (.ref 0) rfl rfl rfl rfl 148 rfl ?_
      refine r_go (.getfield 63) 3 rfl rfl rfl 151 [.ref 12, .ref 12] rfl ?_
      refine r_ld (.iload_n 1) 1 0 1 (.int (a1)) rfl rfl rfl rfl 152 rfl ?_
      refine q_cI w_PM rfl (.invokevirtual 242) rfl rfl rfl 31 [.ref 12, .int (a1)] [.ref 12] rfl (k2_groupOf_12 a1 M2) (fun v12 => ?_)
      refine q_cI w_PM rfl (.invokevirtual 248) rfl rfl rfl 32 [.ref 12, .int (v12)] [] rfl (k2_frameOf_12 v12 M2) (fun v13 => ?_)
      exact r_ret .ireturn 1 rfl rfl rfl _ rfl
    have g0 := cd_neI 0 (by omega) e0
    have g1 := cd_neI 1 (by omega) e1
    have g2 := cd_neI 2 (by omega) e2
    have g3 := cd_neI 3 (by omega) e3
    have g4 := cd_neI 4 (by omega) e4
    have g5 := cd_neI 5 (by omega) e5
    have g6 := cd_neI 6 (by omega) e6
    have g7 := cd_neI 7 (by omega) e7
    refine q_swD (141) 7 #[46, 55, 64, 73, 90, 99, 108, 125] 46 rfl (by omega) 159 rfl ?_
    refine q_const (.iconst (-1)) 1 rfl rfl rfl 160 (-1) _ rfl cd_kjm1 ?_
    exact r_ret .ireturn 1 rfl rfl rfl _ rfl
def f2_frames_12 (M : cd_M) : Nat := 13
set_option maxRecDepth 8000 in
theorem k2_frames_12 (M : cd_M) : cd_R 30 0 [some (.ref 12)] [] M ((w_TR M) (f2_frames_12 M)) := by
  unfold f2_frames_12
  refine r_ld (.aload_n 0) 1 2 0 (.ref 12) rfl rfl rfl rfl 1 rfl ?_
  refine r_go (.getfield 32) 3 rfl rfl rfl 4 [.ref 13] rfl ?_
  exact r_ret .areturn 1 rfl rfl rfl _ rfl
def f2_pairs_12 (M : cd_M) : Int32 := (M.1 12 8)
set_option maxRecDepth 8000 in
theorem k2_pairs_12 (M : cd_M) : cd_R 29 0 [some (.ref 12)] [] M ((w_TI M) (f2_pairs_12 M)) := by
  unfold f2_pairs_12
  refine r_ld (.aload_n 0) 1 2 0 (.ref 12) rfl rfl rfl rfl 1 rfl ?_
  refine r_go (.getfield 43) 3 rfl rfl rfl 4 [.int (M.1 12 8)] rfl ?_
  exact r_ret .ireturn 1 rfl rfl rfl _ rfl
def f2_orphans_12 (M : cd_M) : Int32 := (M.1 12 7)
set_option maxRecDepth 8000 in
theorem k2_orphans_12 (M : cd_M) : cd_R 28 0 [some (.ref 12)] [] M ((w_TI M) (f2_orphans_12 M)) := by
  unfold f2_orphans_12
  refine r_ld (.aload_n 0) 1 2 0 (.ref 12) rfl rfl rfl rfl 1 rfl ?_
  refine r_go (.getfield 40) 3 rfl rfl rfl 4 [.int (M.1 12 7)] rfl ?_
  exact r_ret .ireturn 1 rfl rfl rfl _ rfl
def f9_dropped_11 (M : cd_M) : Int32 := (M.1 11 8)
set_option maxRecDepth 8000 in
theorem k9_dropped_11 (M : cd_M) : cd_R 124 0 [some (.ref 11)] [] M ((w_TI M) (f9_dropped_11 M)) := by
  unfold f9_dropped_11
  refine r_ld (.aload_n 0) 1 2 0 (.ref 11) rfl rfl rfl rfl 1 rfl ?_
  refine r_go (.getfield 38) 3 rfl rfl rfl 4 [.int (M.1 11 8)] rfl ?_
  exact r_ret .ireturn 1 rfl rfl rfl _ rfl
def f2_size_12 (M : cd_M) : Int32 := (M.1 12 6)
set_option maxRecDepth 8000 in
theorem k2_size_12 (M : cd_M) : cd_R 27 0 [some (.ref 12)] [] M ((w_TI M) (f2_size_12 M)) := by
  unfold f2_size_12
  refine r_ld (.aload_n 0) 1 2 0 (.ref 12) rfl rfl rfl rfl 1 rfl ?_
  refine r_go (.getfield 36) 3 rfl rfl rfl 4 [.int (M.1 12 6)] rfl ?_
  exact r_ret .ireturn 1 rfl rfl rfl _ rfl
def f9_edits_11 (M : cd_M) : Int32 := (M.1 11 7)
set_option maxRecDepth 8000 in
theorem k9_edits_11 (M : cd_M) : cd_R 123 0 [some (.ref 11)] [] M ((w_TI M) (f9_edits_11 M)) := by
  unfold f9_edits_11
  refine r_ld (.aload_n 0) 1 2 0 (.ref 11) rfl rfl rfl rfl 1 rfl ?_
  refine r_go (.getfield 35) 3 rfl rfl rfl 4 [.int (M.1 11 7)] rfl ?_
  exact r_ret .ireturn 1 rfl rfl rfl _ rfl
def f9_total_11 (M : cd_M) : Int32 := (M.1 11 9)
set_option maxRecDepth 8000 in
theorem k9_total_11 (M : cd_M) : cd_R 125 0 [some (.ref 11)] [] M ((w_TI M) (f9_total_11 M)) := by
  unfold f9_total_11
  refine r_ld (.aload_n 0) 1 2 0 (.ref 11) rfl rfl rfl rfl 1 rfl ?_
  refine r_go (.getfield 41) 3 rfl rfl rfl 4 [.int (M.1 11 9)] rfl ?_
  exact r_ret .ireturn 1 rfl rfl rfl _ rfl
def f10_all_0 (a1 : Int32) (M : cd_M) : Option (Int32 × cd_M) := (f10_followPath_0 M).bind fun M1 => if a1 = 0 then (some (f9_total_11 M1, M1)) else (if a1 = 1 then (some (f9_edits_11 M1, M1)) else (if a1 = 2 then (some (f2_size_12 M1, M1)) else (if a1 = 3 then (some (f9_dropped_11 M1, M1)) else (if a1 = 4 then (some (f2_orphans_12 M1, M1)) else (if a1 = 5 then (some (f2_pairs_12 M1, M1)) else (if a1 = 6 then (some (f1_size_13 M1, M1)) else (some ((-1), M1))))))))
set_option maxRecDepth 8000 in
theorem k10_all_0 (a1 : Int32) (M : cd_M) : cd_R 140 0 [some (.ref 0), some (.int (a1))] [] M (w_PM (f10_all_0 a1 M)) := by
  unfold f10_all_0
  refine r_ld (.aload_n 0) 1 2 0 (.ref 0) rfl rfl rfl rfl 1 rfl ?_
  refine q_cV w_PM rfl (.invokevirtual 224) rfl rfl rfl 153 [.ref 0] [] rfl (k10_followPath_0 M) (fun M1 => ?_)
  refine r_ld (.iload_n 1) 1 0 1 (.int (a1)) rfl rfl rfl rfl 5 rfl ?_
  refine q_or w_PM (a1 = 0) (fun e0 => ?_) (fun e0 => ?_)
  · rw [e0]
    refine r_go (.tableswitch 102 0 6 #[43, 51, 59, 67, 75, 83, 91]) 43 rfl rfl rfl 48 [] rfl ?_
    refine r_ld (.aload_n 0) 1 2 0 (.ref 0) rfl rfl rfl rfl 49 rfl ?_
    refine r_go (.getfield 56) 3 rfl rfl rfl 52 [.ref 11] rfl ?_
    refine q_cTI (.invokevirtual 251) rfl rfl rfl 125 [.ref 11] [] rfl (k9_total_11 M1) ?_
    exact r_ret .ireturn 1 rfl rfl rfl _ rfl
  refine q_or w_PM (a1 = 1) (fun e1 => ?_) (fun e1 => ?_)
  · rw [e1]
    refine r_go (.tableswitch 102 0 6 #[43, 51, 59, 67, 75, 83, 91]) 43 rfl rfl rfl 56 [] rfl ?_
    refine r_ld (.aload_n 0) 1 2 0 (.ref 0) rfl rfl rfl rfl 57 rfl ?_
    refine r_go (.getfield 56) 3 rfl rfl rfl 60 [.ref 11] rfl ?_
    refine q_cTI (.invokevirtual 254) rfl rfl rfl 123 [.ref 11] [] rfl (k9_edits_11 M1) ?_
    exact r_ret .ireturn 1 rfl rfl rfl _ rfl
  refine q_or w_PM (a1 = 2) (fun e2 => ?_) (fun e2 => ?_)
  · rw [e2]
    refine r_go (.tableswitch 102 0 6 #[43, 51, 59, 67, 75, 83, 91]) 43 rfl rfl rfl 64 [] rfl ?_
    refine r_ld (.aload_n 0) 1 2 0 (.ref 0) rfl rfl rfl rfl 65 rfl ?_
    refine r_go (.getfield 63) 3 rfl rfl rfl 68 [.ref 12] rfl ?_
    refine q_cTI (.invokevirtual 257) rfl rfl rfl 27 [.ref 12] [] rfl (k2_size_12 M1) ?_
    exact r_ret .ireturn 1 rfl rfl rfl _ rfl
  refine q_or w_PM (a1 = 3) (fun e3 => ?_) (fun e3 => ?_)
  · rw [e3]
    refine r_go (.tableswitch 102 0 6 #[43, 51, 59, 67, 75, 83, 91]) 43 rfl rfl rfl 72 [] rfl ?_
    refine r_ld (.aload_n 0) 1 2 0 (.ref 0) rfl rfl rfl rfl 73 rfl ?_
    refine r_go (.getfield 56) 3 rfl rfl rfl 76 [.ref 11] rfl ?_
    refine q_cTI (.invokevirtual 258) rfl rfl rfl 124 [.ref 11] [] rfl (k9_dropped_11 M1) ?_
    exact r_ret .ireturn 1 rfl rfl rfl _ rfl
  refine q_or w_PM (a1 = 4) (fun e4 => ?_) (fun e4 => ?_)
  · rw [e4]
    refine r_go (.tableswitch 102 0 6 #[43, 51, 59, 67, 75, 83, 91]) 43 rfl rfl rfl 80 [] rfl ?_
    refine r_ld (.aload_n 0) 1 2 0 (.ref 0) rfl rfl rfl rfl 81 rfl ?_
    refine r_go (.getfield 63) 3 rfl rfl rfl 84 [.ref 12] rfl ?_
    refine q_cTI (.invokevirtual 261) rfl rfl rfl 28 [.ref 12] [] rfl (k2_orphans_12 M1) ?_
    exact r_ret .ireturn 1 rfl rfl rfl _ rfl
  refine q_or w_PM (a1 = 5) (fun e5 => ?_) (fun e5 => ?_)
  · rw [e5]
    refine r_go (.tableswitch 102 0 6 #[43, 51, 59, 67, 75, 83, 91]) 43 rfl rfl rfl 88 [] rfl ?_
    refine r_ld (.aload_n 0) 1 2 0 (.ref 0) rfl rfl rfl rfl 89 rfl ?_
    refine r_go (.getfield 63) 3 rfl rfl rfl 92 [.ref 12] rfl ?_
    refine q_cTI (.invokevirtual 264) rfl rfl rfl 29 [.ref 12] [] rfl (k2_pairs_12 M1) ?_
    exact r_ret .ireturn 1 rfl rfl rfl _ rfl
  refine q_or w_PM (a1 = 6) (fun e6 => ?_) (fun e6 => ?_)
  · rw [e6]
    refine r_go (.tableswitch 102 0 6 #[43, 51, 59, 67, 75, 83, 91]) 43 rfl rfl rfl 96 [] rfl ?_
    refine r_ld (.aload_n 0) 1 2 0 (.ref 0) rfl rfl rfl rfl 97 rfl ?_
    refine r_go (.getfield 63) 3 rfl rfl rfl 100 [.ref 12] rfl ?_
    refine q_cTR (.invokevirtual 267) rfl rfl rfl 30 [.ref 12] [] rfl (k2_frames_12 M1) ?_
    refine q_cTI (.invokevirtual 125) rfl rfl rfl 13 [.ref 13] [] rfl (k1_size_13 M1) ?_
    exact r_ret .ireturn 1 rfl rfl rfl _ rfl
  have g0 := cd_neI 0 (by omega) e0
  have g1 := cd_neI 1 (by omega) e1
  have g2 := cd_neI 2 (by omega) e2
  have g3 := cd_neI 3 (by omega) e3
  have g4 := cd_neI 4 (by omega) e4
  have g5 := cd_neI 5 (by omega) e5
  have g6 := cd_neI 6 (by omega) e6
  refine q_swD (102) 6 #[43, 51, 59, 67, 75, 83, 91] 43 rfl (by omega) 107 rfl ?_
  refine q_const (.iconst (-1)) 1 rfl rfl rfl 108 (-1) _ rfl cd_kjm1 ?_
  exact r_ret .ireturn 1 rfl rfl rfl _ rfl
def f9_fieldOfEdit_11 (a1 : Int32) (M : cd_M) : Option (Int32) := if a1 < 0 then (some (-1)) else (if M.1 11 7 ≤ a1 then (some (-1)) else (if cd_in a1 90 = true then (some (M.1 48 a1.toNatClampNeg)) else none))
set_option maxRecDepth 8000 in
theorem k9_fieldOfEdit_11 (a1 : Int32) (M : cd_M) : cd_R 122 0 [some (.ref 11), some (.int (a1))] [] M ((w_PI M) (f9_fieldOfEdit_11 a1 M)) := by
  unfold f9_fieldOfEdit_11
  refine r_ld (.iload_n 1) 1 0 1 (.int (a1)) rfl rfl rfl rfl 1 rfl ?_
  refine q_br (w_PI M) (.ifCond .lt 20) 3 rfl rfl rfl (a1 < 0) 21 4 [] rfl (fun _ => ?_) (fun _ => ?_)
  · refine q_const (.iconst (-1)) 1 rfl rfl rfl 22 (-1) _ rfl cd_kjm1 ?_
    exact r_ret .ireturn 1 rfl rfl rfl _ rfl
  · refine r_ld (.iload_n 1) 1 0 1 (.int (a1)) rfl rfl rfl rfl 5 rfl ?_
    refine r_ld (.aload_n 0) 1 2 0 (.ref 11) rfl rfl rfl rfl 6 rfl ?_
    refine r_go (.getfield 35) 3 rfl rfl rfl 9 [.int (M.1 11 7), .int (a1)] rfl ?_
    refine q_br (w_PI M) (.if_icmp .ge 12) 3 rfl rfl rfl (M.1 11 7 ≤ a1) 21 12 [] rfl (fun _ => ?_) (fun _ => ?_)
    · refine q_const (.iconst (-1)) 1 rfl rfl rfl 22 (-1) _ rfl cd_kjm1 ?_
      exact r_ret .ireturn 1 rfl rfl rfl _ rfl
    · refine r_ld (.aload_n 0) 1 2 0 (.ref 11) rfl rfl rfl rfl 13 rfl ?_
      refine r_go (.getfield 28) 3 rfl rfl rfl 16 [.ref 48] rfl ?_
      refine r_ld (.iload_n 1) 1 0 1 (.int (a1)) rfl rfl rfl rfl 17 rfl ?_
      refine q_iald (w_PI M) rfl rfl 48 90 rfl ?_
      refine r_go (.goto 4) 3 rfl rfl rfl 22 [.int (M.1 48 a1.toNatClampNeg)] rfl ?_
      exact r_ret .ireturn 1 rfl rfl rfl _ rfl
def f10_edit_0 (a1 : Int32) (M : cd_M) : Option (Int32 × cd_M) := (f10_followPath_0 M).bind fun M1 => if a1 < 0 then (some ((-1), M1)) else (if f9_edits_11 M1 ≤ a1 then (some ((-1), M1)) else ((f9_fieldOfEdit_11 a1 M1).bind fun v2 => some (v2, M1)))
set_option maxRecDepth 8000 in
theorem k10_edit_0 (a1 : Int32) (M : cd_M) : cd_R 141 0 [some (.ref 0), some (.int (a1))] [] M (w_PM (f10_edit_0 a1 M)) := by
  unfold f10_edit_0
  refine r_ld (.aload_n 0) 1 2 0 (.ref 0) rfl rfl rfl rfl 1 rfl ?_
  refine q_cV w_PM rfl (.invokevirtual 224) rfl rfl rfl 153 [.ref 0] [] rfl (k10_followPath_0 M) (fun M1 => ?_)
  refine r_ld (.iload_n 1) 1 0 1 (.int (a1)) rfl rfl rfl rfl 5 rfl ?_
  refine q_br w_PM (.ifCond .lt 25) 3 rfl rfl rfl (a1 < 0) 30 8 [] rfl (fun _ => ?_) (fun _ => ?_)
  · refine q_const (.iconst (-1)) 1 rfl rfl rfl 31 (-1) _ rfl cd_kjm1 ?_
    exact r_ret .ireturn 1 rfl rfl rfl _ rfl
  · refine r_ld (.iload_n 1) 1 0 1 (.int (a1)) rfl rfl rfl rfl 9 rfl ?_
    refine r_ld (.aload_n 0) 1 2 0 (.ref 0) rfl rfl rfl rfl 10 rfl ?_
    refine r_go (.getfield 56) 3 rfl rfl rfl 13 [.ref 11, .int (a1)] rfl ?_
    refine q_cTI (.invokevirtual 254) rfl rfl rfl 123 [.ref 11] [.int (a1)] rfl (k9_edits_11 M1) ?_
    refine q_br w_PM (.if_icmp .ge 14) 3 rfl rfl rfl (f9_edits_11 M1 ≤ a1) 30 19 [] rfl (fun _ => ?_) (fun _ => ?_)
    · refine q_const (.iconst (-1)) 1 rfl rfl rfl 31 (-1) _ rfl cd_kjm1 ?_
      exact r_ret .ireturn 1 rfl rfl rfl _ rfl
    · refine r_ld (.aload_n 0) 1 2 0 (.ref 0) rfl rfl rfl rfl 20 rfl ?_
      refine r_go (.getfield 56) 3 rfl rfl rfl 23 [.ref 11] rfl ?_
      refine r_ld (.iload_n 1) 1 0 1 (.int (a1)) rfl rfl rfl rfl 24 rfl ?_
      refine q_cI w_PM rfl (.invokevirtual 268) rfl rfl rfl 122 [.ref 11, .int (a1)] [] rfl (k9_fieldOfEdit_11 a1 M1) (fun v2 => ?_)
      refine r_go (.goto 4) 3 rfl rfl rfl 31 [.int (v2)] rfl ?_
      exact r_ret .ireturn 1 rfl rfl rfl _ rfl
def f2_mateOf_12 (a1 : Int32) (M : cd_M) : Option (Int32) := if f2_has_12 a1 M = 0 then (some (-1)) else (if cd_in a1 90 = true then (some (M.1 52 a1.toNatClampNeg)) else none)
set_option maxRecDepth 8000 in
theorem k2_mateOf_12 (a1 : Int32) (M : cd_M) : cd_R 36 0 [some (.ref 12), some (.int (a1))] [] M ((w_PI M) (f2_mateOf_12 a1 M)) := by
  unfold f2_mateOf_12
  refine r_ld (.aload_n 0) 1 2 0 (.ref 12) rfl rfl rfl rfl 1 rfl ?_
  refine r_ld (.iload_n 1) 1 0 1 (.int (a1)) rfl rfl rfl rfl 2 rfl ?_
  refine q_cTIz (.invokevirtual 104) rfl rfl rfl 26 rfl [.ref 12, .int (a1)] [] rfl (k2_has_12 a1 M) (fun z1 => ?_)
  refine q_br (w_PI M) (.ifCond .eq 12) 3 rfl rfl rfl (f2_has_12 a1 M = 0) 17 8 [] rfl (fun _ => ?_) (fun _ => ?_)
  · refine q_const (.iconst (-1)) 1 rfl rfl rfl 18 (-1) _ rfl cd_kjm1 ?_
    exact r_ret .ireturn 1 rfl rfl rfl _ rfl
  · refine r_ld (.aload_n 0) 1 2 0 (.ref 12) rfl rfl rfl rfl 9 rfl ?_
    refine r_go (.getfield 21) 3 rfl rfl rfl 12 [.ref 52] rfl ?_
    refine r_ld (.iload_n 1) 1 0 1 (.int (a1)) rfl rfl rfl rfl 13 rfl ?_
    refine q_iald (w_PI M) rfl rfl 52 90 rfl ?_
    refine r_go (.goto 4) 3 rfl rfl rfl 18 [.int (M.1 52 a1.toNatClampNeg)] rfl ?_
    exact r_ret .ireturn 1 rfl rfl rfl _ rfl
def f2_length_12 (a1 : Int32) (M : cd_M) : Option (Int32) := if f2_has_12 a1 M = 0 then (some 0) else (if cd_in a1 90 = true then (some (M.1 51 a1.toNatClampNeg)) else none)
set_option maxRecDepth 8000 in
theorem k2_length_12 (a1 : Int32) (M : cd_M) : cd_R 34 0 [some (.ref 12), some (.int (a1))] [] M ((w_PI M) (f2_length_12 a1 M)) := by
  unfold f2_length_12
  refine r_ld (.aload_n 0) 1 2 0 (.ref 12) rfl rfl rfl rfl 1 rfl ?_
  refine r_ld (.iload_n 1) 1 0 1 (.int (a1)) rfl rfl rfl rfl 2 rfl ?_
  refine q_cTIz (.invokevirtual 104) rfl rfl rfl 26 rfl [.ref 12, .int (a1)] [] rfl (k2_has_12 a1 M) (fun z1 => ?_)
  refine q_br (w_PI M) (.ifCond .eq 12) 3 rfl rfl rfl (f2_has_12 a1 M = 0) 17 8 [] rfl (fun _ => ?_) (fun _ => ?_)
  · refine q_const (.iconst 0) 1 rfl rfl rfl 18 (0) _ rfl cd_kj0 ?_
    exact r_ret .ireturn 1 rfl rfl rfl _ rfl
  · refine r_ld (.aload_n 0) 1 2 0 (.ref 12) rfl rfl rfl rfl 9 rfl ?_
    refine r_go (.getfield 18) 3 rfl rfl rfl 12 [.ref 51] rfl ?_
    refine r_ld (.iload_n 1) 1 0 1 (.int (a1)) rfl rfl rfl rfl 13 rfl ?_
    refine q_iald (w_PI M) rfl rfl 51 90 rfl ?_
    refine r_go (.goto 4) 3 rfl rfl rfl 18 [.int (M.1 51 a1.toNatClampNeg)] rfl ?_
    exact r_ret .ireturn 1 rfl rfl rfl _ rfl
def f2_start_12 (a1 : Int32) (M : cd_M) : Option (Int32) := if f2_has_12 a1 M = 0 then (some (-1)) else (if cd_in a1 90 = true then (some (M.1 50 a1.toNatClampNeg)) else none)
set_option maxRecDepth 8000 in
theorem k2_start_12 (a1 : Int32) (M : cd_M) : cd_R 33 0 [some (.ref 12), some (.int (a1))] [] M ((w_PI M) (f2_start_12 a1 M)) := by
  unfold f2_start_12
  refine r_ld (.aload_n 0) 1 2 0 (.ref 12) rfl rfl rfl rfl 1 rfl ?_
  refine r_ld (.iload_n 1) 1 0 1 (.int (a1)) rfl rfl rfl rfl 2 rfl ?_
  refine q_cTIz (.invokevirtual 104) rfl rfl rfl 26 rfl [.ref 12, .int (a1)] [] rfl (k2_has_12 a1 M) (fun z1 => ?_)
  refine q_br (w_PI M) (.ifCond .eq 12) 3 rfl rfl rfl (f2_has_12 a1 M = 0) 17 8 [] rfl (fun _ => ?_) (fun _ => ?_)
  · refine q_const (.iconst (-1)) 1 rfl rfl rfl 18 (-1) _ rfl cd_kjm1 ?_
    exact r_ret .ireturn 1 rfl rfl rfl _ rfl
  · refine r_ld (.aload_n 0) 1 2 0 (.ref 12) rfl rfl rfl rfl 9 rfl ?_
    refine r_go (.getfield 15) 3 rfl rfl rfl 12 [.ref 50] rfl ?_
    refine r_ld (.iload_n 1) 1 0 1 (.int (a1)) rfl rfl rfl rfl 13 rfl ?_
    refine q_iald (w_PI M) rfl rfl 50 90 rfl ?_
    refine r_go (.goto 4) 3 rfl rfl rfl 18 [.int (M.1 50 a1.toNatClampNeg)] rfl ?_
    exact r_ret .ireturn 1 rfl rfl rfl _ rfl
def f10_group_0 (a1 : Int32) (a2 : Int32) (M : cd_M) : Option (Int32 × cd_M) := (f10_followPath_0 M).bind fun M1 => if f2_has_12 a1 M1 = 0 then (some ((-2), M1)) else (if a2 = 0 then ((f2_start_12 a1 M1).bind fun v3 => some (v3, M1)) else (if a2 = 1 then ((f2_length_12 a1 M1).bind fun v4 => some (v4, M1)) else (if a2 = 2 then ((f2_isOrphan_12 a1 M1).bind fun v5 => if v5 = 0 then (some (0, M1)) else (some (1, M1))) else (if a2 = 3 then ((f2_mateOf_12 a1 M1).bind fun v7 => some (v7, M1)) else (some ((-2), M1))))))
set_option maxRecDepth 8000 in
theorem k10_group_0 (a1 : Int32) (a2 : Int32) (M : cd_M) : cd_R 142 0 [some (.ref 0), some (.int (a1)), some (.int (a2))] [] M (w_PM (f10_group_0 a1 a2 M)) := by
  unfold f10_group_0
  refine r_ld (.aload_n 0) 1 2 0 (.ref 0) rfl rfl rfl rfl 1 rfl ?_
  refine q_cV w_PM rfl (.invokevirtual 224) rfl rfl rfl 153 [.ref 0] [] rfl (k10_followPath_0 M) (fun M1 => ?_)
  refine r_ld (.aload_n 0) 1 2 0 (.ref 0) rfl rfl rfl rfl 5 rfl ?_
  refine r_go (.getfield 63) 3 rfl rfl rfl 8 [.ref 12] rfl ?_
  refine r_ld (.iload_n 1) 1 0 1 (.int (a1)) rfl rfl rfl rfl 9 rfl ?_
  refine q_cTIz (.invokevirtual 271) rfl rfl rfl 26 rfl [.ref 12, .int (a1)] [] rfl (k2_has_12 a1 M1) (fun z2 => ?_)
  refine q_br w_PM (.ifCond .ne 6) 3 rfl rfl rfl (f2_has_12 a1 M1 = 0) 15 18 [] rfl (fun _ => ?_) (fun _ => ?_)
  · refine q_const (.bipush (-2)) 2 rfl rfl rfl 17 (-2) _ rfl cd_kcm2 ?_
    exact r_ret .ireturn 1 rfl rfl rfl _ rfl
  · refine r_ld (.iload_n 2) 1 0 2 (.int (a2)) rfl rfl rfl rfl 19 rfl ?_
    refine q_or w_PM (a2 = 0) (fun e0 => ?_) (fun e0 => ?_)
    · rw [e0]
      refine r_go (.tableswitch 73 0 3 #[29, 38, 47, 64]) 29 rfl rfl rfl 48 [] rfl ?_
      refine r_ld (.aload_n 0) 1 2 0 (.ref 0) rfl rfl rfl rfl 49 rfl ?_
      refine r_go (.getfield 63) 3 rfl rfl rfl 52 [.ref 12] rfl ?_
      refine r_ld (.iload_n 1) 1 0 1 (.int (a1)) rfl rfl rfl rfl 53 rfl ?_
      refine q_cI w_PM rfl (.invokevirtual 272) rfl rfl rfl 33 [.ref 12, .int (a1)] [] rfl (k2_start_12 a1 M1) (fun v3 => ?_)
      exact r_ret .ireturn 1 rfl rfl rfl _ rfl
    refine q_or w_PM (a2 = 1) (fun e1 => ?_) (fun e1 => ?_)
    · rw [e1]
      refine r_go (.tableswitch 73 0 3 #[29, 38, 47, 64]) 29 rfl rfl rfl 57 [] rfl ?_
      refine r_ld (.aload_n 0) 1 2 0 (.ref 0) rfl rfl rfl rfl 58 rfl ?_
      refine r_go (.getfield 63) 3 rfl rfl rfl 61 [.ref 12] rfl ?_
      refine r_ld (.iload_n 1) 1 0 1 (.int (a1)) rfl rfl rfl rfl 62 rfl ?_
      refine q_cI w_PM rfl (.invokevirtual 275) rfl rfl rfl 34 [.ref 12, .int (a1)] [] rfl (k2_length_12 a1 M1) (fun v4 => ?_)
      exact r_ret .ireturn 1 rfl rfl rfl _ rfl
    refine q_or w_PM (a2 = 2) (fun e2 => ?_) (fun e2 => ?_)
    · rw [e2]
      refine r_go (.tableswitch 73 0 3 #[29, 38, 47, 64]) 29 rfl rfl rfl 66 [] rfl ?_
      refine r_ld (.aload_n 0) 1 2 0 (.ref 0) rfl rfl rfl rfl 67 rfl ?_
      refine r_go (.getfield 63) 3 rfl rfl rfl 70 [.ref 12] rfl ?_
      refine r_ld (.iload_n 1) 1 0 1 (.int (a1)) rfl rfl rfl rfl 71 rfl ?_
      refine q_cIz w_PM rfl (.invokevirtual 276) rfl rfl rfl 35 rfl [.ref 12, .int (a1)] [] rfl (k2_isOrphan_12 a1 M1) (fun v5 z6 => ?_)
      refine q_br w_PM (.ifCond .eq 7) 3 rfl rfl rfl (v5 = 0) 81 77 [] rfl (fun _ => ?_) (fun _ => ?_)
      · refine q_const (.iconst 0) 1 rfl rfl rfl 82 (0) _ rfl cd_kj0 ?_
        exact r_ret .ireturn 1 rfl rfl rfl _ rfl
      · refine q_const (.iconst 1) 1 rfl rfl rfl 78 (1) _ rfl cd_kj1 ?_
        refine r_go (.goto 4) 3 rfl rfl rfl 82 [.int (1)] rfl ?_
        exact r_ret .ireturn 1 rfl rfl rfl _ rfl
    refine q_or w_PM (a2 = 3) (fun e3 => ?_) (fun e3 => ?_)
    · rw [e3]
      refine r_go (.tableswitch 73 0 3 #[29, 38, 47, 64]) 29 rfl rfl rfl 83 [] rfl ?_
      refine r_ld (.aload_n 0) 1 2 0 (.ref 0) rfl rfl rfl rfl 84 rfl ?_
      refine r_go (.getfield 63) 3 rfl rfl rfl 87 [.ref 12] rfl ?_
      refine r_ld (.iload_n 1) 1 0 1 (.int (a1)) rfl rfl rfl rfl 88 rfl ?_
      refine q_cI w_PM rfl (.invokevirtual 279) rfl rfl rfl 36 [.ref 12, .int (a1)] [] rfl (k2_mateOf_12 a1 M1) (fun v7 => ?_)
      exact r_ret .ireturn 1 rfl rfl rfl _ rfl
    have g0 := cd_neI 0 (by omega) e0
    have g1 := cd_neI 1 (by omega) e1
    have g2 := cd_neI 2 (by omega) e2
    have g3 := cd_neI 3 (by omega) e3
    refine q_swD (73) 3 #[29, 38, 47, 64] 29 rfl (by omega) 92 rfl ?_
    refine q_const (.bipush (-2)) 2 rfl rfl rfl 94 (-2) _ rfl cd_kcm2 ?_
    exact r_ret .ireturn 1 rfl rfl rfl _ rfl
def f1_has_13 (a1 : Int32) (M : cd_M) : Int32 := if a1 < 0 then (0) else (if M.1 13 3 ≤ a1 then (0) else (1))
set_option maxRecDepth 8000 in
theorem k1_has_13 (a1 : Int32) (M : cd_M) : cd_R 14 0 [some (.ref 13), some (.int (a1))] [] M ((w_TI M) (f1_has_13 a1 M)) := by
  unfold f1_has_13
  refine r_ld (.iload_n 1) 1 0 1 (.int (a1)) rfl rfl rfl rfl 1 rfl ?_
  refine q_br (w_TI M) (.ifCond .lt 15) 3 rfl rfl rfl (a1 < 0) 16 4 [] rfl (fun _ => ?_) (fun _ => ?_)
  · refine q_const (.iconst 0) 1 rfl rfl rfl 17 (0) _ rfl cd_kj0 ?_
    exact r_retZ rfl rfl (by decide)
  · refine r_ld (.iload_n 1) 1 0 1 (.int (a1)) rfl rfl rfl rfl 5 rfl ?_
    refine r_ld (.aload_n 0) 1 2 0 (.ref 13) rfl rfl rfl rfl 6 rfl ?_
    refine r_go (.getfield 13) 3 rfl rfl rfl 9 [.int (M.1 13 3), .int (a1)] rfl ?_
    refine q_br (w_TI M) (.if_icmp .ge 7) 3 rfl rfl rfl (M.1 13 3 ≤ a1) 16 12 [] rfl (fun _ => ?_) (fun _ => ?_)
    · refine q_const (.iconst 0) 1 rfl rfl rfl 17 (0) _ rfl cd_kj0 ?_
      exact r_retZ rfl rfl (by decide)
    · refine q_const (.iconst 1) 1 rfl rfl rfl 13 (1) _ rfl cd_kj1 ?_
      refine r_go (.goto 4) 3 rfl rfl rfl 17 [.int (1)] rfl ?_
      exact r_retZ rfl rfl (by decide)
def f1_row_13 (a1 : Int32) (a2 : Int32) (M : cd_M) : Option (Int64) := if f1_has_13 a1 M = 0 then (some 0) else (if a2 = 0 then (if cd_in a1 90 = true then (some (M.2 54 a1.toNatClampNeg)) else none) else (if cd_in a1 90 = true then (some (M.2 55 a1.toNatClampNeg)) else none))
set_option maxRecDepth 8000 in
theorem k1_row_13 (a1 : Int32) (a2 : Int32) (M : cd_M) : cd_R 16 0 [some (.ref 13), some (.int (a1)), some (.int (a2))] [] M ((w_PL M) (f1_row_13 a1 a2 M)) := by
  unfold f1_row_13
  refine r_ld (.aload_n 0) 1 2 0 (.ref 13) rfl rfl rfl rfl 1 rfl ?_
  refine r_ld (.iload_n 1) 1 0 1 (.int (a1)) rfl rfl rfl rfl 2 rfl ?_
  refine q_cTIz (.invokevirtual 29) rfl rfl rfl 14 rfl [.ref 13, .int (a1)] [] rfl (k1_has_13 a1 M) (fun z1 => ?_)
  refine q_br (w_PL M) (.ifCond .ne 5) 3 rfl rfl rfl (f1_has_13 a1 M = 0) 8 10 [] rfl (fun _ => ?_) (fun _ => ?_)
  · refine r_go (.lconst 0) 1 rfl rfl rfl 9 [.long (0)] rfl ?_
    exact r_ret .lreturn 1 rfl rfl rfl _ rfl
  · refine r_ld (.iload_n 2) 1 0 2 (.int (a2)) rfl rfl rfl rfl 11 rfl ?_
    refine q_br (w_PL M) (.ifCond .ne 12) 3 rfl rfl rfl (a2 = 0) 14 23 [] rfl (fun _ => ?_) (fun _ => ?_)
    · refine r_ld (.aload_n 0) 1 2 0 (.ref 13) rfl rfl rfl rfl 15 rfl ?_
      refine r_go (.getfield 22) 3 rfl rfl rfl 18 [.ref 54] rfl ?_
      refine r_ld (.iload_n 1) 1 0 1 (.int (a1)) rfl rfl rfl rfl 19 rfl ?_
      refine q_lald (w_PL M) rfl rfl 54 90 rfl ?_
      refine r_go (.goto 9) 3 rfl rfl rfl 29 [.long (M.2 54 a1.toNatClampNeg)] rfl ?_
      exact r_ret .lreturn 1 rfl rfl rfl _ rfl
    · refine r_ld (.aload_n 0) 1 2 0 (.ref 13) rfl rfl rfl rfl 24 rfl ?_
      refine r_go (.getfield 26) 3 rfl rfl rfl 27 [.ref 55] rfl ?_
      refine r_ld (.iload_n 1) 1 0 1 (.int (a1)) rfl rfl rfl rfl 28 rfl ?_
      refine q_lald (w_PL M) rfl rfl 55 90 rfl ?_
      exact r_ret .lreturn 1 rfl rfl rfl _ rfl
def f10_sampleOfFrame_0_13 (a2 : Int32) (a3 : Int32) (a4 : Int32) (M : cd_M) : Option (Int32) := if f1_has_13 a2 M = 0 then (some (-1)) else (if f10_isParity a3 M = 0 then (some (-1)) else (if f10_isSampleNumber_0 a4 M = 0 then (some (-1)) else ((f1_row_13 a2 a3 M).bind fun v4 => some (f10_sampleOf v4 a4 M))))
set_option maxRecDepth 8000 in
theorem k10_sampleOfFrame_0_13 (a2 : Int32) (a3 : Int32) (a4 : Int32) (M : cd_M) : cd_R 155 0 [some (.ref 0), some (.ref 13), some (.int (a2)), some (.int (a3)), some (.int (a4))] [] M ((w_PI M) (f10_sampleOfFrame_0_13 a2 a3 a4 M)) := by
  unfold f10_sampleOfFrame_0_13
  refine r_ld (.aload_n 1) 1 2 1 (.ref 13) rfl rfl rfl rfl 1 rfl ?_
  refine r_ld (.iload_n 2) 1 0 2 (.int (a2)) rfl rfl rfl rfl 2 rfl ?_
  refine q_cTIz (.invokevirtual 282) rfl rfl rfl 14 rfl [.ref 13, .int (a2)] [] rfl (k1_has_13 a2 M) (fun z1 => ?_)
  refine q_br (w_PI M) (.ifCond .eq 19) 3 rfl rfl rfl (f1_has_13 a2 M = 0) 24 8 [] rfl (fun _ => ?_) (fun _ => ?_)
  · refine q_const (.iconst (-1)) 1 rfl rfl rfl 25 (-1) _ rfl cd_kjm1 ?_
    exact r_ret .ireturn 1 rfl rfl rfl _ rfl
  · refine r_ld (.iload_n 3) 1 0 3 (.int (a3)) rfl rfl rfl rfl 9 rfl ?_
    refine q_cTIz (.invokestatic 158) rfl rfl rfl 157 rfl [.int (a3)] [] rfl (k10_isParity a3 M) (fun z2 => ?_)
    refine q_br (w_PI M) (.ifCond .eq 12) 3 rfl rfl rfl (f10_isParity a3 M = 0) 24 15 [] rfl (fun _ => ?_) (fun _ => ?_)
    · refine q_const (.iconst (-1)) 1 rfl rfl rfl 25 (-1) _ rfl cd_kjm1 ?_
      exact r_ret .ireturn 1 rfl rfl rfl _ rfl
    · refine r_ld (.aload_n 0) 1 2 0 (.ref 0) rfl rfl rfl rfl 16 rfl ?_
      refine r_ld (.iload 4) 2 0 4 (.int (a4)) rfl rfl rfl rfl 18 rfl ?_
      refine q_cTIz (.invokevirtual 189) rfl rfl rfl 156 rfl [.ref 0, .int (a4)] [] rfl (k10_isSampleNumber_0 a4 M) (fun z3 => ?_)
      refine q_br (w_PI M) (.ifCond .ne 5) 3 rfl rfl rfl (f10_isSampleNumber_0 a4 M = 0) 24 26 [] rfl (fun _ => ?_) (fun _ => ?_)
      · refine q_const (.iconst (-1)) 1 rfl rfl rfl 25 (-1) _ rfl cd_kjm1 ?_
        exact r_ret .ireturn 1 rfl rfl rfl _ rfl
      · refine r_ld (.aload_n 1) 1 2 1 (.ref 13) rfl rfl rfl rfl 27 rfl ?_
        refine r_ld (.iload_n 2) 1 0 2 (.int (a2)) rfl rfl rfl rfl 28 rfl ?_
        refine r_ld (.iload_n 3) 1 0 3 (.int (a3)) rfl rfl rfl rfl 29 rfl ?_
        refine q_cL (w_PI M) rfl (.invokevirtual 330) rfl rfl rfl 16 [.ref 13, .int (a2), .int (a3)] [] rfl (k1_row_13 a2 a3 M) (fun v4 => ?_)
        refine r_ld (.iload 4) 2 0 4 (.int (a4)) rfl rfl rfl rfl 34 rfl ?_
        refine q_cTI (.invokestatic 333) rfl rfl rfl 158 [.long (v4), .int (a4)] [] rfl (k10_sampleOf v4 a4 M) ?_
        exact r_ret .ireturn 1 rfl rfl rfl _ rfl
def f10_found_0 (a1 : Int32) (a2 : Int32) (a3 : Int32) (M : cd_M) : Option (Int32 × cd_M) := (f10_followPath_0 M).bind fun M1 => (f10_sampleOfFrame_0_13 a1 a2 a3 M1).bind fun v2 => some (v2, M1)
set_option maxRecDepth 8000 in
theorem k10_found_0 (a1 : Int32) (a2 : Int32) (a3 : Int32) (M : cd_M) : cd_R 143 0 [some (.ref 0), some (.int (a1)), some (.int (a2)), some (.int (a3))] [] M (w_PM (f10_found_0 a1 a2 a3 M)) := by
  unfold f10_found_0
  refine r_ld (.aload_n 0) 1 2 0 (.ref 0) rfl rfl rfl rfl 1 rfl ?_
  refine q_cV w_PM rfl (.invokevirtual 224) rfl rfl rfl 153 [.ref 0] [] rfl (k10_followPath_0 M) (fun M1 => ?_)
  refine r_ld (.aload_n 0) 1 2 0 (.ref 0) rfl rfl rfl rfl 5 rfl ?_
  refine r_ld (.aload_n 0) 1 2 0 (.ref 0) rfl rfl rfl rfl 6 rfl ?_
  refine r_go (.getfield 63) 3 rfl rfl rfl 9 [.ref 12, .ref 0] rfl ?_
  refine q_cTR (.invokevirtual 267) rfl rfl rfl 30 [.ref 12] [.ref 0] rfl (k2_frames_12 M1) ?_
  refine r_ld (.iload_n 1) 1 0 1 (.int (a1)) rfl rfl rfl rfl 13 rfl ?_
  refine r_ld (.iload_n 2) 1 0 2 (.int (a2)) rfl rfl rfl rfl 14 rfl ?_
  refine r_ld (.iload_n 3) 1 0 3 (.int (a3)) rfl rfl rfl rfl 15 rfl ?_
  refine q_cI w_PM rfl (.invokevirtual 139) rfl rfl rfl 155 [.ref 0, .ref 13, .int (a1), .int (a2), .int (a3)] [] rfl (k10_sampleOfFrame_0_13 a1 a2 a3 M1) (fun v2 => ?_)
  exact r_ret .ireturn 1 rfl rfl rfl _ rfl
def f1_isSame_5_13 (a1 : Int32) (a3 : Int32) (M : cd_M) : Option (Int32) := (f1_row_5 a1 0 M).bind fun v1 => (f1_row_13 a3 0 M).bind fun v2 => if lg_cmp v1 v2 = 0 then ((f1_row_5 a1 1 M).bind fun v3 => (f1_row_13 a3 1 M).bind fun v4 => if lg_cmp v3 v4 = 0 then (some 1) else (some 0)) else (some 0)
set_option maxRecDepth 8000 in
theorem k1_isSame_5_13 (a1 : Int32) (a3 : Int32) (M : cd_M) : cd_R 17 0 [some (.ref 5), some (.int (a1)), some (.ref 13), some (.int (a3))] [] M ((w_PI M) (f1_isSame_5_13 a1 a3 M)) := by
  unfold f1_isSame_5_13
  refine r_ld (.aload_n 0) 1 2 0 (.ref 5) rfl rfl rfl rfl 1 rfl ?_
  refine r_ld (.iload_n 1) 1 0 1 (.int (a1)) rfl rfl rfl rfl 2 rfl ?_
  refine q_const (.iconst 0) 1 rfl rfl rfl 3 (0) _ rfl cd_kj0 ?_
  refine q_cL (w_PI M) rfl (.invokevirtual 33) rfl rfl rfl 16 [.ref 5, .int (a1), .int (0)] [] rfl (k1_row_5 a1 0 M) (fun v1 => ?_)
  refine r_ld (.aload_n 2) 1 2 2 (.ref 13) rfl rfl rfl rfl 7 rfl ?_
  refine r_ld (.iload_n 3) 1 0 3 (.int (a3)) rfl rfl rfl rfl 8 rfl ?_
  refine q_const (.iconst 0) 1 rfl rfl rfl 9 (0) _ rfl cd_kj0 ?_
  refine q_cL (w_PI M) rfl (.invokevirtual 33) rfl rfl rfl 16 [.ref 13, .int (a3), .int (0)] [.long (v1)] rfl (k1_row_13 a3 0 M) (fun v2 => ?_)
  refine r_go (.lcmp) 1 rfl rfl rfl 13 [.int (lg_cmp v1 v2)] rfl ?_
  refine q_br (w_PI M) (.ifCond .ne 23) 3 rfl rfl rfl (lg_cmp v1 v2 = 0) 16 36 [] rfl (fun _ => ?_) (fun _ => ?_)
  · refine r_ld (.aload_n 0) 1 2 0 (.ref 5) rfl rfl rfl rfl 17 rfl ?_
    refine r_ld (.iload_n 1) 1 0 1 (.int (a1)) rfl rfl rfl rfl 18 rfl ?_
    refine q_const (.iconst 1) 1 rfl rfl rfl 19 (1) _ rfl cd_kj1 ?_
    refine q_cL (w_PI M) rfl (.invokevirtual 33) rfl rfl rfl 16 [.ref 5, .int (a1), .int (1)] [] rfl (k1_row_5 a1 1 M) (fun v3 => ?_)
    refine r_ld (.aload_n 2) 1 2 2 (.ref 13) rfl rfl rfl rfl 23 rfl ?_
    refine r_ld (.iload_n 3) 1 0 3 (.int (a3)) rfl rfl rfl rfl 24 rfl ?_
    refine q_const (.iconst 1) 1 rfl rfl rfl 25 (1) _ rfl cd_kj1 ?_
    refine q_cL (w_PI M) rfl (.invokevirtual 33) rfl rfl rfl 16 [.ref 13, .int (a3), .int (1)] [.long (v3)] rfl (k1_row_13 a3 1 M) (fun v4 => ?_)
    refine r_go (.lcmp) 1 rfl rfl rfl 29 [.int (lg_cmp v3 v4)] rfl ?_
    refine q_br (w_PI M) (.ifCond .ne 7) 3 rfl rfl rfl (lg_cmp v3 v4 = 0) 32 36 [] rfl (fun _ => ?_) (fun _ => ?_)
    · refine q_const (.iconst 1) 1 rfl rfl rfl 33 (1) _ rfl cd_kj1 ?_
      refine r_go (.goto 4) 3 rfl rfl rfl 37 [.int (1)] rfl ?_
      exact r_retZ rfl rfl (by decide)
    · refine q_const (.iconst 0) 1 rfl rfl rfl 37 (0) _ rfl cd_kj0 ?_
      exact r_retZ rfl rfl (by decide)
  · refine q_const (.iconst 0) 1 rfl rfl rfl 37 (0) _ rfl cd_kj0 ?_
    exact r_retZ rfl rfl (by decide)
def f10_known_0_L24 : Nat → Int32 → Int32 → cd_M → Option (Int32 × cd_M)
  | 0, _, _, _ => none
  | n + 1, a1, a3, M => if f1_size_5 M ≤ a3 then (some ((-1), M)) else ((f1_isSame_5_13 a3 a1 M).bind fun v3 => if v3 = 0 then (cd_lt (a3 + (1)) fun x5 => f10_known_0_L24 n a1 x5 M) else (some (a3, M)))
set_option maxRecDepth 8000 in
theorem k10_known_0_L24 : ∀ (n : Nat) (a1 : Int32) (a3 : Int32) (M : cd_M), cd_R 144 24 [some (.ref 0), some (.int (a1)), some (.ref 13), some (.int (a3))] [] M (w_PM (f10_known_0_L24 n a1 a3 M)) := by
  intro n
  induction n with
  | zero =>
    intro a1 a3 M
    exact q_none w_PM rfl
  | succ n ih =>
    intro a1 a3 M
    rw [f10_known_0_L24]
    refine r_ld (.iload_n 3) 1 0 3 (.int (a3)) rfl rfl rfl rfl 25 rfl ?_
    refine r_ld (.aload_n 0) 1 2 0 (.ref 0) rfl rfl rfl rfl 26 rfl ?_
    refine r_go (.getfield 21) 3 rfl rfl rfl 29 [.ref 5, .int (a3)] rfl ?_
    refine q_cTI (.invokevirtual 125) rfl rfl rfl 13 [.ref 5] [.int (a3)] rfl (k1_size_5 M) ?_
    refine q_br w_PM (.if_icmp .ge 24) 3 rfl rfl rfl (f1_size_5 M ≤ a3) 56 35 [] rfl (fun _ => ?_) (fun _ => ?_)
    · refine q_const (.iconst (-1)) 1 rfl rfl rfl 57 (-1) _ rfl cd_kjm1 ?_
      exact r_ret .ireturn 1 rfl rfl rfl _ rfl
    · refine r_ld (.aload_n 0) 1 2 0 (.ref 0) rfl rfl rfl rfl 36 rfl ?_
      refine r_go (.getfield 21) 3 rfl rfl rfl 39 [.ref 5] rfl ?_
      refine r_ld (.iload_n 3) 1 0 3 (.int (a3)) rfl rfl rfl rfl 40 rfl ?_
      refine r_ld (.aload_n 2) 1 2 2 (.ref 13) rfl rfl rfl rfl 41 rfl ?_
      refine r_ld (.iload_n 1) 1 0 1 (.int (a1)) rfl rfl rfl rfl 42 rfl ?_
      refine q_cIz w_PM rfl (.invokevirtual 283) rfl rfl rfl 17 rfl [.ref 5, .int (a3), .ref 13, .int (a1)] [] rfl (k1_isSame_5_13 a3 a1 M) (fun v3 z4 => ?_)
      refine q_br w_PM (.ifCond .eq 5) 3 rfl rfl rfl (v3 = 0) 50 48 [] rfl (fun _ => ?_) (fun _ => ?_)
      · refine q_inc w_PM 3 (1) (a3) rfl rfl rfl 53 rfl (1) cd_kj1 (fun x5 => [some (.ref 0), some (.int (a1)), some (.ref 13), some (.int (x5))]) (fun _ => rfl) (fun x5 => ?_)
        refine r_go (.goto (-29)) 3 rfl rfl rfl 24 [] rfl ?_
        exact r_w (ih a1 x5 M) (cd_le_s (cd_le_s (cd_le_s (cd_le_s cd_le_0))))
      · refine r_ld (.iload_n 3) 1 0 3 (.int (a3)) rfl rfl rfl rfl 49 rfl ?_
        exact r_ret .ireturn 1 rfl rfl rfl _ rfl
def f10_known_0 (a1 : Int32) (M : cd_M) : Option (Int32 × cd_M) := (f10_followPath_0 M).bind fun M1 => if f1_has_13 a1 M1 = 0 then (some ((-1), M1)) else (f10_known_0_L24 cd_fu a1 0 M1)
set_option maxRecDepth 8000 in
theorem k10_known_0 (a1 : Int32) (M : cd_M) : cd_R 144 0 [some (.ref 0), some (.int (a1)), none, none] [] M (w_PM (f10_known_0 a1 M)) := by
  unfold f10_known_0
  refine r_ld (.aload_n 0) 1 2 0 (.ref 0) rfl rfl rfl rfl 1 rfl ?_
  refine q_cV w_PM rfl (.invokevirtual 224) rfl rfl rfl 153 [.ref 0] [] rfl (k10_followPath_0 M) (fun M1 => ?_)
  refine r_ld (.aload_n 0) 1 2 0 (.ref 0) rfl rfl rfl rfl 5 rfl ?_
  refine r_go (.getfield 63) 3 rfl rfl rfl 8 [.ref 12] rfl ?_
  refine q_cTR (.invokevirtual 267) rfl rfl rfl 30 [.ref 12] [] rfl (k2_frames_12 M1) ?_
  refine r_st (.astore_n 2) 1 2 2 rfl rfl rfl 12 rfl [some (.ref 0), some (.int (a1)), some (.ref 13), none] rfl ?_
  refine r_ld (.aload_n 2) 1 2 2 (.ref 13) rfl rfl rfl rfl 13 rfl ?_
  refine r_ld (.iload_n 1) 1 0 1 (.int (a1)) rfl rfl rfl rfl 14 rfl ?_
  refine q_cTIz (.invokevirtual 282) rfl rfl rfl 14 rfl [.ref 13, .int (a1)] [] rfl (k1_has_13 a1 M1) (fun z2 => ?_)
  refine q_br w_PM (.ifCond .ne 5) 3 rfl rfl rfl (f1_has_13 a1 M1 = 0) 20 22 [] rfl (fun _ => ?_) (fun _ => ?_)
  · refine q_const (.iconst (-1)) 1 rfl rfl rfl 21 (-1) _ rfl cd_kjm1 ?_
    exact r_ret .ireturn 1 rfl rfl rfl _ rfl
  · refine q_const (.iconst 0) 1 rfl rfl rfl 23 (0) _ rfl cd_kj0 ?_
    refine r_st (.istore_n 3) 1 0 3 rfl rfl rfl 24 rfl [some (.ref 0), some (.int (a1)), some (.ref 13), some (.int (0))] rfl ?_
    exact r_w (k10_known_0_L24 cd_fu a1 0 M1) (cd_le_s (cd_le_s (cd_le_s (cd_le_s cd_le_0))))
