def f8_tape_1 (M : cd_M) : Nat := 2
set_option maxRecDepth 8000 in
theorem k8_tape_1 (M : cd_M) : cd_R 96 0 [some (.ref 1)] [] M ((w_TR M) (f8_tape_1 M)) := by
  unfold f8_tape_1
  refine r_ld (.aload_n 0) 1 2 0 (.ref 1) rfl rfl rfl rfl 1 rfl ?_
  refine r_go (.getfield 12) 3 rfl rfl rfl 4 [.ref 2] rfl ?_
  exact r_ret .areturn 1 rfl rfl rfl _ rfl
def f7_hasRoom_2 (M : cd_M) : Int32 := if 225 < (M.1 2 1) + 5 then (0) else (1)
set_option maxRecDepth 8000 in
theorem k7_hasRoom_2 (M : cd_M) : cd_R 79 0 [some (.ref 2)] [] M ((w_TI M) (f7_hasRoom_2 M)) := by
  unfold f7_hasRoom_2
  refine r_ld (.aload_n 0) 1 2 0 (.ref 2) rfl rfl rfl rfl 1 rfl ?_
  refine r_go (.getfield 15) 3 rfl rfl rfl 4 [.int (M.1 2 1)] rfl ?_
  refine q_const (.iconst 5) 1 rfl rfl rfl 5 (5) _ rfl cd_kj5 ?_
  refine r_go (.iadd) 1 rfl rfl rfl 6 [.int ((M.1 2 1) + 5)] rfl ?_
  refine q_const (.sipush 225) 3 rfl rfl rfl 9 (225) _ rfl cd_kt225 ?_
  refine q_br (w_TI M) (.if_icmp .gt 7) 3 rfl rfl rfl (225 < (M.1 2 1) + 5) 16 12 [] rfl (fun _ => ?_) (fun _ => ?_)
  · refine q_const (.iconst 0) 1 rfl rfl rfl 17 (0) _ rfl cd_kj0 ?_
    exact r_retZ rfl rfl (by decide)
  · refine q_const (.iconst 1) 1 rfl rfl rfl 13 (1) _ rfl cd_kj1 ?_
    refine r_go (.goto 4) 3 rfl rfl rfl 17 [.int (1)] rfl ?_
    exact r_retZ rfl rfl (by decide)
def f7_put_2 (a1 : Int32) (M : cd_M) : Option cd_M := if 225 ≤ M.1 2 1 then (some M) else (if cd_in (M.1 2 1) 225 = true then (cd_lt (cd_wI M 17 (M.1 2 1 : Int32).toNatClampNeg a1) fun M1 => cd_lt (cd_wI M1 2 1 ((M1.1 2 1) + 1)) fun M2 => some M2) else none)
set_option maxRecDepth 8000 in
theorem k7_put_2 (a1 : Int32) (M : cd_M) : cd_R 80 0 [some (.ref 2), some (.int (a1))] [] M (w_PV (f7_put_2 a1 M)) := by
  unfold f7_put_2
  refine r_ld (.aload_n 0) 1 2 0 (.ref 2) rfl rfl rfl rfl 1 rfl ?_
  refine r_go (.getfield 15) 3 rfl rfl rfl 4 [.int (M.1 2 1)] rfl ?_
  refine q_const (.sipush 225) 3 rfl rfl rfl 7 (225) _ rfl cd_kt225 ?_
  refine q_br w_PV (.if_icmp .ge 23) 3 rfl rfl rfl (225 ≤ M.1 2 1) 30 10 [] rfl (fun _ => ?_) (fun _ => ?_)
  · exact r_ret .return_ 1 rfl rfl rfl _ rfl
  · refine r_ld (.aload_n 0) 1 2 0 (.ref 2) rfl rfl rfl rfl 11 rfl ?_
    refine r_go (.getfield 9) 3 rfl rfl rfl 14 [.ref 17] rfl ?_
    refine r_ld (.aload_n 0) 1 2 0 (.ref 2) rfl rfl rfl rfl 15 rfl ?_
    refine r_go (.getfield 15) 3 rfl rfl rfl 18 [.int (M.1 2 1), .ref 17] rfl ?_
    refine r_ld (.iload_n 1) 1 0 1 (.int (a1)) rfl rfl rfl rfl 19 rfl ?_
    refine q_iast w_PV rfl rfl 17 225 rfl (fun M1 => ?_)
    refine r_ld (.aload_n 0) 1 2 0 (.ref 2) rfl rfl rfl rfl 21 rfl ?_
    refine r_go (.dup) 1 rfl rfl rfl 22 [.ref 2, .ref 2] rfl ?_
    refine r_go (.getfield 15) 3 rfl rfl rfl 25 [.int (M1.1 2 1), .ref 2] rfl ?_
    refine q_const (.iconst 1) 1 rfl rfl rfl 26 (1) _ rfl cd_kj1 ?_
    refine r_go (.iadd) 1 rfl rfl rfl 27 [.int ((M1.1 2 1) + 1), .ref 2] rfl ?_
    refine q_wr w_PV (.putfield 15) 3 rfl rfl rfl 30 [] (cd_wI M1 2 1 ((M1.1 2 1) + 1)) rfl (fun M2 => ?_)
    exact r_ret .return_ 1 rfl rfl rfl _ rfl
def f7_size_2 (M : cd_M) : Int32 := (4 * (M.1 2 1))
set_option maxRecDepth 8000 in
theorem k7_size_2 (M : cd_M) : cd_R 81 0 [some (.ref 2)] [] M ((w_TI M) (f7_size_2 M)) := by
  unfold f7_size_2
  refine q_const (.iconst 4) 1 rfl rfl rfl 1 (4) _ rfl cd_kj4 ?_
  refine r_ld (.aload_n 0) 1 2 0 (.ref 2) rfl rfl rfl rfl 2 rfl ?_
  refine r_go (.getfield 15) 3 rfl rfl rfl 5 [.int (M.1 2 1), .int (4)] rfl ?_
  refine r_go (.imul) 1 rfl rfl rfl 6 [.int (4 * (M.1 2 1))] rfl ?_
  exact r_ret .ireturn 1 rfl rfl rfl _ rfl
def f10_feed_0 (a1 : Int32) (a2 : Int32) (a3 : Int32) (a4 : Int32) (a5 : Int32) (M : cd_M) : Option (Int32 × cd_M) := if f7_hasRoom_2 M = 0 then (some ((-1), M)) else ((f7_put_2 a1 M).bind fun M2 => (f7_put_2 a2 M2).bind fun M3 => (f7_put_2 a3 M3).bind fun M4 => (f7_put_2 a4 M4).bind fun M5 => (f7_put_2 a5 M5).bind fun M6 => some (f7_size_2 M6, M6))
set_option maxRecDepth 8000 in
theorem k10_feed_0 (a1 : Int32) (a2 : Int32) (a3 : Int32) (a4 : Int32) (a5 : Int32) (M : cd_M) : cd_R 126 0 [some (.ref 0), some (.int (a1)), some (.int (a2)), some (.int (a3)), some (.int (a4)), some (.int (a5)), none] [] M (w_PM (f10_feed_0 a1 a2 a3 a4 a5 M)) := by
  unfold f10_feed_0
  refine r_ld (.aload_n 0) 1 2 0 (.ref 0) rfl rfl rfl rfl 1 rfl ?_
  refine r_go (.getfield 10) 3 rfl rfl rfl 4 [.ref 1] rfl ?_
  refine q_cTR (.invokevirtual 82) rfl rfl rfl 96 [.ref 1] [] rfl (k8_tape_1 M) ?_
  refine r_st (.astore 6) 2 2 6 rfl rfl rfl 9 rfl [some (.ref 0), some (.int (a1)), some (.int (a2)), some (.int (a3)), some (.int (a4)), some (.int (a5)), some (.ref 2)] rfl ?_
  refine r_ld (.aload 6) 2 2 6 (.ref 2) rfl rfl rfl rfl 11 rfl ?_
  refine q_cTIz (.invokevirtual 86) rfl rfl rfl 79 rfl [.ref 2] [] rfl (k7_hasRoom_2 M) (fun z1 => ?_)
  refine q_br w_PM (.ifCond .ne 5) 3 rfl rfl rfl (f7_hasRoom_2 M = 0) 17 19 [] rfl (fun _ => ?_) (fun _ => ?_)
  · refine q_const (.iconst (-1)) 1 rfl rfl rfl 18 (-1) _ rfl cd_kjm1 ?_
    exact r_ret .ireturn 1 rfl rfl rfl _ rfl
  · refine r_ld (.aload 6) 2 2 6 (.ref 2) rfl rfl rfl rfl 21 rfl ?_
    refine r_ld (.iload_n 1) 1 0 1 (.int (a1)) rfl rfl rfl rfl 22 rfl ?_
    refine q_cV w_PM rfl (.invokevirtual 92) rfl rfl rfl 80 [.ref 2, .int (a1)] [] rfl (k7_put_2 a1 M) (fun M2 => ?_)
    refine r_ld (.aload 6) 2 2 6 (.ref 2) rfl rfl rfl rfl 27 rfl ?_
    refine r_ld (.iload_n 2) 1 0 2 (.int (a2)) rfl rfl rfl rfl 28 rfl ?_
    refine q_cV w_PM rfl (.invokevirtual 92) rfl rfl rfl 80 [.ref 2, .int (a2)] [] rfl (k7_put_2 a2 M2) (fun M3 => ?_)
    refine r_ld (.aload 6) 2 2 6 (.ref 2) rfl rfl rfl rfl 33 rfl ?_
    refine r_ld (.iload_n 3) 1 0 3 (.int (a3)) rfl rfl rfl rfl 34 rfl ?_
    refine q_cV w_PM rfl (.invokevirtual 92) rfl rfl rfl 80 [.ref 2, .int (a3)] [] rfl (k7_put_2 a3 M3) (fun M4 => ?_)
    refine r_ld (.aload 6) 2 2 6 (.ref 2) rfl rfl rfl rfl 39 rfl ?_
    refine r_ld (.iload 4) 2 0 4 (.int (a4)) rfl rfl rfl rfl 41 rfl ?_
    refine q_cV w_PM rfl (.invokevirtual 92) rfl rfl rfl 80 [.ref 2, .int (a4)] [] rfl (k7_put_2 a4 M4) (fun M5 => ?_)
    refine r_ld (.aload 6) 2 2 6 (.ref 2) rfl rfl rfl rfl 46 rfl ?_
    refine r_ld (.iload 5) 2 0 5 (.int (a5)) rfl rfl rfl rfl 48 rfl ?_
    refine q_cV w_PM rfl (.invokevirtual 92) rfl rfl rfl 80 [.ref 2, .int (a5)] [] rfl (k7_put_2 a5 M5) (fun M6 => ?_)
    refine r_ld (.aload 6) 2 2 6 (.ref 2) rfl rfl rfl rfl 53 rfl ?_
    refine q_cTI (.invokevirtual 95) rfl rfl rfl 81 [.ref 2] [] rfl (k7_size_2 M6) ?_
    exact r_ret .ireturn 1 rfl rfl rfl _ rfl
def f7_holds_2 (a1 : Int32) (M : cd_M) : Int32 := if a1 < 0 then (0) else (if f7_size_2 M < a1 then (0) else (1))
set_option maxRecDepth 8000 in
theorem k7_holds_2 (a1 : Int32) (M : cd_M) : cd_R 82 0 [some (.ref 2), some (.int (a1))] [] M ((w_TI M) (f7_holds_2 a1 M)) := by
  unfold f7_holds_2
  refine r_ld (.iload_n 1) 1 0 1 (.int (a1)) rfl rfl rfl rfl 1 rfl ?_
  refine q_br (w_TI M) (.ifCond .lt 15) 3 rfl rfl rfl (a1 < 0) 16 4 [] rfl (fun _ => ?_) (fun _ => ?_)
  · refine q_const (.iconst 0) 1 rfl rfl rfl 17 (0) _ rfl cd_kj0 ?_
    exact r_retZ rfl rfl (by decide)
  · refine r_ld (.iload_n 1) 1 0 1 (.int (a1)) rfl rfl rfl rfl 5 rfl ?_
    refine r_ld (.aload_n 0) 1 2 0 (.ref 2) rfl rfl rfl rfl 6 rfl ?_
    refine q_cTI (.invokevirtual 34) rfl rfl rfl 81 [.ref 2] [.int (a1)] rfl (k7_size_2 M) ?_
    refine q_br (w_TI M) (.if_icmp .gt 7) 3 rfl rfl rfl (f7_size_2 M < a1) 16 12 [] rfl (fun _ => ?_) (fun _ => ?_)
    · refine q_const (.iconst 0) 1 rfl rfl rfl 17 (0) _ rfl cd_kj0 ?_
      exact r_retZ rfl rfl (by decide)
    · refine q_const (.iconst 1) 1 rfl rfl rfl 13 (1) _ rfl cd_kj1 ?_
      refine r_go (.goto 4) 3 rfl rfl rfl 17 [.int (1)] rfl ?_
      exact r_retZ rfl rfl (by decide)
def f7_byteAt_2 (a1 : Int32) (M : cd_M) : Option (Int32) := if a1 < 0 then (some 0) else (if a1 < 4 * (M.1 2 1) then (if cd_in (a1 >>> ((2 : Int32) &&& 31)) 225 = true then (some ((((M.1 17 (a1 >>> ((2 : Int32) &&& 31) : Int32).toNatClampNeg : Int32).toUInt32 >>> ((24 - (8 * (a1 &&& 3)) : Int32).toUInt32 &&& Int32.toUInt32 31)).toInt32) &&& 255)) else none) else (some 0))
set_option maxRecDepth 8000 in
theorem k7_byteAt_2 (a1 : Int32) (M : cd_M) : cd_R 92 0 [some (.ref 2), some (.int (a1))] [] M ((w_PI M) (f7_byteAt_2 a1 M)) := by
  unfold f7_byteAt_2
  refine r_ld (.iload_n 1) 1 0 1 (.int (a1)) rfl rfl rfl rfl 1 rfl ?_
  refine q_br (w_PI M) (.ifCond .lt 13) 3 rfl rfl rfl (a1 < 0) 14 4 [] rfl (fun _ => ?_) (fun _ => ?_)
  · refine q_const (.iconst 0) 1 rfl rfl rfl 15 (0) _ rfl cd_kj0 ?_
    exact r_ret .ireturn 1 rfl rfl rfl _ rfl
  · refine r_ld (.iload_n 1) 1 0 1 (.int (a1)) rfl rfl rfl rfl 5 rfl ?_
    refine q_const (.iconst 4) 1 rfl rfl rfl 6 (4) _ rfl cd_kj4 ?_
    refine r_ld (.aload_n 0) 1 2 0 (.ref 2) rfl rfl rfl rfl 7 rfl ?_
    refine r_go (.getfield 15) 3 rfl rfl rfl 10 [.int (M.1 2 1), .int (4), .int (a1)] rfl ?_
    refine r_go (.imul) 1 rfl rfl rfl 11 [.int (4 * (M.1 2 1)), .int (a1)] rfl ?_
    refine q_br (w_PI M) (.if_icmp .lt 5) 3 rfl rfl rfl (a1 < 4 * (M.1 2 1)) 16 14 [] rfl (fun _ => ?_) (fun _ => ?_)
    · refine r_ld (.aload_n 0) 1 2 0 (.ref 2) rfl rfl rfl rfl 17 rfl ?_
      refine r_go (.getfield 9) 3 rfl rfl rfl 20 [.ref 17] rfl ?_
      refine r_ld (.iload_n 1) 1 0 1 (.int (a1)) rfl rfl rfl rfl 21 rfl ?_
      refine q_const (.iconst 2) 1 rfl rfl rfl 22 (2) _ rfl cd_kj2 ?_
      refine r_go (.ishr) 1 rfl rfl rfl 23 [.int (a1 >>> ((2 : Int32) &&& 31)), .ref 17] rfl ?_
      refine q_iald (w_PI M) rfl rfl 17 225 rfl ?_
      refine q_const (.bipush 24) 2 rfl rfl rfl 26 (24) _ rfl cd_kc24 ?_
      refine q_const (.bipush 8) 2 rfl rfl rfl 28 (8) _ rfl cd_kc8 ?_
      refine r_ld (.iload_n 1) 1 0 1 (.int (a1)) rfl rfl rfl rfl 29 rfl ?_
      refine q_const (.iconst 3) 1 rfl rfl rfl 30 (3) _ rfl cd_kj3 ?_
      refine r_go (.iand) 1 rfl rfl rfl 31 [.int (a1 &&& 3), .int (8), .int (24), .int (M.1 17 (a1 >>> ((2 : Int32) &&& 31) : Int32).toNatClampNeg)] rfl ?_
      refine r_go (.imul) 1 rfl rfl rfl 32 [.int (8 * (a1 &&& 3)), .int (24), .int (M.1 17 (a1 >>> ((2 : Int32) &&& 31) : Int32).toNatClampNeg)] rfl ?_
      refine r_go (.isub) 1 rfl rfl rfl 33 [.int (24 - (8 * (a1 &&& 3))), .int (M.1 17 (a1 >>> ((2 : Int32) &&& 31) : Int32).toNatClampNeg)] rfl ?_
      refine r_go (.iushr) 1 rfl rfl rfl 34 [.int (((M.1 17 (a1 >>> ((2 : Int32) &&& 31) : Int32).toNatClampNeg : Int32).toUInt32 >>> ((24 - (8 * (a1 &&& 3)) : Int32).toUInt32 &&& Int32.toUInt32 31)).toInt32)] rfl ?_
      refine q_const (.sipush 255) 3 rfl rfl rfl 37 (255) _ rfl cd_kt255 ?_
      refine r_go (.iand) 1 rfl rfl rfl 38 [.int ((((M.1 17 (a1 >>> ((2 : Int32) &&& 31) : Int32).toNatClampNeg : Int32).toUInt32 >>> ((24 - (8 * (a1 &&& 3)) : Int32).toUInt32 &&& Int32.toUInt32 31)).toInt32) &&& 255)] rfl ?_
      exact r_ret .ireturn 1 rfl rfl rfl _ rfl
    · refine q_const (.iconst 0) 1 rfl rfl rfl 15 (0) _ rfl cd_kj0 ?_
      exact r_ret .ireturn 1 rfl rfl rfl _ rfl
def f7_isLetter (a0 : Int32) (M : cd_M) : Int32 := if a0 < 97 then (0) else (if 122 < a0 then (0) else (1))
set_option maxRecDepth 8000 in
theorem k7_isLetter (a0 : Int32) (M : cd_M) : cd_R 94 0 [some (.int (a0))] [] M ((w_TI M) (f7_isLetter a0 M)) := by
  unfold f7_isLetter
  refine r_ld (.iload_n 0) 1 0 0 (.int (a0)) rfl rfl rfl rfl 1 rfl ?_
  refine q_const (.bipush 97) 2 rfl rfl rfl 3 (97) _ rfl cd_kc97 ?_
  refine q_br (w_TI M) (.if_icmp .lt 13) 3 rfl rfl rfl (a0 < 97) 16 6 [] rfl (fun _ => ?_) (fun _ => ?_)
  · refine q_const (.iconst 0) 1 rfl rfl rfl 17 (0) _ rfl cd_kj0 ?_
    exact r_retZ rfl rfl (by decide)
  · refine r_ld (.iload_n 0) 1 0 0 (.int (a0)) rfl rfl rfl rfl 7 rfl ?_
    refine q_const (.bipush 122) 2 rfl rfl rfl 9 (122) _ rfl cd_kc122 ?_
    refine q_br (w_TI M) (.if_icmp .gt 7) 3 rfl rfl rfl (122 < a0) 16 12 [] rfl (fun _ => ?_) (fun _ => ?_)
    · refine q_const (.iconst 0) 1 rfl rfl rfl 17 (0) _ rfl cd_kj0 ?_
      exact r_retZ rfl rfl (by decide)
    · refine q_const (.iconst 1) 1 rfl rfl rfl 13 (1) _ rfl cd_kj1 ?_
      refine r_go (.goto 4) 3 rfl rfl rfl 17 [.int (1)] rfl ?_
      exact r_retZ rfl rfl (by decide)
def f7_isDigit (a0 : Int32) (M : cd_M) : Int32 := if a0 < 48 then (0) else (if 57 < a0 then (0) else (1))
set_option maxRecDepth 8000 in
theorem k7_isDigit (a0 : Int32) (M : cd_M) : cd_R 95 0 [some (.int (a0))] [] M ((w_TI M) (f7_isDigit a0 M)) := by
  unfold f7_isDigit
  refine r_ld (.iload_n 0) 1 0 0 (.int (a0)) rfl rfl rfl rfl 1 rfl ?_
  refine q_const (.bipush 48) 2 rfl rfl rfl 3 (48) _ rfl cd_kc48 ?_
  refine q_br (w_TI M) (.if_icmp .lt 13) 3 rfl rfl rfl (a0 < 48) 16 6 [] rfl (fun _ => ?_) (fun _ => ?_)
  · refine q_const (.iconst 0) 1 rfl rfl rfl 17 (0) _ rfl cd_kj0 ?_
    exact r_retZ rfl rfl (by decide)
  · refine r_ld (.iload_n 0) 1 0 0 (.int (a0)) rfl rfl rfl rfl 7 rfl ?_
    refine q_const (.bipush 57) 2 rfl rfl rfl 9 (57) _ rfl cd_kc57 ?_
    refine q_br (w_TI M) (.if_icmp .gt 7) 3 rfl rfl rfl (57 < a0) 16 12 [] rfl (fun _ => ?_) (fun _ => ?_)
    · refine q_const (.iconst 0) 1 rfl rfl rfl 17 (0) _ rfl cd_kj0 ?_
      exact r_retZ rfl rfl (by decide)
    · refine q_const (.iconst 1) 1 rfl rfl rfl 13 (1) _ rfl cd_kj1 ?_
      refine r_go (.goto 4) 3 rfl rfl rfl 17 [.int (1)] rfl ?_
      exact r_retZ rfl rfl (by decide)
def f7_passNumber_2_L98 (s0 : Int32) (M : cd_M) : Option cd_M := cd_lt (cd_wI M 2 5 s0) fun M2 => some M2
set_option maxRecDepth 8000 in
theorem k7_passNumber_2_L98 (s0 : Int32) (M : cd_M) : cd_R 91 98 [none] [.int (s0), .ref 2] M (w_PV (f7_passNumber_2_L98 s0 M)) := by
  unfold f7_passNumber_2_L98
  refine q_wr w_PV (.putfield 28) 3 rfl rfl rfl 101 [] (cd_wI M 2 5 s0) rfl (fun M2 => ?_)
  exact r_ret .return_ 1 rfl rfl rfl _ rfl
def f7_passNumber_2_L79 (M : cd_M) : Option cd_M := if 4 < (M.1 2 3) - (M.1 2 4) then (f7_passNumber_2_L98 4 M) else (f7_passNumber_2_L98 2 M)
set_option maxRecDepth 8000 in
theorem k7_passNumber_2_L79 (M : cd_M) : cd_R 91 79 [some (.ref 2)] [] M (w_PV (f7_passNumber_2_L79 M)) := by
  unfold f7_passNumber_2_L79
  refine r_ld (.aload_n 0) 1 2 0 (.ref 2) rfl rfl rfl rfl 80 rfl ?_
  refine r_ld (.aload_n 0) 1 2 0 (.ref 2) rfl rfl rfl rfl 81 rfl ?_
  refine r_go (.getfield 22) 3 rfl rfl rfl 84 [.int (M.1 2 3), .ref 2] rfl ?_
  refine r_ld (.aload_n 0) 1 2 0 (.ref 2) rfl rfl rfl rfl 85 rfl ?_
  refine r_go (.getfield 25) 3 rfl rfl rfl 88 [.int (M.1 2 4), .int (M.1 2 3), .ref 2] rfl ?_
  refine r_go (.isub) 1 rfl rfl rfl 89 [.int ((M.1 2 3) - (M.1 2 4)), .ref 2] rfl ?_
  refine q_const (.iconst 4) 1 rfl rfl rfl 90 (4) _ rfl cd_kj4 ?_
  refine q_br w_PV (.if_icmp .gt 7) 3 rfl rfl rfl (4 < (M.1 2 3) - (M.1 2 4)) 97 93 [.ref 2] rfl (fun _ => ?_) (fun _ => ?_)
  · refine q_const (.iconst 4) 1 rfl rfl rfl 98 (4) _ rfl cd_kj4 ?_
    exact r_w (k7_passNumber_2_L98 4 M) (cd_le_n cd_le_0)
  · refine q_const (.iconst 2) 1 rfl rfl rfl 94 (2) _ rfl cd_kj2 ?_
    refine r_go (.goto 4) 3 rfl rfl rfl 98 [.int (2), .ref 2] rfl ?_
    exact r_w (k7_passNumber_2_L98 2 M) (cd_le_n cd_le_0)
def f7_passNumber_2_L66 (r5 : cd_M → Option cd_M) (M : cd_M) : Option cd_M := cd_lt (cd_wI M 2 3 ((M.1 2 3) + 1)) fun M5 => r5 M5
set_option maxRecDepth 8000 in
theorem k7_passNumber_2_L66 (r5 : cd_M → Option cd_M) (h5 : ∀ (M : cd_M), cd_R 91 5 [some (.ref 2)] [] M (w_PV (r5 M))) (M : cd_M) : cd_R 91 66 [some (.ref 2)] [] M (w_PV (f7_passNumber_2_L66 r5 M)) := by
  unfold f7_passNumber_2_L66
  refine r_ld (.aload_n 0) 1 2 0 (.ref 2) rfl rfl rfl rfl 67 rfl ?_
  refine r_go (.dup) 1 rfl rfl rfl 68 [.ref 2, .ref 2] rfl ?_
  refine r_go (.getfield 22) 3 rfl rfl rfl 71 [.int (M.1 2 3), .ref 2] rfl ?_
  refine q_const (.iconst 1) 1 rfl rfl rfl 72 (1) _ rfl cd_kj1 ?_
  refine r_go (.iadd) 1 rfl rfl rfl 73 [.int ((M.1 2 3) + 1), .ref 2] rfl ?_
  refine q_wr w_PV (.putfield 22) 3 rfl rfl rfl 76 [] (cd_wI M 2 3 ((M.1 2 3) + 1)) rfl (fun M5 => ?_)
  refine r_go (.goto (-71)) 3 rfl rfl rfl 5 [] rfl ?_
  exact r_w (h5 M5) (cd_le_s cd_le_0)
def f7_passNumber_2_L5 : Nat → cd_M → Option cd_M
  | 0, _ => none
  | n + 1, M => if M.1 2 2 ≤ M.1 2 3 then (f7_passNumber_2_L79 M) else ((f7_byteAt_2 (M.1 2 3) M).bind fun v3 => if f7_isDigit v3 M = 0 then (f7_passNumber_2_L79 M) else (if 4 ≤ (M.1 2 3) - (M.1 2 4) then (f7_passNumber_2_L66 (f7_passNumber_2_L5 n) M) else ((f7_byteAt_2 (M.1 2 3) M).bind fun v6 => cd_lt (cd_wI M 2 6 (((10 * (M.1 2 6)) + v6) - 48)) fun M7 => f7_passNumber_2_L66 (f7_passNumber_2_L5 n) M7)))
set_option maxRecDepth 8000 in
theorem k7_passNumber_2_L5 : ∀ (n : Nat) (M : cd_M), cd_R 91 5 [some (.ref 2)] [] M (w_PV (f7_passNumber_2_L5 n M)) := by
  intro n
  induction n with
  | zero =>
    intro M
    exact q_none w_PV rfl
  | succ n ih =>
    intro M
    rw [f7_passNumber_2_L5]
    refine r_ld (.aload_n 0) 1 2 0 (.ref 2) rfl rfl rfl rfl 6 rfl ?_
    refine r_go (.getfield 22) 3 rfl rfl rfl 9 [.int (M.1 2 3)] rfl ?_
    refine r_ld (.aload_n 0) 1 2 0 (.ref 2) rfl rfl rfl rfl 10 rfl ?_
    refine r_go (.getfield 19) 3 rfl rfl rfl 13 [.int (M.1 2 2), .int (M.1 2 3)] rfl ?_
    refine q_br w_PV (.if_icmp .ge 66) 3 rfl rfl rfl (M.1 2 2 ≤ M.1 2 3) 79 16 [] rfl (fun _ => ?_) (fun _ => ?_)
    · exact r_w (k7_passNumber_2_L79 M) (cd_le_s cd_le_0)
    · refine r_ld (.aload_n 0) 1 2 0 (.ref 2) rfl rfl rfl rfl 17 rfl ?_
      refine r_ld (.aload_n 0) 1 2 0 (.ref 2) rfl rfl rfl rfl 18 rfl ?_
      refine r_go (.getfield 22) 3 rfl rfl rfl 21 [.int (M.1 2 3), .ref 2] rfl ?_
      refine q_cI w_PV rfl (.invokevirtual 45) rfl rfl rfl 92 [.ref 2, .int (M.1 2 3)] [] rfl (k7_byteAt_2 (M.1 2 3) M) (fun v3 => ?_)
      refine q_cTIz (.invokestatic 58) rfl rfl rfl 95 rfl [.int (v3)] [] rfl (k7_isDigit v3 M) (fun z4 => ?_)
      refine q_br w_PV (.ifCond .eq 52) 3 rfl rfl rfl (f7_isDigit v3 M = 0) 79 30 [] rfl (fun _ => ?_) (fun _ => ?_)
      · exact r_w (k7_passNumber_2_L79 M) (cd_le_s cd_le_0)
      · refine r_ld (.aload_n 0) 1 2 0 (.ref 2) rfl rfl rfl rfl 31 rfl ?_
        refine r_go (.getfield 22) 3 rfl rfl rfl 34 [.int (M.1 2 3)] rfl ?_
        refine r_ld (.aload_n 0) 1 2 0 (.ref 2) rfl rfl rfl rfl 35 rfl ?_
        refine r_go (.getfield 25) 3 rfl rfl rfl 38 [.int (M.1 2 4), .int (M.1 2 3)] rfl ?_
        refine r_go (.isub) 1 rfl rfl rfl 39 [.int ((M.1 2 3) - (M.1 2 4))] rfl ?_
        refine q_const (.iconst 4) 1 rfl rfl rfl 40 (4) _ rfl cd_kj4 ?_
        refine q_br w_PV (.if_icmp .ge 26) 3 rfl rfl rfl (4 ≤ (M.1 2 3) - (M.1 2 4)) 66 43 [] rfl (fun _ => ?_) (fun _ => ?_)
        · exact r_w (k7_passNumber_2_L66 (f7_passNumber_2_L5 n) ih M) (cd_le_s cd_le_0)
        · refine r_ld (.aload_n 0) 1 2 0 (.ref 2) rfl rfl rfl rfl 44 rfl ?_
          refine q_const (.bipush 10) 2 rfl rfl rfl 46 (10) _ rfl cd_kc10 ?_
          refine r_ld (.aload_n 0) 1 2 0 (.ref 2) rfl rfl rfl rfl 47 rfl ?_
          refine r_go (.getfield 31) 3 rfl rfl rfl 50 [.int (M.1 2 6), .int (10), .ref 2] rfl ?_
          refine r_go (.imul) 1 rfl rfl rfl 51 [.int (10 * (M.1 2 6)), .ref 2] rfl ?_
          refine r_ld (.aload_n 0) 1 2 0 (.ref 2) rfl rfl rfl rfl 52 rfl ?_
          refine r_ld (.aload_n 0) 1 2 0 (.ref 2) rfl rfl rfl rfl 53 rfl ?_
          refine r_go (.getfield 22) 3 rfl rfl rfl 56 [.int (M.1 2 3), .ref 2, .int (10 * (M.1 2 6)), .ref 2] rfl ?_
          refine q_cI w_PV rfl (.invokevirtual 45) rfl rfl rfl 92 [.ref 2, .int (M.1 2 3)] [.int (10 * (M.1 2 6)), .ref 2] rfl (k7_byteAt_2 (M.1 2 3) M) (fun v6 => ?_)
          refine r_go (.iadd) 1 rfl rfl rfl 60 [.int ((10 * (M.1 2 6)) + v6), .ref 2] rfl ?_
          refine q_const (.bipush 48) 2 rfl rfl rfl 62 (48) _ rfl cd_kc48 ?_
          refine r_go (.isub) 1 rfl rfl rfl 63 [.int (((10 * (M.1 2 6)) + v6) - 48), .ref 2] rfl ?_
          refine q_wr w_PV (.putfield 31) 3 rfl rfl rfl 66 [] (cd_wI M 2 6 (((10 * (M.1 2 6)) + v6) - 48)) rfl (fun M7 => ?_)
          exact r_w (k7_passNumber_2_L66 (f7_passNumber_2_L5 n) ih M7) (cd_le_s cd_le_0)
def f7_passNumber_2 (M : cd_M) : Option cd_M := cd_lt (cd_wI M 2 6 0) fun M1 => f7_passNumber_2_L5 cd_fu M1
set_option maxRecDepth 8000 in
theorem k7_passNumber_2 (M : cd_M) : cd_R 91 0 [some (.ref 2)] [] M (w_PV (f7_passNumber_2 M)) := by
  unfold f7_passNumber_2
  refine r_ld (.aload_n 0) 1 2 0 (.ref 2) rfl rfl rfl rfl 1 rfl ?_
  refine q_const (.iconst 0) 1 rfl rfl rfl 2 (0) _ rfl cd_kj0 ?_
  refine q_wr w_PV (.putfield 31) 3 rfl rfl rfl 5 [] (cd_wI M 2 6 0) rfl (fun M1 => ?_)
  exact r_w (k7_passNumber_2_L5 cd_fu M1) (cd_le_s cd_le_0)
def f7_passWord_2_L38 (M : cd_M) : Option cd_M := cd_lt (cd_wI M 2 5 1) fun M1 => some M1
set_option maxRecDepth 8000 in
theorem k7_passWord_2_L38 (M : cd_M) : cd_R 90 38 [some (.ref 2)] [] M (w_PV (f7_passWord_2_L38 M)) := by
  unfold f7_passWord_2_L38
  refine r_ld (.aload_n 0) 1 2 0 (.ref 2) rfl rfl rfl rfl 39 rfl ?_
  refine q_const (.iconst 1) 1 rfl rfl rfl 40 (1) _ rfl cd_kj1 ?_
  refine q_wr w_PV (.putfield 28) 3 rfl rfl rfl 43 [] (cd_wI M 2 5 1) rfl (fun M1 => ?_)
  exact r_ret .return_ 1 rfl rfl rfl _ rfl
def f7_passWord_2_L0 : Nat → cd_M → Option cd_M
  | 0, _ => none
  | n + 1, M => if M.1 2 2 ≤ M.1 2 3 then (f7_passWord_2_L38 M) else ((f7_byteAt_2 (M.1 2 3) M).bind fun v2 => if f7_isLetter v2 M = 0 then (f7_passWord_2_L38 M) else (cd_lt (cd_wI M 2 3 ((M.1 2 3) + 1)) fun M4 => f7_passWord_2_L0 n M4))
set_option maxRecDepth 8000 in
theorem k7_passWord_2_L0 : ∀ (n : Nat) (M : cd_M), cd_R 90 0 [some (.ref 2)] [] M (w_PV (f7_passWord_2_L0 n M)) := by
  intro n
  induction n with
  | zero =>
    intro M
    exact q_none w_PV rfl
  | succ n ih =>
    intro M
    rw [f7_passWord_2_L0]
    refine r_ld (.aload_n 0) 1 2 0 (.ref 2) rfl rfl rfl rfl 1 rfl ?_
    refine r_go (.getfield 22) 3 rfl rfl rfl 4 [.int (M.1 2 3)] rfl ?_
    refine r_ld (.aload_n 0) 1 2 0 (.ref 2) rfl rfl rfl rfl 5 rfl ?_
    refine r_go (.getfield 19) 3 rfl rfl rfl 8 [.int (M.1 2 2), .int (M.1 2 3)] rfl ?_
    refine q_br w_PV (.if_icmp .ge 30) 3 rfl rfl rfl (M.1 2 2 ≤ M.1 2 3) 38 11 [] rfl (fun _ => ?_) (fun _ => ?_)
    · exact r_w (k7_passWord_2_L38 M) (cd_le_s cd_le_0)
    · refine r_ld (.aload_n 0) 1 2 0 (.ref 2) rfl rfl rfl rfl 12 rfl ?_
      refine r_ld (.aload_n 0) 1 2 0 (.ref 2) rfl rfl rfl rfl 13 rfl ?_
      refine r_go (.getfield 22) 3 rfl rfl rfl 16 [.int (M.1 2 3), .ref 2] rfl ?_
      refine q_cI w_PV rfl (.invokevirtual 45) rfl rfl rfl 92 [.ref 2, .int (M.1 2 3)] [] rfl (k7_byteAt_2 (M.1 2 3) M) (fun v2 => ?_)
      refine q_cTIz (.invokestatic 52) rfl rfl rfl 94 rfl [.int (v2)] [] rfl (k7_isLetter v2 M) (fun z3 => ?_)
      refine q_br w_PV (.ifCond .eq 16) 3 rfl rfl rfl (f7_isLetter v2 M = 0) 38 25 [] rfl (fun _ => ?_) (fun _ => ?_)
      · exact r_w (k7_passWord_2_L38 M) (cd_le_s cd_le_0)
      · refine r_ld (.aload_n 0) 1 2 0 (.ref 2) rfl rfl rfl rfl 26 rfl ?_
        refine r_go (.dup) 1 rfl rfl rfl 27 [.ref 2, .ref 2] rfl ?_
        refine r_go (.getfield 22) 3 rfl rfl rfl 30 [.int (M.1 2 3), .ref 2] rfl ?_
        refine q_const (.iconst 1) 1 rfl rfl rfl 31 (1) _ rfl cd_kj1 ?_
        refine r_go (.iadd) 1 rfl rfl rfl 32 [.int ((M.1 2 3) + 1), .ref 2] rfl ?_
        refine q_wr w_PV (.putfield 22) 3 rfl rfl rfl 35 [] (cd_wI M 2 3 ((M.1 2 3) + 1)) rfl (fun M4 => ?_)
        refine r_go (.goto (-35)) 3 rfl rfl rfl 0 [] rfl ?_
        exact r_w (ih M4) (cd_le_s cd_le_0)
def f7_passWord_2 (M : cd_M) : Option cd_M := f7_passWord_2_L0 cd_fu M
set_option maxRecDepth 8000 in
theorem k7_passWord_2 (M : cd_M) : cd_R 90 0 [some (.ref 2)] [] M (w_PV (f7_passWord_2 M)) := by
  unfold f7_passWord_2
  exact r_w (k7_passWord_2_L0 cd_fu M) (cd_le_s cd_le_0)
def f7_isBlank (a0 : Int32) (M : cd_M) : Int32 := if a0 = 32 then (1) else (if a0 = 10 then (1) else (0))
set_option maxRecDepth 8000 in
theorem k7_isBlank (a0 : Int32) (M : cd_M) : cd_R 93 0 [some (.int (a0))] [] M ((w_TI M) (f7_isBlank a0 M)) := by
  unfold f7_isBlank
  refine r_ld (.iload_n 0) 1 0 0 (.int (a0)) rfl rfl rfl rfl 1 rfl ?_
  refine q_const (.bipush 32) 2 rfl rfl rfl 3 (32) _ rfl cd_kc32 ?_
  refine q_br (w_TI M) (.if_icmp .eq 9) 3 rfl rfl rfl (a0 = 32) 12 6 [] rfl (fun _ => ?_) (fun _ => ?_)
  · refine q_const (.iconst 1) 1 rfl rfl rfl 13 (1) _ rfl cd_kj1 ?_
    refine r_go (.goto 4) 3 rfl rfl rfl 17 [.int (1)] rfl ?_
    exact r_retZ rfl rfl (by decide)
  · refine r_ld (.iload_n 0) 1 0 0 (.int (a0)) rfl rfl rfl rfl 7 rfl ?_
    refine q_const (.bipush 10) 2 rfl rfl rfl 9 (10) _ rfl cd_kc10 ?_
    refine q_br (w_TI M) (.if_icmp .ne 7) 3 rfl rfl rfl (a0 = 10) 12 16 [] rfl (fun _ => ?_) (fun _ => ?_)
    · refine q_const (.iconst 1) 1 rfl rfl rfl 13 (1) _ rfl cd_kj1 ?_
      refine r_go (.goto 4) 3 rfl rfl rfl 17 [.int (1)] rfl ?_
      exact r_retZ rfl rfl (by decide)
    · refine q_const (.iconst 0) 1 rfl rfl rfl 17 (0) _ rfl cd_kj0 ?_
      exact r_retZ rfl rfl (by decide)
def f7_advance_2_L112 (s0 : Int32) (M : cd_M) : Option cd_M := cd_lt (cd_wI M 2 5 s0) fun M5 => cd_lt (cd_wI M5 2 3 ((M5.1 2 3) + 1)) fun M6 => some M6
set_option maxRecDepth 8000 in
theorem k7_advance_2_L112 (s0 : Int32) (M : cd_M) : cd_R 88 112 [some (.ref 2), none] [.int (s0), .ref 2] M (w_PV (f7_advance_2_L112 s0 M)) := by
  unfold f7_advance_2_L112
  refine q_wr w_PV (.putfield 28) 3 rfl rfl rfl 115 [] (cd_wI M 2 5 s0) rfl (fun M5 => ?_)
  refine r_ld (.aload_n 0) 1 2 0 (.ref 2) rfl rfl rfl rfl 116 rfl ?_
  refine r_go (.dup) 1 rfl rfl rfl 117 [.ref 2, .ref 2] rfl ?_
  refine r_go (.getfield 22) 3 rfl rfl rfl 120 [.int (M5.1 2 3), .ref 2] rfl ?_
  refine q_const (.iconst 1) 1 rfl rfl rfl 121 (1) _ rfl cd_kj1 ?_
  refine r_go (.iadd) 1 rfl rfl rfl 122 [.int ((M5.1 2 3) + 1), .ref 2] rfl ?_
  refine q_wr w_PV (.putfield 22) 3 rfl rfl rfl 125 [] (cd_wI M5 2 3 ((M5.1 2 3) + 1)) rfl (fun M6 => ?_)
  exact r_ret .return_ 1 rfl rfl rfl _ rfl
def f7_advance_2_L38 (M : cd_M) : Option cd_M := cd_lt (cd_wI M 2 4 (M.1 2 3)) fun M1 => if M1.1 2 3 < M1.1 2 2 then ((f7_byteAt_2 (M1.1 2 3) M1).bind fun v2 => if f7_isLetter v2 M1 = 0 then (if f7_isDigit v2 M1 = 0 then (if v2 = 59 then (f7_advance_2_L112 3 M1) else (f7_advance_2_L112 4 M1)) else ((f7_passNumber_2 M1).bind fun M7 => some M7)) else ((f7_passWord_2 M1).bind fun M8 => some M8)) else (cd_lt (cd_wI M1 2 5 0) fun M9 => some M9)
set_option maxRecDepth 8000 in
theorem k7_advance_2_L38 (M : cd_M) : cd_R 88 38 [some (.ref 2), none] [] M (w_PV (f7_advance_2_L38 M)) := by
  unfold f7_advance_2_L38
  refine r_ld (.aload_n 0) 1 2 0 (.ref 2) rfl rfl rfl rfl 39 rfl ?_
  refine r_ld (.aload_n 0) 1 2 0 (.ref 2) rfl rfl rfl rfl 40 rfl ?_
  refine r_go (.getfield 22) 3 rfl rfl rfl 43 [.int (M.1 2 3), .ref 2] rfl ?_
  refine q_wr w_PV (.putfield 25) 3 rfl rfl rfl 46 [] (cd_wI M 2 4 (M.1 2 3)) rfl (fun M1 => ?_)
  refine r_ld (.aload_n 0) 1 2 0 (.ref 2) rfl rfl rfl rfl 47 rfl ?_
  refine r_go (.getfield 22) 3 rfl rfl rfl 50 [.int (M1.1 2 3)] rfl ?_
  refine r_ld (.aload_n 0) 1 2 0 (.ref 2) rfl rfl rfl rfl 51 rfl ?_
  refine r_go (.getfield 19) 3 rfl rfl rfl 54 [.int (M1.1 2 2), .int (M1.1 2 3)] rfl ?_
  refine q_br w_PV (.if_icmp .lt 9) 3 rfl rfl rfl (M1.1 2 3 < M1.1 2 2) 63 57 [] rfl (fun _ => ?_) (fun _ => ?_)
  · refine r_ld (.aload_n 0) 1 2 0 (.ref 2) rfl rfl rfl rfl 64 rfl ?_
    refine r_ld (.aload_n 0) 1 2 0 (.ref 2) rfl rfl rfl rfl 65 rfl ?_
    refine r_go (.getfield 22) 3 rfl rfl rfl 68 [.int (M1.1 2 3), .ref 2] rfl ?_
    refine q_cI w_PV rfl (.invokevirtual 45) rfl rfl rfl 92 [.ref 2, .int (M1.1 2 3)] [] rfl (k7_byteAt_2 (M1.1 2 3) M1) (fun v2 => ?_)
    refine r_st (.istore_n 1) 1 0 1 rfl rfl rfl 72 rfl [some (.ref 2), some (.int (v2))] rfl ?_
    refine r_ld (.iload_n 1) 1 0 1 (.int (v2)) rfl rfl rfl rfl 73 rfl ?_
    refine q_cTIz (.invokestatic 52) rfl rfl rfl 94 rfl [.int (v2)] [] rfl (k7_isLetter v2 M1) (fun z3 => ?_)
    refine q_br w_PV (.ifCond .eq 10) 3 rfl rfl rfl (f7_isLetter v2 M1 = 0) 86 79 [] rfl (fun _ => ?_) (fun _ => ?_)
    · refine r_ld (.iload_n 1) 1 0 1 (.int (v2)) rfl rfl rfl rfl 87 rfl ?_
      refine q_cTIz (.invokestatic 58) rfl rfl rfl 95 rfl [.int (v2)] [] rfl (k7_isDigit v2 M1) (fun z4 => ?_)
      refine q_br w_PV (.ifCond .eq 10) 3 rfl rfl rfl (f7_isDigit v2 M1 = 0) 100 93 [] rfl (fun _ => ?_) (fun _ => ?_)
      · refine r_ld (.aload_n 0) 1 2 0 (.ref 2) rfl rfl rfl rfl 101 rfl ?_
        refine r_ld (.iload_n 1) 1 0 1 (.int (v2)) rfl rfl rfl rfl 102 rfl ?_
        refine q_const (.bipush 59) 2 rfl rfl rfl 104 (59) _ rfl cd_kc59 ?_
        refine q_br w_PV (.if_icmp .ne 7) 3 rfl rfl rfl (v2 = 59) 107 111 [.ref 2] rfl (fun _ => ?_) (fun _ => ?_)
        · refine q_const (.iconst 3) 1 rfl rfl rfl 108 (3) _ rfl cd_kj3 ?_
          refine r_go (.goto 4) 3 rfl rfl rfl 112 [.int (3), .ref 2] rfl ?_
          exact r_w (k7_advance_2_L112 3 M1) (cd_le_s (cd_le_n cd_le_0))
        · refine q_const (.iconst 4) 1 rfl rfl rfl 112 (4) _ rfl cd_kj4 ?_
          exact r_w (k7_advance_2_L112 4 M1) (cd_le_s (cd_le_n cd_le_0))
      · refine r_ld (.aload_n 0) 1 2 0 (.ref 2) rfl rfl rfl rfl 94 rfl ?_
        refine q_cV w_PV rfl (.invokevirtual 61) rfl rfl rfl 91 [.ref 2] [] rfl (k7_passNumber_2 M1) (fun M7 => ?_)
        refine r_go (.goto 28) 3 rfl rfl rfl 125 [] rfl ?_
        exact r_ret .return_ 1 rfl rfl rfl _ rfl
    · refine r_ld (.aload_n 0) 1 2 0 (.ref 2) rfl rfl rfl rfl 80 rfl ?_
      refine q_cV w_PV rfl (.invokevirtual 55) rfl rfl rfl 90 [.ref 2] [] rfl (k7_passWord_2 M1) (fun M8 => ?_)
      refine r_go (.goto 42) 3 rfl rfl rfl 125 [] rfl ?_
      exact r_ret .return_ 1 rfl rfl rfl _ rfl
  · refine r_ld (.aload_n 0) 1 2 0 (.ref 2) rfl rfl rfl rfl 58 rfl ?_
    refine q_const (.iconst 0) 1 rfl rfl rfl 59 (0) _ rfl cd_kj0 ?_
    refine q_wr w_PV (.putfield 28) 3 rfl rfl rfl 62 [] (cd_wI M1 2 5 0) rfl (fun M9 => ?_)
    exact r_ret .return_ 1 rfl rfl rfl _ rfl
def f7_advance_2_L0 : Nat → cd_M → Option cd_M
  | 0, _ => none
  | n + 1, M => if M.1 2 2 ≤ M.1 2 3 then (f7_advance_2_L38 M) else ((f7_byteAt_2 (M.1 2 3) M).bind fun v10 => if f7_isBlank v10 M = 0 then (f7_advance_2_L38 M) else (cd_lt (cd_wI M 2 3 ((M.1 2 3) + 1)) fun M12 => f7_advance_2_L0 n M12))
set_option maxRecDepth 8000 in
theorem k7_advance_2_L0 : ∀ (n : Nat) (M : cd_M), cd_R 88 0 [some (.ref 2), none] [] M (w_PV (f7_advance_2_L0 n M)) := by
  intro n
  induction n with
  | zero =>
    intro M
    exact q_none w_PV rfl
  | succ n ih =>
    intro M
    rw [f7_advance_2_L0]
    refine r_ld (.aload_n 0) 1 2 0 (.ref 2) rfl rfl rfl rfl 1 rfl ?_
    refine r_go (.getfield 22) 3 rfl rfl rfl 4 [.int (M.1 2 3)] rfl ?_
    refine r_ld (.aload_n 0) 1 2 0 (.ref 2) rfl rfl rfl rfl 5 rfl ?_
    refine r_go (.getfield 19) 3 rfl rfl rfl 8 [.int (M.1 2 2), .int (M.1 2 3)] rfl ?_
    refine q_br w_PV (.if_icmp .ge 30) 3 rfl rfl rfl (M.1 2 2 ≤ M.1 2 3) 38 11 [] rfl (fun _ => ?_) (fun _ => ?_)
    · exact r_w (k7_advance_2_L38 M) (cd_le_s (cd_le_n cd_le_0))
    · refine r_ld (.aload_n 0) 1 2 0 (.ref 2) rfl rfl rfl rfl 12 rfl ?_
      refine r_ld (.aload_n 0) 1 2 0 (.ref 2) rfl rfl rfl rfl 13 rfl ?_
      refine r_go (.getfield 22) 3 rfl rfl rfl 16 [.int (M.1 2 3), .ref 2] rfl ?_
      refine q_cI w_PV rfl (.invokevirtual 45) rfl rfl rfl 92 [.ref 2, .int (M.1 2 3)] [] rfl (k7_byteAt_2 (M.1 2 3) M) (fun v10 => ?_)
      refine q_cTIz (.invokestatic 49) rfl rfl rfl 93 rfl [.int (v10)] [] rfl (k7_isBlank v10 M) (fun z11 => ?_)
      refine q_br w_PV (.ifCond .eq 16) 3 rfl rfl rfl (f7_isBlank v10 M = 0) 38 25 [] rfl (fun _ => ?_) (fun _ => ?_)
      · exact r_w (k7_advance_2_L38 M) (cd_le_s (cd_le_n cd_le_0))
      · refine r_ld (.aload_n 0) 1 2 0 (.ref 2) rfl rfl rfl rfl 26 rfl ?_
        refine r_go (.dup) 1 rfl rfl rfl 27 [.ref 2, .ref 2] rfl ?_
        refine r_go (.getfield 22) 3 rfl rfl rfl 30 [.int (M.1 2 3), .ref 2] rfl ?_
        refine q_const (.iconst 1) 1 rfl rfl rfl 31 (1) _ rfl cd_kj1 ?_
        refine r_go (.iadd) 1 rfl rfl rfl 32 [.int ((M.1 2 3) + 1), .ref 2] rfl ?_
        refine q_wr w_PV (.putfield 22) 3 rfl rfl rfl 35 [] (cd_wI M 2 3 ((M.1 2 3) + 1)) rfl (fun M12 => ?_)
        refine r_go (.goto (-35)) 3 rfl rfl rfl 0 [] rfl ?_
        exact r_w (ih M12) (cd_le_s (cd_le_n cd_le_0))
def f7_advance_2 (M : cd_M) : Option cd_M := f7_advance_2_L0 cd_fu M
set_option maxRecDepth 8000 in
theorem k7_advance_2 (M : cd_M) : cd_R 88 0 [some (.ref 2), none] [] M (w_PV (f7_advance_2 M)) := by
  unfold f7_advance_2
  exact r_w (k7_advance_2_L0 cd_fu M) (cd_le_s (cd_le_n cd_le_0))
def f7_open_2_L14 (s0 : Int32) (M : cd_M) : Option cd_M := cd_lt (cd_wI M 2 2 s0) fun M2 => cd_lt (cd_wI M2 2 3 0) fun M3 => (f7_advance_2 M3).bind fun M4 => some M4
set_option maxRecDepth 8000 in
theorem k7_open_2_L14 (s0 : Int32) (M : cd_M) : cd_R 84 14 [some (.ref 2), none] [.int (s0), .ref 2] M (w_PV (f7_open_2_L14 s0 M)) := by
  unfold f7_open_2_L14
  refine q_wr w_PV (.putfield 19) 3 rfl rfl rfl 17 [] (cd_wI M 2 2 s0) rfl (fun M2 => ?_)
  refine r_ld (.aload_n 0) 1 2 0 (.ref 2) rfl rfl rfl rfl 18 rfl ?_
  refine q_const (.iconst 0) 1 rfl rfl rfl 19 (0) _ rfl cd_kj0 ?_
  refine q_wr w_PV (.putfield 22) 3 rfl rfl rfl 22 [] (cd_wI M2 2 3 0) rfl (fun M3 => ?_)
  refine r_ld (.aload_n 0) 1 2 0 (.ref 2) rfl rfl rfl rfl 23 rfl ?_
  refine q_cV w_PV rfl (.invokevirtual 42) rfl rfl rfl 88 [.ref 2] [] rfl (k7_advance_2 M3) (fun M4 => ?_)
  exact r_ret .return_ 1 rfl rfl rfl _ rfl
def f7_open_2 (a1 : Int32) (M : cd_M) : Option cd_M := if f7_holds_2 a1 M = 0 then (f7_open_2_L14 0 M) else (f7_open_2_L14 a1 M)
set_option maxRecDepth 8000 in
theorem k7_open_2 (a1 : Int32) (M : cd_M) : cd_R 84 0 [some (.ref 2), some (.int (a1))] [] M (w_PV (f7_open_2 a1 M)) := by
  unfold f7_open_2
  refine r_ld (.aload_n 0) 1 2 0 (.ref 2) rfl rfl rfl rfl 1 rfl ?_
  refine r_ld (.aload_n 0) 1 2 0 (.ref 2) rfl rfl rfl rfl 2 rfl ?_
  refine r_ld (.iload_n 1) 1 0 1 (.int (a1)) rfl rfl rfl rfl 3 rfl ?_
  refine q_cTIz (.invokevirtual 38) rfl rfl rfl 82 rfl [.ref 2, .int (a1)] [.ref 2] rfl (k7_holds_2 a1 M) (fun z1 => ?_)
  refine q_br w_PV (.ifCond .eq 7) 3 rfl rfl rfl (f7_holds_2 a1 M = 0) 13 9 [.ref 2] rfl (fun _ => ?_) (fun _ => ?_)
  · refine q_const (.iconst 0) 1 rfl rfl rfl 14 (0) _ rfl cd_kj0 ?_
    exact r_w (k7_open_2_L14 0 M) (cd_le_s (cd_le_n cd_le_0))
  · refine r_ld (.iload_n 1) 1 0 1 (.int (a1)) rfl rfl rfl rfl 10 rfl ?_
    refine r_go (.goto 4) 3 rfl rfl rfl 14 [.int (a1), .ref 2] rfl ?_
    exact r_w (k7_open_2_L14 a1 M) (cd_le_s (cd_le_n cd_le_0))
def fJ0_coder_1000 (M : cd_M) : Int32 := if (1 : Int32) = 0 then (1) else (0)
set_option maxRecDepth 8000 in
theorem kJ0_coder_1000 (M : cd_M) : cd_R 240 0 [some (.ref 1000)] [] M ((w_TI M) (fJ0_coder_1000 M)) := by
  unfold fJ0_coder_1000
  refine r_go (.getstatic 38) 3 rfl rfl rfl 3 [.int (1)] rfl ?_
  refine q_br (w_TI M) (.ifCond .eq 10) 3 rfl rfl rfl ((1 : Int32) = 0) 13 6 [] rfl (fun _ => ?_) (fun _ => ?_)
  · refine q_const (.iconst 1) 1 rfl rfl rfl 14 (1) _ rfl cd_kj1 ?_
    exact r_retB rfl rfl (by decide)
  · refine r_ld (.aload_n 0) 1 2 0 (.ref 1000) rfl rfl rfl rfl 7 rfl ?_
    refine r_go (.getfield 15) 3 rfl rfl rfl 10 [.int (0)] rfl ?_
    refine r_go (.goto 4) 3 rfl rfl rfl 14 [.int (0)] rfl ?_
    exact r_retB rfl rfl (by decide)
def fJ0_length_1000 (M : cd_M) : Int32 := ((5 : Int32) >>> ((fJ0_coder_1000 M : Int32) &&& 31))
set_option maxRecDepth 8000 in
theorem kJ0_length_1000 (M : cd_M) : cd_R 238 0 [some (.ref 1000)] [] M ((w_TI M) (fJ0_length_1000 M)) := by
  unfold fJ0_length_1000
  refine r_ld (.aload_n 0) 1 2 0 (.ref 1000) rfl rfl rfl rfl 1 rfl ?_
  refine r_go (.getfield 9) 3 rfl rfl rfl 4 [.ref 1100] rfl ?_
  refine r_go (.arraylength) 1 rfl rfl rfl 5 [.int (5)] rfl ?_
  refine r_ld (.aload_n 0) 1 2 0 (.ref 1000) rfl rfl rfl rfl 6 rfl ?_
  refine q_cTI (.invokevirtual 335) rfl rfl rfl 240 [.ref 1000] [.int (5)] rfl (kJ0_coder_1000 M) ?_
  refine r_go (.ishr) 1 rfl rfl rfl 10 [.int ((5 : Int32) >>> ((fJ0_coder_1000 M : Int32) &&& 31))] rfl ?_
  exact r_ret .ireturn 1 rfl rfl rfl _ rfl
def fJ0_isLatin1_1000 (M : cd_M) : Int32 := if (1 : Int32) = 0 then (0) else (if (0 : Int32) = 0 then (1) else (0))
set_option maxRecDepth 8000 in
theorem kJ0_isLatin1_1000 (M : cd_M) : cd_R 241 0 [some (.ref 1000)] [] M ((w_TI M) (fJ0_isLatin1_1000 M)) := by
  unfold fJ0_isLatin1_1000
  refine r_go (.getstatic 38) 3 rfl rfl rfl 3 [.int (1)] rfl ?_
  refine q_br (w_TI M) (.ifCond .eq 14) 3 rfl rfl rfl ((1 : Int32) = 0) 17 6 [] rfl (fun _ => ?_) (fun _ => ?_)
  · refine q_const (.iconst 0) 1 rfl rfl rfl 18 (0) _ rfl cd_kj0 ?_
    exact r_retZ rfl rfl (by decide)
  · refine r_ld (.aload_n 0) 1 2 0 (.ref 1000) rfl rfl rfl rfl 7 rfl ?_
    refine r_go (.getfield 15) 3 rfl rfl rfl 10 [.int (0)] rfl ?_
    refine q_br (w_TI M) (.ifCond .ne 7) 3 rfl rfl rfl ((0 : Int32) = 0) 13 17 [] rfl (fun _ => ?_) (fun _ => ?_)
    · refine q_const (.iconst 1) 1 rfl rfl rfl 14 (1) _ rfl cd_kj1 ?_
      refine r_go (.goto 4) 3 rfl rfl rfl 18 [.int (1)] rfl ?_
      exact r_retZ rfl rfl (by decide)
    · refine q_const (.iconst 0) 1 rfl rfl rfl 18 (0) _ rfl cd_kj0 ?_
      exact r_retZ rfl rfl (by decide)
def fJ3_checkIndex_1200_L9 (a0 : Int32) (a1 : Int32) (M : cd_M) : Option (Int32) := none
set_option maxRecDepth 8000 in
theorem kJ3_checkIndex_1200_L9 (a0 : Int32) (a1 : Int32) (M : cd_M) : cd_R 244 9 [some (.int (a0)), some (.int (a1)), some (.ref 1200)] [] M ((w_PI M) (fJ3_checkIndex_1200_L9 a0 a1 M)) := by
  unfold fJ3_checkIndex_1200_L9
  refine r_ld (.aload_n 2) 1 2 2 (.ref 1200) rfl rfl rfl rfl 10 rfl ?_
  refine r_ld (.iload_n 0) 1 0 0 (.int (a0)) rfl rfl rfl rfl 11 rfl ?_
  refine r_ld (.iload_n 1) 1 0 1 (.int (a1)) rfl rfl rfl rfl 12 rfl ?_
  exact q_none (w_PI M) rfl
def fJ3_checkIndex_1200 (a0 : Int32) (a1 : Int32) (M : cd_M) : Option (Int32) := if a0 < 0 then (fJ3_checkIndex_1200_L9 a0 a1 M) else (if a0 < a1 then (some a0) else (fJ3_checkIndex_1200_L9 a0 a1 M))
set_option maxRecDepth 8000 in
theorem kJ3_checkIndex_1200 (a0 : Int32) (a1 : Int32) (M : cd_M) : cd_R 244 0 [some (.int (a0)), some (.int (a1)), some (.ref 1200)] [] M ((w_PI M) (fJ3_checkIndex_1200 a0 a1 M)) := by
  unfold fJ3_checkIndex_1200
  refine r_ld (.iload_n 0) 1 0 0 (.int (a0)) rfl rfl rfl rfl 1 rfl ?_
  refine q_br (w_PI M) (.ifCond .lt 8) 3 rfl rfl rfl (a0 < 0) 9 4 [] rfl (fun _ => ?_) (fun _ => ?_)
  · exact r_w (kJ3_checkIndex_1200_L9 a0 a1 M) (cd_le_s (cd_le_s (cd_le_s cd_le_0)))
  · refine r_ld (.iload_n 0) 1 0 0 (.int (a0)) rfl rfl rfl rfl 5 rfl ?_
    refine r_ld (.iload_n 1) 1 0 1 (.int (a1)) rfl rfl rfl rfl 6 rfl ?_
    refine q_br (w_PI M) (.if_icmp .lt 10) 3 rfl rfl rfl (a0 < a1) 16 9 [] rfl (fun _ => ?_) (fun _ => ?_)
    · refine r_ld (.iload_n 0) 1 0 0 (.int (a0)) rfl rfl rfl rfl 17 rfl ?_
      exact r_ret .ireturn 1 rfl rfl rfl _ rfl
    · exact r_w (kJ3_checkIndex_1200_L9 a0 a1 M) (cd_le_s (cd_le_s (cd_le_s cd_le_0)))
def fJ0_checkIndex (a0 : Int32) (a1 : Int32) (M : cd_M) : Option Unit := (fJ3_checkIndex_1200 a0 a1 M).bind fun v1 => some ()
set_option maxRecDepth 8000 in
theorem kJ0_checkIndex (a0 : Int32) (a1 : Int32) (M : cd_M) : cd_R 242 0 [some (.int (a0)), some (.int (a1))] [] M ((w_PU M) (fJ0_checkIndex a0 a1 M)) := by
  unfold fJ0_checkIndex
  refine r_ld (.iload_n 0) 1 0 0 (.int (a0)) rfl rfl rfl rfl 1 rfl ?_
  refine r_ld (.iload_n 1) 1 0 1 (.int (a1)) rfl rfl rfl rfl 2 rfl ?_
  refine r_go (.getstatic 1053) 3 rfl rfl rfl 5 [.ref 1200, .int (a1), .int (a0)] rfl ?_
  refine q_cI (w_PU M) rfl (.invokestatic 1059) rfl rfl rfl 244 [.int (a0), .int (a1), .ref 1200] [] rfl (kJ3_checkIndex_1200 a0 a1 M) (fun v1 => ?_)
  refine r_go (.pop) 1 rfl rfl rfl 9 [] rfl ?_
  exact r_ret .return_ 1 rfl rfl rfl _ rfl
def fJ1_charAt_1100 (a1 : Int32) (M : cd_M) : Option (Int32) := (fJ0_checkIndex a1 5 M).bind fun _ => if cd_in a1 5 = true then (some ((((cd_sbyte 1100 a1) &&& 255 : Int32).toUInt32 % 65536).toInt32)) else none
set_option maxRecDepth 8000 in
theorem kJ1_charAt_1100 (a1 : Int32) (M : cd_M) : cd_R 243 0 [some (.ref 1100), some (.int (a1))] [] M ((w_PI M) (fJ1_charAt_1100 a1 M)) := by
  unfold fJ1_charAt_1100
  refine r_ld (.iload_n 1) 1 0 1 (.int (a1)) rfl rfl rfl rfl 1 rfl ?_
  refine r_ld (.aload_n 0) 1 2 0 (.ref 1100) rfl rfl rfl rfl 2 rfl ?_
  refine r_go (.arraylength) 1 rfl rfl rfl 3 [.int (5), .int (a1)] rfl ?_
  refine q_cU (w_PI M) rfl (.invokestatic 9) rfl rfl rfl 242 [.int (a1), .int (5)] [] rfl (kJ0_checkIndex a1 5 M) ?_
  refine r_ld (.aload_n 0) 1 2 0 (.ref 1100) rfl rfl rfl rfl 7 rfl ?_
  refine r_ld (.iload_n 1) 1 0 1 (.int (a1)) rfl rfl rfl rfl 8 rfl ?_
  refine q_sbald (w_PI M) rfl rfl 1100 5 rfl rfl (by decide) ?_
  refine q_const (.sipush 255) 3 rfl rfl rfl 12 (255) _ rfl cd_kt255 ?_
  refine r_go (.iand) 1 rfl rfl rfl 13 [.int ((cd_sbyte 1100 a1) &&& 255)] rfl ?_
  refine r_go (.i2c) 1 rfl rfl rfl 14 [.int ((((cd_sbyte 1100 a1) &&& 255 : Int32).toUInt32 % 65536).toInt32)] rfl ?_
  exact r_retC rfl rfl (pk_nc _)
def fJ0_charAt_1000 (a1 : Int32) (M : cd_M) : Option (Int32) := if fJ0_isLatin1_1000 M = 0 then (none) else ((fJ1_charAt_1100 a1 M).bind fun v2 => some v2)
set_option maxRecDepth 8000 in
theorem kJ0_charAt_1000 (a1 : Int32) (M : cd_M) : cd_R 239 0 [some (.ref 1000), some (.int (a1))] [] M ((w_PI M) (fJ0_charAt_1000 a1 M)) := by
  unfold fJ0_charAt_1000
  refine r_ld (.aload_n 0) 1 2 0 (.ref 1000) rfl rfl rfl rfl 1 rfl ?_
  refine q_cTIz (.invokevirtual 492) rfl rfl rfl 241 rfl [.ref 1000] [] rfl (kJ0_isLatin1_1000 M) (fun z1 => ?_)
  refine q_br (w_PI M) (.ifCond .eq 12) 3 rfl rfl rfl (fJ0_isLatin1_1000 M = 0) 16 7 [] rfl (fun _ => ?_) (fun _ => ?_)
  · refine r_ld (.aload_n 0) 1 2 0 (.ref 1000) rfl rfl rfl rfl 17 rfl ?_
    refine r_go (.getfield 9) 3 rfl rfl rfl 20 [.ref 1100] rfl ?_
    refine r_ld (.iload_n 1) 1 0 1 (.int (a1)) rfl rfl rfl rfl 21 rfl ?_
    exact q_none (w_PI M) rfl
  · refine r_ld (.aload_n 0) 1 2 0 (.ref 1000) rfl rfl rfl rfl 8 rfl ?_
    refine r_go (.getfield 9) 3 rfl rfl rfl 11 [.ref 1100] rfl ?_
    refine r_ld (.iload_n 1) 1 0 1 (.int (a1)) rfl rfl rfl rfl 12 rfl ?_
    refine q_cIc (w_PI M) rfl (.invokestatic 495) rfl rfl rfl 243 rfl [.ref 1100, .int (a1)] [] rfl (kJ1_charAt_1100 a1 M) (fun v2 z3 => ?_)
    exact r_retC rfl rfl z3
def f7_isWord_2_1000_L28 : Nat → Int32 → cd_M → Option (Int32)
  | 0, _, _ => none
  | n + 1, a2, M => if fJ0_length_1000 M ≤ a2 then (some 1) else ((f7_byteAt_2 ((M.1 2 4) + a2) M).bind fun v1 => (fJ0_charAt_1000 a2 M).bind fun v2 => if v1 = v2 then (cd_lt (a2 + (1)) fun x4 => f7_isWord_2_1000_L28 n x4 M) else (some 0))
set_option maxRecDepth 8000 in
theorem k7_isWord_2_1000_L28 : ∀ (n : Nat) (a2 : Int32) (M : cd_M), cd_R 89 28 [some (.ref 2), some (.ref 1000), some (.int (a2))] [] M ((w_PI M) (f7_isWord_2_1000_L28 n a2 M)) := by
  intro n
  induction n with
  | zero =>
    intro a2 M
    exact q_none (w_PI M) rfl
  | succ n ih =>
    intro a2 M
    rw [f7_isWord_2_1000_L28]
    refine r_ld (.iload_n 2) 1 0 2 (.int (a2)) rfl rfl rfl rfl 29 rfl ?_
    refine r_ld (.aload_n 1) 1 2 1 (.ref 1000) rfl rfl rfl rfl 30 rfl ?_
    refine q_cTI (.invokevirtual 64) rfl rfl rfl 238 [.ref 1000] [.int (a2)] rfl (kJ0_length_1000 M) ?_
    refine q_br (w_PI M) (.if_icmp .ge 29) 3 rfl rfl rfl (fJ0_length_1000 M ≤ a2) 62 36 [] rfl (fun _ => ?_) (fun _ => ?_)
    · refine q_const (.iconst 1) 1 rfl rfl rfl 63 (1) _ rfl cd_kj1 ?_
      exact r_retZ rfl rfl (by decide)
    · refine r_ld (.aload_n 0) 1 2 0 (.ref 2) rfl rfl rfl rfl 37 rfl ?_
      refine r_ld (.aload_n 0) 1 2 0 (.ref 2) rfl rfl rfl rfl 38 rfl ?_
      refine r_go (.getfield 25) 3 rfl rfl rfl 41 [.int (M.1 2 4), .ref 2] rfl ?_
      refine r_ld (.iload_n 2) 1 0 2 (.int (a2)) rfl rfl rfl rfl 42 rfl ?_
      refine r_go (.iadd) 1 rfl rfl rfl 43 [.int ((M.1 2 4) + a2), .ref 2] rfl ?_
      refine q_cI (w_PI M) rfl (.invokevirtual 45) rfl rfl rfl 92 [.ref 2, .int ((M.1 2 4) + a2)] [] rfl (k7_byteAt_2 ((M.1 2 4) + a2) M) (fun v1 => ?_)
      refine r_ld (.aload_n 1) 1 2 1 (.ref 1000) rfl rfl rfl rfl 47 rfl ?_
      refine r_ld (.iload_n 2) 1 0 2 (.int (a2)) rfl rfl rfl rfl 48 rfl ?_
      refine q_cIc (w_PI M) rfl (.invokevirtual 69) rfl rfl rfl 239 rfl [.ref 1000, .int (a2)] [.int (v1)] rfl (kJ0_charAt_1000 a2 M) (fun v2 z3 => ?_)
      refine q_br (w_PI M) (.if_icmp .eq 5) 3 rfl rfl rfl (v1 = v2) 56 54 [] rfl (fun _ => ?_) (fun _ => ?_)
      · refine q_inc (w_PI M) 2 (1) (a2) rfl rfl rfl 59 rfl (1) cd_kj1 (fun x4 => [some (.ref 2), some (.ref 1000), some (.int (x4))]) (fun _ => rfl) (fun x4 => ?_)
        refine r_go (.goto (-31)) 3 rfl rfl rfl 28 [] rfl ?_
        exact r_w (ih x4 M) (cd_le_s (cd_le_s (cd_le_s cd_le_0)))
      · refine q_const (.iconst 0) 1 rfl rfl rfl 55 (0) _ rfl cd_kj0 ?_
        exact r_retZ rfl rfl (by decide)
def f7_isWord_2_1000 (M : cd_M) : Option (Int32) := if M.1 2 5 = 1 then (if (M.1 2 3) - (M.1 2 4) = fJ0_length_1000 M then (f7_isWord_2_1000_L28 cd_fu 0 M) else (some 0)) else (some 0)
set_option maxRecDepth 8000 in
theorem k7_isWord_2_1000 (M : cd_M) : cd_R 89 0 [some (.ref 2), some (.ref 1000), none] [] M ((w_PI M) (f7_isWord_2_1000 M)) := by
  unfold f7_isWord_2_1000
  refine r_ld (.aload_n 0) 1 2 0 (.ref 2) rfl rfl rfl rfl 1 rfl ?_
  refine r_go (.getfield 28) 3 rfl rfl rfl 4 [.int (M.1 2 5)] rfl ?_
  refine q_const (.iconst 1) 1 rfl rfl rfl 5 (1) _ rfl cd_kj1 ?_
  refine q_br (w_PI M) (.if_icmp .ne 19) 3 rfl rfl rfl (M.1 2 5 = 1) 8 24 [] rfl (fun _ => ?_) (fun _ => ?_)
  · refine r_ld (.aload_n 0) 1 2 0 (.ref 2) rfl rfl rfl rfl 9 rfl ?_
    refine r_go (.getfield 22) 3 rfl rfl rfl 12 [.int (M.1 2 3)] rfl ?_
    refine r_ld (.aload_n 0) 1 2 0 (.ref 2) rfl rfl rfl rfl 13 rfl ?_
    refine r_go (.getfield 25) 3 rfl rfl rfl 16 [.int (M.1 2 4), .int (M.1 2 3)] rfl ?_
    refine r_go (.isub) 1 rfl rfl rfl 17 [.int ((M.1 2 3) - (M.1 2 4))] rfl ?_
    refine r_ld (.aload_n 1) 1 2 1 (.ref 1000) rfl rfl rfl rfl 18 rfl ?_
    refine q_cTI (.invokevirtual 64) rfl rfl rfl 238 [.ref 1000] [.int ((M.1 2 3) - (M.1 2 4))] rfl (kJ0_length_1000 M) ?_
    refine q_br (w_PI M) (.if_icmp .eq 5) 3 rfl rfl rfl ((M.1 2 3) - (M.1 2 4) = fJ0_length_1000 M) 26 24 [] rfl (fun _ => ?_) (fun _ => ?_)
    · refine q_const (.iconst 0) 1 rfl rfl rfl 27 (0) _ rfl cd_kj0 ?_
      refine r_st (.istore_n 2) 1 0 2 rfl rfl rfl 28 rfl [some (.ref 2), some (.ref 1000), some (.int (0))] rfl ?_
      exact r_w (k7_isWord_2_1000_L28 cd_fu 0 M) (cd_le_s (cd_le_s (cd_le_s cd_le_0)))
    · refine q_const (.iconst 0) 1 rfl rfl rfl 25 (0) _ rfl cd_kj0 ?_
      exact r_retZ rfl rfl (by decide)
  · refine q_const (.iconst 0) 1 rfl rfl rfl 25 (0) _ rfl cd_kj0 ?_
    exact r_retZ rfl rfl (by decide)
def f7_start_2 (M : cd_M) : Int32 := (M.1 2 4)
set_option maxRecDepth 8000 in
theorem k7_start_2 (M : cd_M) : cd_R 86 0 [some (.ref 2)] [] M ((w_TI M) (f7_start_2 M)) := by
  unfold f7_start_2
  refine r_ld (.aload_n 0) 1 2 0 (.ref 2) rfl rfl rfl rfl 1 rfl ?_
  refine r_go (.getfield 25) 3 rfl rfl rfl 4 [.int (M.1 2 4)] rfl ?_
  exact r_ret .ireturn 1 rfl rfl rfl _ rfl
def f8_refuse_1 (a1 : Int32) (M : cd_M) : Int32 × cd_M := cd_lt (cd_wI M 1 3 ((8 * (f7_start_2 M)) + a1)) fun M1 => (0, M1)
set_option maxRecDepth 8000 in
theorem k8_refuse_1 (a1 : Int32) (M : cd_M) : cd_R 111 0 [some (.ref 1), some (.int (a1))] [] M (w_TM (f8_refuse_1 a1 M)) := by
  unfold f8_refuse_1
  refine r_ld (.aload_n 0) 1 2 0 (.ref 1) rfl rfl rfl rfl 1 rfl ?_
  refine q_const (.bipush 8) 2 rfl rfl rfl 3 (8) _ rfl cd_kc8 ?_
  refine r_ld (.aload_n 0) 1 2 0 (.ref 1) rfl rfl rfl rfl 4 rfl ?_
  refine r_go (.getfield 12) 3 rfl rfl rfl 7 [.ref 2, .int (8), .ref 1] rfl ?_
  refine q_cTI (.invokevirtual 145) rfl rfl rfl 86 [.ref 2] [.int (8), .ref 1] rfl (k7_start_2 M) ?_
  refine r_go (.imul) 1 rfl rfl rfl 11 [.int (8 * (f7_start_2 M)), .ref 1] rfl ?_
  refine r_ld (.iload_n 1) 1 0 1 (.int (a1)) rfl rfl rfl rfl 12 rfl ?_
  refine r_go (.iadd) 1 rfl rfl rfl 13 [.int ((8 * (f7_start_2 M)) + a1), .ref 1] rfl ?_
  refine q_wr w_TM (.putfield 34) 3 rfl rfl rfl 16 [] (cd_wI M 1 3 ((8 * (f7_start_2 M)) + a1)) rfl (fun M1 => ?_)
  refine q_const (.iconst 0) 1 rfl rfl rfl 17 (0) _ rfl cd_kj0 ?_
  exact r_retZ rfl rfl (by decide)
def f8_takeWord_1_1000 (M : cd_M) : Option (Int32 × cd_M) := (f7_isWord_2_1000 M).bind fun v1 => if v1 = 0 then (cd_lt (f8_refuse_1 1 M) (cd_u2 fun v4 M3 => some (v4, M3))) else ((f7_advance_2 M).bind fun M7 => some (1, M7))
set_option maxRecDepth 8000 in
theorem k8_takeWord_1_1000 (M : cd_M) : cd_R 107 0 [some (.ref 1), some (.ref 1000)] [] M (w_PM (f8_takeWord_1_1000 M)) := by
  unfold f8_takeWord_1_1000
  refine r_ld (.aload_n 0) 1 2 0 (.ref 1) rfl rfl rfl rfl 1 rfl ?_
  refine r_go (.getfield 12) 3 rfl rfl rfl 4 [.ref 2] rfl ?_
  refine r_ld (.aload_n 1) 1 2 1 (.ref 1000) rfl rfl rfl rfl 5 rfl ?_
  refine q_cIz w_PM rfl (.invokevirtual 74) rfl rfl rfl 89 rfl [.ref 2, .ref 1000] [] rfl (k7_isWord_2_1000 M) (fun v1 z2 => ?_)
  refine q_br w_PM (.ifCond .ne 9) 3 rfl rfl rfl (v1 = 0) 11 17 [] rfl (fun _ => ?_) (fun _ => ?_)
  · refine r_ld (.aload_n 0) 1 2 0 (.ref 1) rfl rfl rfl rfl 12 rfl ?_
    refine q_const (.iconst 1) 1 rfl rfl rfl 13 (1) _ rfl cd_kj1 ?_
    refine q_cTMz w_PM (.invokevirtual 77) rfl rfl rfl 111 rfl [.ref 1, .int (1)] [] rfl (k8_refuse_1 1 M) (fun v4 M3 z5 => ?_)
    exact r_retZ rfl rfl z5
  · refine r_ld (.aload_n 0) 1 2 0 (.ref 1) rfl rfl rfl rfl 18 rfl ?_
    refine r_go (.getfield 12) 3 rfl rfl rfl 21 [.ref 2] rfl ?_
    refine q_cV w_PM rfl (.invokevirtual 80) rfl rfl rfl 88 [.ref 2] [] rfl (k7_advance_2 M) (fun M7 => ?_)
    refine q_const (.iconst 1) 1 rfl rfl rfl 25 (1) _ rfl cd_kj1 ?_
    exact r_retZ rfl rfl (by decide)
def f7_kind_2 (M : cd_M) : Int32 := (M.1 2 5)
set_option maxRecDepth 8000 in
theorem k7_kind_2 (M : cd_M) : cd_R 85 0 [some (.ref 2)] [] M ((w_TI M) (f7_kind_2 M)) := by
  unfold f7_kind_2
  refine r_ld (.aload_n 0) 1 2 0 (.ref 2) rfl rfl rfl rfl 1 rfl ?_
  refine r_go (.getfield 28) 3 rfl rfl rfl 4 [.int (M.1 2 5)] rfl ?_
  exact r_ret .ireturn 1 rfl rfl rfl _ rfl
def f7_number_2 (M : cd_M) : Int32 := (M.1 2 6)
set_option maxRecDepth 8000 in
theorem k7_number_2 (M : cd_M) : cd_R 87 0 [some (.ref 2)] [] M ((w_TI M) (f7_number_2 M)) := by
  unfold f7_number_2
  refine r_ld (.aload_n 0) 1 2 0 (.ref 2) rfl rfl rfl rfl 1 rfl ?_
  refine r_go (.getfield 31) 3 rfl rfl rfl 4 [.int (M.1 2 6)] rfl ?_
  exact r_ret .ireturn 1 rfl rfl rfl _ rfl
def f8_isNumberWithin_1_L39 (M : cd_M) : Int32 × cd_M := cd_lt (f8_refuse_1 2 M) (cd_u2 fun v2 M1 => (v2, M1))
set_option maxRecDepth 8000 in
theorem k8_isNumberWithin_1_L39 (M : cd_M) : cd_R 110 39 [some (.ref 1), none, none] [] M (w_TM (f8_isNumberWithin_1_L39 M)) := by
  unfold f8_isNumberWithin_1_L39
  refine r_ld (.aload_n 0) 1 2 0 (.ref 1) rfl rfl rfl rfl 40 rfl ?_
  refine q_const (.iconst 2) 1 rfl rfl rfl 41 (2) _ rfl cd_kj2 ?_
  refine q_cTMz w_TM (.invokevirtual 77) rfl rfl rfl 111 rfl [.ref 1, .int (2)] [] rfl (k8_refuse_1 2 M) (fun v2 M1 z3 => ?_)
  exact r_retZ rfl rfl z3
def f8_isNumberWithin_1 (a1 : Int32) (a2 : Int32) (M : cd_M) : Int32 × cd_M := if f7_kind_2 M = 2 then (if f7_number_2 M < a1 then (f8_isNumberWithin_1_L39 M) else (if f7_number_2 M ≤ a2 then ((1, M)) else (f8_isNumberWithin_1_L39 M))) else (cd_lt (f8_refuse_1 1 M) (cd_u2 fun v6 M5 => (v6, M5)))
set_option maxRecDepth 8000 in
theorem k8_isNumberWithin_1 (a1 : Int32) (a2 : Int32) (M : cd_M) : cd_R 110 0 [some (.ref 1), some (.int (a1)), some (.int (a2))] [] M (w_TM (f8_isNumberWithin_1 a1 a2 M)) := by
  unfold f8_isNumberWithin_1
  refine r_ld (.aload_n 0) 1 2 0 (.ref 1) rfl rfl rfl rfl 1 rfl ?_
  refine r_go (.getfield 12) 3 rfl rfl rfl 4 [.ref 2] rfl ?_
  refine q_cTI (.invokevirtual 64) rfl rfl rfl 85 [.ref 2] [] rfl (k7_kind_2 M) ?_
  refine q_const (.iconst 2) 1 rfl rfl rfl 8 (2) _ rfl cd_kj2 ?_
  refine q_br w_TM (.if_icmp .eq 9) 3 rfl rfl rfl (f7_kind_2 M = 2) 17 11 [] rfl (fun _ => ?_) (fun _ => ?_)
  · refine r_ld (.aload_n 0) 1 2 0 (.ref 1) rfl rfl rfl rfl 18 rfl ?_
    refine r_go (.getfield 12) 3 rfl rfl rfl 21 [.ref 2] rfl ?_
    refine q_cTI (.invokevirtual 116) rfl rfl rfl 87 [.ref 2] [] rfl (k7_number_2 M) ?_
    refine r_ld (.iload_n 1) 1 0 1 (.int (a1)) rfl rfl rfl rfl 25 rfl ?_
    refine q_br w_TM (.if_icmp .lt 14) 3 rfl rfl rfl (f7_number_2 M < a1) 39 28 [] rfl (fun _ => ?_) (fun _ => ?_)
    · exact r_w (k8_isNumberWithin_1_L39 M) (cd_le_s (cd_le_n (cd_le_n cd_le_0)))
    · refine r_ld (.aload_n 0) 1 2 0 (.ref 1) rfl rfl rfl rfl 29 rfl ?_
      refine r_go (.getfield 12) 3 rfl rfl rfl 32 [.ref 2] rfl ?_
      refine q_cTI (.invokevirtual 116) rfl rfl rfl 87 [.ref 2] [] rfl (k7_number_2 M) ?_
      refine r_ld (.iload_n 2) 1 0 2 (.int (a2)) rfl rfl rfl rfl 36 rfl ?_
      refine q_br w_TM (.if_icmp .le 9) 3 rfl rfl rfl (f7_number_2 M ≤ a2) 45 39 [] rfl (fun _ => ?_) (fun _ => ?_)
      · refine q_const (.iconst 1) 1 rfl rfl rfl 46 (1) _ rfl cd_kj1 ?_
        exact r_retZ rfl rfl (by decide)
      · exact r_w (k8_isNumberWithin_1_L39 M) (cd_le_s (cd_le_n (cd_le_n cd_le_0)))
  · refine r_ld (.aload_n 0) 1 2 0 (.ref 1) rfl rfl rfl rfl 12 rfl ?_
    refine q_const (.iconst 1) 1 rfl rfl rfl 13 (1) _ rfl cd_kj1 ?_
    refine q_cTMz w_TM (.invokevirtual 77) rfl rfl rfl 111 rfl [.ref 1, .int (1)] [] rfl (k8_refuse_1 1 M) (fun v6 M5 z7 => ?_)
    exact r_retZ rfl rfl z7
def f8_takeNumber_1 (a1 : Int32) (a2 : Int32) (M : cd_M) : Option (Int32 × cd_M) := cd_lt (f8_isNumberWithin_1 a1 a2 M) (cd_u2 fun v2 M1 => if v2 = 0 then (some (0, M1)) else (cd_lt (cd_wI M1 1 4 (f7_number_2 M1)) fun M5 => (f7_advance_2 M5).bind fun M6 => some (1, M6)))
set_option maxRecDepth 8000 in
theorem k8_takeNumber_1 (a1 : Int32) (a2 : Int32) (M : cd_M) : cd_R 109 0 [some (.ref 1), some (.int (a1)), some (.int (a2))] [] M (w_PM (f8_takeNumber_1 a1 a2 M)) := by
  unfold f8_takeNumber_1
  refine r_ld (.aload_n 0) 1 2 0 (.ref 1) rfl rfl rfl rfl 1 rfl ?_
  refine r_ld (.iload_n 1) 1 0 1 (.int (a1)) rfl rfl rfl rfl 2 rfl ?_
  refine r_ld (.iload_n 2) 1 0 2 (.int (a2)) rfl rfl rfl rfl 3 rfl ?_
  refine q_cTMz w_PM (.invokevirtual 113) rfl rfl rfl 110 rfl [.ref 1, .int (a1), .int (a2)] [] rfl (k8_isNumberWithin_1 a1 a2 M) (fun v2 M1 z3 => ?_)
  refine q_br w_PM (.ifCond .ne 5) 3 rfl rfl rfl (v2 = 0) 9 11 [] rfl (fun _ => ?_) (fun _ => ?_)
  · refine q_const (.iconst 0) 1 rfl rfl rfl 10 (0) _ rfl cd_kj0 ?_
    exact r_retZ rfl rfl (by decide)
  · refine r_ld (.aload_n 0) 1 2 0 (.ref 1) rfl rfl rfl rfl 12 rfl ?_
    refine r_ld (.aload_n 0) 1 2 0 (.ref 1) rfl rfl rfl rfl 13 rfl ?_
    refine r_go (.getfield 12) 3 rfl rfl rfl 16 [.ref 2, .ref 1] rfl ?_
    refine q_cTI (.invokevirtual 116) rfl rfl rfl 87 [.ref 2] [.ref 1] rfl (k7_number_2 M1) ?_
    refine q_wr w_PM (.putfield 38) 3 rfl rfl rfl 22 [] (cd_wI M1 1 4 (f7_number_2 M1)) rfl (fun M5 => ?_)
    refine r_ld (.aload_n 0) 1 2 0 (.ref 1) rfl rfl rfl rfl 23 rfl ?_
    refine r_go (.getfield 12) 3 rfl rfl rfl 26 [.ref 2] rfl ?_
    refine q_cV w_PM rfl (.invokevirtual 80) rfl rfl rfl 88 [.ref 2] [] rfl (k7_advance_2 M5) (fun M6 => ?_)
    refine q_const (.iconst 1) 1 rfl rfl rfl 30 (1) _ rfl cd_kj1 ?_
    exact r_retZ rfl rfl (by decide)
def f1_begin_3 (a1 : Int32) (M : cd_M) : cd_M := cd_lt (cd_wI M 3 2 a1) fun M1 => cd_lt (cd_wI M1 3 3 0) fun M2 => M2
set_option maxRecDepth 8000 in
theorem k1_begin_3 (a1 : Int32) (M : cd_M) : cd_R 11 0 [some (.ref 3), some (.int (a1))] [] M (w_TV (f1_begin_3 a1 M)) := by
  unfold f1_begin_3
  refine r_ld (.aload_n 0) 1 2 0 (.ref 3) rfl rfl rfl rfl 1 rfl ?_
  refine r_ld (.iload_n 1) 1 0 1 (.int (a1)) rfl rfl rfl rfl 2 rfl ?_
  refine q_wr w_TV (.putfield 7) 3 rfl rfl rfl 5 [] (cd_wI M 3 2 a1) rfl (fun M1 => ?_)
  refine r_ld (.aload_n 0) 1 2 0 (.ref 3) rfl rfl rfl rfl 6 rfl ?_
  refine q_const (.iconst 0) 1 rfl rfl rfl 7 (0) _ rfl cd_kj0 ?_
  refine q_wr w_TV (.putfield 13) 3 rfl rfl rfl 10 [] (cd_wI M1 3 3 0) rfl (fun M2 => ?_)
  exact r_ret .return_ 1 rfl rfl rfl _ rfl
def f8_takeSemicolon_1 (M : cd_M) : Option (Int32 × cd_M) := if f7_kind_2 M = 3 then ((f7_advance_2 M).bind fun M1 => some (1, M1)) else (cd_lt (f8_refuse_1 1 M) (cd_u2 fun v3 M2 => some (v3, M2)))
set_option maxRecDepth 8000 in
theorem k8_takeSemicolon_1 (M : cd_M) : cd_R 108 0 [some (.ref 1)] [] M (w_PM (f8_takeSemicolon_1 M)) := by
  unfold f8_takeSemicolon_1
  refine r_ld (.aload_n 0) 1 2 0 (.ref 1) rfl rfl rfl rfl 1 rfl ?_
  refine r_go (.getfield 12) 3 rfl rfl rfl 4 [.ref 2] rfl ?_
  refine q_cTI (.invokevirtual 64) rfl rfl rfl 85 [.ref 2] [] rfl (k7_kind_2 M) ?_
  refine q_const (.iconst 3) 1 rfl rfl rfl 8 (3) _ rfl cd_kj3 ?_
  refine q_br w_PM (.if_icmp .eq 9) 3 rfl rfl rfl (f7_kind_2 M = 3) 17 11 [] rfl (fun _ => ?_) (fun _ => ?_)
  · refine r_ld (.aload_n 0) 1 2 0 (.ref 1) rfl rfl rfl rfl 18 rfl ?_
    refine r_go (.getfield 12) 3 rfl rfl rfl 21 [.ref 2] rfl ?_
    refine q_cV w_PM rfl (.invokevirtual 80) rfl rfl rfl 88 [.ref 2] [] rfl (k7_advance_2 M) (fun M1 => ?_)
    refine q_const (.iconst 1) 1 rfl rfl rfl 25 (1) _ rfl cd_kj1 ?_
    exact r_retZ rfl rfl (by decide)
  · refine r_ld (.aload_n 0) 1 2 0 (.ref 1) rfl rfl rfl rfl 12 rfl ?_
    refine q_const (.iconst 1) 1 rfl rfl rfl 13 (1) _ rfl cd_kj1 ?_
    refine q_cTMz w_PM (.invokevirtual 77) rfl rfl rfl 111 rfl [.ref 1, .int (1)] [] rfl (k8_refuse_1 1 M) (fun v3 M2 z4 => ?_)
    exact r_retZ rfl rfl z4
def fJ0_coder_1001 (M : cd_M) : Int32 := if (1 : Int32) = 0 then (1) else (0)
set_option maxRecDepth 8000 in
theorem kJ0_coder_1001 (M : cd_M) : cd_R 240 0 [some (.ref 1001)] [] M ((w_TI M) (fJ0_coder_1001 M)) := by
  unfold fJ0_coder_1001
  refine r_go (.getstatic 38) 3 rfl rfl rfl 3 [.int (1)] rfl ?_
  refine q_br (w_TI M) (.ifCond .eq 10) 3 rfl rfl rfl ((1 : Int32) = 0) 13 6 [] rfl (fun _ => ?_) (fun _ => ?_)
  · refine q_const (.iconst 1) 1 rfl rfl rfl 14 (1) _ rfl cd_kj1 ?_
    exact r_retB rfl rfl (by decide)
  · refine r_ld (.aload_n 0) 1 2 0 (.ref 1001) rfl rfl rfl rfl 7 rfl ?_
    refine r_go (.getfield 15) 3 rfl rfl rfl 10 [.int (0)] rfl ?_
    refine r_go (.goto 4) 3 rfl rfl rfl 14 [.int (0)] rfl ?_
    exact r_retB rfl rfl (by decide)
def fJ0_length_1001 (M : cd_M) : Int32 := ((5 : Int32) >>> ((fJ0_coder_1001 M : Int32) &&& 31))
set_option maxRecDepth 8000 in
theorem kJ0_length_1001 (M : cd_M) : cd_R 238 0 [some (.ref 1001)] [] M ((w_TI M) (fJ0_length_1001 M)) := by
  unfold fJ0_length_1001
  refine r_ld (.aload_n 0) 1 2 0 (.ref 1001) rfl rfl rfl rfl 1 rfl ?_
  refine r_go (.getfield 9) 3 rfl rfl rfl 4 [.ref 1101] rfl ?_
  refine r_go (.arraylength) 1 rfl rfl rfl 5 [.int (5)] rfl ?_
  refine r_ld (.aload_n 0) 1 2 0 (.ref 1001) rfl rfl rfl rfl 6 rfl ?_
  refine q_cTI (.invokevirtual 335) rfl rfl rfl 240 [.ref 1001] [.int (5)] rfl (kJ0_coder_1001 M) ?_
  refine r_go (.ishr) 1 rfl rfl rfl 10 [.int ((5 : Int32) >>> ((fJ0_coder_1001 M : Int32) &&& 31))] rfl ?_
  exact r_ret .ireturn 1 rfl rfl rfl _ rfl
def fJ0_isLatin1_1001 (M : cd_M) : Int32 := if (1 : Int32) = 0 then (0) else (if (0 : Int32) = 0 then (1) else (0))
set_option maxRecDepth 8000 in
theorem kJ0_isLatin1_1001 (M : cd_M) : cd_R 241 0 [some (.ref 1001)] [] M ((w_TI M) (fJ0_isLatin1_1001 M)) := by
  unfold fJ0_isLatin1_1001
  refine r_go (.getstatic 38) 3 rfl rfl rfl 3 [.int (1)] rfl ?_
  refine q_br (w_TI M) (.ifCond .eq 14) 3 rfl rfl rfl ((1 : Int32) = 0) 17 6 [] rfl (fun _ => ?_) (fun _ => ?_)
  · refine q_const (.iconst 0) 1 rfl rfl rfl 18 (0) _ rfl cd_kj0 ?_
    exact r_retZ rfl rfl (by decide)
  · refine r_ld (.aload_n 0) 1 2 0 (.ref 1001) rfl rfl rfl rfl 7 rfl ?_
    refine r_go (.getfield 15) 3 rfl rfl rfl 10 [.int (0)] rfl ?_
    refine q_br (w_TI M) (.ifCond .ne 7) 3 rfl rfl rfl ((0 : Int32) = 0) 13 17 [] rfl (fun _ => ?_) (fun _ => ?_)
    · refine q_const (.iconst 1) 1 rfl rfl rfl 14 (1) _ rfl cd_kj1 ?_
      refine r_go (.goto 4) 3 rfl rfl rfl 18 [.int (1)] rfl ?_
      exact r_retZ rfl rfl (by decide)
    · refine q_const (.iconst 0) 1 rfl rfl rfl 18 (0) _ rfl cd_kj0 ?_
      exact r_retZ rfl rfl (by decide)
