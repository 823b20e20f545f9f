def f10_doubled_0 (a1 : Int32) (a2 : Int32) (M : cd_M) : Option (Int32 × cd_M) := if f4_hasSpan_7 a1 a2 M = 0 then (some ((-1), M)) else (if a2 ≤ 90 - (f4_size_7 M) then ((f10_beginAct_0 M).bind fun M2 => (f4_repeatSpan_7 a1 a2 M2).bind fun M3 => some (f4_size_7 M3, M3)) else (some ((-1), M)))
set_option maxRecDepth 8000 in
theorem k10_doubled_0 (a1 : Int32) (a2 : Int32) (M : cd_M) : cd_R 134 0 [some (.ref 0), some (.int (a1)), some (.int (a2))] [] M (w_PM (f10_doubled_0 a1 a2 M)) := by
  unfold f10_doubled_0
  refine r_ld (.aload_n 0) 1 2 0 (.ref 0) rfl rfl rfl rfl 1 rfl ?_
  refine r_go (.getfield 35) 3 rfl rfl rfl 4 [.ref 7] rfl ?_
  refine r_ld (.iload_n 1) 1 0 1 (.int (a1)) rfl rfl rfl rfl 5 rfl ?_
  refine r_ld (.iload_n 2) 1 0 2 (.int (a2)) rfl rfl rfl rfl 6 rfl ?_
  refine q_cTIz (.invokevirtual 169) rfl rfl rfl 44 rfl [.ref 7, .int (a1), .int (a2)] [] rfl (k4_hasSpan_7 a1 a2 M) (fun z1 => ?_)
  refine q_br w_PM (.ifCond .eq 17) 3 rfl rfl rfl (f4_hasSpan_7 a1 a2 M = 0) 26 12 [] rfl (fun _ => ?_) (fun _ => ?_)
  · refine q_const (.iconst (-1)) 1 rfl rfl rfl 27 (-1) _ rfl cd_kjm1 ?_
    exact r_ret .ireturn 1 rfl rfl rfl _ rfl
  · refine r_ld (.iload_n 2) 1 0 2 (.int (a2)) rfl rfl rfl rfl 13 rfl ?_
    refine q_const (.bipush 90) 2 rfl rfl rfl 15 (90) _ rfl cd_kc90 ?_
    refine r_ld (.aload_n 0) 1 2 0 (.ref 0) rfl rfl rfl rfl 16 rfl ?_
    refine r_go (.getfield 35) 3 rfl rfl rfl 19 [.ref 7, .int (90), .int (a2)] rfl ?_
    refine q_cTI (.invokevirtual 168) rfl rfl rfl 41 [.ref 7] [.int (90), .int (a2)] rfl (k4_size_7 M) ?_
    refine r_go (.isub) 1 rfl rfl rfl 23 [.int (90 - (f4_size_7 M)), .int (a2)] rfl ?_
    refine q_br w_PM (.if_icmp .le 5) 3 rfl rfl rfl (a2 ≤ 90 - (f4_size_7 M)) 28 26 [] rfl (fun _ => ?_) (fun _ => ?_)
    · refine r_ld (.aload_n 0) 1 2 0 (.ref 0) rfl rfl rfl rfl 29 rfl ?_
      refine q_cV w_PM rfl (.invokevirtual 161) rfl rfl rfl 151 [.ref 0] [] rfl (k10_beginAct_0 M) (fun M2 => ?_)
      refine r_ld (.aload_n 0) 1 2 0 (.ref 0) rfl rfl rfl rfl 33 rfl ?_
      refine r_go (.getfield 35) 3 rfl rfl rfl 36 [.ref 7] rfl ?_
      refine r_ld (.iload_n 1) 1 0 1 (.int (a1)) rfl rfl rfl rfl 37 rfl ?_
      refine r_ld (.iload_n 2) 1 0 2 (.int (a2)) rfl rfl rfl rfl 38 rfl ?_
      refine q_cV w_PM rfl (.invokevirtual 176) rfl rfl rfl 52 [.ref 7, .int (a1), .int (a2)] [] rfl (k4_repeatSpan_7 a1 a2 M2) (fun M3 => ?_)
      refine r_ld (.aload_n 0) 1 2 0 (.ref 0) rfl rfl rfl rfl 42 rfl ?_
      refine r_go (.getfield 35) 3 rfl rfl rfl 45 [.ref 7] rfl ?_
      refine q_cTI (.invokevirtual 168) rfl rfl rfl 41 [.ref 7] [] rfl (k4_size_7 M3) ?_
      exact r_ret .ireturn 1 rfl rfl rfl _ rfl
    · refine q_const (.iconst (-1)) 1 rfl rfl rfl 27 (-1) _ rfl cd_kjm1 ?_
      exact r_ret .ireturn 1 rfl rfl rfl _ rfl
def f4_row_7 (a1 : Int32) (M : cd_M) : Option (Int64) := if f4_has_7 a1 M = 0 then (some 0) else (if cd_in a1 90 = true then (some ((M.2 28 a1.toNatClampNeg : Int64) &&& (4398046511103 : Int64))) else none)
set_option maxRecDepth 8000 in
theorem k4_row_7 (a1 : Int32) (M : cd_M) : cd_R 45 0 [some (.ref 7), some (.int (a1))] [] M ((w_PL M) (f4_row_7 a1 M)) := by
  unfold f4_row_7
  refine r_ld (.aload_n 0) 1 2 0 (.ref 7) rfl rfl rfl rfl 1 rfl ?_
  refine r_ld (.iload_n 1) 1 0 1 (.int (a1)) rfl rfl rfl rfl 2 rfl ?_
  refine q_cTIz (.invokevirtual 19) rfl rfl rfl 43 rfl [.ref 7, .int (a1)] [] rfl (k4_has_7 a1 M) (fun z1 => ?_)
  refine q_br (w_PL M) (.ifCond .eq 16) 3 rfl rfl rfl (f4_has_7 a1 M = 0) 21 8 [] rfl (fun _ => ?_) (fun _ => ?_)
  · refine r_go (.lconst 0) 1 rfl rfl rfl 22 [.long (0)] rfl ?_
    exact r_ret .lreturn 1 rfl rfl rfl _ rfl
  · refine r_ld (.aload_n 0) 1 2 0 (.ref 7) rfl rfl rfl rfl 9 rfl ?_
    refine r_go (.getfield 11) 3 rfl rfl rfl 12 [.ref 28] rfl ?_
    refine r_ld (.iload_n 1) 1 0 1 (.int (a1)) rfl rfl rfl rfl 13 rfl ?_
    refine q_lald (w_PL M) rfl rfl 28 90 rfl ?_
    refine r_go (.ldc2_w 23) 3 rfl rfl rfl 17 [.long (4398046511103), .long (M.2 28 a1.toNatClampNeg)] rfl ?_
    refine r_go (.land) 1 rfl rfl rfl 18 [.long ((M.2 28 a1.toNatClampNeg : Int64) &&& (4398046511103 : Int64))] rfl ?_
    refine r_go (.goto 4) 3 rfl rfl rfl 22 [.long ((M.2 28 a1.toNatClampNeg : Int64) &&& (4398046511103 : Int64))] rfl ?_
    exact r_ret .lreturn 1 rfl rfl rfl _ rfl
def f4_sample_7 (a1 : Int32) (a2 : Int32) (M : cd_M) : Option (Int32) := (f4_row_7 a1 M).bind fun v1 => some (f10_sampleOf v1 a2 M)
set_option maxRecDepth 8000 in
theorem k4_sample_7 (a1 : Int32) (a2 : Int32) (M : cd_M) : cd_R 47 0 [some (.ref 7), some (.int (a1)), some (.int (a2))] [] M ((w_PI M) (f4_sample_7 a1 a2 M)) := by
  unfold f4_sample_7
  refine r_ld (.aload_n 0) 1 2 0 (.ref 7) rfl rfl rfl rfl 1 rfl ?_
  refine r_ld (.iload_n 1) 1 0 1 (.int (a1)) rfl rfl rfl rfl 2 rfl ?_
  refine q_cL (w_PI M) rfl (.invokevirtual 25) rfl rfl rfl 45 [.ref 7, .int (a1)] [] rfl (k4_row_7 a1 M) (fun v1 => ?_)
  refine r_ld (.iload_n 2) 1 0 2 (.int (a2)) rfl rfl rfl rfl 6 rfl ?_
  refine q_cTI (.invokestatic 29) rfl rfl rfl 158 [.long (v1), .int (a2)] [] rfl (k10_sampleOf v1 a2 M) ?_
  exact r_ret .ireturn 1 rfl rfl rfl _ rfl
def f4_putSample_7 (a1 : Int32) (a2 : Int32) (a3 : Int32) (M : cd_M) : Option cd_M := if f4_has_7 a1 M = 0 then (some M) else (if cd_in a1 90 = true then (if cd_in a1 90 = true then (cd_lt (cd_wL M 28 a1.toNatClampNeg (f10_withSample (M.2 28 a1.toNatClampNeg) a2 a3 M)) fun M2 => some M2) else none) else none)
set_option maxRecDepth 8000 in
theorem k4_putSample_7 (a1 : Int32) (a2 : Int32) (a3 : Int32) (M : cd_M) : cd_R 48 0 [some (.ref 7), some (.int (a1)), some (.int (a2)), some (.int (a3))] [] M (w_PV (f4_putSample_7 a1 a2 a3 M)) := by
  unfold f4_putSample_7
  refine r_ld (.aload_n 0) 1 2 0 (.ref 7) rfl rfl rfl rfl 1 rfl ?_
  refine r_ld (.iload_n 1) 1 0 1 (.int (a1)) rfl rfl rfl rfl 2 rfl ?_
  refine q_cTIz (.invokevirtual 19) rfl rfl rfl 43 rfl [.ref 7, .int (a1)] [] rfl (k4_has_7 a1 M) (fun z1 => ?_)
  refine q_br w_PV (.ifCond .eq 20) 3 rfl rfl rfl (f4_has_7 a1 M = 0) 25 8 [] rfl (fun _ => ?_) (fun _ => ?_)
  · exact r_ret .return_ 1 rfl rfl rfl _ rfl
  · refine r_ld (.aload_n 0) 1 2 0 (.ref 7) rfl rfl rfl rfl 9 rfl ?_
    refine r_go (.getfield 11) 3 rfl rfl rfl 12 [.ref 28] rfl ?_
    refine r_ld (.iload_n 1) 1 0 1 (.int (a1)) rfl rfl rfl rfl 13 rfl ?_
    refine r_ld (.aload_n 0) 1 2 0 (.ref 7) rfl rfl rfl rfl 14 rfl ?_
    refine r_go (.getfield 11) 3 rfl rfl rfl 17 [.ref 28, .int (a1), .ref 28] rfl ?_
    refine r_ld (.iload_n 1) 1 0 1 (.int (a1)) rfl rfl rfl rfl 18 rfl ?_
    refine q_lald w_PV rfl rfl 28 90 rfl ?_
    refine r_ld (.iload_n 2) 1 0 2 (.int (a2)) rfl rfl rfl rfl 20 rfl ?_
    refine r_ld (.iload_n 3) 1 0 3 (.int (a3)) rfl rfl rfl rfl 21 rfl ?_
    refine q_cTL (.invokestatic 33) rfl rfl rfl 159 [.long (M.2 28 a1.toNatClampNeg), .int (a2), .int (a3)] [.int (a1), .ref 28] rfl (k10_withSample (M.2 28 a1.toNatClampNeg) a2 a3 M) ?_
    refine q_last w_PV rfl rfl 28 90 rfl (fun M2 => ?_)
    exact r_ret .return_ 1 rfl rfl rfl _ rfl
def f4_disturb_7_L113 (r23 : Int32 → Int32 → Int32 → Int32 → Int32 → Int32 → cd_M → Option (Int32 × cd_M)) (r35 : Int32 → Int32 → Int32 → Int32 → Int32 → Int32 → Int32 → cd_M → Option (Int32 × cd_M)) (a2 : Int32) (a3 : Int32) (a4 : Int32) (a5 : Int32) (a7 : Int32) (a8 : Int32) (s0 : Int32) (s1 : Int32) (M : cd_M) : Option (Int32 × cd_M) := cd_lt (s1 + s0) fun x8 => cd_lt (a8 + (1)) fun x9 => r35 a2 a3 a4 a5 x8 a7 x9 M
set_option maxRecDepth 8000 in
theorem k4_disturb_7_L113 (r23 : Int32 → Int32 → Int32 → Int32 → Int32 → Int32 → cd_M → Option (Int32 × cd_M)) (h23 : ∀ (a2 : Int32) (a3 : Int32) (a4 : Int32) (a5 : Int32) (a6 : Int32) (a7 : Int32) (M : cd_M), cd_R 53 23 [some (.ref 7), none, some (.int (a2)), some (.int (a3)), some (.int (a4)), some (.int (a5)), some (.int (a6)), some (.int (a7)), none, none, none, none] [] M (w_PM (r23 a2 a3 a4 a5 a6 a7 M))) (r35 : Int32 → Int32 → Int32 → Int32 → Int32 → Int32 → Int32 → cd_M → Option (Int32 × cd_M)) (h35 : ∀ (a2 : Int32) (a3 : Int32) (a4 : Int32) (a5 : Int32) (a6 : Int32) (a7 : Int32) (a8 : Int32) (M : cd_M), cd_R 53 35 [some (.ref 7), none, some (.int (a2)), some (.int (a3)), some (.int (a4)), some (.int (a5)), some (.int (a6)), some (.int (a7)), some (.int (a8)), none, none, none] [] M (w_PM (r35 a2 a3 a4 a5 a6 a7 a8 M))) (a2 : Int32) (a3 : Int32) (a4 : Int32) (a5 : Int32) (a7 : Int32) (a8 : Int32) (s0 : Int32) (s1 : Int32) (M : cd_M) : cd_R 53 113 [some (.ref 7), none, some (.int (a2)), some (.int (a3)), some (.int (a4)), some (.int (a5)), none, some (.int (a7)), some (.int (a8)), none, none, none] [.int (s0), .int (s1)] M (w_PM (f4_disturb_7_L113 r23 r35 a2 a3 a4 a5 a7 a8 s0 s1 M)) := by
  unfold f4_disturb_7_L113
  refine r_go (.iadd) 1 rfl rfl rfl 114 [.int (s1 + s0)] rfl ?_
  refine q_stB w_PM (.istore 6) 2 0 6 rfl rfl (fun _ => rfl) 116 rfl (fun x8 => [some (.ref 7), none, some (.int (a2)), some (.int (a3)), some (.int (a4)), some (.int (a5)), some (.int (x8)), some (.int (a7)), some (.int (a8)), none, none, none]) (fun _ => rfl) (fun x8 => ?_)
  refine q_inc w_PM 8 (1) (a8) rfl rfl rfl 119 rfl (1) cd_kj1 (fun x9 => [some (.ref 7), none, some (.int (a2)), some (.int (a3)), some (.int (a4)), some (.int (a5)), some (.int (x8)), some (.int (a7)), some (.int (x9)), none, none, none]) (fun _ => rfl) (fun x9 => ?_)
  refine r_go (.goto (-84)) 3 rfl rfl rfl 35 [] rfl ?_
  exact r_w (h35 a2 a3 a4 a5 x8 a7 x9 M) (cd_le_s (cd_le_n (cd_le_s (cd_le_s (cd_le_s (cd_le_s (cd_le_s (cd_le_s (cd_le_s (cd_le_n (cd_le_n (cd_le_n cd_le_0))))))))))))
def f4_disturb_7_L35 (r23 : Int32 → Int32 → Int32 → Int32 → Int32 → Int32 → cd_M → Option (Int32 × cd_M)) : Nat → Int32 → Int32 → Int32 → Int32 → Int32 → Int32 → Int32 → cd_M → Option (Int32 × cd_M)
  | 0, _, _, _, _, _, _, _, _ => none
  | n + 1, a2, a3, a4, a5, a6, a7, a8, M => if a3 ≤ a8 then (cd_lt (a7 + (1)) fun x2 => r23 a2 a3 a4 a5 a6 x2 M) else (cd_lt ((1664525 * a5) + 1013904223) fun x3 => (f4_sample_7 a7 a8 M).bind fun v4 => if a4 = 0 then none else (cd_lt ((v4 + (((x3.toUInt32 >>> ((8 : Int32).toUInt32 &&& Int32.toUInt32 31)).toInt32) - ((x3.toUInt32 >>> ((8 : Int32).toUInt32 &&& Int32.toUInt32 31)).toInt32) / a4 * a4)) - a2) fun x5 => cd_lt (if 0 < (if x5 < 99 then x5 else 99) then (if x5 < 99 then x5 else 99) else 0) fun x6 => (f4_putSample_7 a7 a8 x6 M).bind fun M7 => if x6 = v4 then (f4_disturb_7_L113 r23 (f4_disturb_7_L35 r23 n) a2 a3 a4 x3 a7 a8 0 a6 M7) else (f4_disturb_7_L113 r23 (f4_disturb_7_L35 r23 n) a2 a3 a4 x3 a7 a8 1 a6 M7)))
set_option maxRecDepth 8000 in
theorem k4_disturb_7_L35 (r23 : Int32 → Int32 → Int32 → Int32 → Int32 → Int32 → cd_M → Option (Int32 × cd_M)) (h23 : ∀ (a2 : Int32) (a3 : Int32) (a4 : Int32) (a5 : Int32) (a6 : Int32) (a7 : Int32) (M : cd_M), cd_R 53 23 [some (.ref 7), none, some (.int (a2)), some (.int (a3)), some (.int (a4)), some (.int (a5)), some (.int (a6)), some (.int (a7)), none, none, none, none] [] M (w_PM (r23 a2 a3 a4 a5 a6 a7 M))) : ∀ (n : Nat) (a2 : Int32) (a3 : Int32) (a4 : Int32) (a5 : Int32) (a6 : Int32) (a7 : Int32) (a8 : Int32) (M : cd_M), cd_R 53 35 [some (.ref 7), none, some (.int (a2)), some (.int (a3)), some (.int (a4)), some (.int (a5)), some (.int (a6)), some (.int (a7)), some (.int (a8)), none, none, none] [] M (w_PM (f4_disturb_7_L35 r23 n a2 a3 a4 a5 a6 a7 a8 M)) := by
  intro n
  induction n with
  | zero =>
    intro a2 a3 a4 a5 a6 a7 a8 M
    exact q_none w_PM rfl
  | succ n ih =>
    intro a2 a3 a4 a5 a6 a7 a8 M
    rw [f4_disturb_7_L35]
    refine r_ld (.iload 8) 2 0 8 (.int (a8)) rfl rfl rfl rfl 37 rfl ?_
    refine r_ld (.iload_n 3) 1 0 3 (.int (a3)) rfl rfl rfl rfl 38 rfl ?_
    refine q_br w_PM (.if_icmp .ge 84) 3 rfl rfl rfl (a3 ≤ a8) 122 41 [] rfl (fun _ => ?_) (fun _ => ?_)
    · refine q_inc w_PM 7 (1) (a7) rfl rfl rfl 125 rfl (1) cd_kj1 (fun x2 => [some (.ref 7), none, some (.int (a2)), some (.int (a3)), some (.int (a4)), some (.int (a5)), some (.int (a6)), some (.int (x2)), some (.int (a8)), none, none, none]) (fun _ => rfl) (fun x2 => ?_)
      refine r_go (.goto (-102)) 3 rfl rfl rfl 23 [] rfl ?_
      exact r_w (h23 a2 a3 a4 a5 a6 x2 M) (cd_le_s (cd_le_n (cd_le_s (cd_le_s (cd_le_s (cd_le_s (cd_le_s (cd_le_s (cd_le_n (cd_le_n (cd_le_n (cd_le_n cd_le_0))))))))))))
    · refine r_go (.ldc 68) 2 rfl rfl rfl 43 [.int (1664525)] rfl ?_
      refine r_ld (.iload 5) 2 0 5 (.int (a5)) rfl rfl rfl rfl 45 rfl ?_
      refine r_go (.imul) 1 rfl rfl rfl 46 [.int (1664525 * a5)] rfl ?_
      refine r_go (.ldc 69) 2 rfl rfl rfl 48 [.int (1013904223), .int (1664525 * a5)] rfl ?_
      refine r_go (.iadd) 1 rfl rfl rfl 49 [.int ((1664525 * a5) + 1013904223)] rfl ?_
      refine q_stB w_PM (.istore 5) 2 0 5 rfl rfl (fun _ => rfl) 51 rfl (fun x3 => [some (.ref 7), none, some (.int (a2)), some (.int (a3)), some (.int (a4)), some (.int (x3)), some (.int (a6)), some (.int (a7)), some (.int (a8)), none, none, none]) (fun _ => rfl) (fun x3 => ?_)
      refine r_ld (.aload_n 0) 1 2 0 (.ref 7) rfl rfl rfl rfl 52 rfl ?_
      refine r_ld (.iload 7) 2 0 7 (.int (a7)) rfl rfl rfl rfl 54 rfl ?_
      refine r_ld (.iload 8) 2 0 8 (.int (a8)) rfl rfl rfl rfl 56 rfl ?_
      refine q_cI w_PM rfl (.invokevirtual 70) rfl rfl rfl 47 [.ref 7, .int (a7), .int (a8)] [] rfl (k4_sample_7 a7 a8 M) (fun v4 => ?_)
      refine r_st (.istore 9) 2 0 9 rfl rfl rfl 61 rfl [some (.ref 7), none, some (.int (a2)), some (.int (a3)), some (.int (a4)), some (.int (x3)), some (.int (a6)), some (.int (a7)), some (.int (a8)), some (.int (v4)), none, none] rfl ?_
      refine r_ld (.iload 9) 2 0 9 (.int (v4)) rfl rfl rfl rfl 63 rfl ?_
      refine r_ld (.iload 5) 2 0 5 (.int (x3)) rfl rfl rfl rfl 65 rfl ?_
      refine q_const (.bipush 8) 2 rfl rfl rfl 67 (8) _ rfl cd_kc8 ?_
      refine r_go (.iushr) 1 rfl rfl rfl 68 [.int ((x3.toUInt32 >>> ((8 : Int32).toUInt32 &&& Int32.toUInt32 31)).toInt32), .int (v4)] rfl ?_
      refine r_ld (.iload 4) 2 0 4 (.int (a4)) rfl rfl rfl rfl 70 rfl ?_
      refine q_rem w_PM rfl rfl ?_
      refine r_go (.iadd) 1 rfl rfl rfl 72 [.int (v4 + (((x3.toUInt32 >>> ((8 : Int32).toUInt32 &&& Int32.toUInt32 31)).toInt32) - ((x3.toUInt32 >>> ((8 : Int32).toUInt32 &&& Int32.toUInt32 31)).toInt32) / a4 * a4))] rfl ?_
      refine r_ld (.iload_n 2) 1 0 2 (.int (a2)) rfl rfl rfl rfl 73 rfl ?_
      refine r_go (.isub) 1 rfl rfl rfl 74 [.int ((v4 + (((x3.toUInt32 >>> ((8 : Int32).toUInt32 &&& Int32.toUInt32 31)).toInt32) - ((x3.toUInt32 >>> ((8 : Int32).toUInt32 &&& Int32.toUInt32 31)).toInt32) / a4 * a4)) - a2)] rfl ?_
      refine q_stB w_PM (.istore 10) 2 0 10 rfl rfl (fun _ => rfl) 76 rfl (fun x5 => [some (.ref 7), none, some (.int (a2)), some (.int (a3)), some (.int (a4)), some (.int (x3)), some (.int (a6)), some (.int (a7)), some (.int (a8)), some (.int (v4)), some (.int (x5)), none]) (fun _ => rfl) (fun x5 => ?_)
      refine q_const (.iconst 0) 1 rfl rfl rfl 77 (0) _ rfl cd_kj0 ?_
      refine q_const (.bipush 99) 2 rfl rfl rfl 79 (99) _ rfl cd_kc99 ?_
      refine r_ld (.iload 10) 2 0 10 (.int (x5)) rfl rfl rfl rfl 81 rfl ?_
      refine r_go (.invokestatic 73) 3 rfl rfl rfl 84 [.int (if x5 < 99 then x5 else 99), .int (0)] rfl ?_
      refine r_go (.invokestatic 78) 3 rfl rfl rfl 87 [.int (if 0 < (if x5 < 99 then x5 else 99) then (if x5 < 99 then x5 else 99) else 0)] rfl ?_
      refine q_stB w_PM (.istore 11) 2 0 11 rfl rfl (fun _ => rfl) 89 rfl (fun x6 => [some (.ref 7), none, some (.int (a2)), some (.int (a3)), some (.int (a4)), some (.int (x3)), some (.int (a6)), some (.int (a7)), some (.int (a8)), some (.int (v4)), some (.int (x5)), some (.int (x6))]) (fun _ => rfl) (fun x6 => ?_)
      refine r_ld (.aload_n 0) 1 2 0 (.ref 7) rfl rfl rfl rfl 90 rfl ?_
      refine r_ld (.iload 7) 2 0 7 (.int (a7)) rfl rfl rfl rfl 92 rfl ?_
      refine r_ld (.iload 8) 2 0 8 (.int (a8)) rfl rfl rfl rfl 94 rfl ?_
      refine r_ld (.iload 11) 2 0 11 (.int (x6)) rfl rfl rfl rfl 96 rfl ?_
      refine q_cV w_PM rfl (.invokevirtual 81) rfl rfl rfl 48 [.ref 7, .int (a7), .int (a8), .int (x6)] [] rfl (k4_putSample_7 a7 a8 x6 M) (fun M7 => ?_)
      refine r_ld (.iload 6) 2 0 6 (.int (a6)) rfl rfl rfl rfl 101 rfl ?_
      refine r_ld (.iload 11) 2 0 11 (.int (x6)) rfl rfl rfl rfl 103 rfl ?_
      refine r_ld (.iload 9) 2 0 9 (.int (v4)) rfl rfl rfl rfl 105 rfl ?_
      refine q_br w_PM (.if_icmp .eq 7) 3 rfl rfl rfl (x6 = v4) 112 108 [.int (a6)] rfl (fun _ => ?_) (fun _ => ?_)
      · refine q_const (.iconst 0) 1 rfl rfl rfl 113 (0) _ rfl cd_kj0 ?_
        exact r_w (k4_disturb_7_L113 r23 h23 (f4_disturb_7_L35 r23 n) ih a2 a3 a4 x3 a7 a8 0 a6 M7) (cd_le_s (cd_le_n (cd_le_s (cd_le_s (cd_le_s (cd_le_s (cd_le_n (cd_le_s (cd_le_s (cd_le_n (cd_le_n (cd_le_n cd_le_0))))))))))))
      · refine q_const (.iconst 1) 1 rfl rfl rfl 109 (1) _ rfl cd_kj1 ?_
        refine r_go (.goto 4) 3 rfl rfl rfl 113 [.int (1), .int (a6)] rfl ?_
        exact r_w (k4_disturb_7_L113 r23 h23 (f4_disturb_7_L35 r23 n) ih a2 a3 a4 x3 a7 a8 1 a6 M7) (cd_le_s (cd_le_n (cd_le_s (cd_le_s (cd_le_s (cd_le_s (cd_le_n (cd_le_s (cd_le_s (cd_le_n (cd_le_n (cd_le_n cd_le_0))))))))))))
def f4_disturb_7_L23 : Nat → Int32 → Int32 → Int32 → Int32 → Int32 → Int32 → cd_M → Option (Int32 × cd_M)
  | 0, _, _, _, _, _, _, _ => none
  | n + 1, a2, a3, a4, a5, a6, a7, M => if M.1 7 1 ≤ a7 then (some (a6, M)) else (f4_disturb_7_L35 (f4_disturb_7_L23 n) cd_fu a2 a3 a4 a5 a6 a7 0 M)
set_option maxRecDepth 8000 in
theorem k4_disturb_7_L23 : ∀ (n : Nat) (a2 : Int32) (a3 : Int32) (a4 : Int32) (a5 : Int32) (a6 : Int32) (a7 : Int32) (M : cd_M), cd_R 53 23 [some (.ref 7), none, some (.int (a2)), some (.int (a3)), some (.int (a4)), some (.int (a5)), some (.int (a6)), some (.int (a7)), none, none, none, none] [] M (w_PM (f4_disturb_7_L23 n a2 a3 a4 a5 a6 a7 M)) := by
  intro n
  induction n with
  | zero =>
    intro a2 a3 a4 a5 a6 a7 M
    exact q_none w_PM rfl
  | succ n ih =>
    intro a2 a3 a4 a5 a6 a7 M
    rw [f4_disturb_7_L23]
    refine r_ld (.iload 7) 2 0 7 (.int (a7)) rfl rfl rfl rfl 25 rfl ?_
    refine r_ld (.aload_n 0) 1 2 0 (.ref 7) rfl rfl rfl rfl 26 rfl ?_
    refine r_go (.getfield 15) 3 rfl rfl rfl 29 [.int (M.1 7 1), .int (a7)] rfl ?_
    refine q_br w_PM (.if_icmp .ge 99) 3 rfl rfl rfl (M.1 7 1 ≤ a7) 128 32 [] rfl (fun _ => ?_) (fun _ => ?_)
    · refine r_ld (.iload 6) 2 0 6 (.int (a6)) rfl rfl rfl rfl 130 rfl ?_
      exact r_ret .ireturn 1 rfl rfl rfl _ rfl
    · refine q_const (.iconst 0) 1 rfl rfl rfl 33 (0) _ rfl cd_kj0 ?_
      refine r_st (.istore 8) 2 0 8 rfl rfl rfl 35 rfl [some (.ref 7), none, some (.int (a2)), some (.int (a3)), some (.int (a4)), some (.int (a5)), some (.int (a6)), some (.int (a7)), some (.int (0)), none, none, none] rfl ?_
      exact r_w (k4_disturb_7_L35 (f4_disturb_7_L23 n) ih cd_fu a2 a3 a4 a5 a6 a7 0 M) (cd_le_s (cd_le_n (cd_le_s (cd_le_s (cd_le_s (cd_le_s (cd_le_s (cd_le_s (cd_le_s (cd_le_n (cd_le_n (cd_le_n cd_le_0))))))))))))
def f4_disturb_7 (a1 : Int32) (a2 : Int32) (a3 : Int32) (M : cd_M) : Option (Int32 × cd_M) := cd_lt ((2 * a2) + 1) fun x1 => if 0 < x1 then (f4_disturb_7_L23 cd_fu a2 a3 x1 a1 0 0 M) else (some (0, M))
set_option maxRecDepth 8000 in
theorem k4_disturb_7 (a1 : Int32) (a2 : Int32) (a3 : Int32) (M : cd_M) : cd_R 53 0 [some (.ref 7), some (.int (a1)), some (.int (a2)), some (.int (a3)), none, none, none, none, none, none, none, none] [] M (w_PM (f4_disturb_7 a1 a2 a3 M)) := by
  unfold f4_disturb_7
  refine q_const (.iconst 2) 1 rfl rfl rfl 1 (2) _ rfl cd_kj2 ?_
  refine r_ld (.iload_n 2) 1 0 2 (.int (a2)) rfl rfl rfl rfl 2 rfl ?_
  refine r_go (.imul) 1 rfl rfl rfl 3 [.int (2 * a2)] rfl ?_
  refine q_const (.iconst 1) 1 rfl rfl rfl 4 (1) _ rfl cd_kj1 ?_
  refine r_go (.iadd) 1 rfl rfl rfl 5 [.int ((2 * a2) + 1)] rfl ?_
  refine q_stB w_PM (.istore 4) 2 0 4 rfl rfl (fun _ => rfl) 7 rfl (fun x1 => [some (.ref 7), some (.int (a1)), some (.int (a2)), some (.int (a3)), some (.int (x1)), none, none, none, none, none, none, none]) (fun _ => rfl) (fun x1 => ?_)
  refine r_ld (.iload 4) 2 0 4 (.int (x1)) rfl rfl rfl rfl 9 rfl ?_
  refine q_br w_PM (.ifCond .gt 5) 3 rfl rfl rfl (0 < x1) 14 12 [] rfl (fun _ => ?_) (fun _ => ?_)
  · refine r_ld (.iload_n 1) 1 0 1 (.int (a1)) rfl rfl rfl rfl 15 rfl ?_
    refine r_st (.istore 5) 2 0 5 rfl rfl rfl 17 rfl [some (.ref 7), some (.int (a1)), some (.int (a2)), some (.int (a3)), some (.int (x1)), some (.int (a1)), none, none, none, none, none, none] rfl ?_
    refine q_const (.iconst 0) 1 rfl rfl rfl 18 (0) _ rfl cd_kj0 ?_
    refine r_st (.istore 6) 2 0 6 rfl rfl rfl 20 rfl [some (.ref 7), some (.int (a1)), some (.int (a2)), some (.int (a3)), some (.int (x1)), some (.int (a1)), some (.int (0)), none, none, none, none, none] rfl ?_
    refine q_const (.iconst 0) 1 rfl rfl rfl 21 (0) _ rfl cd_kj0 ?_
    refine r_st (.istore 7) 2 0 7 rfl rfl rfl 23 rfl [some (.ref 7), some (.int (a1)), some (.int (a2)), some (.int (a3)), some (.int (x1)), some (.int (a1)), some (.int (0)), some (.int (0)), none, none, none, none] rfl ?_
    exact r_w (k4_disturb_7_L23 cd_fu a2 a3 x1 a1 0 0 M) (cd_le_s (cd_le_n (cd_le_s (cd_le_s (cd_le_s (cd_le_s (cd_le_s (cd_le_s (cd_le_n (cd_le_n (cd_le_n (cd_le_n cd_le_0))))))))))))
  · refine q_const (.iconst 0) 1 rfl rfl rfl 13 (0) _ rfl cd_kj0 ?_
    exact r_ret .ireturn 1 rfl rfl rfl _ rfl
def f10_noise_0 (a1 : Int32) (a2 : Int32) (M : cd_M) : Option (Int32 × cd_M) := if f4_size_7 M = 0 then (some ((-1), M)) else (if a2 < 1 then (some ((-1), M)) else (if a2 ≤ 9 then ((f10_beginAct_0 M).bind fun M1 => (f4_disturb_7 a1 a2 (f1_width_5 M1) M1).bind (cd_u2 fun v3 M2 => some (v3, M2))) else (some ((-1), M))))
set_option maxRecDepth 8000 in
theorem k10_noise_0 (a1 : Int32) (a2 : Int32) (M : cd_M) : cd_R 135 0 [some (.ref 0), some (.int (a1)), some (.int (a2))] [] M (w_PM (f10_noise_0 a1 a2 M)) := by
  unfold f10_noise_0
  refine r_ld (.aload_n 0) 1 2 0 (.ref 0) rfl rfl rfl rfl 1 rfl ?_
  refine r_go (.getfield 35) 3 rfl rfl rfl 4 [.ref 7] rfl ?_
  refine q_cTI (.invokevirtual 168) rfl rfl rfl 41 [.ref 7] [] rfl (k4_size_7 M) ?_
  refine q_br w_PM (.ifCond .eq 14) 3 rfl rfl rfl (f4_size_7 M = 0) 21 10 [] rfl (fun _ => ?_) (fun _ => ?_)
  · refine q_const (.iconst (-1)) 1 rfl rfl rfl 22 (-1) _ rfl cd_kjm1 ?_
    exact r_ret .ireturn 1 rfl rfl rfl _ rfl
  · refine r_ld (.iload_n 2) 1 0 2 (.int (a2)) rfl rfl rfl rfl 11 rfl ?_
    refine q_const (.iconst 1) 1 rfl rfl rfl 12 (1) _ rfl cd_kj1 ?_
    refine q_br w_PM (.if_icmp .lt 9) 3 rfl rfl rfl (a2 < 1) 21 15 [] rfl (fun _ => ?_) (fun _ => ?_)
    · refine q_const (.iconst (-1)) 1 rfl rfl rfl 22 (-1) _ rfl cd_kjm1 ?_
      exact r_ret .ireturn 1 rfl rfl rfl _ rfl
    · refine r_ld (.iload_n 2) 1 0 2 (.int (a2)) rfl rfl rfl rfl 16 rfl ?_
      refine q_const (.bipush 9) 2 rfl rfl rfl 18 (9) _ rfl cd_kc9 ?_
      refine q_br w_PM (.if_icmp .le 5) 3 rfl rfl rfl (a2 ≤ 9) 23 21 [] rfl (fun _ => ?_) (fun _ => ?_)
      · refine r_ld (.aload_n 0) 1 2 0 (.ref 0) rfl rfl rfl rfl 24 rfl ?_
        refine q_cV w_PM rfl (.invokevirtual 161) rfl rfl rfl 151 [.ref 0] [] rfl (k10_beginAct_0 M) (fun M1 => ?_)
        refine r_ld (.aload_n 0) 1 2 0 (.ref 0) rfl rfl rfl rfl 28 rfl ?_
        refine r_go (.getfield 35) 3 rfl rfl rfl 31 [.ref 7] rfl ?_
        refine r_ld (.iload_n 1) 1 0 1 (.int (a1)) rfl rfl rfl rfl 32 rfl ?_
        refine r_ld (.iload_n 2) 1 0 2 (.int (a2)) rfl rfl rfl rfl 33 rfl ?_
        refine r_ld (.aload_n 0) 1 2 0 (.ref 0) rfl rfl rfl rfl 34 rfl ?_
        refine r_go (.getfield 21) 3 rfl rfl rfl 37 [.ref 5, .int (a2), .int (a1), .ref 7] rfl ?_
        refine q_cTI (.invokevirtual 179) rfl rfl rfl 12 [.ref 5] [.int (a2), .int (a1), .ref 7] rfl (k1_width_5 M1) ?_
        refine q_cM w_PM rfl (.invokevirtual 182) rfl rfl rfl 53 [.ref 7, .int (a1), .int (a2), .int (f1_width_5 M1)] [] rfl (k4_disturb_7 a1 a2 (f1_width_5 M1) M1) (fun v3 M2  => ?_)
        exact r_ret .ireturn 1 rfl rfl rfl _ rfl
      · refine q_const (.iconst (-1)) 1 rfl rfl rfl 22 (-1) _ rfl cd_kjm1 ?_
        exact r_ret .ireturn 1 rfl rfl rfl _ rfl
def f10_set_0 (a1 : Int32) (a2 : Int32) (a3 : Int32) (M : cd_M) : Option (Int32 × cd_M) := if f4_has_7 a1 M = 0 then (some ((-1), M)) else (if f10_isSampleNumber_0 a2 M = 0 then (some ((-1), M)) else (if a3 < 0 then (some ((-1), M)) else (if a3 ≤ 99 then ((f10_beginAct_0 M).bind fun M3 => (f4_sample_7 a1 a2 M3).bind fun v4 => (f4_putSample_7 a1 a2 a3 M3).bind fun M5 => some (v4, M5)) else (some ((-1), M)))))
set_option maxRecDepth 8000 in
theorem k10_set_0 (a1 : Int32) (a2 : Int32) (a3 : Int32) (M : cd_M) : cd_R 136 0 [some (.ref 0), some (.int (a1)), some (.int (a2)), some (.int (a3)), none] [] M (w_PM (f10_set_0 a1 a2 a3 M)) := by
  unfold f10_set_0
  refine r_ld (.aload_n 0) 1 2 0 (.ref 0) rfl rfl rfl rfl 1 rfl ?_
  refine r_go (.getfield 35) 3 rfl rfl rfl 4 [.ref 7] rfl ?_
  refine r_ld (.iload_n 1) 1 0 1 (.int (a1)) rfl rfl rfl rfl 5 rfl ?_
  refine q_cTIz (.invokevirtual 186) rfl rfl rfl 43 rfl [.ref 7, .int (a1)] [] rfl (k4_has_7 a1 M) (fun z1 => ?_)
  refine q_br w_PM (.ifCond .eq 21) 3 rfl rfl rfl (f4_has_7 a1 M = 0) 29 11 [] rfl (fun _ => ?_) (fun _ => ?_)
  · refine q_const (.iconst (-1)) 1 rfl rfl rfl 30 (-1) _ rfl cd_kjm1 ?_
    exact r_ret .ireturn 1 rfl rfl rfl _ rfl
  · refine r_ld (.aload_n 0) 1 2 0 (.ref 0) rfl rfl rfl rfl 12 rfl ?_
    refine r_ld (.iload_n 2) 1 0 2 (.int (a2)) rfl rfl rfl rfl 13 rfl ?_
    refine q_cTIz (.invokevirtual 189) rfl rfl rfl 156 rfl [.ref 0, .int (a2)] [] rfl (k10_isSampleNumber_0 a2 M) (fun z2 => ?_)
    refine q_br w_PM (.ifCond .eq 13) 3 rfl rfl rfl (f10_isSampleNumber_0 a2 M = 0) 29 19 [] rfl (fun _ => ?_) (fun _ => ?_)
    · refine q_const (.iconst (-1)) 1 rfl rfl rfl 30 (-1) _ rfl cd_kjm1 ?_
      exact r_ret .ireturn 1 rfl rfl rfl _ rfl
    · refine r_ld (.iload_n 3) 1 0 3 (.int (a3)) rfl rfl rfl rfl 20 rfl ?_
      refine q_br w_PM (.ifCond .lt 9) 3 rfl rfl rfl (a3 < 0) 29 23 [] rfl (fun _ => ?_) (fun _ => ?_)
      · refine q_const (.iconst (-1)) 1 rfl rfl rfl 30 (-1) _ rfl cd_kjm1 ?_
        exact r_ret .ireturn 1 rfl rfl rfl _ rfl
      · refine r_ld (.iload_n 3) 1 0 3 (.int (a3)) rfl rfl rfl rfl 24 rfl ?_
        refine q_const (.bipush 99) 2 rfl rfl rfl 26 (99) _ rfl cd_kc99 ?_
        refine q_br w_PM (.if_icmp .le 5) 3 rfl rfl rfl (a3 ≤ 99) 31 29 [] rfl (fun _ => ?_) (fun _ => ?_)
        · refine r_ld (.aload_n 0) 1 2 0 (.ref 0) rfl rfl rfl rfl 32 rfl ?_
          refine q_cV w_PM rfl (.invokevirtual 161) rfl rfl rfl 151 [.ref 0] [] rfl (k10_beginAct_0 M) (fun M3 => ?_)
          refine r_ld (.aload_n 0) 1 2 0 (.ref 0) rfl rfl rfl rfl 36 rfl ?_
          refine r_go (.getfield 35) 3 rfl rfl rfl 39 [.ref 7] rfl ?_
          refine r_ld (.iload_n 1) 1 0 1 (.int (a1)) rfl rfl rfl rfl 40 rfl ?_
          refine r_ld (.iload_n 2) 1 0 2 (.int (a2)) rfl rfl rfl rfl 41 rfl ?_
          refine q_cI w_PM rfl (.invokevirtual 192) rfl rfl rfl 47 [.ref 7, .int (a1), .int (a2)] [] rfl (k4_sample_7 a1 a2 M3) (fun v4 => ?_)
          refine r_st (.istore 4) 2 0 4 rfl rfl rfl 46 rfl [some (.ref 0), some (.int (a1)), some (.int (a2)), some (.int (a3)), some (.int (v4))] rfl ?_
          refine r_ld (.aload_n 0) 1 2 0 (.ref 0) rfl rfl rfl rfl 47 rfl ?_
          refine r_go (.getfield 35) 3 rfl rfl rfl 50 [.ref 7] rfl ?_
          refine r_ld (.iload_n 1) 1 0 1 (.int (a1)) rfl rfl rfl rfl 51 rfl ?_
          refine r_ld (.iload_n 2) 1 0 2 (.int (a2)) rfl rfl rfl rfl 52 rfl ?_
          refine r_ld (.iload_n 3) 1 0 3 (.int (a3)) rfl rfl rfl rfl 53 rfl ?_
          refine q_cV w_PM rfl (.invokevirtual 195) rfl rfl rfl 48 [.ref 7, .int (a1), .int (a2), .int (a3)] [] rfl (k4_putSample_7 a1 a2 a3 M3) (fun M5 => ?_)
          refine r_ld (.iload 4) 2 0 4 (.int (v4)) rfl rfl rfl rfl 58 rfl ?_
          exact r_ret .ireturn 1 rfl rfl rfl _ rfl
        · refine q_const (.iconst (-1)) 1 rfl rfl rfl 30 (-1) _ rfl cd_kjm1 ?_
          exact r_ret .ireturn 1 rfl rfl rfl _ rfl
def f3_size_8 (M : cd_M) : Int32 := (M.1 8 3)
set_option maxRecDepth 8000 in
theorem k3_size_8 (M : cd_M) : cd_R 37 0 [some (.ref 8)] [] M ((w_TI M) (f3_size_8 M)) := by
  unfold f3_size_8
  refine r_ld (.aload_n 0) 1 2 0 (.ref 8) rfl rfl rfl rfl 1 rfl ?_
  refine r_go (.getfield 23) 3 rfl rfl rfl 4 [.int (M.1 8 3)] rfl ?_
  exact r_ret .ireturn 1 rfl rfl rfl _ rfl
def f3_giveBack_8_7_L27 (s0 : Int32) (M : cd_M) : Option cd_M := cd_lt (cd_wI M 8 2 s0) fun M1 => cd_lt (cd_wI M1 8 3 ((M1.1 8 3) - 1)) fun M2 => if cd_in (M2.1 8 2) 12 = true then (cd_lt (cd_wI M2 7 1 (M2.1 30 (M2.1 8 2 : Int32).toNatClampNeg)) fun M3 => if cd_cpOK ((M3.1 8 2) * 90) 0 (M3.1 7 1) 1080 90 then (cd_lt (cd_cL M3 29 28 ((M3.1 8 2) * 90 : Int32).toNatClampNeg (0 : Int32).toNatClampNeg (M3.1 7 1 : Int32).toNatClampNeg) fun M4 => some M4) else none) else none
set_option maxRecDepth 8000 in
theorem k3_giveBack_8_7_L27 (s0 : Int32) (M : cd_M) : cd_R 40 27 [some (.ref 8), some (.ref 7)] [.int (s0), .ref 8] M (w_PV (f3_giveBack_8_7_L27 s0 M)) := by
  unfold f3_giveBack_8_7_L27
  refine q_wr w_PV (.putfield 19) 3 rfl rfl rfl 30 [] (cd_wI M 8 2 s0) rfl (fun M1 => ?_)
  refine r_ld (.aload_n 0) 1 2 0 (.ref 8) rfl rfl rfl rfl 31 rfl ?_
  refine r_go (.dup) 1 rfl rfl rfl 32 [.ref 8, .ref 8] rfl ?_
  refine r_go (.getfield 23) 3 rfl rfl rfl 35 [.int (M1.1 8 3), .ref 8] rfl ?_
  refine q_const (.iconst 1) 1 rfl rfl rfl 36 (1) _ rfl cd_kj1 ?_
  refine r_go (.isub) 1 rfl rfl rfl 37 [.int ((M1.1 8 3) - 1), .ref 8] rfl ?_
  refine q_wr w_PV (.putfield 23) 3 rfl rfl rfl 40 [] (cd_wI M1 8 3 ((M1.1 8 3) - 1)) rfl (fun M2 => ?_)
  refine r_ld (.aload_n 1) 1 2 1 (.ref 7) rfl rfl rfl rfl 41 rfl ?_
  refine r_ld (.aload_n 0) 1 2 0 (.ref 8) rfl rfl rfl rfl 42 rfl ?_
  refine r_go (.getfield 15) 3 rfl rfl rfl 45 [.ref 30, .ref 7] rfl ?_
  refine r_ld (.aload_n 0) 1 2 0 (.ref 8) rfl rfl rfl rfl 46 rfl ?_
  refine r_go (.getfield 19) 3 rfl rfl rfl 49 [.int (M2.1 8 2), .ref 30, .ref 7] rfl ?_
  refine q_iald w_PV rfl rfl 30 12 rfl ?_
  refine q_wr w_PV (.putfield 31) 3 rfl rfl rfl 53 [] (cd_wI M2 7 1 (M2.1 30 (M2.1 8 2 : Int32).toNatClampNeg)) rfl (fun M3 => ?_)
  refine r_ld (.aload_n 0) 1 2 0 (.ref 8) rfl rfl rfl rfl 54 rfl ?_
  refine r_go (.getfield 9) 3 rfl rfl rfl 57 [.ref 29] rfl ?_
  refine r_ld (.aload_n 0) 1 2 0 (.ref 8) rfl rfl rfl rfl 58 rfl ?_
  refine r_go (.getfield 19) 3 rfl rfl rfl 61 [.int (M3.1 8 2), .ref 29] rfl ?_
  refine q_const (.bipush 90) 2 rfl rfl rfl 63 (90) _ rfl cd_kc90 ?_
  refine r_go (.imul) 1 rfl rfl rfl 64 [.int ((M3.1 8 2) * 90), .ref 29] rfl ?_
  refine r_ld (.aload_n 1) 1 2 1 (.ref 7) rfl rfl rfl rfl 65 rfl ?_
  refine r_go (.getfield 26) 3 rfl rfl rfl 68 [.ref 28, .int ((M3.1 8 2) * 90), .ref 29] rfl ?_
  refine q_const (.iconst 0) 1 rfl rfl rfl 69 (0) _ rfl cd_kj0 ?_
  refine r_ld (.aload_n 1) 1 2 1 (.ref 7) rfl rfl rfl rfl 70 rfl ?_
  refine r_go (.getfield 31) 3 rfl rfl rfl 73 [.int (M3.1 7 1), .int (0), .ref 28, .int ((M3.1 8 2) * 90), .ref 29] rfl ?_
  refine q_cpy w_PV rfl (.invokestatic 32) rfl rfl rfl 29 1080 28 90 21 rfl rfl (cd_cL M3 29 28 ((M3.1 8 2) * 90 : Int32).toNatClampNeg (0 : Int32).toNatClampNeg (M3.1 7 1 : Int32).toNatClampNeg) (fun h => cd_cpL _ rfl rfl rfl rfl h) (fun M4 => ?_)
  exact r_ret .return_ 1 rfl rfl rfl _ rfl
def f3_giveBack_8_7 (M : cd_M) : Option cd_M := if M.1 8 3 = 0 then (some M) else (if M.1 8 2 ≤ 0 then (f3_giveBack_8_7_L27 11 M) else (f3_giveBack_8_7_L27 ((M.1 8 2) - 1) M))
set_option maxRecDepth 8000 in
theorem k3_giveBack_8_7 (M : cd_M) : cd_R 40 0 [some (.ref 8), some (.ref 7)] [] M (w_PV (f3_giveBack_8_7 M)) := by
  unfold f3_giveBack_8_7
  refine r_ld (.aload_n 0) 1 2 0 (.ref 8) rfl rfl rfl rfl 1 rfl ?_
  refine r_go (.getfield 23) 3 rfl rfl rfl 4 [.int (M.1 8 3)] rfl ?_
  refine q_br w_PV (.ifCond .ne 4) 3 rfl rfl rfl (M.1 8 3 = 0) 7 8 [] rfl (fun _ => ?_) (fun _ => ?_)
  · exact r_ret .return_ 1 rfl rfl rfl _ rfl
  · refine r_ld (.aload_n 0) 1 2 0 (.ref 8) rfl rfl rfl rfl 9 rfl ?_
    refine r_ld (.aload_n 0) 1 2 0 (.ref 8) rfl rfl rfl rfl 10 rfl ?_
    refine r_go (.getfield 19) 3 rfl rfl rfl 13 [.int (M.1 8 2), .ref 8] rfl ?_
    refine q_br w_PV (.ifCond .le 12) 3 rfl rfl rfl (M.1 8 2 ≤ 0) 25 16 [.ref 8] rfl (fun _ => ?_) (fun _ => ?_)
    · refine q_const (.bipush 11) 2 rfl rfl rfl 27 (11) _ rfl cd_kc11 ?_
      exact r_w (k3_giveBack_8_7_L27 11 M) (cd_le_s (cd_le_s cd_le_0))
    · refine r_ld (.aload_n 0) 1 2 0 (.ref 8) rfl rfl rfl rfl 17 rfl ?_
      refine r_go (.getfield 19) 3 rfl rfl rfl 20 [.int (M.1 8 2), .ref 8] rfl ?_
      refine q_const (.iconst 1) 1 rfl rfl rfl 21 (1) _ rfl cd_kj1 ?_
      refine r_go (.isub) 1 rfl rfl rfl 22 [.int ((M.1 8 2) - 1), .ref 8] rfl ?_
      refine r_go (.goto 5) 3 rfl rfl rfl 27 [.int ((M.1 8 2) - 1), .ref 8] rfl ?_
      exact r_w (k3_giveBack_8_7_L27 ((M.1 8 2) - 1) M) (cd_le_s (cd_le_s cd_le_0))
def f10_undo_0 (M : cd_M) : Option (Int32 × cd_M) := if f3_size_8 M = 0 then (some ((-1), M)) else ((f3_giveBack_8_7 M).bind fun M1 => (f10_forgetPaths_0 M1).bind fun M2 => some (f3_size_8 M2, M2))
set_option maxRecDepth 8000 in
theorem k10_undo_0 (M : cd_M) : cd_R 137 0 [some (.ref 0)] [] M (w_PM (f10_undo_0 M)) := by
  unfold f10_undo_0
  refine r_ld (.aload_n 0) 1 2 0 (.ref 0) rfl rfl rfl rfl 1 rfl ?_
  refine r_go (.getfield 42) 3 rfl rfl rfl 4 [.ref 8] rfl ?_
  refine q_cTI (.invokevirtual 199) rfl rfl rfl 37 [.ref 8] [] rfl (k3_size_8 M) ?_
  refine q_br w_PM (.ifCond .ne 5) 3 rfl rfl rfl (f3_size_8 M = 0) 10 12 [] rfl (fun _ => ?_) (fun _ => ?_)
  · refine q_const (.iconst (-1)) 1 rfl rfl rfl 11 (-1) _ rfl cd_kjm1 ?_
    exact r_ret .ireturn 1 rfl rfl rfl _ rfl
  · refine r_ld (.aload_n 0) 1 2 0 (.ref 0) rfl rfl rfl rfl 13 rfl ?_
    refine r_go (.getfield 42) 3 rfl rfl rfl 16 [.ref 8] rfl ?_
    refine r_ld (.aload_n 0) 1 2 0 (.ref 0) rfl rfl rfl rfl 17 rfl ?_
    refine r_go (.getfield 35) 3 rfl rfl rfl 20 [.ref 7, .ref 8] rfl ?_
    refine q_cV w_PM rfl (.invokevirtual 200) rfl rfl rfl 40 [.ref 8, .ref 7] [] rfl (k3_giveBack_8_7 M) (fun M1 => ?_)
    refine r_ld (.aload_n 0) 1 2 0 (.ref 0) rfl rfl rfl rfl 24 rfl ?_
    refine q_cV w_PM rfl (.invokevirtual 122) rfl rfl rfl 152 [.ref 0] [] rfl (k10_forgetPaths_0 M1) (fun M2 => ?_)
    refine r_ld (.aload_n 0) 1 2 0 (.ref 0) rfl rfl rfl rfl 28 rfl ?_
    refine r_go (.getfield 42) 3 rfl rfl rfl 31 [.ref 8] rfl ?_
    refine q_cTI (.invokevirtual 199) rfl rfl rfl 37 [.ref 8] [] rfl (k3_size_8 M2) ?_
    exact r_ret .ireturn 1 rfl rfl rfl _ rfl
def f5_distance_6_L65 (r12 : Int64 → Int64 → Int32 → Int32 → Int32 → Int32 → cd_M → Option (Int32)) (a1 : Int64) (a3 : Int64) (a5 : Int32) (a6 : Int32) (a8 : Int32) (s0 : Int32) (s1 : Int32) (M : cd_M) : Option (Int32) := cd_lt (s1 + s0) fun x4 => cd_lt (a8 + (1)) fun x5 => r12 a1 a3 a5 a6 x4 x5 M
set_option maxRecDepth 8000 in
theorem k5_distance_6_L65 (r12 : Int64 → Int64 → Int32 → Int32 → Int32 → Int32 → cd_M → Option (Int32)) (h12 : ∀ (a1 : Int64) (a3 : Int64) (a5 : Int32) (a6 : Int32) (a7 : Int32) (a8 : Int32) (M : cd_M), cd_R 66 12 [some (.ref 6), some (.long (a1)), none, some (.long (a3)), none, some (.int (a5)), some (.int (a6)), some (.int (a7)), some (.int (a8)), none] [] M ((w_PI M) (r12 a1 a3 a5 a6 a7 a8 M))) (a1 : Int64) (a3 : Int64) (a5 : Int32) (a6 : Int32) (a8 : Int32) (s0 : Int32) (s1 : Int32) (M : cd_M) : cd_R 66 65 [some (.ref 6), some (.long (a1)), none, some (.long (a3)), none, some (.int (a5)), some (.int (a6)), none, some (.int (a8)), none] [.int (s0), .int (s1)] M ((w_PI M) (f5_distance_6_L65 r12 a1 a3 a5 a6 a8 s0 s1 M)) := by
  unfold f5_distance_6_L65
  refine r_go (.iadd) 1 rfl rfl rfl 66 [.int (s1 + s0)] rfl ?_
  refine q_stB (w_PI M) (.istore 7) 2 0 7 rfl rfl (fun _ => rfl) 68 rfl (fun x4 => [some (.ref 6), some (.long (a1)), none, some (.long (a3)), none, some (.int (a5)), some (.int (a6)), some (.int (x4)), some (.int (a8)), none]) (fun _ => rfl) (fun x4 => ?_)
  refine q_inc (w_PI M) 8 (1) (a8) rfl rfl rfl 71 rfl (1) cd_kj1 (fun x5 => [some (.ref 6), some (.long (a1)), none, some (.long (a3)), none, some (.int (a5)), some (.int (a6)), some (.int (x4)), some (.int (x5)), none]) (fun _ => rfl) (fun x5 => ?_)
  refine r_go (.goto (-59)) 3 rfl rfl rfl 12 [] rfl ?_
  exact r_w (h12 a1 a3 a5 a6 x4 x5 M) (cd_le_s (cd_le_s (cd_le_n (cd_le_s (cd_le_n (cd_le_s (cd_le_s (cd_le_s (cd_le_s (cd_le_n cd_le_0))))))))))
def f5_distance_6_L12 : Nat → Int64 → Int64 → Int32 → Int32 → Int32 → Int32 → cd_M → Option (Int32)
  | 0, _, _, _, _, _, _, _ => none
  | n + 1, a1, a3, a5, a6, a7, a8, M => if 6 ≤ a8 then (if cd_in 4 5 = true then (if M.1 27 (4 : Int32).toNatClampNeg = 0 then (some a5) else (if cd_in 4 5 = true then (if M.1 27 (4 : Int32).toNatClampNeg = 1 then (some a6) else (some a7)) else none)) else none) else (cd_lt (if 0 ≤ ((f10_sampleOf a1 a8 M) - (f10_sampleOf a3 a8 M)) then ((f10_sampleOf a1 a8 M) - (f10_sampleOf a3 a8 M)) else 0 - ((f10_sampleOf a1 a8 M) - (f10_sampleOf a3 a8 M))) fun x1 => cd_lt (a5 + x1) fun x2 => cd_lt (if a6 < x1 then x1 else a6) fun x3 => if x1 ≤ 0 then (f5_distance_6_L65 (f5_distance_6_L12 n) a1 a3 x2 x3 a8 0 a7 M) else (f5_distance_6_L65 (f5_distance_6_L12 n) a1 a3 x2 x3 a8 1 a7 M))
set_option maxRecDepth 8000 in
theorem k5_distance_6_L12 : ∀ (n : Nat) (a1 : Int64) (a3 : Int64) (a5 : Int32) (a6 : Int32) (a7 : Int32) (a8 : Int32) (M : cd_M), cd_R 66 12 [some (.ref 6), some (.long (a1)), none, some (.long (a3)), none, some (.int (a5)), some (.int (a6)), some (.int (a7)), some (.int (a8)), none] [] M ((w_PI M) (f5_distance_6_L12 n a1 a3 a5 a6 a7 a8 M)) := by
  intro n
  induction n with
  | zero =>
    intro a1 a3 a5 a6 a7 a8 M
    exact q_none (w_PI M) rfl
  | succ n ih =>
    intro a1 a3 a5 a6 a7 a8 M
    rw [f5_distance_6_L12]
    refine r_ld (.iload 8) 2 0 8 (.int (a8)) rfl rfl rfl rfl 14 rfl ?_
    refine q_const (.bipush 6) 2 rfl rfl rfl 16 (6) _ rfl cd_kc6 ?_
    refine q_br (w_PI M) (.if_icmp .ge 58) 3 rfl rfl rfl (6 ≤ a8) 74 19 [] rfl (fun _ => ?_) (fun _ => ?_)
    · refine r_ld (.aload_n 0) 1 2 0 (.ref 6) rfl rfl rfl rfl 75 rfl ?_
      refine r_go (.getfield 18) 3 rfl rfl rfl 78 [.ref 27] rfl ?_
      refine q_const (.iconst 4) 1 rfl rfl rfl 79 (4) _ rfl cd_kj4 ?_
      refine q_iald (w_PI M) rfl rfl 27 5 rfl ?_
      refine q_br (w_PI M) (.ifCond .ne 6) 3 rfl rfl rfl (M.1 27 (4 : Int32).toNatClampNeg = 0) 83 86 [] rfl (fun _ => ?_) (fun _ => ?_)
      · refine r_ld (.iload 5) 2 0 5 (.int (a5)) rfl rfl rfl rfl 85 rfl ?_
        exact r_ret .ireturn 1 rfl rfl rfl _ rfl
      · refine r_ld (.aload_n 0) 1 2 0 (.ref 6) rfl rfl rfl rfl 87 rfl ?_
        refine r_go (.getfield 18) 3 rfl rfl rfl 90 [.ref 27] rfl ?_
        refine q_const (.iconst 4) 1 rfl rfl rfl 91 (4) _ rfl cd_kj4 ?_
        refine q_iald (w_PI M) rfl rfl 27 5 rfl ?_
        refine q_const (.iconst 1) 1 rfl rfl rfl 93 (1) _ rfl cd_kj1 ?_
        refine q_br (w_PI M) (.if_icmp .ne 8) 3 rfl rfl rfl (M.1 27 (4 : Int32).toNatClampNeg = 1) 96 101 [] rfl (fun _ => ?_) (fun _ => ?_)
        · refine r_ld (.iload 6) 2 0 6 (.int (a6)) rfl rfl rfl rfl 98 rfl ?_
          refine r_go (.goto 5) 3 rfl rfl rfl 103 [.int (a6)] rfl ?_
          exact r_ret .ireturn 1 rfl rfl rfl _ rfl
        · refine r_ld (.iload 7) 2 0 7 (.int (a7)) rfl rfl rfl rfl 103 rfl ?_
          exact r_ret .ireturn 1 rfl rfl rfl _ rfl
    · refine r_ld (.lload_n 1) 1 1 1 (.long (a1)) rfl rfl rfl rfl 20 rfl ?_
      refine r_ld (.iload 8) 2 0 8 (.int (a8)) rfl rfl rfl rfl 22 rfl ?_
      refine q_cTI (.invokestatic 53) rfl rfl rfl 158 [.long (a1), .int (a8)] [] rfl (k10_sampleOf a1 a8 M) ?_
      refine r_ld (.lload_n 3) 1 1 3 (.long (a3)) rfl rfl rfl rfl 26 rfl ?_
      refine r_ld (.iload 8) 2 0 8 (.int (a8)) rfl rfl rfl rfl 28 rfl ?_
      refine q_cTI (.invokestatic 53) rfl rfl rfl 158 [.long (a3), .int (a8)] [.int (f10_sampleOf a1 a8 M)] rfl (k10_sampleOf a3 a8 M) ?_
      refine r_go (.isub) 1 rfl rfl rfl 32 [.int ((f10_sampleOf a1 a8 M) - (f10_sampleOf a3 a8 M))] rfl ?_
      refine r_go (.invokestatic 57) 3 rfl rfl rfl 35 [.int (if 0 ≤ ((f10_sampleOf a1 a8 M) - (f10_sampleOf a3 a8 M)) then ((f10_sampleOf a1 a8 M) - (f10_sampleOf a3 a8 M)) else 0 - ((f10_sampleOf a1 a8 M) - (f10_sampleOf a3 a8 M)))] rfl ?_
      refine q_stB (w_PI M) (.istore 9) 2 0 9 rfl rfl (fun _ => rfl) 37 rfl (fun x1 => [some (.ref 6), some (.long (a1)), none, some (.long (a3)), none, some (.int (a5)), some (.int (a6)), some (.int (a7)), some (.int (a8)), some (.int (x1))]) (fun _ => rfl) (fun x1 => ?_)
      refine r_ld (.iload 5) 2 0 5 (.int (a5)) rfl rfl rfl rfl 39 rfl ?_
      refine r_ld (.iload 9) 2 0 9 (.int (x1)) rfl rfl rfl rfl 41 rfl ?_
      refine r_go (.iadd) 1 rfl rfl rfl 42 [.int (a5 + x1)] rfl ?_
      refine q_stB (w_PI M) (.istore 5) 2 0 5 rfl rfl (fun _ => rfl) 44 rfl (fun x2 => [some (.ref 6), some (.long (a1)), none, some (.long (a3)), none, some (.int (x2)), some (.int (a6)), some (.int (a7)), some (.int (a8)), some (.int (x1))]) (fun _ => rfl) (fun x2 => ?_)
      refine r_ld (.iload 6) 2 0 6 (.int (a6)) rfl rfl rfl rfl 46 rfl ?_
      refine r_ld (.iload 9) 2 0 9 (.int (x1)) rfl rfl rfl rfl 48 rfl ?_
      refine r_go (.invokestatic 62) 3 rfl rfl rfl 51 [.int (if a6 < x1 then x1 else a6)] rfl ?_
      refine q_stB (w_PI M) (.istore 6) 2 0 6 rfl rfl (fun _ => rfl) 53 rfl (fun x3 => [some (.ref 6), some (.long (a1)), none, some (.long (a3)), none, some (.int (x2)), some (.int (x3)), some (.int (a7)), some (.int (a8)), some (.int (x1))]) (fun _ => rfl) (fun x3 => ?_)
      refine r_ld (.iload 7) 2 0 7 (.int (a7)) rfl rfl rfl rfl 55 rfl ?_
      refine r_ld (.iload 9) 2 0 9 (.int (x1)) rfl rfl rfl rfl 57 rfl ?_
      refine q_br (w_PI M) (.ifCond .le 7) 3 rfl rfl rfl (x1 ≤ 0) 64 60 [.int (a7)] rfl (fun _ => ?_) (fun _ => ?_)
      · refine q_const (.iconst 0) 1 rfl rfl rfl 65 (0) _ rfl cd_kj0 ?_
        exact r_w (k5_distance_6_L65 (f5_distance_6_L12 n) ih a1 a3 x2 x3 a8 0 a7 M) (cd_le_s (cd_le_s (cd_le_n (cd_le_s (cd_le_n (cd_le_s (cd_le_s (cd_le_n (cd_le_s (cd_le_n cd_le_0))))))))))
      · refine q_const (.iconst 1) 1 rfl rfl rfl 61 (1) _ rfl cd_kj1 ?_
        refine r_go (.goto 4) 3 rfl rfl rfl 65 [.int (1), .int (a7)] rfl ?_
        exact r_w (k5_distance_6_L65 (f5_distance_6_L12 n) ih a1 a3 x2 x3 a8 1 a7 M) (cd_le_s (cd_le_s (cd_le_n (cd_le_s (cd_le_n (cd_le_s (cd_le_s (cd_le_n (cd_le_s (cd_le_n cd_le_0))))))))))
def f5_distance_6 (a1 : Int64) (a2 : Int64) (M : cd_M) : Option (Int32) := f5_distance_6_L12 cd_fu a1 a2 0 0 0 0 M
set_option maxRecDepth 8000 in
theorem k5_distance_6 (a1 : Int64) (a2 : Int64) (M : cd_M) : cd_R 66 0 [some (.ref 6), some (.long (a1)), none, some (.long (a2)), none, none, none, none, none, none] [] M ((w_PI M) (f5_distance_6 a1 a2 M)) := by
  unfold f5_distance_6
  refine q_const (.iconst 0) 1 rfl rfl rfl 1 (0) _ rfl cd_kj0 ?_
  refine r_st (.istore 5) 2 0 5 rfl rfl rfl 3 rfl [some (.ref 6), some (.long (a1)), none, some (.long (a2)), none, some (.int (0)), none, none, none, none] rfl ?_
  refine q_const (.iconst 0) 1 rfl rfl rfl 4 (0) _ rfl cd_kj0 ?_
  refine r_st (.istore 6) 2 0 6 rfl rfl rfl 6 rfl [some (.ref 6), some (.long (a1)), none, some (.long (a2)), none, some (.int (0)), some (.int (0)), none, none, none] rfl ?_
  refine q_const (.iconst 0) 1 rfl rfl rfl 7 (0) _ rfl cd_kj0 ?_
  refine r_st (.istore 7) 2 0 7 rfl rfl rfl 9 rfl [some (.ref 6), some (.long (a1)), none, some (.long (a2)), none, some (.int (0)), some (.int (0)), some (.int (0)), none, none] rfl ?_
  refine q_const (.iconst 0) 1 rfl rfl rfl 10 (0) _ rfl cd_kj0 ?_
  refine r_st (.istore 8) 2 0 8 rfl rfl rfl 12 rfl [some (.ref 6), some (.long (a1)), none, some (.long (a2)), none, some (.int (0)), some (.int (0)), some (.int (0)), some (.int (0)), none] rfl ?_
  exact r_w (k5_distance_6_L12 cd_fu a1 a2 0 0 0 0 M) (cd_le_s (cd_le_s (cd_le_n (cd_le_s (cd_le_n (cd_le_s (cd_le_s (cd_le_s (cd_le_s (cd_le_n cd_le_0))))))))))
def f10_apart_0 (a1 : Int32) (a2 : Int32) (M : cd_M) : Option (Int32) := if f4_has_7 a1 M = 0 then (some (-1)) else (if f4_has_7 a2 M = 0 then (some (-1)) else ((f4_row_7 a1 M).bind fun v3 => (f4_row_7 a2 M).bind fun v4 => (f5_distance_6 v3 v4 M).bind fun v5 => some v5))
set_option maxRecDepth 8000 in
theorem k10_apart_0 (a1 : Int32) (a2 : Int32) (M : cd_M) : cd_R 138 0 [some (.ref 0), some (.int (a1)), some (.int (a2))] [] M ((w_PI M) (f10_apart_0 a1 a2 M)) := by
  unfold f10_apart_0
  refine r_ld (.aload_n 0) 1 2 0 (.ref 0) rfl rfl rfl rfl 1 rfl ?_
  refine r_go (.getfield 35) 3 rfl rfl rfl 4 [.ref 7] rfl ?_
  refine r_ld (.iload_n 1) 1 0 1 (.int (a1)) rfl rfl rfl rfl 5 rfl ?_
  refine q_cTIz (.invokevirtual 186) rfl rfl rfl 43 rfl [.ref 7, .int (a1)] [] rfl (k4_has_7 a1 M) (fun z1 => ?_)
  refine q_br (w_PI M) (.ifCond .eq 14) 3 rfl rfl rfl (f4_has_7 a1 M = 0) 22 11 [] rfl (fun _ => ?_) (fun _ => ?_)
  · refine q_const (.iconst (-1)) 1 rfl rfl rfl 23 (-1) _ rfl cd_kjm1 ?_
    exact r_ret .ireturn 1 rfl rfl rfl _ rfl
  · refine r_ld (.aload_n 0) 1 2 0 (.ref 0) rfl rfl rfl rfl 12 rfl ?_
    refine r_go (.getfield 35) 3 rfl rfl rfl 15 [.ref 7] rfl ?_
    refine r_ld (.iload_n 2) 1 0 2 (.int (a2)) rfl rfl rfl rfl 16 rfl ?_
    refine q_cTIz (.invokevirtual 186) rfl rfl rfl 43 rfl [.ref 7, .int (a2)] [] rfl (k4_has_7 a2 M) (fun z2 => ?_)
    refine q_br (w_PI M) (.ifCond .ne 5) 3 rfl rfl rfl (f4_has_7 a2 M = 0) 22 24 [] rfl (fun _ => ?_) (fun _ => ?_)
    · refine q_const (.iconst (-1)) 1 rfl rfl rfl 23 (-1) _ rfl cd_kjm1 ?_
      exact r_ret .ireturn 1 rfl rfl rfl _ rfl
    · refine r_ld (.aload_n 0) 1 2 0 (.ref 0) rfl rfl rfl rfl 25 rfl ?_
      refine r_go (.getfield 28) 3 rfl rfl rfl 28 [.ref 6] rfl ?_
      refine r_ld (.aload_n 0) 1 2 0 (.ref 0) rfl rfl rfl rfl 29 rfl ?_
      refine r_go (.getfield 35) 3 rfl rfl rfl 32 [.ref 7, .ref 6] rfl ?_
      refine r_ld (.iload_n 1) 1 0 1 (.int (a1)) rfl rfl rfl rfl 33 rfl ?_
      refine q_cL (w_PI M) rfl (.invokevirtual 216) rfl rfl rfl 45 [.ref 7, .int (a1)] [.ref 6] rfl (k4_row_7 a1 M) (fun v3 => ?_)
      refine r_ld (.aload_n 0) 1 2 0 (.ref 0) rfl rfl rfl rfl 37 rfl ?_
      refine r_go (.getfield 35) 3 rfl rfl rfl 40 [.ref 7, .long (v3), .ref 6] rfl ?_
      refine r_ld (.iload_n 2) 1 0 2 (.int (a2)) rfl rfl rfl rfl 41 rfl ?_
      refine q_cL (w_PI M) rfl (.invokevirtual 216) rfl rfl rfl 45 [.ref 7, .int (a2)] [.long (v3), .ref 6] rfl (k4_row_7 a2 M) (fun v4 => ?_)
      refine q_cI (w_PI M) rfl (.invokevirtual 220) rfl rfl rfl 66 [.ref 6, .long (v3), .long (v4)] [] rfl (k5_distance_6 v3 v4 M) (fun v5 => ?_)
      exact r_ret .ireturn 1 rfl rfl rfl _ rfl
def f6_firstOfStep (a0 : Int32) (M : cd_M) : Int32 := ((a0 * (a0 + 1)) / 2)
set_option maxRecDepth 8000 in
theorem k6_firstOfStep (a0 : Int32) (M : cd_M) : cd_R 78 0 [some (.int (a0))] [] M ((w_TI M) (f6_firstOfStep a0 M)) := by
  unfold f6_firstOfStep
  refine r_ld (.iload_n 0) 1 0 0 (.int (a0)) rfl rfl rfl rfl 1 rfl ?_
  refine r_ld (.iload_n 0) 1 0 0 (.int (a0)) rfl rfl rfl rfl 2 rfl ?_
  refine q_const (.iconst 1) 1 rfl rfl rfl 3 (1) _ rfl cd_kj1 ?_
  refine r_go (.iadd) 1 rfl rfl rfl 4 [.int (a0 + 1), .int (a0)] rfl ?_
  refine r_go (.imul) 1 rfl rfl rfl 5 [.int (a0 * (a0 + 1))] rfl ?_
  refine q_const (.iconst 2) 1 rfl rfl rfl 6 (2) _ rfl cd_kj2 ?_
  refine q_divK rfl (by decide) ?_
  exact r_ret .ireturn 1 rfl rfl rfl _ rfl
def f6_addState_10 (a1 : Int32) (a2 : Int32) (a3 : Int32) (a4 : Int32) (M : cd_M) : Option cd_M := if 90 ≤ M.1 10 4 then (some M) else (if cd_in (M.1 10 4) 90 = true then (cd_lt (cd_wI M 39 (M.1 10 4 : Int32).toNatClampNeg a1) fun M1 => if cd_in (M1.1 10 4) 90 = true then (cd_lt (cd_wI M1 40 (M1.1 10 4 : Int32).toNatClampNeg a2) fun M2 => if cd_in (M2.1 10 4) 90 = true then (cd_lt (cd_wI M2 41 (M2.1 10 4 : Int32).toNatClampNeg a3) fun M3 => if cd_in (M3.1 10 4) 90 = true then (cd_lt (cd_wI M3 42 (M3.1 10 4 : Int32).toNatClampNeg a4) fun M4 => cd_lt (cd_wI M4 10 4 ((M4.1 10 4) + 1)) fun M5 => some M5) else none) else none) else none) else none)
set_option maxRecDepth 8000 in
theorem k6_addState_10 (a1 : Int32) (a2 : Int32) (a3 : Int32) (a4 : Int32) (M : cd_M) : cd_R 77 0 [some (.ref 10), some (.int (a1)), some (.int (a2)), some (.int (a3)), some (.int (a4))] [] M (w_PV (f6_addState_10 a1 a2 a3 a4 M)) := by
  unfold f6_addState_10
  refine r_ld (.aload_n 0) 1 2 0 (.ref 10) rfl rfl rfl rfl 1 rfl ?_
  refine r_go (.getfield 24) 3 rfl rfl rfl 4 [.int (M.1 10 4)] rfl ?_
  refine q_const (.bipush 90) 2 rfl rfl rfl 6 (90) _ rfl cd_kc90 ?_
  refine q_br w_PV (.if_icmp .ge 54) 3 rfl rfl rfl (90 ≤ M.1 10 4) 60 9 [] rfl (fun _ => ?_) (fun _ => ?_)
  · exact r_ret .return_ 1 rfl rfl rfl _ rfl
  · refine r_ld (.aload_n 0) 1 2 0 (.ref 10) rfl rfl rfl rfl 10 rfl ?_
    refine r_go (.getfield 9) 3 rfl rfl rfl 13 [.ref 39] rfl ?_
    refine r_ld (.aload_n 0) 1 2 0 (.ref 10) rfl rfl rfl rfl 14 rfl ?_
    refine r_go (.getfield 24) 3 rfl rfl rfl 17 [.int (M.1 10 4), .ref 39] rfl ?_
    refine r_ld (.iload_n 1) 1 0 1 (.int (a1)) rfl rfl rfl rfl 18 rfl ?_
    refine q_iast w_PV rfl rfl 39 90 rfl (fun M1 => ?_)
    refine r_ld (.aload_n 0) 1 2 0 (.ref 10) rfl rfl rfl rfl 20 rfl ?_
    refine r_go (.getfield 15) 3 rfl rfl rfl 23 [.ref 40] rfl ?_
    refine r_ld (.aload_n 0) 1 2 0 (.ref 10) rfl rfl rfl rfl 24 rfl ?_
    refine r_go (.getfield 24) 3 rfl rfl rfl 27 [.int (M1.1 10 4), .ref 40] rfl ?_
    refine r_ld (.iload_n 2) 1 0 2 (.int (a2)) rfl rfl rfl rfl 28 rfl ?_
    refine q_iast w_PV rfl rfl 40 90 rfl (fun M2 => ?_)
    refine r_ld (.aload_n 0) 1 2 0 (.ref 10) rfl rfl rfl rfl 30 rfl ?_
    refine r_go (.getfield 18) 3 rfl rfl rfl 33 [.ref 41] rfl ?_
    refine r_ld (.aload_n 0) 1 2 0 (.ref 10) rfl rfl rfl rfl 34 rfl ?_
    refine r_go (.getfield 24) 3 rfl rfl rfl 37 [.int (M2.1 10 4), .ref 41] rfl ?_
    refine r_ld (.iload_n 3) 1 0 3 (.int (a3)) rfl rfl rfl rfl 38 rfl ?_
    refine q_iast w_PV rfl rfl 41 90 rfl (fun M3 => ?_)
    refine r_ld (.aload_n 0) 1 2 0 (.ref 10) rfl rfl rfl rfl 40 rfl ?_
    refine r_go (.getfield 21) 3 rfl rfl rfl 43 [.ref 42] rfl ?_
    refine r_ld (.aload_n 0) 1 2 0 (.ref 10) rfl rfl rfl rfl 44 rfl ?_
    refine r_go (.getfield 24) 3 rfl rfl rfl 47 [.int (M3.1 10 4), .ref 42] rfl ?_
    refine r_ld (.iload 4) 2 0 4 (.int (a4)) rfl rfl rfl rfl 49 rfl ?_
    refine q_iast w_PV rfl rfl 42 90 rfl (fun M4 => ?_)
    refine r_ld (.aload_n 0) 1 2 0 (.ref 10) rfl rfl rfl rfl 51 rfl ?_
    refine r_go (.dup) 1 rfl rfl rfl 52 [.ref 10, .ref 10] rfl ?_
    refine r_go (.getfield 24) 3 rfl rfl rfl 55 [.int (M4.1 10 4), .ref 10] rfl ?_
    refine q_const (.iconst 1) 1 rfl rfl rfl 56 (1) _ rfl cd_kj1 ?_
    refine r_go (.iadd) 1 rfl rfl rfl 57 [.int ((M4.1 10 4) + 1), .ref 10] rfl ?_
    refine q_wr w_PV (.putfield 24) 3 rfl rfl rfl 60 [] (cd_wI M4 10 4 ((M4.1 10 4) + 1)) rfl (fun M5 => ?_)
    exact r_ret .return_ 1 rfl rfl rfl _ rfl
