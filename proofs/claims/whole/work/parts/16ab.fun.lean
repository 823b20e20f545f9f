def fJ1_charAt_1101 (a1 : Int32) (M : cd_M) : Option (Int32) := (fJ0_checkIndex a1 5 M).bind fun _ => if cd_in a1 5 = true then (some ((((cd_sbyte 1101 a1) &&& 255 : Int32).toUInt32 % 65536).toInt32)) else none
set_option maxRecDepth 8000 in
theorem kJ1_charAt_1101 (a1 : Int32) (M : cd_M) : cd_R 243 0 [some (.ref 1101), some (.int (a1))] [] M ((w_PI M) (fJ1_charAt_1101 a1 M)) := by
  unfold fJ1_charAt_1101
  refine r_ld (.iload_n 1) 1 0 1 (.int (a1)) rfl rfl rfl rfl 1 rfl ?_
  refine r_ld (.aload_n 0) 1 2 0 (.ref 1101) rfl rfl rfl rfl 2 rfl ?_
  refine r_go (.arraylength) 1 rfl rfl rfl 3 [.int (5), .int (a1)] rfl ?_
  refine q_cU (w_PI M) rfl (.invokestatic 9) rfl rfl rfl 242 [.int (a1), .int (5)] [] rfl (kJ0_checkIndex a1 5 M) ?_
  refine r_ld (.aload_n 0) 1 2 0 (.ref 1101) rfl rfl rfl rfl 7 rfl ?_
  refine r_ld (.iload_n 1) 1 0 1 (.int (a1)) rfl rfl rfl rfl 8 rfl ?_
  refine q_sbald (w_PI M) rfl rfl 1101 5 rfl rfl (by decide) ?_
  refine q_const (.sipush 255) 3 rfl rfl rfl 12 (255) _ rfl cd_kt255 ?_
  refine r_go (.iand) 1 rfl rfl rfl 13 [.int ((cd_sbyte 1101 a1) &&& 255)] rfl ?_
  refine r_go (.i2c) 1 rfl rfl rfl 14 [.int ((((cd_sbyte 1101 a1) &&& 255 : Int32).toUInt32 % 65536).toInt32)] rfl ?_
  exact r_retC rfl rfl (pk_nc _)
def fJ0_charAt_1001 (a1 : Int32) (M : cd_M) : Option (Int32) := if fJ0_isLatin1_1001 M = 0 then (none) else ((fJ1_charAt_1101 a1 M).bind fun v2 => some v2)
set_option maxRecDepth 8000 in
theorem kJ0_charAt_1001 (a1 : Int32) (M : cd_M) : cd_R 239 0 [some (.ref 1001), some (.int (a1))] [] M ((w_PI M) (fJ0_charAt_1001 a1 M)) := by
  unfold fJ0_charAt_1001
  refine r_ld (.aload_n 0) 1 2 0 (.ref 1001) rfl rfl rfl rfl 1 rfl ?_
  refine q_cTIz (.invokevirtual 492) rfl rfl rfl 241 rfl [.ref 1001] [] rfl (kJ0_isLatin1_1001 M) (fun z1 => ?_)
  refine q_br (w_PI M) (.ifCond .eq 12) 3 rfl rfl rfl (fJ0_isLatin1_1001 M = 0) 16 7 [] rfl (fun _ => ?_) (fun _ => ?_)
  · refine r_ld (.aload_n 0) 1 2 0 (.ref 1001) rfl rfl rfl rfl 17 rfl ?_
    refine r_go (.getfield 9) 3 rfl rfl rfl 20 [.ref 1101] rfl ?_
    refine r_ld (.iload_n 1) 1 0 1 (.int (a1)) rfl rfl rfl rfl 21 rfl ?_
    exact q_none (w_PI M) rfl
  · refine r_ld (.aload_n 0) 1 2 0 (.ref 1001) rfl rfl rfl rfl 8 rfl ?_
    refine r_go (.getfield 9) 3 rfl rfl rfl 11 [.ref 1101] rfl ?_
    refine r_ld (.iload_n 1) 1 0 1 (.int (a1)) rfl rfl rfl rfl 12 rfl ?_
    refine q_cIc (w_PI M) rfl (.invokestatic 495) rfl rfl rfl 243 rfl [.ref 1101, .int (a1)] [] rfl (kJ1_charAt_1101 a1 M) (fun v2 z3 => ?_)
    exact r_retC rfl rfl z3
def f7_isWord_2_1001_L28 : Nat → Int32 → cd_M → Option (Int32)
  | 0, _, _ => none
  | n + 1, a2, M => if fJ0_length_1001 M ≤ a2 then (some 1) else ((f7_byteAt_2 ((M.1 2 4) + a2) M).bind fun v1 => (fJ0_charAt_1001 a2 M).bind fun v2 => if v1 = v2 then (cd_lt (a2 + (1)) fun x4 => f7_isWord_2_1001_L28 n x4 M) else (some 0))
set_option maxRecDepth 8000 in
theorem k7_isWord_2_1001_L28 : ∀ (n : Nat) (a2 : Int32) (M : cd_M), cd_R 89 28 [some (.ref 2), some (.ref 1001), some (.int (a2))] [] M ((w_PI M) (f7_isWord_2_1001_L28 n a2 M)) := by
  intro n
  induction n with
  | zero =>
    intro a2 M
    exact q_none (w_PI M) rfl
  | succ n ih =>
    intro a2 M
    rw [f7_isWord_2_1001_L28]
    refine r_ld (.iload_n 2) 1 0 2 (.int (a2)) rfl rfl rfl rfl 29 rfl ?_
    refine r_ld (.aload_n 1) 1 2 1 (.ref 1001) rfl rfl rfl rfl 30 rfl ?_
    refine q_cTI (.invokevirtual 64) rfl rfl rfl 238 [.ref 1001] [.int (a2)] rfl (kJ0_length_1001 M) ?_
    refine q_br (w_PI M) (.if_icmp .ge 29) 3 rfl rfl rfl (fJ0_length_1001 M ≤ a2) 62 36 [] rfl (fun _ => ?_) (fun _ => ?_)
    · refine q_const (.iconst 1) 1 rfl rfl rfl 63 (1) _ rfl cd_kj1 ?_
      exact r_retZ rfl rfl (by decide)
    · refine r_ld (.aload_n 0) 1 2 0 (.ref 2) rfl rfl rfl rfl 37 rfl ?_
      refine r_ld (.aload_n 0) 1 2 0 (.ref 2) rfl rfl rfl rfl 38 rfl ?_
      refine r_go (.getfield 25) 3 rfl rfl rfl 41 [.int (M.1 2 4), .ref 2] rfl ?_
      refine r_ld (.iload_n 2) 1 0 2 (.int (a2)) rfl rfl rfl rfl 42 rfl ?_
      refine r_go (.iadd) 1 rfl rfl rfl 43 [.int ((M.1 2 4) + a2), .ref 2] rfl ?_
      refine q_cI (w_PI M) rfl (.invokevirtual 45) rfl rfl rfl 92 [.ref 2, .int ((M.1 2 4) + a2)] [] rfl (k7_byteAt_2 ((M.1 2 4) + a2) M) (fun v1 => ?_)
      refine r_ld (.aload_n 1) 1 2 1 (.ref 1001) rfl rfl rfl rfl 47 rfl ?_
      refine r_ld (.iload_n 2) 1 0 2 (.int (a2)) rfl rfl rfl rfl 48 rfl ?_
      refine q_cIc (w_PI M) rfl (.invokevirtual 69) rfl rfl rfl 239 rfl [.ref 1001, .int (a2)] [.int (v1)] rfl (kJ0_charAt_1001 a2 M) (fun v2 z3 => ?_)
      refine q_br (w_PI M) (.if_icmp .eq 5) 3 rfl rfl rfl (v1 = v2) 56 54 [] rfl (fun _ => ?_) (fun _ => ?_)
      · refine q_inc (w_PI M) 2 (1) (a2) rfl rfl rfl 59 rfl (1) cd_kj1 (fun x4 => [some (.ref 2), some (.ref 1001), some (.int (x4))]) (fun _ => rfl) (fun x4 => ?_)
        refine r_go (.goto (-31)) 3 rfl rfl rfl 28 [] rfl ?_
        exact r_w (ih x4 M) (cd_le_s (cd_le_s (cd_le_s cd_le_0)))
      · refine q_const (.iconst 0) 1 rfl rfl rfl 55 (0) _ rfl cd_kj0 ?_
        exact r_retZ rfl rfl (by decide)
def f7_isWord_2_1001 (M : cd_M) : Option (Int32) := if M.1 2 5 = 1 then (if (M.1 2 3) - (M.1 2 4) = fJ0_length_1001 M then (f7_isWord_2_1001_L28 cd_fu 0 M) else (some 0)) else (some 0)
set_option maxRecDepth 8000 in
theorem k7_isWord_2_1001 (M : cd_M) : cd_R 89 0 [some (.ref 2), some (.ref 1001), none] [] M ((w_PI M) (f7_isWord_2_1001 M)) := by
  unfold f7_isWord_2_1001
  refine r_ld (.aload_n 0) 1 2 0 (.ref 2) rfl rfl rfl rfl 1 rfl ?_
  refine r_go (.getfield 28) 3 rfl rfl rfl 4 [.int (M.1 2 5)] rfl ?_
  refine q_const (.iconst 1) 1 rfl rfl rfl 5 (1) _ rfl cd_kj1 ?_
  refine q_br (w_PI M) (.if_icmp .ne 19) 3 rfl rfl rfl (M.1 2 5 = 1) 8 24 [] rfl (fun _ => ?_) (fun _ => ?_)
  · refine r_ld (.aload_n 0) 1 2 0 (.ref 2) rfl rfl rfl rfl 9 rfl ?_
    refine r_go (.getfield 22) 3 rfl rfl rfl 12 [.int (M.1 2 3)] rfl ?_
    refine r_ld (.aload_n 0) 1 2 0 (.ref 2) rfl rfl rfl rfl 13 rfl ?_
    refine r_go (.getfield 25) 3 rfl rfl rfl 16 [.int (M.1 2 4), .int (M.1 2 3)] rfl ?_
    refine r_go (.isub) 1 rfl rfl rfl 17 [.int ((M.1 2 3) - (M.1 2 4))] rfl ?_
    refine r_ld (.aload_n 1) 1 2 1 (.ref 1001) rfl rfl rfl rfl 18 rfl ?_
    refine q_cTI (.invokevirtual 64) rfl rfl rfl 238 [.ref 1001] [.int ((M.1 2 3) - (M.1 2 4))] rfl (kJ0_length_1001 M) ?_
    refine q_br (w_PI M) (.if_icmp .eq 5) 3 rfl rfl rfl ((M.1 2 3) - (M.1 2 4) = fJ0_length_1001 M) 26 24 [] rfl (fun _ => ?_) (fun _ => ?_)
    · refine q_const (.iconst 0) 1 rfl rfl rfl 27 (0) _ rfl cd_kj0 ?_
      refine r_st (.istore_n 2) 1 0 2 rfl rfl rfl 28 rfl [some (.ref 2), some (.ref 1001), some (.int (0))] rfl ?_
      exact r_w (k7_isWord_2_1001_L28 cd_fu 0 M) (cd_le_s (cd_le_s (cd_le_s cd_le_0)))
    · refine q_const (.iconst 0) 1 rfl rfl rfl 25 (0) _ rfl cd_kj0 ?_
      exact r_retZ rfl rfl (by decide)
  · refine q_const (.iconst 0) 1 rfl rfl rfl 25 (0) _ rfl cd_kj0 ?_
    exact r_retZ rfl rfl (by decide)
def f1_width_3 (M : cd_M) : Int32 := (M.1 3 2)
set_option maxRecDepth 8000 in
theorem k1_width_3 (M : cd_M) : cd_R 12 0 [some (.ref 3)] [] M ((w_TI M) (f1_width_3 M)) := by
  unfold f1_width_3
  refine r_ld (.aload_n 0) 1 2 0 (.ref 3) rfl rfl rfl rfl 1 rfl ?_
  refine r_go (.getfield 7) 3 rfl rfl rfl 4 [.int (M.1 3 2)] rfl ?_
  exact r_ret .ireturn 1 rfl rfl rfl _ rfl
def f1_add_3 (a1 : Int64) (a2 : Int64) (M : cd_M) : Option cd_M := if 20 ≤ M.1 3 3 then (some M) else (if 20 ≤ M.1 3 3 then (some M) else (if cd_in (M.1 3 3) 20 = true then (cd_lt (cd_wL M 18 (M.1 3 3 : Int32).toNatClampNeg a1) fun M1 => if cd_in (M1.1 3 3) 20 = true then (cd_lt (cd_wL M1 19 (M1.1 3 3 : Int32).toNatClampNeg a2) fun M2 => cd_lt (cd_wI M2 3 3 ((M2.1 3 3) + 1)) fun M3 => some M3) else none) else none))
set_option maxRecDepth 8000 in
theorem k1_add_3 (a1 : Int64) (a2 : Int64) (M : cd_M) : cd_R 15 0 [some (.ref 3), some (.long (a1)), none, some (.long (a2)), none] [] M (w_PV (f1_add_3 a1 a2 M)) := by
  unfold f1_add_3
  refine r_ld (.aload_n 0) 1 2 0 (.ref 3) rfl rfl rfl rfl 1 rfl ?_
  refine r_go (.getfield 13) 3 rfl rfl rfl 4 [.int (M.1 3 3)] rfl ?_
  refine r_ld (.aload_n 0) 1 2 0 (.ref 3) rfl rfl rfl rfl 5 rfl ?_
  refine r_go (.getfield 22) 3 rfl rfl rfl 8 [.ref 18, .int (M.1 3 3)] rfl ?_
  refine r_go (.arraylength) 1 rfl rfl rfl 9 [.int (20), .int (M.1 3 3)] rfl ?_
  refine q_br w_PV (.if_icmp .ge 45) 3 rfl rfl rfl (20 ≤ M.1 3 3) 54 12 [] rfl (fun _ => ?_) (fun _ => ?_)
  · exact r_ret .return_ 1 rfl rfl rfl _ rfl
  · refine r_ld (.aload_n 0) 1 2 0 (.ref 3) rfl rfl rfl rfl 13 rfl ?_
    refine r_go (.getfield 13) 3 rfl rfl rfl 16 [.int (M.1 3 3)] rfl ?_
    refine r_ld (.aload_n 0) 1 2 0 (.ref 3) rfl rfl rfl rfl 17 rfl ?_
    refine r_go (.getfield 26) 3 rfl rfl rfl 20 [.ref 19, .int (M.1 3 3)] rfl ?_
    refine r_go (.arraylength) 1 rfl rfl rfl 21 [.int (20), .int (M.1 3 3)] rfl ?_
    refine q_br w_PV (.if_icmp .ge 33) 3 rfl rfl rfl (20 ≤ M.1 3 3) 54 24 [] rfl (fun _ => ?_) (fun _ => ?_)
    · exact r_ret .return_ 1 rfl rfl rfl _ rfl
    · refine r_ld (.aload_n 0) 1 2 0 (.ref 3) rfl rfl rfl rfl 25 rfl ?_
      refine r_go (.getfield 22) 3 rfl rfl rfl 28 [.ref 18] rfl ?_
      refine r_ld (.aload_n 0) 1 2 0 (.ref 3) rfl rfl rfl rfl 29 rfl ?_
      refine r_go (.getfield 13) 3 rfl rfl rfl 32 [.int (M.1 3 3), .ref 18] rfl ?_
      refine r_ld (.lload_n 1) 1 1 1 (.long (a1)) rfl rfl rfl rfl 33 rfl ?_
      refine q_last w_PV rfl rfl 18 20 rfl (fun M1 => ?_)
      refine r_ld (.aload_n 0) 1 2 0 (.ref 3) rfl rfl rfl rfl 35 rfl ?_
      refine r_go (.getfield 26) 3 rfl rfl rfl 38 [.ref 19] rfl ?_
      refine r_ld (.aload_n 0) 1 2 0 (.ref 3) rfl rfl rfl rfl 39 rfl ?_
      refine r_go (.getfield 13) 3 rfl rfl rfl 42 [.int (M1.1 3 3), .ref 19] rfl ?_
      refine r_ld (.lload_n 3) 1 1 3 (.long (a2)) rfl rfl rfl rfl 43 rfl ?_
      refine q_last w_PV rfl rfl 19 20 rfl (fun M2 => ?_)
      refine r_ld (.aload_n 0) 1 2 0 (.ref 3) rfl rfl rfl rfl 45 rfl ?_
      refine r_go (.dup) 1 rfl rfl rfl 46 [.ref 3, .ref 3] rfl ?_
      refine r_go (.getfield 13) 3 rfl rfl rfl 49 [.int (M2.1 3 3), .ref 3] rfl ?_
      refine q_const (.iconst 1) 1 rfl rfl rfl 50 (1) _ rfl cd_kj1 ?_
      refine r_go (.iadd) 1 rfl rfl rfl 51 [.int ((M2.1 3 3) + 1), .ref 3] rfl ?_
      refine q_wr w_PV (.putfield 13) 3 rfl rfl rfl 54 [] (cd_wI M2 3 3 ((M2.1 3 3) + 1)) rfl (fun M3 => ?_)
      exact r_ret .return_ 1 rfl rfl rfl _ rfl
def f10_withSample (a0 : Int64) (a1 : Int32) (a2 : Int32) (M : cd_M) : Int64 := cd_lt (7 * a1) fun x1 => ((a0 &&& (((127 : Int64) <<< (x1.toInt64 &&& 63) : Int64) ^^^ ((-1) : Int64) : Int64) : Int64) ||| ((a2.toInt64 : Int64) <<< (x1.toInt64 &&& 63) : Int64))
set_option maxRecDepth 8000 in
theorem k10_withSample (a0 : Int64) (a1 : Int32) (a2 : Int32) (M : cd_M) : cd_R 159 0 [some (.long (a0)), none, some (.int (a1)), some (.int (a2)), none] [] M ((w_TL M) (f10_withSample a0 a1 a2 M)) := by
  unfold f10_withSample
  refine q_const (.bipush 7) 2 rfl rfl rfl 2 (7) _ rfl cd_kc7 ?_
  refine r_ld (.iload_n 2) 1 0 2 (.int (a1)) rfl rfl rfl rfl 3 rfl ?_
  refine r_go (.imul) 1 rfl rfl rfl 4 [.int (7 * a1)] rfl ?_
  refine q_stB (w_TL M) (.istore 4) 2 0 4 rfl rfl (fun _ => rfl) 6 rfl (fun x1 => [some (.long (a0)), none, some (.int (a1)), some (.int (a2)), some (.int (x1))]) (fun _ => rfl) (fun x1 => ?_)
  refine r_ld (.lload_n 0) 1 1 0 (.long (a0)) rfl rfl rfl rfl 7 rfl ?_
  refine r_go (.ldc2_w 337) 3 rfl rfl rfl 10 [.long (127), .long (a0)] rfl ?_
  refine r_ld (.iload 4) 2 0 4 (.int (x1)) rfl rfl rfl rfl 12 rfl ?_
  refine r_go (.lshl) 1 rfl rfl rfl 13 [.long ((127 : Int64) <<< (x1.toInt64 &&& 63)), .long (a0)] rfl ?_
  refine r_go (.ldc2_w 339) 3 rfl rfl rfl 16 [.long ((-1)), .long ((127 : Int64) <<< (x1.toInt64 &&& 63)), .long (a0)] rfl ?_
  refine r_go (.lxor) 1 rfl rfl rfl 17 [.long (((127 : Int64) <<< (x1.toInt64 &&& 63) : Int64) ^^^ ((-1) : Int64)), .long (a0)] rfl ?_
  refine r_go (.land) 1 rfl rfl rfl 18 [.long (a0 &&& (((127 : Int64) <<< (x1.toInt64 &&& 63) : Int64) ^^^ ((-1) : Int64) : Int64))] rfl ?_
  refine r_ld (.iload_n 3) 1 0 3 (.int (a2)) rfl rfl rfl rfl 19 rfl ?_
  refine r_go (.i2l) 1 rfl rfl rfl 20 [.long (a2.toInt64), .long (a0 &&& (((127 : Int64) <<< (x1.toInt64 &&& 63) : Int64) ^^^ ((-1) : Int64) : Int64))] rfl ?_
  refine r_ld (.iload 4) 2 0 4 (.int (x1)) rfl rfl rfl rfl 22 rfl ?_
  refine r_go (.lshl) 1 rfl rfl rfl 23 [.long ((a2.toInt64 : Int64) <<< (x1.toInt64 &&& 63)), .long (a0 &&& (((127 : Int64) <<< (x1.toInt64 &&& 63) : Int64) ^^^ ((-1) : Int64) : Int64))] rfl ?_
  refine r_go (.lor) 1 rfl rfl rfl 24 [.long ((a0 &&& (((127 : Int64) <<< (x1.toInt64 &&& 63) : Int64) ^^^ ((-1) : Int64) : Int64) : Int64) ||| ((a2.toInt64 : Int64) <<< (x1.toInt64 &&& 63) : Int64))] rfl ?_
  exact r_ret .lreturn 1 rfl rfl rfl _ rfl
def f8_readFrame_1_L112 (r54 : Int64 → Int64 → Int32 → Int32 → cd_M → Option (Int32 × cd_M)) (a2 : Int64) (a4 : Int64) (a6 : Int32) (a7 : Int32) (M : cd_M) : Option (Int32 × cd_M) := cd_lt (a7 + (1)) fun x19 => r54 a2 a4 a6 x19 M
set_option maxRecDepth 8000 in
theorem k8_readFrame_1_L112 (r54 : Int64 → Int64 → Int32 → Int32 → cd_M → Option (Int32 × cd_M)) (h54 : ∀ (a2 : Int64) (a4 : Int64) (a6 : Int32) (a7 : Int32) (M : cd_M), cd_R 101 54 [some (.ref 1), none, some (.long (a2)), none, some (.long (a4)), none, some (.int (a6)), some (.int (a7))] [] M (w_PM (r54 a2 a4 a6 a7 M))) (a2 : Int64) (a4 : Int64) (a6 : Int32) (a7 : Int32) (M : cd_M) : cd_R 101 112 [some (.ref 1), none, some (.long (a2)), none, some (.long (a4)), none, some (.int (a6)), some (.int (a7))] [] M (w_PM (f8_readFrame_1_L112 r54 a2 a4 a6 a7 M)) := by
  unfold f8_readFrame_1_L112
  refine q_inc w_PM 7 (1) (a7) rfl rfl rfl 115 rfl (1) cd_kj1 (fun x19 => [some (.ref 1), none, some (.long (a2)), none, some (.long (a4)), none, some (.int (a6)), some (.int (x19))]) (fun _ => rfl) (fun x19 => ?_)
  refine r_go (.goto (-61)) 3 rfl rfl rfl 54 [] rfl ?_
  exact r_w (h54 a2 a4 a6 x19 M) (cd_le_s (cd_le_n (cd_le_s (cd_le_n (cd_le_s (cd_le_n (cd_le_s (cd_le_s cd_le_0))))))))
def f8_readFrame_1_L54 : Nat → Int64 → Int64 → Int32 → Int32 → cd_M → Option (Int32 × cd_M)
  | 0, _, _, _, _, _ => none
  | n + 1, a2, a4, a6, a7, M => if 2 * a6 ≤ a7 then ((f1_add_3 a2 a4 M).bind fun M9 => (f8_takeSemicolon_1 M9).bind (cd_u2 fun v11 M10 => some (v11, M10))) else ((f8_takeNumber_1 0 99 M).bind (cd_u2 fun v15 M14 => if v15 = 0 then (some (0, M14)) else (if a6 ≤ a7 then (cd_lt (f10_withSample a4 (a7 - a6) (M14.1 1 4) M14) fun x18 => f8_readFrame_1_L112 (f8_readFrame_1_L54 n) a2 x18 a6 a7 M14) else (cd_lt (f10_withSample a2 a7 (M14.1 1 4) M14) fun x20 => f8_readFrame_1_L112 (f8_readFrame_1_L54 n) x20 a4 a6 a7 M14))))
set_option maxRecDepth 8000 in
theorem k8_readFrame_1_L54 : ∀ (n : Nat) (a2 : Int64) (a4 : Int64) (a6 : Int32) (a7 : Int32) (M : cd_M), cd_R 101 54 [some (.ref 1), none, some (.long (a2)), none, some (.long (a4)), none, some (.int (a6)), some (.int (a7))] [] M (w_PM (f8_readFrame_1_L54 n a2 a4 a6 a7 M)) := by
  intro n
  induction n with
  | zero =>
    intro a2 a4 a6 a7 M
    exact q_none w_PM rfl
  | succ n ih =>
    intro a2 a4 a6 a7 M
    rw [f8_readFrame_1_L54]
    refine r_ld (.iload 7) 2 0 7 (.int (a7)) rfl rfl rfl rfl 56 rfl ?_
    refine q_const (.iconst 2) 1 rfl rfl rfl 57 (2) _ rfl cd_kj2 ?_
    refine r_ld (.iload 6) 2 0 6 (.int (a6)) rfl rfl rfl rfl 59 rfl ?_
    refine r_go (.imul) 1 rfl rfl rfl 60 [.int (2 * a6), .int (a7)] rfl ?_
    refine q_br w_PM (.if_icmp .ge 58) 3 rfl rfl rfl (2 * a6 ≤ a7) 118 63 [] rfl (fun _ => ?_) (fun _ => ?_)
    · refine r_ld (.aload_n 0) 1 2 0 (.ref 1) rfl rfl rfl rfl 119 rfl ?_
      refine r_go (.getfield 23) 3 rfl rfl rfl 122 [.ref 3] rfl ?_
      refine r_ld (.lload_n 2) 1 1 2 (.long (a2)) rfl rfl rfl rfl 123 rfl ?_
      refine r_ld (.lload 4) 2 1 4 (.long (a4)) rfl rfl rfl rfl 125 rfl ?_
      refine q_cV w_PM rfl (.invokevirtual 89) rfl rfl rfl 15 [.ref 3, .long (a2), .long (a4)] [] rfl (k1_add_3 a2 a4 M) (fun M9 => ?_)
      refine r_ld (.aload_n 0) 1 2 0 (.ref 1) rfl rfl rfl rfl 129 rfl ?_
      refine q_cMz w_PM rfl (.invokevirtual 60) rfl rfl rfl 108 rfl [.ref 1] [] rfl (k8_takeSemicolon_1 M9) (fun v11 M10 z12 => ?_)
      exact r_retZ rfl rfl z12
    · refine r_ld (.aload_n 0) 1 2 0 (.ref 1) rfl rfl rfl rfl 64 rfl ?_
      refine q_const (.iconst 0) 1 rfl rfl rfl 65 (0) _ rfl cd_kj0 ?_
      refine q_const (.bipush 99) 2 rfl rfl rfl 67 (99) _ rfl cd_kc99 ?_
      refine q_cMz w_PM rfl (.invokevirtual 53) rfl rfl rfl 109 rfl [.ref 1, .int (0), .int (99)] [] rfl (k8_takeNumber_1 0 99 M) (fun v15 M14 z16 => ?_)
      refine q_br w_PM (.ifCond .ne 5) 3 rfl rfl rfl (v15 = 0) 73 75 [] rfl (fun _ => ?_) (fun _ => ?_)
      · refine q_const (.iconst 0) 1 rfl rfl rfl 74 (0) _ rfl cd_kj0 ?_
        exact r_retZ rfl rfl (by decide)
      · refine r_ld (.iload 7) 2 0 7 (.int (a7)) rfl rfl rfl rfl 77 rfl ?_
        refine r_ld (.iload 6) 2 0 6 (.int (a6)) rfl rfl rfl rfl 79 rfl ?_
        refine q_br w_PM (.if_icmp .ge 17) 3 rfl rfl rfl (a6 ≤ a7) 96 82 [] rfl (fun _ => ?_) (fun _ => ?_)
        · refine r_ld (.lload 4) 2 1 4 (.long (a4)) rfl rfl rfl rfl 98 rfl ?_
          refine r_ld (.iload 7) 2 0 7 (.int (a7)) rfl rfl rfl rfl 100 rfl ?_
          refine r_ld (.iload 6) 2 0 6 (.int (a6)) rfl rfl rfl rfl 102 rfl ?_
          refine r_go (.isub) 1 rfl rfl rfl 103 [.int (a7 - a6), .long (a4)] rfl ?_
          refine r_ld (.aload_n 0) 1 2 0 (.ref 1) rfl rfl rfl rfl 104 rfl ?_
          refine r_go (.getfield 38) 3 rfl rfl rfl 107 [.int (M14.1 1 4), .int (a7 - a6), .long (a4)] rfl ?_
          refine q_cTL (.invokestatic 85) rfl rfl rfl 159 [.long (a4), .int (a7 - a6), .int (M14.1 1 4)] [] rfl (k10_withSample a4 (a7 - a6) (M14.1 1 4) M14) ?_
          refine q_stBL w_PM (.lstore 4) 2 1 4 rfl rfl (fun _ => rfl) 112 rfl (fun x18 => [some (.ref 1), none, some (.long (a2)), none, some (.long (x18)), none, some (.int (a6)), some (.int (a7))]) (fun _ => rfl) (fun x18 => ?_)
          exact r_w (k8_readFrame_1_L112 (f8_readFrame_1_L54 n) ih a2 x18 a6 a7 M14) (cd_le_s (cd_le_n (cd_le_s (cd_le_n (cd_le_s (cd_le_n (cd_le_s (cd_le_s cd_le_0))))))))
        · refine r_ld (.lload_n 2) 1 1 2 (.long (a2)) rfl rfl rfl rfl 83 rfl ?_
          refine r_ld (.iload 7) 2 0 7 (.int (a7)) rfl rfl rfl rfl 85 rfl ?_
          refine r_ld (.aload_n 0) 1 2 0 (.ref 1) rfl rfl rfl rfl 86 rfl ?_
          refine r_go (.getfield 38) 3 rfl rfl rfl 89 [.int (M14.1 1 4), .int (a7), .long (a2)] rfl ?_
          refine q_cTL (.invokestatic 85) rfl rfl rfl 159 [.long (a2), .int (a7), .int (M14.1 1 4)] [] rfl (k10_withSample a2 a7 (M14.1 1 4) M14) ?_
          refine q_stBL w_PM (.lstore_n 2) 1 1 2 rfl rfl (fun _ => rfl) 93 rfl (fun x20 => [some (.ref 1), none, some (.long (x20)), none, some (.long (a4)), none, some (.int (a6)), some (.int (a7))]) (fun _ => rfl) (fun x20 => ?_)
          refine r_go (.goto 19) 3 rfl rfl rfl 112 [] rfl ?_
          exact r_w (k8_readFrame_1_L112 (f8_readFrame_1_L54 n) ih x20 a4 a6 a7 M14) (cd_le_s (cd_le_n (cd_le_s (cd_le_n (cd_le_s (cd_le_n (cd_le_s (cd_le_s cd_le_0))))))))
def f8_readFrame_1 (a1 : Int32) (M : cd_M) : Option (Int32 × cd_M) := (f7_isWord_2_1001 M).bind fun v1 => if v1 = 0 then (cd_lt (f8_refuse_1 1 M) (cd_u2 fun v4 M3 => some (v4, M3))) else (if a1 < 20 then ((f7_advance_2 M).bind fun M7 => cd_lt (f1_width_3 M7) fun x8 => f8_readFrame_1_L54 cd_fu 0 0 x8 0 M7) else (cd_lt (f8_refuse_1 4 M) (cd_u2 fun v22 M21 => some (v22, M21))))
set_option maxRecDepth 8000 in
theorem k8_readFrame_1 (a1 : Int32) (M : cd_M) : cd_R 101 0 [some (.ref 1), some (.int (a1)), none, none, none, none, none, none] [] M (w_PM (f8_readFrame_1 a1 M)) := by
  unfold f8_readFrame_1
  refine r_ld (.aload_n 0) 1 2 0 (.ref 1) rfl rfl rfl rfl 1 rfl ?_
  refine r_go (.getfield 12) 3 rfl rfl rfl 4 [.ref 2] rfl ?_
  refine r_go (.ldc 72) 2 rfl rfl rfl 6 [.ref 1001, .ref 2] rfl ?_
  refine q_cIz w_PM rfl (.invokevirtual 74) rfl rfl rfl 89 rfl [.ref 2, .ref 1001] [] rfl (k7_isWord_2_1001 M) (fun v1 z2 => ?_)
  refine q_br w_PM (.ifCond .ne 9) 3 rfl rfl rfl (v1 = 0) 12 18 [] rfl (fun _ => ?_) (fun _ => ?_)
  · refine r_ld (.aload_n 0) 1 2 0 (.ref 1) rfl rfl rfl rfl 13 rfl ?_
    refine q_const (.iconst 1) 1 rfl rfl rfl 14 (1) _ rfl cd_kj1 ?_
    refine q_cTMz w_PM (.invokevirtual 77) rfl rfl rfl 111 rfl [.ref 1, .int (1)] [] rfl (k8_refuse_1 1 M) (fun v4 M3 z5 => ?_)
    exact r_retZ rfl rfl z5
  · refine r_ld (.iload_n 1) 1 0 1 (.int (a1)) rfl rfl rfl rfl 19 rfl ?_
    refine q_const (.bipush 20) 2 rfl rfl rfl 21 (20) _ rfl cd_kc20 ?_
    refine q_br w_PM (.if_icmp .lt 9) 3 rfl rfl rfl (a1 < 20) 30 24 [] rfl (fun _ => ?_) (fun _ => ?_)
    · refine r_ld (.aload_n 0) 1 2 0 (.ref 1) rfl rfl rfl rfl 31 rfl ?_
      refine r_go (.getfield 12) 3 rfl rfl rfl 34 [.ref 2] rfl ?_
      refine q_cV w_PM rfl (.invokevirtual 80) rfl rfl rfl 88 [.ref 2] [] rfl (k7_advance_2 M) (fun M7 => ?_)
      refine r_go (.lconst 0) 1 rfl rfl rfl 38 [.long (0)] rfl ?_
      refine r_st (.lstore_n 2) 1 1 2 rfl rfl rfl 39 rfl [some (.ref 1), some (.int (a1)), some (.long (0)), none, none, none, none, none] rfl ?_
      refine r_go (.lconst 0) 1 rfl rfl rfl 40 [.long (0)] rfl ?_
      refine r_st (.lstore 4) 2 1 4 rfl rfl rfl 42 rfl [some (.ref 1), some (.int (a1)), some (.long (0)), none, some (.long (0)), none, none, none] rfl ?_
      refine r_ld (.aload_n 0) 1 2 0 (.ref 1) rfl rfl rfl rfl 43 rfl ?_
      refine r_go (.getfield 23) 3 rfl rfl rfl 46 [.ref 3] rfl ?_
      refine q_cTI (.invokevirtual 83) rfl rfl rfl 12 [.ref 3] [] rfl (k1_width_3 M7) ?_
      refine q_stB w_PM (.istore 6) 2 0 6 rfl rfl (fun _ => rfl) 51 rfl (fun x8 => [some (.ref 1), some (.int (a1)), some (.long (0)), none, some (.long (0)), none, some (.int (x8)), none]) (fun _ => rfl) (fun x8 => ?_)
      refine q_const (.iconst 0) 1 rfl rfl rfl 52 (0) _ rfl cd_kj0 ?_
      refine r_st (.istore 7) 2 0 7 rfl rfl rfl 54 rfl [some (.ref 1), some (.int (a1)), some (.long (0)), none, some (.long (0)), none, some (.int (x8)), some (.int (0))] rfl ?_
      exact r_w (k8_readFrame_1_L54 cd_fu 0 0 x8 0 M7) (cd_le_s (cd_le_n (cd_le_s (cd_le_n (cd_le_s (cd_le_n (cd_le_s (cd_le_s cd_le_0))))))))
    · refine r_ld (.aload_n 0) 1 2 0 (.ref 1) rfl rfl rfl rfl 25 rfl ?_
      refine q_const (.iconst 4) 1 rfl rfl rfl 26 (4) _ rfl cd_kj4 ?_
      refine q_cTMz w_PM (.invokevirtual 77) rfl rfl rfl 111 rfl [.ref 1, .int (4)] [] rfl (k8_refuse_1 4 M) (fun v22 M21 z23 => ?_)
      exact r_retZ rfl rfl z23
def f8_readFilm_1_L73 (r51 : Int32 → cd_M → Option (Int32 × cd_M)) (a2 : Int32) (M : cd_M) : Option (Int32 × cd_M) := (f8_readFrame_1 a2 M).bind (cd_u2 fun v16 M15 => if v16 = 0 then (some (0, M15)) else (cd_lt (a2 + (1)) fun x19 => r51 x19 M15))
set_option maxRecDepth 8000 in
theorem k8_readFilm_1_L73 (r51 : Int32 → cd_M → Option (Int32 × cd_M)) (h51 : ∀ (a2 : Int32) (M : cd_M), cd_R 100 51 [some (.ref 1), none, some (.int (a2))] [] M (w_PM (r51 a2 M))) (a2 : Int32) (M : cd_M) : cd_R 100 73 [some (.ref 1), none, some (.int (a2))] [] M (w_PM (f8_readFilm_1_L73 r51 a2 M)) := by
  unfold f8_readFilm_1_L73
  refine r_ld (.aload_n 0) 1 2 0 (.ref 1) rfl rfl rfl rfl 74 rfl ?_
  refine r_ld (.iload_n 2) 1 0 2 (.int (a2)) rfl rfl rfl rfl 75 rfl ?_
  refine q_cMz w_PM rfl (.invokevirtual 68) rfl rfl rfl 101 rfl [.ref 1, .int (a2)] [] rfl (k8_readFrame_1 a2 M) (fun v16 M15 z17 => ?_)
  refine q_br w_PM (.ifCond .ne 5) 3 rfl rfl rfl (v16 = 0) 81 83 [] rfl (fun _ => ?_) (fun _ => ?_)
  · refine q_const (.iconst 0) 1 rfl rfl rfl 82 (0) _ rfl cd_kj0 ?_
    exact r_retZ rfl rfl (by decide)
  · refine q_inc w_PM 2 (1) (a2) rfl rfl rfl 86 rfl (1) cd_kj1 (fun x19 => [some (.ref 1), none, some (.int (x19))]) (fun _ => rfl) (fun x19 => ?_)
    refine r_go (.goto (-35)) 3 rfl rfl rfl 51 [] rfl ?_
    exact r_w (h51 x19 M15) (cd_le_s (cd_le_n (cd_le_s cd_le_0)))
def f8_readFilm_1_L51 : Nat → Int32 → cd_M → Option (Int32 × cd_M)
  | 0, _, _ => none
  | n + 1, a2, M => if 20 < a2 then (some (0, M)) else (if a2 ≤ 0 then (f8_readFilm_1_L73 (f8_readFilm_1_L51 n) a2 M) else (if f7_kind_2 M = 0 then (some (1, M)) else (f8_readFilm_1_L73 (f8_readFilm_1_L51 n) a2 M)))
set_option maxRecDepth 8000 in
theorem k8_readFilm_1_L51 : ∀ (n : Nat) (a2 : Int32) (M : cd_M), cd_R 100 51 [some (.ref 1), none, some (.int (a2))] [] M (w_PM (f8_readFilm_1_L51 n a2 M)) := by
  intro n
  induction n with
  | zero =>
    intro a2 M
    exact q_none w_PM rfl
  | succ n ih =>
    intro a2 M
    rw [f8_readFilm_1_L51]
    refine r_ld (.iload_n 2) 1 0 2 (.int (a2)) rfl rfl rfl rfl 52 rfl ?_
    refine q_const (.bipush 20) 2 rfl rfl rfl 54 (20) _ rfl cd_kc20 ?_
    refine q_br w_PM (.if_icmp .gt 35) 3 rfl rfl rfl (20 < a2) 89 57 [] rfl (fun _ => ?_) (fun _ => ?_)
    · refine q_const (.iconst 0) 1 rfl rfl rfl 90 (0) _ rfl cd_kj0 ?_
      exact r_retZ rfl rfl (by decide)
    · refine r_ld (.iload_n 2) 1 0 2 (.int (a2)) rfl rfl rfl rfl 58 rfl ?_
      refine q_br w_PM (.ifCond .le 15) 3 rfl rfl rfl (a2 ≤ 0) 73 61 [] rfl (fun _ => ?_) (fun _ => ?_)
      · exact r_w (k8_readFilm_1_L73 (f8_readFilm_1_L51 n) ih a2 M) (cd_le_s (cd_le_n (cd_le_s cd_le_0)))
      · refine r_ld (.aload_n 0) 1 2 0 (.ref 1) rfl rfl rfl rfl 62 rfl ?_
        refine r_go (.getfield 12) 3 rfl rfl rfl 65 [.ref 2] rfl ?_
        refine q_cTI (.invokevirtual 64) rfl rfl rfl 85 [.ref 2] [] rfl (k7_kind_2 M) ?_
        refine q_br w_PM (.ifCond .ne 5) 3 rfl rfl rfl (f7_kind_2 M = 0) 71 73 [] rfl (fun _ => ?_) (fun _ => ?_)
        · refine q_const (.iconst 1) 1 rfl rfl rfl 72 (1) _ rfl cd_kj1 ?_
          exact r_retZ rfl rfl (by decide)
        · exact r_w (k8_readFilm_1_L73 (f8_readFilm_1_L51 n) ih a2 M) (cd_le_s (cd_le_n (cd_le_s cd_le_0)))
def f8_readFilm_1 (a1 : Int32) (M : cd_M) : Option (Int32 × cd_M) := (f7_open_2 a1 M).bind fun M1 => (f8_takeWord_1_1000 M1).bind (cd_u2 fun v3 M2 => if v3 = 0 then (some (0, M2)) else ((f8_takeNumber_1 1 6 M2).bind (cd_u2 fun v7 M6 => if v7 = 0 then (some (0, M6)) else (cd_lt (f1_begin_3 (M6.1 1 4) M6) fun M10 => (f8_takeSemicolon_1 M10).bind (cd_u2 fun v12 M11 => if v12 = 0 then (some (0, M11)) else (f8_readFilm_1_L51 cd_fu 0 M11))))))
set_option maxRecDepth 8000 in
theorem k8_readFilm_1 (a1 : Int32) (M : cd_M) : cd_R 100 0 [some (.ref 1), some (.int (a1)), none] [] M (w_PM (f8_readFilm_1 a1 M)) := by
  unfold f8_readFilm_1
  refine r_ld (.aload_n 0) 1 2 0 (.ref 1) rfl rfl rfl rfl 1 rfl ?_
  refine r_go (.getfield 12) 3 rfl rfl rfl 4 [.ref 2] rfl ?_
  refine r_ld (.iload_n 1) 1 0 1 (.int (a1)) rfl rfl rfl rfl 5 rfl ?_
  refine q_cV w_PM rfl (.invokevirtual 44) rfl rfl rfl 84 [.ref 2, .int (a1)] [] rfl (k7_open_2 a1 M) (fun M1 => ?_)
  refine r_ld (.aload_n 0) 1 2 0 (.ref 1) rfl rfl rfl rfl 9 rfl ?_
  refine r_go (.ldc 47) 2 rfl rfl rfl 11 [.ref 1000, .ref 1] rfl ?_
  refine q_cMz w_PM rfl (.invokevirtual 49) rfl rfl rfl 107 rfl [.ref 1, .ref 1000] [] rfl (k8_takeWord_1_1000 M1) (fun v3 M2 z4 => ?_)
  refine q_br w_PM (.ifCond .eq 13) 3 rfl rfl rfl (v3 = 0) 27 17 [] rfl (fun _ => ?_) (fun _ => ?_)
  · refine q_const (.iconst 0) 1 rfl rfl rfl 28 (0) _ rfl cd_kj0 ?_
    exact r_retZ rfl rfl (by decide)
  · refine r_ld (.aload_n 0) 1 2 0 (.ref 1) rfl rfl rfl rfl 18 rfl ?_
    refine q_const (.iconst 1) 1 rfl rfl rfl 19 (1) _ rfl cd_kj1 ?_
    refine q_const (.bipush 6) 2 rfl rfl rfl 21 (6) _ rfl cd_kc6 ?_
    refine q_cMz w_PM rfl (.invokevirtual 53) rfl rfl rfl 109 rfl [.ref 1, .int (1), .int (6)] [] rfl (k8_takeNumber_1 1 6 M2) (fun v7 M6 z8 => ?_)
    refine q_br w_PM (.ifCond .ne 5) 3 rfl rfl rfl (v7 = 0) 27 29 [] rfl (fun _ => ?_) (fun _ => ?_)
    · refine q_const (.iconst 0) 1 rfl rfl rfl 28 (0) _ rfl cd_kj0 ?_
      exact r_retZ rfl rfl (by decide)
    · refine r_ld (.aload_n 0) 1 2 0 (.ref 1) rfl rfl rfl rfl 30 rfl ?_
      refine r_go (.getfield 23) 3 rfl rfl rfl 33 [.ref 3] rfl ?_
      refine r_ld (.aload_n 0) 1 2 0 (.ref 1) rfl rfl rfl rfl 34 rfl ?_
      refine r_go (.getfield 38) 3 rfl rfl rfl 37 [.int (M6.1 1 4), .ref 3] rfl ?_
      refine q_cTV w_PM (.invokevirtual 57) rfl rfl rfl 11 [.ref 3, .int (M6.1 1 4)] [] rfl (k1_begin_3 (M6.1 1 4) M6) (fun M10 => ?_)
      refine r_ld (.aload_n 0) 1 2 0 (.ref 1) rfl rfl rfl rfl 41 rfl ?_
      refine q_cMz w_PM rfl (.invokevirtual 60) rfl rfl rfl 108 rfl [.ref 1] [] rfl (k8_takeSemicolon_1 M10) (fun v12 M11 z13 => ?_)
      refine q_br w_PM (.ifCond .ne 5) 3 rfl rfl rfl (v12 = 0) 47 49 [] rfl (fun _ => ?_) (fun _ => ?_)
      · refine q_const (.iconst 0) 1 rfl rfl rfl 48 (0) _ rfl cd_kj0 ?_
        exact r_retZ rfl rfl (by decide)
      · refine q_const (.iconst 0) 1 rfl rfl rfl 50 (0) _ rfl cd_kj0 ?_
        refine r_st (.istore_n 2) 1 0 2 rfl rfl rfl 51 rfl [some (.ref 1), some (.int (a1)), some (.int (0))] rfl ?_
        exact r_w (k8_readFilm_1_L51 cd_fu 0 M11) (cd_le_s (cd_le_n (cd_le_s cd_le_0)))
def f7_empty_2 (M : cd_M) : cd_M := cd_lt (cd_wI M 2 1 0) fun M1 => M1
set_option maxRecDepth 8000 in
theorem k7_empty_2 (M : cd_M) : cd_R 83 0 [some (.ref 2)] [] M (w_TV (f7_empty_2 M)) := by
  unfold f7_empty_2
  refine r_ld (.aload_n 0) 1 2 0 (.ref 2) rfl rfl rfl rfl 1 rfl ?_
  refine q_const (.iconst 0) 1 rfl rfl rfl 2 (0) _ rfl cd_kj0 ?_
  refine q_wr w_TV (.putfield 15) 3 rfl rfl rfl 5 [] (cd_wI M 2 1 0) rfl (fun M1 => ?_)
  exact r_ret .return_ 1 rfl rfl rfl _ rfl
def f8_frames_1 (M : cd_M) : Nat := 3
set_option maxRecDepth 8000 in
theorem k8_frames_1 (M : cd_M) : cd_R 97 0 [some (.ref 1)] [] M ((w_TR M) (f8_frames_1 M)) := by
  unfold f8_frames_1
  refine r_ld (.aload_n 0) 1 2 0 (.ref 1) rfl rfl rfl rfl 1 rfl ?_
  refine r_go (.getfield 23) 3 rfl rfl rfl 4 [.ref 3] rfl ?_
  exact r_ret .areturn 1 rfl rfl rfl _ rfl
def f1_begin_5 (a1 : Int32) (M : cd_M) : cd_M := cd_lt (cd_wI M 5 2 a1) fun M1 => cd_lt (cd_wI M1 5 3 0) fun M2 => M2
set_option maxRecDepth 8000 in
theorem k1_begin_5 (a1 : Int32) (M : cd_M) : cd_R 11 0 [some (.ref 5), some (.int (a1))] [] M (w_TV (f1_begin_5 a1 M)) := by
  unfold f1_begin_5
  refine r_ld (.aload_n 0) 1 2 0 (.ref 5) rfl rfl rfl rfl 1 rfl ?_
  refine r_ld (.iload_n 1) 1 0 1 (.int (a1)) rfl rfl rfl rfl 2 rfl ?_
  refine q_wr w_TV (.putfield 7) 3 rfl rfl rfl 5 [] (cd_wI M 5 2 a1) rfl (fun M1 => ?_)
  refine r_ld (.aload_n 0) 1 2 0 (.ref 5) rfl rfl rfl rfl 6 rfl ?_
  refine q_const (.iconst 0) 1 rfl rfl rfl 7 (0) _ rfl cd_kj0 ?_
  refine q_wr w_TV (.putfield 13) 3 rfl rfl rfl 10 [] (cd_wI M1 5 3 0) rfl (fun M2 => ?_)
  exact r_ret .return_ 1 rfl rfl rfl _ rfl
def f1_has_3 (a1 : Int32) (M : cd_M) : Int32 := if a1 < 0 then (0) else (if M.1 3 3 ≤ a1 then (0) else (1))
set_option maxRecDepth 8000 in
theorem k1_has_3 (a1 : Int32) (M : cd_M) : cd_R 14 0 [some (.ref 3), some (.int (a1))] [] M ((w_TI M) (f1_has_3 a1 M)) := by
  unfold f1_has_3
  refine r_ld (.iload_n 1) 1 0 1 (.int (a1)) rfl rfl rfl rfl 1 rfl ?_
  refine q_br (w_TI M) (.ifCond .lt 15) 3 rfl rfl rfl (a1 < 0) 16 4 [] rfl (fun _ => ?_) (fun _ => ?_)
  · refine q_const (.iconst 0) 1 rfl rfl rfl 17 (0) _ rfl cd_kj0 ?_
    exact r_retZ rfl rfl (by decide)
  · refine r_ld (.iload_n 1) 1 0 1 (.int (a1)) rfl rfl rfl rfl 5 rfl ?_
    refine r_ld (.aload_n 0) 1 2 0 (.ref 3) rfl rfl rfl rfl 6 rfl ?_
    refine r_go (.getfield 13) 3 rfl rfl rfl 9 [.int (M.1 3 3), .int (a1)] rfl ?_
    refine q_br (w_TI M) (.if_icmp .ge 7) 3 rfl rfl rfl (M.1 3 3 ≤ a1) 16 12 [] rfl (fun _ => ?_) (fun _ => ?_)
    · refine q_const (.iconst 0) 1 rfl rfl rfl 17 (0) _ rfl cd_kj0 ?_
      exact r_retZ rfl rfl (by decide)
    · refine q_const (.iconst 1) 1 rfl rfl rfl 13 (1) _ rfl cd_kj1 ?_
      refine r_go (.goto 4) 3 rfl rfl rfl 17 [.int (1)] rfl ?_
      exact r_retZ rfl rfl (by decide)
def f1_row_3 (a1 : Int32) (a2 : Int32) (M : cd_M) : Option (Int64) := if f1_has_3 a1 M = 0 then (some 0) else (if a2 = 0 then (if cd_in a1 20 = true then (some (M.2 18 a1.toNatClampNeg)) else none) else (if cd_in a1 20 = true then (some (M.2 19 a1.toNatClampNeg)) else none))
set_option maxRecDepth 8000 in
theorem k1_row_3 (a1 : Int32) (a2 : Int32) (M : cd_M) : cd_R 16 0 [some (.ref 3), some (.int (a1)), some (.int (a2))] [] M ((w_PL M) (f1_row_3 a1 a2 M)) := by
  unfold f1_row_3
  refine r_ld (.aload_n 0) 1 2 0 (.ref 3) rfl rfl rfl rfl 1 rfl ?_
  refine r_ld (.iload_n 1) 1 0 1 (.int (a1)) rfl rfl rfl rfl 2 rfl ?_
  refine q_cTIz (.invokevirtual 29) rfl rfl rfl 14 rfl [.ref 3, .int (a1)] [] rfl (k1_has_3 a1 M) (fun z1 => ?_)
  refine q_br (w_PL M) (.ifCond .ne 5) 3 rfl rfl rfl (f1_has_3 a1 M = 0) 8 10 [] rfl (fun _ => ?_) (fun _ => ?_)
  · refine r_go (.lconst 0) 1 rfl rfl rfl 9 [.long (0)] rfl ?_
    exact r_ret .lreturn 1 rfl rfl rfl _ rfl
  · refine r_ld (.iload_n 2) 1 0 2 (.int (a2)) rfl rfl rfl rfl 11 rfl ?_
    refine q_br (w_PL M) (.ifCond .ne 12) 3 rfl rfl rfl (a2 = 0) 14 23 [] rfl (fun _ => ?_) (fun _ => ?_)
    · refine r_ld (.aload_n 0) 1 2 0 (.ref 3) rfl rfl rfl rfl 15 rfl ?_
      refine r_go (.getfield 22) 3 rfl rfl rfl 18 [.ref 18] rfl ?_
      refine r_ld (.iload_n 1) 1 0 1 (.int (a1)) rfl rfl rfl rfl 19 rfl ?_
      refine q_lald (w_PL M) rfl rfl 18 20 rfl ?_
      refine r_go (.goto 9) 3 rfl rfl rfl 29 [.long (M.2 18 a1.toNatClampNeg)] rfl ?_
      exact r_ret .lreturn 1 rfl rfl rfl _ rfl
    · refine r_ld (.aload_n 0) 1 2 0 (.ref 3) rfl rfl rfl rfl 24 rfl ?_
      refine r_go (.getfield 26) 3 rfl rfl rfl 27 [.ref 19] rfl ?_
      refine r_ld (.iload_n 1) 1 0 1 (.int (a1)) rfl rfl rfl rfl 28 rfl ?_
      refine q_lald (w_PL M) rfl rfl 19 20 rfl ?_
      exact r_ret .lreturn 1 rfl rfl rfl _ rfl
def f1_add_5 (a1 : Int64) (a2 : Int64) (M : cd_M) : Option cd_M := if 20 ≤ M.1 5 3 then (some M) else (if 20 ≤ M.1 5 3 then (some M) else (if cd_in (M.1 5 3) 20 = true then (cd_lt (cd_wL M 23 (M.1 5 3 : Int32).toNatClampNeg a1) fun M1 => if cd_in (M1.1 5 3) 20 = true then (cd_lt (cd_wL M1 24 (M1.1 5 3 : Int32).toNatClampNeg a2) fun M2 => cd_lt (cd_wI M2 5 3 ((M2.1 5 3) + 1)) fun M3 => some M3) else none) else none))
set_option maxRecDepth 8000 in
theorem k1_add_5 (a1 : Int64) (a2 : Int64) (M : cd_M) : cd_R 15 0 [some (.ref 5), some (.long (a1)), none, some (.long (a2)), none] [] M (w_PV (f1_add_5 a1 a2 M)) := by
  unfold f1_add_5
  refine r_ld (.aload_n 0) 1 2 0 (.ref 5) rfl rfl rfl rfl 1 rfl ?_
  refine r_go (.getfield 13) 3 rfl rfl rfl 4 [.int (M.1 5 3)] rfl ?_
  refine r_ld (.aload_n 0) 1 2 0 (.ref 5) rfl rfl rfl rfl 5 rfl ?_
  refine r_go (.getfield 22) 3 rfl rfl rfl 8 [.ref 23, .int (M.1 5 3)] rfl ?_
  refine r_go (.arraylength) 1 rfl rfl rfl 9 [.int (20), .int (M.1 5 3)] rfl ?_
  refine q_br w_PV (.if_icmp .ge 45) 3 rfl rfl rfl (20 ≤ M.1 5 3) 54 12 [] rfl (fun _ => ?_) (fun _ => ?_)
  · exact r_ret .return_ 1 rfl rfl rfl _ rfl
  · refine r_ld (.aload_n 0) 1 2 0 (.ref 5) rfl rfl rfl rfl 13 rfl ?_
    refine r_go (.getfield 13) 3 rfl rfl rfl 16 [.int (M.1 5 3)] rfl ?_
    refine r_ld (.aload_n 0) 1 2 0 (.ref 5) rfl rfl rfl rfl 17 rfl ?_
    refine r_go (.getfield 26) 3 rfl rfl rfl 20 [.ref 24, .int (M.1 5 3)] rfl ?_
    refine r_go (.arraylength) 1 rfl rfl rfl 21 [.int (20), .int (M.1 5 3)] rfl ?_
    refine q_br w_PV (.if_icmp .ge 33) 3 rfl rfl rfl (20 ≤ M.1 5 3) 54 24 [] rfl (fun _ => ?_) (fun _ => ?_)
    · exact r_ret .return_ 1 rfl rfl rfl _ rfl
    · refine r_ld (.aload_n 0) 1 2 0 (.ref 5) rfl rfl rfl rfl 25 rfl ?_
      refine r_go (.getfield 22) 3 rfl rfl rfl 28 [.ref 23] rfl ?_
      refine r_ld (.aload_n 0) 1 2 0 (.ref 5) rfl rfl rfl rfl 29 rfl ?_
      refine r_go (.getfield 13) 3 rfl rfl rfl 32 [.int (M.1 5 3), .ref 23] rfl ?_
      refine r_ld (.lload_n 1) 1 1 1 (.long (a1)) rfl rfl rfl rfl 33 rfl ?_
      refine q_last w_PV rfl rfl 23 20 rfl (fun M1 => ?_)
      refine r_ld (.aload_n 0) 1 2 0 (.ref 5) rfl rfl rfl rfl 35 rfl ?_
      refine r_go (.getfield 26) 3 rfl rfl rfl 38 [.ref 24] rfl ?_
      refine r_ld (.aload_n 0) 1 2 0 (.ref 5) rfl rfl rfl rfl 39 rfl ?_
      refine r_go (.getfield 13) 3 rfl rfl rfl 42 [.int (M1.1 5 3), .ref 24] rfl ?_
      refine r_ld (.lload_n 3) 1 1 3 (.long (a2)) rfl rfl rfl rfl 43 rfl ?_
      refine q_last w_PV rfl rfl 24 20 rfl (fun M2 => ?_)
      refine r_ld (.aload_n 0) 1 2 0 (.ref 5) rfl rfl rfl rfl 45 rfl ?_
      refine r_go (.dup) 1 rfl rfl rfl 46 [.ref 5, .ref 5] rfl ?_
      refine r_go (.getfield 13) 3 rfl rfl rfl 49 [.int (M2.1 5 3), .ref 5] rfl ?_
      refine q_const (.iconst 1) 1 rfl rfl rfl 50 (1) _ rfl cd_kj1 ?_
      refine r_go (.iadd) 1 rfl rfl rfl 51 [.int ((M2.1 5 3) + 1), .ref 5] rfl ?_
      refine q_wr w_PV (.putfield 13) 3 rfl rfl rfl 54 [] (cd_wI M2 5 3 ((M2.1 5 3) + 1)) rfl (fun M3 => ?_)
      exact r_ret .return_ 1 rfl rfl rfl _ rfl
def f1_copyFrom_5_3_L10 : Nat → Int32 → cd_M → Option cd_M
  | 0, _, _ => none
  | n + 1, a2, M => if M.1 3 3 ≤ a2 then (some M) else ((f1_row_3 a2 0 M).bind fun v2 => (f1_row_3 a2 1 M).bind fun v3 => (f1_add_5 v2 v3 M).bind fun M4 => cd_lt (a2 + (1)) fun x5 => f1_copyFrom_5_3_L10 n x5 M4)
set_option maxRecDepth 8000 in
theorem k1_copyFrom_5_3_L10 : ∀ (n : Nat) (a2 : Int32) (M : cd_M), cd_R 18 10 [some (.ref 5), some (.ref 3), some (.int (a2))] [] M (w_PV (f1_copyFrom_5_3_L10 n a2 M)) := by
  intro n
  induction n with
  | zero =>
    intro a2 M
    exact q_none w_PV rfl
  | succ n ih =>
    intro a2 M
    rw [f1_copyFrom_5_3_L10]
    refine r_ld (.iload_n 2) 1 0 2 (.int (a2)) rfl rfl rfl rfl 11 rfl ?_
    refine r_ld (.aload_n 1) 1 2 1 (.ref 3) rfl rfl rfl rfl 12 rfl ?_
    refine r_go (.getfield 13) 3 rfl rfl rfl 15 [.int (M.1 3 3), .int (a2)] rfl ?_
    refine q_br w_PV (.if_icmp .ge 25) 3 rfl rfl rfl (M.1 3 3 ≤ a2) 40 18 [] rfl (fun _ => ?_) (fun _ => ?_)
    · exact r_ret .return_ 1 rfl rfl rfl _ rfl
    · refine r_ld (.aload_n 0) 1 2 0 (.ref 5) rfl rfl rfl rfl 19 rfl ?_
      refine r_ld (.aload_n 1) 1 2 1 (.ref 3) rfl rfl rfl rfl 20 rfl ?_
      refine r_ld (.iload_n 2) 1 0 2 (.int (a2)) rfl rfl rfl rfl 21 rfl ?_
      refine q_const (.iconst 0) 1 rfl rfl rfl 22 (0) _ rfl cd_kj0 ?_
      refine q_cL w_PV rfl (.invokevirtual 33) rfl rfl rfl 16 [.ref 3, .int (a2), .int (0)] [.ref 5] rfl (k1_row_3 a2 0 M) (fun v2 => ?_)
      refine r_ld (.aload_n 1) 1 2 1 (.ref 3) rfl rfl rfl rfl 26 rfl ?_
      refine r_ld (.iload_n 2) 1 0 2 (.int (a2)) rfl rfl rfl rfl 27 rfl ?_
      refine q_const (.iconst 1) 1 rfl rfl rfl 28 (1) _ rfl cd_kj1 ?_
      refine q_cL w_PV rfl (.invokevirtual 33) rfl rfl rfl 16 [.ref 3, .int (a2), .int (1)] [.long (v2), .ref 5] rfl (k1_row_3 a2 1 M) (fun v3 => ?_)
      refine q_cV w_PV rfl (.invokevirtual 41) rfl rfl rfl 15 [.ref 5, .long (v2), .long (v3)] [] rfl (k1_add_5 v2 v3 M) (fun M4 => ?_)
      refine q_inc w_PV 2 (1) (a2) rfl rfl rfl 37 rfl (1) cd_kj1 (fun x5 => [some (.ref 5), some (.ref 3), some (.int (x5))]) (fun _ => rfl) (fun x5 => ?_)
      refine r_go (.goto (-27)) 3 rfl rfl rfl 10 [] rfl ?_
      exact r_w (ih x5 M4) (cd_le_s (cd_le_s (cd_le_s cd_le_0)))
def f1_copyFrom_5_3 (M : cd_M) : Option cd_M := cd_lt (f1_begin_5 (M.1 3 2) M) fun M1 => f1_copyFrom_5_3_L10 cd_fu 0 M1
set_option maxRecDepth 8000 in
theorem k1_copyFrom_5_3 (M : cd_M) : cd_R 18 0 [some (.ref 5), some (.ref 3), none] [] M (w_PV (f1_copyFrom_5_3 M)) := by
  unfold f1_copyFrom_5_3
  refine r_ld (.aload_n 0) 1 2 0 (.ref 5) rfl rfl rfl rfl 1 rfl ?_
  refine r_ld (.aload_n 1) 1 2 1 (.ref 3) rfl rfl rfl rfl 2 rfl ?_
  refine r_go (.getfield 7) 3 rfl rfl rfl 5 [.int (M.1 3 2), .ref 5] rfl ?_
  refine q_cTV w_PV (.invokevirtual 37) rfl rfl rfl 11 [.ref 5, .int (M.1 3 2)] [] rfl (k1_begin_5 (M.1 3 2) M) (fun M1 => ?_)
  refine q_const (.iconst 0) 1 rfl rfl rfl 9 (0) _ rfl cd_kj0 ?_
  refine r_st (.istore_n 2) 1 0 2 rfl rfl rfl 10 rfl [some (.ref 5), some (.ref 3), some (.int (0))] rfl ?_
  exact r_w (k1_copyFrom_5_3_L10 cd_fu 0 M1) (cd_le_s (cd_le_s (cd_le_s cd_le_0)))
def f4_empty_7 (M : cd_M) : cd_M := cd_lt (cd_wI M 7 1 0) fun M1 => M1
set_option maxRecDepth 8000 in
theorem k4_empty_7 (M : cd_M) : cd_R 42 0 [some (.ref 7)] [] M (w_TV (f4_empty_7 M)) := by
  unfold f4_empty_7
  refine r_ld (.aload_n 0) 1 2 0 (.ref 7) rfl rfl rfl rfl 1 rfl ?_
  refine q_const (.iconst 0) 1 rfl rfl rfl 2 (0) _ rfl cd_kj0 ?_
  refine q_wr w_TV (.putfield 15) 3 rfl rfl rfl 5 [] (cd_wI M 7 1 0) rfl (fun M1 => ?_)
  exact r_ret .return_ 1 rfl rfl rfl _ rfl
def f3_empty_8 (M : cd_M) : cd_M := cd_lt (cd_wI M 8 3 0) fun M1 => M1
set_option maxRecDepth 8000 in
theorem k3_empty_8 (M : cd_M) : cd_R 38 0 [some (.ref 8)] [] M (w_TV (f3_empty_8 M)) := by
  unfold f3_empty_8
  refine r_ld (.aload_n 0) 1 2 0 (.ref 8) rfl rfl rfl rfl 1 rfl ?_
  refine q_const (.iconst 0) 1 rfl rfl rfl 2 (0) _ rfl cd_kj0 ?_
  refine q_wr w_TV (.putfield 23) 3 rfl rfl rfl 5 [] (cd_wI M 8 3 0) rfl (fun M1 => ?_)
  exact r_ret .return_ 1 rfl rfl rfl _ rfl
def f0_forget_9_L2 : Nat → Int32 → cd_M → Option cd_M
  | 0, _, _ => none
  | n + 1, a1, M => if 4 ≤ a1 then (some M) else (if cd_in a1 4 = true then (cd_lt (cd_wI M 35 a1.toNatClampNeg (vp_nar .boolean 0)) fun M1 => cd_lt (a1 + (1)) fun x2 => f0_forget_9_L2 n x2 M1) else none)
set_option maxRecDepth 8000 in
theorem k0_forget_9_L2 : ∀ (n : Nat) (a1 : Int32) (M : cd_M), cd_R 1 2 [some (.ref 9), some (.int (a1))] [] M (w_PV (f0_forget_9_L2 n a1 M)) := by
  intro n
  induction n with
  | zero =>
    intro a1 M
    exact q_none w_PV rfl
  | succ n ih =>
    intro a1 M
    rw [f0_forget_9_L2]
    refine r_ld (.iload_n 1) 1 0 1 (.int (a1)) rfl rfl rfl rfl 3 rfl ?_
    refine q_const (.iconst 4) 1 rfl rfl rfl 4 (4) _ rfl cd_kj4 ?_
    refine q_br w_PV (.if_icmp .ge 16) 3 rfl rfl rfl (4 ≤ a1) 20 7 [] rfl (fun _ => ?_) (fun _ => ?_)
    · exact r_ret .return_ 1 rfl rfl rfl _ rfl
    · refine r_ld (.aload_n 0) 1 2 0 (.ref 9) rfl rfl rfl rfl 8 rfl ?_
      refine r_go (.getfield 36) 3 rfl rfl rfl 11 [.ref 35] rfl ?_
      refine r_ld (.iload_n 1) 1 0 1 (.int (a1)) rfl rfl rfl rfl 12 rfl ?_
      refine q_const (.iconst 0) 1 rfl rfl rfl 13 (0) _ rfl cd_kj0 ?_
      refine q_zast w_PV rfl rfl 35 4 rfl (fun M1 => ?_)
      refine q_inc w_PV 1 (1) (a1) rfl rfl rfl 17 rfl (1) cd_kj1 (fun x2 => [some (.ref 9), some (.int (x2))]) (fun _ => rfl) (fun x2 => ?_)
      refine r_go (.goto (-15)) 3 rfl rfl rfl 2 [] rfl ?_
      exact r_w (ih x2 M1) (cd_le_s (cd_le_s cd_le_0))
def f0_forget_9 (M : cd_M) : Option cd_M := f0_forget_9_L2 cd_fu 0 M
set_option maxRecDepth 8000 in
theorem k0_forget_9 (M : cd_M) : cd_R 1 0 [some (.ref 9), none] [] M (w_PV (f0_forget_9 M)) := by
  unfold f0_forget_9
  refine q_const (.iconst 0) 1 rfl rfl rfl 1 (0) _ rfl cd_kj0 ?_
  refine r_st (.istore_n 1) 1 0 1 rfl rfl rfl 2 rfl [some (.ref 9), some (.int (0))] rfl ?_
  exact r_w (k0_forget_9_L2 cd_fu 0 M) (cd_le_s (cd_le_s cd_le_0))
def f10_forgetPaths_0 (M : cd_M) : Option cd_M := cd_lt (cd_wI M 0 11 0) fun M1 => (f0_forget_9 M1).bind fun M2 => some M2
set_option maxRecDepth 8000 in
theorem k10_forgetPaths_0 (M : cd_M) : cd_R 152 0 [some (.ref 0)] [] M (w_PV (f10_forgetPaths_0 M)) := by
  unfold f10_forgetPaths_0
  refine r_ld (.aload_n 0) 1 2 0 (.ref 0) rfl rfl rfl rfl 1 rfl ?_
  refine q_const (.iconst 0) 1 rfl rfl rfl 2 (0) _ rfl cd_kj0 ?_
  refine q_wr w_PV (.putfield 78) 3 rfl rfl rfl 5 [] (cd_wI M 0 11 0) rfl (fun M1 => ?_)
  refine r_ld (.aload_n 0) 1 2 0 (.ref 0) rfl rfl rfl rfl 6 rfl ?_
  refine r_go (.getfield 49) 3 rfl rfl rfl 9 [.ref 9] rfl ?_
  refine q_cV w_PV rfl (.invokevirtual 310) rfl rfl rfl 1 [.ref 9] [] rfl (k0_forget_9 M1) (fun M2 => ?_)
  exact r_ret .return_ 1 rfl rfl rfl _ rfl
def f1_size_5 (M : cd_M) : Int32 := (M.1 5 3)
set_option maxRecDepth 8000 in
theorem k1_size_5 (M : cd_M) : cd_R 13 0 [some (.ref 5)] [] M ((w_TI M) (f1_size_5 M)) := by
  unfold f1_size_5
  refine r_ld (.aload_n 0) 1 2 0 (.ref 5) rfl rfl rfl rfl 1 rfl ?_
  refine r_go (.getfield 13) 3 rfl rfl rfl 4 [.int (M.1 5 3)] rfl ?_
  exact r_ret .ireturn 1 rfl rfl rfl _ rfl
def f8_fault_1 (M : cd_M) : Int32 := (M.1 1 3)
set_option maxRecDepth 8000 in
theorem k8_fault_1 (M : cd_M) : cd_R 99 0 [some (.ref 1)] [] M ((w_TI M) (f8_fault_1 M)) := by
  unfold f8_fault_1
  refine r_ld (.aload_n 0) 1 2 0 (.ref 1) rfl rfl rfl rfl 1 rfl ?_
  refine r_go (.getfield 34) 3 rfl rfl rfl 4 [.int (M.1 1 3)] rfl ?_
  exact r_ret .ireturn 1 rfl rfl rfl _ rfl
def f10_film_0 (a1 : Int32) (M : cd_M) : Option (Int32 × cd_M) := if f7_holds_2 a1 M = 0 then (some ((-1), M)) else ((f8_readFilm_1 a1 M).bind (cd_u2 fun v3 M2 => cd_lt (f7_empty_2 M2) fun M6 => if v3 = 0 then (some ((-2) - (f8_fault_1 M6), M6)) else ((f1_copyFrom_5_3 M6).bind fun M7 => cd_lt (f4_empty_7 M7) fun M8 => cd_lt (f3_empty_8 M8) fun M9 => (f10_forgetPaths_0 M9).bind fun M10 => some (f1_size_5 M10, M10))))
set_option maxRecDepth 8000 in
theorem k10_film_0 (a1 : Int32) (M : cd_M) : cd_R 127 0 [some (.ref 0), some (.int (a1)), none] [] M (w_PM (f10_film_0 a1 M)) := by
  unfold f10_film_0
  refine r_ld (.aload_n 0) 1 2 0 (.ref 0) rfl rfl rfl rfl 1 rfl ?_
  refine r_go (.getfield 10) 3 rfl rfl rfl 4 [.ref 1] rfl ?_
  refine q_cTR (.invokevirtual 82) rfl rfl rfl 96 [.ref 1] [] rfl (k8_tape_1 M) ?_
  refine r_ld (.iload_n 1) 1 0 1 (.int (a1)) rfl rfl rfl rfl 8 rfl ?_
  refine q_cTIz (.invokevirtual 99) rfl rfl rfl 82 rfl [.ref 2, .int (a1)] [] rfl (k7_holds_2 a1 M) (fun z1 => ?_)
  refine q_br w_PM (.ifCond .ne 5) 3 rfl rfl rfl (f7_holds_2 a1 M = 0) 14 16 [] rfl (fun _ => ?_) (fun _ => ?_)
  · refine q_const (.iconst (-1)) 1 rfl rfl rfl 15 (-1) _ rfl cd_kjm1 ?_
    exact r_ret .ireturn 1 rfl rfl rfl _ rfl
  · refine r_ld (.aload_n 0) 1 2 0 (.ref 0) rfl rfl rfl rfl 17 rfl ?_
    refine r_go (.getfield 10) 3 rfl rfl rfl 20 [.ref 1] rfl ?_
    refine r_ld (.iload_n 1) 1 0 1 (.int (a1)) rfl rfl rfl rfl 21 rfl ?_
    refine q_cMz w_PM rfl (.invokevirtual 103) rfl rfl rfl 100 rfl [.ref 1, .int (a1)] [] rfl (k8_readFilm_1 a1 M) (fun v3 M2 z4 => ?_)
    refine r_st (.istore_n 2) 1 0 2 rfl rfl rfl 25 rfl [some (.ref 0), some (.int (a1)), some (.int (v3))] rfl ?_
    refine r_ld (.aload_n 0) 1 2 0 (.ref 0) rfl rfl rfl rfl 26 rfl ?_
    refine r_go (.getfield 10) 3 rfl rfl rfl 29 [.ref 1] rfl ?_
    refine q_cTR (.invokevirtual 82) rfl rfl rfl 96 [.ref 1] [] rfl (k8_tape_1 M2) ?_
    refine q_cTV w_PM (.invokevirtual 106) rfl rfl rfl 83 [.ref 2] [] rfl (k7_empty_2 M2) (fun M6 => ?_)
    refine r_ld (.iload_n 2) 1 0 2 (.int (v3)) rfl rfl rfl rfl 36 rfl ?_
    refine q_br w_PM (.ifCond .ne 14) 3 rfl rfl rfl (v3 = 0) 39 50 [] rfl (fun _ => ?_) (fun _ => ?_)
    · refine q_const (.bipush (-2)) 2 rfl rfl rfl 41 (-2) _ rfl cd_kcm2 ?_
      refine r_ld (.aload_n 0) 1 2 0 (.ref 0) rfl rfl rfl rfl 42 rfl ?_
      refine r_go (.getfield 10) 3 rfl rfl rfl 45 [.ref 1, .int ((-2))] rfl ?_
      refine q_cTI (.invokevirtual 109) rfl rfl rfl 99 [.ref 1] [.int ((-2))] rfl (k8_fault_1 M6) ?_
      refine r_go (.isub) 1 rfl rfl rfl 49 [.int ((-2) - (f8_fault_1 M6))] rfl ?_
      exact r_ret .ireturn 1 rfl rfl rfl _ rfl
    · refine r_ld (.aload_n 0) 1 2 0 (.ref 0) rfl rfl rfl rfl 51 rfl ?_
      refine r_go (.getfield 21) 3 rfl rfl rfl 54 [.ref 5] rfl ?_
      refine r_ld (.aload_n 0) 1 2 0 (.ref 0) rfl rfl rfl rfl 55 rfl ?_
      refine r_go (.getfield 10) 3 rfl rfl rfl 58 [.ref 1, .ref 5] rfl ?_
      refine q_cTR (.invokevirtual 112) rfl rfl rfl 97 [.ref 1] [.ref 5] rfl (k8_frames_1 M6) ?_
      refine q_cV w_PM rfl (.invokevirtual 116) rfl rfl rfl 18 [.ref 5, .ref 3] [] rfl (k1_copyFrom_5_3 M6) (fun M7 => ?_)
      refine r_ld (.aload_n 0) 1 2 0 (.ref 0) rfl rfl rfl rfl 65 rfl ?_
      refine r_go (.getfield 35) 3 rfl rfl rfl 68 [.ref 7] rfl ?_
      refine q_cTV w_PM (.invokevirtual 120) rfl rfl rfl 42 [.ref 7] [] rfl (k4_empty_7 M7) (fun M8 => ?_)
      refine r_ld (.aload_n 0) 1 2 0 (.ref 0) rfl rfl rfl rfl 72 rfl ?_
      refine r_go (.getfield 42) 3 rfl rfl rfl 75 [.ref 8] rfl ?_
      refine q_cTV w_PM (.invokevirtual 121) rfl rfl rfl 38 [.ref 8] [] rfl (k3_empty_8 M8) (fun M9 => ?_)
      refine r_ld (.aload_n 0) 1 2 0 (.ref 0) rfl rfl rfl rfl 79 rfl ?_
      refine q_cV w_PM rfl (.invokevirtual 122) rfl rfl rfl 152 [.ref 0] [] rfl (k10_forgetPaths_0 M9) (fun M10 => ?_)
      refine r_ld (.aload_n 0) 1 2 0 (.ref 0) rfl rfl rfl rfl 83 rfl ?_
      refine r_go (.getfield 21) 3 rfl rfl rfl 86 [.ref 5] rfl ?_
      refine q_cTI (.invokevirtual 125) rfl rfl rfl 13 [.ref 5] [] rfl (k1_size_5 M10) ?_
      exact r_ret .ireturn 1 rfl rfl rfl _ rfl
def f5_clear_4 (M : cd_M) : Option cd_M := cd_lt (cd_wI M 4 3 0) fun M1 => if cd_in 0 5 = true then (cd_lt (cd_wI M1 22 (0 : Int32).toNatClampNeg 0) fun M2 => if cd_in 1 5 = true then (cd_lt (cd_wI M2 22 (1 : Int32).toNatClampNeg 40) fun M3 => if cd_in 2 5 = true then (cd_lt (cd_wI M3 22 (2 : Int32).toNatClampNeg 10) fun M4 => if cd_in 3 5 = true then (cd_lt (cd_wI M4 22 (3 : Int32).toNatClampNeg 0) fun M5 => if cd_in 4 5 = true then (cd_lt (cd_wI M5 22 (4 : Int32).toNatClampNeg 0) fun M6 => some M6) else none) else none) else none) else none) else none
set_option maxRecDepth 8000 in
theorem k5_clear_4 (M : cd_M) : cd_R 55 0 [some (.ref 4)] [] M (w_PV (f5_clear_4 M)) := by
  unfold f5_clear_4
  refine r_ld (.aload_n 0) 1 2 0 (.ref 4) rfl rfl rfl rfl 1 rfl ?_
  refine q_const (.iconst 0) 1 rfl rfl rfl 2 (0) _ rfl cd_kj0 ?_
  refine q_wr w_PV (.putfield 21) 3 rfl rfl rfl 5 [] (cd_wI M 4 3 0) rfl (fun M1 => ?_)
  refine r_ld (.aload_n 0) 1 2 0 (.ref 4) rfl rfl rfl rfl 6 rfl ?_
  refine r_go (.getfield 18) 3 rfl rfl rfl 9 [.ref 22] rfl ?_
  refine q_const (.iconst 0) 1 rfl rfl rfl 10 (0) _ rfl cd_kj0 ?_
  refine q_const (.iconst 0) 1 rfl rfl rfl 11 (0) _ rfl cd_kj0 ?_
  refine q_iast w_PV rfl rfl 22 5 rfl (fun M2 => ?_)
  refine r_ld (.aload_n 0) 1 2 0 (.ref 4) rfl rfl rfl rfl 13 rfl ?_
  refine r_go (.getfield 18) 3 rfl rfl rfl 16 [.ref 22] rfl ?_
  refine q_const (.iconst 1) 1 rfl rfl rfl 17 (1) _ rfl cd_kj1 ?_
  refine q_const (.bipush 40) 2 rfl rfl rfl 19 (40) _ rfl cd_kc40 ?_
  refine q_iast w_PV rfl rfl 22 5 rfl (fun M3 => ?_)
  refine r_ld (.aload_n 0) 1 2 0 (.ref 4) rfl rfl rfl rfl 21 rfl ?_
  refine r_go (.getfield 18) 3 rfl rfl rfl 24 [.ref 22] rfl ?_
  refine q_const (.iconst 2) 1 rfl rfl rfl 25 (2) _ rfl cd_kj2 ?_
  refine q_const (.bipush 10) 2 rfl rfl rfl 27 (10) _ rfl cd_kc10 ?_
  refine q_iast w_PV rfl rfl 22 5 rfl (fun M4 => ?_)
  refine r_ld (.aload_n 0) 1 2 0 (.ref 4) rfl rfl rfl rfl 29 rfl ?_
  refine r_go (.getfield 18) 3 rfl rfl rfl 32 [.ref 22] rfl ?_
  refine q_const (.iconst 3) 1 rfl rfl rfl 33 (3) _ rfl cd_kj3 ?_
  refine q_const (.iconst 0) 1 rfl rfl rfl 34 (0) _ rfl cd_kj0 ?_
  refine q_iast w_PV rfl rfl 22 5 rfl (fun M5 => ?_)
  refine r_ld (.aload_n 0) 1 2 0 (.ref 4) rfl rfl rfl rfl 36 rfl ?_
  refine r_go (.getfield 18) 3 rfl rfl rfl 39 [.ref 22] rfl ?_
  refine q_const (.iconst 4) 1 rfl rfl rfl 40 (4) _ rfl cd_kj4 ?_
  refine q_const (.iconst 0) 1 rfl rfl rfl 41 (0) _ rfl cd_kj0 ?_
  refine q_iast w_PV rfl rfl 22 5 rfl (fun M6 => ?_)
  exact r_ret .return_ 1 rfl rfl rfl _ rfl
def fJ0_coder_1002 (M : cd_M) : Int32 := if (1 : Int32) = 0 then (1) else (0)
set_option maxRecDepth 8000 in
theorem kJ0_coder_1002 (M : cd_M) : cd_R 240 0 [some (.ref 1002)] [] M ((w_TI M) (fJ0_coder_1002 M)) := by
  unfold fJ0_coder_1002
  refine r_go (.getstatic 38) 3 rfl rfl rfl 3 [.int (1)] rfl ?_
  refine q_br (w_TI M) (.ifCond .eq 10) 3 rfl rfl rfl ((1 : Int32) = 0) 13 6 [] rfl (fun _ => ?_) (fun _ => ?_)
  · refine q_const (.iconst 1) 1 rfl rfl rfl 14 (1) _ rfl cd_kj1 ?_
    exact r_retB rfl rfl (by decide)
  · refine r_ld (.aload_n 0) 1 2 0 (.ref 1002) rfl rfl rfl rfl 7 rfl ?_
    refine r_go (.getfield 15) 3 rfl rfl rfl 10 [.int (0)] rfl ?_
    refine r_go (.goto 4) 3 rfl rfl rfl 14 [.int (0)] rfl ?_
    exact r_retB rfl rfl (by decide)
def fJ0_length_1002 (M : cd_M) : Int32 := ((7 : Int32) >>> ((fJ0_coder_1002 M : Int32) &&& 31))
set_option maxRecDepth 8000 in
theorem kJ0_length_1002 (M : cd_M) : cd_R 238 0 [some (.ref 1002)] [] M ((w_TI M) (fJ0_length_1002 M)) := by
  unfold fJ0_length_1002
  refine r_ld (.aload_n 0) 1 2 0 (.ref 1002) rfl rfl rfl rfl 1 rfl ?_
  refine r_go (.getfield 9) 3 rfl rfl rfl 4 [.ref 1102] rfl ?_
  refine r_go (.arraylength) 1 rfl rfl rfl 5 [.int (7)] rfl ?_
  refine r_ld (.aload_n 0) 1 2 0 (.ref 1002) rfl rfl rfl rfl 6 rfl ?_
  refine q_cTI (.invokevirtual 335) rfl rfl rfl 240 [.ref 1002] [.int (7)] rfl (kJ0_coder_1002 M) ?_
  refine r_go (.ishr) 1 rfl rfl rfl 10 [.int ((7 : Int32) >>> ((fJ0_coder_1002 M : Int32) &&& 31))] rfl ?_
  exact r_ret .ireturn 1 rfl rfl rfl _ rfl
def fJ0_isLatin1_1002 (M : cd_M) : Int32 := if (1 : Int32) = 0 then (0) else (if (0 : Int32) = 0 then (1) else (0))
set_option maxRecDepth 8000 in
theorem kJ0_isLatin1_1002 (M : cd_M) : cd_R 241 0 [some (.ref 1002)] [] M ((w_TI M) (fJ0_isLatin1_1002 M)) := by
  unfold fJ0_isLatin1_1002
  refine r_go (.getstatic 38) 3 rfl rfl rfl 3 [.int (1)] rfl ?_
  refine q_br (w_TI M) (.ifCond .eq 14) 3 rfl rfl rfl ((1 : Int32) = 0) 17 6 [] rfl (fun _ => ?_) (fun _ => ?_)
  · refine q_const (.iconst 0) 1 rfl rfl rfl 18 (0) _ rfl cd_kj0 ?_
    exact r_retZ rfl rfl (by decide)
  · refine r_ld (.aload_n 0) 1 2 0 (.ref 1002) rfl rfl rfl rfl 7 rfl ?_
    refine r_go (.getfield 15) 3 rfl rfl rfl 10 [.int (0)] rfl ?_
    refine q_br (w_TI M) (.ifCond .ne 7) 3 rfl rfl rfl ((0 : Int32) = 0) 13 17 [] rfl (fun _ => ?_) (fun _ => ?_)
    · refine q_const (.iconst 1) 1 rfl rfl rfl 14 (1) _ rfl cd_kj1 ?_
      refine r_go (.goto 4) 3 rfl rfl rfl 18 [.int (1)] rfl ?_
      exact r_retZ rfl rfl (by decide)
    · refine q_const (.iconst 0) 1 rfl rfl rfl 18 (0) _ rfl cd_kj0 ?_
      exact r_retZ rfl rfl (by decide)
def fJ1_charAt_1102 (a1 : Int32) (M : cd_M) : Option (Int32) := (fJ0_checkIndex a1 7 M).bind fun _ => if cd_in a1 7 = true then (some ((((cd_sbyte 1102 a1) &&& 255 : Int32).toUInt32 % 65536).toInt32)) else none
set_option maxRecDepth 8000 in
theorem kJ1_charAt_1102 (a1 : Int32) (M : cd_M) : cd_R 243 0 [some (.ref 1102), some (.int (a1))] [] M ((w_PI M) (fJ1_charAt_1102 a1 M)) := by
  unfold fJ1_charAt_1102
  refine r_ld (.iload_n 1) 1 0 1 (.int (a1)) rfl rfl rfl rfl 1 rfl ?_
  refine r_ld (.aload_n 0) 1 2 0 (.ref 1102) rfl rfl rfl rfl 2 rfl ?_
  refine r_go (.arraylength) 1 rfl rfl rfl 3 [.int (7), .int (a1)] rfl ?_
  refine q_cU (w_PI M) rfl (.invokestatic 9) rfl rfl rfl 242 [.int (a1), .int (7)] [] rfl (kJ0_checkIndex a1 7 M) ?_
  refine r_ld (.aload_n 0) 1 2 0 (.ref 1102) rfl rfl rfl rfl 7 rfl ?_
  refine r_ld (.iload_n 1) 1 0 1 (.int (a1)) rfl rfl rfl rfl 8 rfl ?_
  refine q_sbald (w_PI M) rfl rfl 1102 7 rfl rfl (by decide) ?_
  refine q_const (.sipush 255) 3 rfl rfl rfl 12 (255) _ rfl cd_kt255 ?_
  refine r_go (.iand) 1 rfl rfl rfl 13 [.int ((cd_sbyte 1102 a1) &&& 255)] rfl ?_
  refine r_go (.i2c) 1 rfl rfl rfl 14 [.int ((((cd_sbyte 1102 a1) &&& 255 : Int32).toUInt32 % 65536).toInt32)] rfl ?_
  exact r_retC rfl rfl (pk_nc _)
def fJ0_charAt_1002 (a1 : Int32) (M : cd_M) : Option (Int32) := if fJ0_isLatin1_1002 M = 0 then (none) else ((fJ1_charAt_1102 a1 M).bind fun v2 => some v2)
set_option maxRecDepth 8000 in
theorem kJ0_charAt_1002 (a1 : Int32) (M : cd_M) : cd_R 239 0 [some (.ref 1002), some (.int (a1))] [] M ((w_PI M) (fJ0_charAt_1002 a1 M)) := by
  unfold fJ0_charAt_1002
  refine r_ld (.aload_n 0) 1 2 0 (.ref 1002) rfl rfl rfl rfl 1 rfl ?_
  refine q_cTIz (.invokevirtual 492) rfl rfl rfl 241 rfl [.ref 1002] [] rfl (kJ0_isLatin1_1002 M) (fun z1 => ?_)
  refine q_br (w_PI M) (.ifCond .eq 12) 3 rfl rfl rfl (fJ0_isLatin1_1002 M = 0) 16 7 [] rfl (fun _ => ?_) (fun _ => ?_)
  · refine r_ld (.aload_n 0) 1 2 0 (.ref 1002) rfl rfl rfl rfl 17 rfl ?_
    refine r_go (.getfield 9) 3 rfl rfl rfl 20 [.ref 1102] rfl ?_
    refine r_ld (.iload_n 1) 1 0 1 (.int (a1)) rfl rfl rfl rfl 21 rfl ?_
    exact q_none (w_PI M) rfl
  · refine r_ld (.aload_n 0) 1 2 0 (.ref 1002) rfl rfl rfl rfl 8 rfl ?_
    refine r_go (.getfield 9) 3 rfl rfl rfl 11 [.ref 1102] rfl ?_
    refine r_ld (.iload_n 1) 1 0 1 (.int (a1)) rfl rfl rfl rfl 12 rfl ?_
    refine q_cIc (w_PI M) rfl (.invokestatic 495) rfl rfl rfl 243 rfl [.ref 1102, .int (a1)] [] rfl (kJ1_charAt_1102 a1 M) (fun v2 z3 => ?_)
    exact r_retC rfl rfl z3
