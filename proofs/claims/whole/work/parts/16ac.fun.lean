def f7_isWord_2_1002_L28 : Nat → Int32 → cd_M → Option (Int32)
  | 0, _, _ => none
  | n + 1, a2, M => if fJ0_length_1002 M ≤ a2 then (some 1) else ((f7_byteAt_2 ((M.1 2 4) + a2) M).bind fun v1 => (fJ0_charAt_1002 a2 M).bind fun v2 => if v1 = v2 then (cd_lt (a2 + (1)) fun x4 => f7_isWord_2_1002_L28 n x4 M) else (some 0))
set_option maxRecDepth 8000 in
theorem k7_isWord_2_1002_L28 : ∀ (n : Nat) (a2 : Int32) (M : cd_M), cd_R 89 28 [some (.ref 2), some (.ref 1002), some (.int (a2))] [] M ((w_PI M) (f7_isWord_2_1002_L28 n a2 M)) := by
  intro n
  induction n with
  | zero =>
    intro a2 M
    exact q_none (w_PI M) rfl
  | succ n ih =>
    intro a2 M
    rw [f7_isWord_2_1002_L28]
    refine r_ld (.iload_n 2) 1 0 2 (.int (a2)) rfl rfl rfl rfl 29 rfl ?_
    refine r_ld (.aload_n 1) 1 2 1 (.ref 1002) rfl rfl rfl rfl 30 rfl ?_
    refine q_cTI (.invokevirtual 64) rfl rfl rfl 238 [.ref 1002] [.int (a2)] rfl (kJ0_length_1002 M) ?_
    refine q_br (w_PI M) (.if_icmp .ge 29) 3 rfl rfl rfl (fJ0_length_1002 M ≤ a2) 62 36 [] rfl (fun _ => ?_) (fun _ => ?_)
    · refine q_const (.iconst 1) 1 rfl rfl rfl 63 (1) _ rfl cd_kj1 ?_
      exact r_retZ rfl rfl (by decide)
    · refine r_ld (.aload_n 0) 1 2 0 (.ref 2) rfl rfl rfl rfl 37 rfl ?_
      refine r_ld (.aload_n 0) 1 2 0 (.ref 2) rfl rfl rfl rfl 38 rfl ?_
      refine r_go (.getfield 25) 3 rfl rfl rfl 41 [.int (M.1 2 4), .ref 2] rfl ?_
      refine r_ld (.iload_n 2) 1 0 2 (.int (a2)) rfl rfl rfl rfl 42 rfl ?_
      refine r_go (.iadd) 1 rfl rfl rfl 43 [.int ((M.1 2 4) + a2), .ref 2] rfl ?_
      refine q_cI (w_PI M) rfl (.invokevirtual 45) rfl rfl rfl 92 [.ref 2, .int ((M.1 2 4) + a2)] [] rfl (k7_byteAt_2 ((M.1 2 4) + a2) M) (fun v1 => ?_)
      refine r_ld (.aload_n 1) 1 2 1 (.ref 1002) rfl rfl rfl rfl 47 rfl ?_
      refine r_ld (.iload_n 2) 1 0 2 (.int (a2)) rfl rfl rfl rfl 48 rfl ?_
      refine q_cIc (w_PI M) rfl (.invokevirtual 69) rfl rfl rfl 239 rfl [.ref 1002, .int (a2)] [.int (v1)] rfl (kJ0_charAt_1002 a2 M) (fun v2 z3 => ?_)
      refine q_br (w_PI M) (.if_icmp .eq 5) 3 rfl rfl rfl (v1 = v2) 56 54 [] rfl (fun _ => ?_) (fun _ => ?_)
      · refine q_inc (w_PI M) 2 (1) (a2) rfl rfl rfl 59 rfl (1) cd_kj1 (fun x4 => [some (.ref 2), some (.ref 1002), some (.int (x4))]) (fun _ => rfl) (fun x4 => ?_)
        refine r_go (.goto (-31)) 3 rfl rfl rfl 28 [] rfl ?_
        exact r_w (ih x4 M) (cd_le_s (cd_le_s (cd_le_s cd_le_0)))
      · refine q_const (.iconst 0) 1 rfl rfl rfl 55 (0) _ rfl cd_kj0 ?_
        exact r_retZ rfl rfl (by decide)
def f7_isWord_2_1002 (M : cd_M) : Option (Int32) := if M.1 2 5 = 1 then (if (M.1 2 3) - (M.1 2 4) = fJ0_length_1002 M then (f7_isWord_2_1002_L28 cd_fu 0 M) else (some 0)) else (some 0)
set_option maxRecDepth 8000 in
theorem k7_isWord_2_1002 (M : cd_M) : cd_R 89 0 [some (.ref 2), some (.ref 1002), none] [] M ((w_PI M) (f7_isWord_2_1002 M)) := by
  unfold f7_isWord_2_1002
  refine r_ld (.aload_n 0) 1 2 0 (.ref 2) rfl rfl rfl rfl 1 rfl ?_
  refine r_go (.getfield 28) 3 rfl rfl rfl 4 [.int (M.1 2 5)] rfl ?_
  refine q_const (.iconst 1) 1 rfl rfl rfl 5 (1) _ rfl cd_kj1 ?_
  refine q_br (w_PI M) (.if_icmp .ne 19) 3 rfl rfl rfl (M.1 2 5 = 1) 8 24 [] rfl (fun _ => ?_) (fun _ => ?_)
  · refine r_ld (.aload_n 0) 1 2 0 (.ref 2) rfl rfl rfl rfl 9 rfl ?_
    refine r_go (.getfield 22) 3 rfl rfl rfl 12 [.int (M.1 2 3)] rfl ?_
    refine r_ld (.aload_n 0) 1 2 0 (.ref 2) rfl rfl rfl rfl 13 rfl ?_
    refine r_go (.getfield 25) 3 rfl rfl rfl 16 [.int (M.1 2 4), .int (M.1 2 3)] rfl ?_
    refine r_go (.isub) 1 rfl rfl rfl 17 [.int ((M.1 2 3) - (M.1 2 4))] rfl ?_
    refine r_ld (.aload_n 1) 1 2 1 (.ref 1002) rfl rfl rfl rfl 18 rfl ?_
    refine q_cTI (.invokevirtual 64) rfl rfl rfl 238 [.ref 1002] [.int ((M.1 2 3) - (M.1 2 4))] rfl (kJ0_length_1002 M) ?_
    refine q_br (w_PI M) (.if_icmp .eq 5) 3 rfl rfl rfl ((M.1 2 3) - (M.1 2 4) = fJ0_length_1002 M) 26 24 [] rfl (fun _ => ?_) (fun _ => ?_)
    · refine q_const (.iconst 0) 1 rfl rfl rfl 27 (0) _ rfl cd_kj0 ?_
      refine r_st (.istore_n 2) 1 0 2 rfl rfl rfl 28 rfl [some (.ref 2), some (.ref 1002), some (.int (0))] rfl ?_
      exact r_w (k7_isWord_2_1002_L28 cd_fu 0 M) (cd_le_s (cd_le_s (cd_le_s cd_le_0)))
    · refine q_const (.iconst 0) 1 rfl rfl rfl 25 (0) _ rfl cd_kj0 ?_
      exact r_retZ rfl rfl (by decide)
  · refine q_const (.iconst 0) 1 rfl rfl rfl 25 (0) _ rfl cd_kj0 ?_
    exact r_retZ rfl rfl (by decide)
def fJ0_coder_1003 (M : cd_M) : Int32 := if (1 : Int32) = 0 then (1) else (0)
set_option maxRecDepth 8000 in
theorem kJ0_coder_1003 (M : cd_M) : cd_R 240 0 [some (.ref 1003)] [] M ((w_TI M) (fJ0_coder_1003 M)) := by
  unfold fJ0_coder_1003
  refine r_go (.getstatic 38) 3 rfl rfl rfl 3 [.int (1)] rfl ?_
  refine q_br (w_TI M) (.ifCond .eq 10) 3 rfl rfl rfl ((1 : Int32) = 0) 13 6 [] rfl (fun _ => ?_) (fun _ => ?_)
  · refine q_const (.iconst 1) 1 rfl rfl rfl 14 (1) _ rfl cd_kj1 ?_
    exact r_retB rfl rfl (by decide)
  · refine r_ld (.aload_n 0) 1 2 0 (.ref 1003) rfl rfl rfl rfl 7 rfl ?_
    refine r_go (.getfield 15) 3 rfl rfl rfl 10 [.int (0)] rfl ?_
    refine r_go (.goto 4) 3 rfl rfl rfl 14 [.int (0)] rfl ?_
    exact r_retB rfl rfl (by decide)
def fJ0_length_1003 (M : cd_M) : Int32 := ((5 : Int32) >>> ((fJ0_coder_1003 M : Int32) &&& 31))
set_option maxRecDepth 8000 in
theorem kJ0_length_1003 (M : cd_M) : cd_R 238 0 [some (.ref 1003)] [] M ((w_TI M) (fJ0_length_1003 M)) := by
  unfold fJ0_length_1003
  refine r_ld (.aload_n 0) 1 2 0 (.ref 1003) rfl rfl rfl rfl 1 rfl ?_
  refine r_go (.getfield 9) 3 rfl rfl rfl 4 [.ref 1103] rfl ?_
  refine r_go (.arraylength) 1 rfl rfl rfl 5 [.int (5)] rfl ?_
  refine r_ld (.aload_n 0) 1 2 0 (.ref 1003) rfl rfl rfl rfl 6 rfl ?_
  refine q_cTI (.invokevirtual 335) rfl rfl rfl 240 [.ref 1003] [.int (5)] rfl (kJ0_coder_1003 M) ?_
  refine r_go (.ishr) 1 rfl rfl rfl 10 [.int ((5 : Int32) >>> ((fJ0_coder_1003 M : Int32) &&& 31))] rfl ?_
  exact r_ret .ireturn 1 rfl rfl rfl _ rfl
def fJ0_isLatin1_1003 (M : cd_M) : Int32 := if (1 : Int32) = 0 then (0) else (if (0 : Int32) = 0 then (1) else (0))
set_option maxRecDepth 8000 in
theorem kJ0_isLatin1_1003 (M : cd_M) : cd_R 241 0 [some (.ref 1003)] [] M ((w_TI M) (fJ0_isLatin1_1003 M)) := by
  unfold fJ0_isLatin1_1003
  refine r_go (.getstatic 38) 3 rfl rfl rfl 3 [.int (1)] rfl ?_
  refine q_br (w_TI M) (.ifCond .eq 14) 3 rfl rfl rfl ((1 : Int32) = 0) 17 6 [] rfl (fun _ => ?_) (fun _ => ?_)
  · refine q_const (.iconst 0) 1 rfl rfl rfl 18 (0) _ rfl cd_kj0 ?_
    exact r_retZ rfl rfl (by decide)
  · refine r_ld (.aload_n 0) 1 2 0 (.ref 1003) rfl rfl rfl rfl 7 rfl ?_
    refine r_go (.getfield 15) 3 rfl rfl rfl 10 [.int (0)] rfl ?_
    refine q_br (w_TI M) (.ifCond .ne 7) 3 rfl rfl rfl ((0 : Int32) = 0) 13 17 [] rfl (fun _ => ?_) (fun _ => ?_)
    · refine q_const (.iconst 1) 1 rfl rfl rfl 14 (1) _ rfl cd_kj1 ?_
      refine r_go (.goto 4) 3 rfl rfl rfl 18 [.int (1)] rfl ?_
      exact r_retZ rfl rfl (by decide)
    · refine q_const (.iconst 0) 1 rfl rfl rfl 18 (0) _ rfl cd_kj0 ?_
      exact r_retZ rfl rfl (by decide)
def fJ1_charAt_1103 (a1 : Int32) (M : cd_M) : Option (Int32) := (fJ0_checkIndex a1 5 M).bind fun _ => if cd_in a1 5 = true then (some ((((cd_sbyte 1103 a1) &&& 255 : Int32).toUInt32 % 65536).toInt32)) else none
set_option maxRecDepth 8000 in
theorem kJ1_charAt_1103 (a1 : Int32) (M : cd_M) : cd_R 243 0 [some (.ref 1103), some (.int (a1))] [] M ((w_PI M) (fJ1_charAt_1103 a1 M)) := by
  unfold fJ1_charAt_1103
  refine r_ld (.iload_n 1) 1 0 1 (.int (a1)) rfl rfl rfl rfl 1 rfl ?_
  refine r_ld (.aload_n 0) 1 2 0 (.ref 1103) rfl rfl rfl rfl 2 rfl ?_
  refine r_go (.arraylength) 1 rfl rfl rfl 3 [.int (5), .int (a1)] rfl ?_
  refine q_cU (w_PI M) rfl (.invokestatic 9) rfl rfl rfl 242 [.int (a1), .int (5)] [] rfl (kJ0_checkIndex a1 5 M) ?_
  refine r_ld (.aload_n 0) 1 2 0 (.ref 1103) rfl rfl rfl rfl 7 rfl ?_
  refine r_ld (.iload_n 1) 1 0 1 (.int (a1)) rfl rfl rfl rfl 8 rfl ?_
  refine q_sbald (w_PI M) rfl rfl 1103 5 rfl rfl (by decide) ?_
  refine q_const (.sipush 255) 3 rfl rfl rfl 12 (255) _ rfl cd_kt255 ?_
  refine r_go (.iand) 1 rfl rfl rfl 13 [.int ((cd_sbyte 1103 a1) &&& 255)] rfl ?_
  refine r_go (.i2c) 1 rfl rfl rfl 14 [.int ((((cd_sbyte 1103 a1) &&& 255 : Int32).toUInt32 % 65536).toInt32)] rfl ?_
  exact r_retC rfl rfl (pk_nc _)
def fJ0_charAt_1003 (a1 : Int32) (M : cd_M) : Option (Int32) := if fJ0_isLatin1_1003 M = 0 then (none) else ((fJ1_charAt_1103 a1 M).bind fun v2 => some v2)
set_option maxRecDepth 8000 in
theorem kJ0_charAt_1003 (a1 : Int32) (M : cd_M) : cd_R 239 0 [some (.ref 1003), some (.int (a1))] [] M ((w_PI M) (fJ0_charAt_1003 a1 M)) := by
  unfold fJ0_charAt_1003
  refine r_ld (.aload_n 0) 1 2 0 (.ref 1003) rfl rfl rfl rfl 1 rfl ?_
  refine q_cTIz (.invokevirtual 492) rfl rfl rfl 241 rfl [.ref 1003] [] rfl (kJ0_isLatin1_1003 M) (fun z1 => ?_)
  refine q_br (w_PI M) (.ifCond .eq 12) 3 rfl rfl rfl (fJ0_isLatin1_1003 M = 0) 16 7 [] rfl (fun _ => ?_) (fun _ => ?_)
  · refine r_ld (.aload_n 0) 1 2 0 (.ref 1003) rfl rfl rfl rfl 17 rfl ?_
    refine r_go (.getfield 9) 3 rfl rfl rfl 20 [.ref 1103] rfl ?_
    refine r_ld (.iload_n 1) 1 0 1 (.int (a1)) rfl rfl rfl rfl 21 rfl ?_
    exact q_none (w_PI M) rfl
  · refine r_ld (.aload_n 0) 1 2 0 (.ref 1003) rfl rfl rfl rfl 8 rfl ?_
    refine r_go (.getfield 9) 3 rfl rfl rfl 11 [.ref 1103] rfl ?_
    refine r_ld (.iload_n 1) 1 0 1 (.int (a1)) rfl rfl rfl rfl 12 rfl ?_
    refine q_cIc (w_PI M) rfl (.invokestatic 495) rfl rfl rfl 243 rfl [.ref 1103, .int (a1)] [] rfl (kJ1_charAt_1103 a1 M) (fun v2 z3 => ?_)
    exact r_retC rfl rfl z3
def f7_isWord_2_1003_L28 : Nat → Int32 → cd_M → Option (Int32)
  | 0, _, _ => none
  | n + 1, a2, M => if fJ0_length_1003 M ≤ a2 then (some 1) else ((f7_byteAt_2 ((M.1 2 4) + a2) M).bind fun v1 => (fJ0_charAt_1003 a2 M).bind fun v2 => if v1 = v2 then (cd_lt (a2 + (1)) fun x4 => f7_isWord_2_1003_L28 n x4 M) else (some 0))
set_option maxRecDepth 8000 in
theorem k7_isWord_2_1003_L28 : ∀ (n : Nat) (a2 : Int32) (M : cd_M), cd_R 89 28 [some (.ref 2), some (.ref 1003), some (.int (a2))] [] M ((w_PI M) (f7_isWord_2_1003_L28 n a2 M)) := by
  intro n
  induction n with
  | zero =>
    intro a2 M
    exact q_none (w_PI M) rfl
  | succ n ih =>
    intro a2 M
    rw [f7_isWord_2_1003_L28]
    refine r_ld (.iload_n 2) 1 0 2 (.int (a2)) rfl rfl rfl rfl 29 rfl ?_
    refine r_ld (.aload_n 1) 1 2 1 (.ref 1003) rfl rfl rfl rfl 30 rfl ?_
    refine q_cTI (.invokevirtual 64) rfl rfl rfl 238 [.ref 1003] [.int (a2)] rfl (kJ0_length_1003 M) ?_
    refine q_br (w_PI M) (.if_icmp .ge 29) 3 rfl rfl rfl (fJ0_length_1003 M ≤ a2) 62 36 [] rfl (fun _ => ?_) (fun _ => ?_)
    · refine q_const (.iconst 1) 1 rfl rfl rfl 63 (1) _ rfl cd_kj1 ?_
      exact r_retZ rfl rfl (by decide)
    · refine r_ld (.aload_n 0) 1 2 0 (.ref 2) rfl rfl rfl rfl 37 rfl ?_
      refine r_ld (.aload_n 0) 1 2 0 (.ref 2) rfl rfl rfl rfl 38 rfl ?_
      refine r_go (.getfield 25) 3 rfl rfl rfl 41 [.int (M.1 2 4), .ref 2] rfl ?_
      refine r_ld (.iload_n 2) 1 0 2 (.int (a2)) rfl rfl rfl rfl 42 rfl ?_
      refine r_go (.iadd) 1 rfl rfl rfl 43 [.int ((M.1 2 4) + a2), .ref 2] rfl ?_
      refine q_cI (w_PI M) rfl (.invokevirtual 45) rfl rfl rfl 92 [.ref 2, .int ((M.1 2 4) + a2)] [] rfl (k7_byteAt_2 ((M.1 2 4) + a2) M) (fun v1 => ?_)
      refine r_ld (.aload_n 1) 1 2 1 (.ref 1003) rfl rfl rfl rfl 47 rfl ?_
      refine r_ld (.iload_n 2) 1 0 2 (.int (a2)) rfl rfl rfl rfl 48 rfl ?_
      refine q_cIc (w_PI M) rfl (.invokevirtual 69) rfl rfl rfl 239 rfl [.ref 1003, .int (a2)] [.int (v1)] rfl (kJ0_charAt_1003 a2 M) (fun v2 z3 => ?_)
      refine q_br (w_PI M) (.if_icmp .eq 5) 3 rfl rfl rfl (v1 = v2) 56 54 [] rfl (fun _ => ?_) (fun _ => ?_)
      · refine q_inc (w_PI M) 2 (1) (a2) rfl rfl rfl 59 rfl (1) cd_kj1 (fun x4 => [some (.ref 2), some (.ref 1003), some (.int (x4))]) (fun _ => rfl) (fun x4 => ?_)
        refine r_go (.goto (-31)) 3 rfl rfl rfl 28 [] rfl ?_
        exact r_w (ih x4 M) (cd_le_s (cd_le_s (cd_le_s cd_le_0)))
      · refine q_const (.iconst 0) 1 rfl rfl rfl 55 (0) _ rfl cd_kj0 ?_
        exact r_retZ rfl rfl (by decide)
def f7_isWord_2_1003 (M : cd_M) : Option (Int32) := if M.1 2 5 = 1 then (if (M.1 2 3) - (M.1 2 4) = fJ0_length_1003 M then (f7_isWord_2_1003_L28 cd_fu 0 M) else (some 0)) else (some 0)
set_option maxRecDepth 8000 in
theorem k7_isWord_2_1003 (M : cd_M) : cd_R 89 0 [some (.ref 2), some (.ref 1003), none] [] M ((w_PI M) (f7_isWord_2_1003 M)) := by
  unfold f7_isWord_2_1003
  refine r_ld (.aload_n 0) 1 2 0 (.ref 2) rfl rfl rfl rfl 1 rfl ?_
  refine r_go (.getfield 28) 3 rfl rfl rfl 4 [.int (M.1 2 5)] rfl ?_
  refine q_const (.iconst 1) 1 rfl rfl rfl 5 (1) _ rfl cd_kj1 ?_
  refine q_br (w_PI M) (.if_icmp .ne 19) 3 rfl rfl rfl (M.1 2 5 = 1) 8 24 [] rfl (fun _ => ?_) (fun _ => ?_)
  · refine r_ld (.aload_n 0) 1 2 0 (.ref 2) rfl rfl rfl rfl 9 rfl ?_
    refine r_go (.getfield 22) 3 rfl rfl rfl 12 [.int (M.1 2 3)] rfl ?_
    refine r_ld (.aload_n 0) 1 2 0 (.ref 2) rfl rfl rfl rfl 13 rfl ?_
    refine r_go (.getfield 25) 3 rfl rfl rfl 16 [.int (M.1 2 4), .int (M.1 2 3)] rfl ?_
    refine r_go (.isub) 1 rfl rfl rfl 17 [.int ((M.1 2 3) - (M.1 2 4))] rfl ?_
    refine r_ld (.aload_n 1) 1 2 1 (.ref 1003) rfl rfl rfl rfl 18 rfl ?_
    refine q_cTI (.invokevirtual 64) rfl rfl rfl 238 [.ref 1003] [.int ((M.1 2 3) - (M.1 2 4))] rfl (kJ0_length_1003 M) ?_
    refine q_br (w_PI M) (.if_icmp .eq 5) 3 rfl rfl rfl ((M.1 2 3) - (M.1 2 4) = fJ0_length_1003 M) 26 24 [] rfl (fun _ => ?_) (fun _ => ?_)
    · refine q_const (.iconst 0) 1 rfl rfl rfl 27 (0) _ rfl cd_kj0 ?_
      refine r_st (.istore_n 2) 1 0 2 rfl rfl rfl 28 rfl [some (.ref 2), some (.ref 1003), some (.int (0))] rfl ?_
      exact r_w (k7_isWord_2_1003_L28 cd_fu 0 M) (cd_le_s (cd_le_s (cd_le_s cd_le_0)))
    · refine q_const (.iconst 0) 1 rfl rfl rfl 25 (0) _ rfl cd_kj0 ?_
      exact r_retZ rfl rfl (by decide)
  · refine q_const (.iconst 0) 1 rfl rfl rfl 25 (0) _ rfl cd_kj0 ?_
    exact r_retZ rfl rfl (by decide)
def fJ0_coder_1004 (M : cd_M) : Int32 := if (1 : Int32) = 0 then (1) else (0)
set_option maxRecDepth 8000 in
theorem kJ0_coder_1004 (M : cd_M) : cd_R 240 0 [some (.ref 1004)] [] M ((w_TI M) (fJ0_coder_1004 M)) := by
  unfold fJ0_coder_1004
  refine r_go (.getstatic 38) 3 rfl rfl rfl 3 [.int (1)] rfl ?_
  refine q_br (w_TI M) (.ifCond .eq 10) 3 rfl rfl rfl ((1 : Int32) = 0) 13 6 [] rfl (fun _ => ?_) (fun _ => ?_)
  · refine q_const (.iconst 1) 1 rfl rfl rfl 14 (1) _ rfl cd_kj1 ?_
    exact r_retB rfl rfl (by decide)
  · refine r_ld (.aload_n 0) 1 2 0 (.ref 1004) rfl rfl rfl rfl 7 rfl ?_
    refine r_go (.getfield 15) 3 rfl rfl rfl 10 [.int (0)] rfl ?_
    refine r_go (.goto 4) 3 rfl rfl rfl 14 [.int (0)] rfl ?_
    exact r_retB rfl rfl (by decide)
def fJ0_length_1004 (M : cd_M) : Int32 := ((4 : Int32) >>> ((fJ0_coder_1004 M : Int32) &&& 31))
set_option maxRecDepth 8000 in
theorem kJ0_length_1004 (M : cd_M) : cd_R 238 0 [some (.ref 1004)] [] M ((w_TI M) (fJ0_length_1004 M)) := by
  unfold fJ0_length_1004
  refine r_ld (.aload_n 0) 1 2 0 (.ref 1004) rfl rfl rfl rfl 1 rfl ?_
  refine r_go (.getfield 9) 3 rfl rfl rfl 4 [.ref 1104] rfl ?_
  refine r_go (.arraylength) 1 rfl rfl rfl 5 [.int (4)] rfl ?_
  refine r_ld (.aload_n 0) 1 2 0 (.ref 1004) rfl rfl rfl rfl 6 rfl ?_
  refine q_cTI (.invokevirtual 335) rfl rfl rfl 240 [.ref 1004] [.int (4)] rfl (kJ0_coder_1004 M) ?_
  refine r_go (.ishr) 1 rfl rfl rfl 10 [.int ((4 : Int32) >>> ((fJ0_coder_1004 M : Int32) &&& 31))] rfl ?_
  exact r_ret .ireturn 1 rfl rfl rfl _ rfl
def fJ0_isLatin1_1004 (M : cd_M) : Int32 := if (1 : Int32) = 0 then (0) else (if (0 : Int32) = 0 then (1) else (0))
set_option maxRecDepth 8000 in
theorem kJ0_isLatin1_1004 (M : cd_M) : cd_R 241 0 [some (.ref 1004)] [] M ((w_TI M) (fJ0_isLatin1_1004 M)) := by
  unfold fJ0_isLatin1_1004
  refine r_go (.getstatic 38) 3 rfl rfl rfl 3 [.int (1)] rfl ?_
  refine q_br (w_TI M) (.ifCond .eq 14) 3 rfl rfl rfl ((1 : Int32) = 0) 17 6 [] rfl (fun _ => ?_) (fun _ => ?_)
  · refine q_const (.iconst 0) 1 rfl rfl rfl 18 (0) _ rfl cd_kj0 ?_
    exact r_retZ rfl rfl (by decide)
  · refine r_ld (.aload_n 0) 1 2 0 (.ref 1004) rfl rfl rfl rfl 7 rfl ?_
    refine r_go (.getfield 15) 3 rfl rfl rfl 10 [.int (0)] rfl ?_
    refine q_br (w_TI M) (.ifCond .ne 7) 3 rfl rfl rfl ((0 : Int32) = 0) 13 17 [] rfl (fun _ => ?_) (fun _ => ?_)
    · refine q_const (.iconst 1) 1 rfl rfl rfl 14 (1) _ rfl cd_kj1 ?_
      refine r_go (.goto 4) 3 rfl rfl rfl 18 [.int (1)] rfl ?_
      exact r_retZ rfl rfl (by decide)
    · refine q_const (.iconst 0) 1 rfl rfl rfl 18 (0) _ rfl cd_kj0 ?_
      exact r_retZ rfl rfl (by decide)
def fJ1_charAt_1104 (a1 : Int32) (M : cd_M) : Option (Int32) := (fJ0_checkIndex a1 4 M).bind fun _ => if cd_in a1 4 = true then (some ((((cd_sbyte 1104 a1) &&& 255 : Int32).toUInt32 % 65536).toInt32)) else none
set_option maxRecDepth 8000 in
theorem kJ1_charAt_1104 (a1 : Int32) (M : cd_M) : cd_R 243 0 [some (.ref 1104), some (.int (a1))] [] M ((w_PI M) (fJ1_charAt_1104 a1 M)) := by
  unfold fJ1_charAt_1104
  refine r_ld (.iload_n 1) 1 0 1 (.int (a1)) rfl rfl rfl rfl 1 rfl ?_
  refine r_ld (.aload_n 0) 1 2 0 (.ref 1104) rfl rfl rfl rfl 2 rfl ?_
  refine r_go (.arraylength) 1 rfl rfl rfl 3 [.int (4), .int (a1)] rfl ?_
  refine q_cU (w_PI M) rfl (.invokestatic 9) rfl rfl rfl 242 [.int (a1), .int (4)] [] rfl (kJ0_checkIndex a1 4 M) ?_
  refine r_ld (.aload_n 0) 1 2 0 (.ref 1104) rfl rfl rfl rfl 7 rfl ?_
  refine r_ld (.iload_n 1) 1 0 1 (.int (a1)) rfl rfl rfl rfl 8 rfl ?_
  refine q_sbald (w_PI M) rfl rfl 1104 4 rfl rfl (by decide) ?_
  refine q_const (.sipush 255) 3 rfl rfl rfl 12 (255) _ rfl cd_kt255 ?_
  refine r_go (.iand) 1 rfl rfl rfl 13 [.int ((cd_sbyte 1104 a1) &&& 255)] rfl ?_
  refine r_go (.i2c) 1 rfl rfl rfl 14 [.int ((((cd_sbyte 1104 a1) &&& 255 : Int32).toUInt32 % 65536).toInt32)] rfl ?_
  exact r_retC rfl rfl (pk_nc _)
def fJ0_charAt_1004 (a1 : Int32) (M : cd_M) : Option (Int32) := if fJ0_isLatin1_1004 M = 0 then (none) else ((fJ1_charAt_1104 a1 M).bind fun v2 => some v2)
set_option maxRecDepth 8000 in
theorem kJ0_charAt_1004 (a1 : Int32) (M : cd_M) : cd_R 239 0 [some (.ref 1004), some (.int (a1))] [] M ((w_PI M) (fJ0_charAt_1004 a1 M)) := by
  unfold fJ0_charAt_1004
  refine r_ld (.aload_n 0) 1 2 0 (.ref 1004) rfl rfl rfl rfl 1 rfl ?_
  refine q_cTIz (.invokevirtual 492) rfl rfl rfl 241 rfl [.ref 1004] [] rfl (kJ0_isLatin1_1004 M) (fun z1 => ?_)
  refine q_br (w_PI M) (.ifCond .eq 12) 3 rfl rfl rfl (fJ0_isLatin1_1004 M = 0) 16 7 [] rfl (fun _ => ?_) (fun _ => ?_)
  · refine r_ld (.aload_n 0) 1 2 0 (.ref 1004) rfl rfl rfl rfl 17 rfl ?_
    refine r_go (.getfield 9) 3 rfl rfl rfl 20 [.ref 1104] rfl ?_
    refine r_ld (.iload_n 1) 1 0 1 (.int (a1)) rfl rfl rfl rfl 21 rfl ?_
    exact q_none (w_PI M) rfl
  · refine r_ld (.aload_n 0) 1 2 0 (.ref 1004) rfl rfl rfl rfl 8 rfl ?_
    refine r_go (.getfield 9) 3 rfl rfl rfl 11 [.ref 1104] rfl ?_
    refine r_ld (.iload_n 1) 1 0 1 (.int (a1)) rfl rfl rfl rfl 12 rfl ?_
    refine q_cIc (w_PI M) rfl (.invokestatic 495) rfl rfl rfl 243 rfl [.ref 1104, .int (a1)] [] rfl (kJ1_charAt_1104 a1 M) (fun v2 z3 => ?_)
    exact r_retC rfl rfl z3
def f7_isWord_2_1004_L28 : Nat → Int32 → cd_M → Option (Int32)
  | 0, _, _ => none
  | n + 1, a2, M => if fJ0_length_1004 M ≤ a2 then (some 1) else ((f7_byteAt_2 ((M.1 2 4) + a2) M).bind fun v1 => (fJ0_charAt_1004 a2 M).bind fun v2 => if v1 = v2 then (cd_lt (a2 + (1)) fun x4 => f7_isWord_2_1004_L28 n x4 M) else (some 0))
set_option maxRecDepth 8000 in
theorem k7_isWord_2_1004_L28 : ∀ (n : Nat) (a2 : Int32) (M : cd_M), cd_R 89 28 [some (.ref 2), some (.ref 1004), some (.int (a2))] [] M ((w_PI M) (f7_isWord_2_1004_L28 n a2 M)) := by
  intro n
  induction n with
  | zero =>
    intro a2 M
    exact q_none (w_PI M) rfl
  | succ n ih =>
    intro a2 M
    rw [f7_isWord_2_1004_L28]
    refine r_ld (.iload_n 2) 1 0 2 (.int (a2)) rfl rfl rfl rfl 29 rfl ?_
    refine r_ld (.aload_n 1) 1 2 1 (.ref 1004) rfl rfl rfl rfl 30 rfl ?_
    refine q_cTI (.invokevirtual 64) rfl rfl rfl 238 [.ref 1004] [.int (a2)] rfl (kJ0_length_1004 M) ?_
    refine q_br (w_PI M) (.if_icmp .ge 29) 3 rfl rfl rfl (fJ0_length_1004 M ≤ a2) 62 36 [] rfl (fun _ => ?_) (fun _ => ?_)
    · refine q_const (.iconst 1) 1 rfl rfl rfl 63 (1) _ rfl cd_kj1 ?_
      exact r_retZ rfl rfl (by decide)
    · refine r_ld (.aload_n 0) 1 2 0 (.ref 2) rfl rfl rfl rfl 37 rfl ?_
      refine r_ld (.aload_n 0) 1 2 0 (.ref 2) rfl rfl rfl rfl 38 rfl ?_
      refine r_go (.getfield 25) 3 rfl rfl rfl 41 [.int (M.1 2 4), .ref 2] rfl ?_
      refine r_ld (.iload_n 2) 1 0 2 (.int (a2)) rfl rfl rfl rfl 42 rfl ?_
      refine r_go (.iadd) 1 rfl rfl rfl 43 [.int ((M.1 2 4) + a2), .ref 2] rfl ?_
      refine q_cI (w_PI M) rfl (.invokevirtual 45) rfl rfl rfl 92 [.ref 2, .int ((M.1 2 4) + a2)] [] rfl (k7_byteAt_2 ((M.1 2 4) + a2) M) (fun v1 => ?_)
      refine r_ld (.aload_n 1) 1 2 1 (.ref 1004) rfl rfl rfl rfl 47 rfl ?_
      refine r_ld (.iload_n 2) 1 0 2 (.int (a2)) rfl rfl rfl rfl 48 rfl ?_
      refine q_cIc (w_PI M) rfl (.invokevirtual 69) rfl rfl rfl 239 rfl [.ref 1004, .int (a2)] [.int (v1)] rfl (kJ0_charAt_1004 a2 M) (fun v2 z3 => ?_)
      refine q_br (w_PI M) (.if_icmp .eq 5) 3 rfl rfl rfl (v1 = v2) 56 54 [] rfl (fun _ => ?_) (fun _ => ?_)
      · refine q_inc (w_PI M) 2 (1) (a2) rfl rfl rfl 59 rfl (1) cd_kj1 (fun x4 => [some (.ref 2), some (.ref 1004), some (.int (x4))]) (fun _ => rfl) (fun x4 => ?_)
        refine r_go (.goto (-31)) 3 rfl rfl rfl 28 [] rfl ?_
        exact r_w (ih x4 M) (cd_le_s (cd_le_s (cd_le_s cd_le_0)))
      · refine q_const (.iconst 0) 1 rfl rfl rfl 55 (0) _ rfl cd_kj0 ?_
        exact r_retZ rfl rfl (by decide)
def f7_isWord_2_1004 (M : cd_M) : Option (Int32) := if M.1 2 5 = 1 then (if (M.1 2 3) - (M.1 2 4) = fJ0_length_1004 M then (f7_isWord_2_1004_L28 cd_fu 0 M) else (some 0)) else (some 0)
set_option maxRecDepth 8000 in
theorem k7_isWord_2_1004 (M : cd_M) : cd_R 89 0 [some (.ref 2), some (.ref 1004), none] [] M ((w_PI M) (f7_isWord_2_1004 M)) := by
  unfold f7_isWord_2_1004
  refine r_ld (.aload_n 0) 1 2 0 (.ref 2) rfl rfl rfl rfl 1 rfl ?_
  refine r_go (.getfield 28) 3 rfl rfl rfl 4 [.int (M.1 2 5)] rfl ?_
  refine q_const (.iconst 1) 1 rfl rfl rfl 5 (1) _ rfl cd_kj1 ?_
  refine q_br (w_PI M) (.if_icmp .ne 19) 3 rfl rfl rfl (M.1 2 5 = 1) 8 24 [] rfl (fun _ => ?_) (fun _ => ?_)
  · refine r_ld (.aload_n 0) 1 2 0 (.ref 2) rfl rfl rfl rfl 9 rfl ?_
    refine r_go (.getfield 22) 3 rfl rfl rfl 12 [.int (M.1 2 3)] rfl ?_
    refine r_ld (.aload_n 0) 1 2 0 (.ref 2) rfl rfl rfl rfl 13 rfl ?_
    refine r_go (.getfield 25) 3 rfl rfl rfl 16 [.int (M.1 2 4), .int (M.1 2 3)] rfl ?_
    refine r_go (.isub) 1 rfl rfl rfl 17 [.int ((M.1 2 3) - (M.1 2 4))] rfl ?_
    refine r_ld (.aload_n 1) 1 2 1 (.ref 1004) rfl rfl rfl rfl 18 rfl ?_
    refine q_cTI (.invokevirtual 64) rfl rfl rfl 238 [.ref 1004] [.int ((M.1 2 3) - (M.1 2 4))] rfl (kJ0_length_1004 M) ?_
    refine q_br (w_PI M) (.if_icmp .eq 5) 3 rfl rfl rfl ((M.1 2 3) - (M.1 2 4) = fJ0_length_1004 M) 26 24 [] rfl (fun _ => ?_) (fun _ => ?_)
    · refine q_const (.iconst 0) 1 rfl rfl rfl 27 (0) _ rfl cd_kj0 ?_
      refine r_st (.istore_n 2) 1 0 2 rfl rfl rfl 28 rfl [some (.ref 2), some (.ref 1004), some (.int (0))] rfl ?_
      exact r_w (k7_isWord_2_1004_L28 cd_fu 0 M) (cd_le_s (cd_le_s (cd_le_s cd_le_0)))
    · refine q_const (.iconst 0) 1 rfl rfl rfl 25 (0) _ rfl cd_kj0 ?_
      exact r_retZ rfl rfl (by decide)
  · refine q_const (.iconst 0) 1 rfl rfl rfl 25 (0) _ rfl cd_kj0 ?_
    exact r_retZ rfl rfl (by decide)
def fJ0_coder_1005 (M : cd_M) : Int32 := if (1 : Int32) = 0 then (1) else (0)
set_option maxRecDepth 8000 in
theorem kJ0_coder_1005 (M : cd_M) : cd_R 240 0 [some (.ref 1005)] [] M ((w_TI M) (fJ0_coder_1005 M)) := by
  unfold fJ0_coder_1005
  refine r_go (.getstatic 38) 3 rfl rfl rfl 3 [.int (1)] rfl ?_
  refine q_br (w_TI M) (.ifCond .eq 10) 3 rfl rfl rfl ((1 : Int32) = 0) 13 6 [] rfl (fun _ => ?_) (fun _ => ?_)
  · refine q_const (.iconst 1) 1 rfl rfl rfl 14 (1) _ rfl cd_kj1 ?_
    exact r_retB rfl rfl (by decide)
  · refine r_ld (.aload_n 0) 1 2 0 (.ref 1005) rfl rfl rfl rfl 7 rfl ?_
    refine r_go (.getfield 15) 3 rfl rfl rfl 10 [.int (0)] rfl ?_
    refine r_go (.goto 4) 3 rfl rfl rfl 14 [.int (0)] rfl ?_
    exact r_retB rfl rfl (by decide)
def fJ0_length_1005 (M : cd_M) : Int32 := ((5 : Int32) >>> ((fJ0_coder_1005 M : Int32) &&& 31))
set_option maxRecDepth 8000 in
theorem kJ0_length_1005 (M : cd_M) : cd_R 238 0 [some (.ref 1005)] [] M ((w_TI M) (fJ0_length_1005 M)) := by
  unfold fJ0_length_1005
  refine r_ld (.aload_n 0) 1 2 0 (.ref 1005) rfl rfl rfl rfl 1 rfl ?_
  refine r_go (.getfield 9) 3 rfl rfl rfl 4 [.ref 1105] rfl ?_
  refine r_go (.arraylength) 1 rfl rfl rfl 5 [.int (5)] rfl ?_
  refine r_ld (.aload_n 0) 1 2 0 (.ref 1005) rfl rfl rfl rfl 6 rfl ?_
  refine q_cTI (.invokevirtual 335) rfl rfl rfl 240 [.ref 1005] [.int (5)] rfl (kJ0_coder_1005 M) ?_
  refine r_go (.ishr) 1 rfl rfl rfl 10 [.int ((5 : Int32) >>> ((fJ0_coder_1005 M : Int32) &&& 31))] rfl ?_
  exact r_ret .ireturn 1 rfl rfl rfl _ rfl
def fJ0_isLatin1_1005 (M : cd_M) : Int32 := if (1 : Int32) = 0 then (0) else (if (0 : Int32) = 0 then (1) else (0))
set_option maxRecDepth 8000 in
theorem kJ0_isLatin1_1005 (M : cd_M) : cd_R 241 0 [some (.ref 1005)] [] M ((w_TI M) (fJ0_isLatin1_1005 M)) := by
  unfold fJ0_isLatin1_1005
  refine r_go (.getstatic 38) 3 rfl rfl rfl 3 [.int (1)] rfl ?_
  refine q_br (w_TI M) (.ifCond .eq 14) 3 rfl rfl rfl ((1 : Int32) = 0) 17 6 [] rfl (fun _ => ?_) (fun _ => ?_)
  · refine q_const (.iconst 0) 1 rfl rfl rfl 18 (0) _ rfl cd_kj0 ?_
    exact r_retZ rfl rfl (by decide)
  · refine r_ld (.aload_n 0) 1 2 0 (.ref 1005) rfl rfl rfl rfl 7 rfl ?_
    refine r_go (.getfield 15) 3 rfl rfl rfl 10 [.int (0)] rfl ?_
    refine q_br (w_TI M) (.ifCond .ne 7) 3 rfl rfl rfl ((0 : Int32) = 0) 13 17 [] rfl (fun _ => ?_) (fun _ => ?_)
    · refine q_const (.iconst 1) 1 rfl rfl rfl 14 (1) _ rfl cd_kj1 ?_
      refine r_go (.goto 4) 3 rfl rfl rfl 18 [.int (1)] rfl ?_
      exact r_retZ rfl rfl (by decide)
    · refine q_const (.iconst 0) 1 rfl rfl rfl 18 (0) _ rfl cd_kj0 ?_
      exact r_retZ rfl rfl (by decide)
def fJ1_charAt_1105 (a1 : Int32) (M : cd_M) : Option (Int32) := (fJ0_checkIndex a1 5 M).bind fun _ => if cd_in a1 5 = true then (some ((((cd_sbyte 1105 a1) &&& 255 : Int32).toUInt32 % 65536).toInt32)) else none
set_option maxRecDepth 8000 in
theorem kJ1_charAt_1105 (a1 : Int32) (M : cd_M) : cd_R 243 0 [some (.ref 1105), some (.int (a1))] [] M ((w_PI M) (fJ1_charAt_1105 a1 M)) := by
  unfold fJ1_charAt_1105
  refine r_ld (.iload_n 1) 1 0 1 (.int (a1)) rfl rfl rfl rfl 1 rfl ?_
  refine r_ld (.aload_n 0) 1 2 0 (.ref 1105) rfl rfl rfl rfl 2 rfl ?_
  refine r_go (.arraylength) 1 rfl rfl rfl 3 [.int (5), .int (a1)] rfl ?_
  refine q_cU (w_PI M) rfl (.invokestatic 9) rfl rfl rfl 242 [.int (a1), .int (5)] [] rfl (kJ0_checkIndex a1 5 M) ?_
  refine r_ld (.aload_n 0) 1 2 0 (.ref 1105) rfl rfl rfl rfl 7 rfl ?_
  refine r_ld (.iload_n 1) 1 0 1 (.int (a1)) rfl rfl rfl rfl 8 rfl ?_
  refine q_sbald (w_PI M) rfl rfl 1105 5 rfl rfl (by decide) ?_
  refine q_const (.sipush 255) 3 rfl rfl rfl 12 (255) _ rfl cd_kt255 ?_
  refine r_go (.iand) 1 rfl rfl rfl 13 [.int ((cd_sbyte 1105 a1) &&& 255)] rfl ?_
  refine r_go (.i2c) 1 rfl rfl rfl 14 [.int ((((cd_sbyte 1105 a1) &&& 255 : Int32).toUInt32 % 65536).toInt32)] rfl ?_
  exact r_retC rfl rfl (pk_nc _)
def fJ0_charAt_1005 (a1 : Int32) (M : cd_M) : Option (Int32) := if fJ0_isLatin1_1005 M = 0 then (none) else ((fJ1_charAt_1105 a1 M).bind fun v2 => some v2)
set_option maxRecDepth 8000 in
theorem kJ0_charAt_1005 (a1 : Int32) (M : cd_M) : cd_R 239 0 [some (.ref 1005), some (.int (a1))] [] M ((w_PI M) (fJ0_charAt_1005 a1 M)) := by
  unfold fJ0_charAt_1005
  refine r_ld (.aload_n 0) 1 2 0 (.ref 1005) rfl rfl rfl rfl 1 rfl ?_
  refine q_cTIz (.invokevirtual 492) rfl rfl rfl 241 rfl [.ref 1005] [] rfl (kJ0_isLatin1_1005 M) (fun z1 => ?_)
  refine q_br (w_PI M) (.ifCond .eq 12) 3 rfl rfl rfl (fJ0_isLatin1_1005 M = 0) 16 7 [] rfl (fun _ => ?_) (fun _ => ?_)
  · refine r_ld (.aload_n 0) 1 2 0 (.ref 1005) rfl rfl rfl rfl 17 rfl ?_
    refine r_go (.getfield 9) 3 rfl rfl rfl 20 [.ref 1105] rfl ?_
    refine r_ld (.iload_n 1) 1 0 1 (.int (a1)) rfl rfl rfl rfl 21 rfl ?_
    exact q_none (w_PI M) rfl
  · refine r_ld (.aload_n 0) 1 2 0 (.ref 1005) rfl rfl rfl rfl 8 rfl ?_
    refine r_go (.getfield 9) 3 rfl rfl rfl 11 [.ref 1105] rfl ?_
    refine r_ld (.iload_n 1) 1 0 1 (.int (a1)) rfl rfl rfl rfl 12 rfl ?_
    refine q_cIc (w_PI M) rfl (.invokestatic 495) rfl rfl rfl 243 rfl [.ref 1105, .int (a1)] [] rfl (kJ1_charAt_1105 a1 M) (fun v2 z3 => ?_)
    exact r_retC rfl rfl z3
def f7_isWord_2_1005_L28 : Nat → Int32 → cd_M → Option (Int32)
  | 0, _, _ => none
  | n + 1, a2, M => if fJ0_length_1005 M ≤ a2 then (some 1) else ((f7_byteAt_2 ((M.1 2 4) + a2) M).bind fun v1 => (fJ0_charAt_1005 a2 M).bind fun v2 => if v1 = v2 then (cd_lt (a2 + (1)) fun x4 => f7_isWord_2_1005_L28 n x4 M) else (some 0))
set_option maxRecDepth 8000 in
theorem k7_isWord_2_1005_L28 : ∀ (n : Nat) (a2 : Int32) (M : cd_M), cd_R 89 28 [some (.ref 2), some (.ref 1005), some (.int (a2))] [] M ((w_PI M) (f7_isWord_2_1005_L28 n a2 M)) := by
  intro n
  induction n with
  | zero =>
    intro a2 M
    exact q_none (w_PI M) rfl
  | succ n ih =>
    intro a2 M
    rw [f7_isWord_2_1005_L28]
    refine r_ld (.iload_n 2) 1 0 2 (.int (a2)) rfl rfl rfl rfl 29 rfl ?_
    refine r_ld (.aload_n 1) 1 2 1 (.ref 1005) rfl rfl rfl rfl 30 rfl ?_
    refine q_cTI (.invokevirtual 64) rfl rfl rfl 238 [.ref 1005] [.int (a2)] rfl (kJ0_length_1005 M) ?_
    refine q_br (w_PI M) (.if_icmp .ge 29) 3 rfl rfl rfl (fJ0_length_1005 M ≤ a2) 62 36 [] rfl (fun _ => ?_) (fun _ => ?_)
    · refine q_const (.iconst 1) 1 rfl rfl rfl 63 (1) _ rfl cd_kj1 ?_
      exact r_retZ rfl rfl (by decide)
    · refine r_ld (.aload_n 0) 1 2 0 (.ref 2) rfl rfl rfl rfl 37 rfl ?_
      refine r_ld (.aload_n 0) 1 2 0 (.ref 2) rfl rfl rfl rfl 38 rfl ?_
      refine r_go (.getfield 25) 3 rfl rfl rfl 41 [.int (M.1 2 4), .ref 2] rfl ?_
      refine r_ld (.iload_n 2) 1 0 2 (.int (a2)) rfl rfl rfl rfl 42 rfl ?_
      refine r_go (.iadd) 1 rfl rfl rfl 43 [.int ((M.1 2 4) + a2), .ref 2] rfl ?_
      refine q_cI (w_PI M) rfl (.invokevirtual 45) rfl rfl rfl 92 [.ref 2, .int ((M.1 2 4) + a2)] [] rfl (k7_byteAt_2 ((M.1 2 4) + a2) M) (fun v1 => ?_)
      refine r_ld (.aload_n 1) 1 2 1 (.ref 1005) rfl rfl rfl rfl 47 rfl ?_
      refine r_ld (.iload_n 2) 1 0 2 (.int (a2)) rfl rfl rfl rfl 48 rfl ?_
      refine q_cIc (w_PI M) rfl (.invokevirtual 69) rfl rfl rfl 239 rfl [.ref 1005, .int (a2)] [.int (v1)] rfl (kJ0_charAt_1005 a2 M) (fun v2 z3 => ?_)
      refine q_br (w_PI M) (.if_icmp .eq 5) 3 rfl rfl rfl (v1 = v2) 56 54 [] rfl (fun _ => ?_) (fun _ => ?_)
      · refine q_inc (w_PI M) 2 (1) (a2) rfl rfl rfl 59 rfl (1) cd_kj1 (fun x4 => [some (.ref 2), some (.ref 1005), some (.int (x4))]) (fun _ => rfl) (fun x4 => ?_)
        refine r_go (.goto (-31)) 3 rfl rfl rfl 28 [] rfl ?_
        exact r_w (ih x4 M) (cd_le_s (cd_le_s (cd_le_s cd_le_0)))
      · refine q_const (.iconst 0) 1 rfl rfl rfl 55 (0) _ rfl cd_kj0 ?_
        exact r_retZ rfl rfl (by decide)
def f7_isWord_2_1005 (M : cd_M) : Option (Int32) := if M.1 2 5 = 1 then (if (M.1 2 3) - (M.1 2 4) = fJ0_length_1005 M then (f7_isWord_2_1005_L28 cd_fu 0 M) else (some 0)) else (some 0)
set_option maxRecDepth 8000 in
theorem k7_isWord_2_1005 (M : cd_M) : cd_R 89 0 [some (.ref 2), some (.ref 1005), none] [] M ((w_PI M) (f7_isWord_2_1005 M)) := by
  unfold f7_isWord_2_1005
  refine r_ld (.aload_n 0) 1 2 0 (.ref 2) rfl rfl rfl rfl 1 rfl ?_
  refine r_go (.getfield 28) 3 rfl rfl rfl 4 [.int (M.1 2 5)] rfl ?_
  refine q_const (.iconst 1) 1 rfl rfl rfl 5 (1) _ rfl cd_kj1 ?_
  refine q_br (w_PI M) (.if_icmp .ne 19) 3 rfl rfl rfl (M.1 2 5 = 1) 8 24 [] rfl (fun _ => ?_) (fun _ => ?_)
  · refine r_ld (.aload_n 0) 1 2 0 (.ref 2) rfl rfl rfl rfl 9 rfl ?_
    refine r_go (.getfield 22) 3 rfl rfl rfl 12 [.int (M.1 2 3)] rfl ?_
    refine r_ld (.aload_n 0) 1 2 0 (.ref 2) rfl rfl rfl rfl 13 rfl ?_
    refine r_go (.getfield 25) 3 rfl rfl rfl 16 [.int (M.1 2 4), .int (M.1 2 3)] rfl ?_
    refine r_go (.isub) 1 rfl rfl rfl 17 [.int ((M.1 2 3) - (M.1 2 4))] rfl ?_
    refine r_ld (.aload_n 1) 1 2 1 (.ref 1005) rfl rfl rfl rfl 18 rfl ?_
    refine q_cTI (.invokevirtual 64) rfl rfl rfl 238 [.ref 1005] [.int ((M.1 2 3) - (M.1 2 4))] rfl (kJ0_length_1005 M) ?_
    refine q_br (w_PI M) (.if_icmp .eq 5) 3 rfl rfl rfl ((M.1 2 3) - (M.1 2 4) = fJ0_length_1005 M) 26 24 [] rfl (fun _ => ?_) (fun _ => ?_)
    · refine q_const (.iconst 0) 1 rfl rfl rfl 27 (0) _ rfl cd_kj0 ?_
      refine r_st (.istore_n 2) 1 0 2 rfl rfl rfl 28 rfl [some (.ref 2), some (.ref 1005), some (.int (0))] rfl ?_
      exact r_w (k7_isWord_2_1005_L28 cd_fu 0 M) (cd_le_s (cd_le_s (cd_le_s cd_le_0)))
    · refine q_const (.iconst 0) 1 rfl rfl rfl 25 (0) _ rfl cd_kj0 ?_
      exact r_retZ rfl rfl (by decide)
  · refine q_const (.iconst 0) 1 rfl rfl rfl 25 (0) _ rfl cd_kj0 ?_
    exact r_retZ rfl rfl (by decide)
def fJ0_coder_1006 (M : cd_M) : Int32 := if (1 : Int32) = 0 then (1) else (0)
set_option maxRecDepth 8000 in
theorem kJ0_coder_1006 (M : cd_M) : cd_R 240 0 [some (.ref 1006)] [] M ((w_TI M) (fJ0_coder_1006 M)) := by
  unfold fJ0_coder_1006
  refine r_go (.getstatic 38) 3 rfl rfl rfl 3 [.int (1)] rfl ?_
  refine q_br (w_TI M) (.ifCond .eq 10) 3 rfl rfl rfl ((1 : Int32) = 0) 13 6 [] rfl (fun _ => ?_) (fun _ => ?_)
  · refine q_const (.iconst 1) 1 rfl rfl rfl 14 (1) _ rfl cd_kj1 ?_
    exact r_retB rfl rfl (by decide)
  · refine r_ld (.aload_n 0) 1 2 0 (.ref 1006) rfl rfl rfl rfl 7 rfl ?_
    refine r_go (.getfield 15) 3 rfl rfl rfl 10 [.int (0)] rfl ?_
    refine r_go (.goto 4) 3 rfl rfl rfl 14 [.int (0)] rfl ?_
    exact r_retB rfl rfl (by decide)
def fJ0_length_1006 (M : cd_M) : Int32 := ((4 : Int32) >>> ((fJ0_coder_1006 M : Int32) &&& 31))
set_option maxRecDepth 8000 in
theorem kJ0_length_1006 (M : cd_M) : cd_R 238 0 [some (.ref 1006)] [] M ((w_TI M) (fJ0_length_1006 M)) := by
  unfold fJ0_length_1006
  refine r_ld (.aload_n 0) 1 2 0 (.ref 1006) rfl rfl rfl rfl 1 rfl ?_
  refine r_go (.getfield 9) 3 rfl rfl rfl 4 [.ref 1106] rfl ?_
  refine r_go (.arraylength) 1 rfl rfl rfl 5 [.int (4)] rfl ?_
  refine r_ld (.aload_n 0) 1 2 0 (.ref 1006) rfl rfl rfl rfl 6 rfl ?_
  refine q_cTI (.invokevirtual 335) rfl rfl rfl 240 [.ref 1006] [.int (4)] rfl (kJ0_coder_1006 M) ?_
  refine r_go (.ishr) 1 rfl rfl rfl 10 [.int ((4 : Int32) >>> ((fJ0_coder_1006 M : Int32) &&& 31))] rfl ?_
  exact r_ret .ireturn 1 rfl rfl rfl _ rfl
def fJ0_isLatin1_1006 (M : cd_M) : Int32 := if (1 : Int32) = 0 then (0) else (if (0 : Int32) = 0 then (1) else (0))
set_option maxRecDepth 8000 in
theorem kJ0_isLatin1_1006 (M : cd_M) : cd_R 241 0 [some (.ref 1006)] [] M ((w_TI M) (fJ0_isLatin1_1006 M)) := by
  unfold fJ0_isLatin1_1006
  refine r_go (.getstatic 38) 3 rfl rfl rfl 3 [.int (1)] rfl ?_
  refine q_br (w_TI M) (.ifCond .eq 14) 3 rfl rfl rfl ((1 : Int32) = 0) 17 6 [] rfl (fun _ => ?_) (fun _ => ?_)
  · refine q_const (.iconst 0) 1 rfl rfl rfl 18 (0) _ rfl cd_kj0 ?_
    exact r_retZ rfl rfl (by decide)
  · refine r_ld (.aload_n 0) 1 2 0 (.ref 1006) rfl rfl rfl rfl 7 rfl ?_
    refine r_go (.getfield 15) 3 rfl rfl rfl 10 [.int (0)] rfl ?_
    refine q_br (w_TI M) (.ifCond .ne 7) 3 rfl rfl rfl ((0 : Int32) = 0) 13 17 [] rfl (fun _ => ?_) (fun _ => ?_)
    · refine q_const (.iconst 1) 1 rfl rfl rfl 14 (1) _ rfl cd_kj1 ?_
      refine r_go (.goto 4) 3 rfl rfl rfl 18 [.int (1)] rfl ?_
      exact r_retZ rfl rfl (by decide)
    · refine q_const (.iconst 0) 1 rfl rfl rfl 18 (0) _ rfl cd_kj0 ?_
      exact r_retZ rfl rfl (by decide)
def fJ1_charAt_1106 (a1 : Int32) (M : cd_M) : Option (Int32) := (fJ0_checkIndex a1 4 M).bind fun _ => if cd_in a1 4 = true then (some ((((cd_sbyte 1106 a1) &&& 255 : Int32).toUInt32 % 65536).toInt32)) else none
set_option maxRecDepth 8000 in
theorem kJ1_charAt_1106 (a1 : Int32) (M : cd_M) : cd_R 243 0 [some (.ref 1106), some (.int (a1))] [] M ((w_PI M) (fJ1_charAt_1106 a1 M)) := by
  unfold fJ1_charAt_1106
  refine r_ld (.iload_n 1) 1 0 1 (.int (a1)) rfl rfl rfl rfl 1 rfl ?_
  refine r_ld (.aload_n 0) 1 2 0 (.ref 1106) rfl rfl rfl rfl 2 rfl ?_
  refine r_go (.arraylength) 1 rfl rfl rfl 3 [.int (4), .int (a1)] rfl ?_
  refine q_cU (w_PI M) rfl (.invokestatic 9) rfl rfl rfl 242 [.int (a1), .int (4)] [] rfl (kJ0_checkIndex a1 4 M) ?_
  refine r_ld (.aload_n 0) 1 2 0 (.ref 1106) rfl rfl rfl rfl 7 rfl ?_
  refine r_ld (.iload_n 1) 1 0 1 (.int (a1)) rfl rfl rfl rfl 8 rfl ?_
  refine q_sbald (w_PI M) rfl rfl 1106 4 rfl rfl (by decide) ?_
  refine q_const (.sipush 255) 3 rfl rfl rfl 12 (255) _ rfl cd_kt255 ?_
  refine r_go (.iand) 1 rfl rfl rfl 13 [.int ((cd_sbyte 1106 a1) &&& 255)] rfl ?_
  refine r_go (.i2c) 1 rfl rfl rfl 14 [.int ((((cd_sbyte 1106 a1) &&& 255 : Int32).toUInt32 % 65536).toInt32)] rfl ?_
  exact r_retC rfl rfl (pk_nc _)
def fJ0_charAt_1006 (a1 : Int32) (M : cd_M) : Option (Int32) := if fJ0_isLatin1_1006 M = 0 then (none) else ((fJ1_charAt_1106 a1 M).bind fun v2 => some v2)
set_option maxRecDepth 8000 in
theorem kJ0_charAt_1006 (a1 : Int32) (M : cd_M) : cd_R 239 0 [some (.ref 1006), some (.int (a1))] [] M ((w_PI M) (fJ0_charAt_1006 a1 M)) := by
  unfold fJ0_charAt_1006
  refine r_ld (.aload_n 0) 1 2 0 (.ref 1006) rfl rfl rfl rfl 1 rfl ?_
  refine q_cTIz (.invokevirtual 492) rfl rfl rfl 241 rfl [.ref 1006] [] rfl (kJ0_isLatin1_1006 M) (fun z1 => ?_)
  refine q_br (w_PI M) (.ifCond .eq 12) 3 rfl rfl rfl (fJ0_isLatin1_1006 M = 0) 16 7 [] rfl (fun _ => ?_) (fun _ => ?_)
  · refine r_ld (.aload_n 0) 1 2 0 (.ref 1006) rfl rfl rfl rfl 17 rfl ?_
    refine r_go (.getfield 9) 3 rfl rfl rfl 20 [.ref 1106] rfl ?_
    refine r_ld (.iload_n 1) 1 0 1 (.int (a1)) rfl rfl rfl rfl 21 rfl ?_
    exact q_none (w_PI M) rfl
  · refine r_ld (.aload_n 0) 1 2 0 (.ref 1006) rfl rfl rfl rfl 8 rfl ?_
    refine r_go (.getfield 9) 3 rfl rfl rfl 11 [.ref 1106] rfl ?_
    refine r_ld (.iload_n 1) 1 0 1 (.int (a1)) rfl rfl rfl rfl 12 rfl ?_
    refine q_cIc (w_PI M) rfl (.invokestatic 495) rfl rfl rfl 243 rfl [.ref 1106, .int (a1)] [] rfl (kJ1_charAt_1106 a1 M) (fun v2 z3 => ?_)
    exact r_retC rfl rfl z3
def f7_isWord_2_1006_L28 : Nat → Int32 → cd_M → Option (Int32)
  | 0, _, _ => none
  | n + 1, a2, M => if fJ0_length_1006 M ≤ a2 then (some 1) else ((f7_byteAt_2 ((M.1 2 4) + a2) M).bind fun v1 => (fJ0_charAt_1006 a2 M).bind fun v2 => if v1 = v2 then (cd_lt (a2 + (1)) fun x4 => f7_isWord_2_1006_L28 n x4 M) else (some 0))
set_option maxRecDepth 8000 in
theorem k7_isWord_2_1006_L28 : ∀ (n : Nat) (a2 : Int32) (M : cd_M), cd_R 89 28 [some (.ref 2), some (.ref 1006), some (.int (a2))] [] M ((w_PI M) (f7_isWord_2_1006_L28 n a2 M)) := by
  intro n
  induction n with
  | zero =>
    intro a2 M
    exact q_none (w_PI M) rfl
  | succ n ih =>
    intro a2 M
    rw [f7_isWord_2_1006_L28]
    refine r_ld (.iload_n 2) 1 0 2 (.int (a2)) rfl rfl rfl rfl 29 rfl ?_
    refine r_ld (.aload_n 1) 1 2 1 (.ref 1006) rfl rfl rfl rfl 30 rfl ?_
    refine q_cTI (.invokevirtual 64) rfl rfl rfl 238 [.ref 1006] [.int (a2)] rfl (kJ0_length_1006 M) ?_
    refine q_br (w_PI M) (.if_icmp .ge 29) 3 rfl rfl rfl (fJ0_length_1006 M ≤ a2) 62 36 [] rfl (fun _ => ?_) (fun _ => ?_)
    · refine q_const (.iconst 1) 1 rfl rfl rfl 63 (1) _ rfl cd_kj1 ?_
      exact r_retZ rfl rfl (by decide)
    · refine r_ld (.aload_n 0) 1 2 0 (.ref 2) rfl rfl rfl rfl 37 rfl ?_
      refine r_ld (.aload_n 0) 1 2 0 (.ref 2) rfl rfl rfl rfl 38 rfl ?_
      refine r_go (.getfield 25) 3 rfl rfl rfl 41 [.int (M.1 2 4), .ref 2] rfl ?_
      refine r_ld (.iload_n 2) 1 0 2 (.int (a2)) rfl rfl rfl rfl 42 rfl ?_
      refine r_go (.iadd) 1 rfl rfl rfl 43 [.int ((M.1 2 4) + a2), .ref 2] rfl ?_
      refine q_cI (w_PI M) rfl (.invokevirtual 45) rfl rfl rfl 92 [.ref 2, .int ((M.1 2 4) + a2)] [] rfl (k7_byteAt_2 ((M.1 2 4) + a2) M) (fun v1 => ?_)
      refine r_ld (.aload_n 1) 1 2 1 (.ref 1006) rfl rfl rfl rfl 47 rfl ?_
      refine r_ld (.iload_n 2) 1 0 2 (.int (a2)) rfl rfl rfl rfl 48 rfl ?_
      refine q_cIc (w_PI M) rfl (.invokevirtual 69) rfl rfl rfl 239 rfl [.ref 1006, .int (a2)] [.int (v1)] rfl (kJ0_charAt_1006 a2 M) (fun v2 z3 => ?_)
      refine q_br (w_PI M) (.if_icmp .eq 5) 3 rfl rfl rfl (v1 = v2) 56 54 [] rfl (fun _ => ?_) (fun _ => ?_)
      · refine q_inc (w_PI M) 2 (1) (a2) rfl rfl rfl 59 rfl (1) cd_kj1 (fun x4 => [some (.ref 2), some (.ref 1006), some (.int (x4))]) (fun _ => rfl) (fun x4 => ?_)
        refine r_go (.goto (-31)) 3 rfl rfl rfl 28 [] rfl ?_
        exact r_w (ih x4 M) (cd_le_s (cd_le_s (cd_le_s cd_le_0)))
      · refine q_const (.iconst 0) 1 rfl rfl rfl 55 (0) _ rfl cd_kj0 ?_
        exact r_retZ rfl rfl (by decide)
def f7_isWord_2_1006 (M : cd_M) : Option (Int32) := if M.1 2 5 = 1 then (if (M.1 2 3) - (M.1 2 4) = fJ0_length_1006 M then (f7_isWord_2_1006_L28 cd_fu 0 M) else (some 0)) else (some 0)
set_option maxRecDepth 8000 in
theorem k7_isWord_2_1006 (M : cd_M) : cd_R 89 0 [some (.ref 2), some (.ref 1006), none] [] M ((w_PI M) (f7_isWord_2_1006 M)) := by
  unfold f7_isWord_2_1006
  refine r_ld (.aload_n 0) 1 2 0 (.ref 2) rfl rfl rfl rfl 1 rfl ?_
  refine r_go (.getfield 28) 3 rfl rfl rfl 4 [.int (M.1 2 5)] rfl ?_
  refine q_const (.iconst 1) 1 rfl rfl rfl 5 (1) _ rfl cd_kj1 ?_
  refine q_br (w_PI M) (.if_icmp .ne 19) 3 rfl rfl rfl (M.1 2 5 = 1) 8 24 [] rfl (fun _ => ?_) (fun _ => ?_)
  · refine r_ld (.aload_n 0) 1 2 0 (.ref 2) rfl rfl rfl rfl 9 rfl ?_
    refine r_go (.getfield 22) 3 rfl rfl rfl 12 [.int (M.1 2 3)] rfl ?_
    refine r_ld (.aload_n 0) 1 2 0 (.ref 2) rfl rfl rfl rfl 13 rfl ?_
    refine r_go (.getfield 25) 3 rfl rfl rfl 16 [.int (M.1 2 4), .int (M.1 2 3)] rfl ?_
    refine r_go (.isub) 1 rfl rfl rfl 17 [.int ((M.1 2 3) - (M.1 2 4))] rfl ?_
    refine r_ld (.aload_n 1) 1 2 1 (.ref 1006) rfl rfl rfl rfl 18 rfl ?_
    refine q_cTI (.invokevirtual 64) rfl rfl rfl 238 [.ref 1006] [.int ((M.1 2 3) - (M.1 2 4))] rfl (kJ0_length_1006 M) ?_
    refine q_br (w_PI M) (.if_icmp .eq 5) 3 rfl rfl rfl ((M.1 2 3) - (M.1 2 4) = fJ0_length_1006 M) 26 24 [] rfl (fun _ => ?_) (fun _ => ?_)
    · refine q_const (.iconst 0) 1 rfl rfl rfl 27 (0) _ rfl cd_kj0 ?_
      refine r_st (.istore_n 2) 1 0 2 rfl rfl rfl 28 rfl [some (.ref 2), some (.ref 1006), some (.int (0))] rfl ?_
      exact r_w (k7_isWord_2_1006_L28 cd_fu 0 M) (cd_le_s (cd_le_s (cd_le_s cd_le_0)))
    · refine q_const (.iconst 0) 1 rfl rfl rfl 25 (0) _ rfl cd_kj0 ?_
      exact r_retZ rfl rfl (by decide)
  · refine q_const (.iconst 0) 1 rfl rfl rfl 25 (0) _ rfl cd_kj0 ?_
    exact r_retZ rfl rfl (by decide)
def fJ0_coder_1007 (M : cd_M) : Int32 := if (1 : Int32) = 0 then (1) else (0)
set_option maxRecDepth 8000 in
theorem kJ0_coder_1007 (M : cd_M) : cd_R 240 0 [some (.ref 1007)] [] M ((w_TI M) (fJ0_coder_1007 M)) := by
  unfold fJ0_coder_1007
  refine r_go (.getstatic 38) 3 rfl rfl rfl 3 [.int (1)] rfl ?_
  refine q_br (w_TI M) (.ifCond .eq 10) 3 rfl rfl rfl ((1 : Int32) = 0) 13 6 [] rfl (fun _ => ?_) (fun _ => ?_)
  · refine q_const (.iconst 1) 1 rfl rfl rfl 14 (1) _ rfl cd_kj1 ?_
    exact r_retB rfl rfl (by decide)
  · refine r_ld (.aload_n 0) 1 2 0 (.ref 1007) rfl rfl rfl rfl 7 rfl ?_
    refine r_go (.getfield 15) 3 rfl rfl rfl 10 [.int (0)] rfl ?_
    refine r_go (.goto 4) 3 rfl rfl rfl 14 [.int (0)] rfl ?_
    exact r_retB rfl rfl (by decide)
def fJ0_length_1007 (M : cd_M) : Int32 := ((7 : Int32) >>> ((fJ0_coder_1007 M : Int32) &&& 31))
set_option maxRecDepth 8000 in
theorem kJ0_length_1007 (M : cd_M) : cd_R 238 0 [some (.ref 1007)] [] M ((w_TI M) (fJ0_length_1007 M)) := by
  unfold fJ0_length_1007
  refine r_ld (.aload_n 0) 1 2 0 (.ref 1007) rfl rfl rfl rfl 1 rfl ?_
  refine r_go (.getfield 9) 3 rfl rfl rfl 4 [.ref 1107] rfl ?_
  refine r_go (.arraylength) 1 rfl rfl rfl 5 [.int (7)] rfl ?_
  refine r_ld (.aload_n 0) 1 2 0 (.ref 1007) rfl rfl rfl rfl 6 rfl ?_
  refine q_cTI (.invokevirtual 335) rfl rfl rfl 240 [.ref 1007] [.int (7)] rfl (kJ0_coder_1007 M) ?_
  refine r_go (.ishr) 1 rfl rfl rfl 10 [.int ((7 : Int32) >>> ((fJ0_coder_1007 M : Int32) &&& 31))] rfl ?_
  exact r_ret .ireturn 1 rfl rfl rfl _ rfl
def fJ0_isLatin1_1007 (M : cd_M) : Int32 := if (1 : Int32) = 0 then (0) else (if (0 : Int32) = 0 then (1) else (0))
set_option maxRecDepth 8000 in
theorem kJ0_isLatin1_1007 (M : cd_M) : cd_R 241 0 [some (.ref 1007)] [] M ((w_TI M) (fJ0_isLatin1_1007 M)) := by
  unfold fJ0_isLatin1_1007
  refine r_go (.getstatic 38) 3 rfl rfl rfl 3 [.int (1)] rfl ?_
  refine q_br (w_TI M) (.ifCond .eq 14) 3 rfl rfl rfl ((1 : Int32) = 0) 17 6 [] rfl (fun _ => ?_) (fun _ => ?_)
  · refine q_const (.iconst 0) 1 rfl rfl rfl 18 (0) _ rfl cd_kj0 ?_
    exact r_retZ rfl rfl (by decide)
  · refine r_ld (.aload_n 0) 1 2 0 (.ref 1007) rfl rfl rfl rfl 7 rfl ?_
    refine r_go (.getfield 15) 3 rfl rfl rfl 10 [.int (0)] rfl ?_
    refine q_br (w_TI M) (.ifCond .ne 7) 3 rfl rfl rfl ((0 : Int32) = 0) 13 17 [] rfl (fun _ => ?_) (fun _ => ?_)
    · refine q_const (.iconst 1) 1 rfl rfl rfl 14 (1) _ rfl cd_kj1 ?_
      refine r_go (.goto 4) 3 rfl rfl rfl 18 [.int (1)] rfl ?_
      exact r_retZ rfl rfl (by decide)
    · refine q_const (.iconst 0) 1 rfl rfl rfl 18 (0) _ rfl cd_kj0 ?_
      exact r_retZ rfl rfl (by decide)
def fJ1_charAt_1107 (a1 : Int32) (M : cd_M) : Option (Int32) := (fJ0_checkIndex a1 7 M).bind fun _ => if cd_in a1 7 = true then (some ((((cd_sbyte 1107 a1) &&& 255 : Int32).toUInt32 % 65536).toInt32)) else none
set_option maxRecDepth 8000 in
theorem kJ1_charAt_1107 (a1 : Int32) (M : cd_M) : cd_R 243 0 [some (.ref 1107), some (.int (a1))] [] M ((w_PI M) (fJ1_charAt_1107 a1 M)) := by
  unfold fJ1_charAt_1107
  refine r_ld (.iload_n 1) 1 0 1 (.int (a1)) rfl rfl rfl rfl 1 rfl ?_
  refine r_ld (.aload_n 0) 1 2 0 (.ref 1107) rfl rfl rfl rfl 2 rfl ?_
  refine r_go (.arraylength) 1 rfl rfl rfl 3 [.int (7), .int (a1)] rfl ?_
  refine q_cU (w_PI M) rfl (.invokestatic 9) rfl rfl rfl 242 [.int (a1), .int (7)] [] rfl (kJ0_checkIndex a1 7 M) ?_
  refine r_ld (.aload_n 0) 1 2 0 (.ref 1107) rfl rfl rfl rfl 7 rfl ?_
  refine r_ld (.iload_n 1) 1 0 1 (.int (a1)) rfl rfl rfl rfl 8 rfl ?_
  refine q_sbald (w_PI M) rfl rfl 1107 7 rfl rfl (by decide) ?_
  refine q_const (.sipush 255) 3 rfl rfl rfl 12 (255) _ rfl cd_kt255 ?_
  refine r_go (.iand) 1 rfl rfl rfl 13 [.int ((cd_sbyte 1107 a1) &&& 255)] rfl ?_
  refine r_go (.i2c) 1 rfl rfl rfl 14 [.int ((((cd_sbyte 1107 a1) &&& 255 : Int32).toUInt32 % 65536).toInt32)] rfl ?_
  exact r_retC rfl rfl (pk_nc _)
def fJ0_charAt_1007 (a1 : Int32) (M : cd_M) : Option (Int32) := if fJ0_isLatin1_1007 M = 0 then (none) else ((fJ1_charAt_1107 a1 M).bind fun v2 => some v2)
set_option maxRecDepth 8000 in
theorem kJ0_charAt_1007 (a1 : Int32) (M : cd_M) : cd_R 239 0 [some (.ref 1007), some (.int (a1))] [] M ((w_PI M) (fJ0_charAt_1007 a1 M)) := by
  unfold fJ0_charAt_1007
  refine r_ld (.aload_n 0) 1 2 0 (.ref 1007) rfl rfl rfl rfl 1 rfl ?_
  refine q_cTIz (.invokevirtual 492) rfl rfl rfl 241 rfl [.ref 1007] [] rfl (kJ0_isLatin1_1007 M) (fun z1 => ?_)
  refine q_br (w_PI M) (.ifCond .eq 12) 3 rfl rfl rfl (fJ0_isLatin1_1007 M = 0) 16 7 [] rfl (fun _ => ?_) (fun _ => ?_)
  · refine r_ld (.aload_n 0) 1 2 0 (.ref 1007) rfl rfl rfl rfl 17 rfl ?_
    refine r_go (.getfield 9) 3 rfl rfl rfl 20 [.ref 1107] rfl ?_
    refine r_ld (.iload_n 1) 1 0 1 (.int (a1)) rfl rfl rfl rfl 21 rfl ?_
    exact q_none (w_PI M) rfl
  · refine r_ld (.aload_n 0) 1 2 0 (.ref 1007) rfl rfl rfl rfl 8 rfl ?_
    refine r_go (.getfield 9) 3 rfl rfl rfl 11 [.ref 1107] rfl ?_
    refine r_ld (.iload_n 1) 1 0 1 (.int (a1)) rfl rfl rfl rfl 12 rfl ?_
    refine q_cIc (w_PI M) rfl (.invokestatic 495) rfl rfl rfl 243 rfl [.ref 1107, .int (a1)] [] rfl (kJ1_charAt_1107 a1 M) (fun v2 z3 => ?_)
    exact r_retC rfl rfl z3
def f7_isWord_2_1007_L28 : Nat → Int32 → cd_M → Option (Int32)
  | 0, _, _ => none
  | n + 1, a2, M => if fJ0_length_1007 M ≤ a2 then (some 1) else ((f7_byteAt_2 ((M.1 2 4) + a2) M).bind fun v1 => (fJ0_charAt_1007 a2 M).bind fun v2 => if v1 = v2 then (cd_lt (a2 + (1)) fun x4 => f7_isWord_2_1007_L28 n x4 M) else (some 0))
set_option maxRecDepth 8000 in
theorem k7_isWord_2_1007_L28 : ∀ (n : Nat) (a2 : Int32) (M : cd_M), cd_R 89 28 [some (.ref 2), some (.ref 1007), some (.int (a2))] [] M ((w_PI M) (f7_isWord_2_1007_L28 n a2 M)) := by
  intro n
  induction n with
  | zero =>
    intro a2 M
    exact q_none (w_PI M) rfl
  | succ n ih =>
    intro a2 M
    rw [f7_isWord_2_1007_L28]
    refine r_ld (.iload_n 2) 1 0 2 (.int (a2)) rfl rfl rfl rfl 29 rfl ?_
    refine r_ld (.aload_n 1) 1 2 1 (.ref 1007) rfl rfl rfl rfl 30 rfl ?_
    refine q_cTI (.invokevirtual 64) rfl rfl rfl 238 [.ref 1007] [.int (a2)] rfl (kJ0_length_1007 M) ?_
    refine q_br (w_PI M) (.if_icmp .ge 29) 3 rfl rfl rfl (fJ0_length_1007 M ≤ a2) 62 36 [] rfl (fun _ => ?_) (fun _ => ?_)
    · refine q_const (.iconst 1) 1 rfl rfl rfl 63 (1) _ rfl cd_kj1 ?_
      exact r_retZ rfl rfl (by decide)
    · refine r_ld (.aload_n 0) 1 2 0 (.ref 2) rfl rfl rfl rfl 37 rfl ?_
      refine r_ld (.aload_n 0) 1 2 0 (.ref 2) rfl rfl rfl rfl 38 rfl ?_
      refine r_go (.getfield 25) 3 rfl rfl rfl 41 [.int (M.1 2 4), .ref 2] rfl ?_
      refine r_ld (.iload_n 2) 1 0 2 (.int (a2)) rfl rfl rfl rfl 42 rfl ?_
      refine r_go (.iadd) 1 rfl rfl rfl 43 [.int ((M.1 2 4) + a2), .ref 2] rfl ?_
      refine q_cI (w_PI M) rfl (.invokevirtual 45) rfl rfl rfl 92 [.ref 2, .int ((M.1 2 4) + a2)] [] rfl (k7_byteAt_2 ((M.1 2 4) + a2) M) (fun v1 => ?_)
      refine r_ld (.aload_n 1) 1 2 1 (.ref 1007) rfl rfl rfl rfl 47 rfl ?_
      refine r_ld (.iload_n 2) 1 0 2 (.int (a2)) rfl rfl rfl rfl 48 rfl ?_
      refine q_cIc (w_PI M) rfl (.invokevirtual 69) rfl rfl rfl 239 rfl [.ref 1007, .int (a2)] [.int (v1)] rfl (kJ0_charAt_1007 a2 M) (fun v2 z3 => ?_)
      refine q_br (w_PI M) (.if_icmp .eq 5) 3 rfl rfl rfl (v1 = v2) 56 54 [] rfl (fun _ => ?_) (fun _ => ?_)
      · refine q_inc (w_PI M) 2 (1) (a2) rfl rfl rfl 59 rfl (1) cd_kj1 (fun x4 => [some (.ref 2), some (.ref 1007), some (.int (x4))]) (fun _ => rfl) (fun x4 => ?_)
        refine r_go (.goto (-31)) 3 rfl rfl rfl 28 [] rfl ?_
        exact r_w (ih x4 M) (cd_le_s (cd_le_s (cd_le_s cd_le_0)))
      · refine q_const (.iconst 0) 1 rfl rfl rfl 55 (0) _ rfl cd_kj0 ?_
        exact r_retZ rfl rfl (by decide)
def f7_isWord_2_1007 (M : cd_M) : Option (Int32) := if M.1 2 5 = 1 then (if (M.1 2 3) - (M.1 2 4) = fJ0_length_1007 M then (f7_isWord_2_1007_L28 cd_fu 0 M) else (some 0)) else (some 0)
set_option maxRecDepth 8000 in
theorem k7_isWord_2_1007 (M : cd_M) : cd_R 89 0 [some (.ref 2), some (.ref 1007), none] [] M ((w_PI M) (f7_isWord_2_1007 M)) := by
  unfold f7_isWord_2_1007
  refine r_ld (.aload_n 0) 1 2 0 (.ref 2) rfl rfl rfl rfl 1 rfl ?_
  refine r_go (.getfield 28) 3 rfl rfl rfl 4 [.int (M.1 2 5)] rfl ?_
  refine q_const (.iconst 1) 1 rfl rfl rfl 5 (1) _ rfl cd_kj1 ?_
  refine q_br (w_PI M) (.if_icmp .ne 19) 3 rfl rfl rfl (M.1 2 5 = 1) 8 24 [] rfl (fun _ => ?_) (fun _ => ?_)
  · refine r_ld (.aload_n 0) 1 2 0 (.ref 2) rfl rfl rfl rfl 9 rfl ?_
    refine r_go (.getfield 22) 3 rfl rfl rfl 12 [.int (M.1 2 3)] rfl ?_
    refine r_ld (.aload_n 0) 1 2 0 (.ref 2) rfl rfl rfl rfl 13 rfl ?_
    refine r_go (.getfield 25) 3 rfl rfl rfl 16 [.int (M.1 2 4), .int (M.1 2 3)] rfl ?_
    refine r_go (.isub) 1 rfl rfl rfl 17 [.int ((M.1 2 3) - (M.1 2 4))] rfl ?_
    refine r_ld (.aload_n 1) 1 2 1 (.ref 1007) rfl rfl rfl rfl 18 rfl ?_
    refine q_cTI (.invokevirtual 64) rfl rfl rfl 238 [.ref 1007] [.int ((M.1 2 3) - (M.1 2 4))] rfl (kJ0_length_1007 M) ?_
    refine q_br (w_PI M) (.if_icmp .eq 5) 3 rfl rfl rfl ((M.1 2 3) - (M.1 2 4) = fJ0_length_1007 M) 26 24 [] rfl (fun _ => ?_) (fun _ => ?_)
    · refine q_const (.iconst 0) 1 rfl rfl rfl 27 (0) _ rfl cd_kj0 ?_
      refine r_st (.istore_n 2) 1 0 2 rfl rfl rfl 28 rfl [some (.ref 2), some (.ref 1007), some (.int (0))] rfl ?_
      exact r_w (k7_isWord_2_1007_L28 cd_fu 0 M) (cd_le_s (cd_le_s (cd_le_s cd_le_0)))
    · refine q_const (.iconst 0) 1 rfl rfl rfl 25 (0) _ rfl cd_kj0 ?_
      exact r_retZ rfl rfl (by decide)
  · refine q_const (.iconst 0) 1 rfl rfl rfl 25 (0) _ rfl cd_kj0 ?_
    exact r_retZ rfl rfl (by decide)
def f8_valueTold_1 (M : cd_M) : Option (Int32) := (f7_isWord_2_1003 M).bind fun v1 => if v1 = 0 then ((f7_isWord_2_1004 M).bind fun v3 => if v3 = 0 then ((f7_isWord_2_1005 M).bind fun v5 => if v5 = 0 then ((f7_isWord_2_1006 M).bind fun v7 => if v7 = 0 then ((f7_isWord_2_1007 M).bind fun v9 => if v9 = 0 then (some (-1)) else (some 4)) else (some 3)) else (some 2)) else (some 1)) else (some 0)
set_option maxRecDepth 8000 in
theorem k8_valueTold_1 (M : cd_M) : cd_R 104 0 [some (.ref 1)] [] M ((w_PI M) (f8_valueTold_1 M)) := by
  unfold f8_valueTold_1
  refine r_ld (.aload_n 0) 1 2 0 (.ref 1) rfl rfl rfl rfl 1 rfl ?_
  refine r_go (.getfield 12) 3 rfl rfl rfl 4 [.ref 2] rfl ?_
  refine r_go (.ldc 122) 2 rfl rfl rfl 6 [.ref 1003, .ref 2] rfl ?_
  refine q_cIz (w_PI M) rfl (.invokevirtual 74) rfl rfl rfl 89 rfl [.ref 2, .ref 1003] [] rfl (k7_isWord_2_1003 M) (fun v1 z2 => ?_)
  refine q_br (w_PI M) (.ifCond .eq 5) 3 rfl rfl rfl (v1 = 0) 14 12 [] rfl (fun _ => ?_) (fun _ => ?_)
  · refine r_ld (.aload_n 0) 1 2 0 (.ref 1) rfl rfl rfl rfl 15 rfl ?_
    refine r_go (.getfield 12) 3 rfl rfl rfl 18 [.ref 2] rfl ?_
    refine r_go (.ldc 124) 2 rfl rfl rfl 20 [.ref 1004, .ref 2] rfl ?_
    refine q_cIz (w_PI M) rfl (.invokevirtual 74) rfl rfl rfl 89 rfl [.ref 2, .ref 1004] [] rfl (k7_isWord_2_1004 M) (fun v3 z4 => ?_)
    refine q_br (w_PI M) (.ifCond .eq 5) 3 rfl rfl rfl (v3 = 0) 28 26 [] rfl (fun _ => ?_) (fun _ => ?_)
    · refine r_ld (.aload_n 0) 1 2 0 (.ref 1) rfl rfl rfl rfl 29 rfl ?_
      refine r_go (.getfield 12) 3 rfl rfl rfl 32 [.ref 2] rfl ?_
      refine r_go (.ldc 126) 2 rfl rfl rfl 34 [.ref 1005, .ref 2] rfl ?_
      refine q_cIz (w_PI M) rfl (.invokevirtual 74) rfl rfl rfl 89 rfl [.ref 2, .ref 1005] [] rfl (k7_isWord_2_1005 M) (fun v5 z6 => ?_)
      refine q_br (w_PI M) (.ifCond .eq 5) 3 rfl rfl rfl (v5 = 0) 42 40 [] rfl (fun _ => ?_) (fun _ => ?_)
      · refine r_ld (.aload_n 0) 1 2 0 (.ref 1) rfl rfl rfl rfl 43 rfl ?_
        refine r_go (.getfield 12) 3 rfl rfl rfl 46 [.ref 2] rfl ?_
        refine r_go (.ldc 128) 2 rfl rfl rfl 48 [.ref 1006, .ref 2] rfl ?_
        refine q_cIz (w_PI M) rfl (.invokevirtual 74) rfl rfl rfl 89 rfl [.ref 2, .ref 1006] [] rfl (k7_isWord_2_1006 M) (fun v7 z8 => ?_)
        refine q_br (w_PI M) (.ifCond .eq 5) 3 rfl rfl rfl (v7 = 0) 56 54 [] rfl (fun _ => ?_) (fun _ => ?_)
        · refine r_ld (.aload_n 0) 1 2 0 (.ref 1) rfl rfl rfl rfl 57 rfl ?_
          refine r_go (.getfield 12) 3 rfl rfl rfl 60 [.ref 2] rfl ?_
          refine r_go (.ldc 130) 2 rfl rfl rfl 62 [.ref 1007, .ref 2] rfl ?_
          refine q_cIz (w_PI M) rfl (.invokevirtual 74) rfl rfl rfl 89 rfl [.ref 2, .ref 1007] [] rfl (k7_isWord_2_1007 M) (fun v9 z10 => ?_)
          refine q_br (w_PI M) (.ifCond .eq 7) 3 rfl rfl rfl (v9 = 0) 72 68 [] rfl (fun _ => ?_) (fun _ => ?_)
          · refine q_const (.iconst (-1)) 1 rfl rfl rfl 73 (-1) _ rfl cd_kjm1 ?_
            exact r_ret .ireturn 1 rfl rfl rfl _ rfl
          · refine q_const (.iconst 4) 1 rfl rfl rfl 69 (4) _ rfl cd_kj4 ?_
            refine r_go (.goto 4) 3 rfl rfl rfl 73 [.int (4)] rfl ?_
            exact r_ret .ireturn 1 rfl rfl rfl _ rfl
        · refine q_const (.iconst 3) 1 rfl rfl rfl 55 (3) _ rfl cd_kj3 ?_
          exact r_ret .ireturn 1 rfl rfl rfl _ rfl
      · refine q_const (.iconst 2) 1 rfl rfl rfl 41 (2) _ rfl cd_kj2 ?_
        exact r_ret .ireturn 1 rfl rfl rfl _ rfl
    · refine q_const (.iconst 1) 1 rfl rfl rfl 27 (1) _ rfl cd_kj1 ?_
      exact r_ret .ireturn 1 rfl rfl rfl _ rfl
  · refine q_const (.iconst 0) 1 rfl rfl rfl 13 (0) _ rfl cd_kj0 ?_
    exact r_ret .ireturn 1 rfl rfl rfl _ rfl
def f5_putValue_4 (a1 : Int32) (a2 : Int32) (M : cd_M) : Option cd_M := if a1 < 0 then (some M) else (if 5 ≤ a1 then (some M) else (if cd_in a1 5 = true then (cd_lt (cd_wI M 22 a1.toNatClampNeg a2) fun M1 => some M1) else none))
set_option maxRecDepth 8000 in
theorem k5_putValue_4 (a1 : Int32) (a2 : Int32) (M : cd_M) : cd_R 58 0 [some (.ref 4), some (.int (a1)), some (.int (a2))] [] M (w_PV (f5_putValue_4 a1 a2 M)) := by
  unfold f5_putValue_4
  refine r_ld (.iload_n 1) 1 0 1 (.int (a1)) rfl rfl rfl rfl 1 rfl ?_
  refine q_br w_PV (.ifCond .lt 15) 3 rfl rfl rfl (a1 < 0) 16 4 [] rfl (fun _ => ?_) (fun _ => ?_)
  · exact r_ret .return_ 1 rfl rfl rfl _ rfl
  · refine r_ld (.iload_n 1) 1 0 1 (.int (a1)) rfl rfl rfl rfl 5 rfl ?_
    refine q_const (.iconst 5) 1 rfl rfl rfl 6 (5) _ rfl cd_kj5 ?_
    refine q_br w_PV (.if_icmp .ge 10) 3 rfl rfl rfl (5 ≤ a1) 16 9 [] rfl (fun _ => ?_) (fun _ => ?_)
    · exact r_ret .return_ 1 rfl rfl rfl _ rfl
    · refine r_ld (.aload_n 0) 1 2 0 (.ref 4) rfl rfl rfl rfl 10 rfl ?_
      refine r_go (.getfield 18) 3 rfl rfl rfl 13 [.ref 22] rfl ?_
      refine r_ld (.iload_n 1) 1 0 1 (.int (a1)) rfl rfl rfl rfl 14 rfl ?_
      refine r_ld (.iload_n 2) 1 0 2 (.int (a2)) rfl rfl rfl rfl 15 rfl ?_
      refine q_iast w_PV rfl rfl 22 5 rfl (fun M1 => ?_)
      exact r_ret .return_ 1 rfl rfl rfl _ rfl
def fJ0_coder_1008 (M : cd_M) : Int32 := if (1 : Int32) = 0 then (1) else (0)
set_option maxRecDepth 8000 in
theorem kJ0_coder_1008 (M : cd_M) : cd_R 240 0 [some (.ref 1008)] [] M ((w_TI M) (fJ0_coder_1008 M)) := by
  unfold fJ0_coder_1008
  refine r_go (.getstatic 38) 3 rfl rfl rfl 3 [.int (1)] rfl ?_
  refine q_br (w_TI M) (.ifCond .eq 10) 3 rfl rfl rfl ((1 : Int32) = 0) 13 6 [] rfl (fun _ => ?_) (fun _ => ?_)
  · refine q_const (.iconst 1) 1 rfl rfl rfl 14 (1) _ rfl cd_kj1 ?_
    exact r_retB rfl rfl (by decide)
  · refine r_ld (.aload_n 0) 1 2 0 (.ref 1008) rfl rfl rfl rfl 7 rfl ?_
    refine r_go (.getfield 15) 3 rfl rfl rfl 10 [.int (0)] rfl ?_
    refine r_go (.goto 4) 3 rfl rfl rfl 14 [.int (0)] rfl ?_
    exact r_retB rfl rfl (by decide)
def fJ0_length_1008 (M : cd_M) : Int32 := ((3 : Int32) >>> ((fJ0_coder_1008 M : Int32) &&& 31))
set_option maxRecDepth 8000 in
theorem kJ0_length_1008 (M : cd_M) : cd_R 238 0 [some (.ref 1008)] [] M ((w_TI M) (fJ0_length_1008 M)) := by
  unfold fJ0_length_1008
  refine r_ld (.aload_n 0) 1 2 0 (.ref 1008) rfl rfl rfl rfl 1 rfl ?_
  refine r_go (.getfield 9) 3 rfl rfl rfl 4 [.ref 1108] rfl ?_
  refine r_go (.arraylength) 1 rfl rfl rfl 5 [.int (3)] rfl ?_
  refine r_ld (.aload_n 0) 1 2 0 (.ref 1008) rfl rfl rfl rfl 6 rfl ?_
  refine q_cTI (.invokevirtual 335) rfl rfl rfl 240 [.ref 1008] [.int (3)] rfl (kJ0_coder_1008 M) ?_
  refine r_go (.ishr) 1 rfl rfl rfl 10 [.int ((3 : Int32) >>> ((fJ0_coder_1008 M : Int32) &&& 31))] rfl ?_
  exact r_ret .ireturn 1 rfl rfl rfl _ rfl
def fJ0_isLatin1_1008 (M : cd_M) : Int32 := if (1 : Int32) = 0 then (0) else (if (0 : Int32) = 0 then (1) else (0))
set_option maxRecDepth 8000 in
theorem kJ0_isLatin1_1008 (M : cd_M) : cd_R 241 0 [some (.ref 1008)] [] M ((w_TI M) (fJ0_isLatin1_1008 M)) := by
  unfold fJ0_isLatin1_1008
  refine r_go (.getstatic 38) 3 rfl rfl rfl 3 [.int (1)] rfl ?_
  refine q_br (w_TI M) (.ifCond .eq 14) 3 rfl rfl rfl ((1 : Int32) = 0) 17 6 [] rfl (fun _ => ?_) (fun _ => ?_)
  · refine q_const (.iconst 0) 1 rfl rfl rfl 18 (0) _ rfl cd_kj0 ?_
    exact r_retZ rfl rfl (by decide)
  · refine r_ld (.aload_n 0) 1 2 0 (.ref 1008) rfl rfl rfl rfl 7 rfl ?_
    refine r_go (.getfield 15) 3 rfl rfl rfl 10 [.int (0)] rfl ?_
    refine q_br (w_TI M) (.ifCond .ne 7) 3 rfl rfl rfl ((0 : Int32) = 0) 13 17 [] rfl (fun _ => ?_) (fun _ => ?_)
    · refine q_const (.iconst 1) 1 rfl rfl rfl 14 (1) _ rfl cd_kj1 ?_
      refine r_go (.goto 4) 3 rfl rfl rfl 18 [.int (1)] rfl ?_
      exact r_retZ rfl rfl (by decide)
    · refine q_const (.iconst 0) 1 rfl rfl rfl 18 (0) _ rfl cd_kj0 ?_
      exact r_retZ rfl rfl (by decide)
