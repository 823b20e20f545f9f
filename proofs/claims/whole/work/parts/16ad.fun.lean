def fJ1_charAt_1108 (a1 : Int32) (M : cd_M) : Option (Int32) := (fJ0_checkIndex a1 3 M).bind fun _ => if cd_in a1 3 = true then (some ((((cd_sbyte 1108 a1) &&& 255 : Int32).toUInt32 % 65536).toInt32)) else none
set_option maxRecDepth 8000 in
theorem kJ1_charAt_1108 (a1 : Int32) (M : cd_M) : cd_R 243 0 [some (.ref 1108), some (.int (a1))] [] M ((w_PI M) (fJ1_charAt_1108 a1 M)) := by
  unfold fJ1_charAt_1108
  refine r_ld (.iload_n 1) 1 0 1 (.int (a1)) rfl rfl rfl rfl 1 rfl ?_
  refine r_ld (.aload_n 0) 1 2 0 (.ref 1108) rfl rfl rfl rfl 2 rfl ?_
  refine r_go (.arraylength) 1 rfl rfl rfl 3 [.int (3), .int (a1)] rfl ?_
  refine q_cU (w_PI M) rfl (.invokestatic 9) rfl rfl rfl 242 [.int (a1), .int (3)] [] rfl (kJ0_checkIndex a1 3 M) ?_
  refine r_ld (.aload_n 0) 1 2 0 (.ref 1108) rfl rfl rfl rfl 7 rfl ?_
  refine r_ld (.iload_n 1) 1 0 1 (.int (a1)) rfl rfl rfl rfl 8 rfl ?_
  refine q_sbald (w_PI M) rfl rfl 1108 3 rfl rfl (by decide) ?_
  refine q_const (.sipush 255) 3 rfl rfl rfl 12 (255) _ rfl cd_kt255 ?_
  refine r_go (.iand) 1 rfl rfl rfl 13 [.int ((cd_sbyte 1108 a1) &&& 255)] rfl ?_
  refine r_go (.i2c) 1 rfl rfl rfl 14 [.int ((((cd_sbyte 1108 a1) &&& 255 : Int32).toUInt32 % 65536).toInt32)] rfl ?_
  exact r_retC rfl rfl (pk_nc _)
def fJ0_charAt_1008 (a1 : Int32) (M : cd_M) : Option (Int32) := if fJ0_isLatin1_1008 M = 0 then (none) else ((fJ1_charAt_1108 a1 M).bind fun v2 => some v2)
set_option maxRecDepth 8000 in
theorem kJ0_charAt_1008 (a1 : Int32) (M : cd_M) : cd_R 239 0 [some (.ref 1008), some (.int (a1))] [] M ((w_PI M) (fJ0_charAt_1008 a1 M)) := by
  unfold fJ0_charAt_1008
  refine r_ld (.aload_n 0) 1 2 0 (.ref 1008) rfl rfl rfl rfl 1 rfl ?_
  refine q_cTIz (.invokevirtual 492) rfl rfl rfl 241 rfl [.ref 1008] [] rfl (kJ0_isLatin1_1008 M) (fun z1 => ?_)
  refine q_br (w_PI M) (.ifCond .eq 12) 3 rfl rfl rfl (fJ0_isLatin1_1008 M = 0) 16 7 [] rfl (fun _ => ?_) (fun _ => ?_)
  · refine r_ld (.aload_n 0) 1 2 0 (.ref 1008) rfl rfl rfl rfl 17 rfl ?_
    refine r_go (.getfield 9) 3 rfl rfl rfl 20 [.ref 1108] rfl ?_
    refine r_ld (.iload_n 1) 1 0 1 (.int (a1)) rfl rfl rfl rfl 21 rfl ?_
    exact q_none (w_PI M) rfl
  · refine r_ld (.aload_n 0) 1 2 0 (.ref 1008) rfl rfl rfl rfl 8 rfl ?_
    refine r_go (.getfield 9) 3 rfl rfl rfl 11 [.ref 1108] rfl ?_
    refine r_ld (.iload_n 1) 1 0 1 (.int (a1)) rfl rfl rfl rfl 12 rfl ?_
    refine q_cIc (w_PI M) rfl (.invokestatic 495) rfl rfl rfl 243 rfl [.ref 1108, .int (a1)] [] rfl (kJ1_charAt_1108 a1 M) (fun v2 z3 => ?_)
    exact r_retC rfl rfl z3
def f7_isWord_2_1008_L28 : Nat → Int32 → cd_M → Option (Int32)
  | 0, _, _ => none
  | n + 1, a2, M => if fJ0_length_1008 M ≤ a2 then (some 1) else ((f7_byteAt_2 ((M.1 2 4) + a2) M).bind fun v1 => (fJ0_charAt_1008 a2 M).bind fun v2 => if v1 = v2 then (cd_lt (a2 + (1)) fun x4 => f7_isWord_2_1008_L28 n x4 M) else (some 0))
set_option maxRecDepth 8000 in
theorem k7_isWord_2_1008_L28 : ∀ (n : Nat) (a2 : Int32) (M : cd_M), cd_R 89 28 [some (.ref 2), some (.ref 1008), some (.int (a2))] [] M ((w_PI M) (f7_isWord_2_1008_L28 n a2 M)) := by
  intro n
  induction n with
  | zero =>
    intro a2 M
    exact q_none (w_PI M) rfl
  | succ n ih =>
    intro a2 M
    rw [f7_isWord_2_1008_L28]
    refine r_ld (.iload_n 2) 1 0 2 (.int (a2)) rfl rfl rfl rfl 29 rfl ?_
    refine r_ld (.aload_n 1) 1 2 1 (.ref 1008) rfl rfl rfl rfl 30 rfl ?_
    refine q_cTI (.invokevirtual 64) rfl rfl rfl 238 [.ref 1008] [.int (a2)] rfl (kJ0_length_1008 M) ?_
    refine q_br (w_PI M) (.if_icmp .ge 29) 3 rfl rfl rfl (fJ0_length_1008 M ≤ a2) 62 36 [] rfl (fun _ => ?_) (fun _ => ?_)
    · refine q_const (.iconst 1) 1 rfl rfl rfl 63 (1) _ rfl cd_kj1 ?_
      exact r_retZ rfl rfl (by decide)
    · refine r_ld (.aload_n 0) 1 2 0 (.ref 2) rfl rfl rfl rfl 37 rfl ?_
      refine r_ld (.aload_n 0) 1 2 0 (.ref 2) rfl rfl rfl rfl 38 rfl ?_
      refine r_go (.getfield 25) 3 rfl rfl rfl 41 [.int (M.1 2 4), .ref 2] rfl ?_
      refine r_ld (.iload_n 2) 1 0 2 (.int (a2)) rfl rfl rfl rfl 42 rfl ?_
      refine r_go (.iadd) 1 rfl rfl rfl 43 [.int ((M.1 2 4) + a2), .ref 2] rfl ?_
      refine q_cI (w_PI M) rfl (.invokevirtual 45) rfl rfl rfl 92 [.ref 2, .int ((M.1 2 4) + a2)] [] rfl (k7_byteAt_2 ((M.1 2 4) + a2) M) (fun v1 => ?_)
      refine r_ld (.aload_n 1) 1 2 1 (.ref 1008) rfl rfl rfl rfl 47 rfl ?_
      refine r_ld (.iload_n 2) 1 0 2 (.int (a2)) rfl rfl rfl rfl 48 rfl ?_
      refine q_cIc (w_PI M) rfl (.invokevirtual 69) rfl rfl rfl 239 rfl [.ref 1008, .int (a2)] [.int (v1)] rfl (kJ0_charAt_1008 a2 M) (fun v2 z3 => ?_)
      refine q_br (w_PI M) (.if_icmp .eq 5) 3 rfl rfl rfl (v1 = v2) 56 54 [] rfl (fun _ => ?_) (fun _ => ?_)
      · refine q_inc (w_PI M) 2 (1) (a2) rfl rfl rfl 59 rfl (1) cd_kj1 (fun x4 => [some (.ref 2), some (.ref 1008), some (.int (x4))]) (fun _ => rfl) (fun x4 => ?_)
        refine r_go (.goto (-31)) 3 rfl rfl rfl 28 [] rfl ?_
        exact r_w (ih x4 M) (cd_le_s (cd_le_s (cd_le_s cd_le_0)))
      · refine q_const (.iconst 0) 1 rfl rfl rfl 55 (0) _ rfl cd_kj0 ?_
        exact r_retZ rfl rfl (by decide)
def f7_isWord_2_1008 (M : cd_M) : Option (Int32) := if M.1 2 5 = 1 then (if (M.1 2 3) - (M.1 2 4) = fJ0_length_1008 M then (f7_isWord_2_1008_L28 cd_fu 0 M) else (some 0)) else (some 0)
set_option maxRecDepth 8000 in
theorem k7_isWord_2_1008 (M : cd_M) : cd_R 89 0 [some (.ref 2), some (.ref 1008), none] [] M ((w_PI M) (f7_isWord_2_1008 M)) := by
  unfold f7_isWord_2_1008
  refine r_ld (.aload_n 0) 1 2 0 (.ref 2) rfl rfl rfl rfl 1 rfl ?_
  refine r_go (.getfield 28) 3 rfl rfl rfl 4 [.int (M.1 2 5)] rfl ?_
  refine q_const (.iconst 1) 1 rfl rfl rfl 5 (1) _ rfl cd_kj1 ?_
  refine q_br (w_PI M) (.if_icmp .ne 19) 3 rfl rfl rfl (M.1 2 5 = 1) 8 24 [] rfl (fun _ => ?_) (fun _ => ?_)
  · refine r_ld (.aload_n 0) 1 2 0 (.ref 2) rfl rfl rfl rfl 9 rfl ?_
    refine r_go (.getfield 22) 3 rfl rfl rfl 12 [.int (M.1 2 3)] rfl ?_
    refine r_ld (.aload_n 0) 1 2 0 (.ref 2) rfl rfl rfl rfl 13 rfl ?_
    refine r_go (.getfield 25) 3 rfl rfl rfl 16 [.int (M.1 2 4), .int (M.1 2 3)] rfl ?_
    refine r_go (.isub) 1 rfl rfl rfl 17 [.int ((M.1 2 3) - (M.1 2 4))] rfl ?_
    refine r_ld (.aload_n 1) 1 2 1 (.ref 1008) rfl rfl rfl rfl 18 rfl ?_
    refine q_cTI (.invokevirtual 64) rfl rfl rfl 238 [.ref 1008] [.int ((M.1 2 3) - (M.1 2 4))] rfl (kJ0_length_1008 M) ?_
    refine q_br (w_PI M) (.if_icmp .eq 5) 3 rfl rfl rfl ((M.1 2 3) - (M.1 2 4) = fJ0_length_1008 M) 26 24 [] rfl (fun _ => ?_) (fun _ => ?_)
    · refine q_const (.iconst 0) 1 rfl rfl rfl 27 (0) _ rfl cd_kj0 ?_
      refine r_st (.istore_n 2) 1 0 2 rfl rfl rfl 28 rfl [some (.ref 2), some (.ref 1008), some (.int (0))] rfl ?_
      exact r_w (k7_isWord_2_1008_L28 cd_fu 0 M) (cd_le_s (cd_le_s (cd_le_s cd_le_0)))
    · refine q_const (.iconst 0) 1 rfl rfl rfl 25 (0) _ rfl cd_kj0 ?_
      exact r_retZ rfl rfl (by decide)
  · refine q_const (.iconst 0) 1 rfl rfl rfl 25 (0) _ rfl cd_kj0 ?_
    exact r_retZ rfl rfl (by decide)
def fJ0_coder_1009 (M : cd_M) : Int32 := if (1 : Int32) = 0 then (1) else (0)
set_option maxRecDepth 8000 in
theorem kJ0_coder_1009 (M : cd_M) : cd_R 240 0 [some (.ref 1009)] [] M ((w_TI M) (fJ0_coder_1009 M)) := by
  unfold fJ0_coder_1009
  refine r_go (.getstatic 38) 3 rfl rfl rfl 3 [.int (1)] rfl ?_
  refine q_br (w_TI M) (.ifCond .eq 10) 3 rfl rfl rfl ((1 : Int32) = 0) 13 6 [] rfl (fun _ => ?_) (fun _ => ?_)
  · refine q_const (.iconst 1) 1 rfl rfl rfl 14 (1) _ rfl cd_kj1 ?_
    exact r_retB rfl rfl (by decide)
  · refine r_ld (.aload_n 0) 1 2 0 (.ref 1009) rfl rfl rfl rfl 7 rfl ?_
    refine r_go (.getfield 15) 3 rfl rfl rfl 10 [.int (0)] rfl ?_
    refine r_go (.goto 4) 3 rfl rfl rfl 14 [.int (0)] rfl ?_
    exact r_retB rfl rfl (by decide)
def fJ0_length_1009 (M : cd_M) : Int32 := ((4 : Int32) >>> ((fJ0_coder_1009 M : Int32) &&& 31))
set_option maxRecDepth 8000 in
theorem kJ0_length_1009 (M : cd_M) : cd_R 238 0 [some (.ref 1009)] [] M ((w_TI M) (fJ0_length_1009 M)) := by
  unfold fJ0_length_1009
  refine r_ld (.aload_n 0) 1 2 0 (.ref 1009) rfl rfl rfl rfl 1 rfl ?_
  refine r_go (.getfield 9) 3 rfl rfl rfl 4 [.ref 1109] rfl ?_
  refine r_go (.arraylength) 1 rfl rfl rfl 5 [.int (4)] rfl ?_
  refine r_ld (.aload_n 0) 1 2 0 (.ref 1009) rfl rfl rfl rfl 6 rfl ?_
  refine q_cTI (.invokevirtual 335) rfl rfl rfl 240 [.ref 1009] [.int (4)] rfl (kJ0_coder_1009 M) ?_
  refine r_go (.ishr) 1 rfl rfl rfl 10 [.int ((4 : Int32) >>> ((fJ0_coder_1009 M : Int32) &&& 31))] rfl ?_
  exact r_ret .ireturn 1 rfl rfl rfl _ rfl
def fJ0_isLatin1_1009 (M : cd_M) : Int32 := if (1 : Int32) = 0 then (0) else (if (0 : Int32) = 0 then (1) else (0))
set_option maxRecDepth 8000 in
theorem kJ0_isLatin1_1009 (M : cd_M) : cd_R 241 0 [some (.ref 1009)] [] M ((w_TI M) (fJ0_isLatin1_1009 M)) := by
  unfold fJ0_isLatin1_1009
  refine r_go (.getstatic 38) 3 rfl rfl rfl 3 [.int (1)] rfl ?_
  refine q_br (w_TI M) (.ifCond .eq 14) 3 rfl rfl rfl ((1 : Int32) = 0) 17 6 [] rfl (fun _ => ?_) (fun _ => ?_)
  · refine q_const (.iconst 0) 1 rfl rfl rfl 18 (0) _ rfl cd_kj0 ?_
    exact r_retZ rfl rfl (by decide)
  · refine r_ld (.aload_n 0) 1 2 0 (.ref 1009) rfl rfl rfl rfl 7 rfl ?_
    refine r_go (.getfield 15) 3 rfl rfl rfl 10 [.int (0)] rfl ?_
    refine q_br (w_TI M) (.ifCond .ne 7) 3 rfl rfl rfl ((0 : Int32) = 0) 13 17 [] rfl (fun _ => ?_) (fun _ => ?_)
    · refine q_const (.iconst 1) 1 rfl rfl rfl 14 (1) _ rfl cd_kj1 ?_
      refine r_go (.goto 4) 3 rfl rfl rfl 18 [.int (1)] rfl ?_
      exact r_retZ rfl rfl (by decide)
    · refine q_const (.iconst 0) 1 rfl rfl rfl 18 (0) _ rfl cd_kj0 ?_
      exact r_retZ rfl rfl (by decide)
def fJ1_charAt_1109 (a1 : Int32) (M : cd_M) : Option (Int32) := (fJ0_checkIndex a1 4 M).bind fun _ => if cd_in a1 4 = true then (some ((((cd_sbyte 1109 a1) &&& 255 : Int32).toUInt32 % 65536).toInt32)) else none
set_option maxRecDepth 8000 in
theorem kJ1_charAt_1109 (a1 : Int32) (M : cd_M) : cd_R 243 0 [some (.ref 1109), some (.int (a1))] [] M ((w_PI M) (fJ1_charAt_1109 a1 M)) := by
  unfold fJ1_charAt_1109
  refine r_ld (.iload_n 1) 1 0 1 (.int (a1)) rfl rfl rfl rfl 1 rfl ?_
  refine r_ld (.aload_n 0) 1 2 0 (.ref 1109) rfl rfl rfl rfl 2 rfl ?_
  refine r_go (.arraylength) 1 rfl rfl rfl 3 [.int (4), .int (a1)] rfl ?_
  refine q_cU (w_PI M) rfl (.invokestatic 9) rfl rfl rfl 242 [.int (a1), .int (4)] [] rfl (kJ0_checkIndex a1 4 M) ?_
  refine r_ld (.aload_n 0) 1 2 0 (.ref 1109) rfl rfl rfl rfl 7 rfl ?_
  refine r_ld (.iload_n 1) 1 0 1 (.int (a1)) rfl rfl rfl rfl 8 rfl ?_
  refine q_sbald (w_PI M) rfl rfl 1109 4 rfl rfl (by decide) ?_
  refine q_const (.sipush 255) 3 rfl rfl rfl 12 (255) _ rfl cd_kt255 ?_
  refine r_go (.iand) 1 rfl rfl rfl 13 [.int ((cd_sbyte 1109 a1) &&& 255)] rfl ?_
  refine r_go (.i2c) 1 rfl rfl rfl 14 [.int ((((cd_sbyte 1109 a1) &&& 255 : Int32).toUInt32 % 65536).toInt32)] rfl ?_
  exact r_retC rfl rfl (pk_nc _)
def fJ0_charAt_1009 (a1 : Int32) (M : cd_M) : Option (Int32) := if fJ0_isLatin1_1009 M = 0 then (none) else ((fJ1_charAt_1109 a1 M).bind fun v2 => some v2)
set_option maxRecDepth 8000 in
theorem kJ0_charAt_1009 (a1 : Int32) (M : cd_M) : cd_R 239 0 [some (.ref 1009), some (.int (a1))] [] M ((w_PI M) (fJ0_charAt_1009 a1 M)) := by
  unfold fJ0_charAt_1009
  refine r_ld (.aload_n 0) 1 2 0 (.ref 1009) rfl rfl rfl rfl 1 rfl ?_
  refine q_cTIz (.invokevirtual 492) rfl rfl rfl 241 rfl [.ref 1009] [] rfl (kJ0_isLatin1_1009 M) (fun z1 => ?_)
  refine q_br (w_PI M) (.ifCond .eq 12) 3 rfl rfl rfl (fJ0_isLatin1_1009 M = 0) 16 7 [] rfl (fun _ => ?_) (fun _ => ?_)
  · refine r_ld (.aload_n 0) 1 2 0 (.ref 1009) rfl rfl rfl rfl 17 rfl ?_
    refine r_go (.getfield 9) 3 rfl rfl rfl 20 [.ref 1109] rfl ?_
    refine r_ld (.iload_n 1) 1 0 1 (.int (a1)) rfl rfl rfl rfl 21 rfl ?_
    exact q_none (w_PI M) rfl
  · refine r_ld (.aload_n 0) 1 2 0 (.ref 1009) rfl rfl rfl rfl 8 rfl ?_
    refine r_go (.getfield 9) 3 rfl rfl rfl 11 [.ref 1109] rfl ?_
    refine r_ld (.iload_n 1) 1 0 1 (.int (a1)) rfl rfl rfl rfl 12 rfl ?_
    refine q_cIc (w_PI M) rfl (.invokestatic 495) rfl rfl rfl 243 rfl [.ref 1109, .int (a1)] [] rfl (kJ1_charAt_1109 a1 M) (fun v2 z3 => ?_)
    exact r_retC rfl rfl z3
def f7_isWord_2_1009_L28 : Nat → Int32 → cd_M → Option (Int32)
  | 0, _, _ => none
  | n + 1, a2, M => if fJ0_length_1009 M ≤ a2 then (some 1) else ((f7_byteAt_2 ((M.1 2 4) + a2) M).bind fun v1 => (fJ0_charAt_1009 a2 M).bind fun v2 => if v1 = v2 then (cd_lt (a2 + (1)) fun x4 => f7_isWord_2_1009_L28 n x4 M) else (some 0))
set_option maxRecDepth 8000 in
theorem k7_isWord_2_1009_L28 : ∀ (n : Nat) (a2 : Int32) (M : cd_M), cd_R 89 28 [some (.ref 2), some (.ref 1009), some (.int (a2))] [] M ((w_PI M) (f7_isWord_2_1009_L28 n a2 M)) := by
  intro n
  induction n with
  | zero =>
    intro a2 M
    exact q_none (w_PI M) rfl
  | succ n ih =>
    intro a2 M
    rw [f7_isWord_2_1009_L28]
    refine r_ld (.iload_n 2) 1 0 2 (.int (a2)) rfl rfl rfl rfl 29 rfl ?_
    refine r_ld (.aload_n 1) 1 2 1 (.ref 1009) rfl rfl rfl rfl 30 rfl ?_
    refine q_cTI (.invokevirtual 64) rfl rfl rfl 238 [.ref 1009] [.int (a2)] rfl (kJ0_length_1009 M) ?_
    refine q_br (w_PI M) (.if_icmp .ge 29) 3 rfl rfl rfl (fJ0_length_1009 M ≤ a2) 62 36 [] rfl (fun _ => ?_) (fun _ => ?_)
    · refine q_const (.iconst 1) 1 rfl rfl rfl 63 (1) _ rfl cd_kj1 ?_
      exact r_retZ rfl rfl (by decide)
    · refine r_ld (.aload_n 0) 1 2 0 (.ref 2) rfl rfl rfl rfl 37 rfl ?_
      refine r_ld (.aload_n 0) 1 2 0 (.ref 2) rfl rfl rfl rfl 38 rfl ?_
      refine r_go (.getfield 25) 3 rfl rfl rfl 41 [.int (M.1 2 4), .ref 2] rfl ?_
      refine r_ld (.iload_n 2) 1 0 2 (.int (a2)) rfl rfl rfl rfl 42 rfl ?_
      refine r_go (.iadd) 1 rfl rfl rfl 43 [.int ((M.1 2 4) + a2), .ref 2] rfl ?_
      refine q_cI (w_PI M) rfl (.invokevirtual 45) rfl rfl rfl 92 [.ref 2, .int ((M.1 2 4) + a2)] [] rfl (k7_byteAt_2 ((M.1 2 4) + a2) M) (fun v1 => ?_)
      refine r_ld (.aload_n 1) 1 2 1 (.ref 1009) rfl rfl rfl rfl 47 rfl ?_
      refine r_ld (.iload_n 2) 1 0 2 (.int (a2)) rfl rfl rfl rfl 48 rfl ?_
      refine q_cIc (w_PI M) rfl (.invokevirtual 69) rfl rfl rfl 239 rfl [.ref 1009, .int (a2)] [.int (v1)] rfl (kJ0_charAt_1009 a2 M) (fun v2 z3 => ?_)
      refine q_br (w_PI M) (.if_icmp .eq 5) 3 rfl rfl rfl (v1 = v2) 56 54 [] rfl (fun _ => ?_) (fun _ => ?_)
      · refine q_inc (w_PI M) 2 (1) (a2) rfl rfl rfl 59 rfl (1) cd_kj1 (fun x4 => [some (.ref 2), some (.ref 1009), some (.int (x4))]) (fun _ => rfl) (fun x4 => ?_)
        refine r_go (.goto (-31)) 3 rfl rfl rfl 28 [] rfl ?_
        exact r_w (ih x4 M) (cd_le_s (cd_le_s (cd_le_s cd_le_0)))
      · refine q_const (.iconst 0) 1 rfl rfl rfl 55 (0) _ rfl cd_kj0 ?_
        exact r_retZ rfl rfl (by decide)
def f7_isWord_2_1009 (M : cd_M) : Option (Int32) := if M.1 2 5 = 1 then (if (M.1 2 3) - (M.1 2 4) = fJ0_length_1009 M then (f7_isWord_2_1009_L28 cd_fu 0 M) else (some 0)) else (some 0)
set_option maxRecDepth 8000 in
theorem k7_isWord_2_1009 (M : cd_M) : cd_R 89 0 [some (.ref 2), some (.ref 1009), none] [] M ((w_PI M) (f7_isWord_2_1009 M)) := by
  unfold f7_isWord_2_1009
  refine r_ld (.aload_n 0) 1 2 0 (.ref 2) rfl rfl rfl rfl 1 rfl ?_
  refine r_go (.getfield 28) 3 rfl rfl rfl 4 [.int (M.1 2 5)] rfl ?_
  refine q_const (.iconst 1) 1 rfl rfl rfl 5 (1) _ rfl cd_kj1 ?_
  refine q_br (w_PI M) (.if_icmp .ne 19) 3 rfl rfl rfl (M.1 2 5 = 1) 8 24 [] rfl (fun _ => ?_) (fun _ => ?_)
  · refine r_ld (.aload_n 0) 1 2 0 (.ref 2) rfl rfl rfl rfl 9 rfl ?_
    refine r_go (.getfield 22) 3 rfl rfl rfl 12 [.int (M.1 2 3)] rfl ?_
    refine r_ld (.aload_n 0) 1 2 0 (.ref 2) rfl rfl rfl rfl 13 rfl ?_
    refine r_go (.getfield 25) 3 rfl rfl rfl 16 [.int (M.1 2 4), .int (M.1 2 3)] rfl ?_
    refine r_go (.isub) 1 rfl rfl rfl 17 [.int ((M.1 2 3) - (M.1 2 4))] rfl ?_
    refine r_ld (.aload_n 1) 1 2 1 (.ref 1009) rfl rfl rfl rfl 18 rfl ?_
    refine q_cTI (.invokevirtual 64) rfl rfl rfl 238 [.ref 1009] [.int ((M.1 2 3) - (M.1 2 4))] rfl (kJ0_length_1009 M) ?_
    refine q_br (w_PI M) (.if_icmp .eq 5) 3 rfl rfl rfl ((M.1 2 3) - (M.1 2 4) = fJ0_length_1009 M) 26 24 [] rfl (fun _ => ?_) (fun _ => ?_)
    · refine q_const (.iconst 0) 1 rfl rfl rfl 27 (0) _ rfl cd_kj0 ?_
      refine r_st (.istore_n 2) 1 0 2 rfl rfl rfl 28 rfl [some (.ref 2), some (.ref 1009), some (.int (0))] rfl ?_
      exact r_w (k7_isWord_2_1009_L28 cd_fu 0 M) (cd_le_s (cd_le_s (cd_le_s cd_le_0)))
    · refine q_const (.iconst 0) 1 rfl rfl rfl 25 (0) _ rfl cd_kj0 ?_
      exact r_retZ rfl rfl (by decide)
  · refine q_const (.iconst 0) 1 rfl rfl rfl 25 (0) _ rfl cd_kj0 ?_
    exact r_retZ rfl rfl (by decide)
def fJ0_coder_1010 (M : cd_M) : Int32 := if (1 : Int32) = 0 then (1) else (0)
set_option maxRecDepth 8000 in
theorem kJ0_coder_1010 (M : cd_M) : cd_R 240 0 [some (.ref 1010)] [] M ((w_TI M) (fJ0_coder_1010 M)) := by
  unfold fJ0_coder_1010
  refine r_go (.getstatic 38) 3 rfl rfl rfl 3 [.int (1)] rfl ?_
  refine q_br (w_TI M) (.ifCond .eq 10) 3 rfl rfl rfl ((1 : Int32) = 0) 13 6 [] rfl (fun _ => ?_) (fun _ => ?_)
  · refine q_const (.iconst 1) 1 rfl rfl rfl 14 (1) _ rfl cd_kj1 ?_
    exact r_retB rfl rfl (by decide)
  · refine r_ld (.aload_n 0) 1 2 0 (.ref 1010) rfl rfl rfl rfl 7 rfl ?_
    refine r_go (.getfield 15) 3 rfl rfl rfl 10 [.int (0)] rfl ?_
    refine r_go (.goto 4) 3 rfl rfl rfl 14 [.int (0)] rfl ?_
    exact r_retB rfl rfl (by decide)
def fJ0_length_1010 (M : cd_M) : Int32 := ((4 : Int32) >>> ((fJ0_coder_1010 M : Int32) &&& 31))
set_option maxRecDepth 8000 in
theorem kJ0_length_1010 (M : cd_M) : cd_R 238 0 [some (.ref 1010)] [] M ((w_TI M) (fJ0_length_1010 M)) := by
  unfold fJ0_length_1010
  refine r_ld (.aload_n 0) 1 2 0 (.ref 1010) rfl rfl rfl rfl 1 rfl ?_
  refine r_go (.getfield 9) 3 rfl rfl rfl 4 [.ref 1110] rfl ?_
  refine r_go (.arraylength) 1 rfl rfl rfl 5 [.int (4)] rfl ?_
  refine r_ld (.aload_n 0) 1 2 0 (.ref 1010) rfl rfl rfl rfl 6 rfl ?_
  refine q_cTI (.invokevirtual 335) rfl rfl rfl 240 [.ref 1010] [.int (4)] rfl (kJ0_coder_1010 M) ?_
  refine r_go (.ishr) 1 rfl rfl rfl 10 [.int ((4 : Int32) >>> ((fJ0_coder_1010 M : Int32) &&& 31))] rfl ?_
  exact r_ret .ireturn 1 rfl rfl rfl _ rfl
def fJ0_isLatin1_1010 (M : cd_M) : Int32 := if (1 : Int32) = 0 then (0) else (if (0 : Int32) = 0 then (1) else (0))
set_option maxRecDepth 8000 in
theorem kJ0_isLatin1_1010 (M : cd_M) : cd_R 241 0 [some (.ref 1010)] [] M ((w_TI M) (fJ0_isLatin1_1010 M)) := by
  unfold fJ0_isLatin1_1010
  refine r_go (.getstatic 38) 3 rfl rfl rfl 3 [.int (1)] rfl ?_
  refine q_br (w_TI M) (.ifCond .eq 14) 3 rfl rfl rfl ((1 : Int32) = 0) 17 6 [] rfl (fun _ => ?_) (fun _ => ?_)
  · refine q_const (.iconst 0) 1 rfl rfl rfl 18 (0) _ rfl cd_kj0 ?_
    exact r_retZ rfl rfl (by decide)
  · refine r_ld (.aload_n 0) 1 2 0 (.ref 1010) rfl rfl rfl rfl 7 rfl ?_
    refine r_go (.getfield 15) 3 rfl rfl rfl 10 [.int (0)] rfl ?_
    refine q_br (w_TI M) (.ifCond .ne 7) 3 rfl rfl rfl ((0 : Int32) = 0) 13 17 [] rfl (fun _ => ?_) (fun _ => ?_)
    · refine q_const (.iconst 1) 1 rfl rfl rfl 14 (1) _ rfl cd_kj1 ?_
      refine r_go (.goto 4) 3 rfl rfl rfl 18 [.int (1)] rfl ?_
      exact r_retZ rfl rfl (by decide)
    · refine q_const (.iconst 0) 1 rfl rfl rfl 18 (0) _ rfl cd_kj0 ?_
      exact r_retZ rfl rfl (by decide)
def fJ1_charAt_1110 (a1 : Int32) (M : cd_M) : Option (Int32) := (fJ0_checkIndex a1 4 M).bind fun _ => if cd_in a1 4 = true then (some ((((cd_sbyte 1110 a1) &&& 255 : Int32).toUInt32 % 65536).toInt32)) else none
set_option maxRecDepth 8000 in
theorem kJ1_charAt_1110 (a1 : Int32) (M : cd_M) : cd_R 243 0 [some (.ref 1110), some (.int (a1))] [] M ((w_PI M) (fJ1_charAt_1110 a1 M)) := by
  unfold fJ1_charAt_1110
  refine r_ld (.iload_n 1) 1 0 1 (.int (a1)) rfl rfl rfl rfl 1 rfl ?_
  refine r_ld (.aload_n 0) 1 2 0 (.ref 1110) rfl rfl rfl rfl 2 rfl ?_
  refine r_go (.arraylength) 1 rfl rfl rfl 3 [.int (4), .int (a1)] rfl ?_
  refine q_cU (w_PI M) rfl (.invokestatic 9) rfl rfl rfl 242 [.int (a1), .int (4)] [] rfl (kJ0_checkIndex a1 4 M) ?_
  refine r_ld (.aload_n 0) 1 2 0 (.ref 1110) rfl rfl rfl rfl 7 rfl ?_
  refine r_ld (.iload_n 1) 1 0 1 (.int (a1)) rfl rfl rfl rfl 8 rfl ?_
  refine q_sbald (w_PI M) rfl rfl 1110 4 rfl rfl (by decide) ?_
  refine q_const (.sipush 255) 3 rfl rfl rfl 12 (255) _ rfl cd_kt255 ?_
  refine r_go (.iand) 1 rfl rfl rfl 13 [.int ((cd_sbyte 1110 a1) &&& 255)] rfl ?_
  refine r_go (.i2c) 1 rfl rfl rfl 14 [.int ((((cd_sbyte 1110 a1) &&& 255 : Int32).toUInt32 % 65536).toInt32)] rfl ?_
  exact r_retC rfl rfl (pk_nc _)
def fJ0_charAt_1010 (a1 : Int32) (M : cd_M) : Option (Int32) := if fJ0_isLatin1_1010 M = 0 then (none) else ((fJ1_charAt_1110 a1 M).bind fun v2 => some v2)
set_option maxRecDepth 8000 in
theorem kJ0_charAt_1010 (a1 : Int32) (M : cd_M) : cd_R 239 0 [some (.ref 1010), some (.int (a1))] [] M ((w_PI M) (fJ0_charAt_1010 a1 M)) := by
  unfold fJ0_charAt_1010
  refine r_ld (.aload_n 0) 1 2 0 (.ref 1010) rfl rfl rfl rfl 1 rfl ?_
  refine q_cTIz (.invokevirtual 492) rfl rfl rfl 241 rfl [.ref 1010] [] rfl (kJ0_isLatin1_1010 M) (fun z1 => ?_)
  refine q_br (w_PI M) (.ifCond .eq 12) 3 rfl rfl rfl (fJ0_isLatin1_1010 M = 0) 16 7 [] rfl (fun _ => ?_) (fun _ => ?_)
  · refine r_ld (.aload_n 0) 1 2 0 (.ref 1010) rfl rfl rfl rfl 17 rfl ?_
    refine r_go (.getfield 9) 3 rfl rfl rfl 20 [.ref 1110] rfl ?_
    refine r_ld (.iload_n 1) 1 0 1 (.int (a1)) rfl rfl rfl rfl 21 rfl ?_
    exact q_none (w_PI M) rfl
  · refine r_ld (.aload_n 0) 1 2 0 (.ref 1010) rfl rfl rfl rfl 8 rfl ?_
    refine r_go (.getfield 9) 3 rfl rfl rfl 11 [.ref 1110] rfl ?_
    refine r_ld (.iload_n 1) 1 0 1 (.int (a1)) rfl rfl rfl rfl 12 rfl ?_
    refine q_cIc (w_PI M) rfl (.invokestatic 495) rfl rfl rfl 243 rfl [.ref 1110, .int (a1)] [] rfl (kJ1_charAt_1110 a1 M) (fun v2 z3 => ?_)
    exact r_retC rfl rfl z3
def f7_isWord_2_1010_L28 : Nat → Int32 → cd_M → Option (Int32)
  | 0, _, _ => none
  | n + 1, a2, M => if fJ0_length_1010 M ≤ a2 then (some 1) else ((f7_byteAt_2 ((M.1 2 4) + a2) M).bind fun v1 => (fJ0_charAt_1010 a2 M).bind fun v2 => if v1 = v2 then (cd_lt (a2 + (1)) fun x4 => f7_isWord_2_1010_L28 n x4 M) else (some 0))
set_option maxRecDepth 8000 in
theorem k7_isWord_2_1010_L28 : ∀ (n : Nat) (a2 : Int32) (M : cd_M), cd_R 89 28 [some (.ref 2), some (.ref 1010), some (.int (a2))] [] M ((w_PI M) (f7_isWord_2_1010_L28 n a2 M)) := by
  intro n
  induction n with
  | zero =>
    intro a2 M
    exact q_none (w_PI M) rfl
  | succ n ih =>
    intro a2 M
    rw [f7_isWord_2_1010_L28]
    refine r_ld (.iload_n 2) 1 0 2 (.int (a2)) rfl rfl rfl rfl 29 rfl ?_
    refine r_ld (.aload_n 1) 1 2 1 (.ref 1010) rfl rfl rfl rfl 30 rfl ?_
    refine q_cTI (.invokevirtual 64) rfl rfl rfl 238 [.ref 1010] [.int (a2)] rfl (kJ0_length_1010 M) ?_
    refine q_br (w_PI M) (.if_icmp .ge 29) 3 rfl rfl rfl (fJ0_length_1010 M ≤ a2) 62 36 [] rfl (fun _ => ?_) (fun _ => ?_)
    · refine q_const (.iconst 1) 1 rfl rfl rfl 63 (1) _ rfl cd_kj1 ?_
      exact r_retZ rfl rfl (by decide)
    · refine r_ld (.aload_n 0) 1 2 0 (.ref 2) rfl rfl rfl rfl 37 rfl ?_
      refine r_ld (.aload_n 0) 1 2 0 (.ref 2) rfl rfl rfl rfl 38 rfl ?_
      refine r_go (.getfield 25) 3 rfl rfl rfl 41 [.int (M.1 2 4), .ref 2] rfl ?_
      refine r_ld (.iload_n 2) 1 0 2 (.int (a2)) rfl rfl rfl rfl 42 rfl ?_
      refine r_go (.iadd) 1 rfl rfl rfl 43 [.int ((M.1 2 4) + a2), .ref 2] rfl ?_
      refine q_cI (w_PI M) rfl (.invokevirtual 45) rfl rfl rfl 92 [.ref 2, .int ((M.1 2 4) + a2)] [] rfl (k7_byteAt_2 ((M.1 2 4) + a2) M) (fun v1 => ?_)
      refine r_ld (.aload_n 1) 1 2 1 (.ref 1010) rfl rfl rfl rfl 47 rfl ?_
      refine r_ld (.iload_n 2) 1 0 2 (.int (a2)) rfl rfl rfl rfl 48 rfl ?_
      refine q_cIc (w_PI M) rfl (.invokevirtual 69) rfl rfl rfl 239 rfl [.ref 1010, .int (a2)] [.int (v1)] rfl (kJ0_charAt_1010 a2 M) (fun v2 z3 => ?_)
      refine q_br (w_PI M) (.if_icmp .eq 5) 3 rfl rfl rfl (v1 = v2) 56 54 [] rfl (fun _ => ?_) (fun _ => ?_)
      · refine q_inc (w_PI M) 2 (1) (a2) rfl rfl rfl 59 rfl (1) cd_kj1 (fun x4 => [some (.ref 2), some (.ref 1010), some (.int (x4))]) (fun _ => rfl) (fun x4 => ?_)
        refine r_go (.goto (-31)) 3 rfl rfl rfl 28 [] rfl ?_
        exact r_w (ih x4 M) (cd_le_s (cd_le_s (cd_le_s cd_le_0)))
      · refine q_const (.iconst 0) 1 rfl rfl rfl 55 (0) _ rfl cd_kj0 ?_
        exact r_retZ rfl rfl (by decide)
def f7_isWord_2_1010 (M : cd_M) : Option (Int32) := if M.1 2 5 = 1 then (if (M.1 2 3) - (M.1 2 4) = fJ0_length_1010 M then (f7_isWord_2_1010_L28 cd_fu 0 M) else (some 0)) else (some 0)
set_option maxRecDepth 8000 in
theorem k7_isWord_2_1010 (M : cd_M) : cd_R 89 0 [some (.ref 2), some (.ref 1010), none] [] M ((w_PI M) (f7_isWord_2_1010 M)) := by
  unfold f7_isWord_2_1010
  refine r_ld (.aload_n 0) 1 2 0 (.ref 2) rfl rfl rfl rfl 1 rfl ?_
  refine r_go (.getfield 28) 3 rfl rfl rfl 4 [.int (M.1 2 5)] rfl ?_
  refine q_const (.iconst 1) 1 rfl rfl rfl 5 (1) _ rfl cd_kj1 ?_
  refine q_br (w_PI M) (.if_icmp .ne 19) 3 rfl rfl rfl (M.1 2 5 = 1) 8 24 [] rfl (fun _ => ?_) (fun _ => ?_)
  · refine r_ld (.aload_n 0) 1 2 0 (.ref 2) rfl rfl rfl rfl 9 rfl ?_
    refine r_go (.getfield 22) 3 rfl rfl rfl 12 [.int (M.1 2 3)] rfl ?_
    refine r_ld (.aload_n 0) 1 2 0 (.ref 2) rfl rfl rfl rfl 13 rfl ?_
    refine r_go (.getfield 25) 3 rfl rfl rfl 16 [.int (M.1 2 4), .int (M.1 2 3)] rfl ?_
    refine r_go (.isub) 1 rfl rfl rfl 17 [.int ((M.1 2 3) - (M.1 2 4))] rfl ?_
    refine r_ld (.aload_n 1) 1 2 1 (.ref 1010) rfl rfl rfl rfl 18 rfl ?_
    refine q_cTI (.invokevirtual 64) rfl rfl rfl 238 [.ref 1010] [.int ((M.1 2 3) - (M.1 2 4))] rfl (kJ0_length_1010 M) ?_
    refine q_br (w_PI M) (.if_icmp .eq 5) 3 rfl rfl rfl ((M.1 2 3) - (M.1 2 4) = fJ0_length_1010 M) 26 24 [] rfl (fun _ => ?_) (fun _ => ?_)
    · refine q_const (.iconst 0) 1 rfl rfl rfl 27 (0) _ rfl cd_kj0 ?_
      refine r_st (.istore_n 2) 1 0 2 rfl rfl rfl 28 rfl [some (.ref 2), some (.ref 1010), some (.int (0))] rfl ?_
      exact r_w (k7_isWord_2_1010_L28 cd_fu 0 M) (cd_le_s (cd_le_s (cd_le_s cd_le_0)))
    · refine q_const (.iconst 0) 1 rfl rfl rfl 25 (0) _ rfl cd_kj0 ?_
      exact r_retZ rfl rfl (by decide)
  · refine q_const (.iconst 0) 1 rfl rfl rfl 25 (0) _ rfl cd_kj0 ?_
    exact r_retZ rfl rfl (by decide)
def f8_takeMeasure_1_L66 (M : cd_M) : Option (Int32 × cd_M) := (f7_advance_2 M).bind fun M12 => some (1, M12)
set_option maxRecDepth 8000 in
theorem k8_takeMeasure_1_L66 (M : cd_M) : cd_R 106 66 [some (.ref 1)] [] M (w_PM (f8_takeMeasure_1_L66 M)) := by
  unfold f8_takeMeasure_1_L66
  refine r_ld (.aload_n 0) 1 2 0 (.ref 1) rfl rfl rfl rfl 67 rfl ?_
  refine r_go (.getfield 12) 3 rfl rfl rfl 70 [.ref 2] rfl ?_
  refine q_cV w_PM rfl (.invokevirtual 80) rfl rfl rfl 88 [.ref 2] [] rfl (k7_advance_2 M) (fun M12 => ?_)
  refine q_const (.iconst 1) 1 rfl rfl rfl 74 (1) _ rfl cd_kj1 ?_
  exact r_retZ rfl rfl (by decide)
def f8_takeMeasure_1 (M : cd_M) : Option (Int32 × cd_M) := (f7_isWord_2_1008 M).bind fun v1 => if v1 = 0 then ((f7_isWord_2_1009 M).bind fun v3 => if v3 = 0 then ((f7_isWord_2_1010 M).bind fun v5 => if v5 = 0 then (cd_lt (f8_refuse_1 1 M) (cd_u2 fun v8 M7 => some (v8, M7))) else (cd_lt (cd_wI M 1 4 2) fun M11 => f8_takeMeasure_1_L66 M11)) else (cd_lt (cd_wI M 1 4 1) fun M13 => f8_takeMeasure_1_L66 M13)) else (cd_lt (cd_wI M 1 4 0) fun M14 => f8_takeMeasure_1_L66 M14)
set_option maxRecDepth 8000 in
theorem k8_takeMeasure_1 (M : cd_M) : cd_R 106 0 [some (.ref 1)] [] M (w_PM (f8_takeMeasure_1 M)) := by
  unfold f8_takeMeasure_1
  refine r_ld (.aload_n 0) 1 2 0 (.ref 1) rfl rfl rfl rfl 1 rfl ?_
  refine r_go (.getfield 12) 3 rfl rfl rfl 4 [.ref 2] rfl ?_
  refine r_go (.ldc 139) 2 rfl rfl rfl 6 [.ref 1008, .ref 2] rfl ?_
  refine q_cIz w_PM rfl (.invokevirtual 74) rfl rfl rfl 89 rfl [.ref 2, .ref 1008] [] rfl (k7_isWord_2_1008 M) (fun v1 z2 => ?_)
  refine q_br w_PM (.ifCond .eq 11) 3 rfl rfl rfl (v1 = 0) 20 12 [] rfl (fun _ => ?_) (fun _ => ?_)
  · refine r_ld (.aload_n 0) 1 2 0 (.ref 1) rfl rfl rfl rfl 21 rfl ?_
    refine r_go (.getfield 12) 3 rfl rfl rfl 24 [.ref 2] rfl ?_
    refine r_go (.ldc 141) 2 rfl rfl rfl 26 [.ref 1009, .ref 2] rfl ?_
    refine q_cIz w_PM rfl (.invokevirtual 74) rfl rfl rfl 89 rfl [.ref 2, .ref 1009] [] rfl (k7_isWord_2_1009 M) (fun v3 z4 => ?_)
    refine q_br w_PM (.ifCond .eq 11) 3 rfl rfl rfl (v3 = 0) 40 32 [] rfl (fun _ => ?_) (fun _ => ?_)
    · refine r_ld (.aload_n 0) 1 2 0 (.ref 1) rfl rfl rfl rfl 41 rfl ?_
      refine r_go (.getfield 12) 3 rfl rfl rfl 44 [.ref 2] rfl ?_
      refine r_go (.ldc 143) 2 rfl rfl rfl 46 [.ref 1010, .ref 2] rfl ?_
      refine q_cIz w_PM rfl (.invokevirtual 74) rfl rfl rfl 89 rfl [.ref 2, .ref 1010] [] rfl (k7_isWord_2_1010 M) (fun v5 z6 => ?_)
      refine q_br w_PM (.ifCond .eq 11) 3 rfl rfl rfl (v5 = 0) 60 52 [] rfl (fun _ => ?_) (fun _ => ?_)
      · refine r_ld (.aload_n 0) 1 2 0 (.ref 1) rfl rfl rfl rfl 61 rfl ?_
        refine q_const (.iconst 1) 1 rfl rfl rfl 62 (1) _ rfl cd_kj1 ?_
        refine q_cTMz w_PM (.invokevirtual 77) rfl rfl rfl 111 rfl [.ref 1, .int (1)] [] rfl (k8_refuse_1 1 M) (fun v8 M7 z9 => ?_)
        exact r_retZ rfl rfl z9
      · refine r_ld (.aload_n 0) 1 2 0 (.ref 1) rfl rfl rfl rfl 53 rfl ?_
        refine q_const (.iconst 2) 1 rfl rfl rfl 54 (2) _ rfl cd_kj2 ?_
        refine q_wr w_PM (.putfield 38) 3 rfl rfl rfl 57 [] (cd_wI M 1 4 2) rfl (fun M11 => ?_)
        refine r_go (.goto 9) 3 rfl rfl rfl 66 [] rfl ?_
        exact r_w (k8_takeMeasure_1_L66 M11) (cd_le_s cd_le_0)
    · refine r_ld (.aload_n 0) 1 2 0 (.ref 1) rfl rfl rfl rfl 33 rfl ?_
      refine q_const (.iconst 1) 1 rfl rfl rfl 34 (1) _ rfl cd_kj1 ?_
      refine q_wr w_PM (.putfield 38) 3 rfl rfl rfl 37 [] (cd_wI M 1 4 1) rfl (fun M13 => ?_)
      refine r_go (.goto 29) 3 rfl rfl rfl 66 [] rfl ?_
      exact r_w (k8_takeMeasure_1_L66 M13) (cd_le_s cd_le_0)
  · refine r_ld (.aload_n 0) 1 2 0 (.ref 1) rfl rfl rfl rfl 13 rfl ?_
    refine q_const (.iconst 0) 1 rfl rfl rfl 14 (0) _ rfl cd_kj0 ?_
    refine q_wr w_PM (.putfield 38) 3 rfl rfl rfl 17 [] (cd_wI M 1 4 0) rfl (fun M14 => ?_)
    refine r_go (.goto 49) 3 rfl rfl rfl 66 [] rfl ?_
    exact r_w (k8_takeMeasure_1_L66 M14) (cd_le_s cd_le_0)
def f8_readValue_1_L75 (a1 : Int32) (M : cd_M) : Option (Int32 × cd_M) := (f5_putValue_4 a1 (M.1 1 4) M).bind fun M12 => some (1, M12)
set_option maxRecDepth 8000 in
theorem k8_readValue_1_L75 (a1 : Int32) (M : cd_M) : cd_R 105 75 [some (.ref 1), some (.int (a1)), none] [] M (w_PM (f8_readValue_1_L75 a1 M)) := by
  unfold f8_readValue_1_L75
  refine r_ld (.aload_n 0) 1 2 0 (.ref 1) rfl rfl rfl rfl 76 rfl ?_
  refine r_go (.getfield 30) 3 rfl rfl rfl 79 [.ref 4] rfl ?_
  refine r_ld (.iload_n 1) 1 0 1 (.int (a1)) rfl rfl rfl rfl 80 rfl ?_
  refine r_ld (.aload_n 0) 1 2 0 (.ref 1) rfl rfl rfl rfl 81 rfl ?_
  refine r_go (.getfield 38) 3 rfl rfl rfl 84 [.int (M.1 1 4), .int (a1), .ref 4] rfl ?_
  refine q_cV w_PM rfl (.invokevirtual 135) rfl rfl rfl 58 [.ref 4, .int (a1), .int (M.1 1 4)] [] rfl (k5_putValue_4 a1 (M.1 1 4) M) (fun M12 => ?_)
  refine q_const (.iconst 1) 1 rfl rfl rfl 88 (1) _ rfl cd_kj1 ?_
  exact r_retZ rfl rfl (by decide)
def f8_readValue_1 (a1 : Int32) (M : cd_M) : Option (Int32 × cd_M) := if a1 = (-1) then (cd_lt (f8_refuse_1 1 M) (cd_u2 fun v2 M1 => some (v2, M1))) else (cd_lt ((1 : Int32) <<< (a1 &&& 31)) fun x5 => if (M.1 1 5) &&& x5 = 0 then (cd_lt (cd_wI M 1 5 ((M.1 1 5) ||| x5)) fun M6 => (f7_advance_2 M6).bind fun M7 => if a1 = 4 then ((f8_takeMeasure_1 M7).bind (cd_u2 fun v9 M8 => if v9 = 0 then (some (0, M8)) else (f8_readValue_1_L75 a1 M8))) else ((f8_takeNumber_1 0 999 M7).bind (cd_u2 fun v14 M13 => if v14 = 0 then (some (0, M13)) else (f8_readValue_1_L75 a1 M13)))) else (cd_lt (f8_refuse_1 3 M) (cd_u2 fun v18 M17 => some (v18, M17))))
set_option maxRecDepth 8000 in
theorem k8_readValue_1 (a1 : Int32) (M : cd_M) : cd_R 105 0 [some (.ref 1), some (.int (a1)), none] [] M (w_PM (f8_readValue_1 a1 M)) := by
  unfold f8_readValue_1
  refine r_ld (.iload_n 1) 1 0 1 (.int (a1)) rfl rfl rfl rfl 1 rfl ?_
  refine q_const (.iconst (-1)) 1 rfl rfl rfl 2 (-1) _ rfl cd_kjm1 ?_
  refine q_br w_PM (.if_icmp .ne 9) 3 rfl rfl rfl (a1 = (-1)) 5 11 [] rfl (fun _ => ?_) (fun _ => ?_)
  · refine r_ld (.aload_n 0) 1 2 0 (.ref 1) rfl rfl rfl rfl 6 rfl ?_
    refine q_const (.iconst 1) 1 rfl rfl rfl 7 (1) _ rfl cd_kj1 ?_
    refine q_cTMz w_PM (.invokevirtual 77) rfl rfl rfl 111 rfl [.ref 1, .int (1)] [] rfl (k8_refuse_1 1 M) (fun v2 M1 z3 => ?_)
    exact r_retZ rfl rfl z3
  · refine q_const (.iconst 1) 1 rfl rfl rfl 12 (1) _ rfl cd_kj1 ?_
    refine r_ld (.iload_n 1) 1 0 1 (.int (a1)) rfl rfl rfl rfl 13 rfl ?_
    refine r_go (.ishl) 1 rfl rfl rfl 14 [.int ((1 : Int32) <<< (a1 &&& 31))] rfl ?_
    refine q_stB w_PM (.istore_n 2) 1 0 2 rfl rfl (fun _ => rfl) 15 rfl (fun x5 => [some (.ref 1), some (.int (a1)), some (.int (x5))]) (fun _ => rfl) (fun x5 => ?_)
    refine r_ld (.aload_n 0) 1 2 0 (.ref 1) rfl rfl rfl rfl 16 rfl ?_
    refine r_go (.getfield 41) 3 rfl rfl rfl 19 [.int (M.1 1 5)] rfl ?_
    refine r_ld (.iload_n 2) 1 0 2 (.int (x5)) rfl rfl rfl rfl 20 rfl ?_
    refine r_go (.iand) 1 rfl rfl rfl 21 [.int ((M.1 1 5) &&& x5)] rfl ?_
    refine q_br w_PM (.ifCond .eq 9) 3 rfl rfl rfl ((M.1 1 5) &&& x5 = 0) 30 24 [] rfl (fun _ => ?_) (fun _ => ?_)
    · refine r_ld (.aload_n 0) 1 2 0 (.ref 1) rfl rfl rfl rfl 31 rfl ?_
      refine r_go (.dup) 1 rfl rfl rfl 32 [.ref 1, .ref 1] rfl ?_
      refine r_go (.getfield 41) 3 rfl rfl rfl 35 [.int (M.1 1 5), .ref 1] rfl ?_
      refine r_ld (.iload_n 2) 1 0 2 (.int (x5)) rfl rfl rfl rfl 36 rfl ?_
      refine r_go (.ior) 1 rfl rfl rfl 37 [.int ((M.1 1 5) ||| x5), .ref 1] rfl ?_
      refine q_wr w_PM (.putfield 41) 3 rfl rfl rfl 40 [] (cd_wI M 1 5 ((M.1 1 5) ||| x5)) rfl (fun M6 => ?_)
      refine r_ld (.aload_n 0) 1 2 0 (.ref 1) rfl rfl rfl rfl 41 rfl ?_
      refine r_go (.getfield 12) 3 rfl rfl rfl 44 [.ref 2] rfl ?_
      refine q_cV w_PM rfl (.invokevirtual 80) rfl rfl rfl 88 [.ref 2] [] rfl (k7_advance_2 M6) (fun M7 => ?_)
      refine r_ld (.iload_n 1) 1 0 1 (.int (a1)) rfl rfl rfl rfl 48 rfl ?_
      refine q_const (.iconst 4) 1 rfl rfl rfl 49 (4) _ rfl cd_kj4 ?_
      refine q_br w_PM (.if_icmp .ne 13) 3 rfl rfl rfl (a1 = 4) 52 62 [] rfl (fun _ => ?_) (fun _ => ?_)
      · refine r_ld (.aload_n 0) 1 2 0 (.ref 1) rfl rfl rfl rfl 53 rfl ?_
        refine q_cMz w_PM rfl (.invokevirtual 132) rfl rfl rfl 106 rfl [.ref 1] [] rfl (k8_takeMeasure_1 M7) (fun v9 M8 z10 => ?_)
        refine q_br w_PM (.ifCond .ne 19) 3 rfl rfl rfl (v9 = 0) 59 75 [] rfl (fun _ => ?_) (fun _ => ?_)
        · refine r_go (.goto 14) 3 rfl rfl rfl 73 [] rfl ?_
          refine q_const (.iconst 0) 1 rfl rfl rfl 74 (0) _ rfl cd_kj0 ?_
          exact r_retZ rfl rfl (by decide)
        · exact r_w (k8_readValue_1_L75 a1 M8) (cd_le_s (cd_le_s (cd_le_n cd_le_0)))
      · refine r_ld (.aload_n 0) 1 2 0 (.ref 1) rfl rfl rfl rfl 63 rfl ?_
        refine q_const (.iconst 0) 1 rfl rfl rfl 64 (0) _ rfl cd_kj0 ?_
        refine q_const (.sipush 999) 3 rfl rfl rfl 67 (999) _ rfl cd_kt999 ?_
        refine q_cMz w_PM rfl (.invokevirtual 53) rfl rfl rfl 109 rfl [.ref 1, .int (0), .int (999)] [] rfl (k8_takeNumber_1 0 999 M7) (fun v14 M13 z15 => ?_)
        refine q_br w_PM (.ifCond .ne 5) 3 rfl rfl rfl (v14 = 0) 73 75 [] rfl (fun _ => ?_) (fun _ => ?_)
        · refine q_const (.iconst 0) 1 rfl rfl rfl 74 (0) _ rfl cd_kj0 ?_
          exact r_retZ rfl rfl (by decide)
        · exact r_w (k8_readValue_1_L75 a1 M13) (cd_le_s (cd_le_s (cd_le_n cd_le_0)))
    · refine r_ld (.aload_n 0) 1 2 0 (.ref 1) rfl rfl rfl rfl 25 rfl ?_
      refine q_const (.iconst 3) 1 rfl rfl rfl 26 (3) _ rfl cd_kj3 ?_
      refine q_cTMz w_PM (.invokevirtual 77) rfl rfl rfl 111 rfl [.ref 1, .int (3)] [] rfl (k8_refuse_1 3 M) (fun v18 M17 z19 => ?_)
      exact r_retZ rfl rfl z19
def f5_cadences_4 (M : cd_M) : Int32 := (M.1 4 3)
set_option maxRecDepth 8000 in
theorem k5_cadences_4 (M : cd_M) : cd_R 60 0 [some (.ref 4)] [] M ((w_TI M) (f5_cadences_4 M)) := by
  unfold f5_cadences_4
  refine r_ld (.aload_n 0) 1 2 0 (.ref 4) rfl rfl rfl rfl 1 rfl ?_
  refine r_go (.getfield 21) 3 rfl rfl rfl 4 [.int (M.1 4 3)] rfl ?_
  exact r_ret .ireturn 1 rfl rfl rfl _ rfl
def f5_addCadence_4 (M : cd_M) : Option cd_M := if 4 ≤ M.1 4 3 then (some M) else (if cd_in (M.1 4 3) 4 = true then (cd_lt (cd_wI M 21 (M.1 4 3 : Int32).toNatClampNeg 0) fun M1 => cd_lt (cd_wI M1 4 3 ((M1.1 4 3) + 1)) fun M2 => some M2) else none)
set_option maxRecDepth 8000 in
theorem k5_addCadence_4 (M : cd_M) : cd_R 56 0 [some (.ref 4)] [] M (w_PV (f5_addCadence_4 M)) := by
  unfold f5_addCadence_4
  refine r_ld (.aload_n 0) 1 2 0 (.ref 4) rfl rfl rfl rfl 1 rfl ?_
  refine r_go (.getfield 21) 3 rfl rfl rfl 4 [.int (M.1 4 3)] rfl ?_
  refine q_const (.iconst 4) 1 rfl rfl rfl 5 (4) _ rfl cd_kj4 ?_
  refine q_br w_PV (.if_icmp .ge 23) 3 rfl rfl rfl (4 ≤ M.1 4 3) 28 8 [] rfl (fun _ => ?_) (fun _ => ?_)
  · exact r_ret .return_ 1 rfl rfl rfl _ rfl
  · refine r_ld (.aload_n 0) 1 2 0 (.ref 4) rfl rfl rfl rfl 9 rfl ?_
    refine r_go (.getfield 15) 3 rfl rfl rfl 12 [.ref 21] rfl ?_
    refine r_ld (.aload_n 0) 1 2 0 (.ref 4) rfl rfl rfl rfl 13 rfl ?_
    refine r_go (.getfield 21) 3 rfl rfl rfl 16 [.int (M.1 4 3), .ref 21] rfl ?_
    refine q_const (.iconst 0) 1 rfl rfl rfl 17 (0) _ rfl cd_kj0 ?_
    refine q_iast w_PV rfl rfl 21 4 rfl (fun M1 => ?_)
    refine r_ld (.aload_n 0) 1 2 0 (.ref 4) rfl rfl rfl rfl 19 rfl ?_
    refine r_go (.dup) 1 rfl rfl rfl 20 [.ref 4, .ref 4] rfl ?_
    refine r_go (.getfield 21) 3 rfl rfl rfl 23 [.int (M1.1 4 3), .ref 4] rfl ?_
    refine q_const (.iconst 1) 1 rfl rfl rfl 24 (1) _ rfl cd_kj1 ?_
    refine r_go (.iadd) 1 rfl rfl rfl 25 [.int ((M1.1 4 3) + 1), .ref 4] rfl ?_
    refine q_wr w_PV (.putfield 21) 3 rfl rfl rfl 28 [] (cd_wI M1 4 3 ((M1.1 4 3) + 1)) rfl (fun M2 => ?_)
    exact r_ret .return_ 1 rfl rfl rfl _ rfl
def f5_addNumber_4 (a1 : Int32) (M : cd_M) : Option cd_M := cd_lt ((M.1 4 3) - 1) fun x1 => if x1 < 0 then (some M) else (if cd_in x1 4 = true then (if 6 ≤ M.1 21 x1.toNatClampNeg then (some M) else (if cd_in x1 4 = true then (if cd_in ((x1 * 6) + (M.1 21 x1.toNatClampNeg)) 24 = true then (cd_lt (cd_wI M 20 ((x1 * 6) + (M.1 21 x1.toNatClampNeg) : Int32).toNatClampNeg a1) fun M2 => if cd_in x1 4 = true then (if cd_in x1 4 = true then (cd_lt (cd_wI M2 21 x1.toNatClampNeg ((M2.1 21 x1.toNatClampNeg) + 1)) fun M3 => some M3) else none) else none) else none) else none)) else none)
set_option maxRecDepth 8000 in
theorem k5_addNumber_4 (a1 : Int32) (M : cd_M) : cd_R 57 0 [some (.ref 4), some (.int (a1)), none] [] M (w_PV (f5_addNumber_4 a1 M)) := by
  unfold f5_addNumber_4
  refine r_ld (.aload_n 0) 1 2 0 (.ref 4) rfl rfl rfl rfl 1 rfl ?_
  refine r_go (.getfield 21) 3 rfl rfl rfl 4 [.int (M.1 4 3)] rfl ?_
  refine q_const (.iconst 1) 1 rfl rfl rfl 5 (1) _ rfl cd_kj1 ?_
  refine r_go (.isub) 1 rfl rfl rfl 6 [.int ((M.1 4 3) - 1)] rfl ?_
  refine q_stB w_PV (.istore_n 2) 1 0 2 rfl rfl (fun _ => rfl) 7 rfl (fun x1 => [some (.ref 4), some (.int (a1)), some (.int (x1))]) (fun _ => rfl) (fun x1 => ?_)
  refine r_ld (.iload_n 2) 1 0 2 (.int (x1)) rfl rfl rfl rfl 8 rfl ?_
  refine q_br w_PV (.ifCond .lt 41) 3 rfl rfl rfl (x1 < 0) 49 11 [] rfl (fun _ => ?_) (fun _ => ?_)
  · exact r_ret .return_ 1 rfl rfl rfl _ rfl
  · refine r_ld (.aload_n 0) 1 2 0 (.ref 4) rfl rfl rfl rfl 12 rfl ?_
    refine r_go (.getfield 15) 3 rfl rfl rfl 15 [.ref 21] rfl ?_
    refine r_ld (.iload_n 2) 1 0 2 (.int (x1)) rfl rfl rfl rfl 16 rfl ?_
    refine q_iald w_PV rfl rfl 21 4 rfl ?_
    refine q_const (.bipush 6) 2 rfl rfl rfl 19 (6) _ rfl cd_kc6 ?_
    refine q_br w_PV (.if_icmp .ge 30) 3 rfl rfl rfl (6 ≤ M.1 21 x1.toNatClampNeg) 49 22 [] rfl (fun _ => ?_) (fun _ => ?_)
    · exact r_ret .return_ 1 rfl rfl rfl _ rfl
    · refine r_ld (.aload_n 0) 1 2 0 (.ref 4) rfl rfl rfl rfl 23 rfl ?_
      refine r_go (.getfield 9) 3 rfl rfl rfl 26 [.ref 20] rfl ?_
      refine r_ld (.iload_n 2) 1 0 2 (.int (x1)) rfl rfl rfl rfl 27 rfl ?_
      refine q_const (.bipush 6) 2 rfl rfl rfl 29 (6) _ rfl cd_kc6 ?_
      refine r_go (.imul) 1 rfl rfl rfl 30 [.int (x1 * 6), .ref 20] rfl ?_
      refine r_ld (.aload_n 0) 1 2 0 (.ref 4) rfl rfl rfl rfl 31 rfl ?_
      refine r_go (.getfield 15) 3 rfl rfl rfl 34 [.ref 21, .int (x1 * 6), .ref 20] rfl ?_
      refine r_ld (.iload_n 2) 1 0 2 (.int (x1)) rfl rfl rfl rfl 35 rfl ?_
      refine q_iald w_PV rfl rfl 21 4 rfl ?_
      refine r_go (.iadd) 1 rfl rfl rfl 37 [.int ((x1 * 6) + (M.1 21 x1.toNatClampNeg)), .ref 20] rfl ?_
      refine r_ld (.iload_n 1) 1 0 1 (.int (a1)) rfl rfl rfl rfl 38 rfl ?_
      refine q_iast w_PV rfl rfl 20 24 rfl (fun M2 => ?_)
      refine r_ld (.aload_n 0) 1 2 0 (.ref 4) rfl rfl rfl rfl 40 rfl ?_
      refine r_go (.getfield 15) 3 rfl rfl rfl 43 [.ref 21] rfl ?_
      refine r_ld (.iload_n 2) 1 0 2 (.int (x1)) rfl rfl rfl rfl 44 rfl ?_
      refine r_go (.dup2) 1 rfl rfl rfl 45 [.int (x1), .ref 21, .int (x1), .ref 21] rfl ?_
      refine q_iald w_PV rfl rfl 21 4 rfl ?_
      refine q_const (.iconst 1) 1 rfl rfl rfl 47 (1) _ rfl cd_kj1 ?_
      refine r_go (.iadd) 1 rfl rfl rfl 48 [.int ((M2.1 21 x1.toNatClampNeg) + 1), .int (x1), .ref 21] rfl ?_
      refine q_iast w_PV rfl rfl 21 4 rfl (fun M3 => ?_)
      exact r_ret .return_ 1 rfl rfl rfl _ rfl
def f8_readCadence_1_L56 (r33 : Int32 → cd_M → Option (Int32 × cd_M)) (a1 : Int32) (M : cd_M) : Option (Int32 × cd_M) := cd_lt (f8_isNumberWithin_1 2 5 M) (cd_u2 fun v4 M3 => if v4 = 0 then (some (0, M3)) else (if a1 < 6 then ((f5_addNumber_4 (f7_number_2 M3) M3).bind fun M7 => (f7_advance_2 M7).bind fun M8 => cd_lt (a1 + (1)) fun x9 => r33 x9 M8) else (cd_lt (f8_refuse_1 4 M3) (cd_u2 fun v11 M10 => some (v11, M10)))))
set_option maxRecDepth 8000 in
theorem k8_readCadence_1_L56 (r33 : Int32 → cd_M → Option (Int32 × cd_M)) (h33 : ∀ (a1 : Int32) (M : cd_M), cd_R 103 33 [some (.ref 1), some (.int (a1))] [] M (w_PM (r33 a1 M))) (a1 : Int32) (M : cd_M) : cd_R 103 56 [some (.ref 1), some (.int (a1))] [] M (w_PM (f8_readCadence_1_L56 r33 a1 M)) := by
  unfold f8_readCadence_1_L56
  refine r_ld (.aload_n 0) 1 2 0 (.ref 1) rfl rfl rfl rfl 57 rfl ?_
  refine q_const (.iconst 2) 1 rfl rfl rfl 58 (2) _ rfl cd_kj2 ?_
  refine q_const (.iconst 5) 1 rfl rfl rfl 59 (5) _ rfl cd_kj5 ?_
  refine q_cTMz w_PM (.invokevirtual 113) rfl rfl rfl 110 rfl [.ref 1, .int (2), .int (5)] [] rfl (k8_isNumberWithin_1 2 5 M) (fun v4 M3 z5 => ?_)
  refine q_br w_PM (.ifCond .ne 5) 3 rfl rfl rfl (v4 = 0) 65 67 [] rfl (fun _ => ?_) (fun _ => ?_)
  · refine q_const (.iconst 0) 1 rfl rfl rfl 66 (0) _ rfl cd_kj0 ?_
    exact r_retZ rfl rfl (by decide)
  · refine r_ld (.iload_n 1) 1 0 1 (.int (a1)) rfl rfl rfl rfl 68 rfl ?_
    refine q_const (.bipush 6) 2 rfl rfl rfl 70 (6) _ rfl cd_kc6 ?_
    refine q_br w_PM (.if_icmp .lt 9) 3 rfl rfl rfl (a1 < 6) 79 73 [] rfl (fun _ => ?_) (fun _ => ?_)
    · refine r_ld (.aload_n 0) 1 2 0 (.ref 1) rfl rfl rfl rfl 80 rfl ?_
      refine r_go (.getfield 30) 3 rfl rfl rfl 83 [.ref 4] rfl ?_
      refine r_ld (.aload_n 0) 1 2 0 (.ref 1) rfl rfl rfl rfl 84 rfl ?_
      refine r_go (.getfield 12) 3 rfl rfl rfl 87 [.ref 2, .ref 4] rfl ?_
      refine q_cTI (.invokevirtual 116) rfl rfl rfl 87 [.ref 2] [.ref 4] rfl (k7_number_2 M3) ?_
      refine q_cV w_PM rfl (.invokevirtual 119) rfl rfl rfl 57 [.ref 4, .int (f7_number_2 M3)] [] rfl (k5_addNumber_4 (f7_number_2 M3) M3) (fun M7 => ?_)
      refine r_ld (.aload_n 0) 1 2 0 (.ref 1) rfl rfl rfl rfl 94 rfl ?_
      refine r_go (.getfield 12) 3 rfl rfl rfl 97 [.ref 2] rfl ?_
      refine q_cV w_PM rfl (.invokevirtual 80) rfl rfl rfl 88 [.ref 2] [] rfl (k7_advance_2 M7) (fun M8 => ?_)
      refine q_inc w_PM 1 (1) (a1) rfl rfl rfl 103 rfl (1) cd_kj1 (fun x9 => [some (.ref 1), some (.int (x9))]) (fun _ => rfl) (fun x9 => ?_)
      refine r_go (.goto (-70)) 3 rfl rfl rfl 33 [] rfl ?_
      exact r_w (h33 x9 M8) (cd_le_s (cd_le_s cd_le_0))
    · refine r_ld (.aload_n 0) 1 2 0 (.ref 1) rfl rfl rfl rfl 74 rfl ?_
      refine q_const (.iconst 4) 1 rfl rfl rfl 75 (4) _ rfl cd_kj4 ?_
      refine q_cTMz w_PM (.invokevirtual 77) rfl rfl rfl 111 rfl [.ref 1, .int (4)] [] rfl (k8_refuse_1 4 M3) (fun v11 M10 z12 => ?_)
      exact r_retZ rfl rfl z12
def f8_readCadence_1_L33 : Nat → Int32 → cd_M → Option (Int32 × cd_M)
  | 0, _, _ => none
  | n + 1, a1, M => if 6 < a1 then (some (0, M)) else (if a1 ≤ 0 then (f8_readCadence_1_L56 (f8_readCadence_1_L33 n) a1 M) else (if f7_kind_2 M = 3 then (some (1, M)) else (f8_readCadence_1_L56 (f8_readCadence_1_L33 n) a1 M)))
set_option maxRecDepth 8000 in
theorem k8_readCadence_1_L33 : ∀ (n : Nat) (a1 : Int32) (M : cd_M), cd_R 103 33 [some (.ref 1), some (.int (a1))] [] M (w_PM (f8_readCadence_1_L33 n a1 M)) := by
  intro n
  induction n with
  | zero =>
    intro a1 M
    exact q_none w_PM rfl
  | succ n ih =>
    intro a1 M
    rw [f8_readCadence_1_L33]
    refine r_ld (.iload_n 1) 1 0 1 (.int (a1)) rfl rfl rfl rfl 34 rfl ?_
    refine q_const (.bipush 6) 2 rfl rfl rfl 36 (6) _ rfl cd_kc6 ?_
    refine q_br w_PM (.if_icmp .gt 70) 3 rfl rfl rfl (6 < a1) 106 39 [] rfl (fun _ => ?_) (fun _ => ?_)
    · refine q_const (.iconst 0) 1 rfl rfl rfl 107 (0) _ rfl cd_kj0 ?_
      exact r_retZ rfl rfl (by decide)
    · refine r_ld (.iload_n 1) 1 0 1 (.int (a1)) rfl rfl rfl rfl 40 rfl ?_
      refine q_br w_PM (.ifCond .le 16) 3 rfl rfl rfl (a1 ≤ 0) 56 43 [] rfl (fun _ => ?_) (fun _ => ?_)
      · exact r_w (k8_readCadence_1_L56 (f8_readCadence_1_L33 n) ih a1 M) (cd_le_s (cd_le_s cd_le_0))
      · refine r_ld (.aload_n 0) 1 2 0 (.ref 1) rfl rfl rfl rfl 44 rfl ?_
        refine r_go (.getfield 12) 3 rfl rfl rfl 47 [.ref 2] rfl ?_
        refine q_cTI (.invokevirtual 64) rfl rfl rfl 85 [.ref 2] [] rfl (k7_kind_2 M) ?_
        refine q_const (.iconst 3) 1 rfl rfl rfl 51 (3) _ rfl cd_kj3 ?_
        refine q_br w_PM (.if_icmp .ne 5) 3 rfl rfl rfl (f7_kind_2 M = 3) 54 56 [] rfl (fun _ => ?_) (fun _ => ?_)
        · refine q_const (.iconst 1) 1 rfl rfl rfl 55 (1) _ rfl cd_kj1 ?_
          exact r_retZ rfl rfl (by decide)
        · exact r_w (k8_readCadence_1_L56 (f8_readCadence_1_L33 n) ih a1 M) (cd_le_s (cd_le_s cd_le_0))
def f8_readCadence_1 (M : cd_M) : Option (Int32 × cd_M) := if f5_cadences_4 M < 4 then ((f7_advance_2 M).bind fun M1 => (f5_addCadence_4 M1).bind fun M2 => f8_readCadence_1_L33 cd_fu 0 M2) else (cd_lt (f8_refuse_1 4 M) (cd_u2 fun v15 M14 => some (v15, M14)))
set_option maxRecDepth 8000 in
theorem k8_readCadence_1 (M : cd_M) : cd_R 103 0 [some (.ref 1), none] [] M (w_PM (f8_readCadence_1 M)) := by
  unfold f8_readCadence_1
  refine r_ld (.aload_n 0) 1 2 0 (.ref 1) rfl rfl rfl rfl 1 rfl ?_
  refine r_go (.getfield 30) 3 rfl rfl rfl 4 [.ref 4] rfl ?_
  refine q_cTI (.invokevirtual 96) rfl rfl rfl 60 [.ref 4] [] rfl (k5_cadences_4 M) ?_
  refine q_const (.iconst 4) 1 rfl rfl rfl 8 (4) _ rfl cd_kj4 ?_
  refine q_br w_PM (.if_icmp .lt 9) 3 rfl rfl rfl (f5_cadences_4 M < 4) 17 11 [] rfl (fun _ => ?_) (fun _ => ?_)
  · refine r_ld (.aload_n 0) 1 2 0 (.ref 1) rfl rfl rfl rfl 18 rfl ?_
    refine r_go (.getfield 12) 3 rfl rfl rfl 21 [.ref 2] rfl ?_
    refine q_cV w_PM rfl (.invokevirtual 80) rfl rfl rfl 88 [.ref 2] [] rfl (k7_advance_2 M) (fun M1 => ?_)
    refine r_ld (.aload_n 0) 1 2 0 (.ref 1) rfl rfl rfl rfl 25 rfl ?_
    refine r_go (.getfield 30) 3 rfl rfl rfl 28 [.ref 4] rfl ?_
    refine q_cV w_PM rfl (.invokevirtual 110) rfl rfl rfl 56 [.ref 4] [] rfl (k5_addCadence_4 M1) (fun M2 => ?_)
    refine q_const (.iconst 0) 1 rfl rfl rfl 32 (0) _ rfl cd_kj0 ?_
    refine r_st (.istore_n 1) 1 0 1 rfl rfl rfl 33 rfl [some (.ref 1), some (.int (0))] rfl ?_
    exact r_w (k8_readCadence_1_L33 cd_fu 0 M2) (cd_le_s (cd_le_s cd_le_0))
  · refine r_ld (.aload_n 0) 1 2 0 (.ref 1) rfl rfl rfl rfl 12 rfl ?_
    refine q_const (.iconst 4) 1 rfl rfl rfl 13 (4) _ rfl cd_kj4 ?_
    refine q_cTMz w_PM (.invokevirtual 77) rfl rfl rfl 111 rfl [.ref 1, .int (4)] [] rfl (k8_refuse_1 4 M) (fun v15 M14 z16 => ?_)
    exact r_retZ rfl rfl z16
def f8_readRules_1_L89 (r22 : Int32 → cd_M → Option (Int32 × cd_M)) (a2 : Int32) (s0 : Int32) (M : cd_M) : Option (Int32 × cd_M) := if s0 = 0 then (some (0, M)) else ((f8_takeSemicolon_1 M).bind (cd_u2 fun v16 M15 => if v16 = 0 then (some (0, M15)) else (cd_lt (a2 + (1)) fun x19 => r22 x19 M15)))
set_option maxRecDepth 8000 in
theorem k8_readRules_1_L89 (r22 : Int32 → cd_M → Option (Int32 × cd_M)) (h22 : ∀ (a2 : Int32) (M : cd_M), cd_R 102 22 [some (.ref 1), none, some (.int (a2)), none] [] M (w_PM (r22 a2 M))) (a2 : Int32) (s0 : Int32) (M : cd_M) : cd_R 102 89 [some (.ref 1), none, some (.int (a2)), none] [.int (s0)] M (w_PM (f8_readRules_1_L89 r22 a2 s0 M)) := by
  unfold f8_readRules_1_L89
  refine r_st (.istore_n 3) 1 0 3 rfl rfl rfl 90 rfl [some (.ref 1), none, some (.int (a2)), some (.int (s0))] rfl ?_
  refine r_ld (.iload_n 3) 1 0 3 (.int (s0)) rfl rfl rfl rfl 91 rfl ?_
  refine q_br w_PM (.ifCond .eq 10) 3 rfl rfl rfl (s0 = 0) 101 94 [] rfl (fun _ => ?_) (fun _ => ?_)
  · refine q_const (.iconst 0) 1 rfl rfl rfl 102 (0) _ rfl cd_kj0 ?_
    exact r_retZ rfl rfl (by decide)
  · refine r_ld (.aload_n 0) 1 2 0 (.ref 1) rfl rfl rfl rfl 95 rfl ?_
    refine q_cMz w_PM rfl (.invokevirtual 60) rfl rfl rfl 108 rfl [.ref 1] [] rfl (k8_takeSemicolon_1 M) (fun v16 M15 z17 => ?_)
    refine q_br w_PM (.ifCond .ne 5) 3 rfl rfl rfl (v16 = 0) 101 103 [] rfl (fun _ => ?_) (fun _ => ?_)
    · refine q_const (.iconst 0) 1 rfl rfl rfl 102 (0) _ rfl cd_kj0 ?_
      exact r_retZ rfl rfl (by decide)
    · refine q_inc w_PM 2 (1) (a2) rfl rfl rfl 106 rfl (1) cd_kj1 (fun x19 => [some (.ref 1), none, some (.int (x19)), some (.int (s0))]) (fun _ => rfl) (fun x19 => ?_)
      refine r_go (.goto (-84)) 3 rfl rfl rfl 22 [] rfl ?_
      exact r_w (h22 x19 M15) (cd_le_s (cd_le_n (cd_le_s (cd_le_n cd_le_0))))
def f8_readRules_1_L22 : Nat → Int32 → cd_M → Option (Int32 × cd_M)
  | 0, _, _ => none
  | n + 1, a2, M => if 9 < a2 then (some (0, M)) else (if f7_kind_2 M = 0 then (if 0 < f5_cadences_4 M then (some (1, M)) else (cd_lt (f8_refuse_1 1 M) (cd_u2 fun v5 M4 => if v5 = 0 then (some (0, M4)) else (some (1, M4))))) else ((f7_isWord_2_1002 M).bind fun v8 => if v8 = 0 then ((f8_valueTold_1 M).bind fun v10 => (f8_readValue_1 v10 M).bind (cd_u2 fun v12 M11 => f8_readRules_1_L89 (f8_readRules_1_L22 n) a2 v12 M11)) else ((f8_readCadence_1 M).bind (cd_u2 fun v21 M20 => f8_readRules_1_L89 (f8_readRules_1_L22 n) a2 v21 M20))))
set_option maxRecDepth 8000 in
theorem k8_readRules_1_L22 : ∀ (n : Nat) (a2 : Int32) (M : cd_M), cd_R 102 22 [some (.ref 1), none, some (.int (a2)), none] [] M (w_PM (f8_readRules_1_L22 n a2 M)) := by
  intro n
  induction n with
  | zero =>
    intro a2 M
    exact q_none w_PM rfl
  | succ n ih =>
    intro a2 M
    rw [f8_readRules_1_L22]
    refine r_ld (.iload_n 2) 1 0 2 (.int (a2)) rfl rfl rfl rfl 23 rfl ?_
    refine q_const (.bipush 9) 2 rfl rfl rfl 25 (9) _ rfl cd_kc9 ?_
    refine q_br w_PM (.if_icmp .gt 84) 3 rfl rfl rfl (9 < a2) 109 28 [] rfl (fun _ => ?_) (fun _ => ?_)
    · refine q_const (.iconst 0) 1 rfl rfl rfl 110 (0) _ rfl cd_kj0 ?_
      exact r_retZ rfl rfl (by decide)
    · refine r_ld (.aload_n 0) 1 2 0 (.ref 1) rfl rfl rfl rfl 29 rfl ?_
      refine r_go (.getfield 12) 3 rfl rfl rfl 32 [.ref 2] rfl ?_
      refine q_cTI (.invokevirtual 64) rfl rfl rfl 85 [.ref 2] [] rfl (k7_kind_2 M) ?_
      refine q_br w_PM (.ifCond .ne 27) 3 rfl rfl rfl (f7_kind_2 M = 0) 38 62 [] rfl (fun _ => ?_) (fun _ => ?_)
      · refine r_ld (.aload_n 0) 1 2 0 (.ref 1) rfl rfl rfl rfl 39 rfl ?_
        refine r_go (.getfield 30) 3 rfl rfl rfl 42 [.ref 4] rfl ?_
        refine q_cTI (.invokevirtual 96) rfl rfl rfl 60 [.ref 4] [] rfl (k5_cadences_4 M) ?_
        refine q_br w_PM (.ifCond .gt 11) 3 rfl rfl rfl (0 < f5_cadences_4 M) 56 48 [] rfl (fun _ => ?_) (fun _ => ?_)
        · refine q_const (.iconst 1) 1 rfl rfl rfl 57 (1) _ rfl cd_kj1 ?_
          refine r_go (.goto 4) 3 rfl rfl rfl 61 [.int (1)] rfl ?_
          exact r_retZ rfl rfl (by decide)
        · refine r_ld (.aload_n 0) 1 2 0 (.ref 1) rfl rfl rfl rfl 49 rfl ?_
          refine q_const (.iconst 1) 1 rfl rfl rfl 50 (1) _ rfl cd_kj1 ?_
          refine q_cTMz w_PM (.invokevirtual 77) rfl rfl rfl 111 rfl [.ref 1, .int (1)] [] rfl (k8_refuse_1 1 M) (fun v5 M4 z6 => ?_)
          refine q_br w_PM (.ifCond .eq 7) 3 rfl rfl rfl (v5 = 0) 60 56 [] rfl (fun _ => ?_) (fun _ => ?_)
          · refine q_const (.iconst 0) 1 rfl rfl rfl 61 (0) _ rfl cd_kj0 ?_
            exact r_retZ rfl rfl (by decide)
          · refine q_const (.iconst 1) 1 rfl rfl rfl 57 (1) _ rfl cd_kj1 ?_
            refine r_go (.goto 4) 3 rfl rfl rfl 61 [.int (1)] rfl ?_
            exact r_retZ rfl rfl (by decide)
      · refine r_ld (.aload_n 0) 1 2 0 (.ref 1) rfl rfl rfl rfl 63 rfl ?_
        refine r_go (.getfield 12) 3 rfl rfl rfl 66 [.ref 2] rfl ?_
        refine r_go (.ldc 99) 2 rfl rfl rfl 68 [.ref 1002, .ref 2] rfl ?_
        refine q_cIz w_PM rfl (.invokevirtual 74) rfl rfl rfl 89 rfl [.ref 2, .ref 1002] [] rfl (k7_isWord_2_1002 M) (fun v8 z9 => ?_)
        refine q_br w_PM (.ifCond .eq 10) 3 rfl rfl rfl (v8 = 0) 81 74 [] rfl (fun _ => ?_) (fun _ => ?_)
        · refine r_ld (.aload_n 0) 1 2 0 (.ref 1) rfl rfl rfl rfl 82 rfl ?_
          refine r_ld (.aload_n 0) 1 2 0 (.ref 1) rfl rfl rfl rfl 83 rfl ?_
          refine q_cI w_PM rfl (.invokevirtual 104) rfl rfl rfl 104 [.ref 1] [.ref 1] rfl (k8_valueTold_1 M) (fun v10 => ?_)
          refine q_cMz w_PM rfl (.invokevirtual 107) rfl rfl rfl 105 rfl [.ref 1, .int (v10)] [] rfl (k8_readValue_1 v10 M) (fun v12 M11 z13 => ?_)
          exact r_w (k8_readRules_1_L89 (f8_readRules_1_L22 n) ih a2 v12 M11) (cd_le_s (cd_le_n (cd_le_s (cd_le_n cd_le_0))))
        · refine r_ld (.aload_n 0) 1 2 0 (.ref 1) rfl rfl rfl rfl 75 rfl ?_
          refine q_cMz w_PM rfl (.invokevirtual 101) rfl rfl rfl 103 rfl [.ref 1] [] rfl (k8_readCadence_1 M) (fun v21 M20 z22 => ?_)
          refine r_go (.goto 11) 3 rfl rfl rfl 89 [.int (v21)] rfl ?_
          exact r_w (k8_readRules_1_L89 (f8_readRules_1_L22 n) ih a2 v21 M20) (cd_le_s (cd_le_n (cd_le_s (cd_le_n cd_le_0))))
def f8_readRules_1 (a1 : Int32) (M : cd_M) : Option (Int32 × cd_M) := (f7_open_2 a1 M).bind fun M1 => (f5_clear_4 M1).bind fun M2 => cd_lt (cd_wI M2 1 5 0) fun M3 => f8_readRules_1_L22 cd_fu 0 M3
set_option maxRecDepth 8000 in
theorem k8_readRules_1 (a1 : Int32) (M : cd_M) : cd_R 102 0 [some (.ref 1), some (.int (a1)), none, none] [] M (w_PM (f8_readRules_1 a1 M)) := by
  unfold f8_readRules_1
  refine r_ld (.aload_n 0) 1 2 0 (.ref 1) rfl rfl rfl rfl 1 rfl ?_
  refine r_go (.getfield 12) 3 rfl rfl rfl 4 [.ref 2] rfl ?_
  refine r_ld (.iload_n 1) 1 0 1 (.int (a1)) rfl rfl rfl rfl 5 rfl ?_
  refine q_cV w_PM rfl (.invokevirtual 44) rfl rfl rfl 84 [.ref 2, .int (a1)] [] rfl (k7_open_2 a1 M) (fun M1 => ?_)
  refine r_ld (.aload_n 0) 1 2 0 (.ref 1) rfl rfl rfl rfl 9 rfl ?_
  refine r_go (.getfield 30) 3 rfl rfl rfl 12 [.ref 4] rfl ?_
  refine q_cV w_PM rfl (.invokevirtual 93) rfl rfl rfl 55 [.ref 4] [] rfl (k5_clear_4 M1) (fun M2 => ?_)
  refine r_ld (.aload_n 0) 1 2 0 (.ref 1) rfl rfl rfl rfl 16 rfl ?_
  refine q_const (.iconst 0) 1 rfl rfl rfl 17 (0) _ rfl cd_kj0 ?_
  refine q_wr w_PM (.putfield 41) 3 rfl rfl rfl 20 [] (cd_wI M2 1 5 0) rfl (fun M3 => ?_)
  refine q_const (.iconst 0) 1 rfl rfl rfl 21 (0) _ rfl cd_kj0 ?_
  refine r_st (.istore_n 2) 1 0 2 rfl rfl rfl 22 rfl [some (.ref 1), some (.int (a1)), some (.int (0)), none] rfl ?_
  exact r_w (k8_readRules_1_L22 cd_fu 0 M3) (cd_le_s (cd_le_n (cd_le_s (cd_le_n cd_le_0))))
def f8_rulesRead_1 (M : cd_M) : Nat := 4
set_option maxRecDepth 8000 in
theorem k8_rulesRead_1 (M : cd_M) : cd_R 98 0 [some (.ref 1)] [] M ((w_TR M) (f8_rulesRead_1 M)) := by
  unfold f8_rulesRead_1
  refine r_ld (.aload_n 0) 1 2 0 (.ref 1) rfl rfl rfl rfl 1 rfl ?_
  refine r_go (.getfield 30) 3 rfl rfl rfl 4 [.ref 4] rfl ?_
  exact r_ret .areturn 1 rfl rfl rfl _ rfl
def f5_copyFrom_6_4 (M : cd_M) : Option cd_M := if cd_cpOK 0 0 24 24 24 then (cd_lt (cd_cI M 20 25 (0 : Int32).toNatClampNeg (0 : Int32).toNatClampNeg (24 : Int32).toNatClampNeg) fun M1 => if cd_cpOK 0 0 4 4 4 then (cd_lt (cd_cI M1 21 26 (0 : Int32).toNatClampNeg (0 : Int32).toNatClampNeg (4 : Int32).toNatClampNeg) fun M2 => if cd_cpOK 0 0 5 5 5 then (cd_lt (cd_cI M2 22 27 (0 : Int32).toNatClampNeg (0 : Int32).toNatClampNeg (5 : Int32).toNatClampNeg) fun M3 => cd_lt (cd_wI M3 6 3 (M3.1 4 3)) fun M4 => some M4) else none) else none) else none
set_option maxRecDepth 8000 in
theorem k5_copyFrom_6_4 (M : cd_M) : cd_R 59 0 [some (.ref 6), some (.ref 4)] [] M (w_PV (f5_copyFrom_6_4 M)) := by
  unfold f5_copyFrom_6_4
  refine r_ld (.aload_n 1) 1 2 1 (.ref 4) rfl rfl rfl rfl 1 rfl ?_
  refine r_go (.getfield 9) 3 rfl rfl rfl 4 [.ref 20] rfl ?_
  refine q_const (.iconst 0) 1 rfl rfl rfl 5 (0) _ rfl cd_kj0 ?_
  refine r_ld (.aload_n 0) 1 2 0 (.ref 6) rfl rfl rfl rfl 6 rfl ?_
  refine r_go (.getfield 9) 3 rfl rfl rfl 9 [.ref 25, .int (0), .ref 20] rfl ?_
  refine q_const (.iconst 0) 1 rfl rfl rfl 10 (0) _ rfl cd_kj0 ?_
  refine q_const (.bipush 24) 2 rfl rfl rfl 12 (24) _ rfl cd_kc24 ?_
  refine q_cpy w_PV rfl (.invokestatic 35) rfl rfl rfl 20 24 25 24 20 rfl rfl (cd_cI M 20 25 (0 : Int32).toNatClampNeg (0 : Int32).toNatClampNeg (24 : Int32).toNatClampNeg) (fun h => cd_cpI _ rfl rfl rfl rfl h) (fun M1 => ?_)
  refine r_ld (.aload_n 1) 1 2 1 (.ref 4) rfl rfl rfl rfl 16 rfl ?_
  refine r_go (.getfield 15) 3 rfl rfl rfl 19 [.ref 21] rfl ?_
  refine q_const (.iconst 0) 1 rfl rfl rfl 20 (0) _ rfl cd_kj0 ?_
  refine r_ld (.aload_n 0) 1 2 0 (.ref 6) rfl rfl rfl rfl 21 rfl ?_
  refine r_go (.getfield 15) 3 rfl rfl rfl 24 [.ref 26, .int (0), .ref 21] rfl ?_
  refine q_const (.iconst 0) 1 rfl rfl rfl 25 (0) _ rfl cd_kj0 ?_
  refine q_const (.iconst 4) 1 rfl rfl rfl 26 (4) _ rfl cd_kj4 ?_
  refine q_cpy w_PV rfl (.invokestatic 35) rfl rfl rfl 21 4 26 4 20 rfl rfl (cd_cI M1 21 26 (0 : Int32).toNatClampNeg (0 : Int32).toNatClampNeg (4 : Int32).toNatClampNeg) (fun h => cd_cpI _ rfl rfl rfl rfl h) (fun M2 => ?_)
  refine r_ld (.aload_n 1) 1 2 1 (.ref 4) rfl rfl rfl rfl 30 rfl ?_
  refine r_go (.getfield 18) 3 rfl rfl rfl 33 [.ref 22] rfl ?_
  refine q_const (.iconst 0) 1 rfl rfl rfl 34 (0) _ rfl cd_kj0 ?_
  refine r_ld (.aload_n 0) 1 2 0 (.ref 6) rfl rfl rfl rfl 35 rfl ?_
  refine r_go (.getfield 18) 3 rfl rfl rfl 38 [.ref 27, .int (0), .ref 22] rfl ?_
  refine q_const (.iconst 0) 1 rfl rfl rfl 39 (0) _ rfl cd_kj0 ?_
  refine q_const (.iconst 5) 1 rfl rfl rfl 40 (5) _ rfl cd_kj5 ?_
  refine q_cpy w_PV rfl (.invokestatic 35) rfl rfl rfl 22 5 27 5 20 rfl rfl (cd_cI M2 22 27 (0 : Int32).toNatClampNeg (0 : Int32).toNatClampNeg (5 : Int32).toNatClampNeg) (fun h => cd_cpI _ rfl rfl rfl rfl h) (fun M3 => ?_)
  refine r_ld (.aload_n 0) 1 2 0 (.ref 6) rfl rfl rfl rfl 44 rfl ?_
  refine r_ld (.aload_n 1) 1 2 1 (.ref 4) rfl rfl rfl rfl 45 rfl ?_
  refine r_go (.getfield 21) 3 rfl rfl rfl 48 [.int (M3.1 4 3), .ref 6] rfl ?_
  refine q_wr w_PV (.putfield 21) 3 rfl rfl rfl 51 [] (cd_wI M3 6 3 (M3.1 4 3)) rfl (fun M4 => ?_)
  exact r_ret .return_ 1 rfl rfl rfl _ rfl
def f5_cadences_6 (M : cd_M) : Int32 := (M.1 6 3)
set_option maxRecDepth 8000 in
theorem k5_cadences_6 (M : cd_M) : cd_R 60 0 [some (.ref 6)] [] M ((w_TI M) (f5_cadences_6 M)) := by
  unfold f5_cadences_6
  refine r_ld (.aload_n 0) 1 2 0 (.ref 6) rfl rfl rfl rfl 1 rfl ?_
  refine r_go (.getfield 21) 3 rfl rfl rfl 4 [.int (M.1 6 3)] rfl ?_
  exact r_ret .ireturn 1 rfl rfl rfl _ rfl
