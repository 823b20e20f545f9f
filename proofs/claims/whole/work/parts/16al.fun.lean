def f10_count_0 (a1 : Int32) (M : cd_M) : Option (Int32) := if a1 = 0 then (some (f1_width_5 M)) else (if a1 = 1 then (some (f1_size_5 M)) else (if a1 = 2 then (some (f4_size_7 M)) else (if a1 = 3 then (some (f5_cadences_6 M)) else (if a1 = 4 then (some (M.1 0 10)) else (if a1 = 5 then ((f5_value_6 0 M).bind fun v1 => some v1) else (if a1 = 6 then ((f5_value_6 1 M).bind fun v2 => some v2) else (if a1 = 7 then ((f5_value_6 2 M).bind fun v3 => some v3) else (if a1 = 8 then ((f5_value_6 3 M).bind fun v4 => some v4) else (if a1 = 9 then ((f5_value_6 4 M).bind fun v5 => some v5) else (if a1 = 10 then (some (f3_size_8 M)) else (if a1 = 11 then (some (f7_size_2 M)) else (some (-1)))))))))))))
set_option maxRecDepth 8000 in
theorem k10_count_0 (a1 : Int32) (M : cd_M) : cd_R 150 0 [some (.ref 0), some (.int (a1))] [] M ((w_PI M) (f10_count_0 a1 M)) := by
  unfold f10_count_0
  refine r_ld (.iload_n 1) 1 0 1 (.int (a1)) rfl rfl rfl rfl 1 rfl ?_
  refine q_or (w_PI M) (a1 = 0) (fun e0 => ?_) (fun e0 => ?_)
  · rw [e0]
    refine r_go (.tableswitch 164 0 11 #[63, 71, 79, 87, 95, 100, 109, 118, 127, 136, 145, 153]) 63 rfl rfl rfl 64 [] rfl ?_
    refine r_ld (.aload_n 0) 1 2 0 (.ref 0) rfl rfl rfl rfl 65 rfl ?_
    refine r_go (.getfield 21) 3 rfl rfl rfl 68 [.ref 5] rfl ?_
    refine q_cTI (.invokevirtual 179) rfl rfl rfl 12 [.ref 5] [] rfl (k1_width_5 M) ?_
    exact r_ret .ireturn 1 rfl rfl rfl _ rfl
  refine q_or (w_PI M) (a1 = 1) (fun e1 => ?_) (fun e1 => ?_)
  · rw [e1]
    refine r_go (.tableswitch 164 0 11 #[63, 71, 79, 87, 95, 100, 109, 118, 127, 136, 145, 153]) 63 rfl rfl rfl 72 [] rfl ?_
    refine r_ld (.aload_n 0) 1 2 0 (.ref 0) rfl rfl rfl rfl 73 rfl ?_
    refine r_go (.getfield 21) 3 rfl rfl rfl 76 [.ref 5] rfl ?_
    refine q_cTI (.invokevirtual 125) rfl rfl rfl 13 [.ref 5] [] rfl (k1_size_5 M) ?_
    exact r_ret .ireturn 1 rfl rfl rfl _ rfl
  refine q_or (w_PI M) (a1 = 2) (fun e2 => ?_) (fun e2 => ?_)
  · rw [e2]
    refine r_go (.tableswitch 164 0 11 #[63, 71, 79, 87, 95, 100, 109, 118, 127, 136, 145, 153]) 63 rfl rfl rfl 80 [] rfl ?_
    refine r_ld (.aload_n 0) 1 2 0 (.ref 0) rfl rfl rfl rfl 81 rfl ?_
    refine r_go (.getfield 35) 3 rfl rfl rfl 84 [.ref 7] rfl ?_
    refine q_cTI (.invokevirtual 168) rfl rfl rfl 41 [.ref 7] [] rfl (k4_size_7 M) ?_
    exact r_ret .ireturn 1 rfl rfl rfl _ rfl
  refine q_or (w_PI M) (a1 = 3) (fun e3 => ?_) (fun e3 => ?_)
  · rw [e3]
    refine r_go (.tableswitch 164 0 11 #[63, 71, 79, 87, 95, 100, 109, 118, 127, 136, 145, 153]) 63 rfl rfl rfl 88 [] rfl ?_
    refine r_ld (.aload_n 0) 1 2 0 (.ref 0) rfl rfl rfl rfl 89 rfl ?_
    refine r_go (.getfield 28) 3 rfl rfl rfl 92 [.ref 6] rfl ?_
    refine q_cTI (.invokevirtual 136) rfl rfl rfl 60 [.ref 6] [] rfl (k5_cadences_6 M) ?_
    exact r_ret .ireturn 1 rfl rfl rfl _ rfl
  refine q_or (w_PI M) (a1 = 4) (fun e4 => ?_) (fun e4 => ?_)
  · rw [e4]
    refine r_go (.tableswitch 164 0 11 #[63, 71, 79, 87, 95, 100, 109, 118, 127, 136, 145, 153]) 63 rfl rfl rfl 96 [] rfl ?_
    refine r_ld (.aload_n 0) 1 2 0 (.ref 0) rfl rfl rfl rfl 97 rfl ?_
    refine r_go (.getfield 74) 3 rfl rfl rfl 100 [.int (M.1 0 10)] rfl ?_
    exact r_ret .ireturn 1 rfl rfl rfl _ rfl
  refine q_or (w_PI M) (a1 = 5) (fun e5 => ?_) (fun e5 => ?_)
  · rw [e5]
    refine r_go (.tableswitch 164 0 11 #[63, 71, 79, 87, 95, 100, 109, 118, 127, 136, 145, 153]) 63 rfl rfl rfl 101 [] rfl ?_
    refine r_ld (.aload_n 0) 1 2 0 (.ref 0) rfl rfl rfl rfl 102 rfl ?_
    refine r_go (.getfield 28) 3 rfl rfl rfl 105 [.ref 6] rfl ?_
    refine q_const (.iconst 0) 1 rfl rfl rfl 106 (0) _ rfl cd_kj0 ?_
    refine q_cI (w_PI M) rfl (.invokevirtual 304) rfl rfl rfl 65 [.ref 6, .int (0)] [] rfl (k5_value_6 0 M) (fun v1 => ?_)
    exact r_ret .ireturn 1 rfl rfl rfl _ rfl
  refine q_or (w_PI M) (a1 = 6) (fun e6 => ?_) (fun e6 => ?_)
  · rw [e6]
    refine r_go (.tableswitch 164 0 11 #[63, 71, 79, 87, 95, 100, 109, 118, 127, 136, 145, 153]) 63 rfl rfl rfl 110 [] rfl ?_
    refine r_ld (.aload_n 0) 1 2 0 (.ref 0) rfl rfl rfl rfl 111 rfl ?_
    refine r_go (.getfield 28) 3 rfl rfl rfl 114 [.ref 6] rfl ?_
    refine q_const (.iconst 1) 1 rfl rfl rfl 115 (1) _ rfl cd_kj1 ?_
    refine q_cI (w_PI M) rfl (.invokevirtual 304) rfl rfl rfl 65 [.ref 6, .int (1)] [] rfl (k5_value_6 1 M) (fun v2 => ?_)
    exact r_ret .ireturn 1 rfl rfl rfl _ rfl
  refine q_or (w_PI M) (a1 = 7) (fun e7 => ?_) (fun e7 => ?_)
  · rw [e7]
    refine r_go (.tableswitch 164 0 11 #[63, 71, 79, 87, 95, 100, 109, 118, 127, 136, 145, 153]) 63 rfl rfl rfl 119 [] rfl ?_
    refine r_ld (.aload_n 0) 1 2 0 (.ref 0) rfl rfl rfl rfl 120 rfl ?_
    refine r_go (.getfield 28) 3 rfl rfl rfl 123 [.ref 6] rfl ?_
    refine q_const (.iconst 2) 1 rfl rfl rfl 124 (2) _ rfl cd_kj2 ?_
    refine q_cI (w_PI M) rfl (.invokevirtual 304) rfl rfl rfl 65 [.ref 6, .int (2)] [] rfl (k5_value_6 2 M) (fun v3 => ?_)
    exact r_ret .ireturn 1 rfl rfl rfl _ rfl
  refine q_or (w_PI M) (a1 = 8) (fun e8 => ?_) (fun e8 => ?_)
  · rw [e8]
    refine r_go (.tableswitch 164 0 11 #[63, 71, 79, 87, 95, 100, 109, 118, 127, 136, 145, 153]) 63 rfl rfl rfl 128 [] rfl ?_
    refine r_ld (.aload_n 0) 1 2 0 (.ref 0) rfl rfl rfl rfl 129 rfl ?_
    refine r_go (.getfield 28) 3 rfl rfl rfl 132 [.ref 6] rfl ?_
    refine q_const (.iconst 3) 1 rfl rfl rfl 133 (3) _ rfl cd_kj3 ?_
    refine q_cI (w_PI M) rfl (.invokevirtual 304) rfl rfl rfl 65 [.ref 6, .int (3)] [] rfl (k5_value_6 3 M) (fun v4 => ?_)
    exact r_ret .ireturn 1 rfl rfl rfl _ rfl
  refine q_or (w_PI M) (a1 = 9) (fun e9 => ?_) (fun e9 => ?_)
  · rw [e9]
    refine r_go (.tableswitch 164 0 11 #[63, 71, 79, 87, 95, 100, 109, 118, 127, 136, 145, 153]) 63 rfl rfl rfl 137 [] rfl ?_
    refine r_ld (.aload_n 0) 1 2 0 (.ref 0) rfl rfl rfl rfl 138 rfl ?_
    refine r_go (.getfield 28) 3 rfl rfl rfl 141 [.ref 6] rfl ?_
    refine q_const (.iconst 4) 1 rfl rfl rfl 142 (4) _ rfl cd_kj4 ?_
    refine q_cI (w_PI M) rfl (.invokevirtual 304) rfl rfl rfl 65 [.ref 6, .int (4)] [] rfl (k5_value_6 4 M) (fun v5 => ?_)
    exact r_ret .ireturn 1 rfl rfl rfl _ rfl
  refine q_or (w_PI M) (a1 = 10) (fun e10 => ?_) (fun e10 => ?_)
  · rw [e10]
    refine r_go (.tableswitch 164 0 11 #[63, 71, 79, 87, 95, 100, 109, 118, 127, 136, 145, 153]) 63 rfl rfl rfl 146 [] rfl ?_
    refine r_ld (.aload_n 0) 1 2 0 (.ref 0) rfl rfl rfl rfl 147 rfl ?_
    refine r_go (.getfield 42) 3 rfl rfl rfl 150 [.ref 8] rfl ?_
    refine q_cTI (.invokevirtual 199) rfl rfl rfl 37 [.ref 8] [] rfl (k3_size_8 M) ?_
    exact r_ret .ireturn 1 rfl rfl rfl _ rfl
  refine q_or (w_PI M) (a1 = 11) (fun e11 => ?_) (fun e11 => ?_)
  · rw [e11]
    refine r_go (.tableswitch 164 0 11 #[63, 71, 79, 87, 95, 100, 109, 118, 127, 136, 145, 153]) 63 rfl rfl rfl 154 [] rfl ?_
    refine r_ld (.aload_n 0) 1 2 0 (.ref 0) rfl rfl rfl rfl 155 rfl ?_
    refine r_go (.getfield 10) 3 rfl rfl rfl 158 [.ref 1] rfl ?_
    refine q_cTR (.invokevirtual 82) rfl rfl rfl 96 [.ref 1] [] rfl (k8_tape_1 M) ?_
    refine q_cTI (.invokevirtual 95) rfl rfl rfl 81 [.ref 2] [] rfl (k7_size_2 M) ?_
    exact r_ret .ireturn 1 rfl rfl rfl _ rfl
  have g0 := cd_neI 0 (by omega) e0
  have g1 := cd_neI 1 (by omega) e1
  have g2 := cd_neI 2 (by omega) e2
  have g3 := cd_neI 3 (by omega) e3
  have g4 := cd_neI 4 (by omega) e4
  have g5 := cd_neI 5 (by omega) e5
  have g6 := cd_neI 6 (by omega) e6
  have g7 := cd_neI 7 (by omega) e7
  have g8 := cd_neI 8 (by omega) e8
  have g9 := cd_neI 9 (by omega) e9
  have g10 := cd_neI 10 (by omega) e10
  have g11 := cd_neI 11 (by omega) e11
  refine q_swD (164) 11 #[63, 71, 79, 87, 95, 100, 109, 118, 127, 136, 145, 153] 63 rfl (by omega) 165 rfl ?_
  refine q_const (.iconst (-1)) 1 rfl rfl rfl 166 (-1) _ rfl cd_kjm1 ?_
  exact r_ret .ireturn 1 rfl rfl rfl _ rfl
def f11_thrown_15 (M : cd_M) : Int32 := (M.1 15 0)
set_option maxRecDepth 8000 in
theorem k11_thrown_15 (M : cd_M) : cd_R 160 0 [some (.ref 15)] [] M ((w_TI M) (f11_thrown_15 M)) := by
  unfold f11_thrown_15
  refine r_ld (.aload_n 0) 1 2 0 (.ref 15) rfl rfl rfl rfl 1 rfl ?_
  refine r_go (.getfield 95) 3 rfl rfl rfl 4 [.int (M.1 15 0)] rfl ?_
  exact r_ret .ireturn 1 rfl rfl rfl _ rfl
def f11_puts_15_L3 : Nat → Int32 → Int32 → cd_M → Option cd_M
  | 0, _, _, _ => none
  | n + 1, a1, a2, M => if a2 < 0 then (some M) else (if cd_in (M.1 15 2) 900 = true then (cd_lt (cd_wI M 57 (M.1 15 2 : Int32).toNatClampNeg (vp_nar .byte ((a1 >>> (a2 &&& 31) : Int32).toInt8.toInt32))) fun M1 => cd_lt (cd_wI M1 15 2 ((M1.1 15 2) + 1)) fun M2 => cd_lt (a2 + (-8)) fun x3 => f11_puts_15_L3 n a1 x3 M2) else none)
set_option maxRecDepth 8000 in
theorem k11_puts_15_L3 : ∀ (n : Nat) (a1 : Int32) (a2 : Int32) (M : cd_M), cd_R 162 3 [some (.ref 15), some (.int (a1)), some (.int (a2))] [] M (w_PV (f11_puts_15_L3 n a1 a2 M)) := by
  intro n
  induction n with
  | zero =>
    intro a1 a2 M
    exact q_none w_PV rfl
  | succ n ih =>
    intro a1 a2 M
    rw [f11_puts_15_L3]
    refine r_ld (.iload_n 2) 1 0 2 (.int (a2)) rfl rfl rfl rfl 4 rfl ?_
    refine q_br w_PV (.ifCond .lt 32) 3 rfl rfl rfl (a2 < 0) 36 7 [] rfl (fun _ => ?_) (fun _ => ?_)
    · exact r_ret .return_ 1 rfl rfl rfl _ rfl
    · refine r_ld (.aload_n 0) 1 2 0 (.ref 15) rfl rfl rfl rfl 8 rfl ?_
      refine r_go (.getfield 7) 3 rfl rfl rfl 11 [.ref 57] rfl ?_
      refine r_ld (.aload_n 0) 1 2 0 (.ref 15) rfl rfl rfl rfl 12 rfl ?_
      refine r_go (.getfield 98) 3 rfl rfl rfl 15 [.int (M.1 15 2), .ref 57] rfl ?_
      refine r_ld (.iload_n 1) 1 0 1 (.int (a1)) rfl rfl rfl rfl 16 rfl ?_
      refine r_ld (.iload_n 2) 1 0 2 (.int (a2)) rfl rfl rfl rfl 17 rfl ?_
      refine r_go (.ishr) 1 rfl rfl rfl 18 [.int (a1 >>> (a2 &&& 31)), .int (M.1 15 2), .ref 57] rfl ?_
      refine r_go (.i2b) 1 rfl rfl rfl 19 [.int ((a1 >>> (a2 &&& 31) : Int32).toInt8.toInt32), .int (M.1 15 2), .ref 57] rfl ?_
      refine q_bast w_PV rfl rfl 57 900 rfl (fun M1 => ?_)
      refine r_ld (.aload_n 0) 1 2 0 (.ref 15) rfl rfl rfl rfl 21 rfl ?_
      refine r_go (.dup) 1 rfl rfl rfl 22 [.ref 15, .ref 15] rfl ?_
      refine r_go (.getfield 98) 3 rfl rfl rfl 25 [.int (M1.1 15 2), .ref 15] rfl ?_
      refine q_const (.iconst 1) 1 rfl rfl rfl 26 (1) _ rfl cd_kj1 ?_
      refine r_go (.iadd) 1 rfl rfl rfl 27 [.int ((M1.1 15 2) + 1), .ref 15] rfl ?_
      refine q_wr w_PV (.putfield 98) 3 rfl rfl rfl 30 [] (cd_wI M1 15 2 ((M1.1 15 2) + 1)) rfl (fun M2 => ?_)
      refine q_inc w_PV 2 (-8) (a2) rfl rfl rfl 33 rfl (-8) cd_kjm8 (fun x3 => [some (.ref 15), some (.int (a1)), some (.int (x3))]) (fun _ => rfl) (fun x3 => ?_)
      refine r_go (.goto (-30)) 3 rfl rfl rfl 3 [] rfl ?_
      exact r_w (ih a1 x3 M2) (cd_le_s (cd_le_s (cd_le_s cd_le_0)))
def f11_puts_15 (a1 : Int32) (M : cd_M) : Option cd_M := f11_puts_15_L3 cd_fu a1 24 M
set_option maxRecDepth 8000 in
theorem k11_puts_15 (a1 : Int32) (M : cd_M) : cd_R 162 0 [some (.ref 15), some (.int (a1)), none] [] M (w_PV (f11_puts_15 a1 M)) := by
  unfold f11_puts_15
  refine q_const (.bipush 24) 2 rfl rfl rfl 2 (24) _ rfl cd_kc24 ?_
  refine r_st (.istore_n 2) 1 0 2 rfl rfl rfl 3 rfl [some (.ref 15), some (.int (a1)), some (.int (24))] rfl ?_
  exact r_w (k11_puts_15_L3 cd_fu a1 24 M) (cd_le_s (cd_le_s (cd_le_s cd_le_0)))
def f11_feed_15 (a1 : Int32) (a2 : Int32) (a3 : Int32) (a4 : Int32) (a5 : Int32) (M : cd_M) : Option (Int32 × cd_M) := cd_lt (cd_wI M 15 0 0) fun M1 => if (M1.1 15 2) + 20 ≤ 900 then ((f11_puts_15 a1 M1).bind fun M2 => (f11_puts_15 a2 M2).bind fun M3 => (f11_puts_15 a3 M3).bind fun M4 => (f11_puts_15 a4 M4).bind fun M5 => (f11_puts_15 a5 M5).bind fun M6 => some (M6.1 15 2, M6)) else (some ((-1), M1))
set_option maxRecDepth 8000 in
theorem k11_feed_15 (a1 : Int32) (a2 : Int32) (a3 : Int32) (a4 : Int32) (a5 : Int32) (M : cd_M) : cd_R 163 0 [some (.ref 15), some (.int (a1)), some (.int (a2)), some (.int (a3)), some (.int (a4)), some (.int (a5))] [] M (w_PM (f11_feed_15 a1 a2 a3 a4 a5 M)) := by
  unfold f11_feed_15
  refine r_ld (.aload_n 0) 1 2 0 (.ref 15) rfl rfl rfl rfl 1 rfl ?_
  refine q_const (.iconst 0) 1 rfl rfl rfl 2 (0) _ rfl cd_kj0 ?_
  refine q_wr w_PM (.putfield 95) 3 rfl rfl rfl 5 [] (cd_wI M 15 0 0) rfl (fun M1 => ?_)
  refine r_ld (.aload_n 0) 1 2 0 (.ref 15) rfl rfl rfl rfl 6 rfl ?_
  refine r_go (.getfield 98) 3 rfl rfl rfl 9 [.int (M1.1 15 2)] rfl ?_
  refine q_const (.bipush 20) 2 rfl rfl rfl 11 (20) _ rfl cd_kc20 ?_
  refine r_go (.iadd) 1 rfl rfl rfl 12 [.int ((M1.1 15 2) + 20)] rfl ?_
  refine q_const (.sipush 900) 3 rfl rfl rfl 15 (900) _ rfl cd_kt900 ?_
  refine q_br w_PM (.if_icmp .le 5) 3 rfl rfl rfl ((M1.1 15 2) + 20 ≤ 900) 20 18 [] rfl (fun _ => ?_) (fun _ => ?_)
  · refine r_ld (.aload_n 0) 1 2 0 (.ref 15) rfl rfl rfl rfl 21 rfl ?_
    refine r_ld (.iload_n 1) 1 0 1 (.int (a1)) rfl rfl rfl rfl 22 rfl ?_
    refine q_cV w_PM rfl (.invokevirtual 101) rfl rfl rfl 162 [.ref 15, .int (a1)] [] rfl (k11_puts_15 a1 M1) (fun M2 => ?_)
    refine r_ld (.aload_n 0) 1 2 0 (.ref 15) rfl rfl rfl rfl 26 rfl ?_
    refine r_ld (.iload_n 2) 1 0 2 (.int (a2)) rfl rfl rfl rfl 27 rfl ?_
    refine q_cV w_PM rfl (.invokevirtual 101) rfl rfl rfl 162 [.ref 15, .int (a2)] [] rfl (k11_puts_15 a2 M2) (fun M3 => ?_)
    refine r_ld (.aload_n 0) 1 2 0 (.ref 15) rfl rfl rfl rfl 31 rfl ?_
    refine r_ld (.iload_n 3) 1 0 3 (.int (a3)) rfl rfl rfl rfl 32 rfl ?_
    refine q_cV w_PM rfl (.invokevirtual 101) rfl rfl rfl 162 [.ref 15, .int (a3)] [] rfl (k11_puts_15 a3 M3) (fun M4 => ?_)
    refine r_ld (.aload_n 0) 1 2 0 (.ref 15) rfl rfl rfl rfl 36 rfl ?_
    refine r_ld (.iload 4) 2 0 4 (.int (a4)) rfl rfl rfl rfl 38 rfl ?_
    refine q_cV w_PM rfl (.invokevirtual 101) rfl rfl rfl 162 [.ref 15, .int (a4)] [] rfl (k11_puts_15 a4 M4) (fun M5 => ?_)
    refine r_ld (.aload_n 0) 1 2 0 (.ref 15) rfl rfl rfl rfl 42 rfl ?_
    refine r_ld (.iload 5) 2 0 5 (.int (a5)) rfl rfl rfl rfl 44 rfl ?_
    refine q_cV w_PM rfl (.invokevirtual 101) rfl rfl rfl 162 [.ref 15, .int (a5)] [] rfl (k11_puts_15 a5 M5) (fun M6 => ?_)
    refine r_ld (.aload_n 0) 1 2 0 (.ref 15) rfl rfl rfl rfl 48 rfl ?_
    refine r_go (.getfield 98) 3 rfl rfl rfl 51 [.int (M6.1 15 2)] rfl ?_
    exact r_ret .ireturn 1 rfl rfl rfl _ rfl
  · refine q_const (.iconst (-1)) 1 rfl rfl rfl 19 (-1) _ rfl cd_kjm1 ?_
    exact r_ret .ireturn 1 rfl rfl rfl _ rfl
def f11_within (a0 : Int64) (a1 : Int64) (a2 : Int64) (M : cd_M) : Int32 := if lg_cmp a0 a1 < 0 then (0) else (if 0 < lg_cmp a0 a2 then (0) else (1))
set_option maxRecDepth 8000 in
theorem k11_within (a0 : Int64) (a1 : Int64) (a2 : Int64) (M : cd_M) : cd_R 161 0 [some (.long (a0)), none, some (.long (a1)), none, some (.long (a2)), none] [] M ((w_TI M) (f11_within a0 a1 a2 M)) := by
  unfold f11_within
  refine r_ld (.lload_n 0) 1 1 0 (.long (a0)) rfl rfl rfl rfl 1 rfl ?_
  refine r_ld (.lload_n 2) 1 1 2 (.long (a1)) rfl rfl rfl rfl 2 rfl ?_
  refine r_go (.lcmp) 1 rfl rfl rfl 3 [.int (lg_cmp a0 a1)] rfl ?_
  refine q_br (w_TI M) (.ifCond .lt 14) 3 rfl rfl rfl (lg_cmp a0 a1 < 0) 17 6 [] rfl (fun _ => ?_) (fun _ => ?_)
  · refine q_const (.iconst 0) 1 rfl rfl rfl 18 (0) _ rfl cd_kj0 ?_
    exact r_retZ rfl rfl (by decide)
  · refine r_ld (.lload_n 0) 1 1 0 (.long (a0)) rfl rfl rfl rfl 7 rfl ?_
    refine r_ld (.lload 4) 2 1 4 (.long (a2)) rfl rfl rfl rfl 9 rfl ?_
    refine r_go (.lcmp) 1 rfl rfl rfl 10 [.int (lg_cmp a0 a2)] rfl ?_
    refine q_br (w_TI M) (.ifCond .gt 7) 3 rfl rfl rfl (0 < lg_cmp a0 a2) 17 13 [] rfl (fun _ => ?_) (fun _ => ?_)
    · refine q_const (.iconst 0) 1 rfl rfl rfl 18 (0) _ rfl cd_kj0 ?_
      exact r_retZ rfl rfl (by decide)
    · refine q_const (.iconst 1) 1 rfl rfl rfl 14 (1) _ rfl cd_kj1 ?_
      refine r_go (.goto 4) 3 rfl rfl rfl 18 [.int (1)] rfl ?_
      exact r_retZ rfl rfl (by decide)
def f11_see_15 (a1 : Int32) (M : cd_M) : Option (Int32) := if M.1 15 3 ≤ a1 then (some (-1)) else (if cd_in a1 900 = true then (some ((M.1 57 a1.toNatClampNeg) &&& 255)) else none)
set_option maxRecDepth 8000 in
theorem k11_see_15 (a1 : Int32) (M : cd_M) : cd_R 164 0 [some (.ref 15), some (.int (a1))] [] M ((w_PI M) (f11_see_15 a1 M)) := by
  unfold f11_see_15
  refine r_ld (.iload_n 1) 1 0 1 (.int (a1)) rfl rfl rfl rfl 1 rfl ?_
  refine r_ld (.aload_n 0) 1 2 0 (.ref 15) rfl rfl rfl rfl 2 rfl ?_
  refine r_go (.getfield 104) 3 rfl rfl rfl 5 [.int (M.1 15 3), .int (a1)] rfl ?_
  refine q_br (w_PI M) (.if_icmp .ge 16) 3 rfl rfl rfl (M.1 15 3 ≤ a1) 21 8 [] rfl (fun _ => ?_) (fun _ => ?_)
  · refine q_const (.iconst (-1)) 1 rfl rfl rfl 22 (-1) _ rfl cd_kjm1 ?_
    exact r_ret .ireturn 1 rfl rfl rfl _ rfl
  · refine r_ld (.aload_n 0) 1 2 0 (.ref 15) rfl rfl rfl rfl 9 rfl ?_
    refine r_go (.getfield 7) 3 rfl rfl rfl 12 [.ref 57] rfl ?_
    refine r_ld (.iload_n 1) 1 0 1 (.int (a1)) rfl rfl rfl rfl 13 rfl ?_
    refine q_bald (w_PI M) rfl rfl 57 900 22 rfl rfl (by decide) ?_
    refine q_const (.sipush 255) 3 rfl rfl rfl 17 (255) _ rfl cd_kt255 ?_
    refine r_go (.iand) 1 rfl rfl rfl 18 [.int ((M.1 57 a1.toNatClampNeg) &&& 255)] rfl ?_
    refine r_go (.goto 4) 3 rfl rfl rfl 22 [.int ((M.1 57 a1.toNatClampNeg) &&& 255)] rfl ?_
    exact r_ret .ireturn 1 rfl rfl rfl _ rfl
def f11_steps_15_L34 (r8 : cd_M → Option cd_M) (M : cd_M) : Option cd_M := cd_lt (cd_wI M 15 4 ((M.1 15 4) + 1)) fun M3 => r8 M3
set_option maxRecDepth 8000 in
theorem k11_steps_15_L34 (r8 : cd_M → Option cd_M) (h8 : ∀ (M : cd_M), cd_R 165 8 [some (.ref 15), none] [] M (w_PV (r8 M))) (M : cd_M) : cd_R 165 34 [some (.ref 15), none] [] M (w_PV (f11_steps_15_L34 r8 M)) := by
  unfold f11_steps_15_L34
  refine r_ld (.aload_n 0) 1 2 0 (.ref 15) rfl rfl rfl rfl 35 rfl ?_
  refine r_go (.dup) 1 rfl rfl rfl 36 [.ref 15, .ref 15] rfl ?_
  refine r_go (.getfield 110) 3 rfl rfl rfl 39 [.int (M.1 15 4), .ref 15] rfl ?_
  refine q_const (.iconst 1) 1 rfl rfl rfl 40 (1) _ rfl cd_kj1 ?_
  refine r_go (.iadd) 1 rfl rfl rfl 41 [.int ((M.1 15 4) + 1), .ref 15] rfl ?_
  refine q_wr w_PV (.putfield 110) 3 rfl rfl rfl 44 [] (cd_wI M 15 4 ((M.1 15 4) + 1)) rfl (fun M3 => ?_)
  refine r_go (.goto (-36)) 3 rfl rfl rfl 8 [] rfl ?_
  exact r_w (h8 M3) (cd_le_s (cd_le_n cd_le_0))
def f11_steps_15_L285 (s0 : Int32) (M : cd_M) : Option cd_M := cd_lt (cd_wI M 15 6 s0) fun M17 => some M17
set_option maxRecDepth 8000 in
theorem k11_steps_15_L285 (s0 : Int32) (M : cd_M) : cd_R 165 285 [none, none] [.int (s0), .ref 15] M (w_PV (f11_steps_15_L285 s0 M)) := by
  unfold f11_steps_15_L285
  refine q_wr w_PV (.putfield 117) 3 rfl rfl rfl 288 [] (cd_wI M 15 6 s0) rfl (fun M17 => ?_)
  exact r_ret .return_ 1 rfl rfl rfl _ rfl
def f11_steps_15_L250 (r189 : cd_M → Option cd_M) (s0 : Int32) (M : cd_M) : Option cd_M := cd_lt (cd_wI M 15 7 s0) fun M18 => cd_lt (cd_wI M18 15 5 ((M18.1 15 5) + 1)) fun M19 => r189 M19
set_option maxRecDepth 8000 in
theorem k11_steps_15_L250 (r189 : cd_M → Option cd_M) (h189 : ∀ (M : cd_M), cd_R 165 189 [some (.ref 15), none] [] M (w_PV (r189 M))) (s0 : Int32) (M : cd_M) : cd_R 165 250 [some (.ref 15), none] [.int (s0), .ref 15] M (w_PV (f11_steps_15_L250 r189 s0 M)) := by
  unfold f11_steps_15_L250
  refine q_wr w_PV (.putfield 120) 3 rfl rfl rfl 253 [] (cd_wI M 15 7 s0) rfl (fun M18 => ?_)
  refine r_ld (.aload_n 0) 1 2 0 (.ref 15) rfl rfl rfl rfl 254 rfl ?_
  refine r_go (.dup) 1 rfl rfl rfl 255 [.ref 15, .ref 15] rfl ?_
  refine r_go (.getfield 107) 3 rfl rfl rfl 258 [.int (M18.1 15 5), .ref 15] rfl ?_
  refine q_const (.iconst 1) 1 rfl rfl rfl 259 (1) _ rfl cd_kj1 ?_
  refine r_go (.iadd) 1 rfl rfl rfl 260 [.int ((M18.1 15 5) + 1), .ref 15] rfl ?_
  refine q_wr w_PV (.putfield 107) 3 rfl rfl rfl 263 [] (cd_wI M18 15 5 ((M18.1 15 5) + 1)) rfl (fun M19 => ?_)
  refine r_go (.goto (-74)) 3 rfl rfl rfl 189 [] rfl ?_
  exact r_w (h189 M19) (cd_le_s (cd_le_n cd_le_0))
def f11_steps_15_L189 : Nat → cd_M → Option cd_M
  | 0, _ => none
  | n + 1, M => (f11_see_15 (M.1 15 5) M).bind fun v15 => if f11_within (v15.toInt64) 48 57 M = 0 then (if 5 ≤ (M.1 15 5) - (M.1 15 4) then (f11_steps_15_L285 4 M) else (f11_steps_15_L285 2 M)) else (if 4 ≤ (M.1 15 5) - (M.1 15 4) then (f11_steps_15_L250 (f11_steps_15_L189 n) (M.1 15 7) M) else ((f11_see_15 (M.1 15 5) M).bind fun v20 => f11_steps_15_L250 (f11_steps_15_L189 n) (((10 * (M.1 15 7)) + v20) - 48) M))
set_option maxRecDepth 8000 in
theorem k11_steps_15_L189 : ∀ (n : Nat) (M : cd_M), cd_R 165 189 [some (.ref 15), none] [] M (w_PV (f11_steps_15_L189 n M)) := by
  intro n
  induction n with
  | zero =>
    intro M
    exact q_none w_PV rfl
  | succ n ih =>
    intro M
    rw [f11_steps_15_L189]
    refine r_ld (.aload_n 0) 1 2 0 (.ref 15) rfl rfl rfl rfl 190 rfl ?_
    refine r_ld (.aload_n 0) 1 2 0 (.ref 15) rfl rfl rfl rfl 191 rfl ?_
    refine r_go (.getfield 107) 3 rfl rfl rfl 194 [.int (M.1 15 5), .ref 15] rfl ?_
    refine q_cI w_PV rfl (.invokevirtual 113) rfl rfl rfl 164 [.ref 15, .int (M.1 15 5)] [] rfl (k11_see_15 (M.1 15 5) M) (fun v15 => ?_)
    refine r_go (.i2l) 1 rfl rfl rfl 198 [.long (v15.toInt64)] rfl ?_
    refine r_go (.ldc2_w 131) 3 rfl rfl rfl 201 [.long (48), .long (v15.toInt64)] rfl ?_
    refine r_go (.ldc2_w 133) 3 rfl rfl rfl 204 [.long (57), .long (48), .long (v15.toInt64)] rfl ?_
    refine q_cTIz (.invokestatic 127) rfl rfl rfl 161 rfl [.long (v15.toInt64), .long (48), .long (57)] [] rfl (k11_within (v15.toInt64) 48 57 M) (fun z16 => ?_)
    refine q_br w_PV (.ifCond .eq 59) 3 rfl rfl rfl (f11_within (v15.toInt64) 48 57 M = 0) 266 210 [] rfl (fun _ => ?_) (fun _ => ?_)
    · refine r_ld (.aload_n 0) 1 2 0 (.ref 15) rfl rfl rfl rfl 267 rfl ?_
      refine r_ld (.aload_n 0) 1 2 0 (.ref 15) rfl rfl rfl rfl 268 rfl ?_
      refine r_go (.getfield 107) 3 rfl rfl rfl 271 [.int (M.1 15 5), .ref 15] rfl ?_
      refine r_ld (.aload_n 0) 1 2 0 (.ref 15) rfl rfl rfl rfl 272 rfl ?_
      refine r_go (.getfield 110) 3 rfl rfl rfl 275 [.int (M.1 15 4), .int (M.1 15 5), .ref 15] rfl ?_
      refine r_go (.isub) 1 rfl rfl rfl 276 [.int ((M.1 15 5) - (M.1 15 4)), .ref 15] rfl ?_
      refine q_const (.iconst 5) 1 rfl rfl rfl 277 (5) _ rfl cd_kj5 ?_
      refine q_br w_PV (.if_icmp .ge 7) 3 rfl rfl rfl (5 ≤ (M.1 15 5) - (M.1 15 4)) 284 280 [.ref 15] rfl (fun _ => ?_) (fun _ => ?_)
      · refine q_const (.iconst 4) 1 rfl rfl rfl 285 (4) _ rfl cd_kj4 ?_
        exact r_w (k11_steps_15_L285 4 M) (cd_le_n (cd_le_n cd_le_0))
      · refine q_const (.iconst 2) 1 rfl rfl rfl 281 (2) _ rfl cd_kj2 ?_
        refine r_go (.goto 4) 3 rfl rfl rfl 285 [.int (2), .ref 15] rfl ?_
        exact r_w (k11_steps_15_L285 2 M) (cd_le_n (cd_le_n cd_le_0))
    · refine r_ld (.aload_n 0) 1 2 0 (.ref 15) rfl rfl rfl rfl 211 rfl ?_
      refine r_ld (.aload_n 0) 1 2 0 (.ref 15) rfl rfl rfl rfl 212 rfl ?_
      refine r_go (.getfield 107) 3 rfl rfl rfl 215 [.int (M.1 15 5), .ref 15] rfl ?_
      refine r_ld (.aload_n 0) 1 2 0 (.ref 15) rfl rfl rfl rfl 216 rfl ?_
      refine r_go (.getfield 110) 3 rfl rfl rfl 219 [.int (M.1 15 4), .int (M.1 15 5), .ref 15] rfl ?_
      refine r_go (.isub) 1 rfl rfl rfl 220 [.int ((M.1 15 5) - (M.1 15 4)), .ref 15] rfl ?_
      refine q_const (.iconst 4) 1 rfl rfl rfl 221 (4) _ rfl cd_kj4 ?_
      refine q_br w_PV (.if_icmp .ge 25) 3 rfl rfl rfl (4 ≤ (M.1 15 5) - (M.1 15 4)) 246 224 [.ref 15] rfl (fun _ => ?_) (fun _ => ?_)
      · refine r_ld (.aload_n 0) 1 2 0 (.ref 15) rfl rfl rfl rfl 247 rfl ?_
        refine r_go (.getfield 120) 3 rfl rfl rfl 250 [.int (M.1 15 7), .ref 15] rfl ?_
        exact r_w (k11_steps_15_L250 (f11_steps_15_L189 n) ih (M.1 15 7) M) (cd_le_s (cd_le_n cd_le_0))
      · refine q_const (.bipush 10) 2 rfl rfl rfl 226 (10) _ rfl cd_kc10 ?_
        refine r_ld (.aload_n 0) 1 2 0 (.ref 15) rfl rfl rfl rfl 227 rfl ?_
        refine r_go (.getfield 120) 3 rfl rfl rfl 230 [.int (M.1 15 7), .int (10), .ref 15] rfl ?_
        refine r_go (.imul) 1 rfl rfl rfl 231 [.int (10 * (M.1 15 7)), .ref 15] rfl ?_
        refine r_ld (.aload_n 0) 1 2 0 (.ref 15) rfl rfl rfl rfl 232 rfl ?_
        refine r_ld (.aload_n 0) 1 2 0 (.ref 15) rfl rfl rfl rfl 233 rfl ?_
        refine r_go (.getfield 107) 3 rfl rfl rfl 236 [.int (M.1 15 5), .ref 15, .int (10 * (M.1 15 7)), .ref 15] rfl ?_
        refine q_cI w_PV rfl (.invokevirtual 113) rfl rfl rfl 164 [.ref 15, .int (M.1 15 5)] [.int (10 * (M.1 15 7)), .ref 15] rfl (k11_see_15 (M.1 15 5) M) (fun v20 => ?_)
        refine r_go (.iadd) 1 rfl rfl rfl 240 [.int ((10 * (M.1 15 7)) + v20), .ref 15] rfl ?_
        refine q_const (.bipush 48) 2 rfl rfl rfl 242 (48) _ rfl cd_kc48 ?_
        refine r_go (.isub) 1 rfl rfl rfl 243 [.int (((10 * (M.1 15 7)) + v20) - 48), .ref 15] rfl ?_
        refine r_go (.goto 7) 3 rfl rfl rfl 250 [.int (((10 * (M.1 15 7)) + v20) - 48), .ref 15] rfl ?_
        exact r_w (k11_steps_15_L250 (f11_steps_15_L189 n) ih (((10 * (M.1 15 7)) + v20) - 48) M) (cd_le_s (cd_le_n cd_le_0))
def f11_steps_15_L125 : Nat → cd_M → Option cd_M
  | 0, _ => none
  | n + 1, M => (f11_see_15 (M.1 15 5) M).bind fun v21 => if f11_within (v21.toInt64) 97 122 M = 0 then (cd_lt (cd_wI M 15 6 1) fun M23 => some M23) else (cd_lt (cd_wI M 15 5 ((M.1 15 5) + 1)) fun M24 => f11_steps_15_L125 n M24)
set_option maxRecDepth 8000 in
theorem k11_steps_15_L125 : ∀ (n : Nat) (M : cd_M), cd_R 165 125 [some (.ref 15), none] [] M (w_PV (f11_steps_15_L125 n M)) := by
  intro n
  induction n with
  | zero =>
    intro M
    exact q_none w_PV rfl
  | succ n ih =>
    intro M
    rw [f11_steps_15_L125]
    refine r_ld (.aload_n 0) 1 2 0 (.ref 15) rfl rfl rfl rfl 126 rfl ?_
    refine r_ld (.aload_n 0) 1 2 0 (.ref 15) rfl rfl rfl rfl 127 rfl ?_
    refine r_go (.getfield 107) 3 rfl rfl rfl 130 [.int (M.1 15 5), .ref 15] rfl ?_
    refine q_cI w_PV rfl (.invokevirtual 113) rfl rfl rfl 164 [.ref 15, .int (M.1 15 5)] [] rfl (k11_see_15 (M.1 15 5) M) (fun v21 => ?_)
    refine r_go (.i2l) 1 rfl rfl rfl 134 [.long (v21.toInt64)] rfl ?_
    refine r_go (.ldc2_w 123) 3 rfl rfl rfl 137 [.long (97), .long (v21.toInt64)] rfl ?_
    refine r_go (.ldc2_w 125) 3 rfl rfl rfl 140 [.long (122), .long (97), .long (v21.toInt64)] rfl ?_
    refine q_cTIz (.invokestatic 127) rfl rfl rfl 161 rfl [.long (v21.toInt64), .long (97), .long (122)] [] rfl (k11_within (v21.toInt64) 97 122 M) (fun z22 => ?_)
    refine q_br w_PV (.ifCond .eq 16) 3 rfl rfl rfl (f11_within (v21.toInt64) 97 122 M = 0) 159 146 [] rfl (fun _ => ?_) (fun _ => ?_)
    · refine r_ld (.aload_n 0) 1 2 0 (.ref 15) rfl rfl rfl rfl 160 rfl ?_
      refine q_const (.iconst 1) 1 rfl rfl rfl 161 (1) _ rfl cd_kj1 ?_
      refine q_wr w_PV (.putfield 117) 3 rfl rfl rfl 164 [] (cd_wI M 15 6 1) rfl (fun M23 => ?_)
      refine r_go (.goto 124) 3 rfl rfl rfl 288 [] rfl ?_
      exact r_ret .return_ 1 rfl rfl rfl _ rfl
    · refine r_ld (.aload_n 0) 1 2 0 (.ref 15) rfl rfl rfl rfl 147 rfl ?_
      refine r_go (.dup) 1 rfl rfl rfl 148 [.ref 15, .ref 15] rfl ?_
      refine r_go (.getfield 107) 3 rfl rfl rfl 151 [.int (M.1 15 5), .ref 15] rfl ?_
      refine q_const (.iconst 1) 1 rfl rfl rfl 152 (1) _ rfl cd_kj1 ?_
      refine r_go (.iadd) 1 rfl rfl rfl 153 [.int ((M.1 15 5) + 1), .ref 15] rfl ?_
      refine q_wr w_PV (.putfield 107) 3 rfl rfl rfl 156 [] (cd_wI M 15 5 ((M.1 15 5) + 1)) rfl (fun M24 => ?_)
      refine r_go (.goto (-31)) 3 rfl rfl rfl 125 [] rfl ?_
      exact r_w (ih M24) (cd_le_s (cd_le_n cd_le_0))
def f11_steps_15_L8 : Nat → cd_M → Option cd_M
  | 0, _ => none
  | n + 1, M => (f11_see_15 (M.1 15 4) M).bind fun v2 => if v2 = 32 then (f11_steps_15_L34 (f11_steps_15_L8 n) M) else ((f11_see_15 (M.1 15 4) M).bind fun v4 => if v4 = 10 then (f11_steps_15_L34 (f11_steps_15_L8 n) M) else ((f11_see_15 (M.1 15 4) M).bind fun v5 => cd_lt (cd_wI M 15 5 ((M.1 15 4) + 1)) fun M6 => cd_lt (cd_wI M6 15 6 4) fun M7 => cd_lt (cd_wI M7 15 7 0) fun M8 => if v5 = (-1) then (cd_lt (cd_wI M8 15 5 (M8.1 15 4)) fun M9 => cd_lt (cd_wI M9 15 6 0) fun M10 => some M10) else (if v5 = 59 then (cd_lt (cd_wI M8 15 6 3) fun M11 => some M11) else (if f11_within (v5.toInt64) 97 122 M8 = 0 then (if f11_within (v5.toInt64) 48 57 M8 = 0 then (some M8) else (cd_lt (cd_wI M8 15 5 (M8.1 15 4)) fun M14 => f11_steps_15_L189 cd_fu M14)) else (f11_steps_15_L125 cd_fu M8)))))
set_option maxRecDepth 8000 in
theorem k11_steps_15_L8 : ∀ (n : Nat) (M : cd_M), cd_R 165 8 [some (.ref 15), none] [] M (w_PV (f11_steps_15_L8 n M)) := by
  intro n
  induction n with
  | zero =>
    intro M
    exact q_none w_PV rfl
  | succ n ih =>
    intro M
    rw [f11_steps_15_L8]
    refine r_ld (.aload_n 0) 1 2 0 (.ref 15) rfl rfl rfl rfl 9 rfl ?_
    refine r_ld (.aload_n 0) 1 2 0 (.ref 15) rfl rfl rfl rfl 10 rfl ?_
    refine r_go (.getfield 110) 3 rfl rfl rfl 13 [.int (M.1 15 4), .ref 15] rfl ?_
    refine q_cI w_PV rfl (.invokevirtual 113) rfl rfl rfl 164 [.ref 15, .int (M.1 15 4)] [] rfl (k11_see_15 (M.1 15 4) M) (fun v2 => ?_)
    refine q_const (.bipush 32) 2 rfl rfl rfl 18 (32) _ rfl cd_kc32 ?_
    refine q_br w_PV (.if_icmp .eq 16) 3 rfl rfl rfl (v2 = 32) 34 21 [] rfl (fun _ => ?_) (fun _ => ?_)
    · exact r_w (k11_steps_15_L34 (f11_steps_15_L8 n) ih M) (cd_le_s (cd_le_n cd_le_0))
    · refine r_ld (.aload_n 0) 1 2 0 (.ref 15) rfl rfl rfl rfl 22 rfl ?_
      refine r_ld (.aload_n 0) 1 2 0 (.ref 15) rfl rfl rfl rfl 23 rfl ?_
      refine r_go (.getfield 110) 3 rfl rfl rfl 26 [.int (M.1 15 4), .ref 15] rfl ?_
      refine q_cI w_PV rfl (.invokevirtual 113) rfl rfl rfl 164 [.ref 15, .int (M.1 15 4)] [] rfl (k11_see_15 (M.1 15 4) M) (fun v4 => ?_)
      refine q_const (.bipush 10) 2 rfl rfl rfl 31 (10) _ rfl cd_kc10 ?_
      refine q_br w_PV (.if_icmp .ne 16) 3 rfl rfl rfl (v4 = 10) 34 47 [] rfl (fun _ => ?_) (fun _ => ?_)
      · exact r_w (k11_steps_15_L34 (f11_steps_15_L8 n) ih M) (cd_le_s (cd_le_n cd_le_0))
      · refine r_ld (.aload_n 0) 1 2 0 (.ref 15) rfl rfl rfl rfl 48 rfl ?_
        refine r_ld (.aload_n 0) 1 2 0 (.ref 15) rfl rfl rfl rfl 49 rfl ?_
        refine r_go (.getfield 110) 3 rfl rfl rfl 52 [.int (M.1 15 4), .ref 15] rfl ?_
        refine q_cI w_PV rfl (.invokevirtual 113) rfl rfl rfl 164 [.ref 15, .int (M.1 15 4)] [] rfl (k11_see_15 (M.1 15 4) M) (fun v5 => ?_)
        refine r_st (.istore_n 1) 1 0 1 rfl rfl rfl 56 rfl [some (.ref 15), some (.int (v5))] rfl ?_
        refine r_ld (.aload_n 0) 1 2 0 (.ref 15) rfl rfl rfl rfl 57 rfl ?_
        refine r_ld (.aload_n 0) 1 2 0 (.ref 15) rfl rfl rfl rfl 58 rfl ?_
        refine r_go (.getfield 110) 3 rfl rfl rfl 61 [.int (M.1 15 4), .ref 15] rfl ?_
        refine q_const (.iconst 1) 1 rfl rfl rfl 62 (1) _ rfl cd_kj1 ?_
        refine r_go (.iadd) 1 rfl rfl rfl 63 [.int ((M.1 15 4) + 1), .ref 15] rfl ?_
        refine q_wr w_PV (.putfield 107) 3 rfl rfl rfl 66 [] (cd_wI M 15 5 ((M.1 15 4) + 1)) rfl (fun M6 => ?_)
        refine r_ld (.aload_n 0) 1 2 0 (.ref 15) rfl rfl rfl rfl 67 rfl ?_
        refine q_const (.iconst 4) 1 rfl rfl rfl 68 (4) _ rfl cd_kj4 ?_
        refine q_wr w_PV (.putfield 117) 3 rfl rfl rfl 71 [] (cd_wI M6 15 6 4) rfl (fun M7 => ?_)
        refine r_ld (.aload_n 0) 1 2 0 (.ref 15) rfl rfl rfl rfl 72 rfl ?_
        refine q_const (.iconst 0) 1 rfl rfl rfl 73 (0) _ rfl cd_kj0 ?_
        refine q_wr w_PV (.putfield 120) 3 rfl rfl rfl 76 [] (cd_wI M7 15 7 0) rfl (fun M8 => ?_)
        refine r_ld (.iload_n 1) 1 0 1 (.int (v5)) rfl rfl rfl rfl 77 rfl ?_
        refine q_const (.iconst (-1)) 1 rfl rfl rfl 78 (-1) _ rfl cd_kjm1 ?_
        refine q_br w_PV (.if_icmp .ne 19) 3 rfl rfl rfl (v5 = (-1)) 81 97 [] rfl (fun _ => ?_) (fun _ => ?_)
        · refine r_ld (.aload_n 0) 1 2 0 (.ref 15) rfl rfl rfl rfl 82 rfl ?_
          refine r_ld (.aload_n 0) 1 2 0 (.ref 15) rfl rfl rfl rfl 83 rfl ?_
          refine r_go (.getfield 110) 3 rfl rfl rfl 86 [.int (M8.1 15 4), .ref 15] rfl ?_
          refine q_wr w_PV (.putfield 107) 3 rfl rfl rfl 89 [] (cd_wI M8 15 5 (M8.1 15 4)) rfl (fun M9 => ?_)
          refine r_ld (.aload_n 0) 1 2 0 (.ref 15) rfl rfl rfl rfl 90 rfl ?_
          refine q_const (.iconst 0) 1 rfl rfl rfl 91 (0) _ rfl cd_kj0 ?_
          refine q_wr w_PV (.putfield 117) 3 rfl rfl rfl 94 [] (cd_wI M9 15 6 0) rfl (fun M10 => ?_)
          refine r_go (.goto 194) 3 rfl rfl rfl 288 [] rfl ?_
          exact r_ret .return_ 1 rfl rfl rfl _ rfl
        · refine r_ld (.iload_n 1) 1 0 1 (.int (v5)) rfl rfl rfl rfl 98 rfl ?_
          refine q_const (.bipush 59) 2 rfl rfl rfl 100 (59) _ rfl cd_kc59 ?_
          refine q_br w_PV (.if_icmp .ne 11) 3 rfl rfl rfl (v5 = 59) 103 111 [] rfl (fun _ => ?_) (fun _ => ?_)
          · refine r_ld (.aload_n 0) 1 2 0 (.ref 15) rfl rfl rfl rfl 104 rfl ?_
            refine q_const (.iconst 3) 1 rfl rfl rfl 105 (3) _ rfl cd_kj3 ?_
            refine q_wr w_PV (.putfield 117) 3 rfl rfl rfl 108 [] (cd_wI M8 15 6 3) rfl (fun M11 => ?_)
            refine r_go (.goto 180) 3 rfl rfl rfl 288 [] rfl ?_
            exact r_ret .return_ 1 rfl rfl rfl _ rfl
          · refine r_ld (.iload_n 1) 1 0 1 (.int (v5)) rfl rfl rfl rfl 112 rfl ?_
            refine r_go (.i2l) 1 rfl rfl rfl 113 [.long (v5.toInt64)] rfl ?_
            refine r_go (.ldc2_w 123) 3 rfl rfl rfl 116 [.long (97), .long (v5.toInt64)] rfl ?_
            refine r_go (.ldc2_w 125) 3 rfl rfl rfl 119 [.long (122), .long (97), .long (v5.toInt64)] rfl ?_
            refine q_cTIz (.invokestatic 127) rfl rfl rfl 161 rfl [.long (v5.toInt64), .long (97), .long (122)] [] rfl (k11_within (v5.toInt64) 97 122 M8) (fun z12 => ?_)
            refine q_br w_PV (.ifCond .eq 45) 3 rfl rfl rfl (f11_within (v5.toInt64) 97 122 M8 = 0) 167 125 [] rfl (fun _ => ?_) (fun _ => ?_)
            · refine r_ld (.iload_n 1) 1 0 1 (.int (v5)) rfl rfl rfl rfl 168 rfl ?_
              refine r_go (.i2l) 1 rfl rfl rfl 169 [.long (v5.toInt64)] rfl ?_
              refine r_go (.ldc2_w 131) 3 rfl rfl rfl 172 [.long (48), .long (v5.toInt64)] rfl ?_
              refine r_go (.ldc2_w 133) 3 rfl rfl rfl 175 [.long (57), .long (48), .long (v5.toInt64)] rfl ?_
              refine q_cTIz (.invokestatic 127) rfl rfl rfl 161 rfl [.long (v5.toInt64), .long (48), .long (57)] [] rfl (k11_within (v5.toInt64) 48 57 M8) (fun z13 => ?_)
              refine q_br w_PV (.ifCond .eq 110) 3 rfl rfl rfl (f11_within (v5.toInt64) 48 57 M8 = 0) 288 181 [] rfl (fun _ => ?_) (fun _ => ?_)
              · exact r_ret .return_ 1 rfl rfl rfl _ rfl
              · refine r_ld (.aload_n 0) 1 2 0 (.ref 15) rfl rfl rfl rfl 182 rfl ?_
                refine r_ld (.aload_n 0) 1 2 0 (.ref 15) rfl rfl rfl rfl 183 rfl ?_
                refine r_go (.getfield 110) 3 rfl rfl rfl 186 [.int (M8.1 15 4), .ref 15] rfl ?_
                refine q_wr w_PV (.putfield 107) 3 rfl rfl rfl 189 [] (cd_wI M8 15 5 (M8.1 15 4)) rfl (fun M14 => ?_)
                exact r_w (k11_steps_15_L189 cd_fu M14) (cd_le_s (cd_le_n cd_le_0))
            · exact r_w (k11_steps_15_L125 cd_fu M8) (cd_le_s (cd_le_n cd_le_0))
def f11_steps_15 (M : cd_M) : Option cd_M := cd_lt (cd_wI M 15 4 (M.1 15 5)) fun M1 => f11_steps_15_L8 cd_fu M1
set_option maxRecDepth 8000 in
theorem k11_steps_15 (M : cd_M) : cd_R 165 0 [some (.ref 15), none] [] M (w_PV (f11_steps_15 M)) := by
  unfold f11_steps_15
  refine r_ld (.aload_n 0) 1 2 0 (.ref 15) rfl rfl rfl rfl 1 rfl ?_
  refine r_ld (.aload_n 0) 1 2 0 (.ref 15) rfl rfl rfl rfl 2 rfl ?_
  refine r_go (.getfield 107) 3 rfl rfl rfl 5 [.int (M.1 15 5), .ref 15] rfl ?_
  refine q_wr w_PV (.putfield 110) 3 rfl rfl rfl 8 [] (cd_wI M 15 4 (M.1 15 5)) rfl (fun M1 => ?_)
  exact r_w (k11_steps_15_L8 cd_fu M1) (cd_le_s (cd_le_n cd_le_0))
def f11_begins_15 (a1 : Int32) (M : cd_M) : Option cd_M := cd_lt (cd_wI M 15 2 0) fun M1 => cd_lt (cd_wI M1 15 3 a1) fun M2 => cd_lt (cd_wI M2 15 5 0) fun M3 => cd_lt (cd_wI M3 15 8 0) fun M4 => (f11_steps_15 M4).bind fun M5 => some M5
set_option maxRecDepth 8000 in
theorem k11_begins_15 (a1 : Int32) (M : cd_M) : cd_R 171 0 [some (.ref 15), some (.int (a1))] [] M (w_PV (f11_begins_15 a1 M)) := by
  unfold f11_begins_15
  refine r_ld (.aload_n 0) 1 2 0 (.ref 15) rfl rfl rfl rfl 1 rfl ?_
  refine q_const (.iconst 0) 1 rfl rfl rfl 2 (0) _ rfl cd_kj0 ?_
  refine q_wr w_PV (.putfield 98) 3 rfl rfl rfl 5 [] (cd_wI M 15 2 0) rfl (fun M1 => ?_)
  refine r_ld (.aload_n 0) 1 2 0 (.ref 15) rfl rfl rfl rfl 6 rfl ?_
  refine r_ld (.iload_n 1) 1 0 1 (.int (a1)) rfl rfl rfl rfl 7 rfl ?_
  refine q_wr w_PV (.putfield 104) 3 rfl rfl rfl 10 [] (cd_wI M1 15 3 a1) rfl (fun M2 => ?_)
  refine r_ld (.aload_n 0) 1 2 0 (.ref 15) rfl rfl rfl rfl 11 rfl ?_
  refine q_const (.iconst 0) 1 rfl rfl rfl 12 (0) _ rfl cd_kj0 ?_
  refine q_wr w_PV (.putfield 107) 3 rfl rfl rfl 15 [] (cd_wI M2 15 5 0) rfl (fun M3 => ?_)
  refine r_ld (.aload_n 0) 1 2 0 (.ref 15) rfl rfl rfl rfl 16 rfl ?_
  refine q_const (.iconst 0) 1 rfl rfl rfl 17 (0) _ rfl cd_kj0 ?_
  refine q_wr w_PV (.putfield 135) 3 rfl rfl rfl 20 [] (cd_wI M3 15 8 0) rfl (fun M4 => ?_)
  refine r_ld (.aload_n 0) 1 2 0 (.ref 15) rfl rfl rfl rfl 21 rfl ?_
  refine q_cV w_PV rfl (.invokevirtual 149) rfl rfl rfl 165 [.ref 15] [] rfl (k11_steps_15 M4) (fun M5 => ?_)
  exact r_ret .return_ 1 rfl rfl rfl _ rfl
def f11_isWord_15_L171 (a7 : Int32) (a8 : Int32) (M : cd_M) : Option (Int32) := if a8 < 7 then (some 1) else ((f11_see_15 ((M.1 15 4) + 6) M).bind fun v4 => if v4 = a7 then (some 1) else (some 0))
set_option maxRecDepth 8000 in
theorem k11_isWord_15_L171 (a7 : Int32) (a8 : Int32) (M : cd_M) : cd_R 167 171 [some (.ref 15), none, none, none, none, none, none, some (.int (a7)), some (.int (a8))] [] M ((w_PI M) (f11_isWord_15_L171 a7 a8 M)) := by
  unfold f11_isWord_15_L171
  refine r_ld (.iload 8) 2 0 8 (.int (a8)) rfl rfl rfl rfl 173 rfl ?_
  refine q_const (.bipush 7) 2 rfl rfl rfl 175 (7) _ rfl cd_kc7 ?_
  refine q_br (w_PI M) (.if_icmp .lt 19) 3 rfl rfl rfl (a8 < 7) 194 178 [] rfl (fun _ => ?_) (fun _ => ?_)
  · refine q_const (.iconst 1) 1 rfl rfl rfl 195 (1) _ rfl cd_kj1 ?_
    refine r_go (.goto 4) 3 rfl rfl rfl 199 [.int (1)] rfl ?_
    exact r_retZ rfl rfl (by decide)
  · refine r_ld (.aload_n 0) 1 2 0 (.ref 15) rfl rfl rfl rfl 179 rfl ?_
    refine r_ld (.aload_n 0) 1 2 0 (.ref 15) rfl rfl rfl rfl 180 rfl ?_
    refine r_go (.getfield 110) 3 rfl rfl rfl 183 [.int (M.1 15 4), .ref 15] rfl ?_
    refine q_const (.bipush 6) 2 rfl rfl rfl 185 (6) _ rfl cd_kc6 ?_
    refine r_go (.iadd) 1 rfl rfl rfl 186 [.int ((M.1 15 4) + 6), .ref 15] rfl ?_
    refine q_cI (w_PI M) rfl (.invokevirtual 113) rfl rfl rfl 164 [.ref 15, .int ((M.1 15 4) + 6)] [] rfl (k11_see_15 ((M.1 15 4) + 6) M) (fun v4 => ?_)
    refine r_ld (.iload 7) 2 0 7 (.int (a7)) rfl rfl rfl rfl 191 rfl ?_
    refine q_br (w_PI M) (.if_icmp .ne 7) 3 rfl rfl rfl (v4 = a7) 194 198 [] rfl (fun _ => ?_) (fun _ => ?_)
    · refine q_const (.iconst 1) 1 rfl rfl rfl 195 (1) _ rfl cd_kj1 ?_
      refine r_go (.goto 4) 3 rfl rfl rfl 199 [.int (1)] rfl ?_
      exact r_retZ rfl rfl (by decide)
    · refine q_const (.iconst 0) 1 rfl rfl rfl 199 (0) _ rfl cd_kj0 ?_
      exact r_retZ rfl rfl (by decide)
def f11_isWord_15_L149 (a6 : Int32) (a7 : Int32) (a8 : Int32) (M : cd_M) : Option (Int32) := if a8 < 6 then (f11_isWord_15_L171 a7 a8 M) else ((f11_see_15 ((M.1 15 4) + 5) M).bind fun v5 => if v5 = a6 then (f11_isWord_15_L171 a7 a8 M) else (some 0))
set_option maxRecDepth 8000 in
theorem k11_isWord_15_L149 (a6 : Int32) (a7 : Int32) (a8 : Int32) (M : cd_M) : cd_R 167 149 [some (.ref 15), none, none, none, none, none, some (.int (a6)), some (.int (a7)), some (.int (a8))] [] M ((w_PI M) (f11_isWord_15_L149 a6 a7 a8 M)) := by
  unfold f11_isWord_15_L149
  refine r_ld (.iload 8) 2 0 8 (.int (a8)) rfl rfl rfl rfl 151 rfl ?_
  refine q_const (.bipush 6) 2 rfl rfl rfl 153 (6) _ rfl cd_kc6 ?_
  refine q_br (w_PI M) (.if_icmp .lt 18) 3 rfl rfl rfl (a8 < 6) 171 156 [] rfl (fun _ => ?_) (fun _ => ?_)
  · exact r_w (k11_isWord_15_L171 a7 a8 M) (cd_le_s (cd_le_n (cd_le_n (cd_le_n (cd_le_n (cd_le_n (cd_le_n (cd_le_s (cd_le_s cd_le_0)))))))))
  · refine r_ld (.aload_n 0) 1 2 0 (.ref 15) rfl rfl rfl rfl 157 rfl ?_
    refine r_ld (.aload_n 0) 1 2 0 (.ref 15) rfl rfl rfl rfl 158 rfl ?_
    refine r_go (.getfield 110) 3 rfl rfl rfl 161 [.int (M.1 15 4), .ref 15] rfl ?_
    refine q_const (.iconst 5) 1 rfl rfl rfl 162 (5) _ rfl cd_kj5 ?_
    refine r_go (.iadd) 1 rfl rfl rfl 163 [.int ((M.1 15 4) + 5), .ref 15] rfl ?_
    refine q_cI (w_PI M) rfl (.invokevirtual 113) rfl rfl rfl 164 [.ref 15, .int ((M.1 15 4) + 5)] [] rfl (k11_see_15 ((M.1 15 4) + 5) M) (fun v5 => ?_)
    refine r_ld (.iload 6) 2 0 6 (.int (a6)) rfl rfl rfl rfl 168 rfl ?_
    refine q_br (w_PI M) (.if_icmp .ne 30) 3 rfl rfl rfl (v5 = a6) 171 198 [] rfl (fun _ => ?_) (fun _ => ?_)
    · exact r_w (k11_isWord_15_L171 a7 a8 M) (cd_le_s (cd_le_n (cd_le_n (cd_le_n (cd_le_n (cd_le_n (cd_le_n (cd_le_s (cd_le_s cd_le_0)))))))))
    · refine q_const (.iconst 0) 1 rfl rfl rfl 199 (0) _ rfl cd_kj0 ?_
      exact r_retZ rfl rfl (by decide)
def f11_isWord_15_L128 (a5 : Int32) (a6 : Int32) (a7 : Int32) (a8 : Int32) (M : cd_M) : Option (Int32) := if a8 < 5 then (f11_isWord_15_L149 a6 a7 a8 M) else ((f11_see_15 ((M.1 15 4) + 4) M).bind fun v6 => if v6 = a5 then (f11_isWord_15_L149 a6 a7 a8 M) else (some 0))
set_option maxRecDepth 8000 in
theorem k11_isWord_15_L128 (a5 : Int32) (a6 : Int32) (a7 : Int32) (a8 : Int32) (M : cd_M) : cd_R 167 128 [some (.ref 15), none, none, none, none, some (.int (a5)), some (.int (a6)), some (.int (a7)), some (.int (a8))] [] M ((w_PI M) (f11_isWord_15_L128 a5 a6 a7 a8 M)) := by
  unfold f11_isWord_15_L128
  refine r_ld (.iload 8) 2 0 8 (.int (a8)) rfl rfl rfl rfl 130 rfl ?_
  refine q_const (.iconst 5) 1 rfl rfl rfl 131 (5) _ rfl cd_kj5 ?_
  refine q_br (w_PI M) (.if_icmp .lt 18) 3 rfl rfl rfl (a8 < 5) 149 134 [] rfl (fun _ => ?_) (fun _ => ?_)
  · exact r_w (k11_isWord_15_L149 a6 a7 a8 M) (cd_le_s (cd_le_n (cd_le_n (cd_le_n (cd_le_n (cd_le_n (cd_le_s (cd_le_s (cd_le_s cd_le_0)))))))))
  · refine r_ld (.aload_n 0) 1 2 0 (.ref 15) rfl rfl rfl rfl 135 rfl ?_
    refine r_ld (.aload_n 0) 1 2 0 (.ref 15) rfl rfl rfl rfl 136 rfl ?_
    refine r_go (.getfield 110) 3 rfl rfl rfl 139 [.int (M.1 15 4), .ref 15] rfl ?_
    refine q_const (.iconst 4) 1 rfl rfl rfl 140 (4) _ rfl cd_kj4 ?_
    refine r_go (.iadd) 1 rfl rfl rfl 141 [.int ((M.1 15 4) + 4), .ref 15] rfl ?_
    refine q_cI (w_PI M) rfl (.invokevirtual 113) rfl rfl rfl 164 [.ref 15, .int ((M.1 15 4) + 4)] [] rfl (k11_see_15 ((M.1 15 4) + 4) M) (fun v6 => ?_)
    refine r_ld (.iload 5) 2 0 5 (.int (a5)) rfl rfl rfl rfl 146 rfl ?_
    refine q_br (w_PI M) (.if_icmp .ne 52) 3 rfl rfl rfl (v6 = a5) 149 198 [] rfl (fun _ => ?_) (fun _ => ?_)
    · exact r_w (k11_isWord_15_L149 a6 a7 a8 M) (cd_le_s (cd_le_n (cd_le_n (cd_le_n (cd_le_n (cd_le_n (cd_le_s (cd_le_s (cd_le_s cd_le_0)))))))))
    · refine q_const (.iconst 0) 1 rfl rfl rfl 199 (0) _ rfl cd_kj0 ?_
      exact r_retZ rfl rfl (by decide)
def f11_isWord_15_L49 (a1 : Int32) (a2 : Int32) (a3 : Int32) (a4 : Int32) (a5 : Int32) (a6 : Int32) (a7 : Int32) (s0 : Int32) (M : cd_M) : Option (Int32) := if (M.1 15 5) - (M.1 15 4) = s0 then ((f11_see_15 (M.1 15 4) M).bind fun v1 => if v1 = a1 then ((f11_see_15 ((M.1 15 4) + 1) M).bind fun v2 => if v2 = a2 then ((f11_see_15 ((M.1 15 4) + 2) M).bind fun v3 => if v3 = a3 then (if s0 < 4 then (f11_isWord_15_L128 a5 a6 a7 s0 M) else ((f11_see_15 ((M.1 15 4) + 3) M).bind fun v7 => if v7 = a4 then (f11_isWord_15_L128 a5 a6 a7 s0 M) else (some 0))) else (some 0)) else (some 0)) else (some 0)) else (some 0)
set_option maxRecDepth 8000 in
theorem k11_isWord_15_L49 (a1 : Int32) (a2 : Int32) (a3 : Int32) (a4 : Int32) (a5 : Int32) (a6 : Int32) (a7 : Int32) (s0 : Int32) (M : cd_M) : cd_R 167 49 [some (.ref 15), some (.int (a1)), some (.int (a2)), some (.int (a3)), some (.int (a4)), some (.int (a5)), some (.int (a6)), some (.int (a7)), none] [.int (s0)] M ((w_PI M) (f11_isWord_15_L49 a1 a2 a3 a4 a5 a6 a7 s0 M)) := by
  unfold f11_isWord_15_L49
  refine r_st (.istore 8) 2 0 8 rfl rfl rfl 51 rfl [some (.ref 15), some (.int (a1)), some (.int (a2)), some (.int (a3)), some (.int (a4)), some (.int (a5)), some (.int (a6)), some (.int (a7)), some (.int (s0))] rfl ?_
  refine r_ld (.aload_n 0) 1 2 0 (.ref 15) rfl rfl rfl rfl 52 rfl ?_
  refine r_go (.getfield 107) 3 rfl rfl rfl 55 [.int (M.1 15 5)] rfl ?_
  refine r_ld (.aload_n 0) 1 2 0 (.ref 15) rfl rfl rfl rfl 56 rfl ?_
  refine r_go (.getfield 110) 3 rfl rfl rfl 59 [.int (M.1 15 4), .int (M.1 15 5)] rfl ?_
  refine r_go (.isub) 1 rfl rfl rfl 60 [.int ((M.1 15 5) - (M.1 15 4))] rfl ?_
  refine r_ld (.iload 8) 2 0 8 (.int (s0)) rfl rfl rfl rfl 62 rfl ?_
  refine q_br (w_PI M) (.if_icmp .eq 5) 3 rfl rfl rfl ((M.1 15 5) - (M.1 15 4) = s0) 67 65 [] rfl (fun _ => ?_) (fun _ => ?_)
  · refine r_ld (.aload_n 0) 1 2 0 (.ref 15) rfl rfl rfl rfl 68 rfl ?_
    refine r_ld (.aload_n 0) 1 2 0 (.ref 15) rfl rfl rfl rfl 69 rfl ?_
    refine r_go (.getfield 110) 3 rfl rfl rfl 72 [.int (M.1 15 4), .ref 15] rfl ?_
    refine q_cI (w_PI M) rfl (.invokevirtual 113) rfl rfl rfl 164 [.ref 15, .int (M.1 15 4)] [] rfl (k11_see_15 (M.1 15 4) M) (fun v1 => ?_)
    refine r_ld (.iload_n 1) 1 0 1 (.int (a1)) rfl rfl rfl rfl 76 rfl ?_
    refine q_br (w_PI M) (.if_icmp .ne 122) 3 rfl rfl rfl (v1 = a1) 79 198 [] rfl (fun _ => ?_) (fun _ => ?_)
    · refine r_ld (.aload_n 0) 1 2 0 (.ref 15) rfl rfl rfl rfl 80 rfl ?_
      refine r_ld (.aload_n 0) 1 2 0 (.ref 15) rfl rfl rfl rfl 81 rfl ?_
      refine r_go (.getfield 110) 3 rfl rfl rfl 84 [.int (M.1 15 4), .ref 15] rfl ?_
      refine q_const (.iconst 1) 1 rfl rfl rfl 85 (1) _ rfl cd_kj1 ?_
      refine r_go (.iadd) 1 rfl rfl rfl 86 [.int ((M.1 15 4) + 1), .ref 15] rfl ?_
      refine q_cI (w_PI M) rfl (.invokevirtual 113) rfl rfl rfl 164 [.ref 15, .int ((M.1 15 4) + 1)] [] rfl (k11_see_15 ((M.1 15 4) + 1) M) (fun v2 => ?_)
      refine r_ld (.iload_n 2) 1 0 2 (.int (a2)) rfl rfl rfl rfl 90 rfl ?_
      refine q_br (w_PI M) (.if_icmp .ne 108) 3 rfl rfl rfl (v2 = a2) 93 198 [] rfl (fun _ => ?_) (fun _ => ?_)
      · refine r_ld (.aload_n 0) 1 2 0 (.ref 15) rfl rfl rfl rfl 94 rfl ?_
        refine r_ld (.aload_n 0) 1 2 0 (.ref 15) rfl rfl rfl rfl 95 rfl ?_
        refine r_go (.getfield 110) 3 rfl rfl rfl 98 [.int (M.1 15 4), .ref 15] rfl ?_
        refine q_const (.iconst 2) 1 rfl rfl rfl 99 (2) _ rfl cd_kj2 ?_
        refine r_go (.iadd) 1 rfl rfl rfl 100 [.int ((M.1 15 4) + 2), .ref 15] rfl ?_
        refine q_cI (w_PI M) rfl (.invokevirtual 113) rfl rfl rfl 164 [.ref 15, .int ((M.1 15 4) + 2)] [] rfl (k11_see_15 ((M.1 15 4) + 2) M) (fun v3 => ?_)
        refine r_ld (.iload_n 3) 1 0 3 (.int (a3)) rfl rfl rfl rfl 104 rfl ?_
        refine q_br (w_PI M) (.if_icmp .ne 94) 3 rfl rfl rfl (v3 = a3) 107 198 [] rfl (fun _ => ?_) (fun _ => ?_)
        · refine r_ld (.iload 8) 2 0 8 (.int (s0)) rfl rfl rfl rfl 109 rfl ?_
          refine q_const (.iconst 4) 1 rfl rfl rfl 110 (4) _ rfl cd_kj4 ?_
          refine q_br (w_PI M) (.if_icmp .lt 18) 3 rfl rfl rfl (s0 < 4) 128 113 [] rfl (fun _ => ?_) (fun _ => ?_)
          · exact r_w (k11_isWord_15_L128 a5 a6 a7 s0 M) (cd_le_s (cd_le_n (cd_le_n (cd_le_n (cd_le_n (cd_le_s (cd_le_s (cd_le_s (cd_le_s cd_le_0)))))))))
          · refine r_ld (.aload_n 0) 1 2 0 (.ref 15) rfl rfl rfl rfl 114 rfl ?_
            refine r_ld (.aload_n 0) 1 2 0 (.ref 15) rfl rfl rfl rfl 115 rfl ?_
            refine r_go (.getfield 110) 3 rfl rfl rfl 118 [.int (M.1 15 4), .ref 15] rfl ?_
            refine q_const (.iconst 3) 1 rfl rfl rfl 119 (3) _ rfl cd_kj3 ?_
            refine r_go (.iadd) 1 rfl rfl rfl 120 [.int ((M.1 15 4) + 3), .ref 15] rfl ?_
            refine q_cI (w_PI M) rfl (.invokevirtual 113) rfl rfl rfl 164 [.ref 15, .int ((M.1 15 4) + 3)] [] rfl (k11_see_15 ((M.1 15 4) + 3) M) (fun v7 => ?_)
            refine r_ld (.iload 4) 2 0 4 (.int (a4)) rfl rfl rfl rfl 125 rfl ?_
            refine q_br (w_PI M) (.if_icmp .ne 73) 3 rfl rfl rfl (v7 = a4) 128 198 [] rfl (fun _ => ?_) (fun _ => ?_)
            · exact r_w (k11_isWord_15_L128 a5 a6 a7 s0 M) (cd_le_s (cd_le_n (cd_le_n (cd_le_n (cd_le_n (cd_le_s (cd_le_s (cd_le_s (cd_le_s cd_le_0)))))))))
            · refine q_const (.iconst 0) 1 rfl rfl rfl 199 (0) _ rfl cd_kj0 ?_
              exact r_retZ rfl rfl (by decide)
        · refine q_const (.iconst 0) 1 rfl rfl rfl 199 (0) _ rfl cd_kj0 ?_
          exact r_retZ rfl rfl (by decide)
      · refine q_const (.iconst 0) 1 rfl rfl rfl 199 (0) _ rfl cd_kj0 ?_
        exact r_retZ rfl rfl (by decide)
    · refine q_const (.iconst 0) 1 rfl rfl rfl 199 (0) _ rfl cd_kj0 ?_
      exact r_retZ rfl rfl (by decide)
  · refine q_const (.iconst 0) 1 rfl rfl rfl 66 (0) _ rfl cd_kj0 ?_
    exact r_retZ rfl rfl (by decide)
def f11_isWord_15 (a1 : Int32) (a2 : Int32) (a3 : Int32) (a4 : Int32) (a5 : Int32) (a6 : Int32) (a7 : Int32) (M : cd_M) : Option (Int32) := if M.1 15 6 = 1 then (if a4 = 0 then (f11_isWord_15_L49 a1 a2 a3 a4 a5 a6 a7 3 M) else (if a5 = 0 then (f11_isWord_15_L49 a1 a2 a3 a4 a5 a6 a7 4 M) else (if a6 = 0 then (f11_isWord_15_L49 a1 a2 a3 a4 a5 a6 a7 5 M) else (if a7 = 0 then (f11_isWord_15_L49 a1 a2 a3 a4 a5 a6 a7 6 M) else (f11_isWord_15_L49 a1 a2 a3 a4 a5 a6 a7 7 M))))) else (some 0)
set_option maxRecDepth 8000 in
theorem k11_isWord_15 (a1 : Int32) (a2 : Int32) (a3 : Int32) (a4 : Int32) (a5 : Int32) (a6 : Int32) (a7 : Int32) (M : cd_M) : cd_R 167 0 [some (.ref 15), some (.int (a1)), some (.int (a2)), some (.int (a3)), some (.int (a4)), some (.int (a5)), some (.int (a6)), some (.int (a7)), none] [] M ((w_PI M) (f11_isWord_15 a1 a2 a3 a4 a5 a6 a7 M)) := by
  unfold f11_isWord_15
  refine r_ld (.aload_n 0) 1 2 0 (.ref 15) rfl rfl rfl rfl 1 rfl ?_
  refine r_go (.getfield 117) 3 rfl rfl rfl 4 [.int (M.1 15 6)] rfl ?_
  refine q_const (.iconst 1) 1 rfl rfl rfl 5 (1) _ rfl cd_kj1 ?_
  refine q_br (w_PI M) (.if_icmp .eq 5) 3 rfl rfl rfl (M.1 15 6 = 1) 10 8 [] rfl (fun _ => ?_) (fun _ => ?_)
  · refine r_ld (.iload 4) 2 0 4 (.int (a4)) rfl rfl rfl rfl 12 rfl ?_
    refine q_br (w_PI M) (.ifCond .ne 7) 3 rfl rfl rfl (a4 = 0) 15 19 [] rfl (fun _ => ?_) (fun _ => ?_)
    · refine q_const (.iconst 3) 1 rfl rfl rfl 16 (3) _ rfl cd_kj3 ?_
      refine r_go (.goto 33) 3 rfl rfl rfl 49 [.int (3)] rfl ?_
      exact r_w (k11_isWord_15_L49 a1 a2 a3 a4 a5 a6 a7 3 M) (cd_le_s (cd_le_s (cd_le_s (cd_le_s (cd_le_s (cd_le_s (cd_le_s (cd_le_s (cd_le_n cd_le_0)))))))))
    · refine r_ld (.iload 5) 2 0 5 (.int (a5)) rfl rfl rfl rfl 21 rfl ?_
      refine q_br (w_PI M) (.ifCond .ne 7) 3 rfl rfl rfl (a5 = 0) 24 28 [] rfl (fun _ => ?_) (fun _ => ?_)
      · refine q_const (.iconst 4) 1 rfl rfl rfl 25 (4) _ rfl cd_kj4 ?_
        refine r_go (.goto 24) 3 rfl rfl rfl 49 [.int (4)] rfl ?_
        exact r_w (k11_isWord_15_L49 a1 a2 a3 a4 a5 a6 a7 4 M) (cd_le_s (cd_le_s (cd_le_s (cd_le_s (cd_le_s (cd_le_s (cd_le_s (cd_le_s (cd_le_n cd_le_0)))))))))
      · refine r_ld (.iload 6) 2 0 6 (.int (a6)) rfl rfl rfl rfl 30 rfl ?_
        refine q_br (w_PI M) (.ifCond .ne 7) 3 rfl rfl rfl (a6 = 0) 33 37 [] rfl (fun _ => ?_) (fun _ => ?_)
        · refine q_const (.iconst 5) 1 rfl rfl rfl 34 (5) _ rfl cd_kj5 ?_
          refine r_go (.goto 15) 3 rfl rfl rfl 49 [.int (5)] rfl ?_
          exact r_w (k11_isWord_15_L49 a1 a2 a3 a4 a5 a6 a7 5 M) (cd_le_s (cd_le_s (cd_le_s (cd_le_s (cd_le_s (cd_le_s (cd_le_s (cd_le_s (cd_le_n cd_le_0)))))))))
        · refine r_ld (.iload 7) 2 0 7 (.int (a7)) rfl rfl rfl rfl 39 rfl ?_
          refine q_br (w_PI M) (.ifCond .ne 8) 3 rfl rfl rfl (a7 = 0) 42 47 [] rfl (fun _ => ?_) (fun _ => ?_)
          · refine q_const (.bipush 6) 2 rfl rfl rfl 44 (6) _ rfl cd_kc6 ?_
            refine r_go (.goto 5) 3 rfl rfl rfl 49 [.int (6)] rfl ?_
            exact r_w (k11_isWord_15_L49 a1 a2 a3 a4 a5 a6 a7 6 M) (cd_le_s (cd_le_s (cd_le_s (cd_le_s (cd_le_s (cd_le_s (cd_le_s (cd_le_s (cd_le_n cd_le_0)))))))))
          · refine q_const (.bipush 7) 2 rfl rfl rfl 49 (7) _ rfl cd_kc7 ?_
            exact r_w (k11_isWord_15_L49 a1 a2 a3 a4 a5 a6 a7 7 M) (cd_le_s (cd_le_s (cd_le_s (cd_le_s (cd_le_s (cd_le_s (cd_le_s (cd_le_s (cd_le_n cd_le_0)))))))))
  · refine q_const (.iconst 0) 1 rfl rfl rfl 9 (0) _ rfl cd_kj0 ?_
    exact r_retZ rfl rfl (by decide)
def f11_must_15_L24 (M : cd_M) : Int32 × cd_M := if M.1 15 8 = 0 then ((1, M)) else ((0, M))
set_option maxRecDepth 8000 in
theorem k11_must_15_L24 (M : cd_M) : cd_R 166 24 [some (.ref 15), none, none] [] M (w_TM (f11_must_15_L24 M)) := by
  unfold f11_must_15_L24
  refine r_ld (.aload_n 0) 1 2 0 (.ref 15) rfl rfl rfl rfl 25 rfl ?_
  refine r_go (.getfield 135) 3 rfl rfl rfl 28 [.int (M.1 15 8)] rfl ?_
  refine q_br w_TM (.ifCond .ne 7) 3 rfl rfl rfl (M.1 15 8 = 0) 31 35 [] rfl (fun _ => ?_) (fun _ => ?_)
  · refine q_const (.iconst 1) 1 rfl rfl rfl 32 (1) _ rfl cd_kj1 ?_
    refine r_go (.goto 4) 3 rfl rfl rfl 36 [.int (1)] rfl ?_
    exact r_retZ rfl rfl (by decide)
  · refine q_const (.iconst 0) 1 rfl rfl rfl 36 (0) _ rfl cd_kj0 ?_
    exact r_retZ rfl rfl (by decide)
def f11_must_15 (a1 : Int32) (a2 : Int32) (M : cd_M) : Int32 × cd_M := if M.1 15 8 = 0 then (if a1 = 0 then (cd_lt (cd_wI M 15 8 a2) fun M1 => cd_lt (cd_wI M1 15 9 (M1.1 15 4)) fun M2 => f11_must_15_L24 M2) else (f11_must_15_L24 M)) else (f11_must_15_L24 M)
set_option maxRecDepth 8000 in
theorem k11_must_15 (a1 : Int32) (a2 : Int32) (M : cd_M) : cd_R 166 0 [some (.ref 15), some (.int (a1)), some (.int (a2))] [] M (w_TM (f11_must_15 a1 a2 M)) := by
  unfold f11_must_15
  refine r_ld (.aload_n 0) 1 2 0 (.ref 15) rfl rfl rfl rfl 1 rfl ?_
  refine r_go (.getfield 135) 3 rfl rfl rfl 4 [.int (M.1 15 8)] rfl ?_
  refine q_br w_TM (.ifCond .ne 20) 3 rfl rfl rfl (M.1 15 8 = 0) 7 24 [] rfl (fun _ => ?_) (fun _ => ?_)
  · refine r_ld (.iload_n 1) 1 0 1 (.int (a1)) rfl rfl rfl rfl 8 rfl ?_
    refine q_br w_TM (.ifCond .ne 16) 3 rfl rfl rfl (a1 = 0) 11 24 [] rfl (fun _ => ?_) (fun _ => ?_)
    · refine r_ld (.aload_n 0) 1 2 0 (.ref 15) rfl rfl rfl rfl 12 rfl ?_
      refine r_ld (.iload_n 2) 1 0 2 (.int (a2)) rfl rfl rfl rfl 13 rfl ?_
      refine q_wr w_TM (.putfield 135) 3 rfl rfl rfl 16 [] (cd_wI M 15 8 a2) rfl (fun M1 => ?_)
      refine r_ld (.aload_n 0) 1 2 0 (.ref 15) rfl rfl rfl rfl 17 rfl ?_
      refine r_ld (.aload_n 0) 1 2 0 (.ref 15) rfl rfl rfl rfl 18 rfl ?_
      refine r_go (.getfield 110) 3 rfl rfl rfl 21 [.int (M1.1 15 4), .ref 15] rfl ?_
      refine q_wr w_TM (.putfield 138) 3 rfl rfl rfl 24 [] (cd_wI M1 15 9 (M1.1 15 4)) rfl (fun M2 => ?_)
      exact r_w (k11_must_15_L24 M2) (cd_le_s (cd_le_n (cd_le_n cd_le_0)))
    · exact r_w (k11_must_15_L24 M) (cd_le_s (cd_le_n (cd_le_n cd_le_0)))
  · exact r_w (k11_must_15_L24 M) (cd_le_s (cd_le_n (cd_le_n cd_le_0)))
def f11_takesNumber_15_L14 (a1 : Int32) (a2 : Int32) (s0 : Int32) (M : cd_M) : Option (Int32 × cd_M) := cd_lt (f11_must_15 s0 1 M) (cd_u2 fun v2 M1 => if v2 = 0 then (some (0, M1)) else (cd_lt (f11_must_15 (f11_within ((M1.1 15 7 : Int32).toInt64) (a1.toInt64) (a2.toInt64) M1) 2 M1) (cd_u2 fun v7 M6 => if v7 = 0 then (some (0, M6)) else (cd_lt (cd_wI M6 15 10 (M6.1 15 7)) fun M10 => (f11_steps_15 M10).bind fun M11 => some (1, M11)))))
set_option maxRecDepth 8000 in
theorem k11_takesNumber_15_L14 (a1 : Int32) (a2 : Int32) (s0 : Int32) (M : cd_M) : cd_R 170 14 [some (.ref 15), some (.int (a1)), some (.int (a2))] [.int (s0), .ref 15] M (w_PM (f11_takesNumber_15_L14 a1 a2 s0 M)) := by
  unfold f11_takesNumber_15_L14
  refine q_const (.iconst 1) 1 rfl rfl rfl 15 (1) _ rfl cd_kj1 ?_
  refine q_cTMz w_PM (.invokevirtual 145) rfl rfl rfl 166 rfl [.ref 15, .int (s0), .int (1)] [] rfl (k11_must_15 s0 1 M) (fun v2 M1 z3 => ?_)
  refine q_br w_PM (.ifCond .eq 23) 3 rfl rfl rfl (v2 = 0) 41 21 [] rfl (fun _ => ?_) (fun _ => ?_)
  · refine q_const (.iconst 0) 1 rfl rfl rfl 42 (0) _ rfl cd_kj0 ?_
    exact r_retZ rfl rfl (by decide)
  · refine r_ld (.aload_n 0) 1 2 0 (.ref 15) rfl rfl rfl rfl 22 rfl ?_
    refine r_ld (.aload_n 0) 1 2 0 (.ref 15) rfl rfl rfl rfl 23 rfl ?_
    refine r_go (.getfield 120) 3 rfl rfl rfl 26 [.int (M1.1 15 7), .ref 15] rfl ?_
    refine r_go (.i2l) 1 rfl rfl rfl 27 [.long ((M1.1 15 7 : Int32).toInt64), .ref 15] rfl ?_
    refine r_ld (.iload_n 1) 1 0 1 (.int (a1)) rfl rfl rfl rfl 28 rfl ?_
    refine r_go (.i2l) 1 rfl rfl rfl 29 [.long (a1.toInt64), .long ((M1.1 15 7 : Int32).toInt64), .ref 15] rfl ?_
    refine r_ld (.iload_n 2) 1 0 2 (.int (a2)) rfl rfl rfl rfl 30 rfl ?_
    refine r_go (.i2l) 1 rfl rfl rfl 31 [.long (a2.toInt64), .long (a1.toInt64), .long ((M1.1 15 7 : Int32).toInt64), .ref 15] rfl ?_
    refine q_cTIz (.invokestatic 127) rfl rfl rfl 161 rfl [.long ((M1.1 15 7 : Int32).toInt64), .long (a1.toInt64), .long (a2.toInt64)] [.ref 15] rfl (k11_within ((M1.1 15 7 : Int32).toInt64) (a1.toInt64) (a2.toInt64) M1) (fun z5 => ?_)
    refine q_const (.iconst 2) 1 rfl rfl rfl 35 (2) _ rfl cd_kj2 ?_
    refine q_cTMz w_PM (.invokevirtual 145) rfl rfl rfl 166 rfl [.ref 15, .int (f11_within ((M1.1 15 7 : Int32).toInt64) (a1.toInt64) (a2.toInt64) M1), .int (2)] [] rfl (k11_must_15 (f11_within ((M1.1 15 7 : Int32).toInt64) (a1.toInt64) (a2.toInt64) M1) 2 M1) (fun v7 M6 z8 => ?_)
    refine q_br w_PM (.ifCond .ne 5) 3 rfl rfl rfl (v7 = 0) 41 43 [] rfl (fun _ => ?_) (fun _ => ?_)
    · refine q_const (.iconst 0) 1 rfl rfl rfl 42 (0) _ rfl cd_kj0 ?_
      exact r_retZ rfl rfl (by decide)
    · refine r_ld (.aload_n 0) 1 2 0 (.ref 15) rfl rfl rfl rfl 44 rfl ?_
      refine r_ld (.aload_n 0) 1 2 0 (.ref 15) rfl rfl rfl rfl 45 rfl ?_
      refine r_go (.getfield 120) 3 rfl rfl rfl 48 [.int (M6.1 15 7), .ref 15] rfl ?_
      refine q_wr w_PM (.putfield 152) 3 rfl rfl rfl 51 [] (cd_wI M6 15 10 (M6.1 15 7)) rfl (fun M10 => ?_)
      refine r_ld (.aload_n 0) 1 2 0 (.ref 15) rfl rfl rfl rfl 52 rfl ?_
      refine q_cV w_PM rfl (.invokevirtual 149) rfl rfl rfl 165 [.ref 15] [] rfl (k11_steps_15 M10) (fun M11 => ?_)
      refine q_const (.iconst 1) 1 rfl rfl rfl 56 (1) _ rfl cd_kj1 ?_
      exact r_retZ rfl rfl (by decide)
def f11_takesNumber_15 (a1 : Int32) (a2 : Int32) (M : cd_M) : Option (Int32 × cd_M) := if M.1 15 6 = 2 then (f11_takesNumber_15_L14 a1 a2 1 M) else (f11_takesNumber_15_L14 a1 a2 0 M)
set_option maxRecDepth 8000 in
theorem k11_takesNumber_15 (a1 : Int32) (a2 : Int32) (M : cd_M) : cd_R 170 0 [some (.ref 15), some (.int (a1)), some (.int (a2))] [] M (w_PM (f11_takesNumber_15 a1 a2 M)) := by
  unfold f11_takesNumber_15
  refine r_ld (.aload_n 0) 1 2 0 (.ref 15) rfl rfl rfl rfl 1 rfl ?_
  refine r_ld (.aload_n 0) 1 2 0 (.ref 15) rfl rfl rfl rfl 2 rfl ?_
  refine r_go (.getfield 117) 3 rfl rfl rfl 5 [.int (M.1 15 6), .ref 15] rfl ?_
  refine q_const (.iconst 2) 1 rfl rfl rfl 6 (2) _ rfl cd_kj2 ?_
  refine q_br w_PM (.if_icmp .ne 7) 3 rfl rfl rfl (M.1 15 6 = 2) 9 13 [.ref 15] rfl (fun _ => ?_) (fun _ => ?_)
  · refine q_const (.iconst 1) 1 rfl rfl rfl 10 (1) _ rfl cd_kj1 ?_
    refine r_go (.goto 4) 3 rfl rfl rfl 14 [.int (1), .ref 15] rfl ?_
    exact r_w (k11_takesNumber_15_L14 a1 a2 1 M) (cd_le_s (cd_le_s (cd_le_s cd_le_0)))
  · refine q_const (.iconst 0) 1 rfl rfl rfl 14 (0) _ rfl cd_kj0 ?_
    exact r_w (k11_takesNumber_15_L14 a1 a2 0 M) (cd_le_s (cd_le_s (cd_le_s cd_le_0)))
