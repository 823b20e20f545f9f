def f9_follow_11_9_7_6_L96 (r30 : Int32 → Int32 → cd_M → Option cd_M) (a4 : Int32) (a5 : Int32) (a6 : Int32) (M : cd_M) : Option cd_M := (f9_addField_11_10 a4 a6 M).bind fun M6 => (f9_putPrice_11_7_6 a5 M6).bind fun M7 => cd_lt (a5 + (1)) fun x8 => r30 a4 x8 M7
set_option maxRecDepth 8000 in
theorem k9_follow_11_9_7_6_L96 (r30 : Int32 → Int32 → cd_M → Option cd_M) (h30 : ∀ (a4 : Int32) (a5 : Int32) (M : cd_M), cd_R 112 30 [some (.ref 11), some (.ref 9), some (.ref 7), some (.ref 6), some (.int (a4)), some (.int (a5)), none] [] M (w_PV (r30 a4 a5 M))) (a4 : Int32) (a5 : Int32) (a6 : Int32) (M : cd_M) : cd_R 112 96 [some (.ref 11), some (.ref 9), some (.ref 7), some (.ref 6), some (.int (a4)), some (.int (a5)), some (.int (a6))] [] M (w_PV (f9_follow_11_9_7_6_L96 r30 a4 a5 a6 M)) := by
  unfold f9_follow_11_9_7_6_L96
  refine r_ld (.aload_n 0) 1 2 0 (.ref 11) rfl rfl rfl rfl 97 rfl ?_
  refine r_ld (.aload_n 1) 1 2 1 (.ref 9) rfl rfl rfl rfl 98 rfl ?_
  refine q_cTR (.invokevirtual 59) rfl rfl rfl 0 [.ref 9] [.ref 11] rfl (k0_states_9 M) ?_
  refine r_ld (.iload 4) 2 0 4 (.int (a4)) rfl rfl rfl rfl 103 rfl ?_
  refine r_ld (.iload 6) 2 0 6 (.int (a6)) rfl rfl rfl rfl 105 rfl ?_
  refine q_cV w_PV rfl (.invokevirtual 68) rfl rfl rfl 113 [.ref 11, .ref 10, .int (a4), .int (a6)] [] rfl (k9_addField_11_10 a4 a6 M) (fun M6 => ?_)
  refine r_ld (.aload_n 0) 1 2 0 (.ref 11) rfl rfl rfl rfl 109 rfl ?_
  refine r_ld (.aload_n 2) 1 2 2 (.ref 7) rfl rfl rfl rfl 110 rfl ?_
  refine r_ld (.aload_n 3) 1 2 3 (.ref 6) rfl rfl rfl rfl 111 rfl ?_
  refine r_ld (.iload 5) 2 0 5 (.int (a5)) rfl rfl rfl rfl 113 rfl ?_
  refine q_cV w_PV rfl (.invokevirtual 72) rfl rfl rfl 114 [.ref 11, .ref 7, .ref 6, .int (a5)] [] rfl (k9_putPrice_11_7_6 a5 M6) (fun M7 => ?_)
  refine q_inc w_PV 5 (1) (a5) rfl rfl rfl 119 rfl (1) cd_kj1 (fun x8 => [some (.ref 11), some (.ref 9), some (.ref 7), some (.ref 6), some (.int (a4)), some (.int (x8)), some (.int (a6))]) (fun _ => rfl) (fun x8 => ?_)
  refine r_go (.goto (-89)) 3 rfl rfl rfl 30 [] rfl ?_
  exact r_w (h30 a4 x8 M7) (cd_le_s (cd_le_s (cd_le_s (cd_le_s (cd_le_s (cd_le_s (cd_le_n cd_le_0)))))))
def f9_follow_11_9_7_6_L62 (r30 : Int32 → Int32 → cd_M → Option cd_M) (a4 : Int32) (a5 : Int32) (s0 : Int32) (M : cd_M) : Option cd_M := if s0 = 0 then (if a5 ≤ 0 then (f9_follow_11_9_7_6_L96 r30 a4 a5 s0 M) else ((f6_next_10 a4 M).bind fun v9 => f9_follow_11_9_7_6_L96 r30 v9 a5 s0 M)) else ((f0_entry_9 a5 M).bind fun v10 => f9_follow_11_9_7_6_L96 r30 v10 a5 s0 M)
set_option maxRecDepth 8000 in
theorem k9_follow_11_9_7_6_L62 (r30 : Int32 → Int32 → cd_M → Option cd_M) (h30 : ∀ (a4 : Int32) (a5 : Int32) (M : cd_M), cd_R 112 30 [some (.ref 11), some (.ref 9), some (.ref 7), some (.ref 6), some (.int (a4)), some (.int (a5)), none] [] M (w_PV (r30 a4 a5 M))) (a4 : Int32) (a5 : Int32) (s0 : Int32) (M : cd_M) : cd_R 112 62 [some (.ref 11), some (.ref 9), some (.ref 7), some (.ref 6), some (.int (a4)), some (.int (a5)), none] [.int (s0)] M (w_PV (f9_follow_11_9_7_6_L62 r30 a4 a5 s0 M)) := by
  unfold f9_follow_11_9_7_6_L62
  refine r_st (.istore 6) 2 0 6 rfl rfl rfl 64 rfl [some (.ref 11), some (.ref 9), some (.ref 7), some (.ref 6), some (.int (a4)), some (.int (a5)), some (.int (s0))] rfl ?_
  refine r_ld (.iload 6) 2 0 6 (.int (s0)) rfl rfl rfl rfl 66 rfl ?_
  refine q_br w_PV (.ifCond .eq 14) 3 rfl rfl rfl (s0 = 0) 80 69 [] rfl (fun _ => ?_) (fun _ => ?_)
  · refine r_ld (.iload 5) 2 0 5 (.int (a5)) rfl rfl rfl rfl 82 rfl ?_
    refine q_br w_PV (.ifCond .le 14) 3 rfl rfl rfl (a5 ≤ 0) 96 85 [] rfl (fun _ => ?_) (fun _ => ?_)
    · exact r_w (k9_follow_11_9_7_6_L96 r30 h30 a4 a5 s0 M) (cd_le_s (cd_le_s (cd_le_s (cd_le_s (cd_le_s (cd_le_s (cd_le_s cd_le_0)))))))
    · refine r_ld (.aload_n 1) 1 2 1 (.ref 9) rfl rfl rfl rfl 86 rfl ?_
      refine q_cTR (.invokevirtual 59) rfl rfl rfl 0 [.ref 9] [] rfl (k0_states_9 M) ?_
      refine r_ld (.iload 4) 2 0 4 (.int (a4)) rfl rfl rfl rfl 91 rfl ?_
      refine q_cI w_PV rfl (.invokevirtual 63) rfl rfl rfl 73 [.ref 10, .int (a4)] [] rfl (k6_next_10 a4 M) (fun v9 => ?_)
      refine r_st (.istore 4) 2 0 4 rfl rfl rfl 96 rfl [some (.ref 11), some (.ref 9), some (.ref 7), some (.ref 6), some (.int (v9)), some (.int (a5)), some (.int (s0))] rfl ?_
      exact r_w (k9_follow_11_9_7_6_L96 r30 h30 v9 a5 s0 M) (cd_le_s (cd_le_s (cd_le_s (cd_le_s (cd_le_s (cd_le_s (cd_le_s cd_le_0)))))))
  · refine r_ld (.aload_n 1) 1 2 1 (.ref 9) rfl rfl rfl rfl 70 rfl ?_
    refine r_ld (.iload 5) 2 0 5 (.int (a5)) rfl rfl rfl rfl 72 rfl ?_
    refine q_cI w_PV rfl (.invokevirtual 44) rfl rfl rfl 5 [.ref 9, .int (a5)] [] rfl (k0_entry_9 a5 M) (fun v10 => ?_)
    refine r_st (.istore 4) 2 0 4 rfl rfl rfl 77 rfl [some (.ref 11), some (.ref 9), some (.ref 7), some (.ref 6), some (.int (v10)), some (.int (a5)), some (.int (s0))] rfl ?_
    refine r_go (.goto 19) 3 rfl rfl rfl 96 [] rfl ?_
    exact r_w (k9_follow_11_9_7_6_L96 r30 h30 v10 a5 s0 M) (cd_le_s (cd_le_s (cd_le_s (cd_le_s (cd_le_s (cd_le_s (cd_le_s cd_le_0)))))))
def f9_follow_11_9_7_6_L61 (r30 : Int32 → Int32 → cd_M → Option cd_M) (a4 : Int32) (a5 : Int32) (M : cd_M) : Option cd_M := f9_follow_11_9_7_6_L62 r30 a4 a5 0 M
set_option maxRecDepth 8000 in
theorem k9_follow_11_9_7_6_L61 (r30 : Int32 → Int32 → cd_M → Option cd_M) (h30 : ∀ (a4 : Int32) (a5 : Int32) (M : cd_M), cd_R 112 30 [some (.ref 11), some (.ref 9), some (.ref 7), some (.ref 6), some (.int (a4)), some (.int (a5)), none] [] M (w_PV (r30 a4 a5 M))) (a4 : Int32) (a5 : Int32) (M : cd_M) : cd_R 112 61 [some (.ref 11), some (.ref 9), some (.ref 7), some (.ref 6), some (.int (a4)), some (.int (a5)), none] [] M (w_PV (f9_follow_11_9_7_6_L61 r30 a4 a5 M)) := by
  unfold f9_follow_11_9_7_6_L61
  refine q_const (.iconst 0) 1 rfl rfl rfl 62 (0) _ rfl cd_kj0 ?_
  exact r_w (k9_follow_11_9_7_6_L62 r30 h30 a4 a5 0 M) (cd_le_s (cd_le_s (cd_le_s (cd_le_s (cd_le_s (cd_le_s (cd_le_n cd_le_0)))))))
def f9_follow_11_9_7_6_L30 : Nat → Int32 → Int32 → cd_M → Option cd_M
  | 0, _, _, _ => none
  | n + 1, a4, a5, M => if f4_size_7 M ≤ a5 then (some M) else (if a5 ≤ 0 then (f9_follow_11_9_7_6_L61 (f9_follow_11_9_7_6_L30 n) a4 a5 M) else ((f0_goesOn_9 (a5 - 1) a4 M).bind fun v11 => if v11 = 0 then (f9_follow_11_9_7_6_L62 (f9_follow_11_9_7_6_L30 n) a4 a5 1 M) else (f9_follow_11_9_7_6_L61 (f9_follow_11_9_7_6_L30 n) a4 a5 M)))
set_option maxRecDepth 8000 in
theorem k9_follow_11_9_7_6_L30 : ∀ (n : Nat) (a4 : Int32) (a5 : Int32) (M : cd_M), cd_R 112 30 [some (.ref 11), some (.ref 9), some (.ref 7), some (.ref 6), some (.int (a4)), some (.int (a5)), none] [] M (w_PV (f9_follow_11_9_7_6_L30 n a4 a5 M)) := by
  intro n
  induction n with
  | zero =>
    intro a4 a5 M
    exact q_none w_PV rfl
  | succ n ih =>
    intro a4 a5 M
    rw [f9_follow_11_9_7_6_L30]
    refine r_ld (.iload 5) 2 0 5 (.int (a5)) rfl rfl rfl rfl 32 rfl ?_
    refine r_ld (.aload_n 2) 1 2 2 (.ref 7) rfl rfl rfl rfl 33 rfl ?_
    refine q_cTI (.invokevirtual 50) rfl rfl rfl 41 [.ref 7] [.int (a5)] rfl (k4_size_7 M) ?_
    refine q_br w_PV (.if_icmp .ge 86) 3 rfl rfl rfl (f4_size_7 M ≤ a5) 122 39 [] rfl (fun _ => ?_) (fun _ => ?_)
    · exact r_ret .return_ 1 rfl rfl rfl _ rfl
    · refine r_ld (.iload 5) 2 0 5 (.int (a5)) rfl rfl rfl rfl 41 rfl ?_
      refine q_br w_PV (.ifCond .le 20) 3 rfl rfl rfl (a5 ≤ 0) 61 44 [] rfl (fun _ => ?_) (fun _ => ?_)
      · exact r_w (k9_follow_11_9_7_6_L61 (f9_follow_11_9_7_6_L30 n) ih a4 a5 M) (cd_le_s (cd_le_s (cd_le_s (cd_le_s (cd_le_s (cd_le_s (cd_le_n cd_le_0)))))))
      · refine r_ld (.aload_n 1) 1 2 1 (.ref 9) rfl rfl rfl rfl 45 rfl ?_
        refine r_ld (.iload 5) 2 0 5 (.int (a5)) rfl rfl rfl rfl 47 rfl ?_
        refine q_const (.iconst 1) 1 rfl rfl rfl 48 (1) _ rfl cd_kj1 ?_
        refine r_go (.isub) 1 rfl rfl rfl 49 [.int (a5 - 1), .ref 9] rfl ?_
        refine r_ld (.iload 4) 2 0 4 (.int (a4)) rfl rfl rfl rfl 51 rfl ?_
        refine q_cIz w_PV rfl (.invokevirtual 55) rfl rfl rfl 6 rfl [.ref 9, .int (a5 - 1), .int (a4)] [] rfl (k0_goesOn_9 (a5 - 1) a4 M) (fun v11 z12 => ?_)
        refine q_br w_PV (.ifCond .ne 7) 3 rfl rfl rfl (v11 = 0) 57 61 [] rfl (fun _ => ?_) (fun _ => ?_)
        · refine q_const (.iconst 1) 1 rfl rfl rfl 58 (1) _ rfl cd_kj1 ?_
          refine r_go (.goto 4) 3 rfl rfl rfl 62 [.int (1)] rfl ?_
          exact r_w (k9_follow_11_9_7_6_L62 (f9_follow_11_9_7_6_L30 n) ih a4 a5 1 M) (cd_le_s (cd_le_s (cd_le_s (cd_le_s (cd_le_s (cd_le_s (cd_le_n cd_le_0)))))))
        · exact r_w (k9_follow_11_9_7_6_L61 (f9_follow_11_9_7_6_L30 n) ih a4 a5 M) (cd_le_s (cd_le_s (cd_le_s (cd_le_s (cd_le_s (cd_le_s (cd_le_n cd_le_0)))))))
def f9_follow_11_9_7_6 (M : cd_M) : Option cd_M := cd_lt (cd_wI M 11 6 0) fun M1 => cd_lt (cd_wI M1 11 7 0) fun M2 => cd_lt (cd_wI M2 11 8 0) fun M3 => cd_lt (cd_wI M3 11 9 0) fun M4 => (f0_entry_9 0 M4).bind fun v5 => f9_follow_11_9_7_6_L30 cd_fu v5 0 M4
set_option maxRecDepth 8000 in
theorem k9_follow_11_9_7_6 (M : cd_M) : cd_R 112 0 [some (.ref 11), some (.ref 9), some (.ref 7), some (.ref 6), none, none, none] [] M (w_PV (f9_follow_11_9_7_6 M)) := by
  unfold f9_follow_11_9_7_6
  refine r_ld (.aload_n 0) 1 2 0 (.ref 11) rfl rfl rfl rfl 1 rfl ?_
  refine q_const (.iconst 0) 1 rfl rfl rfl 2 (0) _ rfl cd_kj0 ?_
  refine q_wr w_PV (.putfield 31) 3 rfl rfl rfl 5 [] (cd_wI M 11 6 0) rfl (fun M1 => ?_)
  refine r_ld (.aload_n 0) 1 2 0 (.ref 11) rfl rfl rfl rfl 6 rfl ?_
  refine q_const (.iconst 0) 1 rfl rfl rfl 7 (0) _ rfl cd_kj0 ?_
  refine q_wr w_PV (.putfield 35) 3 rfl rfl rfl 10 [] (cd_wI M1 11 7 0) rfl (fun M2 => ?_)
  refine r_ld (.aload_n 0) 1 2 0 (.ref 11) rfl rfl rfl rfl 11 rfl ?_
  refine q_const (.iconst 0) 1 rfl rfl rfl 12 (0) _ rfl cd_kj0 ?_
  refine q_wr w_PV (.putfield 38) 3 rfl rfl rfl 15 [] (cd_wI M2 11 8 0) rfl (fun M3 => ?_)
  refine r_ld (.aload_n 0) 1 2 0 (.ref 11) rfl rfl rfl rfl 16 rfl ?_
  refine q_const (.iconst 0) 1 rfl rfl rfl 17 (0) _ rfl cd_kj0 ?_
  refine q_wr w_PV (.putfield 41) 3 rfl rfl rfl 20 [] (cd_wI M3 11 9 0) rfl (fun M4 => ?_)
  refine r_ld (.aload_n 1) 1 2 1 (.ref 9) rfl rfl rfl rfl 21 rfl ?_
  refine q_const (.iconst 0) 1 rfl rfl rfl 22 (0) _ rfl cd_kj0 ?_
  refine q_cI w_PV rfl (.invokevirtual 44) rfl rfl rfl 5 [.ref 9, .int (0)] [] rfl (k0_entry_9 0 M4) (fun v5 => ?_)
  refine r_st (.istore 4) 2 0 4 rfl rfl rfl 27 rfl [some (.ref 11), some (.ref 9), some (.ref 7), some (.ref 6), some (.int (v5)), none, none] rfl ?_
  refine q_const (.iconst 0) 1 rfl rfl rfl 28 (0) _ rfl cd_kj0 ?_
  refine r_st (.istore 5) 2 0 5 rfl rfl rfl 30 rfl [some (.ref 11), some (.ref 9), some (.ref 7), some (.ref 6), some (.int (v5)), some (.int (0)), none] rfl ?_
  exact r_w (k9_follow_11_9_7_6_L30 cd_fu v5 0 M4) (cd_le_s (cd_le_s (cd_le_s (cd_le_s (cd_le_s (cd_le_s (cd_le_n cd_le_0)))))))
def f2_has_12 (a1 : Int32) (M : cd_M) : Int32 := if a1 < 0 then (0) else (if M.1 12 6 ≤ a1 then (0) else (1))
set_option maxRecDepth 8000 in
theorem k2_has_12 (a1 : Int32) (M : cd_M) : cd_R 26 0 [some (.ref 12), some (.int (a1))] [] M ((w_TI M) (f2_has_12 a1 M)) := by
  unfold f2_has_12
  refine r_ld (.iload_n 1) 1 0 1 (.int (a1)) rfl rfl rfl rfl 1 rfl ?_
  refine q_br (w_TI M) (.ifCond .lt 15) 3 rfl rfl rfl (a1 < 0) 16 4 [] rfl (fun _ => ?_) (fun _ => ?_)
  · refine q_const (.iconst 0) 1 rfl rfl rfl 17 (0) _ rfl cd_kj0 ?_
    exact r_retZ rfl rfl (by decide)
  · refine r_ld (.iload_n 1) 1 0 1 (.int (a1)) rfl rfl rfl rfl 5 rfl ?_
    refine r_ld (.aload_n 0) 1 2 0 (.ref 12) rfl rfl rfl rfl 6 rfl ?_
    refine r_go (.getfield 36) 3 rfl rfl rfl 9 [.int (M.1 12 6), .int (a1)] rfl ?_
    refine q_br (w_TI M) (.if_icmp .ge 7) 3 rfl rfl rfl (M.1 12 6 ≤ a1) 16 12 [] rfl (fun _ => ?_) (fun _ => ?_)
    · refine q_const (.iconst 0) 1 rfl rfl rfl 17 (0) _ rfl cd_kj0 ?_
      exact r_retZ rfl rfl (by decide)
    · refine q_const (.iconst 1) 1 rfl rfl rfl 13 (1) _ rfl cd_kj1 ?_
      refine r_go (.goto 4) 3 rfl rfl rfl 17 [.int (1)] rfl ?_
      exact r_retZ rfl rfl (by decide)
def f2_isOrphan_12 (a1 : Int32) (M : cd_M) : Option (Int32) := if f2_has_12 a1 M = 0 then (some 0) else (if cd_in a1 90 = true then (if M.1 51 a1.toNatClampNeg = 1 then (some 1) else (some 0)) else none)
set_option maxRecDepth 8000 in
theorem k2_isOrphan_12 (a1 : Int32) (M : cd_M) : cd_R 35 0 [some (.ref 12), some (.int (a1))] [] M ((w_PI M) (f2_isOrphan_12 a1 M)) := by
  unfold f2_isOrphan_12
  refine r_ld (.aload_n 0) 1 2 0 (.ref 12) rfl rfl rfl rfl 1 rfl ?_
  refine r_ld (.iload_n 1) 1 0 1 (.int (a1)) rfl rfl rfl rfl 2 rfl ?_
  refine q_cTIz (.invokevirtual 104) rfl rfl rfl 26 rfl [.ref 12, .int (a1)] [] rfl (k2_has_12 a1 M) (fun z1 => ?_)
  refine q_br (w_PI M) (.ifCond .eq 17) 3 rfl rfl rfl (f2_has_12 a1 M = 0) 22 8 [] rfl (fun _ => ?_) (fun _ => ?_)
  · refine q_const (.iconst 0) 1 rfl rfl rfl 23 (0) _ rfl cd_kj0 ?_
    exact r_retZ rfl rfl (by decide)
  · refine r_ld (.aload_n 0) 1 2 0 (.ref 12) rfl rfl rfl rfl 9 rfl ?_
    refine r_go (.getfield 18) 3 rfl rfl rfl 12 [.ref 51] rfl ?_
    refine r_ld (.iload_n 1) 1 0 1 (.int (a1)) rfl rfl rfl rfl 13 rfl ?_
    refine q_iald (w_PI M) rfl rfl 51 90 rfl ?_
    refine q_const (.iconst 1) 1 rfl rfl rfl 15 (1) _ rfl cd_kj1 ?_
    refine q_br (w_PI M) (.if_icmp .ne 7) 3 rfl rfl rfl (M.1 51 a1.toNatClampNeg = 1) 18 22 [] rfl (fun _ => ?_) (fun _ => ?_)
    · refine q_const (.iconst 1) 1 rfl rfl rfl 19 (1) _ rfl cd_kj1 ?_
      refine r_go (.goto 4) 3 rfl rfl rfl 23 [.int (1)] rfl ?_
      exact r_retZ rfl rfl (by decide)
    · refine q_const (.iconst 0) 1 rfl rfl rfl 23 (0) _ rfl cd_kj0 ?_
      exact r_retZ rfl rfl (by decide)
def f2_canMate_12_7_6 (a1 : Int32) (M : cd_M) : Option (Int32) := (f2_isOrphan_12 a1 M).bind fun v1 => if v1 = 0 then (some 0) else (if cd_in a1 90 = true then (if M.1 52 a1.toNatClampNeg = (-1) then ((f2_isOrphan_12 (a1 + 1) M).bind fun v3 => if v3 = 0 then (some 0) else (if cd_in a1 90 = true then (cd_lt (M.1 50 a1.toNatClampNeg) fun x5 => if cd_in (a1 + 1) 90 = true then (cd_lt (M.1 50 (a1 + 1 : Int32).toNatClampNeg) fun x6 => (f4_parity_7 x5 M).bind fun v7 => (f4_parity_7 x6 M).bind fun v8 => if v7 = v8 then (some 0) else ((f4_row_7 x5 M).bind fun v9 => (f4_row_7 x6 M).bind fun v10 => (f5_distance_6 v9 v10 M).bind fun v11 => (f5_value_6 3 M).bind fun v12 => if v12 < v11 then (some 0) else (some 1))) else none) else none)) else (some 0)) else none)
set_option maxRecDepth 8000 in
theorem k2_canMate_12_7_6 (a1 : Int32) (M : cd_M) : cd_R 22 0 [some (.ref 12), some (.int (a1)), some (.ref 7), some (.ref 6), none, none] [] M ((w_PI M) (f2_canMate_12_7_6 a1 M)) := by
  unfold f2_canMate_12_7_6
  refine r_ld (.aload_n 0) 1 2 0 (.ref 12) rfl rfl rfl rfl 1 rfl ?_
  refine r_ld (.iload_n 1) 1 0 1 (.int (a1)) rfl rfl rfl rfl 2 rfl ?_
  refine q_cIz (w_PI M) rfl (.invokevirtual 69) rfl rfl rfl 35 rfl [.ref 12, .int (a1)] [] rfl (k2_isOrphan_12 a1 M) (fun v1 z2 => ?_)
  refine q_br (w_PI M) (.ifCond .eq 23) 3 rfl rfl rfl (v1 = 0) 28 8 [] rfl (fun _ => ?_) (fun _ => ?_)
  · refine q_const (.iconst 0) 1 rfl rfl rfl 29 (0) _ rfl cd_kj0 ?_
    exact r_retZ rfl rfl (by decide)
  · refine r_ld (.aload_n 0) 1 2 0 (.ref 12) rfl rfl rfl rfl 9 rfl ?_
    refine r_go (.getfield 21) 3 rfl rfl rfl 12 [.ref 52] rfl ?_
    refine r_ld (.iload_n 1) 1 0 1 (.int (a1)) rfl rfl rfl rfl 13 rfl ?_
    refine q_iald (w_PI M) rfl rfl 52 90 rfl ?_
    refine q_const (.iconst (-1)) 1 rfl rfl rfl 15 (-1) _ rfl cd_kjm1 ?_
    refine q_br (w_PI M) (.if_icmp .ne 13) 3 rfl rfl rfl (M.1 52 a1.toNatClampNeg = (-1)) 18 28 [] rfl (fun _ => ?_) (fun _ => ?_)
    · refine r_ld (.aload_n 0) 1 2 0 (.ref 12) rfl rfl rfl rfl 19 rfl ?_
      refine r_ld (.iload_n 1) 1 0 1 (.int (a1)) rfl rfl rfl rfl 20 rfl ?_
      refine q_const (.iconst 1) 1 rfl rfl rfl 21 (1) _ rfl cd_kj1 ?_
      refine r_go (.iadd) 1 rfl rfl rfl 22 [.int (a1 + 1), .ref 12] rfl ?_
      refine q_cIz (w_PI M) rfl (.invokevirtual 69) rfl rfl rfl 35 rfl [.ref 12, .int (a1 + 1)] [] rfl (k2_isOrphan_12 (a1 + 1) M) (fun v3 z4 => ?_)
      refine q_br (w_PI M) (.ifCond .ne 5) 3 rfl rfl rfl (v3 = 0) 28 30 [] rfl (fun _ => ?_) (fun _ => ?_)
      · refine q_const (.iconst 0) 1 rfl rfl rfl 29 (0) _ rfl cd_kj0 ?_
        exact r_retZ rfl rfl (by decide)
      · refine r_ld (.aload_n 0) 1 2 0 (.ref 12) rfl rfl rfl rfl 31 rfl ?_
        refine r_go (.getfield 15) 3 rfl rfl rfl 34 [.ref 50] rfl ?_
        refine r_ld (.iload_n 1) 1 0 1 (.int (a1)) rfl rfl rfl rfl 35 rfl ?_
        refine q_iald (w_PI M) rfl rfl 50 90 rfl ?_
        refine q_stB (w_PI M) (.istore 4) 2 0 4 rfl rfl (fun _ => rfl) 38 rfl (fun x5 => [some (.ref 12), some (.int (a1)), some (.ref 7), some (.ref 6), some (.int (x5)), none]) (fun _ => rfl) (fun x5 => ?_)
        refine r_ld (.aload_n 0) 1 2 0 (.ref 12) rfl rfl rfl rfl 39 rfl ?_
        refine r_go (.getfield 15) 3 rfl rfl rfl 42 [.ref 50] rfl ?_
        refine r_ld (.iload_n 1) 1 0 1 (.int (a1)) rfl rfl rfl rfl 43 rfl ?_
        refine q_const (.iconst 1) 1 rfl rfl rfl 44 (1) _ rfl cd_kj1 ?_
        refine r_go (.iadd) 1 rfl rfl rfl 45 [.int (a1 + 1), .ref 50] rfl ?_
        refine q_iald (w_PI M) rfl rfl 50 90 rfl ?_
        refine q_stB (w_PI M) (.istore 5) 2 0 5 rfl rfl (fun _ => rfl) 48 rfl (fun x6 => [some (.ref 12), some (.int (a1)), some (.ref 7), some (.ref 6), some (.int (x5)), some (.int (x6))]) (fun _ => rfl) (fun x6 => ?_)
        refine r_ld (.aload_n 2) 1 2 2 (.ref 7) rfl rfl rfl rfl 49 rfl ?_
        refine r_ld (.iload 4) 2 0 4 (.int (x5)) rfl rfl rfl rfl 51 rfl ?_
        refine q_cI (w_PI M) rfl (.invokevirtual 77) rfl rfl rfl 46 [.ref 7, .int (x5)] [] rfl (k4_parity_7 x5 M) (fun v7 => ?_)
        refine r_ld (.aload_n 2) 1 2 2 (.ref 7) rfl rfl rfl rfl 55 rfl ?_
        refine r_ld (.iload 5) 2 0 5 (.int (x6)) rfl rfl rfl rfl 57 rfl ?_
        refine q_cI (w_PI M) rfl (.invokevirtual 77) rfl rfl rfl 46 [.ref 7, .int (x6)] [.int (v7)] rfl (k4_parity_7 x6 M) (fun v8 => ?_)
        refine q_br (w_PI M) (.if_icmp .eq 31) 3 rfl rfl rfl (v7 = v8) 91 63 [] rfl (fun _ => ?_) (fun _ => ?_)
        · refine q_const (.iconst 0) 1 rfl rfl rfl 92 (0) _ rfl cd_kj0 ?_
          exact r_retZ rfl rfl (by decide)
        · refine r_ld (.aload_n 3) 1 2 3 (.ref 6) rfl rfl rfl rfl 64 rfl ?_
          refine r_ld (.aload_n 2) 1 2 2 (.ref 7) rfl rfl rfl rfl 65 rfl ?_
          refine r_ld (.iload 4) 2 0 4 (.int (x5)) rfl rfl rfl rfl 67 rfl ?_
          refine q_cL (w_PI M) rfl (.invokevirtual 80) rfl rfl rfl 45 [.ref 7, .int (x5)] [.ref 6] rfl (k4_row_7 x5 M) (fun v9 => ?_)
          refine r_ld (.aload_n 2) 1 2 2 (.ref 7) rfl rfl rfl rfl 71 rfl ?_
          refine r_ld (.iload 5) 2 0 5 (.int (x6)) rfl rfl rfl rfl 73 rfl ?_
          refine q_cL (w_PI M) rfl (.invokevirtual 80) rfl rfl rfl 45 [.ref 7, .int (x6)] [.long (v9), .ref 6] rfl (k4_row_7 x6 M) (fun v10 => ?_)
          refine q_cI (w_PI M) rfl (.invokevirtual 84) rfl rfl rfl 66 [.ref 6, .long (v9), .long (v10)] [] rfl (k5_distance_6 v9 v10 M) (fun v11 => ?_)
          refine r_ld (.aload_n 3) 1 2 3 (.ref 6) rfl rfl rfl rfl 80 rfl ?_
          refine q_const (.iconst 3) 1 rfl rfl rfl 81 (3) _ rfl cd_kj3 ?_
          refine q_cI (w_PI M) rfl (.invokevirtual 90) rfl rfl rfl 65 [.ref 6, .int (3)] [.int (v11)] rfl (k5_value_6 3 M) (fun v12 => ?_)
          refine q_br (w_PI M) (.if_icmp .gt 7) 3 rfl rfl rfl (v12 < v11) 91 87 [] rfl (fun _ => ?_) (fun _ => ?_)
          · refine q_const (.iconst 0) 1 rfl rfl rfl 92 (0) _ rfl cd_kj0 ?_
            exact r_retZ rfl rfl (by decide)
          · refine q_const (.iconst 1) 1 rfl rfl rfl 88 (1) _ rfl cd_kj1 ?_
            refine r_go (.goto 4) 3 rfl rfl rfl 92 [.int (1)] rfl ?_
            exact r_retZ rfl rfl (by decide)
    · refine q_const (.iconst 0) 1 rfl rfl rfl 29 (0) _ rfl cd_kj0 ?_
      exact r_retZ rfl rfl (by decide)
def f2_mateOrphans_12_7_6_L80 (r12 : Int32 → cd_M → Option cd_M) (a3 : Int32) (M : cd_M) : Option cd_M := cd_lt (a3 + (1)) fun x8 => r12 x8 M
set_option maxRecDepth 8000 in
theorem k2_mateOrphans_12_7_6_L80 (r12 : Int32 → cd_M → Option cd_M) (h12 : ∀ (a3 : Int32) (M : cd_M), cd_R 21 12 [some (.ref 12), some (.ref 7), some (.ref 6), some (.int (a3))] [] M (w_PV (r12 a3 M))) (a3 : Int32) (M : cd_M) : cd_R 21 80 [some (.ref 12), some (.ref 7), some (.ref 6), some (.int (a3))] [] M (w_PV (f2_mateOrphans_12_7_6_L80 r12 a3 M)) := by
  unfold f2_mateOrphans_12_7_6_L80
  refine q_inc w_PV 3 (1) (a3) rfl rfl rfl 83 rfl (1) cd_kj1 (fun x8 => [some (.ref 12), some (.ref 7), some (.ref 6), some (.int (x8))]) (fun _ => rfl) (fun x8 => ?_)
  refine r_go (.goto (-71)) 3 rfl rfl rfl 12 [] rfl ?_
  exact r_w (h12 x8 M) (cd_le_s (cd_le_s (cd_le_s (cd_le_s cd_le_0))))
def f2_mateOrphans_12_7_6_L38 (r12 : Int32 → cd_M → Option cd_M) (a3 : Int32) (s0 : Int32) (s1 : Int32) (M : cd_M) : Option cd_M := cd_lt (cd_wI M 12 7 (s1 + s0)) fun M5 => (f2_canMate_12_7_6 a3 M5).bind fun v6 => if v6 = 0 then (f2_mateOrphans_12_7_6_L80 r12 a3 M5) else (if cd_in a3 90 = true then (cd_lt (cd_wI M5 52 a3.toNatClampNeg (a3 + 1)) fun M9 => if cd_in (a3 + 1) 90 = true then (cd_lt (cd_wI M9 52 (a3 + 1 : Int32).toNatClampNeg a3) fun M10 => cd_lt (cd_wI M10 12 8 ((M10.1 12 8) + 1)) fun M11 => f2_mateOrphans_12_7_6_L80 r12 a3 M11) else none) else none)
set_option maxRecDepth 8000 in
theorem k2_mateOrphans_12_7_6_L38 (r12 : Int32 → cd_M → Option cd_M) (h12 : ∀ (a3 : Int32) (M : cd_M), cd_R 21 12 [some (.ref 12), some (.ref 7), some (.ref 6), some (.int (a3))] [] M (w_PV (r12 a3 M))) (a3 : Int32) (s0 : Int32) (s1 : Int32) (M : cd_M) : cd_R 21 38 [some (.ref 12), some (.ref 7), some (.ref 6), some (.int (a3))] [.int (s0), .int (s1), .ref 12] M (w_PV (f2_mateOrphans_12_7_6_L38 r12 a3 s0 s1 M)) := by
  unfold f2_mateOrphans_12_7_6_L38
  refine r_go (.iadd) 1 rfl rfl rfl 39 [.int (s1 + s0), .ref 12] rfl ?_
  refine q_wr w_PV (.putfield 40) 3 rfl rfl rfl 42 [] (cd_wI M 12 7 (s1 + s0)) rfl (fun M5 => ?_)
  refine r_ld (.aload_n 0) 1 2 0 (.ref 12) rfl rfl rfl rfl 43 rfl ?_
  refine r_ld (.iload_n 3) 1 0 3 (.int (a3)) rfl rfl rfl rfl 44 rfl ?_
  refine r_ld (.aload_n 1) 1 2 1 (.ref 7) rfl rfl rfl rfl 45 rfl ?_
  refine r_ld (.aload_n 2) 1 2 2 (.ref 6) rfl rfl rfl rfl 46 rfl ?_
  refine q_cIz w_PV rfl (.invokevirtual 73) rfl rfl rfl 22 rfl [.ref 12, .int (a3), .ref 7, .ref 6] [] rfl (k2_canMate_12_7_6 a3 M5) (fun v6 z7 => ?_)
  refine q_br w_PV (.ifCond .eq 31) 3 rfl rfl rfl (v6 = 0) 80 52 [] rfl (fun _ => ?_) (fun _ => ?_)
  · exact r_w (k2_mateOrphans_12_7_6_L80 r12 h12 a3 M5) (cd_le_s (cd_le_s (cd_le_s (cd_le_s cd_le_0))))
  · refine r_ld (.aload_n 0) 1 2 0 (.ref 12) rfl rfl rfl rfl 53 rfl ?_
    refine r_go (.getfield 21) 3 rfl rfl rfl 56 [.ref 52] rfl ?_
    refine r_ld (.iload_n 3) 1 0 3 (.int (a3)) rfl rfl rfl rfl 57 rfl ?_
    refine r_ld (.iload_n 3) 1 0 3 (.int (a3)) rfl rfl rfl rfl 58 rfl ?_
    refine q_const (.iconst 1) 1 rfl rfl rfl 59 (1) _ rfl cd_kj1 ?_
    refine r_go (.iadd) 1 rfl rfl rfl 60 [.int (a3 + 1), .int (a3), .ref 52] rfl ?_
    refine q_iast w_PV rfl rfl 52 90 rfl (fun M9 => ?_)
    refine r_ld (.aload_n 0) 1 2 0 (.ref 12) rfl rfl rfl rfl 62 rfl ?_
    refine r_go (.getfield 21) 3 rfl rfl rfl 65 [.ref 52] rfl ?_
    refine r_ld (.iload_n 3) 1 0 3 (.int (a3)) rfl rfl rfl rfl 66 rfl ?_
    refine q_const (.iconst 1) 1 rfl rfl rfl 67 (1) _ rfl cd_kj1 ?_
    refine r_go (.iadd) 1 rfl rfl rfl 68 [.int (a3 + 1), .ref 52] rfl ?_
    refine r_ld (.iload_n 3) 1 0 3 (.int (a3)) rfl rfl rfl rfl 69 rfl ?_
    refine q_iast w_PV rfl rfl 52 90 rfl (fun M10 => ?_)
    refine r_ld (.aload_n 0) 1 2 0 (.ref 12) rfl rfl rfl rfl 71 rfl ?_
    refine r_go (.dup) 1 rfl rfl rfl 72 [.ref 12, .ref 12] rfl ?_
    refine r_go (.getfield 43) 3 rfl rfl rfl 75 [.int (M10.1 12 8), .ref 12] rfl ?_
    refine q_const (.iconst 1) 1 rfl rfl rfl 76 (1) _ rfl cd_kj1 ?_
    refine r_go (.iadd) 1 rfl rfl rfl 77 [.int ((M10.1 12 8) + 1), .ref 12] rfl ?_
    refine q_wr w_PV (.putfield 43) 3 rfl rfl rfl 80 [] (cd_wI M10 12 8 ((M10.1 12 8) + 1)) rfl (fun M11 => ?_)
    exact r_w (k2_mateOrphans_12_7_6_L80 r12 h12 a3 M11) (cd_le_s (cd_le_s (cd_le_s (cd_le_s cd_le_0))))
def f2_mateOrphans_12_7_6_L12 : Nat → Int32 → cd_M → Option cd_M
  | 0, _, _ => none
  | n + 1, a3, M => if M.1 12 6 ≤ a3 then (some M) else ((f2_isOrphan_12 a3 M).bind fun v3 => if v3 = 0 then (f2_mateOrphans_12_7_6_L38 (f2_mateOrphans_12_7_6_L12 n) a3 0 (M.1 12 7) M) else (f2_mateOrphans_12_7_6_L38 (f2_mateOrphans_12_7_6_L12 n) a3 1 (M.1 12 7) M))
set_option maxRecDepth 8000 in
theorem k2_mateOrphans_12_7_6_L12 : ∀ (n : Nat) (a3 : Int32) (M : cd_M), cd_R 21 12 [some (.ref 12), some (.ref 7), some (.ref 6), some (.int (a3))] [] M (w_PV (f2_mateOrphans_12_7_6_L12 n a3 M)) := by
  intro n
  induction n with
  | zero =>
    intro a3 M
    exact q_none w_PV rfl
  | succ n ih =>
    intro a3 M
    rw [f2_mateOrphans_12_7_6_L12]
    refine r_ld (.iload_n 3) 1 0 3 (.int (a3)) rfl rfl rfl rfl 13 rfl ?_
    refine r_ld (.aload_n 0) 1 2 0 (.ref 12) rfl rfl rfl rfl 14 rfl ?_
    refine r_go (.getfield 36) 3 rfl rfl rfl 17 [.int (M.1 12 6), .int (a3)] rfl ?_
    refine q_br w_PV (.if_icmp .ge 69) 3 rfl rfl rfl (M.1 12 6 ≤ a3) 86 20 [] rfl (fun _ => ?_) (fun _ => ?_)
    · exact r_ret .return_ 1 rfl rfl rfl _ rfl
    · refine r_ld (.aload_n 0) 1 2 0 (.ref 12) rfl rfl rfl rfl 21 rfl ?_
      refine r_go (.dup) 1 rfl rfl rfl 22 [.ref 12, .ref 12] rfl ?_
      refine r_go (.getfield 40) 3 rfl rfl rfl 25 [.int (M.1 12 7), .ref 12] rfl ?_
      refine r_ld (.aload_n 0) 1 2 0 (.ref 12) rfl rfl rfl rfl 26 rfl ?_
      refine r_ld (.iload_n 3) 1 0 3 (.int (a3)) rfl rfl rfl rfl 27 rfl ?_
      refine q_cIz w_PV rfl (.invokevirtual 69) rfl rfl rfl 35 rfl [.ref 12, .int (a3)] [.int (M.1 12 7), .ref 12] rfl (k2_isOrphan_12 a3 M) (fun v3 z4 => ?_)
      refine q_br w_PV (.ifCond .eq 7) 3 rfl rfl rfl (v3 = 0) 37 33 [.int (M.1 12 7), .ref 12] rfl (fun _ => ?_) (fun _ => ?_)
      · refine q_const (.iconst 0) 1 rfl rfl rfl 38 (0) _ rfl cd_kj0 ?_
        exact r_w (k2_mateOrphans_12_7_6_L38 (f2_mateOrphans_12_7_6_L12 n) ih a3 0 (M.1 12 7) M) (cd_le_s (cd_le_s (cd_le_s (cd_le_s cd_le_0))))
      · refine q_const (.iconst 1) 1 rfl rfl rfl 34 (1) _ rfl cd_kj1 ?_
        refine r_go (.goto 4) 3 rfl rfl rfl 38 [.int (1), .int (M.1 12 7), .ref 12] rfl ?_
        exact r_w (k2_mateOrphans_12_7_6_L38 (f2_mateOrphans_12_7_6_L12 n) ih a3 1 (M.1 12 7) M) (cd_le_s (cd_le_s (cd_le_s (cd_le_s cd_le_0))))
def f2_mateOrphans_12_7_6 (M : cd_M) : Option cd_M := cd_lt (cd_wI M 12 7 0) fun M1 => cd_lt (cd_wI M1 12 8 0) fun M2 => f2_mateOrphans_12_7_6_L12 cd_fu 0 M2
set_option maxRecDepth 8000 in
theorem k2_mateOrphans_12_7_6 (M : cd_M) : cd_R 21 0 [some (.ref 12), some (.ref 7), some (.ref 6), none] [] M (w_PV (f2_mateOrphans_12_7_6 M)) := by
  unfold f2_mateOrphans_12_7_6
  refine r_ld (.aload_n 0) 1 2 0 (.ref 12) rfl rfl rfl rfl 1 rfl ?_
  refine q_const (.iconst 0) 1 rfl rfl rfl 2 (0) _ rfl cd_kj0 ?_
  refine q_wr w_PV (.putfield 40) 3 rfl rfl rfl 5 [] (cd_wI M 12 7 0) rfl (fun M1 => ?_)
  refine r_ld (.aload_n 0) 1 2 0 (.ref 12) rfl rfl rfl rfl 6 rfl ?_
  refine q_const (.iconst 0) 1 rfl rfl rfl 7 (0) _ rfl cd_kj0 ?_
  refine q_wr w_PV (.putfield 43) 3 rfl rfl rfl 10 [] (cd_wI M1 12 8 0) rfl (fun M2 => ?_)
  refine q_const (.iconst 0) 1 rfl rfl rfl 11 (0) _ rfl cd_kj0 ?_
  refine r_st (.istore_n 3) 1 0 3 rfl rfl rfl 12 rfl [some (.ref 12), some (.ref 7), some (.ref 6), some (.int (0))] rfl ?_
  exact r_w (k2_mateOrphans_12_7_6_L12 cd_fu 0 M2) (cd_le_s (cd_le_s (cd_le_s (cd_le_s cd_le_0))))
def f1_begin_13 (a1 : Int32) (M : cd_M) : cd_M := cd_lt (cd_wI M 13 2 a1) fun M1 => cd_lt (cd_wI M1 13 3 0) fun M2 => M2
set_option maxRecDepth 8000 in
theorem k1_begin_13 (a1 : Int32) (M : cd_M) : cd_R 11 0 [some (.ref 13), some (.int (a1))] [] M (w_TV (f1_begin_13 a1 M)) := by
  unfold f1_begin_13
  refine r_ld (.aload_n 0) 1 2 0 (.ref 13) rfl rfl rfl rfl 1 rfl ?_
  refine r_ld (.iload_n 1) 1 0 1 (.int (a1)) rfl rfl rfl rfl 2 rfl ?_
  refine q_wr w_TV (.putfield 7) 3 rfl rfl rfl 5 [] (cd_wI M 13 2 a1) rfl (fun M1 => ?_)
  refine r_ld (.aload_n 0) 1 2 0 (.ref 13) rfl rfl rfl rfl 6 rfl ?_
  refine q_const (.iconst 0) 1 rfl rfl rfl 7 (0) _ rfl cd_kj0 ?_
  refine q_wr w_TV (.putfield 13) 3 rfl rfl rfl 10 [] (cd_wI M1 13 3 0) rfl (fun M2 => ?_)
  exact r_ret .return_ 1 rfl rfl rfl _ rfl
def f1_size_13 (M : cd_M) : Int32 := (M.1 13 3)
set_option maxRecDepth 8000 in
theorem k1_size_13 (M : cd_M) : cd_R 13 0 [some (.ref 13)] [] M ((w_TI M) (f1_size_13 M)) := by
  unfold f1_size_13
  refine r_ld (.aload_n 0) 1 2 0 (.ref 13) rfl rfl rfl rfl 1 rfl ?_
  refine r_go (.getfield 13) 3 rfl rfl rfl 4 [.int (M.1 13 3)] rfl ?_
  exact r_ret .ireturn 1 rfl rfl rfl _ rfl
def f2_partner_12 (a1 : Int32) (M : cd_M) : Option (Int32) := (f2_isOrphan_12 a1 M).bind fun v1 => if v1 = 0 then (if cd_in a1 90 = true then (some ((M.1 50 a1.toNatClampNeg) + 1)) else none) else (if cd_in a1 90 = true then (if f2_has_12 (M.1 52 a1.toNatClampNeg) M = 0 then (if cd_in a1 90 = true then (some (M.1 50 a1.toNatClampNeg)) else none) else (if cd_in a1 90 = true then (if cd_in (M.1 52 a1.toNatClampNeg) 90 = true then (some (M.1 50 (M.1 52 a1.toNatClampNeg : Int32).toNatClampNeg)) else none) else none)) else none)
set_option maxRecDepth 8000 in
theorem k2_partner_12 (a1 : Int32) (M : cd_M) : cd_R 24 0 [some (.ref 12), some (.int (a1))] [] M ((w_PI M) (f2_partner_12 a1 M)) := by
  unfold f2_partner_12
  refine r_ld (.aload_n 0) 1 2 0 (.ref 12) rfl rfl rfl rfl 1 rfl ?_
  refine r_ld (.iload_n 1) 1 0 1 (.int (a1)) rfl rfl rfl rfl 2 rfl ?_
  refine q_cIz (w_PI M) rfl (.invokevirtual 69) rfl rfl rfl 35 rfl [.ref 12, .int (a1)] [] rfl (k2_isOrphan_12 a1 M) (fun v1 z2 => ?_)
  refine q_br (w_PI M) (.ifCond .ne 12) 3 rfl rfl rfl (v1 = 0) 8 17 [] rfl (fun _ => ?_) (fun _ => ?_)
  · refine r_ld (.aload_n 0) 1 2 0 (.ref 12) rfl rfl rfl rfl 9 rfl ?_
    refine r_go (.getfield 15) 3 rfl rfl rfl 12 [.ref 50] rfl ?_
    refine r_ld (.iload_n 1) 1 0 1 (.int (a1)) rfl rfl rfl rfl 13 rfl ?_
    refine q_iald (w_PI M) rfl rfl 50 90 rfl ?_
    refine q_const (.iconst 1) 1 rfl rfl rfl 15 (1) _ rfl cd_kj1 ?_
    refine r_go (.iadd) 1 rfl rfl rfl 16 [.int ((M.1 50 a1.toNatClampNeg) + 1)] rfl ?_
    exact r_ret .ireturn 1 rfl rfl rfl _ rfl
  · refine r_ld (.aload_n 0) 1 2 0 (.ref 12) rfl rfl rfl rfl 18 rfl ?_
    refine r_ld (.aload_n 0) 1 2 0 (.ref 12) rfl rfl rfl rfl 19 rfl ?_
    refine r_go (.getfield 21) 3 rfl rfl rfl 22 [.ref 52, .ref 12] rfl ?_
    refine r_ld (.iload_n 1) 1 0 1 (.int (a1)) rfl rfl rfl rfl 23 rfl ?_
    refine q_iald (w_PI M) rfl rfl 52 90 rfl ?_
    refine q_cTIz (.invokevirtual 104) rfl rfl rfl 26 rfl [.ref 12, .int (M.1 52 a1.toNatClampNeg)] [] rfl (k2_has_12 (M.1 52 a1.toNatClampNeg) M) (fun z3 => ?_)
    refine q_br (w_PI M) (.ifCond .eq 17) 3 rfl rfl rfl (f2_has_12 (M.1 52 a1.toNatClampNeg) M = 0) 44 30 [] rfl (fun _ => ?_) (fun _ => ?_)
    · refine r_ld (.aload_n 0) 1 2 0 (.ref 12) rfl rfl rfl rfl 45 rfl ?_
      refine r_go (.getfield 15) 3 rfl rfl rfl 48 [.ref 50] rfl ?_
      refine r_ld (.iload_n 1) 1 0 1 (.int (a1)) rfl rfl rfl rfl 49 rfl ?_
      refine q_iald (w_PI M) rfl rfl 50 90 rfl ?_
      exact r_ret .ireturn 1 rfl rfl rfl _ rfl
    · refine r_ld (.aload_n 0) 1 2 0 (.ref 12) rfl rfl rfl rfl 31 rfl ?_
      refine r_go (.getfield 15) 3 rfl rfl rfl 34 [.ref 50] rfl ?_
      refine r_ld (.aload_n 0) 1 2 0 (.ref 12) rfl rfl rfl rfl 35 rfl ?_
      refine r_go (.getfield 21) 3 rfl rfl rfl 38 [.ref 52, .ref 50] rfl ?_
      refine r_ld (.iload_n 1) 1 0 1 (.int (a1)) rfl rfl rfl rfl 39 rfl ?_
      refine q_iald (w_PI M) rfl rfl 52 90 rfl ?_
      refine q_iald (w_PI M) rfl rfl 50 90 rfl ?_
      refine r_go (.goto 9) 3 rfl rfl rfl 50 [.int (M.1 50 (M.1 52 a1.toNatClampNeg : Int32).toNatClampNeg)] rfl ?_
      exact r_ret .ireturn 1 rfl rfl rfl _ rfl
def f1_add_13 (a1 : Int64) (a2 : Int64) (M : cd_M) : Option cd_M := if 90 ≤ M.1 13 3 then (some M) else (if 90 ≤ M.1 13 3 then (some M) else (if cd_in (M.1 13 3) 90 = true then (cd_lt (cd_wL M 54 (M.1 13 3 : Int32).toNatClampNeg a1) fun M1 => if cd_in (M1.1 13 3) 90 = true then (cd_lt (cd_wL M1 55 (M1.1 13 3 : Int32).toNatClampNeg a2) fun M2 => cd_lt (cd_wI M2 13 3 ((M2.1 13 3) + 1)) fun M3 => some M3) else none) else none))
set_option maxRecDepth 8000 in
theorem k1_add_13 (a1 : Int64) (a2 : Int64) (M : cd_M) : cd_R 15 0 [some (.ref 13), some (.long (a1)), none, some (.long (a2)), none] [] M (w_PV (f1_add_13 a1 a2 M)) := by
  unfold f1_add_13
  refine r_ld (.aload_n 0) 1 2 0 (.ref 13) rfl rfl rfl rfl 1 rfl ?_
  refine r_go (.getfield 13) 3 rfl rfl rfl 4 [.int (M.1 13 3)] rfl ?_
  refine r_ld (.aload_n 0) 1 2 0 (.ref 13) rfl rfl rfl rfl 5 rfl ?_
  refine r_go (.getfield 22) 3 rfl rfl rfl 8 [.ref 54, .int (M.1 13 3)] rfl ?_
  refine r_go (.arraylength) 1 rfl rfl rfl 9 [.int (90), .int (M.1 13 3)] rfl ?_
  refine q_br w_PV (.if_icmp .ge 45) 3 rfl rfl rfl (90 ≤ M.1 13 3) 54 12 [] rfl (fun _ => ?_) (fun _ => ?_)
  · exact r_ret .return_ 1 rfl rfl rfl _ rfl
  · refine r_ld (.aload_n 0) 1 2 0 (.ref 13) rfl rfl rfl rfl 13 rfl ?_
    refine r_go (.getfield 13) 3 rfl rfl rfl 16 [.int (M.1 13 3)] rfl ?_
    refine r_ld (.aload_n 0) 1 2 0 (.ref 13) rfl rfl rfl rfl 17 rfl ?_
    refine r_go (.getfield 26) 3 rfl rfl rfl 20 [.ref 55, .int (M.1 13 3)] rfl ?_
    refine r_go (.arraylength) 1 rfl rfl rfl 21 [.int (90), .int (M.1 13 3)] rfl ?_
    refine q_br w_PV (.if_icmp .ge 33) 3 rfl rfl rfl (90 ≤ M.1 13 3) 54 24 [] rfl (fun _ => ?_) (fun _ => ?_)
    · exact r_ret .return_ 1 rfl rfl rfl _ rfl
    · refine r_ld (.aload_n 0) 1 2 0 (.ref 13) rfl rfl rfl rfl 25 rfl ?_
      refine r_go (.getfield 22) 3 rfl rfl rfl 28 [.ref 54] rfl ?_
      refine r_ld (.aload_n 0) 1 2 0 (.ref 13) rfl rfl rfl rfl 29 rfl ?_
      refine r_go (.getfield 13) 3 rfl rfl rfl 32 [.int (M.1 13 3), .ref 54] rfl ?_
      refine r_ld (.lload_n 1) 1 1 1 (.long (a1)) rfl rfl rfl rfl 33 rfl ?_
      refine q_last w_PV rfl rfl 54 90 rfl (fun M1 => ?_)
      refine r_ld (.aload_n 0) 1 2 0 (.ref 13) rfl rfl rfl rfl 35 rfl ?_
      refine r_go (.getfield 26) 3 rfl rfl rfl 38 [.ref 55] rfl ?_
      refine r_ld (.aload_n 0) 1 2 0 (.ref 13) rfl rfl rfl rfl 39 rfl ?_
      refine r_go (.getfield 13) 3 rfl rfl rfl 42 [.int (M1.1 13 3), .ref 55] rfl ?_
      refine r_ld (.lload_n 3) 1 1 3 (.long (a2)) rfl rfl rfl rfl 43 rfl ?_
      refine q_last w_PV rfl rfl 55 90 rfl (fun M2 => ?_)
      refine r_ld (.aload_n 0) 1 2 0 (.ref 13) rfl rfl rfl rfl 45 rfl ?_
      refine r_go (.dup) 1 rfl rfl rfl 46 [.ref 13, .ref 13] rfl ?_
      refine r_go (.getfield 13) 3 rfl rfl rfl 49 [.int (M2.1 13 3), .ref 13] rfl ?_
      refine q_const (.iconst 1) 1 rfl rfl rfl 50 (1) _ rfl cd_kj1 ?_
      refine r_go (.iadd) 1 rfl rfl rfl 51 [.int ((M2.1 13 3) + 1), .ref 13] rfl ?_
      refine q_wr w_PV (.putfield 13) 3 rfl rfl rfl 54 [] (cd_wI M2 13 3 ((M2.1 13 3) + 1)) rfl (fun M3 => ?_)
      exact r_ret .return_ 1 rfl rfl rfl _ rfl
def f2_addFrame_12_7 (a2 : Int32) (a3 : Int32) (M : cd_M) : Option cd_M := (f4_parity_7 a2 M).bind fun v1 => if v1 = 0 then ((f4_row_7 a2 M).bind fun v2 => (f4_row_7 a3 M).bind fun v3 => (f1_add_13 v2 v3 M).bind fun M4 => some M4) else ((f4_row_7 a3 M).bind fun v5 => (f4_row_7 a2 M).bind fun v6 => (f1_add_13 v5 v6 M).bind fun M7 => some M7)
set_option maxRecDepth 8000 in
theorem k2_addFrame_12_7 (a2 : Int32) (a3 : Int32) (M : cd_M) : cd_R 25 0 [some (.ref 12), some (.ref 7), some (.int (a2)), some (.int (a3))] [] M (w_PV (f2_addFrame_12_7 a2 a3 M)) := by
  unfold f2_addFrame_12_7
  refine r_ld (.aload_n 1) 1 2 1 (.ref 7) rfl rfl rfl rfl 1 rfl ?_
  refine r_ld (.iload_n 2) 1 0 2 (.int (a2)) rfl rfl rfl rfl 2 rfl ?_
  refine q_cI w_PV rfl (.invokevirtual 77) rfl rfl rfl 46 [.ref 7, .int (a2)] [] rfl (k4_parity_7 a2 M) (fun v1 => ?_)
  refine q_br w_PV (.ifCond .ne 23) 3 rfl rfl rfl (v1 = 0) 8 28 [] rfl (fun _ => ?_) (fun _ => ?_)
  · refine r_ld (.aload_n 0) 1 2 0 (.ref 12) rfl rfl rfl rfl 9 rfl ?_
    refine r_go (.getfield 32) 3 rfl rfl rfl 12 [.ref 13] rfl ?_
    refine r_ld (.aload_n 1) 1 2 1 (.ref 7) rfl rfl rfl rfl 13 rfl ?_
    refine r_ld (.iload_n 2) 1 0 2 (.int (a2)) rfl rfl rfl rfl 14 rfl ?_
    refine q_cL w_PV rfl (.invokevirtual 80) rfl rfl rfl 45 [.ref 7, .int (a2)] [.ref 13] rfl (k4_row_7 a2 M) (fun v2 => ?_)
    refine r_ld (.aload_n 1) 1 2 1 (.ref 7) rfl rfl rfl rfl 18 rfl ?_
    refine r_ld (.iload_n 3) 1 0 3 (.int (a3)) rfl rfl rfl rfl 19 rfl ?_
    refine q_cL w_PV rfl (.invokevirtual 80) rfl rfl rfl 45 [.ref 7, .int (a3)] [.long (v2), .ref 13] rfl (k4_row_7 a3 M) (fun v3 => ?_)
    refine q_cV w_PV rfl (.invokevirtual 107) rfl rfl rfl 15 [.ref 13, .long (v2), .long (v3)] [] rfl (k1_add_13 v2 v3 M) (fun M4 => ?_)
    refine r_go (.goto 20) 3 rfl rfl rfl 45 [] rfl ?_
    exact r_ret .return_ 1 rfl rfl rfl _ rfl
  · refine r_ld (.aload_n 0) 1 2 0 (.ref 12) rfl rfl rfl rfl 29 rfl ?_
    refine r_go (.getfield 32) 3 rfl rfl rfl 32 [.ref 13] rfl ?_
    refine r_ld (.aload_n 1) 1 2 1 (.ref 7) rfl rfl rfl rfl 33 rfl ?_
    refine r_ld (.iload_n 3) 1 0 3 (.int (a3)) rfl rfl rfl rfl 34 rfl ?_
    refine q_cL w_PV rfl (.invokevirtual 80) rfl rfl rfl 45 [.ref 7, .int (a3)] [.ref 13] rfl (k4_row_7 a3 M) (fun v5 => ?_)
    refine r_ld (.aload_n 1) 1 2 1 (.ref 7) rfl rfl rfl rfl 38 rfl ?_
    refine r_ld (.iload_n 2) 1 0 2 (.int (a2)) rfl rfl rfl rfl 39 rfl ?_
    refine q_cL w_PV rfl (.invokevirtual 80) rfl rfl rfl 45 [.ref 7, .int (a2)] [.long (v5), .ref 13] rfl (k4_row_7 a2 M) (fun v6 => ?_)
    refine q_cV w_PV rfl (.invokevirtual 107) rfl rfl rfl 15 [.ref 13, .long (v5), .long (v6)] [] rfl (k1_add_13 v5 v6 M) (fun M7 => ?_)
    exact r_ret .return_ 1 rfl rfl rfl _ rfl
def f2_rebuildFrames_12_7_L60 (r10 : Int32 → cd_M → Option cd_M) (a2 : Int32) (M : cd_M) : Option cd_M := if cd_in a2 90 = true then (cd_lt (cd_wI M 53 a2.toNatClampNeg ((f1_size_13 M) - 1)) fun M4 => cd_lt (a2 + (1)) fun x5 => r10 x5 M4) else none
set_option maxRecDepth 8000 in
theorem k2_rebuildFrames_12_7_L60 (r10 : Int32 → cd_M → Option cd_M) (h10 : ∀ (a2 : Int32) (M : cd_M), cd_R 23 10 [some (.ref 12), some (.ref 7), some (.int (a2)), none] [] M (w_PV (r10 a2 M))) (a2 : Int32) (M : cd_M) : cd_R 23 60 [some (.ref 12), some (.ref 7), some (.int (a2)), none] [] M (w_PV (f2_rebuildFrames_12_7_L60 r10 a2 M)) := by
  unfold f2_rebuildFrames_12_7_L60
  refine r_ld (.aload_n 0) 1 2 0 (.ref 12) rfl rfl rfl rfl 61 rfl ?_
  refine r_go (.getfield 24) 3 rfl rfl rfl 64 [.ref 53] rfl ?_
  refine r_ld (.iload_n 2) 1 0 2 (.int (a2)) rfl rfl rfl rfl 65 rfl ?_
  refine r_ld (.aload_n 0) 1 2 0 (.ref 12) rfl rfl rfl rfl 66 rfl ?_
  refine r_go (.getfield 32) 3 rfl rfl rfl 69 [.ref 13, .int (a2), .ref 53] rfl ?_
  refine q_cTI (.invokevirtual 103) rfl rfl rfl 13 [.ref 13] [.int (a2), .ref 53] rfl (k1_size_13 M) ?_
  refine q_const (.iconst 1) 1 rfl rfl rfl 73 (1) _ rfl cd_kj1 ?_
  refine r_go (.isub) 1 rfl rfl rfl 74 [.int ((f1_size_13 M) - 1), .int (a2), .ref 53] rfl ?_
  refine q_iast w_PV rfl rfl 53 90 rfl (fun M4 => ?_)
  refine q_inc w_PV 2 (1) (a2) rfl rfl rfl 78 rfl (1) cd_kj1 (fun x5 => [some (.ref 12), some (.ref 7), some (.int (x5)), none]) (fun _ => rfl) (fun x5 => ?_)
  refine r_go (.goto (-68)) 3 rfl rfl rfl 10 [] rfl ?_
  exact r_w (h10 x5 M4) (cd_le_s (cd_le_s (cd_le_s (cd_le_n cd_le_0))))
def f2_rebuildFrames_12_7_L39 (r10 : Int32 → cd_M → Option cd_M) (a2 : Int32) (s0 : Int32) (M : cd_M) : Option cd_M := if s0 = 0 then (if cd_in a2 90 = true then ((f2_partner_12 a2 M).bind fun v2 => (f2_addFrame_12_7 (M.1 50 a2.toNatClampNeg) v2 M).bind fun M3 => f2_rebuildFrames_12_7_L60 r10 a2 M3) else none) else (f2_rebuildFrames_12_7_L60 r10 a2 M)
set_option maxRecDepth 8000 in
theorem k2_rebuildFrames_12_7_L39 (r10 : Int32 → cd_M → Option cd_M) (h10 : ∀ (a2 : Int32) (M : cd_M), cd_R 23 10 [some (.ref 12), some (.ref 7), some (.int (a2)), none] [] M (w_PV (r10 a2 M))) (a2 : Int32) (s0 : Int32) (M : cd_M) : cd_R 23 39 [some (.ref 12), some (.ref 7), some (.int (a2)), none] [.int (s0)] M (w_PV (f2_rebuildFrames_12_7_L39 r10 a2 s0 M)) := by
  unfold f2_rebuildFrames_12_7_L39
  refine r_st (.istore_n 3) 1 0 3 rfl rfl rfl 40 rfl [some (.ref 12), some (.ref 7), some (.int (a2)), some (.int (s0))] rfl ?_
  refine r_ld (.iload_n 3) 1 0 3 (.int (s0)) rfl rfl rfl rfl 41 rfl ?_
  refine q_br w_PV (.ifCond .ne 19) 3 rfl rfl rfl (s0 = 0) 44 60 [] rfl (fun _ => ?_) (fun _ => ?_)
  · refine r_ld (.aload_n 0) 1 2 0 (.ref 12) rfl rfl rfl rfl 45 rfl ?_
    refine r_ld (.aload_n 1) 1 2 1 (.ref 7) rfl rfl rfl rfl 46 rfl ?_
    refine r_ld (.aload_n 0) 1 2 0 (.ref 12) rfl rfl rfl rfl 47 rfl ?_
    refine r_go (.getfield 15) 3 rfl rfl rfl 50 [.ref 50, .ref 7, .ref 12] rfl ?_
    refine r_ld (.iload_n 2) 1 0 2 (.int (a2)) rfl rfl rfl rfl 51 rfl ?_
    refine q_iald w_PV rfl rfl 50 90 rfl ?_
    refine r_ld (.aload_n 0) 1 2 0 (.ref 12) rfl rfl rfl rfl 53 rfl ?_
    refine r_ld (.iload_n 2) 1 0 2 (.int (a2)) rfl rfl rfl rfl 54 rfl ?_
    refine q_cI w_PV rfl (.invokevirtual 96) rfl rfl rfl 24 [.ref 12, .int (a2)] [.int (M.1 50 a2.toNatClampNeg), .ref 7, .ref 12] rfl (k2_partner_12 a2 M) (fun v2 => ?_)
    refine q_cV w_PV rfl (.invokevirtual 99) rfl rfl rfl 25 [.ref 12, .ref 7, .int (M.1 50 a2.toNatClampNeg), .int (v2)] [] rfl (k2_addFrame_12_7 (M.1 50 a2.toNatClampNeg) v2 M) (fun M3 => ?_)
    exact r_w (k2_rebuildFrames_12_7_L60 r10 h10 a2 M3) (cd_le_s (cd_le_s (cd_le_s (cd_le_n cd_le_0))))
  · exact r_w (k2_rebuildFrames_12_7_L60 r10 h10 a2 M) (cd_le_s (cd_le_s (cd_le_s (cd_le_n cd_le_0))))
def f2_rebuildFrames_12_7_L38 (r10 : Int32 → cd_M → Option cd_M) (a2 : Int32) (M : cd_M) : Option cd_M := f2_rebuildFrames_12_7_L39 r10 a2 0 M
set_option maxRecDepth 8000 in
theorem k2_rebuildFrames_12_7_L38 (r10 : Int32 → cd_M → Option cd_M) (h10 : ∀ (a2 : Int32) (M : cd_M), cd_R 23 10 [some (.ref 12), some (.ref 7), some (.int (a2)), none] [] M (w_PV (r10 a2 M))) (a2 : Int32) (M : cd_M) : cd_R 23 38 [some (.ref 12), some (.ref 7), some (.int (a2)), none] [] M (w_PV (f2_rebuildFrames_12_7_L38 r10 a2 M)) := by
  unfold f2_rebuildFrames_12_7_L38
  refine q_const (.iconst 0) 1 rfl rfl rfl 39 (0) _ rfl cd_kj0 ?_
  exact r_w (k2_rebuildFrames_12_7_L39 r10 h10 a2 0 M) (cd_le_s (cd_le_s (cd_le_s (cd_le_n cd_le_0))))
def f2_rebuildFrames_12_7_L10 : Nat → Int32 → cd_M → Option cd_M
  | 0, _, _ => none
  | n + 1, a2, M => if M.1 12 6 ≤ a2 then (some M) else (if a2 ≤ 0 then (f2_rebuildFrames_12_7_L38 (f2_rebuildFrames_12_7_L10 n) a2 M) else (if cd_in a2 90 = true then (if M.1 52 a2.toNatClampNeg = a2 - 1 then (f2_rebuildFrames_12_7_L39 (f2_rebuildFrames_12_7_L10 n) a2 1 M) else (f2_rebuildFrames_12_7_L38 (f2_rebuildFrames_12_7_L10 n) a2 M)) else none))
set_option maxRecDepth 8000 in
theorem k2_rebuildFrames_12_7_L10 : ∀ (n : Nat) (a2 : Int32) (M : cd_M), cd_R 23 10 [some (.ref 12), some (.ref 7), some (.int (a2)), none] [] M (w_PV (f2_rebuildFrames_12_7_L10 n a2 M)) := by
  intro n
  induction n with
  | zero =>
    intro a2 M
    exact q_none w_PV rfl
  | succ n ih =>
    intro a2 M
    rw [f2_rebuildFrames_12_7_L10]
    refine r_ld (.iload_n 2) 1 0 2 (.int (a2)) rfl rfl rfl rfl 11 rfl ?_
    refine r_ld (.aload_n 0) 1 2 0 (.ref 12) rfl rfl rfl rfl 12 rfl ?_
    refine r_go (.getfield 36) 3 rfl rfl rfl 15 [.int (M.1 12 6), .int (a2)] rfl ?_
    refine q_br w_PV (.if_icmp .ge 66) 3 rfl rfl rfl (M.1 12 6 ≤ a2) 81 18 [] rfl (fun _ => ?_) (fun _ => ?_)
    · exact r_ret .return_ 1 rfl rfl rfl _ rfl
    · refine r_ld (.iload_n 2) 1 0 2 (.int (a2)) rfl rfl rfl rfl 19 rfl ?_
      refine q_br w_PV (.ifCond .le 19) 3 rfl rfl rfl (a2 ≤ 0) 38 22 [] rfl (fun _ => ?_) (fun _ => ?_)
      · exact r_w (k2_rebuildFrames_12_7_L38 (f2_rebuildFrames_12_7_L10 n) ih a2 M) (cd_le_s (cd_le_s (cd_le_s (cd_le_n cd_le_0))))
      · refine r_ld (.aload_n 0) 1 2 0 (.ref 12) rfl rfl rfl rfl 23 rfl ?_
        refine r_go (.getfield 21) 3 rfl rfl rfl 26 [.ref 52] rfl ?_
        refine r_ld (.iload_n 2) 1 0 2 (.int (a2)) rfl rfl rfl rfl 27 rfl ?_
        refine q_iald w_PV rfl rfl 52 90 rfl ?_
        refine r_ld (.iload_n 2) 1 0 2 (.int (a2)) rfl rfl rfl rfl 29 rfl ?_
        refine q_const (.iconst 1) 1 rfl rfl rfl 30 (1) _ rfl cd_kj1 ?_
        refine r_go (.isub) 1 rfl rfl rfl 31 [.int (a2 - 1), .int (M.1 52 a2.toNatClampNeg)] rfl ?_
        refine q_br w_PV (.if_icmp .ne 7) 3 rfl rfl rfl (M.1 52 a2.toNatClampNeg = a2 - 1) 34 38 [] rfl (fun _ => ?_) (fun _ => ?_)
        · refine q_const (.iconst 1) 1 rfl rfl rfl 35 (1) _ rfl cd_kj1 ?_
          refine r_go (.goto 4) 3 rfl rfl rfl 39 [.int (1)] rfl ?_
          exact r_w (k2_rebuildFrames_12_7_L39 (f2_rebuildFrames_12_7_L10 n) ih a2 1 M) (cd_le_s (cd_le_s (cd_le_s (cd_le_n cd_le_0))))
        · exact r_w (k2_rebuildFrames_12_7_L38 (f2_rebuildFrames_12_7_L10 n) ih a2 M) (cd_le_s (cd_le_s (cd_le_s (cd_le_n cd_le_0))))
def f2_rebuildFrames_12_7 (M : cd_M) : Option cd_M := cd_lt (f1_begin_13 0 M) fun M1 => f2_rebuildFrames_12_7_L10 cd_fu 0 M1
set_option maxRecDepth 8000 in
theorem k2_rebuildFrames_12_7 (M : cd_M) : cd_R 23 0 [some (.ref 12), some (.ref 7), none, none] [] M (w_PV (f2_rebuildFrames_12_7 M)) := by
  unfold f2_rebuildFrames_12_7
  refine r_ld (.aload_n 0) 1 2 0 (.ref 12) rfl rfl rfl rfl 1 rfl ?_
  refine r_go (.getfield 32) 3 rfl rfl rfl 4 [.ref 13] rfl ?_
  refine q_const (.iconst 0) 1 rfl rfl rfl 5 (0) _ rfl cd_kj0 ?_
  refine q_cTV w_PV (.invokevirtual 93) rfl rfl rfl 11 [.ref 13, .int (0)] [] rfl (k1_begin_13 0 M) (fun M1 => ?_)
  refine q_const (.iconst 0) 1 rfl rfl rfl 9 (0) _ rfl cd_kj0 ?_
  refine r_st (.istore_n 2) 1 0 2 rfl rfl rfl 10 rfl [some (.ref 12), some (.ref 7), some (.int (0)), none] rfl ?_
  exact r_w (k2_rebuildFrames_12_7_L10 cd_fu 0 M1) (cd_le_s (cd_le_s (cd_le_s (cd_le_n cd_le_0))))
def f9_seen_11 (a1 : Int32) (M : cd_M) : Option (Int32) := if f9_has_11 a1 M = 0 then (some (-1)) else (if cd_in a1 90 = true then (some (M.1 45 a1.toNatClampNeg)) else none)
set_option maxRecDepth 8000 in
theorem k9_seen_11 (a1 : Int32) (M : cd_M) : cd_R 118 0 [some (.ref 11), some (.int (a1))] [] M ((w_PI M) (f9_seen_11 a1 M)) := by
  unfold f9_seen_11
  refine r_ld (.aload_n 0) 1 2 0 (.ref 11) rfl rfl rfl rfl 1 rfl ?_
  refine r_ld (.iload_n 1) 1 0 1 (.int (a1)) rfl rfl rfl rfl 2 rfl ?_
  refine q_cTIz (.invokevirtual 85) rfl rfl rfl 115 rfl [.ref 11, .int (a1)] [] rfl (k9_has_11 a1 M) (fun z1 => ?_)
  refine q_br (w_PI M) (.ifCond .eq 12) 3 rfl rfl rfl (f9_has_11 a1 M = 0) 17 8 [] rfl (fun _ => ?_) (fun _ => ?_)
  · refine q_const (.iconst (-1)) 1 rfl rfl rfl 18 (-1) _ rfl cd_kjm1 ?_
    exact r_ret .ireturn 1 rfl rfl rfl _ rfl
  · refine r_ld (.aload_n 0) 1 2 0 (.ref 11) rfl rfl rfl rfl 9 rfl ?_
    refine r_go (.getfield 18) 3 rfl rfl rfl 12 [.ref 45] rfl ?_
    refine r_ld (.iload_n 1) 1 0 1 (.int (a1)) rfl rfl rfl rfl 13 rfl ?_
    refine q_iald (w_PI M) rfl rfl 45 90 rfl ?_
    refine r_go (.goto 4) 3 rfl rfl rfl 18 [.int (M.1 45 a1.toNatClampNeg)] rfl ?_
    exact r_ret .ireturn 1 rfl rfl rfl _ rfl
def f2_addField_12_L71 (a1 : Int32) (M : cd_M) : Option cd_M := if cd_in a1 90 = true then (cd_lt (cd_wI M 49 a1.toNatClampNeg ((M.1 12 6) - 1)) fun M1 => if cd_in ((M1.1 12 6) - 1) 90 = true then (if cd_in ((M1.1 12 6) - 1) 90 = true then (cd_lt (cd_wI M1 51 ((M1.1 12 6) - 1 : Int32).toNatClampNeg ((M1.1 51 ((M1.1 12 6) - 1 : Int32).toNatClampNeg) + 1)) fun M2 => some M2) else none) else none) else none
set_option maxRecDepth 8000 in
theorem k2_addField_12_L71 (a1 : Int32) (M : cd_M) : cd_R 20 71 [some (.ref 12), some (.int (a1)), none] [] M (w_PV (f2_addField_12_L71 a1 M)) := by
  unfold f2_addField_12_L71
  refine r_ld (.aload_n 0) 1 2 0 (.ref 12) rfl rfl rfl rfl 72 rfl ?_
  refine r_go (.getfield 9) 3 rfl rfl rfl 75 [.ref 49] rfl ?_
  refine r_ld (.iload_n 1) 1 0 1 (.int (a1)) rfl rfl rfl rfl 76 rfl ?_
  refine r_ld (.aload_n 0) 1 2 0 (.ref 12) rfl rfl rfl rfl 77 rfl ?_
  refine r_go (.getfield 36) 3 rfl rfl rfl 80 [.int (M.1 12 6), .int (a1), .ref 49] rfl ?_
  refine q_const (.iconst 1) 1 rfl rfl rfl 81 (1) _ rfl cd_kj1 ?_
  refine r_go (.isub) 1 rfl rfl rfl 82 [.int ((M.1 12 6) - 1), .int (a1), .ref 49] rfl ?_
  refine q_iast w_PV rfl rfl 49 90 rfl (fun M1 => ?_)
  refine r_ld (.aload_n 0) 1 2 0 (.ref 12) rfl rfl rfl rfl 84 rfl ?_
  refine r_go (.getfield 18) 3 rfl rfl rfl 87 [.ref 51] rfl ?_
  refine r_ld (.aload_n 0) 1 2 0 (.ref 12) rfl rfl rfl rfl 88 rfl ?_
  refine r_go (.getfield 36) 3 rfl rfl rfl 91 [.int (M1.1 12 6), .ref 51] rfl ?_
  refine q_const (.iconst 1) 1 rfl rfl rfl 92 (1) _ rfl cd_kj1 ?_
  refine r_go (.isub) 1 rfl rfl rfl 93 [.int ((M1.1 12 6) - 1), .ref 51] rfl ?_
  refine r_go (.dup2) 1 rfl rfl rfl 94 [.int ((M1.1 12 6) - 1), .ref 51, .int ((M1.1 12 6) - 1), .ref 51] rfl ?_
  refine q_iald w_PV rfl rfl 51 90 rfl ?_
  refine q_const (.iconst 1) 1 rfl rfl rfl 96 (1) _ rfl cd_kj1 ?_
  refine r_go (.iadd) 1 rfl rfl rfl 97 [.int ((M1.1 51 ((M1.1 12 6) - 1 : Int32).toNatClampNeg) + 1), .int ((M1.1 12 6) - 1), .ref 51] rfl ?_
  refine q_iast w_PV rfl rfl 51 90 rfl (fun M2 => ?_)
  exact r_ret .return_ 1 rfl rfl rfl _ rfl
def f2_addField_12_L31 (a1 : Int32) (M : cd_M) : Option cd_M := if cd_in (M.1 12 6) 90 = true then (cd_lt (cd_wI M 50 (M.1 12 6 : Int32).toNatClampNeg a1) fun M3 => if cd_in (M3.1 12 6) 90 = true then (cd_lt (cd_wI M3 51 (M3.1 12 6 : Int32).toNatClampNeg 0) fun M4 => if cd_in (M4.1 12 6) 90 = true then (cd_lt (cd_wI M4 52 (M4.1 12 6 : Int32).toNatClampNeg (-1)) fun M5 => cd_lt (cd_wI M5 12 6 ((M5.1 12 6) + 1)) fun M6 => f2_addField_12_L71 a1 M6) else none) else none) else none
set_option maxRecDepth 8000 in
theorem k2_addField_12_L31 (a1 : Int32) (M : cd_M) : cd_R 20 31 [some (.ref 12), some (.int (a1)), none] [] M (w_PV (f2_addField_12_L31 a1 M)) := by
  unfold f2_addField_12_L31
  refine r_ld (.aload_n 0) 1 2 0 (.ref 12) rfl rfl rfl rfl 32 rfl ?_
  refine r_go (.getfield 15) 3 rfl rfl rfl 35 [.ref 50] rfl ?_
  refine r_ld (.aload_n 0) 1 2 0 (.ref 12) rfl rfl rfl rfl 36 rfl ?_
  refine r_go (.getfield 36) 3 rfl rfl rfl 39 [.int (M.1 12 6), .ref 50] rfl ?_
  refine r_ld (.iload_n 1) 1 0 1 (.int (a1)) rfl rfl rfl rfl 40 rfl ?_
  refine q_iast w_PV rfl rfl 50 90 rfl (fun M3 => ?_)
  refine r_ld (.aload_n 0) 1 2 0 (.ref 12) rfl rfl rfl rfl 42 rfl ?_
  refine r_go (.getfield 18) 3 rfl rfl rfl 45 [.ref 51] rfl ?_
  refine r_ld (.aload_n 0) 1 2 0 (.ref 12) rfl rfl rfl rfl 46 rfl ?_
  refine r_go (.getfield 36) 3 rfl rfl rfl 49 [.int (M3.1 12 6), .ref 51] rfl ?_
  refine q_const (.iconst 0) 1 rfl rfl rfl 50 (0) _ rfl cd_kj0 ?_
  refine q_iast w_PV rfl rfl 51 90 rfl (fun M4 => ?_)
  refine r_ld (.aload_n 0) 1 2 0 (.ref 12) rfl rfl rfl rfl 52 rfl ?_
  refine r_go (.getfield 21) 3 rfl rfl rfl 55 [.ref 52] rfl ?_
  refine r_ld (.aload_n 0) 1 2 0 (.ref 12) rfl rfl rfl rfl 56 rfl ?_
  refine r_go (.getfield 36) 3 rfl rfl rfl 59 [.int (M4.1 12 6), .ref 52] rfl ?_
  refine q_const (.iconst (-1)) 1 rfl rfl rfl 60 (-1) _ rfl cd_kjm1 ?_
  refine q_iast w_PV rfl rfl 52 90 rfl (fun M5 => ?_)
  refine r_ld (.aload_n 0) 1 2 0 (.ref 12) rfl rfl rfl rfl 62 rfl ?_
  refine r_go (.dup) 1 rfl rfl rfl 63 [.ref 12, .ref 12] rfl ?_
  refine r_go (.getfield 36) 3 rfl rfl rfl 66 [.int (M5.1 12 6), .ref 12] rfl ?_
  refine q_const (.iconst 1) 1 rfl rfl rfl 67 (1) _ rfl cd_kj1 ?_
  refine r_go (.iadd) 1 rfl rfl rfl 68 [.int ((M5.1 12 6) + 1), .ref 12] rfl ?_
  refine q_wr w_PV (.putfield 36) 3 rfl rfl rfl 71 [] (cd_wI M5 12 6 ((M5.1 12 6) + 1)) rfl (fun M6 => ?_)
  exact r_w (k2_addField_12_L71 a1 M6) (cd_le_s (cd_le_s (cd_le_n cd_le_0)))
def f2_addField_12 (a1 : Int32) (a2 : Int32) (M : cd_M) : Option cd_M := if a1 < 0 then (some M) else (if a1 < 90 then (if 90 ≤ M.1 12 6 then (f2_addField_12_L71 a1 M) else (if a2 = 0 then (if M.1 12 6 = 0 then (f2_addField_12_L31 a1 M) else (f2_addField_12_L71 a1 M)) else (f2_addField_12_L31 a1 M))) else (some M))
set_option maxRecDepth 8000 in
theorem k2_addField_12 (a1 : Int32) (a2 : Int32) (M : cd_M) : cd_R 20 0 [some (.ref 12), some (.int (a1)), some (.int (a2))] [] M (w_PV (f2_addField_12 a1 a2 M)) := by
  unfold f2_addField_12
  refine r_ld (.iload_n 1) 1 0 1 (.int (a1)) rfl rfl rfl rfl 1 rfl ?_
  refine q_br w_PV (.ifCond .lt 9) 3 rfl rfl rfl (a1 < 0) 10 4 [] rfl (fun _ => ?_) (fun _ => ?_)
  · exact r_ret .return_ 1 rfl rfl rfl _ rfl
  · refine r_ld (.iload_n 1) 1 0 1 (.int (a1)) rfl rfl rfl rfl 5 rfl ?_
    refine q_const (.bipush 90) 2 rfl rfl rfl 7 (90) _ rfl cd_kc90 ?_
    refine q_br w_PV (.if_icmp .lt 4) 3 rfl rfl rfl (a1 < 90) 11 10 [] rfl (fun _ => ?_) (fun _ => ?_)
    · refine r_ld (.aload_n 0) 1 2 0 (.ref 12) rfl rfl rfl rfl 12 rfl ?_
      refine r_go (.getfield 36) 3 rfl rfl rfl 15 [.int (M.1 12 6)] rfl ?_
      refine q_const (.bipush 90) 2 rfl rfl rfl 17 (90) _ rfl cd_kc90 ?_
      refine q_br w_PV (.if_icmp .ge 54) 3 rfl rfl rfl (90 ≤ M.1 12 6) 71 20 [] rfl (fun _ => ?_) (fun _ => ?_)
      · exact r_w (k2_addField_12_L71 a1 M) (cd_le_s (cd_le_s (cd_le_n cd_le_0)))
      · refine r_ld (.iload_n 2) 1 0 2 (.int (a2)) rfl rfl rfl rfl 21 rfl ?_
        refine q_br w_PV (.ifCond .ne 10) 3 rfl rfl rfl (a2 = 0) 24 31 [] rfl (fun _ => ?_) (fun _ => ?_)
        · refine r_ld (.aload_n 0) 1 2 0 (.ref 12) rfl rfl rfl rfl 25 rfl ?_
          refine r_go (.getfield 36) 3 rfl rfl rfl 28 [.int (M.1 12 6)] rfl ?_
          refine q_br w_PV (.ifCond .ne 43) 3 rfl rfl rfl (M.1 12 6 = 0) 31 71 [] rfl (fun _ => ?_) (fun _ => ?_)
          · exact r_w (k2_addField_12_L31 a1 M) (cd_le_s (cd_le_s (cd_le_n cd_le_0)))
          · exact r_w (k2_addField_12_L71 a1 M) (cd_le_s (cd_le_s (cd_le_n cd_le_0)))
        · exact r_w (k2_addField_12_L31 a1 M) (cd_le_s (cd_le_s (cd_le_n cd_le_0)))
    · exact r_ret .return_ 1 rfl rfl rfl _ rfl
def f2_gather_12_11_7_6_L34 (r8 : Int32 → cd_M → Option cd_M) (a4 : Int32) (s0 : Int32) (s1 : Int32) (M : cd_M) : Option cd_M := (f2_addField_12 s1 s0 M).bind fun M5 => cd_lt (a4 + (1)) fun x6 => r8 x6 M5
set_option maxRecDepth 8000 in
theorem k2_gather_12_11_7_6_L34 (r8 : Int32 → cd_M → Option cd_M) (h8 : ∀ (a4 : Int32) (M : cd_M), cd_R 19 8 [some (.ref 12), some (.ref 11), some (.ref 7), some (.ref 6), some (.int (a4))] [] M (w_PV (r8 a4 M))) (a4 : Int32) (s0 : Int32) (s1 : Int32) (M : cd_M) : cd_R 19 34 [some (.ref 12), some (.ref 11), some (.ref 7), some (.ref 6), some (.int (a4))] [.int (s0), .int (s1), .ref 12] M (w_PV (f2_gather_12_11_7_6_L34 r8 a4 s0 s1 M)) := by
  unfold f2_gather_12_11_7_6_L34
  refine q_cV w_PV rfl (.invokevirtual 57) rfl rfl rfl 20 [.ref 12, .int (s1), .int (s0)] [] rfl (k2_addField_12 s1 s0 M) (fun M5 => ?_)
  refine q_inc w_PV 4 (1) (a4) rfl rfl rfl 40 rfl (1) cd_kj1 (fun x6 => [some (.ref 12), some (.ref 11), some (.ref 7), some (.ref 6), some (.int (x6))]) (fun _ => rfl) (fun x6 => ?_)
  refine r_go (.goto (-32)) 3 rfl rfl rfl 8 [] rfl ?_
  exact r_w (h8 x6 M5) (cd_le_s (cd_le_s (cd_le_s (cd_le_s (cd_le_s cd_le_0)))))
def f2_gather_12_11_7_6_L8 : Nat → Int32 → cd_M → Option cd_M
  | 0, _, _ => none
  | n + 1, a4, M => if f4_size_7 M ≤ a4 then ((f2_mateOrphans_12_7_6 M).bind fun M2 => (f2_rebuildFrames_12_7 M2).bind fun M3 => some M3) else ((f9_seen_11 a4 M).bind fun v4 => if v4 = 0 then (f2_gather_12_11_7_6_L34 (f2_gather_12_11_7_6_L8 n) a4 1 a4 M) else (f2_gather_12_11_7_6_L34 (f2_gather_12_11_7_6_L8 n) a4 0 a4 M))
set_option maxRecDepth 8000 in
theorem k2_gather_12_11_7_6_L8 : ∀ (n : Nat) (a4 : Int32) (M : cd_M), cd_R 19 8 [some (.ref 12), some (.ref 11), some (.ref 7), some (.ref 6), some (.int (a4))] [] M (w_PV (f2_gather_12_11_7_6_L8 n a4 M)) := by
  intro n
  induction n with
  | zero =>
    intro a4 M
    exact q_none w_PV rfl
  | succ n ih =>
    intro a4 M
    rw [f2_gather_12_11_7_6_L8]
    refine r_ld (.iload 4) 2 0 4 (.int (a4)) rfl rfl rfl rfl 10 rfl ?_
    refine r_ld (.aload_n 2) 1 2 2 (.ref 7) rfl rfl rfl rfl 11 rfl ?_
    refine q_cTI (.invokevirtual 46) rfl rfl rfl 41 [.ref 7] [.int (a4)] rfl (k4_size_7 M) ?_
    refine q_br w_PV (.if_icmp .ge 29) 3 rfl rfl rfl (f4_size_7 M ≤ a4) 43 17 [] rfl (fun _ => ?_) (fun _ => ?_)
    · refine r_ld (.aload_n 0) 1 2 0 (.ref 12) rfl rfl rfl rfl 44 rfl ?_
      refine r_ld (.aload_n 2) 1 2 2 (.ref 7) rfl rfl rfl rfl 45 rfl ?_
      refine r_ld (.aload_n 3) 1 2 3 (.ref 6) rfl rfl rfl rfl 46 rfl ?_
      refine q_cV w_PV rfl (.invokevirtual 61) rfl rfl rfl 21 [.ref 12, .ref 7, .ref 6] [] rfl (k2_mateOrphans_12_7_6 M) (fun M2 => ?_)
      refine r_ld (.aload_n 0) 1 2 0 (.ref 12) rfl rfl rfl rfl 50 rfl ?_
      refine r_ld (.aload_n 2) 1 2 2 (.ref 7) rfl rfl rfl rfl 51 rfl ?_
      refine q_cV w_PV rfl (.invokevirtual 65) rfl rfl rfl 23 [.ref 12, .ref 7] [] rfl (k2_rebuildFrames_12_7 M2) (fun M3 => ?_)
      exact r_ret .return_ 1 rfl rfl rfl _ rfl
    · refine r_ld (.aload_n 0) 1 2 0 (.ref 12) rfl rfl rfl rfl 18 rfl ?_
      refine r_ld (.iload 4) 2 0 4 (.int (a4)) rfl rfl rfl rfl 20 rfl ?_
      refine r_ld (.aload_n 1) 1 2 1 (.ref 11) rfl rfl rfl rfl 21 rfl ?_
      refine r_ld (.iload 4) 2 0 4 (.int (a4)) rfl rfl rfl rfl 23 rfl ?_
      refine q_cI w_PV rfl (.invokevirtual 51) rfl rfl rfl 118 [.ref 11, .int (a4)] [.int (a4), .ref 12] rfl (k9_seen_11 a4 M) (fun v4 => ?_)
      refine q_br w_PV (.ifCond .ne 7) 3 rfl rfl rfl (v4 = 0) 29 33 [.int (a4), .ref 12] rfl (fun _ => ?_) (fun _ => ?_)
      · refine q_const (.iconst 1) 1 rfl rfl rfl 30 (1) _ rfl cd_kj1 ?_
        refine r_go (.goto 4) 3 rfl rfl rfl 34 [.int (1), .int (a4), .ref 12] rfl ?_
        exact r_w (k2_gather_12_11_7_6_L34 (f2_gather_12_11_7_6_L8 n) ih a4 1 a4 M) (cd_le_s (cd_le_s (cd_le_s (cd_le_s (cd_le_s cd_le_0)))))
      · refine q_const (.iconst 0) 1 rfl rfl rfl 34 (0) _ rfl cd_kj0 ?_
        exact r_w (k2_gather_12_11_7_6_L34 (f2_gather_12_11_7_6_L8 n) ih a4 0 a4 M) (cd_le_s (cd_le_s (cd_le_s (cd_le_s (cd_le_s cd_le_0)))))
def f2_gather_12_11_7_6 (M : cd_M) : Option cd_M := cd_lt (cd_wI M 12 6 0) fun M1 => f2_gather_12_11_7_6_L8 cd_fu 0 M1
set_option maxRecDepth 8000 in
theorem k2_gather_12_11_7_6 (M : cd_M) : cd_R 19 0 [some (.ref 12), some (.ref 11), some (.ref 7), some (.ref 6), none] [] M (w_PV (f2_gather_12_11_7_6 M)) := by
  unfold f2_gather_12_11_7_6
  refine r_ld (.aload_n 0) 1 2 0 (.ref 12) rfl rfl rfl rfl 1 rfl ?_
  refine q_const (.iconst 0) 1 rfl rfl rfl 2 (0) _ rfl cd_kj0 ?_
  refine q_wr w_PV (.putfield 36) 3 rfl rfl rfl 5 [] (cd_wI M 12 6 0) rfl (fun M1 => ?_)
  refine q_const (.iconst 0) 1 rfl rfl rfl 6 (0) _ rfl cd_kj0 ?_
  refine r_st (.istore 4) 2 0 4 rfl rfl rfl 8 rfl [some (.ref 12), some (.ref 11), some (.ref 7), some (.ref 6), some (.int (0))] rfl ?_
  exact r_w (k2_gather_12_11_7_6_L8 cd_fu 0 M1) (cd_le_s (cd_le_s (cd_le_s (cd_le_s (cd_le_s cd_le_0)))))
