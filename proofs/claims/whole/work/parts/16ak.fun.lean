def f10_mostInOrder_0_13_L103 (r23 : Int32 → cd_M → Option (Int32 × cd_M)) (r36 : Int32 → Int32 → Int32 → cd_M → Option (Int32 × cd_M)) (a2 : Int32) (a4 : Int32) (a5 : Int32) (s0 : Int32) (s1 : Int32) (M : cd_M) : Option (Int32 × cd_M) := if cd_in s1 21 = true then (cd_lt (cd_wI M 16 s1.toNatClampNeg s0) fun M5 => cd_lt (a4 + (1)) fun x6 => r36 a2 a5 x6 M5) else none
set_option maxRecDepth 8000 in
theorem k10_mostInOrder_0_13_L103 (r23 : Int32 → cd_M → Option (Int32 × cd_M)) (h23 : ∀ (a2 : Int32) (M : cd_M), cd_R 154 23 [some (.ref 0), some (.ref 13), some (.int (a2)), none, none, none, none] [] M (w_PM (r23 a2 M))) (r36 : Int32 → Int32 → Int32 → cd_M → Option (Int32 × cd_M)) (h36 : ∀ (a2 : Int32) (a3 : Int32) (a4 : Int32) (M : cd_M), cd_R 154 36 [some (.ref 0), some (.ref 13), some (.int (a2)), some (.int (a3)), some (.int (a4)), none, none] [] M (w_PM (r36 a2 a3 a4 M))) (a2 : Int32) (a4 : Int32) (a5 : Int32) (s0 : Int32) (s1 : Int32) (M : cd_M) : cd_R 154 103 [some (.ref 0), some (.ref 13), some (.int (a2)), none, some (.int (a4)), some (.int (a5)), none] [.int (s0), .int (s1), .ref 16] M (w_PM (f10_mostInOrder_0_13_L103 r23 r36 a2 a4 a5 s0 s1 M)) := by
  unfold f10_mostInOrder_0_13_L103
  refine q_iast w_PM rfl rfl 16 21 rfl (fun M5 => ?_)
  refine r_ld (.iload 5) 2 0 5 (.int (a5)) rfl rfl rfl rfl 106 rfl ?_
  refine r_st (.istore_n 3) 1 0 3 rfl rfl rfl 107 rfl [some (.ref 0), some (.ref 13), some (.int (a2)), some (.int (a5)), some (.int (a4)), some (.int (a5)), none] rfl ?_
  refine q_inc w_PM 4 (1) (a4) rfl rfl rfl 110 rfl (1) cd_kj1 (fun x6 => [some (.ref 0), some (.ref 13), some (.int (a2)), some (.int (a5)), some (.int (x6)), some (.int (a5)), none]) (fun _ => rfl) (fun x6 => ?_)
  refine r_go (.goto (-74)) 3 rfl rfl rfl 36 [] rfl ?_
  exact r_w (h36 a2 a5 x6 M5) (cd_le_s (cd_le_s (cd_le_s (cd_le_s (cd_le_s (cd_le_n (cd_le_n cd_le_0)))))))
def f10_mostInOrder_0_13_L36 (r23 : Int32 → cd_M → Option (Int32 × cd_M)) : Nat → Int32 → Int32 → Int32 → cd_M → Option (Int32 × cd_M)
  | 0, _, _, _, _ => none
  | n + 1, a2, a3, a4, M => if f1_size_5 M < a4 then (cd_lt (a2 + (1)) fun x1 => r23 x1 M) else (if cd_in a4 21 = true then (cd_lt (M.1 16 a4.toNatClampNeg) fun x2 => (f1_isSame_5_13 (a4 - 1) a2 M).bind fun v3 => if v3 = 0 then (if cd_in (a4 - 1) 21 = true then (f10_mostInOrder_0_13_L103 r23 (f10_mostInOrder_0_13_L36 r23 n) a2 a4 x2 (if x2 < (M.1 16 (a4 - 1 : Int32).toNatClampNeg) then (M.1 16 (a4 - 1 : Int32).toNatClampNeg) else x2) a4 M) else none) else (f10_mostInOrder_0_13_L103 r23 (f10_mostInOrder_0_13_L36 r23 n) a2 a4 x2 (a3 + 1) a4 M)) else none)
set_option maxRecDepth 8000 in
theorem k10_mostInOrder_0_13_L36 (r23 : Int32 → cd_M → Option (Int32 × cd_M)) (h23 : ∀ (a2 : Int32) (M : cd_M), cd_R 154 23 [some (.ref 0), some (.ref 13), some (.int (a2)), none, none, none, none] [] M (w_PM (r23 a2 M))) : ∀ (n : Nat) (a2 : Int32) (a3 : Int32) (a4 : Int32) (M : cd_M), cd_R 154 36 [some (.ref 0), some (.ref 13), some (.int (a2)), some (.int (a3)), some (.int (a4)), none, none] [] M (w_PM (f10_mostInOrder_0_13_L36 r23 n a2 a3 a4 M)) := by
  intro n
  induction n with
  | zero =>
    intro a2 a3 a4 M
    exact q_none w_PM rfl
  | succ n ih =>
    intro a2 a3 a4 M
    rw [f10_mostInOrder_0_13_L36]
    refine r_ld (.iload 4) 2 0 4 (.int (a4)) rfl rfl rfl rfl 38 rfl ?_
    refine r_ld (.aload_n 0) 1 2 0 (.ref 0) rfl rfl rfl rfl 39 rfl ?_
    refine r_go (.getfield 21) 3 rfl rfl rfl 42 [.ref 5, .int (a4)] rfl ?_
    refine q_cTI (.invokevirtual 125) rfl rfl rfl 13 [.ref 5] [.int (a4)] rfl (k1_size_5 M) ?_
    refine q_br w_PM (.if_icmp .gt 68) 3 rfl rfl rfl (f1_size_5 M < a4) 113 48 [] rfl (fun _ => ?_) (fun _ => ?_)
    · refine q_inc w_PM 2 (1) (a2) rfl rfl rfl 116 rfl (1) cd_kj1 (fun x1 => [some (.ref 0), some (.ref 13), some (.int (x1)), some (.int (a3)), some (.int (a4)), none, none]) (fun _ => rfl) (fun x1 => ?_)
      refine r_go (.goto (-93)) 3 rfl rfl rfl 23 [] rfl ?_
      exact r_w (h23 x1 M) (cd_le_s (cd_le_s (cd_le_s (cd_le_n (cd_le_n (cd_le_n (cd_le_n cd_le_0)))))))
    · refine r_ld (.aload_n 0) 1 2 0 (.ref 0) rfl rfl rfl rfl 49 rfl ?_
      refine r_go (.getfield 70) 3 rfl rfl rfl 52 [.ref 16] rfl ?_
      refine r_ld (.iload 4) 2 0 4 (.int (a4)) rfl rfl rfl rfl 54 rfl ?_
      refine q_iald w_PM rfl rfl 16 21 rfl ?_
      refine q_stB w_PM (.istore 5) 2 0 5 rfl rfl (fun _ => rfl) 57 rfl (fun x2 => [some (.ref 0), some (.ref 13), some (.int (a2)), some (.int (a3)), some (.int (a4)), some (.int (x2)), none]) (fun _ => rfl) (fun x2 => ?_)
      refine r_ld (.aload_n 0) 1 2 0 (.ref 0) rfl rfl rfl rfl 58 rfl ?_
      refine r_go (.getfield 21) 3 rfl rfl rfl 61 [.ref 5] rfl ?_
      refine r_ld (.iload 4) 2 0 4 (.int (a4)) rfl rfl rfl rfl 63 rfl ?_
      refine q_const (.iconst 1) 1 rfl rfl rfl 64 (1) _ rfl cd_kj1 ?_
      refine r_go (.isub) 1 rfl rfl rfl 65 [.int (a4 - 1), .ref 5] rfl ?_
      refine r_ld (.aload_n 1) 1 2 1 (.ref 13) rfl rfl rfl rfl 66 rfl ?_
      refine r_ld (.iload_n 2) 1 0 2 (.int (a2)) rfl rfl rfl rfl 67 rfl ?_
      refine q_cIz w_PM rfl (.invokevirtual 283) rfl rfl rfl 17 rfl [.ref 5, .int (a4 - 1), .ref 13, .int (a2)] [] rfl (k1_isSame_5_13 (a4 - 1) a2 M) (fun v3 z4 => ?_)
      refine r_st (.istore 6) 2 0 6 rfl rfl rfl 72 rfl [some (.ref 0), some (.ref 13), some (.int (a2)), some (.int (a3)), some (.int (a4)), some (.int (x2)), some (.int (v3))] rfl ?_
      refine r_ld (.aload_n 0) 1 2 0 (.ref 0) rfl rfl rfl rfl 73 rfl ?_
      refine r_go (.getfield 70) 3 rfl rfl rfl 76 [.ref 16] rfl ?_
      refine r_ld (.iload 4) 2 0 4 (.int (a4)) rfl rfl rfl rfl 78 rfl ?_
      refine r_ld (.iload 6) 2 0 6 (.int (v3)) rfl rfl rfl rfl 80 rfl ?_
      refine q_br w_PM (.ifCond .eq 9) 3 rfl rfl rfl (v3 = 0) 89 83 [.int (a4), .ref 16] rfl (fun _ => ?_) (fun _ => ?_)
      · refine r_ld (.iload 5) 2 0 5 (.int (x2)) rfl rfl rfl rfl 91 rfl ?_
        refine r_ld (.aload_n 0) 1 2 0 (.ref 0) rfl rfl rfl rfl 92 rfl ?_
        refine r_go (.getfield 70) 3 rfl rfl rfl 95 [.ref 16, .int (x2), .int (a4), .ref 16] rfl ?_
        refine r_ld (.iload 4) 2 0 4 (.int (a4)) rfl rfl rfl rfl 97 rfl ?_
        refine q_const (.iconst 1) 1 rfl rfl rfl 98 (1) _ rfl cd_kj1 ?_
        refine r_go (.isub) 1 rfl rfl rfl 99 [.int (a4 - 1), .ref 16, .int (x2), .int (a4), .ref 16] rfl ?_
        refine q_iald w_PM rfl rfl 16 21 rfl ?_
        refine r_go (.invokestatic 325) 3 rfl rfl rfl 103 [.int (if x2 < (M.1 16 (a4 - 1 : Int32).toNatClampNeg) then (M.1 16 (a4 - 1 : Int32).toNatClampNeg) else x2), .int (a4), .ref 16] rfl ?_
        exact r_w (k10_mostInOrder_0_13_L103 r23 h23 (f10_mostInOrder_0_13_L36 r23 n) ih a2 a4 x2 (if x2 < (M.1 16 (a4 - 1 : Int32).toNatClampNeg) then (M.1 16 (a4 - 1 : Int32).toNatClampNeg) else x2) a4 M) (cd_le_s (cd_le_s (cd_le_s (cd_le_n (cd_le_s (cd_le_s (cd_le_n cd_le_0)))))))
      · refine r_ld (.iload_n 3) 1 0 3 (.int (a3)) rfl rfl rfl rfl 84 rfl ?_
        refine q_const (.iconst 1) 1 rfl rfl rfl 85 (1) _ rfl cd_kj1 ?_
        refine r_go (.iadd) 1 rfl rfl rfl 86 [.int (a3 + 1), .int (a4), .ref 16] rfl ?_
        refine r_go (.goto 17) 3 rfl rfl rfl 103 [.int (a3 + 1), .int (a4), .ref 16] rfl ?_
        exact r_w (k10_mostInOrder_0_13_L103 r23 h23 (f10_mostInOrder_0_13_L36 r23 n) ih a2 a4 x2 (a3 + 1) a4 M) (cd_le_s (cd_le_s (cd_le_s (cd_le_n (cd_le_s (cd_le_s (cd_le_n cd_le_0)))))))
def f10_mostInOrder_0_13_L23 : Nat → Int32 → cd_M → Option (Int32 × cd_M)
  | 0, _, _ => none
  | n + 1, a2, M => if f1_size_13 M ≤ a2 then (if cd_in (f1_size_5 M) 21 = true then (some (M.1 16 (f1_size_5 M : Int32).toNatClampNeg, M)) else none) else (f10_mostInOrder_0_13_L36 (f10_mostInOrder_0_13_L23 n) cd_fu a2 0 1 M)
set_option maxRecDepth 8000 in
theorem k10_mostInOrder_0_13_L23 : ∀ (n : Nat) (a2 : Int32) (M : cd_M), cd_R 154 23 [some (.ref 0), some (.ref 13), some (.int (a2)), none, none, none, none] [] M (w_PM (f10_mostInOrder_0_13_L23 n a2 M)) := by
  intro n
  induction n with
  | zero =>
    intro a2 M
    exact q_none w_PM rfl
  | succ n ih =>
    intro a2 M
    rw [f10_mostInOrder_0_13_L23]
    refine r_ld (.iload_n 2) 1 0 2 (.int (a2)) rfl rfl rfl rfl 24 rfl ?_
    refine r_ld (.aload_n 1) 1 2 1 (.ref 13) rfl rfl rfl rfl 25 rfl ?_
    refine q_cTI (.invokevirtual 125) rfl rfl rfl 13 [.ref 13] [.int (a2)] rfl (k1_size_13 M) ?_
    refine q_br w_PM (.if_icmp .ge 91) 3 rfl rfl rfl (f1_size_13 M ≤ a2) 119 31 [] rfl (fun _ => ?_) (fun _ => ?_)
    · refine r_ld (.aload_n 0) 1 2 0 (.ref 0) rfl rfl rfl rfl 120 rfl ?_
      refine r_go (.getfield 70) 3 rfl rfl rfl 123 [.ref 16] rfl ?_
      refine r_ld (.aload_n 0) 1 2 0 (.ref 0) rfl rfl rfl rfl 124 rfl ?_
      refine r_go (.getfield 21) 3 rfl rfl rfl 127 [.ref 5, .ref 16] rfl ?_
      refine q_cTI (.invokevirtual 125) rfl rfl rfl 13 [.ref 5] [.ref 16] rfl (k1_size_5 M) ?_
      refine q_iald w_PM rfl rfl 16 21 rfl ?_
      exact r_ret .ireturn 1 rfl rfl rfl _ rfl
    · refine q_const (.iconst 0) 1 rfl rfl rfl 32 (0) _ rfl cd_kj0 ?_
      refine r_st (.istore_n 3) 1 0 3 rfl rfl rfl 33 rfl [some (.ref 0), some (.ref 13), some (.int (a2)), some (.int (0)), none, none, none] rfl ?_
      refine q_const (.iconst 1) 1 rfl rfl rfl 34 (1) _ rfl cd_kj1 ?_
      refine r_st (.istore 4) 2 0 4 rfl rfl rfl 36 rfl [some (.ref 0), some (.ref 13), some (.int (a2)), some (.int (0)), some (.int (1)), none, none] rfl ?_
      exact r_w (k10_mostInOrder_0_13_L36 (f10_mostInOrder_0_13_L23 n) ih cd_fu a2 0 1 M) (cd_le_s (cd_le_s (cd_le_s (cd_le_s (cd_le_s (cd_le_n (cd_le_n cd_le_0)))))))
def f10_mostInOrder_0_13_L2 : Nat → Int32 → cd_M → Option (Int32 × cd_M)
  | 0, _, _ => none
  | n + 1, a2, M => if 20 < a2 then (f10_mostInOrder_0_13_L23 cd_fu 0 M) else (if cd_in a2 21 = true then (cd_lt (cd_wI M 16 a2.toNatClampNeg 0) fun M7 => cd_lt (a2 + (1)) fun x8 => f10_mostInOrder_0_13_L2 n x8 M7) else none)
set_option maxRecDepth 8000 in
theorem k10_mostInOrder_0_13_L2 : ∀ (n : Nat) (a2 : Int32) (M : cd_M), cd_R 154 2 [some (.ref 0), some (.ref 13), some (.int (a2)), none, none, none, none] [] M (w_PM (f10_mostInOrder_0_13_L2 n a2 M)) := by
  intro n
  induction n with
  | zero =>
    intro a2 M
    exact q_none w_PM rfl
  | succ n ih =>
    intro a2 M
    rw [f10_mostInOrder_0_13_L2]
    refine r_ld (.iload_n 2) 1 0 2 (.int (a2)) rfl rfl rfl rfl 3 rfl ?_
    refine q_const (.bipush 20) 2 rfl rfl rfl 5 (20) _ rfl cd_kc20 ?_
    refine q_br w_PM (.if_icmp .gt 16) 3 rfl rfl rfl (20 < a2) 21 8 [] rfl (fun _ => ?_) (fun _ => ?_)
    · refine q_const (.iconst 0) 1 rfl rfl rfl 22 (0) _ rfl cd_kj0 ?_
      refine r_st (.istore_n 2) 1 0 2 rfl rfl rfl 23 rfl [some (.ref 0), some (.ref 13), some (.int (0)), none, none, none, none] rfl ?_
      exact r_w (k10_mostInOrder_0_13_L23 cd_fu 0 M) (cd_le_s (cd_le_s (cd_le_s (cd_le_n (cd_le_n (cd_le_n (cd_le_n cd_le_0)))))))
    · refine r_ld (.aload_n 0) 1 2 0 (.ref 0) rfl rfl rfl rfl 9 rfl ?_
      refine r_go (.getfield 70) 3 rfl rfl rfl 12 [.ref 16] rfl ?_
      refine r_ld (.iload_n 2) 1 0 2 (.int (a2)) rfl rfl rfl rfl 13 rfl ?_
      refine q_const (.iconst 0) 1 rfl rfl rfl 14 (0) _ rfl cd_kj0 ?_
      refine q_iast w_PM rfl rfl 16 21 rfl (fun M7 => ?_)
      refine q_inc w_PM 2 (1) (a2) rfl rfl rfl 18 rfl (1) cd_kj1 (fun x8 => [some (.ref 0), some (.ref 13), some (.int (x8)), none, none, none, none]) (fun _ => rfl) (fun x8 => ?_)
      refine r_go (.goto (-16)) 3 rfl rfl rfl 2 [] rfl ?_
      exact r_w (ih x8 M7) (cd_le_s (cd_le_s (cd_le_s (cd_le_n (cd_le_n (cd_le_n (cd_le_n cd_le_0)))))))
def f10_mostInOrder_0_13 (M : cd_M) : Option (Int32 × cd_M) := f10_mostInOrder_0_13_L2 cd_fu 0 M
set_option maxRecDepth 8000 in
theorem k10_mostInOrder_0_13 (M : cd_M) : cd_R 154 0 [some (.ref 0), some (.ref 13), none, none, none, none, none] [] M (w_PM (f10_mostInOrder_0_13 M)) := by
  unfold f10_mostInOrder_0_13
  refine q_const (.iconst 0) 1 rfl rfl rfl 1 (0) _ rfl cd_kj0 ?_
  refine r_st (.istore_n 2) 1 0 2 rfl rfl rfl 2 rfl [some (.ref 0), some (.ref 13), some (.int (0)), none, none, none, none] rfl ?_
  exact r_w (k10_mostInOrder_0_13_L2 cd_fu 0 M) (cd_le_s (cd_le_s (cd_le_s (cd_le_n (cd_le_n (cd_le_n (cd_le_n cd_le_0)))))))
def f10_restored_0 (M : cd_M) : Option (Int32 × cd_M) := if f1_size_5 M = 0 then (some ((-1), M)) else ((f10_followPath_0 M).bind fun M1 => (f10_mostInOrder_0_13 M1).bind (cd_u2 fun v3 M2 => some (v3, M2)))
set_option maxRecDepth 8000 in
theorem k10_restored_0 (M : cd_M) : cd_R 145 0 [some (.ref 0)] [] M (w_PM (f10_restored_0 M)) := by
  unfold f10_restored_0
  refine r_ld (.aload_n 0) 1 2 0 (.ref 0) rfl rfl rfl rfl 1 rfl ?_
  refine r_go (.getfield 21) 3 rfl rfl rfl 4 [.ref 5] rfl ?_
  refine q_cTI (.invokevirtual 125) rfl rfl rfl 13 [.ref 5] [] rfl (k1_size_5 M) ?_
  refine q_br w_PM (.ifCond .ne 5) 3 rfl rfl rfl (f1_size_5 M = 0) 10 12 [] rfl (fun _ => ?_) (fun _ => ?_)
  · refine q_const (.iconst (-1)) 1 rfl rfl rfl 11 (-1) _ rfl cd_kjm1 ?_
    exact r_ret .ireturn 1 rfl rfl rfl _ rfl
  · refine r_ld (.aload_n 0) 1 2 0 (.ref 0) rfl rfl rfl rfl 13 rfl ?_
    refine q_cV w_PM rfl (.invokevirtual 224) rfl rfl rfl 153 [.ref 0] [] rfl (k10_followPath_0 M) (fun M1 => ?_)
    refine r_ld (.aload_n 0) 1 2 0 (.ref 0) rfl rfl rfl rfl 17 rfl ?_
    refine r_ld (.aload_n 0) 1 2 0 (.ref 0) rfl rfl rfl rfl 18 rfl ?_
    refine r_go (.getfield 63) 3 rfl rfl rfl 21 [.ref 12, .ref 0] rfl ?_
    refine q_cTR (.invokevirtual 267) rfl rfl rfl 30 [.ref 12] [.ref 0] rfl (k2_frames_12 M1) ?_
    refine q_cM w_PM rfl (.invokevirtual 287) rfl rfl rfl 154 [.ref 0, .ref 13] [] rfl (k10_mostInOrder_0_13 M1) (fun v3 M2  => ?_)
    exact r_ret .ireturn 1 rfl rfl rfl _ rfl
def f0_costBy_9_7_6_L27 (a3 : Int32) (M : cd_M) : Option (Int32 × cd_M) := if cd_in a3 4 = true then (some (M.1 36 a3.toNatClampNeg, M)) else none
set_option maxRecDepth 8000 in
theorem k0_costBy_9_7_6_L27 (a3 : Int32) (M : cd_M) : cd_R 2 27 [some (.ref 9), none, none, some (.int (a3))] [] M (w_PM (f0_costBy_9_7_6_L27 a3 M)) := by
  unfold f0_costBy_9_7_6_L27
  refine r_ld (.aload_n 0) 1 2 0 (.ref 9) rfl rfl rfl rfl 28 rfl ?_
  refine r_go (.getfield 40) 3 rfl rfl rfl 31 [.ref 36] rfl ?_
  refine r_ld (.iload_n 3) 1 0 3 (.int (a3)) rfl rfl rfl rfl 32 rfl ?_
  refine q_iald w_PM rfl rfl 36 4 rfl ?_
  exact r_ret .ireturn 1 rfl rfl rfl _ rfl
def f0_costBy_9_7_6 (a3 : Int32) (M : cd_M) : Option (Int32 × cd_M) := if a3 < 0 then (some (0, M)) else (if a3 < 4 then (if cd_in a3 4 = true then (if M.1 35 a3.toNatClampNeg = 0 then ((f0_solve_9_7_6 a3 M).bind fun M1 => f0_costBy_9_7_6_L27 a3 M1) else (f0_costBy_9_7_6_L27 a3 M)) else none) else (some (0, M)))
set_option maxRecDepth 8000 in
theorem k0_costBy_9_7_6 (a3 : Int32) (M : cd_M) : cd_R 2 0 [some (.ref 9), some (.ref 7), some (.ref 6), some (.int (a3))] [] M (w_PM (f0_costBy_9_7_6 a3 M)) := by
  unfold f0_costBy_9_7_6
  refine r_ld (.iload_n 3) 1 0 3 (.int (a3)) rfl rfl rfl rfl 1 rfl ?_
  refine q_br w_PM (.ifCond .lt 8) 3 rfl rfl rfl (a3 < 0) 9 4 [] rfl (fun _ => ?_) (fun _ => ?_)
  · refine q_const (.iconst 0) 1 rfl rfl rfl 10 (0) _ rfl cd_kj0 ?_
    exact r_ret .ireturn 1 rfl rfl rfl _ rfl
  · refine r_ld (.iload_n 3) 1 0 3 (.int (a3)) rfl rfl rfl rfl 5 rfl ?_
    refine q_const (.iconst 4) 1 rfl rfl rfl 6 (4) _ rfl cd_kj4 ?_
    refine q_br w_PM (.if_icmp .lt 5) 3 rfl rfl rfl (a3 < 4) 11 9 [] rfl (fun _ => ?_) (fun _ => ?_)
    · refine r_ld (.aload_n 0) 1 2 0 (.ref 9) rfl rfl rfl rfl 12 rfl ?_
      refine r_go (.getfield 36) 3 rfl rfl rfl 15 [.ref 35] rfl ?_
      refine r_ld (.iload_n 3) 1 0 3 (.int (a3)) rfl rfl rfl rfl 16 rfl ?_
      refine q_bald w_PM rfl rfl 35 4 23 rfl rfl (by decide) ?_
      refine q_br w_PM (.ifCond .ne 10) 3 rfl rfl rfl (M.1 35 a3.toNatClampNeg = 0) 20 27 [] rfl (fun _ => ?_) (fun _ => ?_)
      · refine r_ld (.aload_n 0) 1 2 0 (.ref 9) rfl rfl rfl rfl 21 rfl ?_
        refine r_ld (.aload_n 1) 1 2 1 (.ref 7) rfl rfl rfl rfl 22 rfl ?_
        refine r_ld (.aload_n 2) 1 2 2 (.ref 6) rfl rfl rfl rfl 23 rfl ?_
        refine r_ld (.iload_n 3) 1 0 3 (.int (a3)) rfl rfl rfl rfl 24 rfl ?_
        refine q_cV w_PM rfl (.invokevirtual 49) rfl rfl rfl 7 [.ref 9, .ref 7, .ref 6, .int (a3)] [] rfl (k0_solve_9_7_6 a3 M) (fun M1 => ?_)
        exact r_w (k0_costBy_9_7_6_L27 a3 M1) (cd_le_s (cd_le_n (cd_le_n (cd_le_s cd_le_0))))
      · exact r_w (k0_costBy_9_7_6_L27 a3 M) (cd_le_s (cd_le_n (cd_le_n (cd_le_s cd_le_0))))
    · refine q_const (.iconst 0) 1 rfl rfl rfl 10 (0) _ rfl cd_kj0 ?_
      exact r_ret .ireturn 1 rfl rfl rfl _ rfl
def f10_costs_0 (a1 : Int32) (M : cd_M) : Option (Int32 × cd_M) := if f5_hasCadence_6 a1 M = 0 then (some ((-1), M)) else ((f0_costBy_9_7_6 a1 M).bind (cd_u2 fun v3 M2 => some (v3, M2)))
set_option maxRecDepth 8000 in
theorem k10_costs_0 (a1 : Int32) (M : cd_M) : cd_R 146 0 [some (.ref 0), some (.int (a1))] [] M (w_PM (f10_costs_0 a1 M)) := by
  unfold f10_costs_0
  refine r_ld (.aload_n 0) 1 2 0 (.ref 0) rfl rfl rfl rfl 1 rfl ?_
  refine r_go (.getfield 28) 3 rfl rfl rfl 4 [.ref 6] rfl ?_
  refine r_ld (.iload_n 1) 1 0 1 (.int (a1)) rfl rfl rfl rfl 5 rfl ?_
  refine q_cTIz (.invokevirtual 143) rfl rfl rfl 61 rfl [.ref 6, .int (a1)] [] rfl (k5_hasCadence_6 a1 M) (fun z1 => ?_)
  refine q_br w_PM (.ifCond .eq 22) 3 rfl rfl rfl (f5_hasCadence_6 a1 M = 0) 30 11 [] rfl (fun _ => ?_) (fun _ => ?_)
  · refine q_const (.iconst (-1)) 1 rfl rfl rfl 31 (-1) _ rfl cd_kjm1 ?_
    exact r_ret .ireturn 1 rfl rfl rfl _ rfl
  · refine r_ld (.aload_n 0) 1 2 0 (.ref 0) rfl rfl rfl rfl 12 rfl ?_
    refine r_go (.getfield 49) 3 rfl rfl rfl 15 [.ref 9] rfl ?_
    refine r_ld (.aload_n 0) 1 2 0 (.ref 0) rfl rfl rfl rfl 16 rfl ?_
    refine r_go (.getfield 35) 3 rfl rfl rfl 19 [.ref 7, .ref 9] rfl ?_
    refine r_ld (.aload_n 0) 1 2 0 (.ref 0) rfl rfl rfl rfl 20 rfl ?_
    refine r_go (.getfield 28) 3 rfl rfl rfl 23 [.ref 6, .ref 7, .ref 9] rfl ?_
    refine r_ld (.iload_n 1) 1 0 1 (.int (a1)) rfl rfl rfl rfl 24 rfl ?_
    refine q_cM w_PM rfl (.invokevirtual 291) rfl rfl rfl 2 [.ref 9, .ref 7, .ref 6, .int (a1)] [] rfl (k0_costBy_9_7_6 a1 M) (fun v3 M2  => ?_)
    refine r_go (.goto 4) 3 rfl rfl rfl 31 [.int (v3)] rfl ?_
    exact r_ret .ireturn 1 rfl rfl rfl _ rfl
def f0_firstStep_9 (a1 : Int32) (M : cd_M) : Option (Int32) := if a1 < 0 then (some 0) else (if 4 ≤ a1 then (some 0) else (if cd_in a1 4 = true then (some (M.1 38 a1.toNatClampNeg)) else none))
set_option maxRecDepth 8000 in
theorem k0_firstStep_9 (a1 : Int32) (M : cd_M) : cd_R 4 0 [some (.ref 9), some (.int (a1))] [] M ((w_PI M) (f0_firstStep_9 a1 M)) := by
  unfold f0_firstStep_9
  refine r_ld (.iload_n 1) 1 0 1 (.int (a1)) rfl rfl rfl rfl 1 rfl ?_
  refine q_br (w_PI M) (.ifCond .lt 17) 3 rfl rfl rfl (a1 < 0) 18 4 [] rfl (fun _ => ?_) (fun _ => ?_)
  · refine q_const (.iconst 0) 1 rfl rfl rfl 19 (0) _ rfl cd_kj0 ?_
    exact r_ret .ireturn 1 rfl rfl rfl _ rfl
  · refine r_ld (.iload_n 1) 1 0 1 (.int (a1)) rfl rfl rfl rfl 5 rfl ?_
    refine q_const (.iconst 4) 1 rfl rfl rfl 6 (4) _ rfl cd_kj4 ?_
    refine q_br (w_PI M) (.if_icmp .ge 12) 3 rfl rfl rfl (4 ≤ a1) 18 9 [] rfl (fun _ => ?_) (fun _ => ?_)
    · refine q_const (.iconst 0) 1 rfl rfl rfl 19 (0) _ rfl cd_kj0 ?_
      exact r_ret .ireturn 1 rfl rfl rfl _ rfl
    · refine r_ld (.aload_n 0) 1 2 0 (.ref 9) rfl rfl rfl rfl 10 rfl ?_
      refine r_go (.getfield 46) 3 rfl rfl rfl 13 [.ref 38] rfl ?_
      refine r_ld (.iload_n 1) 1 0 1 (.int (a1)) rfl rfl rfl rfl 14 rfl ?_
      refine q_iald (w_PI M) rfl rfl 38 4 rfl ?_
      refine r_go (.goto 4) 3 rfl rfl rfl 19 [.int (M.1 38 a1.toNatClampNeg)] rfl ?_
      exact r_ret .ireturn 1 rfl rfl rfl _ rfl
def f0_firstPlace_9 (a1 : Int32) (M : cd_M) : Option (Int32) := if a1 < 0 then (some 0) else (if 4 ≤ a1 then (some 0) else (if cd_in a1 4 = true then (some (M.1 37 a1.toNatClampNeg)) else none))
set_option maxRecDepth 8000 in
theorem k0_firstPlace_9 (a1 : Int32) (M : cd_M) : cd_R 3 0 [some (.ref 9), some (.int (a1))] [] M ((w_PI M) (f0_firstPlace_9 a1 M)) := by
  unfold f0_firstPlace_9
  refine r_ld (.iload_n 1) 1 0 1 (.int (a1)) rfl rfl rfl rfl 1 rfl ?_
  refine q_br (w_PI M) (.ifCond .lt 17) 3 rfl rfl rfl (a1 < 0) 18 4 [] rfl (fun _ => ?_) (fun _ => ?_)
  · refine q_const (.iconst 0) 1 rfl rfl rfl 19 (0) _ rfl cd_kj0 ?_
    exact r_ret .ireturn 1 rfl rfl rfl _ rfl
  · refine r_ld (.iload_n 1) 1 0 1 (.int (a1)) rfl rfl rfl rfl 5 rfl ?_
    refine q_const (.iconst 4) 1 rfl rfl rfl 6 (4) _ rfl cd_kj4 ?_
    refine q_br (w_PI M) (.if_icmp .ge 12) 3 rfl rfl rfl (4 ≤ a1) 18 9 [] rfl (fun _ => ?_) (fun _ => ?_)
    · refine q_const (.iconst 0) 1 rfl rfl rfl 19 (0) _ rfl cd_kj0 ?_
      exact r_ret .ireturn 1 rfl rfl rfl _ rfl
    · refine r_ld (.aload_n 0) 1 2 0 (.ref 9) rfl rfl rfl rfl 10 rfl ?_
      refine r_go (.getfield 43) 3 rfl rfl rfl 13 [.ref 37] rfl ?_
      refine r_ld (.iload_n 1) 1 0 1 (.int (a1)) rfl rfl rfl rfl 14 rfl ?_
      refine q_iald (w_PI M) rfl rfl 37 4 rfl ?_
      refine r_go (.goto 4) 3 rfl rfl rfl 19 [.int (M.1 37 a1.toNatClampNeg)] rfl ?_
      exact r_ret .ireturn 1 rfl rfl rfl _ rfl
def f10_guess_0_L52 (r4 : Int32 → Int32 → Int32 → cd_M → Option (Int32 × cd_M)) (a1 : Int32) (a2 : Int32) (a3 : Int32) (M : cd_M) : Option (Int32 × cd_M) := cd_lt (a3 + (1)) fun x9 => r4 a1 a2 x9 M
set_option maxRecDepth 8000 in
theorem k10_guess_0_L52 (r4 : Int32 → Int32 → Int32 → cd_M → Option (Int32 × cd_M)) (h4 : ∀ (a1 : Int32) (a2 : Int32) (a3 : Int32) (M : cd_M), cd_R 147 4 [some (.ref 0), some (.int (a1)), some (.int (a2)), some (.int (a3))] [] M (w_PM (r4 a1 a2 a3 M))) (a1 : Int32) (a2 : Int32) (a3 : Int32) (M : cd_M) : cd_R 147 52 [some (.ref 0), some (.int (a1)), some (.int (a2)), some (.int (a3))] [] M (w_PM (f10_guess_0_L52 r4 a1 a2 a3 M)) := by
  unfold f10_guess_0_L52
  refine q_inc w_PM 3 (1) (a3) rfl rfl rfl 55 rfl (1) cd_kj1 (fun x9 => [some (.ref 0), some (.int (a1)), some (.int (a2)), some (.int (x9))]) (fun _ => rfl) (fun x9 => ?_)
  refine r_go (.goto (-51)) 3 rfl rfl rfl 4 [] rfl ?_
  exact r_w (h4 a1 a2 x9 M) (cd_le_s (cd_le_s (cd_le_s (cd_le_s cd_le_0))))
def f10_guess_0_L4 : Nat → Int32 → Int32 → Int32 → cd_M → Option (Int32 × cd_M)
  | 0, _, _, _, _ => none
  | n + 1, a1, a2, a3, M => if f5_cadences_6 M ≤ a3 then (if a1 = 0 then (some (a2, M)) else (if f4_size_7 M = 0 then (some ((-1), M)) else (if a1 = 1 then ((f0_firstPlace_9 a2 M).bind fun v1 => some (v1, M)) else (if a1 = 2 then ((f0_firstStep_9 a2 M).bind fun v2 => some (v2, M)) else (some ((-1), M)))))) else ((f0_costBy_9_7_6 a3 M).bind (cd_u2 fun v4 M3 => (f0_costBy_9_7_6 a2 M3).bind (cd_u2 fun v7 M6 => if v7 ≤ v4 then (f10_guess_0_L52 (f10_guess_0_L4 n) a1 a2 a3 M6) else (f10_guess_0_L52 (f10_guess_0_L4 n) a1 a3 a3 M6))))
set_option maxRecDepth 8000 in
theorem k10_guess_0_L4 : ∀ (n : Nat) (a1 : Int32) (a2 : Int32) (a3 : Int32) (M : cd_M), cd_R 147 4 [some (.ref 0), some (.int (a1)), some (.int (a2)), some (.int (a3))] [] M (w_PM (f10_guess_0_L4 n a1 a2 a3 M)) := by
  intro n
  induction n with
  | zero =>
    intro a1 a2 a3 M
    exact q_none w_PM rfl
  | succ n ih =>
    intro a1 a2 a3 M
    rw [f10_guess_0_L4]
    refine r_ld (.iload_n 3) 1 0 3 (.int (a3)) rfl rfl rfl rfl 5 rfl ?_
    refine r_ld (.aload_n 0) 1 2 0 (.ref 0) rfl rfl rfl rfl 6 rfl ?_
    refine r_go (.getfield 28) 3 rfl rfl rfl 9 [.ref 6, .int (a3)] rfl ?_
    refine q_cTI (.invokevirtual 136) rfl rfl rfl 60 [.ref 6] [.int (a3)] rfl (k5_cadences_6 M) ?_
    refine q_br w_PM (.if_icmp .ge 46) 3 rfl rfl rfl (f5_cadences_6 M ≤ a3) 58 15 [] rfl (fun _ => ?_) (fun _ => ?_)
    · refine r_ld (.iload_n 1) 1 0 1 (.int (a1)) rfl rfl rfl rfl 59 rfl ?_
      refine q_br w_PM (.ifCond .ne 5) 3 rfl rfl rfl (a1 = 0) 62 64 [] rfl (fun _ => ?_) (fun _ => ?_)
      · refine r_ld (.iload_n 2) 1 0 2 (.int (a2)) rfl rfl rfl rfl 63 rfl ?_
        exact r_ret .ireturn 1 rfl rfl rfl _ rfl
      · refine r_ld (.aload_n 0) 1 2 0 (.ref 0) rfl rfl rfl rfl 65 rfl ?_
        refine r_go (.getfield 35) 3 rfl rfl rfl 68 [.ref 7] rfl ?_
        refine q_cTI (.invokevirtual 168) rfl rfl rfl 41 [.ref 7] [] rfl (k4_size_7 M) ?_
        refine q_br w_PM (.ifCond .ne 5) 3 rfl rfl rfl (f4_size_7 M = 0) 74 76 [] rfl (fun _ => ?_) (fun _ => ?_)
        · refine q_const (.iconst (-1)) 1 rfl rfl rfl 75 (-1) _ rfl cd_kjm1 ?_
          exact r_ret .ireturn 1 rfl rfl rfl _ rfl
        · refine r_ld (.iload_n 1) 1 0 1 (.int (a1)) rfl rfl rfl rfl 77 rfl ?_
          refine q_const (.iconst 1) 1 rfl rfl rfl 78 (1) _ rfl cd_kj1 ?_
          refine q_br w_PM (.if_icmp .ne 12) 3 rfl rfl rfl (a1 = 1) 81 90 [] rfl (fun _ => ?_) (fun _ => ?_)
          · refine r_ld (.aload_n 0) 1 2 0 (.ref 0) rfl rfl rfl rfl 82 rfl ?_
            refine r_go (.getfield 49) 3 rfl rfl rfl 85 [.ref 9] rfl ?_
            refine r_ld (.iload_n 2) 1 0 2 (.int (a2)) rfl rfl rfl rfl 86 rfl ?_
            refine q_cI w_PM rfl (.invokevirtual 295) rfl rfl rfl 3 [.ref 9, .int (a2)] [] rfl (k0_firstPlace_9 a2 M) (fun v1 => ?_)
            exact r_ret .ireturn 1 rfl rfl rfl _ rfl
          · refine r_ld (.iload_n 1) 1 0 1 (.int (a1)) rfl rfl rfl rfl 91 rfl ?_
            refine q_const (.iconst 2) 1 rfl rfl rfl 92 (2) _ rfl cd_kj2 ?_
            refine q_br w_PM (.if_icmp .ne 14) 3 rfl rfl rfl (a1 = 2) 95 106 [] rfl (fun _ => ?_) (fun _ => ?_)
            · refine r_ld (.aload_n 0) 1 2 0 (.ref 0) rfl rfl rfl rfl 96 rfl ?_
              refine r_go (.getfield 49) 3 rfl rfl rfl 99 [.ref 9] rfl ?_
              refine r_ld (.iload_n 2) 1 0 2 (.int (a2)) rfl rfl rfl rfl 100 rfl ?_
              refine q_cI w_PM rfl (.invokevirtual 298) rfl rfl rfl 4 [.ref 9, .int (a2)] [] rfl (k0_firstStep_9 a2 M) (fun v2 => ?_)
              refine r_go (.goto 4) 3 rfl rfl rfl 107 [.int (v2)] rfl ?_
              exact r_ret .ireturn 1 rfl rfl rfl _ rfl
            · refine q_const (.iconst (-1)) 1 rfl rfl rfl 107 (-1) _ rfl cd_kjm1 ?_
              exact r_ret .ireturn 1 rfl rfl rfl _ rfl
    · refine r_ld (.aload_n 0) 1 2 0 (.ref 0) rfl rfl rfl rfl 16 rfl ?_
      refine r_go (.getfield 49) 3 rfl rfl rfl 19 [.ref 9] rfl ?_
      refine r_ld (.aload_n 0) 1 2 0 (.ref 0) rfl rfl rfl rfl 20 rfl ?_
      refine r_go (.getfield 35) 3 rfl rfl rfl 23 [.ref 7, .ref 9] rfl ?_
      refine r_ld (.aload_n 0) 1 2 0 (.ref 0) rfl rfl rfl rfl 24 rfl ?_
      refine r_go (.getfield 28) 3 rfl rfl rfl 27 [.ref 6, .ref 7, .ref 9] rfl ?_
      refine r_ld (.iload_n 3) 1 0 3 (.int (a3)) rfl rfl rfl rfl 28 rfl ?_
      refine q_cM w_PM rfl (.invokevirtual 291) rfl rfl rfl 2 [.ref 9, .ref 7, .ref 6, .int (a3)] [] rfl (k0_costBy_9_7_6 a3 M) (fun v4 M3  => ?_)
      refine r_ld (.aload_n 0) 1 2 0 (.ref 0) rfl rfl rfl rfl 32 rfl ?_
      refine r_go (.getfield 49) 3 rfl rfl rfl 35 [.ref 9, .int (v4)] rfl ?_
      refine r_ld (.aload_n 0) 1 2 0 (.ref 0) rfl rfl rfl rfl 36 rfl ?_
      refine r_go (.getfield 35) 3 rfl rfl rfl 39 [.ref 7, .ref 9, .int (v4)] rfl ?_
      refine r_ld (.aload_n 0) 1 2 0 (.ref 0) rfl rfl rfl rfl 40 rfl ?_
      refine r_go (.getfield 28) 3 rfl rfl rfl 43 [.ref 6, .ref 7, .ref 9, .int (v4)] rfl ?_
      refine r_ld (.iload_n 2) 1 0 2 (.int (a2)) rfl rfl rfl rfl 44 rfl ?_
      refine q_cM w_PM rfl (.invokevirtual 291) rfl rfl rfl 2 [.ref 9, .ref 7, .ref 6, .int (a2)] [.int (v4)] rfl (k0_costBy_9_7_6 a2 M3) (fun v7 M6  => ?_)
      refine q_br w_PM (.if_icmp .ge 5) 3 rfl rfl rfl (v7 ≤ v4) 52 50 [] rfl (fun _ => ?_) (fun _ => ?_)
      · exact r_w (k10_guess_0_L52 (f10_guess_0_L4 n) ih a1 a2 a3 M6) (cd_le_s (cd_le_s (cd_le_s (cd_le_s cd_le_0))))
      · refine r_ld (.iload_n 3) 1 0 3 (.int (a3)) rfl rfl rfl rfl 51 rfl ?_
        refine r_st (.istore_n 2) 1 0 2 rfl rfl rfl 52 rfl [some (.ref 0), some (.int (a1)), some (.int (a3)), some (.int (a3))] rfl ?_
        exact r_w (k10_guess_0_L52 (f10_guess_0_L4 n) ih a1 a3 a3 M6) (cd_le_s (cd_le_s (cd_le_s (cd_le_s cd_le_0))))
def f10_guess_0 (a1 : Int32) (M : cd_M) : Option (Int32 × cd_M) := f10_guess_0_L4 cd_fu a1 0 0 M
set_option maxRecDepth 8000 in
theorem k10_guess_0 (a1 : Int32) (M : cd_M) : cd_R 147 0 [some (.ref 0), some (.int (a1)), none, none] [] M (w_PM (f10_guess_0 a1 M)) := by
  unfold f10_guess_0
  refine q_const (.iconst 0) 1 rfl rfl rfl 1 (0) _ rfl cd_kj0 ?_
  refine r_st (.istore_n 2) 1 0 2 rfl rfl rfl 2 rfl [some (.ref 0), some (.int (a1)), some (.int (0)), none] rfl ?_
  refine q_const (.iconst 0) 1 rfl rfl rfl 3 (0) _ rfl cd_kj0 ?_
  refine r_st (.istore_n 3) 1 0 3 rfl rfl rfl 4 rfl [some (.ref 0), some (.int (a1)), some (.int (0)), some (.int (0))] rfl ?_
  exact r_w (k10_guess_0_L4 cd_fu a1 0 0 M) (cd_le_s (cd_le_s (cd_le_s (cd_le_s cd_le_0))))
def f4_addField_14 (a1 : Int64) (a2 : Int32) (M : cd_M) : Option cd_M := if 90 ≤ M.1 14 1 then (some M) else (if cd_in (M.1 14 1) 90 = true then (cd_lt (cd_wL M 56 (M.1 14 1 : Int32).toNatClampNeg (a1 ||| ((a2.toInt64 : Int64) <<< ((42 : Int32).toInt64 &&& 63) : Int64))) fun M1 => cd_lt (cd_wI M1 14 1 ((M1.1 14 1) + 1)) fun M2 => some M2) else none)
set_option maxRecDepth 8000 in
theorem k4_addField_14 (a1 : Int64) (a2 : Int32) (M : cd_M) : cd_R 50 0 [some (.ref 14), some (.long (a1)), none, some (.int (a2))] [] M (w_PV (f4_addField_14 a1 a2 M)) := by
  unfold f4_addField_14
  refine r_ld (.aload_n 0) 1 2 0 (.ref 14) rfl rfl rfl rfl 1 rfl ?_
  refine r_go (.getfield 15) 3 rfl rfl rfl 4 [.int (M.1 14 1)] rfl ?_
  refine q_const (.bipush 90) 2 rfl rfl rfl 6 (90) _ rfl cd_kc90 ?_
  refine q_br w_PV (.if_icmp .ge 29) 3 rfl rfl rfl (90 ≤ M.1 14 1) 35 9 [] rfl (fun _ => ?_) (fun _ => ?_)
  · exact r_ret .return_ 1 rfl rfl rfl _ rfl
  · refine r_ld (.aload_n 0) 1 2 0 (.ref 14) rfl rfl rfl rfl 10 rfl ?_
    refine r_go (.getfield 11) 3 rfl rfl rfl 13 [.ref 56] rfl ?_
    refine r_ld (.aload_n 0) 1 2 0 (.ref 14) rfl rfl rfl rfl 14 rfl ?_
    refine r_go (.getfield 15) 3 rfl rfl rfl 17 [.int (M.1 14 1), .ref 56] rfl ?_
    refine r_ld (.lload_n 1) 1 1 1 (.long (a1)) rfl rfl rfl rfl 18 rfl ?_
    refine r_ld (.iload_n 3) 1 0 3 (.int (a2)) rfl rfl rfl rfl 19 rfl ?_
    refine r_go (.i2l) 1 rfl rfl rfl 20 [.long (a2.toInt64), .long (a1), .int (M.1 14 1), .ref 56] rfl ?_
    refine q_const (.bipush 42) 2 rfl rfl rfl 22 (42) _ rfl cd_kc42 ?_
    refine r_go (.lshl) 1 rfl rfl rfl 23 [.long ((a2.toInt64 : Int64) <<< ((42 : Int32).toInt64 &&& 63)), .long (a1), .int (M.1 14 1), .ref 56] rfl ?_
    refine r_go (.lor) 1 rfl rfl rfl 24 [.long (a1 ||| ((a2.toInt64 : Int64) <<< ((42 : Int32).toInt64 &&& 63) : Int64)), .int (M.1 14 1), .ref 56] rfl ?_
    refine q_last w_PV rfl rfl 56 90 rfl (fun M1 => ?_)
    refine r_ld (.aload_n 0) 1 2 0 (.ref 14) rfl rfl rfl rfl 26 rfl ?_
    refine r_go (.dup) 1 rfl rfl rfl 27 [.ref 14, .ref 14] rfl ?_
    refine r_go (.getfield 15) 3 rfl rfl rfl 30 [.int (M1.1 14 1), .ref 14] rfl ?_
    refine q_const (.iconst 1) 1 rfl rfl rfl 31 (1) _ rfl cd_kj1 ?_
    refine r_go (.iadd) 1 rfl rfl rfl 32 [.int ((M1.1 14 1) + 1), .ref 14] rfl ?_
    refine q_wr w_PV (.putfield 15) 3 rfl rfl rfl 35 [] (cd_wI M1 14 1 ((M1.1 14 1) + 1)) rfl (fun M2 => ?_)
    exact r_ret .return_ 1 rfl rfl rfl _ rfl
def f4_carryFrames_14_13_6_L90 (r16 : Int32 → Int32 → Int32 → Int32 → cd_M → Option cd_M) (a3 : Int32) (a7 : Int32) (a8 : Int32) (s0 : Int32) (M : cd_M) : Option cd_M := cd_lt (a8 + (1)) fun x5 => r16 a3 s0 a7 x5 M
set_option maxRecDepth 8000 in
theorem k4_carryFrames_14_13_6_L90 (r16 : Int32 → Int32 → Int32 → Int32 → cd_M → Option cd_M) (h16 : ∀ (a3 : Int32) (a6 : Int32) (a7 : Int32) (a8 : Int32) (M : cd_M), cd_R 49 16 [some (.ref 14), some (.ref 13), some (.ref 6), some (.int (a3)), none, none, some (.int (a6)), some (.int (a7)), some (.int (a8)), none, none] [] M (w_PV (r16 a3 a6 a7 a8 M))) (a3 : Int32) (a7 : Int32) (a8 : Int32) (s0 : Int32) (M : cd_M) : cd_R 49 90 [some (.ref 14), some (.ref 13), some (.ref 6), some (.int (a3)), none, none, none, some (.int (a7)), some (.int (a8)), none, none] [.int (s0)] M (w_PV (f4_carryFrames_14_13_6_L90 r16 a3 a7 a8 s0 M)) := by
  unfold f4_carryFrames_14_13_6_L90
  refine r_st (.istore 6) 2 0 6 rfl rfl rfl 92 rfl [some (.ref 14), some (.ref 13), some (.ref 6), some (.int (a3)), none, none, some (.int (s0)), some (.int (a7)), some (.int (a8)), none, none] rfl ?_
  refine q_inc w_PV 8 (1) (a8) rfl rfl rfl 95 rfl (1) cd_kj1 (fun x5 => [some (.ref 14), some (.ref 13), some (.ref 6), some (.int (a3)), none, none, some (.int (s0)), some (.int (a7)), some (.int (x5)), none, none]) (fun _ => rfl) (fun x5 => ?_)
  refine r_go (.goto (-79)) 3 rfl rfl rfl 16 [] rfl ?_
  exact r_w (h16 a3 s0 a7 x5 M) (cd_le_s (cd_le_s (cd_le_s (cd_le_s (cd_le_n (cd_le_n (cd_le_s (cd_le_s (cd_le_s (cd_le_n (cd_le_n cd_le_0)))))))))))
def f4_carryFrames_14_13_6_L37 (r16 : Int32 → Int32 → Int32 → Int32 → cd_M → Option cd_M) : Nat → Int32 → Int32 → Int32 → Int32 → Int32 → Int32 → cd_M → Option cd_M
  | 0, _, _, _, _, _, _, _ => none
  | n + 1, a3, a6, a7, a8, a9, a10, M => if a9 ≤ a10 then ((f5_hasPlace_6 a3 (a6 + 1) M).bind fun v3 => if v3 = 0 then (f4_carryFrames_14_13_6_L90 r16 a3 a7 a8 0 M) else (f4_carryFrames_14_13_6_L90 r16 a3 a7 a8 (a6 + 1) M)) else ((f1_row_13 a8 a7 M).bind fun v6 => (f4_addField_14 v6 a7 M).bind fun M7 => cd_lt (1 - a7) fun x8 => cd_lt (a10 + (1)) fun x9 => f4_carryFrames_14_13_6_L37 r16 n a3 a6 x8 a8 a9 x9 M7)
set_option maxRecDepth 8000 in
theorem k4_carryFrames_14_13_6_L37 (r16 : Int32 → Int32 → Int32 → Int32 → cd_M → Option cd_M) (h16 : ∀ (a3 : Int32) (a6 : Int32) (a7 : Int32) (a8 : Int32) (M : cd_M), cd_R 49 16 [some (.ref 14), some (.ref 13), some (.ref 6), some (.int (a3)), none, none, some (.int (a6)), some (.int (a7)), some (.int (a8)), none, none] [] M (w_PV (r16 a3 a6 a7 a8 M))) : ∀ (n : Nat) (a3 : Int32) (a6 : Int32) (a7 : Int32) (a8 : Int32) (a9 : Int32) (a10 : Int32) (M : cd_M), cd_R 49 37 [some (.ref 14), some (.ref 13), some (.ref 6), some (.int (a3)), none, none, some (.int (a6)), some (.int (a7)), some (.int (a8)), some (.int (a9)), some (.int (a10))] [] M (w_PV (f4_carryFrames_14_13_6_L37 r16 n a3 a6 a7 a8 a9 a10 M)) := by
  intro n
  induction n with
  | zero =>
    intro a3 a6 a7 a8 a9 a10 M
    exact q_none w_PV rfl
  | succ n ih =>
    intro a3 a6 a7 a8 a9 a10 M
    rw [f4_carryFrames_14_13_6_L37]
    refine r_ld (.iload 10) 2 0 10 (.int (a10)) rfl rfl rfl rfl 39 rfl ?_
    refine r_ld (.iload 9) 2 0 9 (.int (a9)) rfl rfl rfl rfl 41 rfl ?_
    refine q_br w_PV (.if_icmp .ge 29) 3 rfl rfl rfl (a9 ≤ a10) 70 44 [] rfl (fun _ => ?_) (fun _ => ?_)
    · refine r_ld (.aload_n 2) 1 2 2 (.ref 6) rfl rfl rfl rfl 71 rfl ?_
      refine r_ld (.iload_n 3) 1 0 3 (.int (a3)) rfl rfl rfl rfl 72 rfl ?_
      refine r_ld (.iload 6) 2 0 6 (.int (a6)) rfl rfl rfl rfl 74 rfl ?_
      refine q_const (.iconst 1) 1 rfl rfl rfl 75 (1) _ rfl cd_kj1 ?_
      refine r_go (.iadd) 1 rfl rfl rfl 76 [.int (a6 + 1), .int (a3), .ref 6] rfl ?_
      refine q_cIz w_PV rfl (.invokevirtual 55) rfl rfl rfl 63 rfl [.ref 6, .int (a3), .int (a6 + 1)] [] rfl (k5_hasPlace_6 a3 (a6 + 1) M) (fun v3 z4 => ?_)
      refine q_br w_PV (.ifCond .eq 10) 3 rfl rfl rfl (v3 = 0) 89 82 [] rfl (fun _ => ?_) (fun _ => ?_)
      · refine q_const (.iconst 0) 1 rfl rfl rfl 90 (0) _ rfl cd_kj0 ?_
        exact r_w (k4_carryFrames_14_13_6_L90 r16 h16 a3 a7 a8 0 M) (cd_le_s (cd_le_s (cd_le_s (cd_le_s (cd_le_n (cd_le_n (cd_le_n (cd_le_s (cd_le_s (cd_le_n (cd_le_n cd_le_0)))))))))))
      · refine r_ld (.iload 6) 2 0 6 (.int (a6)) rfl rfl rfl rfl 84 rfl ?_
        refine q_const (.iconst 1) 1 rfl rfl rfl 85 (1) _ rfl cd_kj1 ?_
        refine r_go (.iadd) 1 rfl rfl rfl 86 [.int (a6 + 1)] rfl ?_
        refine r_go (.goto 4) 3 rfl rfl rfl 90 [.int (a6 + 1)] rfl ?_
        exact r_w (k4_carryFrames_14_13_6_L90 r16 h16 a3 a7 a8 (a6 + 1) M) (cd_le_s (cd_le_s (cd_le_s (cd_le_s (cd_le_n (cd_le_n (cd_le_n (cd_le_s (cd_le_s (cd_le_n (cd_le_n cd_le_0)))))))))))
    · refine r_ld (.aload_n 0) 1 2 0 (.ref 14) rfl rfl rfl rfl 45 rfl ?_
      refine r_ld (.aload_n 1) 1 2 1 (.ref 13) rfl rfl rfl rfl 46 rfl ?_
      refine r_ld (.iload 8) 2 0 8 (.int (a8)) rfl rfl rfl rfl 48 rfl ?_
      refine r_ld (.iload 7) 2 0 7 (.int (a7)) rfl rfl rfl rfl 50 rfl ?_
      refine q_cL w_PV rfl (.invokevirtual 48) rfl rfl rfl 16 [.ref 13, .int (a8), .int (a7)] [.ref 14] rfl (k1_row_13 a8 a7 M) (fun v6 => ?_)
      refine r_ld (.iload 7) 2 0 7 (.int (a7)) rfl rfl rfl rfl 55 rfl ?_
      refine q_cV w_PV rfl (.invokevirtual 51) rfl rfl rfl 50 [.ref 14, .long (v6), .int (a7)] [] rfl (k4_addField_14 v6 a7 M) (fun M7 => ?_)
      refine q_const (.iconst 1) 1 rfl rfl rfl 59 (1) _ rfl cd_kj1 ?_
      refine r_ld (.iload 7) 2 0 7 (.int (a7)) rfl rfl rfl rfl 61 rfl ?_
      refine r_go (.isub) 1 rfl rfl rfl 62 [.int (1 - a7)] rfl ?_
      refine q_stB w_PV (.istore 7) 2 0 7 rfl rfl (fun _ => rfl) 64 rfl (fun x8 => [some (.ref 14), some (.ref 13), some (.ref 6), some (.int (a3)), none, none, some (.int (a6)), some (.int (x8)), some (.int (a8)), some (.int (a9)), some (.int (a10))]) (fun _ => rfl) (fun x8 => ?_)
      refine q_inc w_PV 10 (1) (a10) rfl rfl rfl 67 rfl (1) cd_kj1 (fun x9 => [some (.ref 14), some (.ref 13), some (.ref 6), some (.int (a3)), none, none, some (.int (a6)), some (.int (x8)), some (.int (a8)), some (.int (a9)), some (.int (x9))]) (fun _ => rfl) (fun x9 => ?_)
      refine r_go (.goto (-30)) 3 rfl rfl rfl 37 [] rfl ?_
      exact r_w (ih a3 a6 x8 a8 a9 x9 M7) (cd_le_s (cd_le_s (cd_le_s (cd_le_s (cd_le_n (cd_le_n (cd_le_s (cd_le_s (cd_le_s (cd_le_s (cd_le_s cd_le_0)))))))))))
def f4_carryFrames_14_13_6_L16 : Nat → Int32 → Int32 → Int32 → Int32 → cd_M → Option cd_M
  | 0, _, _, _, _, _ => none
  | n + 1, a3, a6, a7, a8, M => if f1_size_13 M ≤ a8 then (some M) else ((f5_number_6 a3 a6 M).bind fun v2 => f4_carryFrames_14_13_6_L37 (f4_carryFrames_14_13_6_L16 n) cd_fu a3 a6 a7 a8 v2 0 M)
set_option maxRecDepth 8000 in
theorem k4_carryFrames_14_13_6_L16 : ∀ (n : Nat) (a3 : Int32) (a6 : Int32) (a7 : Int32) (a8 : Int32) (M : cd_M), cd_R 49 16 [some (.ref 14), some (.ref 13), some (.ref 6), some (.int (a3)), none, none, some (.int (a6)), some (.int (a7)), some (.int (a8)), none, none] [] M (w_PV (f4_carryFrames_14_13_6_L16 n a3 a6 a7 a8 M)) := by
  intro n
  induction n with
  | zero =>
    intro a3 a6 a7 a8 M
    exact q_none w_PV rfl
  | succ n ih =>
    intro a3 a6 a7 a8 M
    rw [f4_carryFrames_14_13_6_L16]
    refine r_ld (.iload 8) 2 0 8 (.int (a8)) rfl rfl rfl rfl 18 rfl ?_
    refine r_ld (.aload_n 1) 1 2 1 (.ref 13) rfl rfl rfl rfl 19 rfl ?_
    refine q_cTI (.invokevirtual 37) rfl rfl rfl 13 [.ref 13] [.int (a8)] rfl (k1_size_13 M) ?_
    refine q_br w_PV (.if_icmp .ge 76) 3 rfl rfl rfl (f1_size_13 M ≤ a8) 98 25 [] rfl (fun _ => ?_) (fun _ => ?_)
    · exact r_ret .return_ 1 rfl rfl rfl _ rfl
    · refine r_ld (.aload_n 2) 1 2 2 (.ref 6) rfl rfl rfl rfl 26 rfl ?_
      refine r_ld (.iload_n 3) 1 0 3 (.int (a3)) rfl rfl rfl rfl 27 rfl ?_
      refine r_ld (.iload 6) 2 0 6 (.int (a6)) rfl rfl rfl rfl 29 rfl ?_
      refine q_cI w_PV rfl (.invokevirtual 42) rfl rfl rfl 64 [.ref 6, .int (a3), .int (a6)] [] rfl (k5_number_6 a3 a6 M) (fun v2 => ?_)
      refine r_st (.istore 9) 2 0 9 rfl rfl rfl 34 rfl [some (.ref 14), some (.ref 13), some (.ref 6), some (.int (a3)), none, none, some (.int (a6)), some (.int (a7)), some (.int (a8)), some (.int (v2)), none] rfl ?_
      refine q_const (.iconst 0) 1 rfl rfl rfl 35 (0) _ rfl cd_kj0 ?_
      refine r_st (.istore 10) 2 0 10 rfl rfl rfl 37 rfl [some (.ref 14), some (.ref 13), some (.ref 6), some (.int (a3)), none, none, some (.int (a6)), some (.int (a7)), some (.int (a8)), some (.int (v2)), some (.int (0))] rfl ?_
      exact r_w (k4_carryFrames_14_13_6_L37 (f4_carryFrames_14_13_6_L16 n) ih cd_fu a3 a6 a7 a8 v2 0 M) (cd_le_s (cd_le_s (cd_le_s (cd_le_s (cd_le_n (cd_le_n (cd_le_s (cd_le_s (cd_le_s (cd_le_s (cd_le_s cd_le_0)))))))))))
def f4_carryFrames_14_13_6 (a3 : Int32) (a4 : Int32) (a5 : Int32) (M : cd_M) : Option cd_M := cd_lt (cd_wI M 14 1 0) fun M1 => f4_carryFrames_14_13_6_L16 cd_fu a3 a4 a5 0 M1
set_option maxRecDepth 8000 in
theorem k4_carryFrames_14_13_6 (a3 : Int32) (a4 : Int32) (a5 : Int32) (M : cd_M) : cd_R 49 0 [some (.ref 14), some (.ref 13), some (.ref 6), some (.int (a3)), some (.int (a4)), some (.int (a5)), none, none, none, none, none] [] M (w_PV (f4_carryFrames_14_13_6 a3 a4 a5 M)) := by
  unfold f4_carryFrames_14_13_6
  refine r_ld (.aload_n 0) 1 2 0 (.ref 14) rfl rfl rfl rfl 1 rfl ?_
  refine q_const (.iconst 0) 1 rfl rfl rfl 2 (0) _ rfl cd_kj0 ?_
  refine q_wr w_PV (.putfield 15) 3 rfl rfl rfl 5 [] (cd_wI M 14 1 0) rfl (fun M1 => ?_)
  refine r_ld (.iload 4) 2 0 4 (.int (a4)) rfl rfl rfl rfl 7 rfl ?_
  refine r_st (.istore 6) 2 0 6 rfl rfl rfl 9 rfl [some (.ref 14), some (.ref 13), some (.ref 6), some (.int (a3)), some (.int (a4)), some (.int (a5)), some (.int (a4)), none, none, none, none] rfl ?_
  refine r_ld (.iload 5) 2 0 5 (.int (a5)) rfl rfl rfl rfl 11 rfl ?_
  refine r_st (.istore 7) 2 0 7 rfl rfl rfl 13 rfl [some (.ref 14), some (.ref 13), some (.ref 6), some (.int (a3)), some (.int (a4)), some (.int (a5)), some (.int (a4)), some (.int (a5)), none, none, none] rfl ?_
  refine q_const (.iconst 0) 1 rfl rfl rfl 14 (0) _ rfl cd_kj0 ?_
  refine r_st (.istore 8) 2 0 8 rfl rfl rfl 16 rfl [some (.ref 14), some (.ref 13), some (.ref 6), some (.int (a3)), some (.int (a4)), some (.int (a5)), some (.int (a4)), some (.int (a5)), some (.int (0)), none, none] rfl ?_
  exact r_w (k4_carryFrames_14_13_6_L16 cd_fu a3 a4 a5 0 M1) (cd_le_s (cd_le_s (cd_le_s (cd_le_s (cd_le_n (cd_le_n (cd_le_s (cd_le_s (cd_le_s (cd_le_n (cd_le_n cd_le_0)))))))))))
def f4_has_14 (a1 : Int32) (M : cd_M) : Int32 := if a1 < 0 then (0) else (if M.1 14 1 ≤ a1 then (0) else (1))
set_option maxRecDepth 8000 in
theorem k4_has_14 (a1 : Int32) (M : cd_M) : cd_R 43 0 [some (.ref 14), some (.int (a1))] [] M ((w_TI M) (f4_has_14 a1 M)) := by
  unfold f4_has_14
  refine r_ld (.iload_n 1) 1 0 1 (.int (a1)) rfl rfl rfl rfl 1 rfl ?_
  refine q_br (w_TI M) (.ifCond .lt 15) 3 rfl rfl rfl (a1 < 0) 16 4 [] rfl (fun _ => ?_) (fun _ => ?_)
  · refine q_const (.iconst 0) 1 rfl rfl rfl 17 (0) _ rfl cd_kj0 ?_
    exact r_retZ rfl rfl (by decide)
  · refine r_ld (.iload_n 1) 1 0 1 (.int (a1)) rfl rfl rfl rfl 5 rfl ?_
    refine r_ld (.aload_n 0) 1 2 0 (.ref 14) rfl rfl rfl rfl 6 rfl ?_
    refine r_go (.getfield 15) 3 rfl rfl rfl 9 [.int (M.1 14 1), .int (a1)] rfl ?_
    refine q_br (w_TI M) (.if_icmp .ge 7) 3 rfl rfl rfl (M.1 14 1 ≤ a1) 16 12 [] rfl (fun _ => ?_) (fun _ => ?_)
    · refine q_const (.iconst 0) 1 rfl rfl rfl 17 (0) _ rfl cd_kj0 ?_
      exact r_retZ rfl rfl (by decide)
    · refine q_const (.iconst 1) 1 rfl rfl rfl 13 (1) _ rfl cd_kj1 ?_
      refine r_go (.goto 4) 3 rfl rfl rfl 17 [.int (1)] rfl ?_
      exact r_retZ rfl rfl (by decide)
def f4_row_14 (a1 : Int32) (M : cd_M) : Option (Int64) := if f4_has_14 a1 M = 0 then (some 0) else (if cd_in a1 90 = true then (some ((M.2 56 a1.toNatClampNeg : Int64) &&& (4398046511103 : Int64))) else none)
set_option maxRecDepth 8000 in
theorem k4_row_14 (a1 : Int32) (M : cd_M) : cd_R 45 0 [some (.ref 14), some (.int (a1))] [] M ((w_PL M) (f4_row_14 a1 M)) := by
  unfold f4_row_14
  refine r_ld (.aload_n 0) 1 2 0 (.ref 14) rfl rfl rfl rfl 1 rfl ?_
  refine r_ld (.iload_n 1) 1 0 1 (.int (a1)) rfl rfl rfl rfl 2 rfl ?_
  refine q_cTIz (.invokevirtual 19) rfl rfl rfl 43 rfl [.ref 14, .int (a1)] [] rfl (k4_has_14 a1 M) (fun z1 => ?_)
  refine q_br (w_PL M) (.ifCond .eq 16) 3 rfl rfl rfl (f4_has_14 a1 M = 0) 21 8 [] rfl (fun _ => ?_) (fun _ => ?_)
  · refine r_go (.lconst 0) 1 rfl rfl rfl 22 [.long (0)] rfl ?_
    exact r_ret .lreturn 1 rfl rfl rfl _ rfl
  · refine r_ld (.aload_n 0) 1 2 0 (.ref 14) rfl rfl rfl rfl 9 rfl ?_
    refine r_go (.getfield 11) 3 rfl rfl rfl 12 [.ref 56] rfl ?_
    refine r_ld (.iload_n 1) 1 0 1 (.int (a1)) rfl rfl rfl rfl 13 rfl ?_
    refine q_lald (w_PL M) rfl rfl 56 90 rfl ?_
    refine r_go (.ldc2_w 23) 3 rfl rfl rfl 17 [.long (4398046511103), .long (M.2 56 a1.toNatClampNeg)] rfl ?_
    refine r_go (.land) 1 rfl rfl rfl 18 [.long ((M.2 56 a1.toNatClampNeg : Int64) &&& (4398046511103 : Int64))] rfl ?_
    refine r_go (.goto 4) 3 rfl rfl rfl 22 [.long ((M.2 56 a1.toNatClampNeg : Int64) &&& (4398046511103 : Int64))] rfl ?_
    exact r_ret .lreturn 1 rfl rfl rfl _ rfl
def f4_sample_14 (a1 : Int32) (a2 : Int32) (M : cd_M) : Option (Int32) := (f4_row_14 a1 M).bind fun v1 => some (f10_sampleOf v1 a2 M)
set_option maxRecDepth 8000 in
theorem k4_sample_14 (a1 : Int32) (a2 : Int32) (M : cd_M) : cd_R 47 0 [some (.ref 14), some (.int (a1)), some (.int (a2))] [] M ((w_PI M) (f4_sample_14 a1 a2 M)) := by
  unfold f4_sample_14
  refine r_ld (.aload_n 0) 1 2 0 (.ref 14) rfl rfl rfl rfl 1 rfl ?_
  refine r_ld (.iload_n 1) 1 0 1 (.int (a1)) rfl rfl rfl rfl 2 rfl ?_
  refine q_cL (w_PI M) rfl (.invokevirtual 25) rfl rfl rfl 45 [.ref 14, .int (a1)] [] rfl (k4_row_14 a1 M) (fun v1 => ?_)
  refine r_ld (.iload_n 2) 1 0 2 (.int (a2)) rfl rfl rfl rfl 6 rfl ?_
  refine q_cTI (.invokestatic 29) rfl rfl rfl 158 [.long (v1), .int (a2)] [] rfl (k10_sampleOf v1 a2 M) ?_
  exact r_ret .ireturn 1 rfl rfl rfl _ rfl
def f4_parity_14 (a1 : Int32) (M : cd_M) : Option (Int32) := if f4_has_14 a1 M = 0 then (some 0) else (if cd_in a1 90 = true then (some ((((M.2 56 a1.toNatClampNeg : Int64).toUInt64 >>> ((42 : Int32).toInt64.toUInt64 &&& Int64.toUInt64 63)).toInt64).toInt32)) else none)
set_option maxRecDepth 8000 in
theorem k4_parity_14 (a1 : Int32) (M : cd_M) : cd_R 46 0 [some (.ref 14), some (.int (a1))] [] M ((w_PI M) (f4_parity_14 a1 M)) := by
  unfold f4_parity_14
  refine r_ld (.aload_n 0) 1 2 0 (.ref 14) rfl rfl rfl rfl 1 rfl ?_
  refine r_ld (.iload_n 1) 1 0 1 (.int (a1)) rfl rfl rfl rfl 2 rfl ?_
  refine q_cTIz (.invokevirtual 19) rfl rfl rfl 43 rfl [.ref 14, .int (a1)] [] rfl (k4_has_14 a1 M) (fun z1 => ?_)
  refine q_br (w_PI M) (.ifCond .eq 16) 3 rfl rfl rfl (f4_has_14 a1 M = 0) 21 8 [] rfl (fun _ => ?_) (fun _ => ?_)
  · refine q_const (.iconst 0) 1 rfl rfl rfl 22 (0) _ rfl cd_kj0 ?_
    exact r_ret .ireturn 1 rfl rfl rfl _ rfl
  · refine r_ld (.aload_n 0) 1 2 0 (.ref 14) rfl rfl rfl rfl 9 rfl ?_
    refine r_go (.getfield 11) 3 rfl rfl rfl 12 [.ref 56] rfl ?_
    refine r_ld (.iload_n 1) 1 0 1 (.int (a1)) rfl rfl rfl rfl 13 rfl ?_
    refine q_lald (w_PI M) rfl rfl 56 90 rfl ?_
    refine q_const (.bipush 42) 2 rfl rfl rfl 16 (42) _ rfl cd_kc42 ?_
    refine r_go (.lushr) 1 rfl rfl rfl 17 [.long (((M.2 56 a1.toNatClampNeg : Int64).toUInt64 >>> ((42 : Int32).toInt64.toUInt64 &&& Int64.toUInt64 63)).toInt64)] rfl ?_
    refine r_go (.l2i) 1 rfl rfl rfl 18 [.int ((((M.2 56 a1.toNatClampNeg : Int64).toUInt64 >>> ((42 : Int32).toInt64.toUInt64 &&& Int64.toUInt64 63)).toInt64).toInt32)] rfl ?_
    refine r_go (.goto 4) 3 rfl rfl rfl 22 [.int ((((M.2 56 a1.toNatClampNeg : Int64).toUInt64 >>> ((42 : Int32).toInt64.toUInt64 &&& Int64.toUInt64 63)).toInt64).toInt32)] rfl ?_
    exact r_ret .ireturn 1 rfl rfl rfl _ rfl
def f4_size_14 (M : cd_M) : Int32 := (M.1 14 1)
set_option maxRecDepth 8000 in
theorem k4_size_14 (M : cd_M) : cd_R 41 0 [some (.ref 14)] [] M ((w_TI M) (f4_size_14 M)) := by
  unfold f4_size_14
  refine r_ld (.aload_n 0) 1 2 0 (.ref 14) rfl rfl rfl rfl 1 rfl ?_
  refine r_go (.getfield 15) 3 rfl rfl rfl 4 [.int (M.1 14 1)] rfl ?_
  exact r_ret .ireturn 1 rfl rfl rfl _ rfl
def f10_anew_0 (a1 : Int32) (a2 : Int32) (a3 : Int32) (M : cd_M) : Option (Int32 × cd_M) := if f5_hasCadence_6 a1 M = 0 then (some ((-1), M)) else ((f10_followPath_0 M).bind fun M2 => (f4_carryFrames_14_13_6 a1 0 0 M2).bind fun M3 => if a3 = (-1) then (some (f4_size_14 M3, M3)) else (if f4_has_14 a2 M3 = 0 then (some ((-1), M3)) else (if a3 = (-2) then ((f4_parity_14 a2 M3).bind fun v5 => some (v5, M3)) else (if f10_isSampleNumber_0 a3 M3 = 0 then (some ((-1), M3)) else ((f4_sample_14 a2 a3 M3).bind fun v7 => some (v7, M3))))))
set_option maxRecDepth 8000 in
theorem k10_anew_0 (a1 : Int32) (a2 : Int32) (a3 : Int32) (M : cd_M) : cd_R 148 0 [some (.ref 0), some (.int (a1)), some (.int (a2)), some (.int (a3))] [] M (w_PM (f10_anew_0 a1 a2 a3 M)) := by
  unfold f10_anew_0
  refine r_ld (.aload_n 0) 1 2 0 (.ref 0) rfl rfl rfl rfl 1 rfl ?_
  refine r_go (.getfield 28) 3 rfl rfl rfl 4 [.ref 6] rfl ?_
  refine r_ld (.iload_n 1) 1 0 1 (.int (a1)) rfl rfl rfl rfl 5 rfl ?_
  refine q_cTIz (.invokevirtual 143) rfl rfl rfl 61 rfl [.ref 6, .int (a1)] [] rfl (k5_hasCadence_6 a1 M) (fun z1 => ?_)
  refine q_br w_PM (.ifCond .ne 5) 3 rfl rfl rfl (f5_hasCadence_6 a1 M = 0) 11 13 [] rfl (fun _ => ?_) (fun _ => ?_)
  · refine q_const (.iconst (-1)) 1 rfl rfl rfl 12 (-1) _ rfl cd_kjm1 ?_
    exact r_ret .ireturn 1 rfl rfl rfl _ rfl
  · refine r_ld (.aload_n 0) 1 2 0 (.ref 0) rfl rfl rfl rfl 14 rfl ?_
    refine q_cV w_PM rfl (.invokevirtual 224) rfl rfl rfl 153 [.ref 0] [] rfl (k10_followPath_0 M) (fun M2 => ?_)
    refine r_ld (.aload_n 0) 1 2 0 (.ref 0) rfl rfl rfl rfl 18 rfl ?_
    refine r_go (.getfield 67) 3 rfl rfl rfl 21 [.ref 14] rfl ?_
    refine r_ld (.aload_n 0) 1 2 0 (.ref 0) rfl rfl rfl rfl 22 rfl ?_
    refine r_go (.getfield 63) 3 rfl rfl rfl 25 [.ref 12, .ref 14] rfl ?_
    refine q_cTR (.invokevirtual 267) rfl rfl rfl 30 [.ref 12] [.ref 14] rfl (k2_frames_12 M2) ?_
    refine r_ld (.aload_n 0) 1 2 0 (.ref 0) rfl rfl rfl rfl 29 rfl ?_
    refine r_go (.getfield 28) 3 rfl rfl rfl 32 [.ref 6, .ref 13, .ref 14] rfl ?_
    refine r_ld (.iload_n 1) 1 0 1 (.int (a1)) rfl rfl rfl rfl 33 rfl ?_
    refine q_const (.iconst 0) 1 rfl rfl rfl 34 (0) _ rfl cd_kj0 ?_
    refine q_const (.iconst 0) 1 rfl rfl rfl 35 (0) _ rfl cd_kj0 ?_
    refine q_cV w_PM rfl (.invokevirtual 164) rfl rfl rfl 49 [.ref 14, .ref 13, .ref 6, .int (a1), .int (0), .int (0)] [] rfl (k4_carryFrames_14_13_6 a1 0 0 M2) (fun M3 => ?_)
    refine r_ld (.iload_n 3) 1 0 3 (.int (a3)) rfl rfl rfl rfl 39 rfl ?_
    refine q_const (.iconst (-1)) 1 rfl rfl rfl 40 (-1) _ rfl cd_kjm1 ?_
    refine q_br w_PM (.if_icmp .ne 11) 3 rfl rfl rfl (a3 = (-1)) 43 51 [] rfl (fun _ => ?_) (fun _ => ?_)
    · refine r_ld (.aload_n 0) 1 2 0 (.ref 0) rfl rfl rfl rfl 44 rfl ?_
      refine r_go (.getfield 67) 3 rfl rfl rfl 47 [.ref 14] rfl ?_
      refine q_cTI (.invokevirtual 168) rfl rfl rfl 41 [.ref 14] [] rfl (k4_size_14 M3) ?_
      exact r_ret .ireturn 1 rfl rfl rfl _ rfl
    · refine r_ld (.aload_n 0) 1 2 0 (.ref 0) rfl rfl rfl rfl 52 rfl ?_
      refine r_go (.getfield 67) 3 rfl rfl rfl 55 [.ref 14] rfl ?_
      refine r_ld (.iload_n 2) 1 0 2 (.int (a2)) rfl rfl rfl rfl 56 rfl ?_
      refine q_cTIz (.invokevirtual 186) rfl rfl rfl 43 rfl [.ref 14, .int (a2)] [] rfl (k4_has_14 a2 M3) (fun z4 => ?_)
      refine q_br w_PM (.ifCond .ne 5) 3 rfl rfl rfl (f4_has_14 a2 M3 = 0) 62 64 [] rfl (fun _ => ?_) (fun _ => ?_)
      · refine q_const (.iconst (-1)) 1 rfl rfl rfl 63 (-1) _ rfl cd_kjm1 ?_
        exact r_ret .ireturn 1 rfl rfl rfl _ rfl
      · refine r_ld (.iload_n 3) 1 0 3 (.int (a3)) rfl rfl rfl rfl 65 rfl ?_
        refine q_const (.bipush (-2)) 2 rfl rfl rfl 67 (-2) _ rfl cd_kcm2 ?_
        refine q_br w_PM (.if_icmp .ne 12) 3 rfl rfl rfl (a3 = (-2)) 70 79 [] rfl (fun _ => ?_) (fun _ => ?_)
        · refine r_ld (.aload_n 0) 1 2 0 (.ref 0) rfl rfl rfl rfl 71 rfl ?_
          refine r_go (.getfield 67) 3 rfl rfl rfl 74 [.ref 14] rfl ?_
          refine r_ld (.iload_n 2) 1 0 2 (.int (a2)) rfl rfl rfl rfl 75 rfl ?_
          refine q_cI w_PM rfl (.invokevirtual 211) rfl rfl rfl 46 [.ref 14, .int (a2)] [] rfl (k4_parity_14 a2 M3) (fun v5 => ?_)
          exact r_ret .ireturn 1 rfl rfl rfl _ rfl
        · refine r_ld (.aload_n 0) 1 2 0 (.ref 0) rfl rfl rfl rfl 80 rfl ?_
          refine r_ld (.iload_n 3) 1 0 3 (.int (a3)) rfl rfl rfl rfl 81 rfl ?_
          refine q_cTIz (.invokevirtual 189) rfl rfl rfl 156 rfl [.ref 0, .int (a3)] [] rfl (k10_isSampleNumber_0 a3 M3) (fun z6 => ?_)
          refine q_br w_PM (.ifCond .eq 15) 3 rfl rfl rfl (f10_isSampleNumber_0 a3 M3 = 0) 99 87 [] rfl (fun _ => ?_) (fun _ => ?_)
          · refine q_const (.iconst (-1)) 1 rfl rfl rfl 100 (-1) _ rfl cd_kjm1 ?_
            exact r_ret .ireturn 1 rfl rfl rfl _ rfl
          · refine r_ld (.aload_n 0) 1 2 0 (.ref 0) rfl rfl rfl rfl 88 rfl ?_
            refine r_go (.getfield 67) 3 rfl rfl rfl 91 [.ref 14] rfl ?_
            refine r_ld (.iload_n 2) 1 0 2 (.int (a2)) rfl rfl rfl rfl 92 rfl ?_
            refine r_ld (.iload_n 3) 1 0 3 (.int (a3)) rfl rfl rfl rfl 93 rfl ?_
            refine q_cI w_PM rfl (.invokevirtual 192) rfl rfl rfl 47 [.ref 14, .int (a2), .int (a3)] [] rfl (k4_sample_14 a2 a3 M3) (fun v7 => ?_)
            refine r_go (.goto 4) 3 rfl rfl rfl 100 [.int (v7)] rfl ?_
            exact r_ret .ireturn 1 rfl rfl rfl _ rfl
def f4_isSame_14_7_L15 : Nat → Int32 → cd_M → Option (Int32)
  | 0, _, _ => none
  | n + 1, a2, M => if M.1 14 1 ≤ a2 then (some 1) else (if cd_in a2 90 = true then (if cd_in a2 90 = true then (if lg_cmp (M.2 56 a2.toNatClampNeg : Int64) (M.2 28 a2.toNatClampNeg : Int64) = 0 then (cd_lt (a2 + (1)) fun x1 => f4_isSame_14_7_L15 n x1 M) else (some 0)) else none) else none)
set_option maxRecDepth 8000 in
theorem k4_isSame_14_7_L15 : ∀ (n : Nat) (a2 : Int32) (M : cd_M), cd_R 54 15 [some (.ref 14), some (.ref 7), some (.int (a2))] [] M ((w_PI M) (f4_isSame_14_7_L15 n a2 M)) := by
  intro n
  induction n with
  | zero =>
    intro a2 M
    exact q_none (w_PI M) rfl
  | succ n ih =>
    intro a2 M
    rw [f4_isSame_14_7_L15]
    refine r_ld (.iload_n 2) 1 0 2 (.int (a2)) rfl rfl rfl rfl 16 rfl ?_
    refine r_ld (.aload_n 0) 1 2 0 (.ref 14) rfl rfl rfl rfl 17 rfl ?_
    refine r_go (.getfield 15) 3 rfl rfl rfl 20 [.int (M.1 14 1), .int (a2)] rfl ?_
    refine q_br (w_PI M) (.if_icmp .ge 27) 3 rfl rfl rfl (M.1 14 1 ≤ a2) 47 23 [] rfl (fun _ => ?_) (fun _ => ?_)
    · refine q_const (.iconst 1) 1 rfl rfl rfl 48 (1) _ rfl cd_kj1 ?_
      exact r_retZ rfl rfl (by decide)
    · refine r_ld (.aload_n 0) 1 2 0 (.ref 14) rfl rfl rfl rfl 24 rfl ?_
      refine r_go (.getfield 11) 3 rfl rfl rfl 27 [.ref 56] rfl ?_
      refine r_ld (.iload_n 2) 1 0 2 (.int (a2)) rfl rfl rfl rfl 28 rfl ?_
      refine q_lald (w_PI M) rfl rfl 56 90 rfl ?_
      refine r_ld (.aload_n 1) 1 2 1 (.ref 7) rfl rfl rfl rfl 30 rfl ?_
      refine r_go (.getfield 11) 3 rfl rfl rfl 33 [.ref 28, .long (M.2 56 a2.toNatClampNeg)] rfl ?_
      refine r_ld (.iload_n 2) 1 0 2 (.int (a2)) rfl rfl rfl rfl 34 rfl ?_
      refine q_lald (w_PI M) rfl rfl 28 90 rfl ?_
      refine r_go (.lcmp) 1 rfl rfl rfl 36 [.int (lg_cmp (M.2 56 a2.toNatClampNeg : Int64) (M.2 28 a2.toNatClampNeg : Int64))] rfl ?_
      refine q_br (w_PI M) (.ifCond .eq 5) 3 rfl rfl rfl (lg_cmp (M.2 56 a2.toNatClampNeg : Int64) (M.2 28 a2.toNatClampNeg : Int64) = 0) 41 39 [] rfl (fun _ => ?_) (fun _ => ?_)
      · refine q_inc (w_PI M) 2 (1) (a2) rfl rfl rfl 44 rfl (1) cd_kj1 (fun x1 => [some (.ref 14), some (.ref 7), some (.int (x1))]) (fun _ => rfl) (fun x1 => ?_)
        refine r_go (.goto (-29)) 3 rfl rfl rfl 15 [] rfl ?_
        exact r_w (ih x1 M) (cd_le_s (cd_le_s (cd_le_s cd_le_0)))
      · refine q_const (.iconst 0) 1 rfl rfl rfl 40 (0) _ rfl cd_kj0 ?_
        exact r_retZ rfl rfl (by decide)
def f4_isSame_14_7 (M : cd_M) : Option (Int32) := if M.1 14 1 = M.1 7 1 then (f4_isSame_14_7_L15 cd_fu 0 M) else (some 0)
set_option maxRecDepth 8000 in
theorem k4_isSame_14_7 (M : cd_M) : cd_R 54 0 [some (.ref 14), some (.ref 7), none] [] M ((w_PI M) (f4_isSame_14_7 M)) := by
  unfold f4_isSame_14_7
  refine r_ld (.aload_n 0) 1 2 0 (.ref 14) rfl rfl rfl rfl 1 rfl ?_
  refine r_go (.getfield 15) 3 rfl rfl rfl 4 [.int (M.1 14 1)] rfl ?_
  refine r_ld (.aload_n 1) 1 2 1 (.ref 7) rfl rfl rfl rfl 5 rfl ?_
  refine r_go (.getfield 15) 3 rfl rfl rfl 8 [.int (M.1 7 1), .int (M.1 14 1)] rfl ?_
  refine q_br (w_PI M) (.if_icmp .eq 5) 3 rfl rfl rfl (M.1 14 1 = M.1 7 1) 13 11 [] rfl (fun _ => ?_) (fun _ => ?_)
  · refine q_const (.iconst 0) 1 rfl rfl rfl 14 (0) _ rfl cd_kj0 ?_
    refine r_st (.istore_n 2) 1 0 2 rfl rfl rfl 15 rfl [some (.ref 14), some (.ref 7), some (.int (0))] rfl ?_
    exact r_w (k4_isSame_14_7_L15 cd_fu 0 M) (cd_le_s (cd_le_s (cd_le_s cd_le_0)))
  · refine q_const (.iconst 0) 1 rfl rfl rfl 12 (0) _ rfl cd_kj0 ?_
    exact r_retZ rfl rfl (by decide)
def f10_isClean_0 (a1 : Int32) (M : cd_M) : Option (Int32 × cd_M) := if f5_hasCadence_6 a1 M = 0 then (some (0, M)) else ((f10_followPath_0 M).bind fun M2 => (f4_carryFrames_14_13_6 a1 0 0 M2).bind fun M3 => (f4_isSame_14_7 M3).bind fun v4 => some (v4, M3))
set_option maxRecDepth 8000 in
theorem k10_isClean_0 (a1 : Int32) (M : cd_M) : cd_R 149 0 [some (.ref 0), some (.int (a1))] [] M (w_PM (f10_isClean_0 a1 M)) := by
  unfold f10_isClean_0
  refine r_ld (.aload_n 0) 1 2 0 (.ref 0) rfl rfl rfl rfl 1 rfl ?_
  refine r_go (.getfield 28) 3 rfl rfl rfl 4 [.ref 6] rfl ?_
  refine r_ld (.iload_n 1) 1 0 1 (.int (a1)) rfl rfl rfl rfl 5 rfl ?_
  refine q_cTIz (.invokevirtual 143) rfl rfl rfl 61 rfl [.ref 6, .int (a1)] [] rfl (k5_hasCadence_6 a1 M) (fun z1 => ?_)
  refine q_br w_PM (.ifCond .ne 5) 3 rfl rfl rfl (f5_hasCadence_6 a1 M = 0) 11 13 [] rfl (fun _ => ?_) (fun _ => ?_)
  · refine q_const (.iconst 0) 1 rfl rfl rfl 12 (0) _ rfl cd_kj0 ?_
    exact r_retZ rfl rfl (by decide)
  · refine r_ld (.aload_n 0) 1 2 0 (.ref 0) rfl rfl rfl rfl 14 rfl ?_
    refine q_cV w_PM rfl (.invokevirtual 224) rfl rfl rfl 153 [.ref 0] [] rfl (k10_followPath_0 M) (fun M2 => ?_)
    refine r_ld (.aload_n 0) 1 2 0 (.ref 0) rfl rfl rfl rfl 18 rfl ?_
    refine r_go (.getfield 67) 3 rfl rfl rfl 21 [.ref 14] rfl ?_
    refine r_ld (.aload_n 0) 1 2 0 (.ref 0) rfl rfl rfl rfl 22 rfl ?_
    refine r_go (.getfield 63) 3 rfl rfl rfl 25 [.ref 12, .ref 14] rfl ?_
    refine q_cTR (.invokevirtual 267) rfl rfl rfl 30 [.ref 12] [.ref 14] rfl (k2_frames_12 M2) ?_
    refine r_ld (.aload_n 0) 1 2 0 (.ref 0) rfl rfl rfl rfl 29 rfl ?_
    refine r_go (.getfield 28) 3 rfl rfl rfl 32 [.ref 6, .ref 13, .ref 14] rfl ?_
    refine r_ld (.iload_n 1) 1 0 1 (.int (a1)) rfl rfl rfl rfl 33 rfl ?_
    refine q_const (.iconst 0) 1 rfl rfl rfl 34 (0) _ rfl cd_kj0 ?_
    refine q_const (.iconst 0) 1 rfl rfl rfl 35 (0) _ rfl cd_kj0 ?_
    refine q_cV w_PM rfl (.invokevirtual 164) rfl rfl rfl 49 [.ref 14, .ref 13, .ref 6, .int (a1), .int (0), .int (0)] [] rfl (k4_carryFrames_14_13_6 a1 0 0 M2) (fun M3 => ?_)
    refine r_ld (.aload_n 0) 1 2 0 (.ref 0) rfl rfl rfl rfl 39 rfl ?_
    refine r_go (.getfield 67) 3 rfl rfl rfl 42 [.ref 14] rfl ?_
    refine r_ld (.aload_n 0) 1 2 0 (.ref 0) rfl rfl rfl rfl 43 rfl ?_
    refine r_go (.getfield 35) 3 rfl rfl rfl 46 [.ref 7, .ref 14] rfl ?_
    refine q_cIz w_PM rfl (.invokevirtual 301) rfl rfl rfl 54 rfl [.ref 14, .ref 7] [] rfl (k4_isSame_14_7 M3) (fun v4 z5 => ?_)
    exact r_retZ rfl rfl z5
