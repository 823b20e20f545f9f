def f11_guess_15_L86 (r29 : Int32 → Int32 → Int32 → Int32 → Int32 → cd_M → Option (Int32 × cd_M)) (a1 : Int32) (a2 : Int32) (a3 : Int32) (a4 : Int32) (a5 : Int32) (M : cd_M) : Option (Int32 × cd_M) := cd_lt (a5 + (1)) fun x5 => r29 a1 a2 a3 a4 x5 M
set_option maxRecDepth 8000 in
theorem k11_guess_15_L86 (r29 : Int32 → Int32 → Int32 → Int32 → Int32 → cd_M → Option (Int32 × cd_M)) (h29 : ∀ (a1 : Int32) (a2 : Int32) (a3 : Int32) (a4 : Int32) (a5 : Int32) (M : cd_M), cd_R 232 29 [some (.ref 15), some (.int (a1)), some (.int (a2)), some (.int (a3)), some (.int (a4)), some (.int (a5))] [] M (w_PM (r29 a1 a2 a3 a4 a5 M))) (a1 : Int32) (a2 : Int32) (a3 : Int32) (a4 : Int32) (a5 : Int32) (M : cd_M) : cd_R 232 86 [some (.ref 15), some (.int (a1)), some (.int (a2)), some (.int (a3)), some (.int (a4)), some (.int (a5))] [] M (w_PM (f11_guess_15_L86 r29 a1 a2 a3 a4 a5 M)) := by
  unfold f11_guess_15_L86
  refine q_inc w_PM 5 (1) (a5) rfl rfl rfl 89 rfl (1) cd_kj1 (fun x5 => [some (.ref 15), some (.int (a1)), some (.int (a2)), some (.int (a3)), some (.int (a4)), some (.int (x5))]) (fun _ => rfl) (fun x5 => ?_)
  refine r_go (.goto (-60)) 3 rfl rfl rfl 29 [] rfl ?_
  exact r_w (h29 a1 a2 a3 a4 x5 M) (cd_le_s (cd_le_s (cd_le_s (cd_le_s (cd_le_s (cd_le_s cd_le_0))))))
def f11_guess_15_L84 (r29 : Int32 → Int32 → Int32 → Int32 → Int32 → cd_M → Option (Int32 × cd_M)) (a1 : Int32) (a2 : Int32) (a3 : Int32) (a5 : Int32) (s0 : Int32) (M : cd_M) : Option (Int32 × cd_M) := f11_guess_15_L86 r29 a1 a2 a3 s0 a5 M
set_option maxRecDepth 8000 in
theorem k11_guess_15_L84 (r29 : Int32 → Int32 → Int32 → Int32 → Int32 → cd_M → Option (Int32 × cd_M)) (h29 : ∀ (a1 : Int32) (a2 : Int32) (a3 : Int32) (a4 : Int32) (a5 : Int32) (M : cd_M), cd_R 232 29 [some (.ref 15), some (.int (a1)), some (.int (a2)), some (.int (a3)), some (.int (a4)), some (.int (a5))] [] M (w_PM (r29 a1 a2 a3 a4 a5 M))) (a1 : Int32) (a2 : Int32) (a3 : Int32) (a5 : Int32) (s0 : Int32) (M : cd_M) : cd_R 232 84 [some (.ref 15), some (.int (a1)), some (.int (a2)), some (.int (a3)), none, some (.int (a5))] [.int (s0)] M (w_PM (f11_guess_15_L84 r29 a1 a2 a3 a5 s0 M)) := by
  unfold f11_guess_15_L84
  refine r_st (.istore 4) 2 0 4 rfl rfl rfl 86 rfl [some (.ref 15), some (.int (a1)), some (.int (a2)), some (.int (a3)), some (.int (s0)), some (.int (a5))] rfl ?_
  exact r_w (k11_guess_15_L86 r29 h29 a1 a2 a3 s0 a5 M) (cd_le_s (cd_le_s (cd_le_s (cd_le_s (cd_le_s (cd_le_s cd_le_0))))))
def f11_guess_15_L59 (r29 : Int32 → Int32 → Int32 → Int32 → Int32 → cd_M → Option (Int32 × cd_M)) (a1 : Int32) (a5 : Int32) (M : cd_M) : Option (Int32 × cd_M) := cd_lt (M.1 15 35) fun x4 => if M.1 15 24 = 0 then (f11_guess_15_L84 r29 a1 a5 x4 a5 (-1) M) else (if cd_in 0 90 = true then (f11_guess_15_L84 r29 a1 a5 x4 a5 (M.1 70 (0 : Int32).toNatClampNeg) M) else none)
set_option maxRecDepth 8000 in
theorem k11_guess_15_L59 (r29 : Int32 → Int32 → Int32 → Int32 → Int32 → cd_M → Option (Int32 × cd_M)) (h29 : ∀ (a1 : Int32) (a2 : Int32) (a3 : Int32) (a4 : Int32) (a5 : Int32) (M : cd_M), cd_R 232 29 [some (.ref 15), some (.int (a1)), some (.int (a2)), some (.int (a3)), some (.int (a4)), some (.int (a5))] [] M (w_PM (r29 a1 a2 a3 a4 a5 M))) (a1 : Int32) (a5 : Int32) (M : cd_M) : cd_R 232 59 [some (.ref 15), some (.int (a1)), none, none, none, some (.int (a5))] [] M (w_PM (f11_guess_15_L59 r29 a1 a5 M)) := by
  unfold f11_guess_15_L59
  refine r_ld (.iload 5) 2 0 5 (.int (a5)) rfl rfl rfl rfl 61 rfl ?_
  refine r_st (.istore_n 2) 1 0 2 rfl rfl rfl 62 rfl [some (.ref 15), some (.int (a1)), some (.int (a5)), none, none, some (.int (a5))] rfl ?_
  refine r_ld (.aload_n 0) 1 2 0 (.ref 15) rfl rfl rfl rfl 63 rfl ?_
  refine r_go (.getfield 300) 3 rfl rfl rfl 66 [.int (M.1 15 35)] rfl ?_
  refine q_stB w_PM (.istore_n 3) 1 0 3 rfl rfl (fun _ => rfl) 67 rfl (fun x4 => [some (.ref 15), some (.int (a1)), some (.int (a5)), some (.int (x4)), none, some (.int (a5))]) (fun _ => rfl) (fun x4 => ?_)
  refine r_ld (.aload_n 0) 1 2 0 (.ref 15) rfl rfl rfl rfl 68 rfl ?_
  refine r_go (.getfield 195) 3 rfl rfl rfl 71 [.int (M.1 15 24)] rfl ?_
  refine q_br w_PM (.ifCond .ne 7) 3 rfl rfl rfl (M.1 15 24 = 0) 74 78 [] rfl (fun _ => ?_) (fun _ => ?_)
  · refine q_const (.iconst (-1)) 1 rfl rfl rfl 75 (-1) _ rfl cd_kjm1 ?_
    refine r_go (.goto 9) 3 rfl rfl rfl 84 [.int ((-1))] rfl ?_
    exact r_w (k11_guess_15_L84 r29 h29 a1 a5 x4 a5 (-1) M) (cd_le_s (cd_le_s (cd_le_s (cd_le_s (cd_le_n (cd_le_s cd_le_0))))))
  · refine r_ld (.aload_n 0) 1 2 0 (.ref 15) rfl rfl rfl rfl 79 rfl ?_
    refine r_go (.getfield 51) 3 rfl rfl rfl 82 [.ref 70] rfl ?_
    refine q_const (.iconst 0) 1 rfl rfl rfl 83 (0) _ rfl cd_kj0 ?_
    refine q_iald w_PM rfl rfl 70 90 rfl ?_
    exact r_w (k11_guess_15_L84 r29 h29 a1 a5 x4 a5 (M.1 70 (0 : Int32).toNatClampNeg) M) (cd_le_s (cd_le_s (cd_le_s (cd_le_s (cd_le_n (cd_le_s cd_le_0))))))
def f11_guess_15_L29 : Nat → Int32 → Int32 → Int32 → Int32 → Int32 → cd_M → Option (Int32 × cd_M)
  | 0, _, _, _, _, _, _ => none
  | n + 1, a1, a2, a3, a4, a5, M => if M.1 15 17 ≤ a5 then (if a1 = 0 then (some (a2, M)) else (if 0 ≤ a4 then (if a1 = 1 then (some (a4 / 25, M)) else (some ((a4 / 5) - (a4 / 5) / 5 * 5, M))) else (some ((-1), M)))) else ((f11_laysPath_15 a5 M).bind fun M3 => if a2 < 0 then (f11_guess_15_L59 (f11_guess_15_L29 n) a1 a5 M3) else (if M3.1 15 35 < a3 then (f11_guess_15_L59 (f11_guess_15_L29 n) a1 a5 M3) else (f11_guess_15_L86 (f11_guess_15_L29 n) a1 a2 a3 a4 a5 M3)))
set_option maxRecDepth 8000 in
theorem k11_guess_15_L29 : ∀ (n : Nat) (a1 : Int32) (a2 : Int32) (a3 : Int32) (a4 : Int32) (a5 : Int32) (M : cd_M), cd_R 232 29 [some (.ref 15), some (.int (a1)), some (.int (a2)), some (.int (a3)), some (.int (a4)), some (.int (a5))] [] M (w_PM (f11_guess_15_L29 n a1 a2 a3 a4 a5 M)) := by
  intro n
  induction n with
  | zero =>
    intro a1 a2 a3 a4 a5 M
    exact q_none w_PM rfl
  | succ n ih =>
    intro a1 a2 a3 a4 a5 M
    rw [f11_guess_15_L29]
    refine r_ld (.iload 5) 2 0 5 (.int (a5)) rfl rfl rfl rfl 31 rfl ?_
    refine r_ld (.aload_n 0) 1 2 0 (.ref 15) rfl rfl rfl rfl 32 rfl ?_
    refine r_go (.getfield 87) 3 rfl rfl rfl 35 [.int (M.1 15 17), .int (a5)] rfl ?_
    refine q_br w_PM (.if_icmp .ge 57) 3 rfl rfl rfl (M.1 15 17 ≤ a5) 92 38 [] rfl (fun _ => ?_) (fun _ => ?_)
    · refine r_ld (.iload_n 1) 1 0 1 (.int (a1)) rfl rfl rfl rfl 93 rfl ?_
      refine q_br w_PM (.ifCond .ne 5) 3 rfl rfl rfl (a1 = 0) 96 98 [] rfl (fun _ => ?_) (fun _ => ?_)
      · refine r_ld (.iload_n 2) 1 0 2 (.int (a2)) rfl rfl rfl rfl 97 rfl ?_
        exact r_ret .ireturn 1 rfl rfl rfl _ rfl
      · refine r_ld (.iload 4) 2 0 4 (.int (a4)) rfl rfl rfl rfl 100 rfl ?_
        refine q_br w_PM (.ifCond .ge 7) 3 rfl rfl rfl (0 ≤ a4) 107 103 [] rfl (fun _ => ?_) (fun _ => ?_)
        · refine r_ld (.iload_n 1) 1 0 1 (.int (a1)) rfl rfl rfl rfl 108 rfl ?_
          refine q_const (.iconst 1) 1 rfl rfl rfl 109 (1) _ rfl cd_kj1 ?_
          refine q_br w_PM (.if_icmp .ne 11) 3 rfl rfl rfl (a1 = 1) 112 120 [] rfl (fun _ => ?_) (fun _ => ?_)
          · refine r_ld (.iload 4) 2 0 4 (.int (a4)) rfl rfl rfl rfl 114 rfl ?_
            refine q_const (.bipush 25) 2 rfl rfl rfl 116 (25) _ rfl cd_kc25 ?_
            refine q_divK rfl (by decide) ?_
            refine r_go (.goto 9) 3 rfl rfl rfl 126 [.int (a4 / 25)] rfl ?_
            exact r_ret .ireturn 1 rfl rfl rfl _ rfl
          · refine r_ld (.iload 4) 2 0 4 (.int (a4)) rfl rfl rfl rfl 122 rfl ?_
            refine q_const (.iconst 5) 1 rfl rfl rfl 123 (5) _ rfl cd_kj5 ?_
            refine q_divK rfl (by decide) ?_
            refine q_const (.iconst 5) 1 rfl rfl rfl 125 (5) _ rfl cd_kj5 ?_
            refine q_remK rfl (by decide) ?_
            exact r_ret .ireturn 1 rfl rfl rfl _ rfl
        · refine q_const (.iconst (-1)) 1 rfl rfl rfl 104 (-1) _ rfl cd_kjm1 ?_
          refine r_go (.goto 22) 3 rfl rfl rfl 126 [.int ((-1))] rfl ?_
          exact r_ret .ireturn 1 rfl rfl rfl _ rfl
    · refine r_ld (.aload_n 0) 1 2 0 (.ref 15) rfl rfl rfl rfl 39 rfl ?_
      refine r_ld (.iload 5) 2 0 5 (.int (a5)) rfl rfl rfl rfl 41 rfl ?_
      refine q_cV w_PM rfl (.invokevirtual 336) rfl rfl rfl 215 [.ref 15, .int (a5)] [] rfl (k11_laysPath_15 a5 M) (fun M3 => ?_)
      refine r_ld (.iload_n 2) 1 0 2 (.int (a2)) rfl rfl rfl rfl 45 rfl ?_
      refine q_br w_PM (.ifCond .lt 14) 3 rfl rfl rfl (a2 < 0) 59 48 [] rfl (fun _ => ?_) (fun _ => ?_)
      · exact r_w (k11_guess_15_L59 (f11_guess_15_L29 n) ih a1 a5 M3) (cd_le_s (cd_le_s (cd_le_n (cd_le_n (cd_le_n (cd_le_s cd_le_0))))))
      · refine r_ld (.aload_n 0) 1 2 0 (.ref 15) rfl rfl rfl rfl 49 rfl ?_
        refine r_go (.getfield 300) 3 rfl rfl rfl 52 [.int (M3.1 15 35)] rfl ?_
        refine r_ld (.iload_n 3) 1 0 3 (.int (a3)) rfl rfl rfl rfl 53 rfl ?_
        refine q_br w_PM (.if_icmp .lt 6) 3 rfl rfl rfl (M3.1 15 35 < a3) 59 56 [] rfl (fun _ => ?_) (fun _ => ?_)
        · exact r_w (k11_guess_15_L59 (f11_guess_15_L29 n) ih a1 a5 M3) (cd_le_s (cd_le_s (cd_le_n (cd_le_n (cd_le_n (cd_le_s cd_le_0))))))
        · refine r_go (.goto 30) 3 rfl rfl rfl 86 [] rfl ?_
          exact r_w (k11_guess_15_L86 (f11_guess_15_L29 n) ih a1 a2 a3 a4 a5 M3) (cd_le_s (cd_le_s (cd_le_s (cd_le_s (cd_le_s (cd_le_s cd_le_0))))))
def f11_guess_15 (a1 : Int32) (M : cd_M) : Option (Int32 × cd_M) := cd_lt (cd_wI M 15 0 0) fun M1 => if f11_within (a1.toInt64) 0 2 M1 = 0 then (some ((-1), M1)) else (f11_guess_15_L29 cd_fu a1 (-1) 0 (-1) 0 M1)
set_option maxRecDepth 8000 in
theorem k11_guess_15 (a1 : Int32) (M : cd_M) : cd_R 232 0 [some (.ref 15), some (.int (a1)), none, none, none, none] [] M (w_PM (f11_guess_15 a1 M)) := by
  unfold f11_guess_15
  refine r_ld (.aload_n 0) 1 2 0 (.ref 15) rfl rfl rfl rfl 1 rfl ?_
  refine q_const (.iconst 0) 1 rfl rfl rfl 2 (0) _ rfl cd_kj0 ?_
  refine q_wr w_PM (.putfield 95) 3 rfl rfl rfl 5 [] (cd_wI M 15 0 0) rfl (fun M1 => ?_)
  refine r_ld (.iload_n 1) 1 0 1 (.int (a1)) rfl rfl rfl rfl 6 rfl ?_
  refine r_go (.i2l) 1 rfl rfl rfl 7 [.long (a1.toInt64)] rfl ?_
  refine r_go (.lconst 0) 1 rfl rfl rfl 8 [.long (0), .long (a1.toInt64)] rfl ?_
  refine r_go (.ldc2_w 204) 3 rfl rfl rfl 11 [.long (2), .long (0), .long (a1.toInt64)] rfl ?_
  refine q_cTIz (.invokestatic 127) rfl rfl rfl 161 rfl [.long (a1.toInt64), .long (0), .long (2)] [] rfl (k11_within (a1.toInt64) 0 2 M1) (fun z2 => ?_)
  refine q_br w_PM (.ifCond .ne 5) 3 rfl rfl rfl (f11_within (a1.toInt64) 0 2 M1 = 0) 17 19 [] rfl (fun _ => ?_) (fun _ => ?_)
  · refine q_const (.iconst (-1)) 1 rfl rfl rfl 18 (-1) _ rfl cd_kjm1 ?_
    exact r_ret .ireturn 1 rfl rfl rfl _ rfl
  · refine q_const (.iconst (-1)) 1 rfl rfl rfl 20 (-1) _ rfl cd_kjm1 ?_
    refine r_st (.istore_n 2) 1 0 2 rfl rfl rfl 21 rfl [some (.ref 15), some (.int (a1)), some (.int ((-1))), none, none, none] rfl ?_
    refine q_const (.iconst 0) 1 rfl rfl rfl 22 (0) _ rfl cd_kj0 ?_
    refine r_st (.istore_n 3) 1 0 3 rfl rfl rfl 23 rfl [some (.ref 15), some (.int (a1)), some (.int ((-1))), some (.int (0)), none, none] rfl ?_
    refine q_const (.iconst (-1)) 1 rfl rfl rfl 24 (-1) _ rfl cd_kjm1 ?_
    refine r_st (.istore 4) 2 0 4 rfl rfl rfl 26 rfl [some (.ref 15), some (.int (a1)), some (.int ((-1))), some (.int (0)), some (.int ((-1))), none] rfl ?_
    refine q_const (.iconst 0) 1 rfl rfl rfl 27 (0) _ rfl cd_kj0 ?_
    refine r_st (.istore 5) 2 0 5 rfl rfl rfl 29 rfl [some (.ref 15), some (.int (a1)), some (.int ((-1))), some (.int (0)), some (.int ((-1))), some (.int (0))] rfl ?_
    exact r_w (k11_guess_15_L29 cd_fu a1 (-1) 0 (-1) 0 M1) (cd_le_s (cd_le_s (cd_le_s (cd_le_s (cd_le_s (cd_le_s cd_le_0))))))
def f11_laysAnew_15_L96 (r13 : Int32 → Int32 → Int32 → cd_M → Option cd_M) (a1 : Int32) (a2 : Int32) (a3 : Int32) (M : cd_M) : Option cd_M := cd_lt (a3 + (1)) fun x3 => r13 a1 a2 x3 M
set_option maxRecDepth 8000 in
theorem k11_laysAnew_15_L96 (r13 : Int32 → Int32 → Int32 → cd_M → Option cd_M) (h13 : ∀ (a1 : Int32) (a2 : Int32) (a3 : Int32) (M : cd_M), cd_R 233 13 [some (.ref 15), some (.int (a1)), some (.int (a2)), some (.int (a3)), none] [] M (w_PV (r13 a1 a2 a3 M))) (a1 : Int32) (a2 : Int32) (a3 : Int32) (M : cd_M) : cd_R 233 96 [some (.ref 15), some (.int (a1)), some (.int (a2)), some (.int (a3)), none] [] M (w_PV (f11_laysAnew_15_L96 r13 a1 a2 a3 M)) := by
  unfold f11_laysAnew_15_L96
  refine q_inc w_PV 3 (1) (a3) rfl rfl rfl 99 rfl (1) cd_kj1 (fun x3 => [some (.ref 15), some (.int (a1)), some (.int (a2)), some (.int (x3)), none]) (fun _ => rfl) (fun x3 => ?_)
  refine r_go (.goto (-86)) 3 rfl rfl rfl 13 [] rfl ?_
  exact r_w (h13 a1 a2 x3 M) (cd_le_s (cd_le_s (cd_le_s (cd_le_s (cd_le_n cd_le_0)))))
def f11_laysAnew_15_L24 (r13 : Int32 → Int32 → Int32 → cd_M → Option cd_M) : Nat → Int32 → Int32 → Int32 → Int32 → cd_M → Option cd_M
  | 0, _, _, _, _, _ => none
  | n + 1, a1, a2, a3, a4, M => if cd_in a1 8 = true then (if M.1 60 a1.toNatClampNeg = 0 then none else (if cd_in ((6 * a1) + (a3 - a3 / (M.1 60 a1.toNatClampNeg) * (M.1 60 a1.toNatClampNeg))) 48 = true then (if M.1 61 ((6 * a1) + (a3 - a3 / (M.1 60 a1.toNatClampNeg) * (M.1 60 a1.toNatClampNeg)) : Int32).toNatClampNeg ≤ a4 then (f11_laysAnew_15_L96 r13 a1 a2 a3 M) else (if 90 ≤ M.1 15 50 then (f11_laysAnew_15_L96 r13 a1 a2 a3 M) else (if cd_in (M.1 15 50) 90 = true then (cd_lt (cd_wI M 80 (M.1 15 50 : Int32).toNatClampNeg a3) fun M4 => if cd_in (M4.1 15 50) 90 = true then (cd_lt (cd_wI M4 81 (M4.1 15 50 : Int32).toNatClampNeg a2) fun M5 => cd_lt (1 - a2) fun x6 => cd_lt (cd_wI M5 15 50 ((M5.1 15 50) + 1)) fun M7 => cd_lt (a4 + (1)) fun x8 => f11_laysAnew_15_L24 r13 n a1 x6 a3 x8 M7) else none) else none))) else none)) else none
set_option maxRecDepth 8000 in
theorem k11_laysAnew_15_L24 (r13 : Int32 → Int32 → Int32 → cd_M → Option cd_M) (h13 : ∀ (a1 : Int32) (a2 : Int32) (a3 : Int32) (M : cd_M), cd_R 233 13 [some (.ref 15), some (.int (a1)), some (.int (a2)), some (.int (a3)), none] [] M (w_PV (r13 a1 a2 a3 M))) : ∀ (n : Nat) (a1 : Int32) (a2 : Int32) (a3 : Int32) (a4 : Int32) (M : cd_M), cd_R 233 24 [some (.ref 15), some (.int (a1)), some (.int (a2)), some (.int (a3)), some (.int (a4))] [] M (w_PV (f11_laysAnew_15_L24 r13 n a1 a2 a3 a4 M)) := by
  intro n
  induction n with
  | zero =>
    intro a1 a2 a3 a4 M
    exact q_none w_PV rfl
  | succ n ih =>
    intro a1 a2 a3 a4 M
    rw [f11_laysAnew_15_L24]
    refine r_ld (.iload 4) 2 0 4 (.int (a4)) rfl rfl rfl rfl 26 rfl ?_
    refine r_ld (.aload_n 0) 1 2 0 (.ref 15) rfl rfl rfl rfl 27 rfl ?_
    refine r_go (.getfield 23) 3 rfl rfl rfl 30 [.ref 61, .int (a4)] rfl ?_
    refine q_const (.bipush 6) 2 rfl rfl rfl 32 (6) _ rfl cd_kc6 ?_
    refine r_ld (.iload_n 1) 1 0 1 (.int (a1)) rfl rfl rfl rfl 33 rfl ?_
    refine r_go (.imul) 1 rfl rfl rfl 34 [.int (6 * a1), .ref 61, .int (a4)] rfl ?_
    refine r_ld (.iload_n 3) 1 0 3 (.int (a3)) rfl rfl rfl rfl 35 rfl ?_
    refine r_ld (.aload_n 0) 1 2 0 (.ref 15) rfl rfl rfl rfl 36 rfl ?_
    refine r_go (.getfield 20) 3 rfl rfl rfl 39 [.ref 60, .int (a3), .int (6 * a1), .ref 61, .int (a4)] rfl ?_
    refine r_ld (.iload_n 1) 1 0 1 (.int (a1)) rfl rfl rfl rfl 40 rfl ?_
    refine q_iald w_PV rfl rfl 60 8 rfl ?_
    refine q_rem w_PV rfl rfl ?_
    refine r_go (.iadd) 1 rfl rfl rfl 43 [.int ((6 * a1) + (a3 - a3 / (M.1 60 a1.toNatClampNeg) * (M.1 60 a1.toNatClampNeg))), .ref 61, .int (a4)] rfl ?_
    refine q_iald w_PV rfl rfl 61 48 rfl ?_
    refine q_br w_PV (.if_icmp .ge 52) 3 rfl rfl rfl (M.1 61 ((6 * a1) + (a3 - a3 / (M.1 60 a1.toNatClampNeg) * (M.1 60 a1.toNatClampNeg)) : Int32).toNatClampNeg ≤ a4) 96 47 [] rfl (fun _ => ?_) (fun _ => ?_)
    · exact r_w (k11_laysAnew_15_L96 r13 h13 a1 a2 a3 M) (cd_le_s (cd_le_s (cd_le_s (cd_le_s (cd_le_n cd_le_0)))))
    · refine r_ld (.aload_n 0) 1 2 0 (.ref 15) rfl rfl rfl rfl 48 rfl ?_
      refine r_go (.getfield 351) 3 rfl rfl rfl 51 [.int (M.1 15 50)] rfl ?_
      refine q_const (.bipush 90) 2 rfl rfl rfl 53 (90) _ rfl cd_kc90 ?_
      refine q_br w_PV (.if_icmp .ge 43) 3 rfl rfl rfl (90 ≤ M.1 15 50) 96 56 [] rfl (fun _ => ?_) (fun _ => ?_)
      · exact r_w (k11_laysAnew_15_L96 r13 h13 a1 a2 a3 M) (cd_le_s (cd_le_s (cd_le_s (cd_le_s (cd_le_n cd_le_0)))))
      · refine r_ld (.aload_n 0) 1 2 0 (.ref 15) rfl rfl rfl rfl 57 rfl ?_
        refine r_go (.getfield 81) 3 rfl rfl rfl 60 [.ref 80] rfl ?_
        refine r_ld (.aload_n 0) 1 2 0 (.ref 15) rfl rfl rfl rfl 61 rfl ?_
        refine r_go (.getfield 351) 3 rfl rfl rfl 64 [.int (M.1 15 50), .ref 80] rfl ?_
        refine r_ld (.iload_n 3) 1 0 3 (.int (a3)) rfl rfl rfl rfl 65 rfl ?_
        refine q_iast w_PV rfl rfl 80 90 rfl (fun M4 => ?_)
        refine r_ld (.aload_n 0) 1 2 0 (.ref 15) rfl rfl rfl rfl 67 rfl ?_
        refine r_go (.getfield 84) 3 rfl rfl rfl 70 [.ref 81] rfl ?_
        refine r_ld (.aload_n 0) 1 2 0 (.ref 15) rfl rfl rfl rfl 71 rfl ?_
        refine r_go (.getfield 351) 3 rfl rfl rfl 74 [.int (M4.1 15 50), .ref 81] rfl ?_
        refine r_ld (.iload_n 2) 1 0 2 (.int (a2)) rfl rfl rfl rfl 75 rfl ?_
        refine q_iast w_PV rfl rfl 81 90 rfl (fun M5 => ?_)
        refine q_const (.iconst 1) 1 rfl rfl rfl 77 (1) _ rfl cd_kj1 ?_
        refine r_ld (.iload_n 2) 1 0 2 (.int (a2)) rfl rfl rfl rfl 78 rfl ?_
        refine r_go (.isub) 1 rfl rfl rfl 79 [.int (1 - a2)] rfl ?_
        refine q_stB w_PV (.istore_n 2) 1 0 2 rfl rfl (fun _ => rfl) 80 rfl (fun x6 => [some (.ref 15), some (.int (a1)), some (.int (x6)), some (.int (a3)), some (.int (a4))]) (fun _ => rfl) (fun x6 => ?_)
        refine r_ld (.aload_n 0) 1 2 0 (.ref 15) rfl rfl rfl rfl 81 rfl ?_
        refine r_go (.dup) 1 rfl rfl rfl 82 [.ref 15, .ref 15] rfl ?_
        refine r_go (.getfield 351) 3 rfl rfl rfl 85 [.int (M5.1 15 50), .ref 15] rfl ?_
        refine q_const (.iconst 1) 1 rfl rfl rfl 86 (1) _ rfl cd_kj1 ?_
        refine r_go (.iadd) 1 rfl rfl rfl 87 [.int ((M5.1 15 50) + 1), .ref 15] rfl ?_
        refine q_wr w_PV (.putfield 351) 3 rfl rfl rfl 90 [] (cd_wI M5 15 50 ((M5.1 15 50) + 1)) rfl (fun M7 => ?_)
        refine q_inc w_PV 4 (1) (a4) rfl rfl rfl 93 rfl (1) cd_kj1 (fun x8 => [some (.ref 15), some (.int (a1)), some (.int (x6)), some (.int (a3)), some (.int (x8))]) (fun _ => rfl) (fun x8 => ?_)
        refine r_go (.goto (-69)) 3 rfl rfl rfl 24 [] rfl ?_
        exact r_w (ih a1 x6 a3 x8 M7) (cd_le_s (cd_le_s (cd_le_s (cd_le_s (cd_le_s cd_le_0)))))
def f11_laysAnew_15_L13 : Nat → Int32 → Int32 → Int32 → cd_M → Option cd_M
  | 0, _, _, _, _ => none
  | n + 1, a1, a2, a3, M => if M.1 15 44 ≤ a3 then (some M) else (f11_laysAnew_15_L24 (f11_laysAnew_15_L13 n) cd_fu a1 a2 a3 0 M)
set_option maxRecDepth 8000 in
theorem k11_laysAnew_15_L13 : ∀ (n : Nat) (a1 : Int32) (a2 : Int32) (a3 : Int32) (M : cd_M), cd_R 233 13 [some (.ref 15), some (.int (a1)), some (.int (a2)), some (.int (a3)), none] [] M (w_PV (f11_laysAnew_15_L13 n a1 a2 a3 M)) := by
  intro n
  induction n with
  | zero =>
    intro a1 a2 a3 M
    exact q_none w_PV rfl
  | succ n ih =>
    intro a1 a2 a3 M
    rw [f11_laysAnew_15_L13]
    refine r_ld (.iload_n 3) 1 0 3 (.int (a3)) rfl rfl rfl rfl 14 rfl ?_
    refine r_ld (.aload_n 0) 1 2 0 (.ref 15) rfl rfl rfl rfl 15 rfl ?_
    refine r_go (.getfield 330) 3 rfl rfl rfl 18 [.int (M.1 15 44), .int (a3)] rfl ?_
    refine q_br w_PV (.if_icmp .ge 84) 3 rfl rfl rfl (M.1 15 44 ≤ a3) 102 21 [] rfl (fun _ => ?_) (fun _ => ?_)
    · exact r_ret .return_ 1 rfl rfl rfl _ rfl
    · refine q_const (.iconst 0) 1 rfl rfl rfl 22 (0) _ rfl cd_kj0 ?_
      refine r_st (.istore 4) 2 0 4 rfl rfl rfl 24 rfl [some (.ref 15), some (.int (a1)), some (.int (a2)), some (.int (a3)), some (.int (0))] rfl ?_
      exact r_w (k11_laysAnew_15_L24 (f11_laysAnew_15_L13 n) ih cd_fu a1 a2 a3 0 M) (cd_le_s (cd_le_s (cd_le_s (cd_le_s (cd_le_s cd_le_0)))))
def f11_laysAnew_15 (a1 : Int32) (M : cd_M) : Option cd_M := (f11_laysAll_15 M).bind fun M1 => cd_lt (cd_wI M1 15 50 0) fun M2 => f11_laysAnew_15_L13 cd_fu a1 0 0 M2
set_option maxRecDepth 8000 in
theorem k11_laysAnew_15 (a1 : Int32) (M : cd_M) : cd_R 233 0 [some (.ref 15), some (.int (a1)), none, none, none] [] M (w_PV (f11_laysAnew_15 a1 M)) := by
  unfold f11_laysAnew_15
  refine r_ld (.aload_n 0) 1 2 0 (.ref 15) rfl rfl rfl rfl 1 rfl ?_
  refine q_cV w_PV rfl (.invokevirtual 345) rfl rfl rfl 222 [.ref 15] [] rfl (k11_laysAll_15 M) (fun M1 => ?_)
  refine r_ld (.aload_n 0) 1 2 0 (.ref 15) rfl rfl rfl rfl 5 rfl ?_
  refine q_const (.iconst 0) 1 rfl rfl rfl 6 (0) _ rfl cd_kj0 ?_
  refine q_wr w_PV (.putfield 351) 3 rfl rfl rfl 9 [] (cd_wI M1 15 50 0) rfl (fun M2 => ?_)
  refine q_const (.iconst 0) 1 rfl rfl rfl 10 (0) _ rfl cd_kj0 ?_
  refine r_st (.istore_n 2) 1 0 2 rfl rfl rfl 11 rfl [some (.ref 15), some (.int (a1)), some (.int (0)), none, none] rfl ?_
  refine q_const (.iconst 0) 1 rfl rfl rfl 12 (0) _ rfl cd_kj0 ?_
  refine r_st (.istore_n 3) 1 0 3 rfl rfl rfl 13 rfl [some (.ref 15), some (.int (a1)), some (.int (0)), some (.int (0)), none] rfl ?_
  exact r_w (k11_laysAnew_15_L13 cd_fu a1 0 0 M2) (cd_le_s (cd_le_s (cd_le_s (cd_le_s (cd_le_n cd_le_0)))))
def f11_anewSample_15 (a1 : Int32) (a2 : Int32) (M : cd_M) : Option (Int32) := if cd_in a1 90 = true then (if cd_in a1 90 = true then (if cd_in ((2 * (M.1 80 a1.toNatClampNeg)) + (M.1 81 a1.toNatClampNeg)) 180 = true then ((f11_sample_15 (M.1 78 ((2 * (M.1 80 a1.toNatClampNeg)) + (M.1 81 a1.toNatClampNeg) : Int32).toNatClampNeg) a2 M).bind fun v1 => some v1) else none) else none) else none
set_option maxRecDepth 8000 in
theorem k11_anewSample_15 (a1 : Int32) (a2 : Int32) (M : cd_M) : cd_R 234 0 [some (.ref 15), some (.int (a1)), some (.int (a2))] [] M ((w_PI M) (f11_anewSample_15 a1 a2 M)) := by
  unfold f11_anewSample_15
  refine r_ld (.aload_n 0) 1 2 0 (.ref 15) rfl rfl rfl rfl 1 rfl ?_
  refine r_ld (.aload_n 0) 1 2 0 (.ref 15) rfl rfl rfl rfl 2 rfl ?_
  refine r_go (.getfield 75) 3 rfl rfl rfl 5 [.ref 78, .ref 15] rfl ?_
  refine q_const (.iconst 2) 1 rfl rfl rfl 6 (2) _ rfl cd_kj2 ?_
  refine r_ld (.aload_n 0) 1 2 0 (.ref 15) rfl rfl rfl rfl 7 rfl ?_
  refine r_go (.getfield 81) 3 rfl rfl rfl 10 [.ref 80, .int (2), .ref 78, .ref 15] rfl ?_
  refine r_ld (.iload_n 1) 1 0 1 (.int (a1)) rfl rfl rfl rfl 11 rfl ?_
  refine q_iald (w_PI M) rfl rfl 80 90 rfl ?_
  refine r_go (.imul) 1 rfl rfl rfl 13 [.int (2 * (M.1 80 a1.toNatClampNeg)), .ref 78, .ref 15] rfl ?_
  refine r_ld (.aload_n 0) 1 2 0 (.ref 15) rfl rfl rfl rfl 14 rfl ?_
  refine r_go (.getfield 84) 3 rfl rfl rfl 17 [.ref 81, .int (2 * (M.1 80 a1.toNatClampNeg)), .ref 78, .ref 15] rfl ?_
  refine r_ld (.iload_n 1) 1 0 1 (.int (a1)) rfl rfl rfl rfl 18 rfl ?_
  refine q_iald (w_PI M) rfl rfl 81 90 rfl ?_
  refine r_go (.iadd) 1 rfl rfl rfl 20 [.int ((2 * (M.1 80 a1.toNatClampNeg)) + (M.1 81 a1.toNatClampNeg)), .ref 78, .ref 15] rfl ?_
  refine q_iald (w_PI M) rfl rfl 78 180 rfl ?_
  refine r_ld (.iload_n 2) 1 0 2 (.int (a2)) rfl rfl rfl rfl 22 rfl ?_
  refine q_cI (w_PI M) rfl (.invokevirtual 247) rfl rfl rfl 191 [.ref 15, .int (M.1 78 ((2 * (M.1 80 a1.toNatClampNeg)) + (M.1 81 a1.toNatClampNeg) : Int32).toNatClampNeg), .int (a2)] [] rfl (k11_sample_15 (M.1 78 ((2 * (M.1 80 a1.toNatClampNeg)) + (M.1 81 a1.toNatClampNeg) : Int32).toNatClampNeg) a2 M) (fun v1 => ?_)
  exact r_ret .ireturn 1 rfl rfl rfl _ rfl
def f11_anew_15 (a1 : Int32) (a2 : Int32) (a3 : Int32) (M : cd_M) : Option (Int32 × cd_M) := cd_lt (cd_wI M 15 0 0) fun M1 => if f11_isCadence_15 a1 M1 = 0 then (some ((-1), M1)) else ((f11_laysAnew_15 a1 M1).bind fun M3 => if a3 = (-1) then (some (M3.1 15 50, M3)) else (if f11_within (a2.toInt64) 0 (((M3.1 15 50) - 1 : Int32).toInt64) M3 = 0 then (some ((-1), M3)) else (if a3 = (-2) then (if cd_in a2 90 = true then (some (M3.1 81 a2.toNatClampNeg, M3)) else none) else (if f11_within (a3.toInt64) 0 (((M3.1 15 11) - 1 : Int32).toInt64) M3 = 0 then (some ((-1), M3)) else ((f11_anewSample_15 a2 a3 M3).bind fun v6 => some (v6, M3))))))
set_option maxRecDepth 8000 in
theorem k11_anew_15 (a1 : Int32) (a2 : Int32) (a3 : Int32) (M : cd_M) : cd_R 235 0 [some (.ref 15), some (.int (a1)), some (.int (a2)), some (.int (a3))] [] M (w_PM (f11_anew_15 a1 a2 a3 M)) := by
  unfold f11_anew_15
  refine r_ld (.aload_n 0) 1 2 0 (.ref 15) rfl rfl rfl rfl 1 rfl ?_
  refine q_const (.iconst 0) 1 rfl rfl rfl 2 (0) _ rfl cd_kj0 ?_
  refine q_wr w_PM (.putfield 95) 3 rfl rfl rfl 5 [] (cd_wI M 15 0 0) rfl (fun M1 => ?_)
  refine r_ld (.aload_n 0) 1 2 0 (.ref 15) rfl rfl rfl rfl 6 rfl ?_
  refine r_ld (.iload_n 1) 1 0 1 (.int (a1)) rfl rfl rfl rfl 7 rfl ?_
  refine q_cTIz (.invokevirtual 230) rfl rfl rfl 185 rfl [.ref 15, .int (a1)] [] rfl (k11_isCadence_15 a1 M1) (fun z2 => ?_)
  refine q_br w_PM (.ifCond .ne 5) 3 rfl rfl rfl (f11_isCadence_15 a1 M1 = 0) 13 15 [] rfl (fun _ => ?_) (fun _ => ?_)
  · refine q_const (.iconst (-1)) 1 rfl rfl rfl 14 (-1) _ rfl cd_kjm1 ?_
    exact r_ret .ireturn 1 rfl rfl rfl _ rfl
  · refine r_ld (.aload_n 0) 1 2 0 (.ref 15) rfl rfl rfl rfl 16 rfl ?_
    refine r_ld (.iload_n 1) 1 0 1 (.int (a1)) rfl rfl rfl rfl 17 rfl ?_
    refine q_cV w_PM rfl (.invokevirtual 354) rfl rfl rfl 233 [.ref 15, .int (a1)] [] rfl (k11_laysAnew_15 a1 M1) (fun M3 => ?_)
    refine r_ld (.iload_n 3) 1 0 3 (.int (a3)) rfl rfl rfl rfl 21 rfl ?_
    refine q_const (.iconst (-1)) 1 rfl rfl rfl 22 (-1) _ rfl cd_kjm1 ?_
    refine q_br w_PM (.if_icmp .ne 8) 3 rfl rfl rfl (a3 = (-1)) 25 30 [] rfl (fun _ => ?_) (fun _ => ?_)
    · refine r_ld (.aload_n 0) 1 2 0 (.ref 15) rfl rfl rfl rfl 26 rfl ?_
      refine r_go (.getfield 351) 3 rfl rfl rfl 29 [.int (M3.1 15 50)] rfl ?_
      exact r_ret .ireturn 1 rfl rfl rfl _ rfl
    · refine r_ld (.iload_n 2) 1 0 2 (.int (a2)) rfl rfl rfl rfl 31 rfl ?_
      refine r_go (.i2l) 1 rfl rfl rfl 32 [.long (a2.toInt64)] rfl ?_
      refine r_go (.lconst 0) 1 rfl rfl rfl 33 [.long (0), .long (a2.toInt64)] rfl ?_
      refine r_ld (.aload_n 0) 1 2 0 (.ref 15) rfl rfl rfl rfl 34 rfl ?_
      refine r_go (.getfield 351) 3 rfl rfl rfl 37 [.int (M3.1 15 50), .long (0), .long (a2.toInt64)] rfl ?_
      refine q_const (.iconst 1) 1 rfl rfl rfl 38 (1) _ rfl cd_kj1 ?_
      refine r_go (.isub) 1 rfl rfl rfl 39 [.int ((M3.1 15 50) - 1), .long (0), .long (a2.toInt64)] rfl ?_
      refine r_go (.i2l) 1 rfl rfl rfl 40 [.long (((M3.1 15 50) - 1 : Int32).toInt64), .long (0), .long (a2.toInt64)] rfl ?_
      refine q_cTIz (.invokestatic 127) rfl rfl rfl 161 rfl [.long (a2.toInt64), .long (0), .long (((M3.1 15 50) - 1 : Int32).toInt64)] [] rfl (k11_within (a2.toInt64) 0 (((M3.1 15 50) - 1 : Int32).toInt64) M3) (fun z4 => ?_)
      refine q_br w_PM (.ifCond .ne 5) 3 rfl rfl rfl (f11_within (a2.toInt64) 0 (((M3.1 15 50) - 1 : Int32).toInt64) M3 = 0) 46 48 [] rfl (fun _ => ?_) (fun _ => ?_)
      · refine q_const (.iconst (-1)) 1 rfl rfl rfl 47 (-1) _ rfl cd_kjm1 ?_
        exact r_ret .ireturn 1 rfl rfl rfl _ rfl
      · refine r_ld (.iload_n 3) 1 0 3 (.int (a3)) rfl rfl rfl rfl 49 rfl ?_
        refine q_const (.bipush (-2)) 2 rfl rfl rfl 51 (-2) _ rfl cd_kcm2 ?_
        refine q_br w_PM (.if_icmp .ne 10) 3 rfl rfl rfl (a3 = (-2)) 54 61 [] rfl (fun _ => ?_) (fun _ => ?_)
        · refine r_ld (.aload_n 0) 1 2 0 (.ref 15) rfl rfl rfl rfl 55 rfl ?_
          refine r_go (.getfield 84) 3 rfl rfl rfl 58 [.ref 81] rfl ?_
          refine r_ld (.iload_n 2) 1 0 2 (.int (a2)) rfl rfl rfl rfl 59 rfl ?_
          refine q_iald w_PM rfl rfl 81 90 rfl ?_
          exact r_ret .ireturn 1 rfl rfl rfl _ rfl
        · refine r_ld (.iload_n 3) 1 0 3 (.int (a3)) rfl rfl rfl rfl 62 rfl ?_
          refine r_go (.i2l) 1 rfl rfl rfl 63 [.long (a3.toInt64)] rfl ?_
          refine r_go (.lconst 0) 1 rfl rfl rfl 64 [.long (0), .long (a3.toInt64)] rfl ?_
          refine r_ld (.aload_n 0) 1 2 0 (.ref 15) rfl rfl rfl rfl 65 rfl ?_
          refine r_go (.getfield 189) 3 rfl rfl rfl 68 [.int (M3.1 15 11), .long (0), .long (a3.toInt64)] rfl ?_
          refine q_const (.iconst 1) 1 rfl rfl rfl 69 (1) _ rfl cd_kj1 ?_
          refine r_go (.isub) 1 rfl rfl rfl 70 [.int ((M3.1 15 11) - 1), .long (0), .long (a3.toInt64)] rfl ?_
          refine r_go (.i2l) 1 rfl rfl rfl 71 [.long (((M3.1 15 11) - 1 : Int32).toInt64), .long (0), .long (a3.toInt64)] rfl ?_
          refine q_cTIz (.invokestatic 127) rfl rfl rfl 161 rfl [.long (a3.toInt64), .long (0), .long (((M3.1 15 11) - 1 : Int32).toInt64)] [] rfl (k11_within (a3.toInt64) 0 (((M3.1 15 11) - 1 : Int32).toInt64) M3) (fun z5 => ?_)
          refine q_br w_PM (.ifCond .eq 12) 3 rfl rfl rfl (f11_within (a3.toInt64) 0 (((M3.1 15 11) - 1 : Int32).toInt64) M3 = 0) 86 77 [] rfl (fun _ => ?_) (fun _ => ?_)
          · refine q_const (.iconst (-1)) 1 rfl rfl rfl 87 (-1) _ rfl cd_kjm1 ?_
            exact r_ret .ireturn 1 rfl rfl rfl _ rfl
          · refine r_ld (.aload_n 0) 1 2 0 (.ref 15) rfl rfl rfl rfl 78 rfl ?_
            refine r_ld (.iload_n 2) 1 0 2 (.int (a2)) rfl rfl rfl rfl 79 rfl ?_
            refine r_ld (.iload_n 3) 1 0 3 (.int (a3)) rfl rfl rfl rfl 80 rfl ?_
            refine q_cI w_PM rfl (.invokevirtual 357) rfl rfl rfl 234 [.ref 15, .int (a2), .int (a3)] [] rfl (k11_anewSample_15 a2 a3 M3) (fun v6 => ?_)
            refine r_go (.goto 4) 3 rfl rfl rfl 87 [.int (v6)] rfl ?_
            exact r_ret .ireturn 1 rfl rfl rfl _ rfl
def f11_isClean_15_L61 (r35 : Int32 → cd_M → Option (Int32 × cd_M)) : Nat → Int32 → Int32 → cd_M → Option (Int32 × cd_M)
  | 0, _, _, _ => none
  | n + 1, a2, a3, M => if M.1 15 11 ≤ a3 then (cd_lt (a2 + (1)) fun x5 => r35 x5 M) else ((f11_anewSample_15 a2 a3 M).bind fun v6 => (f11_sample_15 a2 a3 M).bind fun v7 => if v6 = v7 then (cd_lt (a3 + (1)) fun x8 => f11_isClean_15_L61 r35 n a2 x8 M) else (some (0, M)))
set_option maxRecDepth 8000 in
theorem k11_isClean_15_L61 (r35 : Int32 → cd_M → Option (Int32 × cd_M)) (h35 : ∀ (a2 : Int32) (M : cd_M), cd_R 236 35 [some (.ref 15), none, some (.int (a2)), none] [] M (w_PM (r35 a2 M))) : ∀ (n : Nat) (a2 : Int32) (a3 : Int32) (M : cd_M), cd_R 236 61 [some (.ref 15), none, some (.int (a2)), some (.int (a3))] [] M (w_PM (f11_isClean_15_L61 r35 n a2 a3 M)) := by
  intro n
  induction n with
  | zero =>
    intro a2 a3 M
    exact q_none w_PM rfl
  | succ n ih =>
    intro a2 a3 M
    rw [f11_isClean_15_L61]
    refine r_ld (.iload_n 3) 1 0 3 (.int (a3)) rfl rfl rfl rfl 62 rfl ?_
    refine r_ld (.aload_n 0) 1 2 0 (.ref 15) rfl rfl rfl rfl 63 rfl ?_
    refine r_go (.getfield 189) 3 rfl rfl rfl 66 [.int (M.1 15 11), .int (a3)] rfl ?_
    refine q_br w_PM (.if_icmp .ge 26) 3 rfl rfl rfl (M.1 15 11 ≤ a3) 92 69 [] rfl (fun _ => ?_) (fun _ => ?_)
    · refine q_inc w_PM 2 (1) (a2) rfl rfl rfl 95 rfl (1) cd_kj1 (fun x5 => [some (.ref 15), none, some (.int (x5)), some (.int (a3))]) (fun _ => rfl) (fun x5 => ?_)
      refine r_go (.goto (-60)) 3 rfl rfl rfl 35 [] rfl ?_
      exact r_w (h35 x5 M) (cd_le_s (cd_le_n (cd_le_s (cd_le_n cd_le_0))))
    · refine r_ld (.aload_n 0) 1 2 0 (.ref 15) rfl rfl rfl rfl 70 rfl ?_
      refine r_ld (.iload_n 2) 1 0 2 (.int (a2)) rfl rfl rfl rfl 71 rfl ?_
      refine r_ld (.iload_n 3) 1 0 3 (.int (a3)) rfl rfl rfl rfl 72 rfl ?_
      refine q_cI w_PM rfl (.invokevirtual 357) rfl rfl rfl 234 [.ref 15, .int (a2), .int (a3)] [] rfl (k11_anewSample_15 a2 a3 M) (fun v6 => ?_)
      refine r_ld (.aload_n 0) 1 2 0 (.ref 15) rfl rfl rfl rfl 76 rfl ?_
      refine r_ld (.iload_n 2) 1 0 2 (.int (a2)) rfl rfl rfl rfl 77 rfl ?_
      refine r_ld (.iload_n 3) 1 0 3 (.int (a3)) rfl rfl rfl rfl 78 rfl ?_
      refine q_cI w_PM rfl (.invokevirtual 247) rfl rfl rfl 191 [.ref 15, .int (a2), .int (a3)] [.int (v6)] rfl (k11_sample_15 a2 a3 M) (fun v7 => ?_)
      refine q_br w_PM (.if_icmp .eq 5) 3 rfl rfl rfl (v6 = v7) 86 84 [] rfl (fun _ => ?_) (fun _ => ?_)
      · refine q_inc w_PM 3 (1) (a3) rfl rfl rfl 89 rfl (1) cd_kj1 (fun x8 => [some (.ref 15), none, some (.int (a2)), some (.int (x8))]) (fun _ => rfl) (fun x8 => ?_)
        refine r_go (.goto (-28)) 3 rfl rfl rfl 61 [] rfl ?_
        exact r_w (ih a2 x8 M) (cd_le_s (cd_le_n (cd_le_s (cd_le_s cd_le_0))))
      · refine q_const (.iconst 0) 1 rfl rfl rfl 85 (0) _ rfl cd_kj0 ?_
        exact r_retZ rfl rfl (by decide)
def f11_isClean_15_L35 : Nat → Int32 → cd_M → Option (Int32 × cd_M)
  | 0, _, _ => none
  | n + 1, a2, M => if M.1 15 50 ≤ a2 then (some (1, M)) else (if cd_in a2 90 = true then ((f11_parityOf_15 a2 M).bind fun v4 => if M.1 81 a2.toNatClampNeg = v4 then (f11_isClean_15_L61 (f11_isClean_15_L35 n) cd_fu a2 0 M) else (some (0, M))) else none)
set_option maxRecDepth 8000 in
theorem k11_isClean_15_L35 : ∀ (n : Nat) (a2 : Int32) (M : cd_M), cd_R 236 35 [some (.ref 15), none, some (.int (a2)), none] [] M (w_PM (f11_isClean_15_L35 n a2 M)) := by
  intro n
  induction n with
  | zero =>
    intro a2 M
    exact q_none w_PM rfl
  | succ n ih =>
    intro a2 M
    rw [f11_isClean_15_L35]
    refine r_ld (.iload_n 2) 1 0 2 (.int (a2)) rfl rfl rfl rfl 36 rfl ?_
    refine r_ld (.aload_n 0) 1 2 0 (.ref 15) rfl rfl rfl rfl 37 rfl ?_
    refine r_go (.getfield 351) 3 rfl rfl rfl 40 [.int (M.1 15 50), .int (a2)] rfl ?_
    refine q_br w_PM (.if_icmp .ge 58) 3 rfl rfl rfl (M.1 15 50 ≤ a2) 98 43 [] rfl (fun _ => ?_) (fun _ => ?_)
    · refine q_const (.iconst 1) 1 rfl rfl rfl 99 (1) _ rfl cd_kj1 ?_
      exact r_retZ rfl rfl (by decide)
    · refine r_ld (.aload_n 0) 1 2 0 (.ref 15) rfl rfl rfl rfl 44 rfl ?_
      refine r_go (.getfield 84) 3 rfl rfl rfl 47 [.ref 81] rfl ?_
      refine r_ld (.iload_n 2) 1 0 2 (.int (a2)) rfl rfl rfl rfl 48 rfl ?_
      refine q_iald w_PM rfl rfl 81 90 rfl ?_
      refine r_ld (.aload_n 0) 1 2 0 (.ref 15) rfl rfl rfl rfl 50 rfl ?_
      refine r_ld (.iload_n 2) 1 0 2 (.int (a2)) rfl rfl rfl rfl 51 rfl ?_
      refine q_cI w_PM rfl (.invokevirtual 258) rfl rfl rfl 190 [.ref 15, .int (a2)] [.int (M.1 81 a2.toNatClampNeg)] rfl (k11_parityOf_15 a2 M) (fun v4 => ?_)
      refine q_br w_PM (.if_icmp .eq 5) 3 rfl rfl rfl (M.1 81 a2.toNatClampNeg = v4) 59 57 [] rfl (fun _ => ?_) (fun _ => ?_)
      · refine q_const (.iconst 0) 1 rfl rfl rfl 60 (0) _ rfl cd_kj0 ?_
        refine r_st (.istore_n 3) 1 0 3 rfl rfl rfl 61 rfl [some (.ref 15), none, some (.int (a2)), some (.int (0))] rfl ?_
        exact r_w (k11_isClean_15_L61 (f11_isClean_15_L35 n) ih cd_fu a2 0 M) (cd_le_s (cd_le_n (cd_le_s (cd_le_s cd_le_0))))
      · refine q_const (.iconst 0) 1 rfl rfl rfl 58 (0) _ rfl cd_kj0 ?_
        exact r_retZ rfl rfl (by decide)
def f11_isClean_15 (a1 : Int32) (M : cd_M) : Option (Int32 × cd_M) := cd_lt (cd_wI M 15 0 0) fun M1 => if f11_isCadence_15 a1 M1 = 0 then (some (0, M1)) else ((f11_laysAnew_15 a1 M1).bind fun M3 => if M3.1 15 50 = M3.1 15 24 then (f11_isClean_15_L35 cd_fu 0 M3) else (some (0, M3)))
set_option maxRecDepth 8000 in
theorem k11_isClean_15 (a1 : Int32) (M : cd_M) : cd_R 236 0 [some (.ref 15), some (.int (a1)), none, none] [] M (w_PM (f11_isClean_15 a1 M)) := by
  unfold f11_isClean_15
  refine r_ld (.aload_n 0) 1 2 0 (.ref 15) rfl rfl rfl rfl 1 rfl ?_
  refine q_const (.iconst 0) 1 rfl rfl rfl 2 (0) _ rfl cd_kj0 ?_
  refine q_wr w_PM (.putfield 95) 3 rfl rfl rfl 5 [] (cd_wI M 15 0 0) rfl (fun M1 => ?_)
  refine r_ld (.aload_n 0) 1 2 0 (.ref 15) rfl rfl rfl rfl 6 rfl ?_
  refine r_ld (.iload_n 1) 1 0 1 (.int (a1)) rfl rfl rfl rfl 7 rfl ?_
  refine q_cTIz (.invokevirtual 230) rfl rfl rfl 185 rfl [.ref 15, .int (a1)] [] rfl (k11_isCadence_15 a1 M1) (fun z2 => ?_)
  refine q_br w_PM (.ifCond .ne 5) 3 rfl rfl rfl (f11_isCadence_15 a1 M1 = 0) 13 15 [] rfl (fun _ => ?_) (fun _ => ?_)
  · refine q_const (.iconst 0) 1 rfl rfl rfl 14 (0) _ rfl cd_kj0 ?_
    exact r_retZ rfl rfl (by decide)
  · refine r_ld (.aload_n 0) 1 2 0 (.ref 15) rfl rfl rfl rfl 16 rfl ?_
    refine r_ld (.iload_n 1) 1 0 1 (.int (a1)) rfl rfl rfl rfl 17 rfl ?_
    refine q_cV w_PM rfl (.invokevirtual 354) rfl rfl rfl 233 [.ref 15, .int (a1)] [] rfl (k11_laysAnew_15 a1 M1) (fun M3 => ?_)
    refine r_ld (.aload_n 0) 1 2 0 (.ref 15) rfl rfl rfl rfl 21 rfl ?_
    refine r_go (.getfield 351) 3 rfl rfl rfl 24 [.int (M3.1 15 50)] rfl ?_
    refine r_ld (.aload_n 0) 1 2 0 (.ref 15) rfl rfl rfl rfl 25 rfl ?_
    refine r_go (.getfield 195) 3 rfl rfl rfl 28 [.int (M3.1 15 24), .int (M3.1 15 50)] rfl ?_
    refine q_br w_PM (.if_icmp .eq 5) 3 rfl rfl rfl (M3.1 15 50 = M3.1 15 24) 33 31 [] rfl (fun _ => ?_) (fun _ => ?_)
    · refine q_const (.iconst 0) 1 rfl rfl rfl 34 (0) _ rfl cd_kj0 ?_
      refine r_st (.istore_n 2) 1 0 2 rfl rfl rfl 35 rfl [some (.ref 15), some (.int (a1)), some (.int (0)), none] rfl ?_
      exact r_w (k11_isClean_15_L35 cd_fu 0 M3) (cd_le_s (cd_le_n (cd_le_s (cd_le_n cd_le_0))))
    · refine q_const (.iconst 0) 1 rfl rfl rfl 32 (0) _ rfl cd_kj0 ?_
      exact r_retZ rfl rfl (by decide)
def f11_count_15 (a1 : Int32) (M : cd_M) : Option (Int32 × cd_M) := cd_lt (cd_wI M 15 0 0) fun M1 => if a1 = 0 then (some (M1.1 15 11, M1)) else (if a1 = 1 then (some (M1.1 15 12, M1)) else (if a1 = 2 then (some (M1.1 15 24, M1)) else (if a1 = 3 then (some (M1.1 15 17, M1)) else (if a1 = 4 then (some (M1.1 15 23, M1)) else (if a1 = 5 then (if cd_in 0 10 = true then (some (M1.1 62 (0 : Int32).toNatClampNeg, M1)) else none) else (if a1 = 6 then (if cd_in 1 10 = true then (some (M1.1 62 (1 : Int32).toNatClampNeg, M1)) else none) else (if a1 = 7 then (if cd_in 2 10 = true then (some (M1.1 62 (2 : Int32).toNatClampNeg, M1)) else none) else (if a1 = 8 then (if cd_in 3 10 = true then (some (M1.1 62 (3 : Int32).toNatClampNeg, M1)) else none) else (if a1 = 9 then (if cd_in 4 10 = true then (some (M1.1 62 (4 : Int32).toNatClampNeg, M1)) else none) else (if a1 = 10 then (some (M1.1 15 26, M1)) else (if a1 = 11 then (some (M1.1 15 2, M1)) else (some ((-1), M1)))))))))))))
set_option maxRecDepth 8000 in
theorem k11_count_15 (a1 : Int32) (M : cd_M) : cd_R 237 0 [some (.ref 15), some (.int (a1))] [] M (w_PM (f11_count_15 a1 M)) := by
  unfold f11_count_15
  refine r_ld (.aload_n 0) 1 2 0 (.ref 15) rfl rfl rfl rfl 1 rfl ?_
  refine q_const (.iconst 0) 1 rfl rfl rfl 2 (0) _ rfl cd_kj0 ?_
  refine q_wr w_PM (.putfield 95) 3 rfl rfl rfl 5 [] (cd_wI M 15 0 0) rfl (fun M1 => ?_)
  refine r_ld (.iload_n 1) 1 0 1 (.int (a1)) rfl rfl rfl rfl 6 rfl ?_
  refine q_or w_PM (a1 = 0) (fun e0 => ?_) (fun e0 => ?_)
  · rw [e0]
    refine r_go (.tableswitch 132 0 11 #[62, 67, 72, 77, 82, 87, 94, 101, 108, 115, 122, 127]) 62 rfl rfl rfl 68 [] rfl ?_
    refine r_ld (.aload_n 0) 1 2 0 (.ref 15) rfl rfl rfl rfl 69 rfl ?_
    refine r_go (.getfield 189) 3 rfl rfl rfl 72 [.int (M1.1 15 11)] rfl ?_
    exact r_ret .ireturn 1 rfl rfl rfl _ rfl
  refine q_or w_PM (a1 = 1) (fun e1 => ?_) (fun e1 => ?_)
  · rw [e1]
    refine r_go (.tableswitch 132 0 11 #[62, 67, 72, 77, 82, 87, 94, 101, 108, 115, 122, 127]) 62 rfl rfl rfl 73 [] rfl ?_
    refine r_ld (.aload_n 0) 1 2 0 (.ref 15) rfl rfl rfl rfl 74 rfl ?_
    refine r_go (.getfield 192) 3 rfl rfl rfl 77 [.int (M1.1 15 12)] rfl ?_
    exact r_ret .ireturn 1 rfl rfl rfl _ rfl
  refine q_or w_PM (a1 = 2) (fun e2 => ?_) (fun e2 => ?_)
  · rw [e2]
    refine r_go (.tableswitch 132 0 11 #[62, 67, 72, 77, 82, 87, 94, 101, 108, 115, 122, 127]) 62 rfl rfl rfl 78 [] rfl ?_
    refine r_ld (.aload_n 0) 1 2 0 (.ref 15) rfl rfl rfl rfl 79 rfl ?_
    refine r_go (.getfield 195) 3 rfl rfl rfl 82 [.int (M1.1 15 24)] rfl ?_
    exact r_ret .ireturn 1 rfl rfl rfl _ rfl
  refine q_or w_PM (a1 = 3) (fun e3 => ?_) (fun e3 => ?_)
  · rw [e3]
    refine r_go (.tableswitch 132 0 11 #[62, 67, 72, 77, 82, 87, 94, 101, 108, 115, 122, 127]) 62 rfl rfl rfl 83 [] rfl ?_
    refine r_ld (.aload_n 0) 1 2 0 (.ref 15) rfl rfl rfl rfl 84 rfl ?_
    refine r_go (.getfield 87) 3 rfl rfl rfl 87 [.int (M1.1 15 17)] rfl ?_
    exact r_ret .ireturn 1 rfl rfl rfl _ rfl
  refine q_or w_PM (a1 = 4) (fun e4 => ?_) (fun e4 => ?_)
  · rw [e4]
    refine r_go (.tableswitch 132 0 11 #[62, 67, 72, 77, 82, 87, 94, 101, 108, 115, 122, 127]) 62 rfl rfl rfl 88 [] rfl ?_
    refine r_ld (.aload_n 0) 1 2 0 (.ref 15) rfl rfl rfl rfl 89 rfl ?_
    refine r_go (.getfield 227) 3 rfl rfl rfl 92 [.int (M1.1 15 23)] rfl ?_
    exact r_ret .ireturn 1 rfl rfl rfl _ rfl
  refine q_or w_PM (a1 = 5) (fun e5 => ?_) (fun e5 => ?_)
  · rw [e5]
    refine r_go (.tableswitch 132 0 11 #[62, 67, 72, 77, 82, 87, 94, 101, 108, 115, 122, 127]) 62 rfl rfl rfl 93 [] rfl ?_
    refine r_ld (.aload_n 0) 1 2 0 (.ref 15) rfl rfl rfl rfl 94 rfl ?_
    refine r_go (.getfield 26) 3 rfl rfl rfl 97 [.ref 62] rfl ?_
    refine q_const (.iconst 0) 1 rfl rfl rfl 98 (0) _ rfl cd_kj0 ?_
    refine q_iald w_PM rfl rfl 62 10 rfl ?_
    exact r_ret .ireturn 1 rfl rfl rfl _ rfl
  refine q_or w_PM (a1 = 6) (fun e6 => ?_) (fun e6 => ?_)
  · rw [e6]
    refine r_go (.tableswitch 132 0 11 #[62, 67, 72, 77, 82, 87, 94, 101, 108, 115, 122, 127]) 62 rfl rfl rfl 100 [] rfl ?_
    refine r_ld (.aload_n 0) 1 2 0 (.ref 15) rfl rfl rfl rfl 101 rfl ?_
    refine r_go (.getfield 26) 3 rfl rfl rfl 104 [.ref 62] rfl ?_
    refine q_const (.iconst 1) 1 rfl rfl rfl 105 (1) _ rfl cd_kj1 ?_
    refine q_iald w_PM rfl rfl 62 10 rfl ?_
    exact r_ret .ireturn 1 rfl rfl rfl _ rfl
  refine q_or w_PM (a1 = 7) (fun e7 => ?_) (fun e7 => ?_)
  · rw [e7]
    refine r_go (.tableswitch 132 0 11 #[62, 67, 72, 77, 82, 87, 94, 101, 108, 115, 122, 127]) 62 rfl rfl rfl 107 [] rfl ?_
    refine r_ld (.aload_n 0) 1 2 0 (.ref 15) rfl rfl rfl rfl 108 rfl ?_
    refine r_go (.getfield 26) 3 rfl rfl rfl 111 [.ref 62] rfl ?_
    refine q_const (.iconst 2) 1 rfl rfl rfl 112 (2) _ rfl cd_kj2 ?_
    refine q_iald w_PM rfl rfl 62 10 rfl ?_
    exact r_ret .ireturn 1 rfl rfl rfl _ rfl
  refine q_or w_PM (a1 = 8) (fun e8 => ?_) (fun e8 => ?_)
  · rw [e8]
    refine r_go (.tableswitch 132 0 11 #[62, 67, 72, 77, 82, 87, 94, 101, 108, 115, 122, 127]) 62 rfl rfl rfl 114 [] rfl ?_
    refine r_ld (.aload_n 0) 1 2 0 (.ref 15) rfl rfl rfl rfl 115 rfl ?_
    refine r_go (.getfield 26) 3 rfl rfl rfl 118 [.ref 62] rfl ?_
    refine q_const (.iconst 3) 1 rfl rfl rfl 119 (3) _ rfl cd_kj3 ?_
    refine q_iald w_PM rfl rfl 62 10 rfl ?_
    exact r_ret .ireturn 1 rfl rfl rfl _ rfl
  refine q_or w_PM (a1 = 9) (fun e9 => ?_) (fun e9 => ?_)
  · rw [e9]
    refine r_go (.tableswitch 132 0 11 #[62, 67, 72, 77, 82, 87, 94, 101, 108, 115, 122, 127]) 62 rfl rfl rfl 121 [] rfl ?_
    refine r_ld (.aload_n 0) 1 2 0 (.ref 15) rfl rfl rfl rfl 122 rfl ?_
    refine r_go (.getfield 26) 3 rfl rfl rfl 125 [.ref 62] rfl ?_
    refine q_const (.iconst 4) 1 rfl rfl rfl 126 (4) _ rfl cd_kj4 ?_
    refine q_iald w_PM rfl rfl 62 10 rfl ?_
    exact r_ret .ireturn 1 rfl rfl rfl _ rfl
  refine q_or w_PM (a1 = 10) (fun e10 => ?_) (fun e10 => ?_)
  · rw [e10]
    refine r_go (.tableswitch 132 0 11 #[62, 67, 72, 77, 82, 87, 94, 101, 108, 115, 122, 127]) 62 rfl rfl rfl 128 [] rfl ?_
    refine r_ld (.aload_n 0) 1 2 0 (.ref 15) rfl rfl rfl rfl 129 rfl ?_
    refine r_go (.getfield 198) 3 rfl rfl rfl 132 [.int (M1.1 15 26)] rfl ?_
    exact r_ret .ireturn 1 rfl rfl rfl _ rfl
  refine q_or w_PM (a1 = 11) (fun e11 => ?_) (fun e11 => ?_)
  · rw [e11]
    refine r_go (.tableswitch 132 0 11 #[62, 67, 72, 77, 82, 87, 94, 101, 108, 115, 122, 127]) 62 rfl rfl rfl 133 [] rfl ?_
    refine r_ld (.aload_n 0) 1 2 0 (.ref 15) rfl rfl rfl rfl 134 rfl ?_
    refine r_go (.getfield 98) 3 rfl rfl rfl 137 [.int (M1.1 15 2)] rfl ?_
    exact r_ret .ireturn 1 rfl rfl rfl _ rfl
  have g0 := cd_neI 0 (by omega) e0
  have g1 := cd_neI 1 (by omega) e1
  have g2 := cd_neI 2 (by omega) e2
  have g3 := cd_neI 3 (by omega) e3
  have g4 := cd_neI 4 (by omega) e4
  have g5 := cd_neI 5 (by omega) e5
  have g6 := cd_neI 6 (by omega) e6
  have g7 := cd_neI 7 (by omega) e7
  have g8 := cd_neI 8 (by omega) e8
  have g9 := cd_neI 9 (by omega) e9
  have g10 := cd_neI 10 (by omega) e10
  have g11 := cd_neI 11 (by omega) e11
  refine q_swD (132) 11 #[62, 67, 72, 77, 82, 87, 94, 101, 108, 115, 122, 127] 62 rfl (by omega) 138 rfl ?_
  refine q_const (.iconst (-1)) 1 rfl rfl rfl 139 (-1) _ rfl cd_kjm1 ?_
  exact r_ret .ireturn 1 rfl rfl rfl _ rfl
