def f11_costs_15_L34 (a1 : Int32) (a2 : Int32) (s0 : Int32) (s1 : Int32) (M : cd_M) : Option (Int32) := if cd_in ((150 * a1) + a2) 13500 = true then (some ((s1 + s0) + (M.1 69 ((150 * a1) + a2 : Int32).toNatClampNeg))) else none
set_option maxRecDepth 8000 in
theorem k11_costs_15_L34 (a1 : Int32) (a2 : Int32) (s0 : Int32) (s1 : Int32) (M : cd_M) : cd_R 211 34 [some (.ref 15), some (.int (a1)), some (.int (a2)), none] [.int (s0), .int (s1)] M ((w_PI M) (f11_costs_15_L34 a1 a2 s0 s1 M)) := by
  unfold f11_costs_15_L34
  refine r_go (.iadd) 1 rfl rfl rfl 35 [.int (s1 + s0)] rfl ?_
  refine r_ld (.aload_n 0) 1 2 0 (.ref 15) rfl rfl rfl rfl 36 rfl ?_
  refine r_go (.getfield 48) 3 rfl rfl rfl 39 [.ref 69, .int (s1 + s0)] rfl ?_
  refine q_const (.sipush 150) 3 rfl rfl rfl 42 (150) _ rfl cd_kt150 ?_
  refine r_ld (.iload_n 1) 1 0 1 (.int (a1)) rfl rfl rfl rfl 43 rfl ?_
  refine r_go (.imul) 1 rfl rfl rfl 44 [.int (150 * a1), .ref 69, .int (s1 + s0)] rfl ?_
  refine r_ld (.iload_n 2) 1 0 2 (.int (a2)) rfl rfl rfl rfl 45 rfl ?_
  refine r_go (.iadd) 1 rfl rfl rfl 46 [.int ((150 * a1) + a2), .ref 69, .int (s1 + s0)] rfl ?_
  refine q_iald (w_PI M) rfl rfl 69 13500 rfl ?_
  refine r_go (.iadd) 1 rfl rfl rfl 48 [.int ((s1 + s0) + (M.1 69 ((150 * a1) + a2 : Int32).toNatClampNeg))] rfl ?_
  exact r_ret .ireturn 1 rfl rfl rfl _ rfl
def f11_costs_15_L23 (a1 : Int32) (a2 : Int32) (a3 : Int32) (s0 : Int32) (s1 : Int32) (s2 : Int32) (M : cd_M) : Option (Int32) := if a3 = 0 then (f11_costs_15_L34 a1 a2 0 (s2 * (s1 + s0)) M) else (f11_costs_15_L34 a1 a2 1 (s2 * (s1 + s0)) M)
set_option maxRecDepth 8000 in
theorem k11_costs_15_L23 (a1 : Int32) (a2 : Int32) (a3 : Int32) (s0 : Int32) (s1 : Int32) (s2 : Int32) (M : cd_M) : cd_R 211 23 [some (.ref 15), some (.int (a1)), some (.int (a2)), some (.int (a3))] [.int (s0), .int (s1), .int (s2)] M ((w_PI M) (f11_costs_15_L23 a1 a2 a3 s0 s1 s2 M)) := by
  unfold f11_costs_15_L23
  refine r_go (.iadd) 1 rfl rfl rfl 24 [.int (s1 + s0), .int (s2)] rfl ?_
  refine r_go (.imul) 1 rfl rfl rfl 25 [.int (s2 * (s1 + s0))] rfl ?_
  refine r_ld (.iload_n 3) 1 0 3 (.int (a3)) rfl rfl rfl rfl 26 rfl ?_
  refine q_br (w_PI M) (.ifCond .eq 7) 3 rfl rfl rfl (a3 = 0) 33 29 [.int (s2 * (s1 + s0))] rfl (fun _ => ?_) (fun _ => ?_)
  · refine q_const (.iconst 0) 1 rfl rfl rfl 34 (0) _ rfl cd_kj0 ?_
    exact r_w (k11_costs_15_L34 a1 a2 0 (s2 * (s1 + s0)) M) (cd_le_s (cd_le_s (cd_le_s (cd_le_n cd_le_0))))
  · refine q_const (.iconst 1) 1 rfl rfl rfl 30 (1) _ rfl cd_kj1 ?_
    refine r_go (.goto 4) 3 rfl rfl rfl 34 [.int (1), .int (s2 * (s1 + s0))] rfl ?_
    exact r_w (k11_costs_15_L34 a1 a2 1 (s2 * (s1 + s0)) M) (cd_le_s (cd_le_s (cd_le_s (cd_le_n cd_le_0))))
def f11_costs_15 (a1 : Int32) (a2 : Int32) (a3 : Int32) (M : cd_M) : Option (Int32) := (f11_costAt_15 a1 a2 M).bind fun v1 => if a3 = 0 then (f11_costs_15_L23 a1 a2 a3 0 v1 128 M) else (if cd_in 1 10 = true then (f11_costs_15_L23 a1 a2 a3 (M.1 62 (1 : Int32).toNatClampNeg) v1 128 M) else none)
set_option maxRecDepth 8000 in
theorem k11_costs_15 (a1 : Int32) (a2 : Int32) (a3 : Int32) (M : cd_M) : cd_R 211 0 [some (.ref 15), some (.int (a1)), some (.int (a2)), some (.int (a3))] [] M ((w_PI M) (f11_costs_15 a1 a2 a3 M)) := by
  unfold f11_costs_15
  refine q_const (.sipush 128) 3 rfl rfl rfl 3 (128) _ rfl cd_kt128 ?_
  refine r_ld (.aload_n 0) 1 2 0 (.ref 15) rfl rfl rfl rfl 4 rfl ?_
  refine r_ld (.iload_n 1) 1 0 1 (.int (a1)) rfl rfl rfl rfl 5 rfl ?_
  refine r_ld (.iload_n 2) 1 0 2 (.int (a2)) rfl rfl rfl rfl 6 rfl ?_
  refine q_cI (w_PI M) rfl (.invokevirtual 276) rfl rfl rfl 209 [.ref 15, .int (a1), .int (a2)] [.int (128)] rfl (k11_costAt_15 a1 a2 M) (fun v1 => ?_)
  refine r_ld (.iload_n 3) 1 0 3 (.int (a3)) rfl rfl rfl rfl 10 rfl ?_
  refine q_br (w_PI M) (.ifCond .eq 12) 3 rfl rfl rfl (a3 = 0) 22 13 [.int (v1), .int (128)] rfl (fun _ => ?_) (fun _ => ?_)
  · refine q_const (.iconst 0) 1 rfl rfl rfl 23 (0) _ rfl cd_kj0 ?_
    exact r_w (k11_costs_15_L23 a1 a2 a3 0 v1 128 M) (cd_le_s (cd_le_s (cd_le_s (cd_le_s cd_le_0))))
  · refine r_ld (.aload_n 0) 1 2 0 (.ref 15) rfl rfl rfl rfl 14 rfl ?_
    refine r_go (.getfield 26) 3 rfl rfl rfl 17 [.ref 62, .int (v1), .int (128)] rfl ?_
    refine q_const (.iconst 1) 1 rfl rfl rfl 18 (1) _ rfl cd_kj1 ?_
    refine q_iald (w_PI M) rfl rfl 62 10 rfl ?_
    refine r_go (.goto 4) 3 rfl rfl rfl 23 [.int (M.1 62 (1 : Int32).toNatClampNeg), .int (v1), .int (128)] rfl ?_
    exact r_w (k11_costs_15_L23 a1 a2 a3 (M.1 62 (1 : Int32).toNatClampNeg) v1 128 M) (cd_le_s (cd_le_s (cd_le_s (cd_le_s cd_le_0))))
def f11_leastBehind_15_L102 (r29 : Int32 → Int32 → Int32 → Int32 → cd_M → Option (Int32)) (r46 : Int32 → Int32 → Int32 → Int32 → Int32 → cd_M → Option (Int32)) (a1 : Int32) (a3 : Int32) (a4 : Int32) (a5 : Int32) (a6 : Int32) (M : cd_M) : Option (Int32) := cd_lt (a6 + (1)) fun x6 => r46 a1 a3 a4 a5 x6 M
set_option maxRecDepth 8000 in
theorem k11_leastBehind_15_L102 (r29 : Int32 → Int32 → Int32 → Int32 → cd_M → Option (Int32)) (h29 : ∀ (a1 : Int32) (a3 : Int32) (a4 : Int32) (a5 : Int32) (M : cd_M), cd_R 212 29 [some (.ref 15), some (.int (a1)), none, some (.int (a3)), some (.int (a4)), some (.int (a5)), none, none, none] [] M ((w_PI M) (r29 a1 a3 a4 a5 M))) (r46 : Int32 → Int32 → Int32 → Int32 → Int32 → cd_M → Option (Int32)) (h46 : ∀ (a1 : Int32) (a3 : Int32) (a4 : Int32) (a5 : Int32) (a6 : Int32) (M : cd_M), cd_R 212 46 [some (.ref 15), some (.int (a1)), none, some (.int (a3)), some (.int (a4)), some (.int (a5)), some (.int (a6)), none, none] [] M ((w_PI M) (r46 a1 a3 a4 a5 a6 M))) (a1 : Int32) (a3 : Int32) (a4 : Int32) (a5 : Int32) (a6 : Int32) (M : cd_M) : cd_R 212 102 [some (.ref 15), some (.int (a1)), none, some (.int (a3)), some (.int (a4)), some (.int (a5)), some (.int (a6)), none, none] [] M ((w_PI M) (f11_leastBehind_15_L102 r29 r46 a1 a3 a4 a5 a6 M)) := by
  unfold f11_leastBehind_15_L102
  refine q_inc (w_PI M) 6 (1) (a6) rfl rfl rfl 105 rfl (1) cd_kj1 (fun x6 => [some (.ref 15), some (.int (a1)), none, some (.int (a3)), some (.int (a4)), some (.int (a5)), some (.int (x6)), none, none]) (fun _ => rfl) (fun x6 => ?_)
  refine r_go (.goto (-59)) 3 rfl rfl rfl 46 [] rfl ?_
  exact r_w (h46 a1 a3 a4 a5 x6 M) (cd_le_s (cd_le_s (cd_le_n (cd_le_s (cd_le_s (cd_le_s (cd_le_s (cd_le_n (cd_le_n cd_le_0)))))))))
def f11_leastBehind_15_L100 (r29 : Int32 → Int32 → Int32 → Int32 → cd_M → Option (Int32)) (r46 : Int32 → Int32 → Int32 → Int32 → Int32 → cd_M → Option (Int32)) (a1 : Int32) (a3 : Int32) (a5 : Int32) (a6 : Int32) (s0 : Int32) (M : cd_M) : Option (Int32) := f11_leastBehind_15_L102 r29 r46 a1 a3 s0 a5 a6 M
set_option maxRecDepth 8000 in
theorem k11_leastBehind_15_L100 (r29 : Int32 → Int32 → Int32 → Int32 → cd_M → Option (Int32)) (h29 : ∀ (a1 : Int32) (a3 : Int32) (a4 : Int32) (a5 : Int32) (M : cd_M), cd_R 212 29 [some (.ref 15), some (.int (a1)), none, some (.int (a3)), some (.int (a4)), some (.int (a5)), none, none, none] [] M ((w_PI M) (r29 a1 a3 a4 a5 M))) (r46 : Int32 → Int32 → Int32 → Int32 → Int32 → cd_M → Option (Int32)) (h46 : ∀ (a1 : Int32) (a3 : Int32) (a4 : Int32) (a5 : Int32) (a6 : Int32) (M : cd_M), cd_R 212 46 [some (.ref 15), some (.int (a1)), none, some (.int (a3)), some (.int (a4)), some (.int (a5)), some (.int (a6)), none, none] [] M ((w_PI M) (r46 a1 a3 a4 a5 a6 M))) (a1 : Int32) (a3 : Int32) (a5 : Int32) (a6 : Int32) (s0 : Int32) (M : cd_M) : cd_R 212 100 [some (.ref 15), some (.int (a1)), none, some (.int (a3)), none, some (.int (a5)), some (.int (a6)), none, none] [.int (s0)] M ((w_PI M) (f11_leastBehind_15_L100 r29 r46 a1 a3 a5 a6 s0 M)) := by
  unfold f11_leastBehind_15_L100
  refine r_st (.istore 4) 2 0 4 rfl rfl rfl 102 rfl [some (.ref 15), some (.int (a1)), none, some (.int (a3)), some (.int (s0)), some (.int (a5)), some (.int (a6)), none, none] rfl ?_
  exact r_w (k11_leastBehind_15_L102 r29 h29 r46 h46 a1 a3 s0 a5 a6 M) (cd_le_s (cd_le_s (cd_le_n (cd_le_s (cd_le_s (cd_le_s (cd_le_s (cd_le_n (cd_le_n cd_le_0)))))))))
def f11_leastBehind_15_L46 (r29 : Int32 → Int32 → Int32 → Int32 → cd_M → Option (Int32)) : Nat → Int32 → Int32 → Int32 → Int32 → Int32 → cd_M → Option (Int32)
  | 0, _, _, _, _, _, _ => none
  | n + 1, a1, a3, a4, a5, a6, M => (f11_numberAt_15 a5 M).bind fun v3 => if v3 ≤ a6 then (cd_lt (a5 + (1)) fun x4 => r29 a1 a3 a4 x4 M) else (cd_lt (f11_stateOf a5 a6 0 M) fun x5 => if x5 = a3 then (f11_leastBehind_15_L102 r29 (f11_leastBehind_15_L46 r29 n) a1 a3 a4 a5 a6 M) else ((f11_costs_15 a1 x5 1 M).bind fun v7 => if a4 ≤ v7 then (f11_leastBehind_15_L100 r29 (f11_leastBehind_15_L46 r29 n) a1 a3 a5 a6 a4 M) else (f11_leastBehind_15_L100 r29 (f11_leastBehind_15_L46 r29 n) a1 a3 a5 a6 v7 M)))
set_option maxRecDepth 8000 in
theorem k11_leastBehind_15_L46 (r29 : Int32 → Int32 → Int32 → Int32 → cd_M → Option (Int32)) (h29 : ∀ (a1 : Int32) (a3 : Int32) (a4 : Int32) (a5 : Int32) (M : cd_M), cd_R 212 29 [some (.ref 15), some (.int (a1)), none, some (.int (a3)), some (.int (a4)), some (.int (a5)), none, none, none] [] M ((w_PI M) (r29 a1 a3 a4 a5 M))) : ∀ (n : Nat) (a1 : Int32) (a3 : Int32) (a4 : Int32) (a5 : Int32) (a6 : Int32) (M : cd_M), cd_R 212 46 [some (.ref 15), some (.int (a1)), none, some (.int (a3)), some (.int (a4)), some (.int (a5)), some (.int (a6)), none, none] [] M ((w_PI M) (f11_leastBehind_15_L46 r29 n a1 a3 a4 a5 a6 M)) := by
  intro n
  induction n with
  | zero =>
    intro a1 a3 a4 a5 a6 M
    exact q_none (w_PI M) rfl
  | succ n ih =>
    intro a1 a3 a4 a5 a6 M
    rw [f11_leastBehind_15_L46]
    refine r_ld (.iload 6) 2 0 6 (.int (a6)) rfl rfl rfl rfl 48 rfl ?_
    refine r_ld (.aload_n 0) 1 2 0 (.ref 15) rfl rfl rfl rfl 49 rfl ?_
    refine r_ld (.iload 5) 2 0 5 (.int (a5)) rfl rfl rfl rfl 51 rfl ?_
    refine q_cI (w_PI M) rfl (.invokevirtual 267) rfl rfl rfl 206 [.ref 15, .int (a5)] [.int (a6)] rfl (k11_numberAt_15 a5 M) (fun v3 => ?_)
    refine q_br (w_PI M) (.if_icmp .ge 54) 3 rfl rfl rfl (v3 ≤ a6) 108 57 [] rfl (fun _ => ?_) (fun _ => ?_)
    · refine q_inc (w_PI M) 5 (1) (a5) rfl rfl rfl 111 rfl (1) cd_kj1 (fun x4 => [some (.ref 15), some (.int (a1)), none, some (.int (a3)), some (.int (a4)), some (.int (x4)), some (.int (a6)), none, none]) (fun _ => rfl) (fun x4 => ?_)
      refine r_go (.goto (-82)) 3 rfl rfl rfl 29 [] rfl ?_
      exact r_w (h29 a1 a3 a4 x4 M) (cd_le_s (cd_le_s (cd_le_n (cd_le_s (cd_le_s (cd_le_s (cd_le_n (cd_le_n (cd_le_n cd_le_0)))))))))
    · refine r_ld (.iload 5) 2 0 5 (.int (a5)) rfl rfl rfl rfl 59 rfl ?_
      refine r_ld (.iload 6) 2 0 6 (.int (a6)) rfl rfl rfl rfl 61 rfl ?_
      refine q_const (.iconst 0) 1 rfl rfl rfl 62 (0) _ rfl cd_kj0 ?_
      refine q_cTI (.invokestatic 273) rfl rfl rfl 205 [.int (a5), .int (a6), .int (0)] [] rfl (k11_stateOf a5 a6 0 M) ?_
      refine q_stB (w_PI M) (.istore 7) 2 0 7 rfl rfl (fun _ => rfl) 67 rfl (fun x5 => [some (.ref 15), some (.int (a1)), none, some (.int (a3)), some (.int (a4)), some (.int (a5)), some (.int (a6)), some (.int (x5)), none]) (fun _ => rfl) (fun x5 => ?_)
      refine r_ld (.iload 7) 2 0 7 (.int (x5)) rfl rfl rfl rfl 69 rfl ?_
      refine r_ld (.iload_n 3) 1 0 3 (.int (a3)) rfl rfl rfl rfl 70 rfl ?_
      refine q_br (w_PI M) (.if_icmp .ne 6) 3 rfl rfl rfl (x5 = a3) 73 76 [] rfl (fun _ => ?_) (fun _ => ?_)
      · refine r_go (.goto 29) 3 rfl rfl rfl 102 [] rfl ?_
        exact r_w (k11_leastBehind_15_L102 r29 h29 (f11_leastBehind_15_L46 r29 n) ih a1 a3 a4 a5 a6 M) (cd_le_s (cd_le_s (cd_le_n (cd_le_s (cd_le_s (cd_le_s (cd_le_s (cd_le_n (cd_le_n cd_le_0)))))))))
      · refine r_ld (.aload_n 0) 1 2 0 (.ref 15) rfl rfl rfl rfl 77 rfl ?_
        refine r_ld (.iload_n 1) 1 0 1 (.int (a1)) rfl rfl rfl rfl 78 rfl ?_
        refine r_ld (.iload 7) 2 0 7 (.int (x5)) rfl rfl rfl rfl 80 rfl ?_
        refine q_const (.iconst 1) 1 rfl rfl rfl 81 (1) _ rfl cd_kj1 ?_
        refine q_cI (w_PI M) rfl (.invokevirtual 283) rfl rfl rfl 211 [.ref 15, .int (a1), .int (x5), .int (1)] [] rfl (k11_costs_15 a1 x5 1 M) (fun v7 => ?_)
        refine r_st (.istore 8) 2 0 8 rfl rfl rfl 86 rfl [some (.ref 15), some (.int (a1)), none, some (.int (a3)), some (.int (a4)), some (.int (a5)), some (.int (a6)), some (.int (x5)), some (.int (v7))] rfl ?_
        refine r_ld (.iload 8) 2 0 8 (.int (v7)) rfl rfl rfl rfl 88 rfl ?_
        refine r_ld (.iload 4) 2 0 4 (.int (a4)) rfl rfl rfl rfl 90 rfl ?_
        refine q_br (w_PI M) (.if_icmp .ge 8) 3 rfl rfl rfl (a4 ≤ v7) 98 93 [] rfl (fun _ => ?_) (fun _ => ?_)
        · refine r_ld (.iload 4) 2 0 4 (.int (a4)) rfl rfl rfl rfl 100 rfl ?_
          exact r_w (k11_leastBehind_15_L100 r29 h29 (f11_leastBehind_15_L46 r29 n) ih a1 a3 a5 a6 a4 M) (cd_le_s (cd_le_s (cd_le_n (cd_le_s (cd_le_n (cd_le_s (cd_le_s (cd_le_n (cd_le_n cd_le_0)))))))))
        · refine r_ld (.iload 8) 2 0 8 (.int (v7)) rfl rfl rfl rfl 95 rfl ?_
          refine r_go (.goto 5) 3 rfl rfl rfl 100 [.int (v7)] rfl ?_
          exact r_w (k11_leastBehind_15_L100 r29 h29 (f11_leastBehind_15_L46 r29 n) ih a1 a3 a5 a6 v7 M) (cd_le_s (cd_le_s (cd_le_n (cd_le_s (cd_le_n (cd_le_s (cd_le_s (cd_le_n (cd_le_n cd_le_0)))))))))
def f11_leastBehind_15_L29 : Nat → Int32 → Int32 → Int32 → Int32 → cd_M → Option (Int32)
  | 0, _, _, _, _, _ => none
  | n + 1, a1, a3, a4, a5, M => if cd_in (M.1 15 29) 8 = true then (if M.1 60 (M.1 15 29 : Int32).toNatClampNeg ≤ a5 then (some a4) else (f11_leastBehind_15_L46 (f11_leastBehind_15_L29 n) cd_fu a1 a3 a4 a5 0 M)) else none
set_option maxRecDepth 8000 in
theorem k11_leastBehind_15_L29 : ∀ (n : Nat) (a1 : Int32) (a3 : Int32) (a4 : Int32) (a5 : Int32) (M : cd_M), cd_R 212 29 [some (.ref 15), some (.int (a1)), none, some (.int (a3)), some (.int (a4)), some (.int (a5)), none, none, none] [] M ((w_PI M) (f11_leastBehind_15_L29 n a1 a3 a4 a5 M)) := by
  intro n
  induction n with
  | zero =>
    intro a1 a3 a4 a5 M
    exact q_none (w_PI M) rfl
  | succ n ih =>
    intro a1 a3 a4 a5 M
    rw [f11_leastBehind_15_L29]
    refine r_ld (.iload 5) 2 0 5 (.int (a5)) rfl rfl rfl rfl 31 rfl ?_
    refine r_ld (.aload_n 0) 1 2 0 (.ref 15) rfl rfl rfl rfl 32 rfl ?_
    refine r_go (.getfield 20) 3 rfl rfl rfl 35 [.ref 60, .int (a5)] rfl ?_
    refine r_ld (.aload_n 0) 1 2 0 (.ref 15) rfl rfl rfl rfl 36 rfl ?_
    refine r_go (.getfield 264) 3 rfl rfl rfl 39 [.int (M.1 15 29), .ref 60, .int (a5)] rfl ?_
    refine q_iald (w_PI M) rfl rfl 60 8 rfl ?_
    refine q_br (w_PI M) (.if_icmp .ge 74) 3 rfl rfl rfl (M.1 60 (M.1 15 29 : Int32).toNatClampNeg ≤ a5) 114 43 [] rfl (fun _ => ?_) (fun _ => ?_)
    · refine r_ld (.iload 4) 2 0 4 (.int (a4)) rfl rfl rfl rfl 116 rfl ?_
      exact r_ret .ireturn 1 rfl rfl rfl _ rfl
    · refine q_const (.iconst 0) 1 rfl rfl rfl 44 (0) _ rfl cd_kj0 ?_
      refine r_st (.istore 6) 2 0 6 rfl rfl rfl 46 rfl [some (.ref 15), some (.int (a1)), none, some (.int (a3)), some (.int (a4)), some (.int (a5)), some (.int (0)), none, none] rfl ?_
      exact r_w (k11_leastBehind_15_L46 (f11_leastBehind_15_L29 n) ih cd_fu a1 a3 a4 a5 0 M) (cd_le_s (cd_le_s (cd_le_n (cd_le_s (cd_le_s (cd_le_s (cd_le_s (cd_le_n (cd_le_n cd_le_0)))))))))
def f11_leastBehind_15_L24 (a1 : Int32) (a3 : Int32) (s0 : Int32) (M : cd_M) : Option (Int32) := f11_leastBehind_15_L29 cd_fu a1 a3 s0 0 M
set_option maxRecDepth 8000 in
theorem k11_leastBehind_15_L24 (a1 : Int32) (a3 : Int32) (s0 : Int32) (M : cd_M) : cd_R 212 24 [some (.ref 15), some (.int (a1)), none, some (.int (a3)), none, none, none, none, none] [.int (s0)] M ((w_PI M) (f11_leastBehind_15_L24 a1 a3 s0 M)) := by
  unfold f11_leastBehind_15_L24
  refine r_st (.istore 4) 2 0 4 rfl rfl rfl 26 rfl [some (.ref 15), some (.int (a1)), none, some (.int (a3)), some (.int (s0)), none, none, none, none] rfl ?_
  refine q_const (.iconst 0) 1 rfl rfl rfl 27 (0) _ rfl cd_kj0 ?_
  refine r_st (.istore 5) 2 0 5 rfl rfl rfl 29 rfl [some (.ref 15), some (.int (a1)), none, some (.int (a3)), some (.int (s0)), some (.int (0)), none, none, none] rfl ?_
  exact r_w (k11_leastBehind_15_L29 cd_fu a1 a3 s0 0 M) (cd_le_s (cd_le_s (cd_le_n (cd_le_s (cd_le_s (cd_le_s (cd_le_n (cd_le_n (cd_le_n cd_le_0)))))))))
def f11_leastBehind_15 (a1 : Int32) (a2 : Int32) (M : cd_M) : Option (Int32) := (f11_on_15 a1 a2 M).bind fun v1 => if 0 ≤ v1 then ((f11_costs_15 a1 v1 0 M).bind fun v2 => f11_leastBehind_15_L24 a1 v1 v2 M) else (f11_leastBehind_15_L24 a1 v1 1000000000 M)
set_option maxRecDepth 8000 in
theorem k11_leastBehind_15 (a1 : Int32) (a2 : Int32) (M : cd_M) : cd_R 212 0 [some (.ref 15), some (.int (a1)), some (.int (a2)), none, none, none, none, none, none] [] M ((w_PI M) (f11_leastBehind_15 a1 a2 M)) := by
  unfold f11_leastBehind_15
  refine r_ld (.aload_n 0) 1 2 0 (.ref 15) rfl rfl rfl rfl 1 rfl ?_
  refine r_ld (.iload_n 1) 1 0 1 (.int (a1)) rfl rfl rfl rfl 2 rfl ?_
  refine r_ld (.iload_n 2) 1 0 2 (.int (a2)) rfl rfl rfl rfl 3 rfl ?_
  refine q_cI (w_PI M) rfl (.invokevirtual 279) rfl rfl rfl 210 [.ref 15, .int (a1), .int (a2)] [] rfl (k11_on_15 a1 a2 M) (fun v1 => ?_)
  refine r_st (.istore_n 3) 1 0 3 rfl rfl rfl 7 rfl [some (.ref 15), some (.int (a1)), some (.int (a2)), some (.int (v1)), none, none, none, none, none] rfl ?_
  refine r_ld (.iload_n 3) 1 0 3 (.int (v1)) rfl rfl rfl rfl 8 rfl ?_
  refine q_br (w_PI M) (.ifCond .ge 9) 3 rfl rfl rfl (0 ≤ v1) 17 11 [] rfl (fun _ => ?_) (fun _ => ?_)
  · refine r_ld (.aload_n 0) 1 2 0 (.ref 15) rfl rfl rfl rfl 18 rfl ?_
    refine r_ld (.iload_n 1) 1 0 1 (.int (a1)) rfl rfl rfl rfl 19 rfl ?_
    refine r_ld (.iload_n 3) 1 0 3 (.int (v1)) rfl rfl rfl rfl 20 rfl ?_
    refine q_const (.iconst 0) 1 rfl rfl rfl 21 (0) _ rfl cd_kj0 ?_
    refine q_cI (w_PI M) rfl (.invokevirtual 283) rfl rfl rfl 211 [.ref 15, .int (a1), .int (v1), .int (0)] [] rfl (k11_costs_15 a1 v1 0 M) (fun v2 => ?_)
    exact r_w (k11_leastBehind_15_L24 a1 v1 v2 M) (cd_le_s (cd_le_s (cd_le_n (cd_le_s (cd_le_n (cd_le_n (cd_le_n (cd_le_n (cd_le_n cd_le_0)))))))))
  · refine r_go (.ldc_w 282) 3 rfl rfl rfl 14 [.int (1000000000)] rfl ?_
    refine r_go (.goto 10) 3 rfl rfl rfl 24 [.int (1000000000)] rfl ?_
    exact r_w (k11_leastBehind_15_L24 a1 v1 1000000000 M) (cd_le_s (cd_le_s (cd_le_n (cd_le_s (cd_le_n (cd_le_n (cd_le_n (cd_le_n (cd_le_n cd_le_0)))))))))
def f11_laysRest_15_L76 (r7 : Int32 → cd_M → Option cd_M) (r13 : Int32 → Int32 → cd_M → Option cd_M) (a1 : Int32) (a2 : Int32) (M : cd_M) : Option cd_M := cd_lt (a2 + (1)) fun x5 => r13 a1 x5 M
set_option maxRecDepth 8000 in
theorem k11_laysRest_15_L76 (r7 : Int32 → cd_M → Option cd_M) (h7 : ∀ (a1 : Int32) (M : cd_M), cd_R 213 7 [some (.ref 15), some (.int (a1)), none] [] M (w_PV (r7 a1 M))) (r13 : Int32 → Int32 → cd_M → Option cd_M) (h13 : ∀ (a1 : Int32) (a2 : Int32) (M : cd_M), cd_R 213 13 [some (.ref 15), some (.int (a1)), some (.int (a2))] [] M (w_PV (r13 a1 a2 M))) (a1 : Int32) (a2 : Int32) (M : cd_M) : cd_R 213 76 [some (.ref 15), some (.int (a1)), some (.int (a2))] [] M (w_PV (f11_laysRest_15_L76 r7 r13 a1 a2 M)) := by
  unfold f11_laysRest_15_L76
  refine q_inc w_PV 2 (1) (a2) rfl rfl rfl 79 rfl (1) cd_kj1 (fun x5 => [some (.ref 15), some (.int (a1)), some (.int (x5))]) (fun _ => rfl) (fun x5 => ?_)
  refine r_go (.goto (-66)) 3 rfl rfl rfl 13 [] rfl ?_
  exact r_w (h13 a1 x5 M) (cd_le_s (cd_le_s (cd_le_s cd_le_0)))
def f11_laysRest_15_L75 (r7 : Int32 → cd_M → Option cd_M) (r13 : Int32 → Int32 → cd_M → Option cd_M) (a1 : Int32) (a2 : Int32) (s0 : Int32) (s1 : Int32) (M : cd_M) : Option cd_M := if cd_in s1 13500 = true then (cd_lt (cd_wI M 69 s1.toNatClampNeg s0) fun M6 => f11_laysRest_15_L76 r7 r13 a1 a2 M6) else none
set_option maxRecDepth 8000 in
theorem k11_laysRest_15_L75 (r7 : Int32 → cd_M → Option cd_M) (h7 : ∀ (a1 : Int32) (M : cd_M), cd_R 213 7 [some (.ref 15), some (.int (a1)), none] [] M (w_PV (r7 a1 M))) (r13 : Int32 → Int32 → cd_M → Option cd_M) (h13 : ∀ (a1 : Int32) (a2 : Int32) (M : cd_M), cd_R 213 13 [some (.ref 15), some (.int (a1)), some (.int (a2))] [] M (w_PV (r13 a1 a2 M))) (a1 : Int32) (a2 : Int32) (s0 : Int32) (s1 : Int32) (M : cd_M) : cd_R 213 75 [some (.ref 15), some (.int (a1)), some (.int (a2))] [.int (s0), .int (s1), .ref 69] M (w_PV (f11_laysRest_15_L75 r7 r13 a1 a2 s0 s1 M)) := by
  unfold f11_laysRest_15_L75
  refine q_iast w_PV rfl rfl 69 13500 rfl (fun M6 => ?_)
  exact r_w (k11_laysRest_15_L76 r7 h7 r13 h13 a1 a2 M6) (cd_le_s (cd_le_s (cd_le_s cd_le_0)))
def f11_laysRest_15_L13 (r7 : Int32 → cd_M → Option cd_M) : Nat → Int32 → Int32 → cd_M → Option cd_M
  | 0, _, _, _ => none
  | n + 1, a1, a2, M => if 150 ≤ a2 then (cd_lt (a1 + (-1)) fun x2 => r7 x2 M) else ((f11_isState_15 (a2 / 25) ((a2 / 5) - (a2 / 5) / 5 * 5) (a2 - a2 / 5 * 5) M).bind fun v3 => if v3 = 0 then (f11_laysRest_15_L76 r7 (f11_laysRest_15_L13 r7 n) a1 a2 M) else (if a1 = (M.1 15 24) - 1 then (f11_laysRest_15_L75 r7 (f11_laysRest_15_L13 r7 n) a1 a2 0 ((150 * a1) + a2) M) else ((f11_leastBehind_15 (a1 + 1) a2 M).bind fun v7 => f11_laysRest_15_L75 r7 (f11_laysRest_15_L13 r7 n) a1 a2 v7 ((150 * a1) + a2) M)))
set_option maxRecDepth 8000 in
theorem k11_laysRest_15_L13 (r7 : Int32 → cd_M → Option cd_M) (h7 : ∀ (a1 : Int32) (M : cd_M), cd_R 213 7 [some (.ref 15), some (.int (a1)), none] [] M (w_PV (r7 a1 M))) : ∀ (n : Nat) (a1 : Int32) (a2 : Int32) (M : cd_M), cd_R 213 13 [some (.ref 15), some (.int (a1)), some (.int (a2))] [] M (w_PV (f11_laysRest_15_L13 r7 n a1 a2 M)) := by
  intro n
  induction n with
  | zero =>
    intro a1 a2 M
    exact q_none w_PV rfl
  | succ n ih =>
    intro a1 a2 M
    rw [f11_laysRest_15_L13]
    refine r_ld (.iload_n 2) 1 0 2 (.int (a2)) rfl rfl rfl rfl 14 rfl ?_
    refine q_const (.sipush 150) 3 rfl rfl rfl 17 (150) _ rfl cd_kt150 ?_
    refine q_br w_PV (.if_icmp .ge 65) 3 rfl rfl rfl (150 ≤ a2) 82 20 [] rfl (fun _ => ?_) (fun _ => ?_)
    · refine q_inc w_PV 1 (-1) (a1) rfl rfl rfl 85 rfl (-1) cd_kjm1 (fun x2 => [some (.ref 15), some (.int (x2)), some (.int (a2))]) (fun _ => rfl) (fun x2 => ?_)
      refine r_go (.goto (-78)) 3 rfl rfl rfl 7 [] rfl ?_
      exact r_w (h7 x2 M) (cd_le_s (cd_le_s (cd_le_n cd_le_0)))
    · refine r_ld (.aload_n 0) 1 2 0 (.ref 15) rfl rfl rfl rfl 21 rfl ?_
      refine r_ld (.iload_n 2) 1 0 2 (.int (a2)) rfl rfl rfl rfl 22 rfl ?_
      refine q_const (.bipush 25) 2 rfl rfl rfl 24 (25) _ rfl cd_kc25 ?_
      refine q_divK rfl (by decide) ?_
      refine r_ld (.iload_n 2) 1 0 2 (.int (a2)) rfl rfl rfl rfl 26 rfl ?_
      refine q_const (.iconst 5) 1 rfl rfl rfl 27 (5) _ rfl cd_kj5 ?_
      refine q_divK rfl (by decide) ?_
      refine q_const (.iconst 5) 1 rfl rfl rfl 29 (5) _ rfl cd_kj5 ?_
      refine q_remK rfl (by decide) ?_
      refine r_ld (.iload_n 2) 1 0 2 (.int (a2)) rfl rfl rfl rfl 31 rfl ?_
      refine q_const (.iconst 5) 1 rfl rfl rfl 32 (5) _ rfl cd_kj5 ?_
      refine q_remK rfl (by decide) ?_
      refine q_cIz w_PV rfl (.invokevirtual 287) rfl rfl rfl 207 rfl [.ref 15, .int (a2 / 25), .int ((a2 / 5) - (a2 / 5) / 5 * 5), .int (a2 - a2 / 5 * 5)] [] rfl (k11_isState_15 (a2 / 25) ((a2 / 5) - (a2 / 5) / 5 * 5) (a2 - a2 / 5 * 5) M) (fun v3 z4 => ?_)
      refine q_br w_PV (.ifCond .ne 6) 3 rfl rfl rfl (v3 = 0) 39 42 [] rfl (fun _ => ?_) (fun _ => ?_)
      · refine r_go (.goto 37) 3 rfl rfl rfl 76 [] rfl ?_
        exact r_w (k11_laysRest_15_L76 r7 h7 (f11_laysRest_15_L13 r7 n) ih a1 a2 M) (cd_le_s (cd_le_s (cd_le_s cd_le_0)))
      · refine r_ld (.aload_n 0) 1 2 0 (.ref 15) rfl rfl rfl rfl 43 rfl ?_
        refine r_go (.getfield 48) 3 rfl rfl rfl 46 [.ref 69] rfl ?_
        refine q_const (.sipush 150) 3 rfl rfl rfl 49 (150) _ rfl cd_kt150 ?_
        refine r_ld (.iload_n 1) 1 0 1 (.int (a1)) rfl rfl rfl rfl 50 rfl ?_
        refine r_go (.imul) 1 rfl rfl rfl 51 [.int (150 * a1), .ref 69] rfl ?_
        refine r_ld (.iload_n 2) 1 0 2 (.int (a2)) rfl rfl rfl rfl 52 rfl ?_
        refine r_go (.iadd) 1 rfl rfl rfl 53 [.int ((150 * a1) + a2), .ref 69] rfl ?_
        refine r_ld (.iload_n 1) 1 0 1 (.int (a1)) rfl rfl rfl rfl 54 rfl ?_
        refine r_ld (.aload_n 0) 1 2 0 (.ref 15) rfl rfl rfl rfl 55 rfl ?_
        refine r_go (.getfield 195) 3 rfl rfl rfl 58 [.int (M.1 15 24), .int (a1), .int ((150 * a1) + a2), .ref 69] rfl ?_
        refine q_const (.iconst 1) 1 rfl rfl rfl 59 (1) _ rfl cd_kj1 ?_
        refine r_go (.isub) 1 rfl rfl rfl 60 [.int ((M.1 15 24) - 1), .int (a1), .int ((150 * a1) + a2), .ref 69] rfl ?_
        refine q_br w_PV (.if_icmp .ne 7) 3 rfl rfl rfl (a1 = (M.1 15 24) - 1) 63 67 [.int ((150 * a1) + a2), .ref 69] rfl (fun _ => ?_) (fun _ => ?_)
        · refine q_const (.iconst 0) 1 rfl rfl rfl 64 (0) _ rfl cd_kj0 ?_
          refine r_go (.goto 11) 3 rfl rfl rfl 75 [.int (0), .int ((150 * a1) + a2), .ref 69] rfl ?_
          exact r_w (k11_laysRest_15_L75 r7 h7 (f11_laysRest_15_L13 r7 n) ih a1 a2 0 ((150 * a1) + a2) M) (cd_le_s (cd_le_s (cd_le_s cd_le_0)))
        · refine r_ld (.aload_n 0) 1 2 0 (.ref 15) rfl rfl rfl rfl 68 rfl ?_
          refine r_ld (.iload_n 1) 1 0 1 (.int (a1)) rfl rfl rfl rfl 69 rfl ?_
          refine q_const (.iconst 1) 1 rfl rfl rfl 70 (1) _ rfl cd_kj1 ?_
          refine r_go (.iadd) 1 rfl rfl rfl 71 [.int (a1 + 1), .ref 15, .int ((150 * a1) + a2), .ref 69] rfl ?_
          refine r_ld (.iload_n 2) 1 0 2 (.int (a2)) rfl rfl rfl rfl 72 rfl ?_
          refine q_cI w_PV rfl (.invokevirtual 291) rfl rfl rfl 212 [.ref 15, .int (a1 + 1), .int (a2)] [.int ((150 * a1) + a2), .ref 69] rfl (k11_leastBehind_15 (a1 + 1) a2 M) (fun v7 => ?_)
          exact r_w (k11_laysRest_15_L75 r7 h7 (f11_laysRest_15_L13 r7 n) ih a1 a2 v7 ((150 * a1) + a2) M) (cd_le_s (cd_le_s (cd_le_s cd_le_0)))
def f11_laysRest_15_L7 : Nat → Int32 → cd_M → Option cd_M
  | 0, _, _ => none
  | n + 1, a1, M => if a1 < 0 then (some M) else (f11_laysRest_15_L13 (f11_laysRest_15_L7 n) cd_fu a1 0 M)
set_option maxRecDepth 8000 in
theorem k11_laysRest_15_L7 : ∀ (n : Nat) (a1 : Int32) (M : cd_M), cd_R 213 7 [some (.ref 15), some (.int (a1)), none] [] M (w_PV (f11_laysRest_15_L7 n a1 M)) := by
  intro n
  induction n with
  | zero =>
    intro a1 M
    exact q_none w_PV rfl
  | succ n ih =>
    intro a1 M
    rw [f11_laysRest_15_L7]
    refine r_ld (.iload_n 1) 1 0 1 (.int (a1)) rfl rfl rfl rfl 8 rfl ?_
    refine q_br w_PV (.ifCond .lt 80) 3 rfl rfl rfl (a1 < 0) 88 11 [] rfl (fun _ => ?_) (fun _ => ?_)
    · exact r_ret .return_ 1 rfl rfl rfl _ rfl
    · refine q_const (.iconst 0) 1 rfl rfl rfl 12 (0) _ rfl cd_kj0 ?_
      refine r_st (.istore_n 2) 1 0 2 rfl rfl rfl 13 rfl [some (.ref 15), some (.int (a1)), some (.int (0))] rfl ?_
      exact r_w (k11_laysRest_15_L13 (f11_laysRest_15_L7 n) ih cd_fu a1 0 M) (cd_le_s (cd_le_s (cd_le_s cd_le_0)))
def f11_laysRest_15 (M : cd_M) : Option cd_M := cd_lt ((M.1 15 24) - 1) fun x1 => f11_laysRest_15_L7 cd_fu x1 M
set_option maxRecDepth 8000 in
theorem k11_laysRest_15 (M : cd_M) : cd_R 213 0 [some (.ref 15), none, none] [] M (w_PV (f11_laysRest_15 M)) := by
  unfold f11_laysRest_15
  refine r_ld (.aload_n 0) 1 2 0 (.ref 15) rfl rfl rfl rfl 1 rfl ?_
  refine r_go (.getfield 195) 3 rfl rfl rfl 4 [.int (M.1 15 24)] rfl ?_
  refine q_const (.iconst 1) 1 rfl rfl rfl 5 (1) _ rfl cd_kj1 ?_
  refine r_go (.isub) 1 rfl rfl rfl 6 [.int ((M.1 15 24) - 1)] rfl ?_
  refine q_stB w_PV (.istore_n 1) 1 0 1 rfl rfl (fun _ => rfl) 7 rfl (fun x1 => [some (.ref 15), some (.int (x1)), none]) (fun _ => rfl) (fun x1 => ?_)
  exact r_w (k11_laysRest_15_L7 cd_fu x1 M) (cd_le_s (cd_le_s (cd_le_n cd_le_0)))
def f11_goes_15_L125 (r29 : Int32 → Int32 → Int32 → Int32 → Int32 → Int32 → cd_M → Option cd_M) (a1 : Int32) (a3 : Int32) (a4 : Int32) (a5 : Int32) (a6 : Int32) (a7 : Int32) (M : cd_M) : Option cd_M := cd_lt (a7 + (1)) fun x5 => r29 a1 a3 a4 a5 a6 x5 M
set_option maxRecDepth 8000 in
theorem k11_goes_15_L125 (r29 : Int32 → Int32 → Int32 → Int32 → Int32 → Int32 → cd_M → Option cd_M) (h29 : ∀ (a1 : Int32) (a3 : Int32) (a4 : Int32) (a5 : Int32) (a6 : Int32) (a7 : Int32) (M : cd_M), cd_R 214 29 [some (.ref 15), some (.int (a1)), none, some (.int (a3)), some (.int (a4)), some (.int (a5)), some (.int (a6)), some (.int (a7)), none, none] [] M (w_PV (r29 a1 a3 a4 a5 a6 a7 M))) (a1 : Int32) (a3 : Int32) (a4 : Int32) (a5 : Int32) (a6 : Int32) (a7 : Int32) (M : cd_M) : cd_R 214 125 [some (.ref 15), some (.int (a1)), none, some (.int (a3)), some (.int (a4)), some (.int (a5)), some (.int (a6)), some (.int (a7)), none, none] [] M (w_PV (f11_goes_15_L125 r29 a1 a3 a4 a5 a6 a7 M)) := by
  unfold f11_goes_15_L125
  refine q_inc w_PV 7 (1) (a7) rfl rfl rfl 128 rfl (1) cd_kj1 (fun x5 => [some (.ref 15), some (.int (a1)), none, some (.int (a3)), some (.int (a4)), some (.int (a5)), some (.int (a6)), some (.int (x5)), none, none]) (fun _ => rfl) (fun x5 => ?_)
  refine r_go (.goto (-99)) 3 rfl rfl rfl 29 [] rfl ?_
  exact r_w (h29 a1 a3 a4 a5 a6 x5 M) (cd_le_s (cd_le_s (cd_le_n (cd_le_s (cd_le_s (cd_le_s (cd_le_s (cd_le_s (cd_le_n (cd_le_n cd_le_0))))))))))
def f11_goes_15_L90 (r29 : Int32 → Int32 → Int32 → Int32 → Int32 → Int32 → cd_M → Option cd_M) (a1 : Int32) (a3 : Int32) (a4 : Int32) (a5 : Int32) (a6 : Int32) (a7 : Int32) (s0 : Int32) (M : cd_M) : Option cd_M := (f11_costs_15 a1 a7 s0 M).bind fun v6 => if v6 < a5 then (f11_goes_15_L125 r29 a1 a3 a7 v6 s0 a7 M) else (f11_goes_15_L125 r29 a1 a3 a4 a5 a6 a7 M)
set_option maxRecDepth 8000 in
theorem k11_goes_15_L90 (r29 : Int32 → Int32 → Int32 → Int32 → Int32 → Int32 → cd_M → Option cd_M) (h29 : ∀ (a1 : Int32) (a3 : Int32) (a4 : Int32) (a5 : Int32) (a6 : Int32) (a7 : Int32) (M : cd_M), cd_R 214 29 [some (.ref 15), some (.int (a1)), none, some (.int (a3)), some (.int (a4)), some (.int (a5)), some (.int (a6)), some (.int (a7)), none, none] [] M (w_PV (r29 a1 a3 a4 a5 a6 a7 M))) (a1 : Int32) (a3 : Int32) (a4 : Int32) (a5 : Int32) (a6 : Int32) (a7 : Int32) (s0 : Int32) (M : cd_M) : cd_R 214 90 [some (.ref 15), some (.int (a1)), none, some (.int (a3)), some (.int (a4)), some (.int (a5)), some (.int (a6)), some (.int (a7)), none, none] [.int (s0)] M (w_PV (f11_goes_15_L90 r29 a1 a3 a4 a5 a6 a7 s0 M)) := by
  unfold f11_goes_15_L90
  refine r_st (.istore 8) 2 0 8 rfl rfl rfl 92 rfl [some (.ref 15), some (.int (a1)), none, some (.int (a3)), some (.int (a4)), some (.int (a5)), some (.int (a6)), some (.int (a7)), some (.int (s0)), none] rfl ?_
  refine r_ld (.aload_n 0) 1 2 0 (.ref 15) rfl rfl rfl rfl 93 rfl ?_
  refine r_ld (.iload_n 1) 1 0 1 (.int (a1)) rfl rfl rfl rfl 94 rfl ?_
  refine r_ld (.iload 7) 2 0 7 (.int (a7)) rfl rfl rfl rfl 96 rfl ?_
  refine r_ld (.iload 8) 2 0 8 (.int (s0)) rfl rfl rfl rfl 98 rfl ?_
  refine q_cI w_PV rfl (.invokevirtual 283) rfl rfl rfl 211 [.ref 15, .int (a1), .int (a7), .int (s0)] [] rfl (k11_costs_15 a1 a7 s0 M) (fun v6 => ?_)
  refine r_st (.istore 9) 2 0 9 rfl rfl rfl 103 rfl [some (.ref 15), some (.int (a1)), none, some (.int (a3)), some (.int (a4)), some (.int (a5)), some (.int (a6)), some (.int (a7)), some (.int (s0)), some (.int (v6))] rfl ?_
  refine r_ld (.iload 9) 2 0 9 (.int (v6)) rfl rfl rfl rfl 105 rfl ?_
  refine r_ld (.iload 5) 2 0 5 (.int (a5)) rfl rfl rfl rfl 107 rfl ?_
  refine q_br w_PV (.if_icmp .lt 6) 3 rfl rfl rfl (v6 < a5) 113 110 [] rfl (fun _ => ?_) (fun _ => ?_)
  · refine r_ld (.iload 7) 2 0 7 (.int (a7)) rfl rfl rfl rfl 115 rfl ?_
    refine r_st (.istore 4) 2 0 4 rfl rfl rfl 117 rfl [some (.ref 15), some (.int (a1)), none, some (.int (a3)), some (.int (a7)), some (.int (a5)), some (.int (a6)), some (.int (a7)), some (.int (s0)), some (.int (v6))] rfl ?_
    refine r_ld (.iload 9) 2 0 9 (.int (v6)) rfl rfl rfl rfl 119 rfl ?_
    refine r_st (.istore 5) 2 0 5 rfl rfl rfl 121 rfl [some (.ref 15), some (.int (a1)), none, some (.int (a3)), some (.int (a7)), some (.int (v6)), some (.int (a6)), some (.int (a7)), some (.int (s0)), some (.int (v6))] rfl ?_
    refine r_ld (.iload 8) 2 0 8 (.int (s0)) rfl rfl rfl rfl 123 rfl ?_
    refine r_st (.istore 6) 2 0 6 rfl rfl rfl 125 rfl [some (.ref 15), some (.int (a1)), none, some (.int (a3)), some (.int (a7)), some (.int (v6)), some (.int (s0)), some (.int (a7)), some (.int (s0)), some (.int (v6))] rfl ?_
    exact r_w (k11_goes_15_L125 r29 h29 a1 a3 a7 v6 s0 a7 M) (cd_le_s (cd_le_s (cd_le_n (cd_le_s (cd_le_s (cd_le_s (cd_le_s (cd_le_s (cd_le_n (cd_le_n cd_le_0))))))))))
  · refine r_go (.goto 15) 3 rfl rfl rfl 125 [] rfl ?_
    exact r_w (k11_goes_15_L125 r29 h29 a1 a3 a4 a5 a6 a7 M) (cd_le_s (cd_le_s (cd_le_n (cd_le_s (cd_le_s (cd_le_s (cd_le_s (cd_le_s (cd_le_n (cd_le_n cd_le_0))))))))))
def f11_goes_15_L89 (r29 : Int32 → Int32 → Int32 → Int32 → Int32 → Int32 → cd_M → Option cd_M) (a1 : Int32) (a3 : Int32) (a4 : Int32) (a5 : Int32) (a6 : Int32) (a7 : Int32) (M : cd_M) : Option cd_M := f11_goes_15_L90 r29 a1 a3 a4 a5 a6 a7 0 M
set_option maxRecDepth 8000 in
theorem k11_goes_15_L89 (r29 : Int32 → Int32 → Int32 → Int32 → Int32 → Int32 → cd_M → Option cd_M) (h29 : ∀ (a1 : Int32) (a3 : Int32) (a4 : Int32) (a5 : Int32) (a6 : Int32) (a7 : Int32) (M : cd_M), cd_R 214 29 [some (.ref 15), some (.int (a1)), none, some (.int (a3)), some (.int (a4)), some (.int (a5)), some (.int (a6)), some (.int (a7)), none, none] [] M (w_PV (r29 a1 a3 a4 a5 a6 a7 M))) (a1 : Int32) (a3 : Int32) (a4 : Int32) (a5 : Int32) (a6 : Int32) (a7 : Int32) (M : cd_M) : cd_R 214 89 [some (.ref 15), some (.int (a1)), none, some (.int (a3)), some (.int (a4)), some (.int (a5)), some (.int (a6)), some (.int (a7)), none, none] [] M (w_PV (f11_goes_15_L89 r29 a1 a3 a4 a5 a6 a7 M)) := by
  unfold f11_goes_15_L89
  refine q_const (.iconst 0) 1 rfl rfl rfl 90 (0) _ rfl cd_kj0 ?_
  exact r_w (k11_goes_15_L90 r29 h29 a1 a3 a4 a5 a6 a7 0 M) (cd_le_s (cd_le_s (cd_le_n (cd_le_s (cd_le_s (cd_le_s (cd_le_s (cd_le_s (cd_le_n (cd_le_n cd_le_0))))))))))
def f11_goes_15_L75 (r29 : Int32 → Int32 → Int32 → Int32 → Int32 → Int32 → cd_M → Option cd_M) (a1 : Int32) (a3 : Int32) (a4 : Int32) (a5 : Int32) (a6 : Int32) (a7 : Int32) (M : cd_M) : Option cd_M := if a1 ≤ 0 then (f11_goes_15_L89 r29 a1 a3 a4 a5 a6 a7 M) else (if a7 = a3 then (f11_goes_15_L89 r29 a1 a3 a4 a5 a6 a7 M) else (f11_goes_15_L90 r29 a1 a3 a4 a5 a6 a7 1 M))
set_option maxRecDepth 8000 in
theorem k11_goes_15_L75 (r29 : Int32 → Int32 → Int32 → Int32 → Int32 → Int32 → cd_M → Option cd_M) (h29 : ∀ (a1 : Int32) (a3 : Int32) (a4 : Int32) (a5 : Int32) (a6 : Int32) (a7 : Int32) (M : cd_M), cd_R 214 29 [some (.ref 15), some (.int (a1)), none, some (.int (a3)), some (.int (a4)), some (.int (a5)), some (.int (a6)), some (.int (a7)), none, none] [] M (w_PV (r29 a1 a3 a4 a5 a6 a7 M))) (a1 : Int32) (a3 : Int32) (a4 : Int32) (a5 : Int32) (a6 : Int32) (a7 : Int32) (M : cd_M) : cd_R 214 75 [some (.ref 15), some (.int (a1)), none, some (.int (a3)), some (.int (a4)), some (.int (a5)), some (.int (a6)), some (.int (a7)), none, none] [] M (w_PV (f11_goes_15_L75 r29 a1 a3 a4 a5 a6 a7 M)) := by
  unfold f11_goes_15_L75
  refine r_ld (.iload_n 1) 1 0 1 (.int (a1)) rfl rfl rfl rfl 76 rfl ?_
  refine q_br w_PV (.ifCond .le 13) 3 rfl rfl rfl (a1 ≤ 0) 89 79 [] rfl (fun _ => ?_) (fun _ => ?_)
  · exact r_w (k11_goes_15_L89 r29 h29 a1 a3 a4 a5 a6 a7 M) (cd_le_s (cd_le_s (cd_le_n (cd_le_s (cd_le_s (cd_le_s (cd_le_s (cd_le_s (cd_le_n (cd_le_n cd_le_0))))))))))
  · refine r_ld (.iload 7) 2 0 7 (.int (a7)) rfl rfl rfl rfl 81 rfl ?_
    refine r_ld (.iload_n 3) 1 0 3 (.int (a3)) rfl rfl rfl rfl 82 rfl ?_
    refine q_br w_PV (.if_icmp .eq 7) 3 rfl rfl rfl (a7 = a3) 89 85 [] rfl (fun _ => ?_) (fun _ => ?_)
    · exact r_w (k11_goes_15_L89 r29 h29 a1 a3 a4 a5 a6 a7 M) (cd_le_s (cd_le_s (cd_le_n (cd_le_s (cd_le_s (cd_le_s (cd_le_s (cd_le_s (cd_le_n (cd_le_n cd_le_0))))))))))
    · refine q_const (.iconst 1) 1 rfl rfl rfl 86 (1) _ rfl cd_kj1 ?_
      refine r_go (.goto 4) 3 rfl rfl rfl 90 [.int (1)] rfl ?_
      exact r_w (k11_goes_15_L90 r29 h29 a1 a3 a4 a5 a6 a7 1 M) (cd_le_s (cd_le_s (cd_le_n (cd_le_s (cd_le_s (cd_le_s (cd_le_s (cd_le_s (cd_le_n (cd_le_n cd_le_0))))))))))
def f11_goes_15_L29 : Nat → Int32 → Int32 → Int32 → Int32 → Int32 → Int32 → cd_M → Option cd_M
  | 0, _, _, _, _, _, _, _ => none
  | n + 1, a1, a3, a4, a5, a6, a7, M => if 150 ≤ a7 then (if cd_in a1 90 = true then (cd_lt (cd_wI M 70 a1.toNatClampNeg a4) fun M1 => if cd_in a1 90 = true then (cd_lt (cd_wI M1 71 a1.toNatClampNeg (vp_nar .boolean a6)) fun M2 => some M2) else none) else none) else ((f11_isState_15 (a7 / 25) ((a7 / 5) - (a7 / 5) / 5 * 5) (a7 - a7 / 5 * 5) M).bind fun v3 => if v3 = 0 then (f11_goes_15_L125 (f11_goes_15_L29 n) a1 a3 a4 a5 a6 a7 M) else (if a7 - a7 / 5 * 5 ≤ 0 then (f11_goes_15_L75 (f11_goes_15_L29 n) a1 a3 a4 a5 a6 a7 M) else (if a7 = a3 then (f11_goes_15_L75 (f11_goes_15_L29 n) a1 a3 a4 a5 a6 a7 M) else (f11_goes_15_L125 (f11_goes_15_L29 n) a1 a3 a4 a5 a6 a7 M))))
set_option maxRecDepth 8000 in
theorem k11_goes_15_L29 : ∀ (n : Nat) (a1 : Int32) (a3 : Int32) (a4 : Int32) (a5 : Int32) (a6 : Int32) (a7 : Int32) (M : cd_M), cd_R 214 29 [some (.ref 15), some (.int (a1)), none, some (.int (a3)), some (.int (a4)), some (.int (a5)), some (.int (a6)), some (.int (a7)), none, none] [] M (w_PV (f11_goes_15_L29 n a1 a3 a4 a5 a6 a7 M)) := by
  intro n
  induction n with
  | zero =>
    intro a1 a3 a4 a5 a6 a7 M
    exact q_none w_PV rfl
  | succ n ih =>
    intro a1 a3 a4 a5 a6 a7 M
    rw [f11_goes_15_L29]
    refine r_ld (.iload 7) 2 0 7 (.int (a7)) rfl rfl rfl rfl 31 rfl ?_
    refine q_const (.sipush 150) 3 rfl rfl rfl 34 (150) _ rfl cd_kt150 ?_
    refine q_br w_PV (.if_icmp .ge 97) 3 rfl rfl rfl (150 ≤ a7) 131 37 [] rfl (fun _ => ?_) (fun _ => ?_)
    · refine r_ld (.aload_n 0) 1 2 0 (.ref 15) rfl rfl rfl rfl 132 rfl ?_
      refine r_go (.getfield 51) 3 rfl rfl rfl 135 [.ref 70] rfl ?_
      refine r_ld (.iload_n 1) 1 0 1 (.int (a1)) rfl rfl rfl rfl 136 rfl ?_
      refine r_ld (.iload 4) 2 0 4 (.int (a4)) rfl rfl rfl rfl 138 rfl ?_
      refine q_iast w_PV rfl rfl 70 90 rfl (fun M1 => ?_)
      refine r_ld (.aload_n 0) 1 2 0 (.ref 15) rfl rfl rfl rfl 140 rfl ?_
      refine r_go (.getfield 54) 3 rfl rfl rfl 143 [.ref 71] rfl ?_
      refine r_ld (.iload_n 1) 1 0 1 (.int (a1)) rfl rfl rfl rfl 144 rfl ?_
      refine r_ld (.iload 6) 2 0 6 (.int (a6)) rfl rfl rfl rfl 146 rfl ?_
      refine q_zast w_PV rfl rfl 71 90 rfl (fun M2 => ?_)
      exact r_ret .return_ 1 rfl rfl rfl _ rfl
    · refine r_ld (.aload_n 0) 1 2 0 (.ref 15) rfl rfl rfl rfl 38 rfl ?_
      refine r_ld (.iload 7) 2 0 7 (.int (a7)) rfl rfl rfl rfl 40 rfl ?_
      refine q_const (.bipush 25) 2 rfl rfl rfl 42 (25) _ rfl cd_kc25 ?_
      refine q_divK rfl (by decide) ?_
      refine r_ld (.iload 7) 2 0 7 (.int (a7)) rfl rfl rfl rfl 45 rfl ?_
      refine q_const (.iconst 5) 1 rfl rfl rfl 46 (5) _ rfl cd_kj5 ?_
      refine q_divK rfl (by decide) ?_
      refine q_const (.iconst 5) 1 rfl rfl rfl 48 (5) _ rfl cd_kj5 ?_
      refine q_remK rfl (by decide) ?_
      refine r_ld (.iload 7) 2 0 7 (.int (a7)) rfl rfl rfl rfl 51 rfl ?_
      refine q_const (.iconst 5) 1 rfl rfl rfl 52 (5) _ rfl cd_kj5 ?_
      refine q_remK rfl (by decide) ?_
      refine q_cIz w_PV rfl (.invokevirtual 287) rfl rfl rfl 207 rfl [.ref 15, .int (a7 / 25), .int ((a7 / 5) - (a7 / 5) / 5 * 5), .int (a7 - a7 / 5 * 5)] [] rfl (k11_isState_15 (a7 / 25) ((a7 / 5) - (a7 / 5) / 5 * 5) (a7 - a7 / 5 * 5) M) (fun v3 z4 => ?_)
      refine q_br w_PV (.ifCond .eq 69) 3 rfl rfl rfl (v3 = 0) 125 59 [] rfl (fun _ => ?_) (fun _ => ?_)
      · exact r_w (k11_goes_15_L125 (f11_goes_15_L29 n) ih a1 a3 a4 a5 a6 a7 M) (cd_le_s (cd_le_s (cd_le_n (cd_le_s (cd_le_s (cd_le_s (cd_le_s (cd_le_s (cd_le_n (cd_le_n cd_le_0))))))))))
      · refine r_ld (.iload 7) 2 0 7 (.int (a7)) rfl rfl rfl rfl 61 rfl ?_
        refine q_const (.iconst 5) 1 rfl rfl rfl 62 (5) _ rfl cd_kj5 ?_
        refine q_remK rfl (by decide) ?_
        refine q_br w_PV (.ifCond .le 12) 3 rfl rfl rfl (a7 - a7 / 5 * 5 ≤ 0) 75 66 [] rfl (fun _ => ?_) (fun _ => ?_)
        · exact r_w (k11_goes_15_L75 (f11_goes_15_L29 n) ih a1 a3 a4 a5 a6 a7 M) (cd_le_s (cd_le_s (cd_le_n (cd_le_s (cd_le_s (cd_le_s (cd_le_s (cd_le_s (cd_le_n (cd_le_n cd_le_0))))))))))
        · refine r_ld (.iload 7) 2 0 7 (.int (a7)) rfl rfl rfl rfl 68 rfl ?_
          refine r_ld (.iload_n 3) 1 0 3 (.int (a3)) rfl rfl rfl rfl 69 rfl ?_
          refine q_br w_PV (.if_icmp .eq 6) 3 rfl rfl rfl (a7 = a3) 75 72 [] rfl (fun _ => ?_) (fun _ => ?_)
          · exact r_w (k11_goes_15_L75 (f11_goes_15_L29 n) ih a1 a3 a4 a5 a6 a7 M) (cd_le_s (cd_le_s (cd_le_n (cd_le_s (cd_le_s (cd_le_s (cd_le_s (cd_le_s (cd_le_n (cd_le_n cd_le_0))))))))))
          · refine r_go (.goto 53) 3 rfl rfl rfl 125 [] rfl ?_
            exact r_w (k11_goes_15_L125 (f11_goes_15_L29 n) ih a1 a3 a4 a5 a6 a7 M) (cd_le_s (cd_le_s (cd_le_n (cd_le_s (cd_le_s (cd_le_s (cd_le_s (cd_le_s (cd_le_n (cd_le_n cd_le_0))))))))))
def f11_goes_15_L14 (a1 : Int32) (s0 : Int32) (M : cd_M) : Option cd_M := f11_goes_15_L29 cd_fu a1 s0 (-1) 1000000000 0 0 M
set_option maxRecDepth 8000 in
theorem k11_goes_15_L14 (a1 : Int32) (s0 : Int32) (M : cd_M) : cd_R 214 14 [some (.ref 15), some (.int (a1)), none, none, none, none, none, none, none, none] [.int (s0)] M (w_PV (f11_goes_15_L14 a1 s0 M)) := by
  unfold f11_goes_15_L14
  refine r_st (.istore_n 3) 1 0 3 rfl rfl rfl 15 rfl [some (.ref 15), some (.int (a1)), none, some (.int (s0)), none, none, none, none, none, none] rfl ?_
  refine q_const (.iconst (-1)) 1 rfl rfl rfl 16 (-1) _ rfl cd_kjm1 ?_
  refine r_st (.istore 4) 2 0 4 rfl rfl rfl 18 rfl [some (.ref 15), some (.int (a1)), none, some (.int (s0)), some (.int ((-1))), none, none, none, none, none] rfl ?_
  refine r_go (.ldc_w 282) 3 rfl rfl rfl 21 [.int (1000000000)] rfl ?_
  refine r_st (.istore 5) 2 0 5 rfl rfl rfl 23 rfl [some (.ref 15), some (.int (a1)), none, some (.int (s0)), some (.int ((-1))), some (.int (1000000000)), none, none, none, none] rfl ?_
  refine q_const (.iconst 0) 1 rfl rfl rfl 24 (0) _ rfl cd_kj0 ?_
  refine r_st (.istore 6) 2 0 6 rfl rfl rfl 26 rfl [some (.ref 15), some (.int (a1)), none, some (.int (s0)), some (.int ((-1))), some (.int (1000000000)), some (.int (0)), none, none, none] rfl ?_
  refine q_const (.iconst 0) 1 rfl rfl rfl 27 (0) _ rfl cd_kj0 ?_
  refine r_st (.istore 7) 2 0 7 rfl rfl rfl 29 rfl [some (.ref 15), some (.int (a1)), none, some (.int (s0)), some (.int ((-1))), some (.int (1000000000)), some (.int (0)), some (.int (0)), none, none] rfl ?_
  exact r_w (k11_goes_15_L29 cd_fu a1 s0 (-1) 1000000000 0 0 M) (cd_le_s (cd_le_s (cd_le_n (cd_le_s (cd_le_s (cd_le_s (cd_le_s (cd_le_s (cd_le_n (cd_le_n cd_le_0))))))))))
def f11_goes_15 (a1 : Int32) (a2 : Int32) (M : cd_M) : Option cd_M := if a1 = 0 then (f11_goes_15_L14 a1 (-1) M) else ((f11_on_15 a1 a2 M).bind fun v7 => f11_goes_15_L14 a1 v7 M)
set_option maxRecDepth 8000 in
theorem k11_goes_15 (a1 : Int32) (a2 : Int32) (M : cd_M) : cd_R 214 0 [some (.ref 15), some (.int (a1)), some (.int (a2)), none, none, none, none, none, none, none] [] M (w_PV (f11_goes_15 a1 a2 M)) := by
  unfold f11_goes_15
  refine r_ld (.iload_n 1) 1 0 1 (.int (a1)) rfl rfl rfl rfl 1 rfl ?_
  refine q_br w_PV (.ifCond .ne 7) 3 rfl rfl rfl (a1 = 0) 4 8 [] rfl (fun _ => ?_) (fun _ => ?_)
  · refine q_const (.iconst (-1)) 1 rfl rfl rfl 5 (-1) _ rfl cd_kjm1 ?_
    refine r_go (.goto 9) 3 rfl rfl rfl 14 [.int ((-1))] rfl ?_
    exact r_w (k11_goes_15_L14 a1 (-1) M) (cd_le_s (cd_le_s (cd_le_n (cd_le_n (cd_le_n (cd_le_n (cd_le_n (cd_le_n (cd_le_n (cd_le_n cd_le_0))))))))))
  · refine r_ld (.aload_n 0) 1 2 0 (.ref 15) rfl rfl rfl rfl 9 rfl ?_
    refine r_ld (.iload_n 1) 1 0 1 (.int (a1)) rfl rfl rfl rfl 10 rfl ?_
    refine r_ld (.iload_n 2) 1 0 2 (.int (a2)) rfl rfl rfl rfl 11 rfl ?_
    refine q_cI w_PV rfl (.invokevirtual 279) rfl rfl rfl 210 [.ref 15, .int (a1), .int (a2)] [] rfl (k11_on_15 a1 a2 M) (fun v7 => ?_)
    exact r_w (k11_goes_15_L14 a1 v7 M) (cd_le_s (cd_le_s (cd_le_n (cd_le_n (cd_le_n (cd_le_n (cd_le_n (cd_le_n (cd_le_n (cd_le_n cd_le_0))))))))))
def f11_costOf_15_L30 (s0 : Int32) (s1 : Int32) (M : cd_M) : Option (Int32) := some (s1 + s0)
set_option maxRecDepth 8000 in
theorem k11_costOf_15_L30 (s0 : Int32) (s1 : Int32) (M : cd_M) : cd_R 216 30 [none, none] [.int (s0), .int (s1)] M ((w_PI M) (f11_costOf_15_L30 s0 s1 M)) := by
  unfold f11_costOf_15_L30
  refine r_go (.iadd) 1 rfl rfl rfl 31 [.int (s1 + s0)] rfl ?_
  exact r_ret .ireturn 1 rfl rfl rfl _ rfl
def f11_costOf_15 (a1 : Int32) (M : cd_M) : Option (Int32) := if cd_in a1 90 = true then ((f11_costAt_15 a1 (M.1 70 a1.toNatClampNeg) M).bind fun v1 => if cd_in a1 90 = true then (if M.1 71 a1.toNatClampNeg = 0 then (f11_costOf_15_L30 0 v1 M) else (if cd_in 1 10 = true then (f11_costOf_15_L30 (M.1 62 (1 : Int32).toNatClampNeg) v1 M) else none)) else none) else none
set_option maxRecDepth 8000 in
theorem k11_costOf_15 (a1 : Int32) (M : cd_M) : cd_R 216 0 [some (.ref 15), some (.int (a1))] [] M ((w_PI M) (f11_costOf_15 a1 M)) := by
  unfold f11_costOf_15
  refine r_ld (.aload_n 0) 1 2 0 (.ref 15) rfl rfl rfl rfl 1 rfl ?_
  refine r_ld (.iload_n 1) 1 0 1 (.int (a1)) rfl rfl rfl rfl 2 rfl ?_
  refine r_ld (.aload_n 0) 1 2 0 (.ref 15) rfl rfl rfl rfl 3 rfl ?_
  refine r_go (.getfield 51) 3 rfl rfl rfl 6 [.ref 70, .int (a1), .ref 15] rfl ?_
  refine r_ld (.iload_n 1) 1 0 1 (.int (a1)) rfl rfl rfl rfl 7 rfl ?_
  refine q_iald (w_PI M) rfl rfl 70 90 rfl ?_
  refine q_cI (w_PI M) rfl (.invokevirtual 276) rfl rfl rfl 209 [.ref 15, .int (a1), .int (M.1 70 a1.toNatClampNeg)] [] rfl (k11_costAt_15 a1 (M.1 70 a1.toNatClampNeg) M) (fun v1 => ?_)
  refine r_ld (.aload_n 0) 1 2 0 (.ref 15) rfl rfl rfl rfl 12 rfl ?_
  refine r_go (.getfield 54) 3 rfl rfl rfl 15 [.ref 71, .int (v1)] rfl ?_
  refine r_ld (.iload_n 1) 1 0 1 (.int (a1)) rfl rfl rfl rfl 16 rfl ?_
  refine q_bald (w_PI M) rfl rfl 71 90 23 rfl rfl (by decide) ?_
  refine q_br (w_PI M) (.ifCond .eq 12) 3 rfl rfl rfl (M.1 71 a1.toNatClampNeg = 0) 29 20 [.int (v1)] rfl (fun _ => ?_) (fun _ => ?_)
  · refine q_const (.iconst 0) 1 rfl rfl rfl 30 (0) _ rfl cd_kj0 ?_
    exact r_w (k11_costOf_15_L30 0 v1 M) (cd_le_n (cd_le_n cd_le_0))
  · refine r_ld (.aload_n 0) 1 2 0 (.ref 15) rfl rfl rfl rfl 21 rfl ?_
    refine r_go (.getfield 26) 3 rfl rfl rfl 24 [.ref 62, .int (v1)] rfl ?_
    refine q_const (.iconst 1) 1 rfl rfl rfl 25 (1) _ rfl cd_kj1 ?_
    refine q_iald (w_PI M) rfl rfl 62 10 rfl ?_
    refine r_go (.goto 4) 3 rfl rfl rfl 30 [.int (M.1 62 (1 : Int32).toNatClampNeg), .int (v1)] rfl ?_
    exact r_w (k11_costOf_15_L30 (M.1 62 (1 : Int32).toNatClampNeg) v1 M) (cd_le_n (cd_le_n cd_le_0))
def f11_laysPath_15_L73 (r25 : Int32 → cd_M → Option cd_M) (a2 : Int32) (s0 : Int32) (s1 : Int32) (M : cd_M) : Option cd_M := cd_lt (cd_wI M 15 36 (s1 + s0)) fun M7 => (f11_costOf_15 a2 M7).bind fun v8 => cd_lt (cd_wI M7 15 35 ((M7.1 15 35) + v8)) fun M9 => cd_lt (a2 + (1)) fun x10 => r25 x10 M9
set_option maxRecDepth 8000 in
theorem k11_laysPath_15_L73 (r25 : Int32 → cd_M → Option cd_M) (h25 : ∀ (a2 : Int32) (M : cd_M), cd_R 215 25 [some (.ref 15), none, some (.int (a2))] [] M (w_PV (r25 a2 M))) (a2 : Int32) (s0 : Int32) (s1 : Int32) (M : cd_M) : cd_R 215 73 [some (.ref 15), none, some (.int (a2))] [.int (s0), .int (s1), .ref 15] M (w_PV (f11_laysPath_15_L73 r25 a2 s0 s1 M)) := by
  unfold f11_laysPath_15_L73
  refine r_go (.iadd) 1 rfl rfl rfl 74 [.int (s1 + s0), .ref 15] rfl ?_
  refine q_wr w_PV (.putfield 303) 3 rfl rfl rfl 77 [] (cd_wI M 15 36 (s1 + s0)) rfl (fun M7 => ?_)
  refine r_ld (.aload_n 0) 1 2 0 (.ref 15) rfl rfl rfl rfl 78 rfl ?_
  refine r_go (.dup) 1 rfl rfl rfl 79 [.ref 15, .ref 15] rfl ?_
  refine r_go (.getfield 300) 3 rfl rfl rfl 82 [.int (M7.1 15 35), .ref 15] rfl ?_
  refine r_ld (.aload_n 0) 1 2 0 (.ref 15) rfl rfl rfl rfl 83 rfl ?_
  refine r_ld (.iload_n 2) 1 0 2 (.int (a2)) rfl rfl rfl rfl 84 rfl ?_
  refine q_cI w_PV rfl (.invokevirtual 309) rfl rfl rfl 216 [.ref 15, .int (a2)] [.int (M7.1 15 35), .ref 15] rfl (k11_costOf_15 a2 M7) (fun v8 => ?_)
  refine r_go (.iadd) 1 rfl rfl rfl 88 [.int ((M7.1 15 35) + v8), .ref 15] rfl ?_
  refine q_wr w_PV (.putfield 300) 3 rfl rfl rfl 91 [] (cd_wI M7 15 35 ((M7.1 15 35) + v8)) rfl (fun M9 => ?_)
  refine q_inc w_PV 2 (1) (a2) rfl rfl rfl 94 rfl (1) cd_kj1 (fun x10 => [some (.ref 15), none, some (.int (x10))]) (fun _ => rfl) (fun x10 => ?_)
  refine r_go (.goto (-69)) 3 rfl rfl rfl 25 [] rfl ?_
  exact r_w (h25 x10 M9) (cd_le_s (cd_le_n (cd_le_s cd_le_0)))
def f11_laysPath_15_L51 (r25 : Int32 → cd_M → Option cd_M) (a2 : Int32) (s0 : Int32) (s1 : Int32) (M : cd_M) : Option cd_M := (f11_goes_15 s1 s0 M).bind fun M6 => if cd_in a2 90 = true then (if M6.1 71 a2.toNatClampNeg = 0 then (f11_laysPath_15_L73 r25 a2 0 (M6.1 15 36) M6) else (f11_laysPath_15_L73 r25 a2 1 (M6.1 15 36) M6)) else none
set_option maxRecDepth 8000 in
theorem k11_laysPath_15_L51 (r25 : Int32 → cd_M → Option cd_M) (h25 : ∀ (a2 : Int32) (M : cd_M), cd_R 215 25 [some (.ref 15), none, some (.int (a2))] [] M (w_PV (r25 a2 M))) (a2 : Int32) (s0 : Int32) (s1 : Int32) (M : cd_M) : cd_R 215 51 [some (.ref 15), none, some (.int (a2))] [.int (s0), .int (s1), .ref 15] M (w_PV (f11_laysPath_15_L51 r25 a2 s0 s1 M)) := by
  unfold f11_laysPath_15_L51
  refine q_cV w_PV rfl (.invokevirtual 306) rfl rfl rfl 214 [.ref 15, .int (s1), .int (s0)] [] rfl (k11_goes_15 s1 s0 M) (fun M6 => ?_)
  refine r_ld (.aload_n 0) 1 2 0 (.ref 15) rfl rfl rfl rfl 55 rfl ?_
  refine r_go (.dup) 1 rfl rfl rfl 56 [.ref 15, .ref 15] rfl ?_
  refine r_go (.getfield 303) 3 rfl rfl rfl 59 [.int (M6.1 15 36), .ref 15] rfl ?_
  refine r_ld (.aload_n 0) 1 2 0 (.ref 15) rfl rfl rfl rfl 60 rfl ?_
  refine r_go (.getfield 54) 3 rfl rfl rfl 63 [.ref 71, .int (M6.1 15 36), .ref 15] rfl ?_
  refine r_ld (.iload_n 2) 1 0 2 (.int (a2)) rfl rfl rfl rfl 64 rfl ?_
  refine q_bald w_PV rfl rfl 71 90 23 rfl rfl (by decide) ?_
  refine q_br w_PV (.ifCond .eq 7) 3 rfl rfl rfl (M6.1 71 a2.toNatClampNeg = 0) 72 68 [.int (M6.1 15 36), .ref 15] rfl (fun _ => ?_) (fun _ => ?_)
  · refine q_const (.iconst 0) 1 rfl rfl rfl 73 (0) _ rfl cd_kj0 ?_
    exact r_w (k11_laysPath_15_L73 r25 h25 a2 0 (M6.1 15 36) M6) (cd_le_s (cd_le_n (cd_le_s cd_le_0)))
  · refine q_const (.iconst 1) 1 rfl rfl rfl 69 (1) _ rfl cd_kj1 ?_
    refine r_go (.goto 4) 3 rfl rfl rfl 73 [.int (1), .int (M6.1 15 36), .ref 15] rfl ?_
    exact r_w (k11_laysPath_15_L73 r25 h25 a2 1 (M6.1 15 36) M6) (cd_le_s (cd_le_n (cd_le_s cd_le_0)))
def f11_laysPath_15_L25 : Nat → Int32 → cd_M → Option cd_M
  | 0, _, _ => none
  | n + 1, a2, M => if M.1 15 24 ≤ a2 then (some M) else (if a2 = 0 then (f11_laysPath_15_L51 (f11_laysPath_15_L25 n) a2 (-1) a2 M) else (if cd_in (a2 - 1) 90 = true then (f11_laysPath_15_L51 (f11_laysPath_15_L25 n) a2 (M.1 70 (a2 - 1 : Int32).toNatClampNeg) a2 M) else none))
set_option maxRecDepth 8000 in
theorem k11_laysPath_15_L25 : ∀ (n : Nat) (a2 : Int32) (M : cd_M), cd_R 215 25 [some (.ref 15), none, some (.int (a2))] [] M (w_PV (f11_laysPath_15_L25 n a2 M)) := by
  intro n
  induction n with
  | zero =>
    intro a2 M
    exact q_none w_PV rfl
  | succ n ih =>
    intro a2 M
    rw [f11_laysPath_15_L25]
    refine r_ld (.iload_n 2) 1 0 2 (.int (a2)) rfl rfl rfl rfl 26 rfl ?_
    refine r_ld (.aload_n 0) 1 2 0 (.ref 15) rfl rfl rfl rfl 27 rfl ?_
    refine r_go (.getfield 195) 3 rfl rfl rfl 30 [.int (M.1 15 24), .int (a2)] rfl ?_
    refine q_br w_PV (.if_icmp .ge 67) 3 rfl rfl rfl (M.1 15 24 ≤ a2) 97 33 [] rfl (fun _ => ?_) (fun _ => ?_)
    · exact r_ret .return_ 1 rfl rfl rfl _ rfl
    · refine r_ld (.aload_n 0) 1 2 0 (.ref 15) rfl rfl rfl rfl 34 rfl ?_
      refine r_ld (.iload_n 2) 1 0 2 (.int (a2)) rfl rfl rfl rfl 35 rfl ?_
      refine r_ld (.iload_n 2) 1 0 2 (.int (a2)) rfl rfl rfl rfl 36 rfl ?_
      refine q_br w_PV (.ifCond .ne 7) 3 rfl rfl rfl (a2 = 0) 39 43 [.int (a2), .ref 15] rfl (fun _ => ?_) (fun _ => ?_)
      · refine q_const (.iconst (-1)) 1 rfl rfl rfl 40 (-1) _ rfl cd_kjm1 ?_
        refine r_go (.goto 11) 3 rfl rfl rfl 51 [.int ((-1)), .int (a2), .ref 15] rfl ?_
        exact r_w (k11_laysPath_15_L51 (f11_laysPath_15_L25 n) ih a2 (-1) a2 M) (cd_le_s (cd_le_n (cd_le_s cd_le_0)))
      · refine r_ld (.aload_n 0) 1 2 0 (.ref 15) rfl rfl rfl rfl 44 rfl ?_
        refine r_go (.getfield 51) 3 rfl rfl rfl 47 [.ref 70, .int (a2), .ref 15] rfl ?_
        refine r_ld (.iload_n 2) 1 0 2 (.int (a2)) rfl rfl rfl rfl 48 rfl ?_
        refine q_const (.iconst 1) 1 rfl rfl rfl 49 (1) _ rfl cd_kj1 ?_
        refine r_go (.isub) 1 rfl rfl rfl 50 [.int (a2 - 1), .ref 70, .int (a2), .ref 15] rfl ?_
        refine q_iald w_PV rfl rfl 70 90 rfl ?_
        exact r_w (k11_laysPath_15_L51 (f11_laysPath_15_L25 n) ih a2 (M.1 70 (a2 - 1 : Int32).toNatClampNeg) a2 M) (cd_le_s (cd_le_n (cd_le_s cd_le_0)))
def f11_laysPath_15 (a1 : Int32) (M : cd_M) : Option cd_M := cd_lt (cd_wI M 15 29 a1) fun M1 => (f11_laysCosts_15 M1).bind fun M2 => (f11_laysRest_15 M2).bind fun M3 => cd_lt (cd_wI M3 15 35 0) fun M4 => cd_lt (cd_wI M4 15 36 0) fun M5 => f11_laysPath_15_L25 cd_fu 0 M5
set_option maxRecDepth 8000 in
theorem k11_laysPath_15 (a1 : Int32) (M : cd_M) : cd_R 215 0 [some (.ref 15), some (.int (a1)), none] [] M (w_PV (f11_laysPath_15 a1 M)) := by
  unfold f11_laysPath_15
  refine r_ld (.aload_n 0) 1 2 0 (.ref 15) rfl rfl rfl rfl 1 rfl ?_
  refine r_ld (.iload_n 1) 1 0 1 (.int (a1)) rfl rfl rfl rfl 2 rfl ?_
  refine q_wr w_PV (.putfield 264) 3 rfl rfl rfl 5 [] (cd_wI M 15 29 a1) rfl (fun M1 => ?_)
  refine r_ld (.aload_n 0) 1 2 0 (.ref 15) rfl rfl rfl rfl 6 rfl ?_
  refine q_cV w_PV rfl (.invokevirtual 294) rfl rfl rfl 208 [.ref 15] [] rfl (k11_laysCosts_15 M1) (fun M2 => ?_)
  refine r_ld (.aload_n 0) 1 2 0 (.ref 15) rfl rfl rfl rfl 10 rfl ?_
  refine q_cV w_PV rfl (.invokevirtual 297) rfl rfl rfl 213 [.ref 15] [] rfl (k11_laysRest_15 M2) (fun M3 => ?_)
  refine r_ld (.aload_n 0) 1 2 0 (.ref 15) rfl rfl rfl rfl 14 rfl ?_
  refine q_const (.iconst 0) 1 rfl rfl rfl 15 (0) _ rfl cd_kj0 ?_
  refine q_wr w_PV (.putfield 300) 3 rfl rfl rfl 18 [] (cd_wI M3 15 35 0) rfl (fun M4 => ?_)
  refine r_ld (.aload_n 0) 1 2 0 (.ref 15) rfl rfl rfl rfl 19 rfl ?_
  refine q_const (.iconst 0) 1 rfl rfl rfl 20 (0) _ rfl cd_kj0 ?_
  refine q_wr w_PV (.putfield 303) 3 rfl rfl rfl 23 [] (cd_wI M4 15 36 0) rfl (fun M5 => ?_)
  refine q_const (.iconst 0) 1 rfl rfl rfl 24 (0) _ rfl cd_kj0 ?_
  refine r_st (.istore_n 2) 1 0 2 rfl rfl rfl 25 rfl [some (.ref 15), some (.int (a1)), some (.int (0))] rfl ?_
  exact r_w (k11_laysPath_15_L25 cd_fu 0 M5) (cd_le_s (cd_le_n (cd_le_s cd_le_0)))
