def f6_addPlace_10_L80 (r26 : Int32 → Int32 → Int32 → Int32 → Int32 → cd_M → Option cd_M) (r35 : Int32 → Int32 → Int32 → Int32 → Int32 → Int32 → cd_M → Option cd_M) (a1 : Int32) (a2 : Int32) (a4 : Int32) (a5 : Int32) (a6 : Int32) (a7 : Int32) (s0 : Int32) (s1 : Int32) (s2 : Int32) (s3 : Int32) (M : cd_M) : Option cd_M := (f6_addState_10 s3 s2 s1 s0 M).bind fun M4 => cd_lt (a7 + (1)) fun x5 => r35 a1 a2 a4 a5 a6 x5 M4
set_option maxRecDepth 8000 in
theorem k6_addPlace_10_L80 (r26 : Int32 → Int32 → Int32 → Int32 → Int32 → cd_M → Option cd_M) (h26 : ∀ (a1 : Int32) (a2 : Int32) (a4 : Int32) (a5 : Int32) (a6 : Int32) (M : cd_M), cd_R 76 26 [some (.ref 10), some (.int (a1)), some (.int (a2)), none, some (.int (a4)), some (.int (a5)), some (.int (a6)), none, none] [] M (w_PV (r26 a1 a2 a4 a5 a6 M))) (r35 : Int32 → Int32 → Int32 → Int32 → Int32 → Int32 → cd_M → Option cd_M) (h35 : ∀ (a1 : Int32) (a2 : Int32) (a4 : Int32) (a5 : Int32) (a6 : Int32) (a7 : Int32) (M : cd_M), cd_R 76 35 [some (.ref 10), some (.int (a1)), some (.int (a2)), none, some (.int (a4)), some (.int (a5)), some (.int (a6)), some (.int (a7)), none] [] M (w_PV (r35 a1 a2 a4 a5 a6 a7 M))) (a1 : Int32) (a2 : Int32) (a4 : Int32) (a5 : Int32) (a6 : Int32) (a7 : Int32) (s0 : Int32) (s1 : Int32) (s2 : Int32) (s3 : Int32) (M : cd_M) : cd_R 76 80 [some (.ref 10), some (.int (a1)), some (.int (a2)), none, some (.int (a4)), some (.int (a5)), some (.int (a6)), some (.int (a7)), none] [.int (s0), .int (s1), .int (s2), .int (s3), .ref 10] M (w_PV (f6_addPlace_10_L80 r26 r35 a1 a2 a4 a5 a6 a7 s0 s1 s2 s3 M)) := by
  unfold f6_addPlace_10_L80
  refine q_cV w_PV rfl (.invokevirtual 49) rfl rfl rfl 77 [.ref 10, .int (s3), .int (s2), .int (s1), .int (s0)] [] rfl (k6_addState_10 s3 s2 s1 s0 M) (fun M4 => ?_)
  refine q_inc w_PV 7 (1) (a7) rfl rfl rfl 86 rfl (1) cd_kj1 (fun x5 => [some (.ref 10), some (.int (a1)), some (.int (a2)), none, some (.int (a4)), some (.int (a5)), some (.int (a6)), some (.int (x5)), none]) (fun _ => rfl) (fun x5 => ?_)
  refine r_go (.goto (-51)) 3 rfl rfl rfl 35 [] rfl ?_
  exact r_w (h35 a1 a2 a4 a5 a6 x5 M4) (cd_le_s (cd_le_s (cd_le_s (cd_le_n (cd_le_s (cd_le_s (cd_le_s (cd_le_s (cd_le_n cd_le_0)))))))))
def f6_addPlace_10_L35 (r26 : Int32 → Int32 → Int32 → Int32 → Int32 → cd_M → Option cd_M) : Nat → Int32 → Int32 → Int32 → Int32 → Int32 → Int32 → cd_M → Option cd_M
  | 0, _, _, _, _, _, _, _ => none
  | n + 1, a1, a2, a4, a5, a6, a7, M => if a6 < a7 then (cd_lt (a6 + (1)) fun x2 => r26 a1 a2 a4 a5 x2 M) else (cd_lt (((a4 + (f6_firstOfStep (a6 + 1) M)) + a7) + 1) fun x3 => if a2 ≤ a6 + 1 then (f6_addPlace_10_L80 r26 (f6_addPlace_10_L35 r26 n) a1 a2 a4 a5 a6 a7 a5 a7 a6 a1 M) else (f6_addPlace_10_L80 r26 (f6_addPlace_10_L35 r26 n) a1 a2 a4 a5 a6 a7 x3 a7 a6 a1 M))
set_option maxRecDepth 8000 in
theorem k6_addPlace_10_L35 (r26 : Int32 → Int32 → Int32 → Int32 → Int32 → cd_M → Option cd_M) (h26 : ∀ (a1 : Int32) (a2 : Int32) (a4 : Int32) (a5 : Int32) (a6 : Int32) (M : cd_M), cd_R 76 26 [some (.ref 10), some (.int (a1)), some (.int (a2)), none, some (.int (a4)), some (.int (a5)), some (.int (a6)), none, none] [] M (w_PV (r26 a1 a2 a4 a5 a6 M))) : ∀ (n : Nat) (a1 : Int32) (a2 : Int32) (a4 : Int32) (a5 : Int32) (a6 : Int32) (a7 : Int32) (M : cd_M), cd_R 76 35 [some (.ref 10), some (.int (a1)), some (.int (a2)), none, some (.int (a4)), some (.int (a5)), some (.int (a6)), some (.int (a7)), none] [] M (w_PV (f6_addPlace_10_L35 r26 n a1 a2 a4 a5 a6 a7 M)) := by
  intro n
  induction n with
  | zero =>
    intro a1 a2 a4 a5 a6 a7 M
    exact q_none w_PV rfl
  | succ n ih =>
    intro a1 a2 a4 a5 a6 a7 M
    rw [f6_addPlace_10_L35]
    refine r_ld (.iload 7) 2 0 7 (.int (a7)) rfl rfl rfl rfl 37 rfl ?_
    refine r_ld (.iload 6) 2 0 6 (.int (a6)) rfl rfl rfl rfl 39 rfl ?_
    refine q_br w_PV (.if_icmp .gt 50) 3 rfl rfl rfl (a6 < a7) 89 42 [] rfl (fun _ => ?_) (fun _ => ?_)
    · refine q_inc w_PV 6 (1) (a6) rfl rfl rfl 92 rfl (1) cd_kj1 (fun x2 => [some (.ref 10), some (.int (a1)), some (.int (a2)), none, some (.int (a4)), some (.int (a5)), some (.int (x2)), some (.int (a7)), none]) (fun _ => rfl) (fun x2 => ?_)
      refine r_go (.goto (-66)) 3 rfl rfl rfl 26 [] rfl ?_
      exact r_w (h26 a1 a2 a4 a5 x2 M) (cd_le_s (cd_le_s (cd_le_s (cd_le_n (cd_le_s (cd_le_s (cd_le_s (cd_le_n (cd_le_n cd_le_0)))))))))
    · refine r_ld (.iload 4) 2 0 4 (.int (a4)) rfl rfl rfl rfl 44 rfl ?_
      refine r_ld (.iload 6) 2 0 6 (.int (a6)) rfl rfl rfl rfl 46 rfl ?_
      refine q_const (.iconst 1) 1 rfl rfl rfl 47 (1) _ rfl cd_kj1 ?_
      refine r_go (.iadd) 1 rfl rfl rfl 48 [.int (a6 + 1), .int (a4)] rfl ?_
      refine q_cTI (.invokestatic 46) rfl rfl rfl 78 [.int (a6 + 1)] [.int (a4)] rfl (k6_firstOfStep (a6 + 1) M) ?_
      refine r_go (.iadd) 1 rfl rfl rfl 52 [.int (a4 + (f6_firstOfStep (a6 + 1) M))] rfl ?_
      refine r_ld (.iload 7) 2 0 7 (.int (a7)) rfl rfl rfl rfl 54 rfl ?_
      refine r_go (.iadd) 1 rfl rfl rfl 55 [.int ((a4 + (f6_firstOfStep (a6 + 1) M)) + a7)] rfl ?_
      refine q_const (.iconst 1) 1 rfl rfl rfl 56 (1) _ rfl cd_kj1 ?_
      refine r_go (.iadd) 1 rfl rfl rfl 57 [.int (((a4 + (f6_firstOfStep (a6 + 1) M)) + a7) + 1)] rfl ?_
      refine q_stB w_PV (.istore 8) 2 0 8 rfl rfl (fun _ => rfl) 59 rfl (fun x3 => [some (.ref 10), some (.int (a1)), some (.int (a2)), none, some (.int (a4)), some (.int (a5)), some (.int (a6)), some (.int (a7)), some (.int (x3))]) (fun _ => rfl) (fun x3 => ?_)
      refine r_ld (.aload_n 0) 1 2 0 (.ref 10) rfl rfl rfl rfl 60 rfl ?_
      refine r_ld (.iload_n 1) 1 0 1 (.int (a1)) rfl rfl rfl rfl 61 rfl ?_
      refine r_ld (.iload 6) 2 0 6 (.int (a6)) rfl rfl rfl rfl 63 rfl ?_
      refine r_ld (.iload 7) 2 0 7 (.int (a7)) rfl rfl rfl rfl 65 rfl ?_
      refine r_ld (.iload 6) 2 0 6 (.int (a6)) rfl rfl rfl rfl 67 rfl ?_
      refine q_const (.iconst 1) 1 rfl rfl rfl 68 (1) _ rfl cd_kj1 ?_
      refine r_go (.iadd) 1 rfl rfl rfl 69 [.int (a6 + 1), .int (a7), .int (a6), .int (a1), .ref 10] rfl ?_
      refine r_ld (.iload_n 2) 1 0 2 (.int (a2)) rfl rfl rfl rfl 70 rfl ?_
      refine q_br w_PV (.if_icmp .ge 8) 3 rfl rfl rfl (a2 ≤ a6 + 1) 78 73 [.int (a7), .int (a6), .int (a1), .ref 10] rfl (fun _ => ?_) (fun _ => ?_)
      · refine r_ld (.iload 5) 2 0 5 (.int (a5)) rfl rfl rfl rfl 80 rfl ?_
        exact r_w (k6_addPlace_10_L80 r26 h26 (f6_addPlace_10_L35 r26 n) ih a1 a2 a4 a5 a6 a7 a5 a7 a6 a1 M) (cd_le_s (cd_le_s (cd_le_s (cd_le_n (cd_le_s (cd_le_s (cd_le_s (cd_le_s (cd_le_n cd_le_0)))))))))
      · refine r_ld (.iload 8) 2 0 8 (.int (x3)) rfl rfl rfl rfl 75 rfl ?_
        refine r_go (.goto 5) 3 rfl rfl rfl 80 [.int (x3), .int (a7), .int (a6), .int (a1), .ref 10] rfl ?_
        exact r_w (k6_addPlace_10_L80 r26 h26 (f6_addPlace_10_L35 r26 n) ih a1 a2 a4 a5 a6 a7 x3 a7 a6 a1 M) (cd_le_s (cd_le_s (cd_le_s (cd_le_n (cd_le_s (cd_le_s (cd_le_s (cd_le_s (cd_le_n cd_le_0)))))))))
def f6_addPlace_10_L26 : Nat → Int32 → Int32 → Int32 → Int32 → Int32 → cd_M → Option cd_M
  | 0, _, _, _, _, _, _ => none
  | n + 1, a1, a2, a4, a5, a6, M => if a2 ≤ a6 then (some M) else (f6_addPlace_10_L35 (f6_addPlace_10_L26 n) cd_fu a1 a2 a4 a5 a6 0 M)
set_option maxRecDepth 8000 in
theorem k6_addPlace_10_L26 : ∀ (n : Nat) (a1 : Int32) (a2 : Int32) (a4 : Int32) (a5 : Int32) (a6 : Int32) (M : cd_M), cd_R 76 26 [some (.ref 10), some (.int (a1)), some (.int (a2)), none, some (.int (a4)), some (.int (a5)), some (.int (a6)), none, none] [] M (w_PV (f6_addPlace_10_L26 n a1 a2 a4 a5 a6 M)) := by
  intro n
  induction n with
  | zero =>
    intro a1 a2 a4 a5 a6 M
    exact q_none w_PV rfl
  | succ n ih =>
    intro a1 a2 a4 a5 a6 M
    rw [f6_addPlace_10_L26]
    refine r_ld (.iload 6) 2 0 6 (.int (a6)) rfl rfl rfl rfl 28 rfl ?_
    refine r_ld (.iload_n 2) 1 0 2 (.int (a2)) rfl rfl rfl rfl 29 rfl ?_
    refine q_br w_PV (.if_icmp .ge 66) 3 rfl rfl rfl (a2 ≤ a6) 95 32 [] rfl (fun _ => ?_) (fun _ => ?_)
    · exact r_ret .return_ 1 rfl rfl rfl _ rfl
    · refine q_const (.iconst 0) 1 rfl rfl rfl 33 (0) _ rfl cd_kj0 ?_
      refine r_st (.istore 7) 2 0 7 rfl rfl rfl 35 rfl [some (.ref 10), some (.int (a1)), some (.int (a2)), none, some (.int (a4)), some (.int (a5)), some (.int (a6)), some (.int (0)), none] rfl ?_
      exact r_w (k6_addPlace_10_L35 (f6_addPlace_10_L26 n) ih cd_fu a1 a2 a4 a5 a6 0 M) (cd_le_s (cd_le_s (cd_le_s (cd_le_n (cd_le_s (cd_le_s (cd_le_s (cd_le_s (cd_le_n cd_le_0)))))))))
def f6_addPlace_10_L21 (a1 : Int32) (a2 : Int32) (a4 : Int32) (s0 : Int32) (M : cd_M) : Option cd_M := f6_addPlace_10_L26 cd_fu a1 a2 a4 s0 0 M
set_option maxRecDepth 8000 in
theorem k6_addPlace_10_L21 (a1 : Int32) (a2 : Int32) (a4 : Int32) (s0 : Int32) (M : cd_M) : cd_R 76 21 [some (.ref 10), some (.int (a1)), some (.int (a2)), none, some (.int (a4)), none, none, none, none] [.int (s0)] M (w_PV (f6_addPlace_10_L21 a1 a2 a4 s0 M)) := by
  unfold f6_addPlace_10_L21
  refine r_st (.istore 5) 2 0 5 rfl rfl rfl 23 rfl [some (.ref 10), some (.int (a1)), some (.int (a2)), none, some (.int (a4)), some (.int (s0)), none, none, none] rfl ?_
  refine q_const (.iconst 0) 1 rfl rfl rfl 24 (0) _ rfl cd_kj0 ?_
  refine r_st (.istore 6) 2 0 6 rfl rfl rfl 26 rfl [some (.ref 10), some (.int (a1)), some (.int (a2)), none, some (.int (a4)), some (.int (s0)), some (.int (0)), none, none] rfl ?_
  exact r_w (k6_addPlace_10_L26 cd_fu a1 a2 a4 s0 0 M) (cd_le_s (cd_le_s (cd_le_s (cd_le_n (cd_le_s (cd_le_s (cd_le_s (cd_le_n (cd_le_n cd_le_0)))))))))
def f6_addPlace_10 (a1 : Int32) (a2 : Int32) (a3 : Int32) (M : cd_M) : Option cd_M := cd_lt (M.1 10 4) fun x1 => if a3 = 0 then (f6_addPlace_10_L21 a1 a2 x1 0 M) else (f6_addPlace_10_L21 a1 a2 x1 (x1 + (f6_firstOfStep a2 M)) M)
set_option maxRecDepth 8000 in
theorem k6_addPlace_10 (a1 : Int32) (a2 : Int32) (a3 : Int32) (M : cd_M) : cd_R 76 0 [some (.ref 10), some (.int (a1)), some (.int (a2)), some (.int (a3)), none, none, none, none, none] [] M (w_PV (f6_addPlace_10 a1 a2 a3 M)) := by
  unfold f6_addPlace_10
  refine r_ld (.aload_n 0) 1 2 0 (.ref 10) rfl rfl rfl rfl 1 rfl ?_
  refine r_go (.getfield 24) 3 rfl rfl rfl 4 [.int (M.1 10 4)] rfl ?_
  refine q_stB w_PV (.istore 4) 2 0 4 rfl rfl (fun _ => rfl) 6 rfl (fun x1 => [some (.ref 10), some (.int (a1)), some (.int (a2)), some (.int (a3)), some (.int (x1)), none, none, none, none]) (fun _ => rfl) (fun x1 => ?_)
  refine r_ld (.iload_n 3) 1 0 3 (.int (a3)) rfl rfl rfl rfl 7 rfl ?_
  refine q_br w_PV (.ifCond .eq 13) 3 rfl rfl rfl (a3 = 0) 20 10 [] rfl (fun _ => ?_) (fun _ => ?_)
  · refine q_const (.iconst 0) 1 rfl rfl rfl 21 (0) _ rfl cd_kj0 ?_
    exact r_w (k6_addPlace_10_L21 a1 a2 x1 0 M) (cd_le_s (cd_le_s (cd_le_s (cd_le_n (cd_le_s (cd_le_n (cd_le_n (cd_le_n (cd_le_n cd_le_0)))))))))
  · refine r_ld (.iload 4) 2 0 4 (.int (x1)) rfl rfl rfl rfl 12 rfl ?_
    refine r_ld (.iload_n 2) 1 0 2 (.int (a2)) rfl rfl rfl rfl 13 rfl ?_
    refine q_cTI (.invokestatic 46) rfl rfl rfl 78 [.int (a2)] [.int (x1)] rfl (k6_firstOfStep a2 M) ?_
    refine r_go (.iadd) 1 rfl rfl rfl 17 [.int (x1 + (f6_firstOfStep a2 M))] rfl ?_
    refine r_go (.goto 4) 3 rfl rfl rfl 21 [.int (x1 + (f6_firstOfStep a2 M))] rfl ?_
    exact r_w (k6_addPlace_10_L21 a1 a2 x1 (x1 + (f6_firstOfStep a2 M)) M) (cd_le_s (cd_le_s (cd_le_s (cd_le_n (cd_le_s (cd_le_n (cd_le_n (cd_le_n (cd_le_n cd_le_0)))))))))
def f6_build_10_6_L43 (r14 : Int32 → Int32 → Int32 → cd_M → Option cd_M) (a2 : Int32) (a3 : Int32) (a4 : Int32) (s0 : Int32) (s1 : Int32) (s2 : Int32) (M : cd_M) : Option cd_M := (f6_addPlace_10 s2 s1 s0 M).bind fun M4 => cd_lt (a4 + (1)) fun x5 => r14 a2 a3 x5 M4
set_option maxRecDepth 8000 in
theorem k6_build_10_6_L43 (r14 : Int32 → Int32 → Int32 → cd_M → Option cd_M) (h14 : ∀ (a2 : Int32) (a3 : Int32) (a4 : Int32) (M : cd_M), cd_R 75 14 [some (.ref 10), some (.ref 6), some (.int (a2)), some (.int (a3)), some (.int (a4))] [] M (w_PV (r14 a2 a3 a4 M))) (a2 : Int32) (a3 : Int32) (a4 : Int32) (s0 : Int32) (s1 : Int32) (s2 : Int32) (M : cd_M) : cd_R 75 43 [some (.ref 10), some (.ref 6), some (.int (a2)), some (.int (a3)), some (.int (a4))] [.int (s0), .int (s1), .int (s2), .ref 10] M (w_PV (f6_build_10_6_L43 r14 a2 a3 a4 s0 s1 s2 M)) := by
  unfold f6_build_10_6_L43
  refine q_cV w_PV rfl (.invokevirtual 42) rfl rfl rfl 76 [.ref 10, .int (s2), .int (s1), .int (s0)] [] rfl (k6_addPlace_10 s2 s1 s0 M) (fun M4 => ?_)
  refine q_inc w_PV 4 (1) (a4) rfl rfl rfl 49 rfl (1) cd_kj1 (fun x5 => [some (.ref 10), some (.ref 6), some (.int (a2)), some (.int (a3)), some (.int (x5))]) (fun _ => rfl) (fun x5 => ?_)
  refine r_go (.goto (-35)) 3 rfl rfl rfl 14 [] rfl ?_
  exact r_w (h14 a2 a3 x5 M4) (cd_le_s (cd_le_s (cd_le_s (cd_le_s (cd_le_s cd_le_0)))))
def f6_build_10_6_L14 : Nat → Int32 → Int32 → Int32 → cd_M → Option cd_M
  | 0, _, _, _, _ => none
  | n + 1, a2, a3, a4, M => if a3 ≤ a4 then (some M) else ((f5_number_6 a2 a4 M).bind fun v3 => if a3 ≤ a4 + 1 then (f6_build_10_6_L43 (f6_build_10_6_L14 n) a2 a3 a4 0 v3 a4 M) else (f6_build_10_6_L43 (f6_build_10_6_L14 n) a2 a3 a4 1 v3 a4 M))
set_option maxRecDepth 8000 in
theorem k6_build_10_6_L14 : ∀ (n : Nat) (a2 : Int32) (a3 : Int32) (a4 : Int32) (M : cd_M), cd_R 75 14 [some (.ref 10), some (.ref 6), some (.int (a2)), some (.int (a3)), some (.int (a4))] [] M (w_PV (f6_build_10_6_L14 n a2 a3 a4 M)) := by
  intro n
  induction n with
  | zero =>
    intro a2 a3 a4 M
    exact q_none w_PV rfl
  | succ n ih =>
    intro a2 a3 a4 M
    rw [f6_build_10_6_L14]
    refine r_ld (.iload 4) 2 0 4 (.int (a4)) rfl rfl rfl rfl 16 rfl ?_
    refine r_ld (.iload_n 3) 1 0 3 (.int (a3)) rfl rfl rfl rfl 17 rfl ?_
    refine q_br w_PV (.if_icmp .ge 35) 3 rfl rfl rfl (a3 ≤ a4) 52 20 [] rfl (fun _ => ?_) (fun _ => ?_)
    · exact r_ret .return_ 1 rfl rfl rfl _ rfl
    · refine r_ld (.aload_n 0) 1 2 0 (.ref 10) rfl rfl rfl rfl 21 rfl ?_
      refine r_ld (.iload 4) 2 0 4 (.int (a4)) rfl rfl rfl rfl 23 rfl ?_
      refine r_ld (.aload_n 1) 1 2 1 (.ref 6) rfl rfl rfl rfl 24 rfl ?_
      refine r_ld (.iload_n 2) 1 0 2 (.int (a2)) rfl rfl rfl rfl 25 rfl ?_
      refine r_ld (.iload 4) 2 0 4 (.int (a4)) rfl rfl rfl rfl 27 rfl ?_
      refine q_cI w_PV rfl (.invokevirtual 38) rfl rfl rfl 64 [.ref 6, .int (a2), .int (a4)] [.int (a4), .ref 10] rfl (k5_number_6 a2 a4 M) (fun v3 => ?_)
      refine r_ld (.iload 4) 2 0 4 (.int (a4)) rfl rfl rfl rfl 32 rfl ?_
      refine q_const (.iconst 1) 1 rfl rfl rfl 33 (1) _ rfl cd_kj1 ?_
      refine r_go (.iadd) 1 rfl rfl rfl 34 [.int (a4 + 1), .int (v3), .int (a4), .ref 10] rfl ?_
      refine r_ld (.iload_n 3) 1 0 3 (.int (a3)) rfl rfl rfl rfl 35 rfl ?_
      refine q_br w_PV (.if_icmp .ge 7) 3 rfl rfl rfl (a3 ≤ a4 + 1) 42 38 [.int (v3), .int (a4), .ref 10] rfl (fun _ => ?_) (fun _ => ?_)
      · refine q_const (.iconst 0) 1 rfl rfl rfl 43 (0) _ rfl cd_kj0 ?_
        exact r_w (k6_build_10_6_L43 (f6_build_10_6_L14 n) ih a2 a3 a4 0 v3 a4 M) (cd_le_s (cd_le_s (cd_le_s (cd_le_s (cd_le_s cd_le_0)))))
      · refine q_const (.iconst 1) 1 rfl rfl rfl 39 (1) _ rfl cd_kj1 ?_
        refine r_go (.goto 4) 3 rfl rfl rfl 43 [.int (1), .int (v3), .int (a4), .ref 10] rfl ?_
        exact r_w (k6_build_10_6_L43 (f6_build_10_6_L14 n) ih a2 a3 a4 1 v3 a4 M) (cd_le_s (cd_le_s (cd_le_s (cd_le_s (cd_le_s cd_le_0)))))
def f6_build_10_6 (a2 : Int32) (M : cd_M) : Option cd_M := cd_lt (cd_wI M 10 4 0) fun M1 => (f5_length_6 a2 M1).bind fun v2 => f6_build_10_6_L14 cd_fu a2 v2 0 M1
set_option maxRecDepth 8000 in
theorem k6_build_10_6 (a2 : Int32) (M : cd_M) : cd_R 75 0 [some (.ref 10), some (.ref 6), some (.int (a2)), none, none] [] M (w_PV (f6_build_10_6 a2 M)) := by
  unfold f6_build_10_6
  refine r_ld (.aload_n 0) 1 2 0 (.ref 10) rfl rfl rfl rfl 1 rfl ?_
  refine q_const (.iconst 0) 1 rfl rfl rfl 2 (0) _ rfl cd_kj0 ?_
  refine q_wr w_PV (.putfield 24) 3 rfl rfl rfl 5 [] (cd_wI M 10 4 0) rfl (fun M1 => ?_)
  refine r_ld (.aload_n 1) 1 2 1 (.ref 6) rfl rfl rfl rfl 6 rfl ?_
  refine r_ld (.iload_n 2) 1 0 2 (.int (a2)) rfl rfl rfl rfl 7 rfl ?_
  refine q_cI w_PV rfl (.invokevirtual 32) rfl rfl rfl 62 [.ref 6, .int (a2)] [] rfl (k5_length_6 a2 M1) (fun v2 => ?_)
  refine r_st (.istore_n 3) 1 0 3 rfl rfl rfl 11 rfl [some (.ref 10), some (.ref 6), some (.int (a2)), some (.int (v2)), none] rfl ?_
  refine q_const (.iconst 0) 1 rfl rfl rfl 12 (0) _ rfl cd_kj0 ?_
  refine r_st (.istore 4) 2 0 4 rfl rfl rfl 14 rfl [some (.ref 10), some (.ref 6), some (.int (a2)), some (.int (v2)), some (.int (0))] rfl ?_
  exact r_w (k6_build_10_6_L14 cd_fu a2 v2 0 M1) (cd_le_s (cd_le_s (cd_le_s (cd_le_s (cd_le_s cd_le_0)))))
def f6_has_10 (a1 : Int32) (M : cd_M) : Int32 := if a1 < 0 then (0) else (if M.1 10 4 ≤ a1 then (0) else (1))
set_option maxRecDepth 8000 in
theorem k6_has_10 (a1 : Int32) (M : cd_M) : cd_R 74 0 [some (.ref 10), some (.int (a1))] [] M ((w_TI M) (f6_has_10 a1 M)) := by
  unfold f6_has_10
  refine r_ld (.iload_n 1) 1 0 1 (.int (a1)) rfl rfl rfl rfl 1 rfl ?_
  refine q_br (w_TI M) (.ifCond .lt 15) 3 rfl rfl rfl (a1 < 0) 16 4 [] rfl (fun _ => ?_) (fun _ => ?_)
  · refine q_const (.iconst 0) 1 rfl rfl rfl 17 (0) _ rfl cd_kj0 ?_
    exact r_retZ rfl rfl (by decide)
  · refine r_ld (.iload_n 1) 1 0 1 (.int (a1)) rfl rfl rfl rfl 5 rfl ?_
    refine r_ld (.aload_n 0) 1 2 0 (.ref 10) rfl rfl rfl rfl 6 rfl ?_
    refine r_go (.getfield 24) 3 rfl rfl rfl 9 [.int (M.1 10 4), .int (a1)] rfl ?_
    refine q_br (w_TI M) (.if_icmp .ge 7) 3 rfl rfl rfl (M.1 10 4 ≤ a1) 16 12 [] rfl (fun _ => ?_) (fun _ => ?_)
    · refine q_const (.iconst 0) 1 rfl rfl rfl 17 (0) _ rfl cd_kj0 ?_
      exact r_retZ rfl rfl (by decide)
    · refine q_const (.iconst 1) 1 rfl rfl rfl 13 (1) _ rfl cd_kj1 ?_
      refine r_go (.goto 4) 3 rfl rfl rfl 17 [.int (1)] rfl ?_
      exact r_retZ rfl rfl (by decide)
def f6_place_10 (a1 : Int32) (M : cd_M) : Option (Int32) := if f6_has_10 a1 M = 0 then (some 0) else (if cd_in a1 90 = true then (some (M.1 39 a1.toNatClampNeg)) else none)
set_option maxRecDepth 8000 in
theorem k6_place_10 (a1 : Int32) (M : cd_M) : cd_R 70 0 [some (.ref 10), some (.int (a1))] [] M ((w_PI M) (f6_place_10 a1 M)) := by
  unfold f6_place_10
  refine r_ld (.aload_n 0) 1 2 0 (.ref 10) rfl rfl rfl rfl 1 rfl ?_
  refine r_ld (.iload_n 1) 1 0 1 (.int (a1)) rfl rfl rfl rfl 2 rfl ?_
  refine q_cTIz (.invokevirtual 28) rfl rfl rfl 74 rfl [.ref 10, .int (a1)] [] rfl (k6_has_10 a1 M) (fun z1 => ?_)
  refine q_br (w_PI M) (.ifCond .eq 12) 3 rfl rfl rfl (f6_has_10 a1 M = 0) 17 8 [] rfl (fun _ => ?_) (fun _ => ?_)
  · refine q_const (.iconst 0) 1 rfl rfl rfl 18 (0) _ rfl cd_kj0 ?_
    exact r_ret .ireturn 1 rfl rfl rfl _ rfl
  · refine r_ld (.aload_n 0) 1 2 0 (.ref 10) rfl rfl rfl rfl 9 rfl ?_
    refine r_go (.getfield 9) 3 rfl rfl rfl 12 [.ref 39] rfl ?_
    refine r_ld (.iload_n 1) 1 0 1 (.int (a1)) rfl rfl rfl rfl 13 rfl ?_
    refine q_iald (w_PI M) rfl rfl 39 90 rfl ?_
    refine r_go (.goto 4) 3 rfl rfl rfl 18 [.int (M.1 39 a1.toNatClampNeg)] rfl ?_
    exact r_ret .ireturn 1 rfl rfl rfl _ rfl
def f6_step_10 (a1 : Int32) (M : cd_M) : Option (Int32) := if f6_has_10 a1 M = 0 then (some 0) else (if cd_in a1 90 = true then (some (M.1 40 a1.toNatClampNeg)) else none)
set_option maxRecDepth 8000 in
theorem k6_step_10 (a1 : Int32) (M : cd_M) : cd_R 71 0 [some (.ref 10), some (.int (a1))] [] M ((w_PI M) (f6_step_10 a1 M)) := by
  unfold f6_step_10
  refine r_ld (.aload_n 0) 1 2 0 (.ref 10) rfl rfl rfl rfl 1 rfl ?_
  refine r_ld (.iload_n 1) 1 0 1 (.int (a1)) rfl rfl rfl rfl 2 rfl ?_
  refine q_cTIz (.invokevirtual 28) rfl rfl rfl 74 rfl [.ref 10, .int (a1)] [] rfl (k6_has_10 a1 M) (fun z1 => ?_)
  refine q_br (w_PI M) (.ifCond .eq 12) 3 rfl rfl rfl (f6_has_10 a1 M = 0) 17 8 [] rfl (fun _ => ?_) (fun _ => ?_)
  · refine q_const (.iconst 0) 1 rfl rfl rfl 18 (0) _ rfl cd_kj0 ?_
    exact r_ret .ireturn 1 rfl rfl rfl _ rfl
  · refine r_ld (.aload_n 0) 1 2 0 (.ref 10) rfl rfl rfl rfl 9 rfl ?_
    refine r_go (.getfield 15) 3 rfl rfl rfl 12 [.ref 40] rfl ?_
    refine r_ld (.iload_n 1) 1 0 1 (.int (a1)) rfl rfl rfl rfl 13 rfl ?_
    refine q_iald (w_PI M) rfl rfl 40 90 rfl ?_
    refine r_go (.goto 4) 3 rfl rfl rfl 18 [.int (M.1 40 a1.toNatClampNeg)] rfl ?_
    exact r_ret .ireturn 1 rfl rfl rfl _ rfl
def f4_parity_7 (a1 : Int32) (M : cd_M) : Option (Int32) := if f4_has_7 a1 M = 0 then (some 0) else (if cd_in a1 90 = true then (some ((((M.2 28 a1.toNatClampNeg : Int64).toUInt64 >>> ((42 : Int32).toInt64.toUInt64 &&& Int64.toUInt64 63)).toInt64).toInt32)) else none)
set_option maxRecDepth 8000 in
theorem k4_parity_7 (a1 : Int32) (M : cd_M) : cd_R 46 0 [some (.ref 7), some (.int (a1))] [] M ((w_PI M) (f4_parity_7 a1 M)) := by
  unfold f4_parity_7
  refine r_ld (.aload_n 0) 1 2 0 (.ref 7) rfl rfl rfl rfl 1 rfl ?_
  refine r_ld (.iload_n 1) 1 0 1 (.int (a1)) rfl rfl rfl rfl 2 rfl ?_
  refine q_cTIz (.invokevirtual 19) rfl rfl rfl 43 rfl [.ref 7, .int (a1)] [] rfl (k4_has_7 a1 M) (fun z1 => ?_)
  refine q_br (w_PI M) (.ifCond .eq 16) 3 rfl rfl rfl (f4_has_7 a1 M = 0) 21 8 [] rfl (fun _ => ?_) (fun _ => ?_)
  · refine q_const (.iconst 0) 1 rfl rfl rfl 22 (0) _ rfl cd_kj0 ?_
    exact r_ret .ireturn 1 rfl rfl rfl _ rfl
  · refine r_ld (.aload_n 0) 1 2 0 (.ref 7) rfl rfl rfl rfl 9 rfl ?_
    refine r_go (.getfield 11) 3 rfl rfl rfl 12 [.ref 28] rfl ?_
    refine r_ld (.iload_n 1) 1 0 1 (.int (a1)) rfl rfl rfl rfl 13 rfl ?_
    refine q_lald (w_PI M) rfl rfl 28 90 rfl ?_
    refine q_const (.bipush 42) 2 rfl rfl rfl 16 (42) _ rfl cd_kc42 ?_
    refine r_go (.lushr) 1 rfl rfl rfl 17 [.long (((M.2 28 a1.toNatClampNeg : Int64).toUInt64 >>> ((42 : Int32).toInt64.toUInt64 &&& Int64.toUInt64 63)).toInt64)] rfl ?_
    refine r_go (.l2i) 1 rfl rfl rfl 18 [.int ((((M.2 28 a1.toNatClampNeg : Int64).toUInt64 >>> ((42 : Int32).toInt64.toUInt64 &&& Int64.toUInt64 63)).toInt64).toInt32)] rfl ?_
    refine r_go (.goto 4) 3 rfl rfl rfl 22 [.int ((((M.2 28 a1.toNatClampNeg : Int64).toUInt64 >>> ((42 : Int32).toInt64.toUInt64 &&& Int64.toUInt64 63)).toInt64).toInt32)] rfl ?_
    exact r_ret .ireturn 1 rfl rfl rfl _ rfl
def f5_costOfFresh_6_7 (a2 : Int32) (M : cd_M) : Option (Int32) := if f4_has_7 (a2 - 2) M = 0 then (some 0) else ((f4_parity_7 a2 M).bind fun v2 => (f4_parity_7 (a2 - 2) M).bind fun v3 => if v2 = v3 then ((f4_row_7 a2 M).bind fun v4 => (f4_row_7 (a2 - 2) M).bind fun v5 => (f5_distance_6 v4 v5 M).bind fun v6 => if cd_in 0 5 = true then (if M.1 27 (0 : Int32).toNatClampNeg < v6 then (some 0) else (if cd_in 2 5 = true then (some (M.1 27 (2 : Int32).toNatClampNeg)) else none)) else none) else (some 0))
set_option maxRecDepth 8000 in
theorem k5_costOfFresh_6_7 (a2 : Int32) (M : cd_M) : cd_R 68 0 [some (.ref 6), some (.ref 7), some (.int (a2)), none] [] M ((w_PI M) (f5_costOfFresh_6_7 a2 M)) := by
  unfold f5_costOfFresh_6_7
  refine r_ld (.aload_n 1) 1 2 1 (.ref 7) rfl rfl rfl rfl 1 rfl ?_
  refine r_ld (.iload_n 2) 1 0 2 (.int (a2)) rfl rfl rfl rfl 2 rfl ?_
  refine q_const (.iconst 2) 1 rfl rfl rfl 3 (2) _ rfl cd_kj2 ?_
  refine r_go (.isub) 1 rfl rfl rfl 4 [.int (a2 - 2), .ref 7] rfl ?_
  refine q_cTIz (.invokevirtual 66) rfl rfl rfl 43 rfl [.ref 7, .int (a2 - 2)] [] rfl (k4_has_7 (a2 - 2) M) (fun z1 => ?_)
  refine q_br (w_PI M) (.ifCond .eq 18) 3 rfl rfl rfl (f4_has_7 (a2 - 2) M = 0) 25 10 [] rfl (fun _ => ?_) (fun _ => ?_)
  · refine q_const (.iconst 0) 1 rfl rfl rfl 26 (0) _ rfl cd_kj0 ?_
    exact r_ret .ireturn 1 rfl rfl rfl _ rfl
  · refine r_ld (.aload_n 1) 1 2 1 (.ref 7) rfl rfl rfl rfl 11 rfl ?_
    refine r_ld (.iload_n 2) 1 0 2 (.int (a2)) rfl rfl rfl rfl 12 rfl ?_
    refine q_cI (w_PI M) rfl (.invokevirtual 82) rfl rfl rfl 46 [.ref 7, .int (a2)] [] rfl (k4_parity_7 a2 M) (fun v2 => ?_)
    refine r_ld (.aload_n 1) 1 2 1 (.ref 7) rfl rfl rfl rfl 16 rfl ?_
    refine r_ld (.iload_n 2) 1 0 2 (.int (a2)) rfl rfl rfl rfl 17 rfl ?_
    refine q_const (.iconst 2) 1 rfl rfl rfl 18 (2) _ rfl cd_kj2 ?_
    refine r_go (.isub) 1 rfl rfl rfl 19 [.int (a2 - 2), .ref 7, .int (v2)] rfl ?_
    refine q_cI (w_PI M) rfl (.invokevirtual 82) rfl rfl rfl 46 [.ref 7, .int (a2 - 2)] [.int (v2)] rfl (k4_parity_7 (a2 - 2) M) (fun v3 => ?_)
    refine q_br (w_PI M) (.if_icmp .eq 5) 3 rfl rfl rfl (v2 = v3) 27 25 [] rfl (fun _ => ?_) (fun _ => ?_)
    · refine r_ld (.aload_n 0) 1 2 0 (.ref 6) rfl rfl rfl rfl 28 rfl ?_
      refine r_ld (.aload_n 1) 1 2 1 (.ref 7) rfl rfl rfl rfl 29 rfl ?_
      refine r_ld (.iload_n 2) 1 0 2 (.int (a2)) rfl rfl rfl rfl 30 rfl ?_
      refine q_cL (w_PI M) rfl (.invokevirtual 71) rfl rfl rfl 45 [.ref 7, .int (a2)] [.ref 6] rfl (k4_row_7 a2 M) (fun v4 => ?_)
      refine r_ld (.aload_n 1) 1 2 1 (.ref 7) rfl rfl rfl rfl 34 rfl ?_
      refine r_ld (.iload_n 2) 1 0 2 (.int (a2)) rfl rfl rfl rfl 35 rfl ?_
      refine q_const (.iconst 2) 1 rfl rfl rfl 36 (2) _ rfl cd_kj2 ?_
      refine r_go (.isub) 1 rfl rfl rfl 37 [.int (a2 - 2), .ref 7, .long (v4), .ref 6] rfl ?_
      refine q_cL (w_PI M) rfl (.invokevirtual 71) rfl rfl rfl 45 [.ref 7, .int (a2 - 2)] [.long (v4), .ref 6] rfl (k4_row_7 (a2 - 2) M) (fun v5 => ?_)
      refine q_cI (w_PI M) rfl (.invokevirtual 75) rfl rfl rfl 66 [.ref 6, .long (v4), .long (v5)] [] rfl (k5_distance_6 v4 v5 M) (fun v6 => ?_)
      refine r_st (.istore_n 3) 1 0 3 rfl rfl rfl 44 rfl [some (.ref 6), some (.ref 7), some (.int (a2)), some (.int (v6))] rfl ?_
      refine r_ld (.iload_n 3) 1 0 3 (.int (v6)) rfl rfl rfl rfl 45 rfl ?_
      refine r_ld (.aload_n 0) 1 2 0 (.ref 6) rfl rfl rfl rfl 46 rfl ?_
      refine r_go (.getfield 18) 3 rfl rfl rfl 49 [.ref 27, .int (v6)] rfl ?_
      refine q_const (.iconst 0) 1 rfl rfl rfl 50 (0) _ rfl cd_kj0 ?_
      refine q_iald (w_PI M) rfl rfl 27 5 rfl ?_
      refine q_br (w_PI M) (.if_icmp .gt 12) 3 rfl rfl rfl (M.1 27 (0 : Int32).toNatClampNeg < v6) 63 54 [] rfl (fun _ => ?_) (fun _ => ?_)
      · refine q_const (.iconst 0) 1 rfl rfl rfl 64 (0) _ rfl cd_kj0 ?_
        exact r_ret .ireturn 1 rfl rfl rfl _ rfl
      · refine r_ld (.aload_n 0) 1 2 0 (.ref 6) rfl rfl rfl rfl 55 rfl ?_
        refine r_go (.getfield 18) 3 rfl rfl rfl 58 [.ref 27] rfl ?_
        refine q_const (.iconst 2) 1 rfl rfl rfl 59 (2) _ rfl cd_kj2 ?_
        refine q_iald (w_PI M) rfl rfl 27 5 rfl ?_
        refine r_go (.goto 4) 3 rfl rfl rfl 64 [.int (M.1 27 (2 : Int32).toNatClampNeg)] rfl ?_
        exact r_ret .ireturn 1 rfl rfl rfl _ rfl
    · refine q_const (.iconst 0) 1 rfl rfl rfl 26 (0) _ rfl cd_kj0 ?_
      exact r_ret .ireturn 1 rfl rfl rfl _ rfl
def f5_costOfRepeat_6_7 (a2 : Int32) (M : cd_M) : Option (Int32) := if f4_has_7 (a2 - 2) M = 0 then (some 0) else ((f4_row_7 a2 M).bind fun v2 => (f4_row_7 (a2 - 2) M).bind fun v3 => (f5_distance_6 v2 v3 M).bind fun v4 => if cd_in 0 5 = true then (if M.1 27 (0 : Int32).toNatClampNeg < v4 then (some (if 999 < v4 then 999 else v4)) else (some 0)) else none)
set_option maxRecDepth 8000 in
theorem k5_costOfRepeat_6_7 (a2 : Int32) (M : cd_M) : cd_R 67 0 [some (.ref 6), some (.ref 7), some (.int (a2)), none] [] M ((w_PI M) (f5_costOfRepeat_6_7 a2 M)) := by
  unfold f5_costOfRepeat_6_7
  refine r_ld (.aload_n 1) 1 2 1 (.ref 7) rfl rfl rfl rfl 1 rfl ?_
  refine r_ld (.iload_n 2) 1 0 2 (.int (a2)) rfl rfl rfl rfl 2 rfl ?_
  refine q_const (.iconst 2) 1 rfl rfl rfl 3 (2) _ rfl cd_kj2 ?_
  refine r_go (.isub) 1 rfl rfl rfl 4 [.int (a2 - 2), .ref 7] rfl ?_
  refine q_cTIz (.invokevirtual 66) rfl rfl rfl 43 rfl [.ref 7, .int (a2 - 2)] [] rfl (k4_has_7 (a2 - 2) M) (fun z1 => ?_)
  refine q_br (w_PI M) (.ifCond .ne 5) 3 rfl rfl rfl (f4_has_7 (a2 - 2) M = 0) 10 12 [] rfl (fun _ => ?_) (fun _ => ?_)
  · refine q_const (.iconst 0) 1 rfl rfl rfl 11 (0) _ rfl cd_kj0 ?_
    exact r_ret .ireturn 1 rfl rfl rfl _ rfl
  · refine r_ld (.aload_n 0) 1 2 0 (.ref 6) rfl rfl rfl rfl 13 rfl ?_
    refine r_ld (.aload_n 1) 1 2 1 (.ref 7) rfl rfl rfl rfl 14 rfl ?_
    refine r_ld (.iload_n 2) 1 0 2 (.int (a2)) rfl rfl rfl rfl 15 rfl ?_
    refine q_cL (w_PI M) rfl (.invokevirtual 71) rfl rfl rfl 45 [.ref 7, .int (a2)] [.ref 6] rfl (k4_row_7 a2 M) (fun v2 => ?_)
    refine r_ld (.aload_n 1) 1 2 1 (.ref 7) rfl rfl rfl rfl 19 rfl ?_
    refine r_ld (.iload_n 2) 1 0 2 (.int (a2)) rfl rfl rfl rfl 20 rfl ?_
    refine q_const (.iconst 2) 1 rfl rfl rfl 21 (2) _ rfl cd_kj2 ?_
    refine r_go (.isub) 1 rfl rfl rfl 22 [.int (a2 - 2), .ref 7, .long (v2), .ref 6] rfl ?_
    refine q_cL (w_PI M) rfl (.invokevirtual 71) rfl rfl rfl 45 [.ref 7, .int (a2 - 2)] [.long (v2), .ref 6] rfl (k4_row_7 (a2 - 2) M) (fun v3 => ?_)
    refine q_cI (w_PI M) rfl (.invokevirtual 75) rfl rfl rfl 66 [.ref 6, .long (v2), .long (v3)] [] rfl (k5_distance_6 v2 v3 M) (fun v4 => ?_)
    refine r_st (.istore_n 3) 1 0 3 rfl rfl rfl 29 rfl [some (.ref 6), some (.ref 7), some (.int (a2)), some (.int (v4))] rfl ?_
    refine r_ld (.iload_n 3) 1 0 3 (.int (v4)) rfl rfl rfl rfl 30 rfl ?_
    refine r_ld (.aload_n 0) 1 2 0 (.ref 6) rfl rfl rfl rfl 31 rfl ?_
    refine r_go (.getfield 18) 3 rfl rfl rfl 34 [.ref 27, .int (v4)] rfl ?_
    refine q_const (.iconst 0) 1 rfl rfl rfl 35 (0) _ rfl cd_kj0 ?_
    refine q_iald (w_PI M) rfl rfl 27 5 rfl ?_
    refine q_br (w_PI M) (.if_icmp .gt 7) 3 rfl rfl rfl (M.1 27 (0 : Int32).toNatClampNeg < v4) 43 39 [] rfl (fun _ => ?_) (fun _ => ?_)
    · refine r_ld (.iload_n 3) 1 0 3 (.int (v4)) rfl rfl rfl rfl 44 rfl ?_
      refine q_const (.sipush 999) 3 rfl rfl rfl 47 (999) _ rfl cd_kt999 ?_
      refine r_go (.invokestatic 79) 3 rfl rfl rfl 50 [.int (if 999 < v4 then 999 else v4)] rfl ?_
      exact r_ret .ireturn 1 rfl rfl rfl _ rfl
    · refine q_const (.iconst 0) 1 rfl rfl rfl 40 (0) _ rfl cd_kj0 ?_
      refine r_go (.goto 10) 3 rfl rfl rfl 50 [.int (0)] rfl ?_
      exact r_ret .ireturn 1 rfl rfl rfl _ rfl
def f5_value_6 (a1 : Int32) (M : cd_M) : Option (Int32) := if a1 < 0 then (some 0) else (if 5 ≤ a1 then (some 0) else (if cd_in a1 5 = true then (some (M.1 27 a1.toNatClampNeg)) else none))
set_option maxRecDepth 8000 in
theorem k5_value_6 (a1 : Int32) (M : cd_M) : cd_R 65 0 [some (.ref 6), some (.int (a1))] [] M ((w_PI M) (f5_value_6 a1 M)) := by
  unfold f5_value_6
  refine r_ld (.iload_n 1) 1 0 1 (.int (a1)) rfl rfl rfl rfl 1 rfl ?_
  refine q_br (w_PI M) (.ifCond .lt 17) 3 rfl rfl rfl (a1 < 0) 18 4 [] rfl (fun _ => ?_) (fun _ => ?_)
  · refine q_const (.iconst 0) 1 rfl rfl rfl 19 (0) _ rfl cd_kj0 ?_
    exact r_ret .ireturn 1 rfl rfl rfl _ rfl
  · refine r_ld (.iload_n 1) 1 0 1 (.int (a1)) rfl rfl rfl rfl 5 rfl ?_
    refine q_const (.iconst 5) 1 rfl rfl rfl 6 (5) _ rfl cd_kj5 ?_
    refine q_br (w_PI M) (.if_icmp .ge 12) 3 rfl rfl rfl (5 ≤ a1) 18 9 [] rfl (fun _ => ?_) (fun _ => ?_)
    · refine q_const (.iconst 0) 1 rfl rfl rfl 19 (0) _ rfl cd_kj0 ?_
      exact r_ret .ireturn 1 rfl rfl rfl _ rfl
    · refine r_ld (.aload_n 0) 1 2 0 (.ref 6) rfl rfl rfl rfl 10 rfl ?_
      refine r_go (.getfield 18) 3 rfl rfl rfl 13 [.ref 27] rfl ?_
      refine r_ld (.iload_n 1) 1 0 1 (.int (a1)) rfl rfl rfl rfl 14 rfl ?_
      refine q_iald (w_PI M) rfl rfl 27 5 rfl ?_
      refine r_go (.goto 4) 3 rfl rfl rfl 19 [.int (M.1 27 a1.toNatClampNeg)] rfl ?_
      exact r_ret .ireturn 1 rfl rfl rfl _ rfl
def f6_size_10 (M : cd_M) : Int32 := (M.1 10 4)
set_option maxRecDepth 8000 in
theorem k6_size_10 (M : cd_M) : cd_R 69 0 [some (.ref 10)] [] M ((w_TI M) (f6_size_10 M)) := by
  unfold f6_size_10
  refine r_ld (.aload_n 0) 1 2 0 (.ref 10) rfl rfl rfl rfl 1 rfl ?_
  refine r_go (.getfield 24) 3 rfl rfl rfl 4 [.int (M.1 10 4)] rfl ?_
  exact r_ret .ireturn 1 rfl rfl rfl _ rfl
def f6_seen_10 (a1 : Int32) (M : cd_M) : Option (Int32) := if f6_has_10 a1 M = 0 then (some 0) else (if cd_in a1 90 = true then (some (M.1 41 a1.toNatClampNeg)) else none)
set_option maxRecDepth 8000 in
theorem k6_seen_10 (a1 : Int32) (M : cd_M) : cd_R 72 0 [some (.ref 10), some (.int (a1))] [] M ((w_PI M) (f6_seen_10 a1 M)) := by
  unfold f6_seen_10
  refine r_ld (.aload_n 0) 1 2 0 (.ref 10) rfl rfl rfl rfl 1 rfl ?_
  refine r_ld (.iload_n 1) 1 0 1 (.int (a1)) rfl rfl rfl rfl 2 rfl ?_
  refine q_cTIz (.invokevirtual 28) rfl rfl rfl 74 rfl [.ref 10, .int (a1)] [] rfl (k6_has_10 a1 M) (fun z1 => ?_)
  refine q_br (w_PI M) (.ifCond .eq 12) 3 rfl rfl rfl (f6_has_10 a1 M = 0) 17 8 [] rfl (fun _ => ?_) (fun _ => ?_)
  · refine q_const (.iconst 0) 1 rfl rfl rfl 18 (0) _ rfl cd_kj0 ?_
    exact r_ret .ireturn 1 rfl rfl rfl _ rfl
  · refine r_ld (.aload_n 0) 1 2 0 (.ref 10) rfl rfl rfl rfl 9 rfl ?_
    refine r_go (.getfield 18) 3 rfl rfl rfl 12 [.ref 41] rfl ?_
    refine r_ld (.iload_n 1) 1 0 1 (.int (a1)) rfl rfl rfl rfl 13 rfl ?_
    refine q_iald (w_PI M) rfl rfl 41 90 rfl ?_
    refine r_go (.goto 4) 3 rfl rfl rfl 18 [.int (M.1 41 a1.toNatClampNeg)] rfl ?_
    exact r_ret .ireturn 1 rfl rfl rfl _ rfl
def f6_next_10 (a1 : Int32) (M : cd_M) : Option (Int32) := if f6_has_10 a1 M = 0 then (some 0) else (if cd_in a1 90 = true then (some (M.1 42 a1.toNatClampNeg)) else none)
set_option maxRecDepth 8000 in
theorem k6_next_10 (a1 : Int32) (M : cd_M) : cd_R 73 0 [some (.ref 10), some (.int (a1))] [] M ((w_PI M) (f6_next_10 a1 M)) := by
  unfold f6_next_10
  refine r_ld (.aload_n 0) 1 2 0 (.ref 10) rfl rfl rfl rfl 1 rfl ?_
  refine r_ld (.iload_n 1) 1 0 1 (.int (a1)) rfl rfl rfl rfl 2 rfl ?_
  refine q_cTIz (.invokevirtual 28) rfl rfl rfl 74 rfl [.ref 10, .int (a1)] [] rfl (k6_has_10 a1 M) (fun z1 => ?_)
  refine q_br (w_PI M) (.ifCond .eq 12) 3 rfl rfl rfl (f6_has_10 a1 M = 0) 17 8 [] rfl (fun _ => ?_) (fun _ => ?_)
  · refine q_const (.iconst 0) 1 rfl rfl rfl 18 (0) _ rfl cd_kj0 ?_
    exact r_ret .ireturn 1 rfl rfl rfl _ rfl
  · refine r_ld (.aload_n 0) 1 2 0 (.ref 10) rfl rfl rfl rfl 9 rfl ?_
    refine r_go (.getfield 21) 3 rfl rfl rfl 12 [.ref 42] rfl ?_
    refine r_ld (.iload_n 1) 1 0 1 (.int (a1)) rfl rfl rfl rfl 13 rfl ?_
    refine q_iald (w_PI M) rfl rfl 42 90 rfl ?_
    refine r_go (.goto 4) 3 rfl rfl rfl 18 [.int (M.1 42 a1.toNatClampNeg)] rfl ?_
    exact r_ret .ireturn 1 rfl rfl rfl _ rfl
def f0_entry_9 (a1 : Int32) (M : cd_M) : Option (Int32) := if a1 < 0 then (some 0) else (if 90 ≤ a1 then (some 0) else (if cd_in a1 90 = true then (some (M.1 34 a1.toNatClampNeg)) else none))
set_option maxRecDepth 8000 in
theorem k0_entry_9 (a1 : Int32) (M : cd_M) : cd_R 5 0 [some (.ref 9), some (.int (a1))] [] M ((w_PI M) (f0_entry_9 a1 M)) := by
  unfold f0_entry_9
  refine r_ld (.iload_n 1) 1 0 1 (.int (a1)) rfl rfl rfl rfl 1 rfl ?_
  refine q_br (w_PI M) (.ifCond .lt 18) 3 rfl rfl rfl (a1 < 0) 19 4 [] rfl (fun _ => ?_) (fun _ => ?_)
  · refine q_const (.iconst 0) 1 rfl rfl rfl 20 (0) _ rfl cd_kj0 ?_
    exact r_ret .ireturn 1 rfl rfl rfl _ rfl
  · refine r_ld (.iload_n 1) 1 0 1 (.int (a1)) rfl rfl rfl rfl 5 rfl ?_
    refine q_const (.bipush 90) 2 rfl rfl rfl 7 (90) _ rfl cd_kc90 ?_
    refine q_br (w_PI M) (.if_icmp .ge 12) 3 rfl rfl rfl (90 ≤ a1) 19 10 [] rfl (fun _ => ?_) (fun _ => ?_)
    · refine q_const (.iconst 0) 1 rfl rfl rfl 20 (0) _ rfl cd_kj0 ?_
      exact r_ret .ireturn 1 rfl rfl rfl _ rfl
    · refine r_ld (.aload_n 0) 1 2 0 (.ref 9) rfl rfl rfl rfl 11 rfl ?_
      refine r_go (.getfield 29) 3 rfl rfl rfl 14 [.ref 34] rfl ?_
      refine r_ld (.iload_n 1) 1 0 1 (.int (a1)) rfl rfl rfl rfl 15 rfl ?_
      refine q_iald (w_PI M) rfl rfl 34 90 rfl ?_
      refine r_go (.goto 4) 3 rfl rfl rfl 20 [.int (M.1 34 a1.toNatClampNeg)] rfl ?_
      exact r_ret .ireturn 1 rfl rfl rfl _ rfl
def f0_isBetterOn_9 (a1 : Int32) (a2 : Int32) (a3 : Int32) (M : cd_M) : Option (Int32) := if a1 < 0 then (some 0) else (if a1 < 90 then (if cd_in a1 90 = true then (cd_lt (M.1 32 a1.toNatClampNeg) fun x1 => if x1 < a2 then (some 1) else (if x1 = a2 then ((f0_entry_9 a3 M).bind fun v2 => if v2 ≤ a1 then (some 0) else (some 1)) else (some 0))) else none) else (some 0))
set_option maxRecDepth 8000 in
theorem k0_isBetterOn_9 (a1 : Int32) (a2 : Int32) (a3 : Int32) (M : cd_M) : cd_R 9 0 [some (.ref 9), some (.int (a1)), some (.int (a2)), some (.int (a3)), none] [] M ((w_PI M) (f0_isBetterOn_9 a1 a2 a3 M)) := by
  unfold f0_isBetterOn_9
  refine r_ld (.iload_n 1) 1 0 1 (.int (a1)) rfl rfl rfl rfl 1 rfl ?_
  refine q_br (w_PI M) (.ifCond .lt 9) 3 rfl rfl rfl (a1 < 0) 10 4 [] rfl (fun _ => ?_) (fun _ => ?_)
  · refine q_const (.iconst 0) 1 rfl rfl rfl 11 (0) _ rfl cd_kj0 ?_
    exact r_retZ rfl rfl (by decide)
  · refine r_ld (.iload_n 1) 1 0 1 (.int (a1)) rfl rfl rfl rfl 5 rfl ?_
    refine q_const (.bipush 90) 2 rfl rfl rfl 7 (90) _ rfl cd_kc90 ?_
    refine q_br (w_PI M) (.if_icmp .lt 5) 3 rfl rfl rfl (a1 < 90) 12 10 [] rfl (fun _ => ?_) (fun _ => ?_)
    · refine r_ld (.aload_n 0) 1 2 0 (.ref 9) rfl rfl rfl rfl 13 rfl ?_
      refine r_go (.getfield 22) 3 rfl rfl rfl 16 [.ref 32] rfl ?_
      refine r_ld (.iload_n 1) 1 0 1 (.int (a1)) rfl rfl rfl rfl 17 rfl ?_
      refine q_iald (w_PI M) rfl rfl 32 90 rfl ?_
      refine q_stB (w_PI M) (.istore 4) 2 0 4 rfl rfl (fun _ => rfl) 20 rfl (fun x1 => [some (.ref 9), some (.int (a1)), some (.int (a2)), some (.int (a3)), some (.int (x1))]) (fun _ => rfl) (fun x1 => ?_)
      refine r_ld (.iload 4) 2 0 4 (.int (x1)) rfl rfl rfl rfl 22 rfl ?_
      refine r_ld (.iload_n 2) 1 0 2 (.int (a2)) rfl rfl rfl rfl 23 rfl ?_
      refine q_br (w_PI M) (.if_icmp .lt 18) 3 rfl rfl rfl (x1 < a2) 41 26 [] rfl (fun _ => ?_) (fun _ => ?_)
      · refine q_const (.iconst 1) 1 rfl rfl rfl 42 (1) _ rfl cd_kj1 ?_
        refine r_go (.goto 4) 3 rfl rfl rfl 46 [.int (1)] rfl ?_
        exact r_retZ rfl rfl (by decide)
      · refine r_ld (.iload 4) 2 0 4 (.int (x1)) rfl rfl rfl rfl 28 rfl ?_
        refine r_ld (.iload_n 2) 1 0 2 (.int (a2)) rfl rfl rfl rfl 29 rfl ?_
        refine q_br (w_PI M) (.if_icmp .ne 16) 3 rfl rfl rfl (x1 = a2) 32 45 [] rfl (fun _ => ?_) (fun _ => ?_)
        · refine r_ld (.iload_n 1) 1 0 1 (.int (a1)) rfl rfl rfl rfl 33 rfl ?_
          refine r_ld (.aload_n 0) 1 2 0 (.ref 9) rfl rfl rfl rfl 34 rfl ?_
          refine r_ld (.iload_n 3) 1 0 3 (.int (a3)) rfl rfl rfl rfl 35 rfl ?_
          refine q_cI (w_PI M) rfl (.invokevirtual 108) rfl rfl rfl 5 [.ref 9, .int (a3)] [.int (a1)] rfl (k0_entry_9 a3 M) (fun v2 => ?_)
          refine q_br (w_PI M) (.if_icmp .ge 7) 3 rfl rfl rfl (v2 ≤ a1) 45 41 [] rfl (fun _ => ?_) (fun _ => ?_)
          · refine q_const (.iconst 0) 1 rfl rfl rfl 46 (0) _ rfl cd_kj0 ?_
            exact r_retZ rfl rfl (by decide)
          · refine q_const (.iconst 1) 1 rfl rfl rfl 42 (1) _ rfl cd_kj1 ?_
            refine r_go (.goto 4) 3 rfl rfl rfl 46 [.int (1)] rfl ?_
            exact r_retZ rfl rfl (by decide)
        · refine q_const (.iconst 0) 1 rfl rfl rfl 46 (0) _ rfl cd_kj0 ?_
          exact r_retZ rfl rfl (by decide)
    · refine q_const (.iconst 0) 1 rfl rfl rfl 11 (0) _ rfl cd_kj0 ?_
      exact r_retZ rfl rfl (by decide)
