def f11_takesEnd_15_L14 (s0 : Int32) (M : cd_M) : Option (Int32 × cd_M) := cd_lt (f11_must_15 s0 1 M) (cd_u2 fun v2 M1 => if v2 = 0 then (some (0, M1)) else ((f11_steps_15 M1).bind fun M5 => some (1, M5)))
set_option maxRecDepth 8000 in
theorem k11_takesEnd_15_L14 (s0 : Int32) (M : cd_M) : cd_R 169 14 [some (.ref 15)] [.int (s0), .ref 15] M (w_PM (f11_takesEnd_15_L14 s0 M)) := by
  unfold f11_takesEnd_15_L14
  refine q_const (.iconst 1) 1 rfl rfl rfl 15 (1) _ rfl cd_kj1 ?_
  refine q_cTMz w_PM (.invokevirtual 145) rfl rfl rfl 166 rfl [.ref 15, .int (s0), .int (1)] [] rfl (k11_must_15 s0 1 M) (fun v2 M1 z3 => ?_)
  refine q_br w_PM (.ifCond .ne 5) 3 rfl rfl rfl (v2 = 0) 21 23 [] rfl (fun _ => ?_) (fun _ => ?_)
  · refine q_const (.iconst 0) 1 rfl rfl rfl 22 (0) _ rfl cd_kj0 ?_
    exact r_retZ rfl rfl (by decide)
  · refine r_ld (.aload_n 0) 1 2 0 (.ref 15) rfl rfl rfl rfl 24 rfl ?_
    refine q_cV w_PM rfl (.invokevirtual 149) rfl rfl rfl 165 [.ref 15] [] rfl (k11_steps_15 M1) (fun M5 => ?_)
    refine q_const (.iconst 1) 1 rfl rfl rfl 28 (1) _ rfl cd_kj1 ?_
    exact r_retZ rfl rfl (by decide)
def f11_takesEnd_15 (M : cd_M) : Option (Int32 × cd_M) := if M.1 15 6 = 3 then (f11_takesEnd_15_L14 1 M) else (f11_takesEnd_15_L14 0 M)
set_option maxRecDepth 8000 in
theorem k11_takesEnd_15 (M : cd_M) : cd_R 169 0 [some (.ref 15)] [] M (w_PM (f11_takesEnd_15 M)) := by
  unfold f11_takesEnd_15
  refine r_ld (.aload_n 0) 1 2 0 (.ref 15) rfl rfl rfl rfl 1 rfl ?_
  refine r_ld (.aload_n 0) 1 2 0 (.ref 15) rfl rfl rfl rfl 2 rfl ?_
  refine r_go (.getfield 117) 3 rfl rfl rfl 5 [.int (M.1 15 6), .ref 15] rfl ?_
  refine q_const (.iconst 3) 1 rfl rfl rfl 6 (3) _ rfl cd_kj3 ?_
  refine q_br w_PM (.if_icmp .ne 7) 3 rfl rfl rfl (M.1 15 6 = 3) 9 13 [.ref 15] rfl (fun _ => ?_) (fun _ => ?_)
  · refine q_const (.iconst 1) 1 rfl rfl rfl 10 (1) _ rfl cd_kj1 ?_
    refine r_go (.goto 4) 3 rfl rfl rfl 14 [.int (1), .ref 15] rfl ?_
    exact r_w (k11_takesEnd_15_L14 1 M) (cd_le_s cd_le_0)
  · refine q_const (.iconst 0) 1 rfl rfl rfl 14 (0) _ rfl cd_kj0 ?_
    exact r_w (k11_takesEnd_15_L14 0 M) (cd_le_s cd_le_0)
def f11_isFrame_15 (M : cd_M) : Option (Int32) := (f11_isWord_15 102 114 97 109 101 0 0 M).bind fun v1 => some v1
set_option maxRecDepth 8000 in
theorem k11_isFrame_15 (M : cd_M) : cd_R 168 0 [some (.ref 15)] [] M ((w_PI M) (f11_isFrame_15 M)) := by
  unfold f11_isFrame_15
  refine r_ld (.aload_n 0) 1 2 0 (.ref 15) rfl rfl rfl rfl 1 rfl ?_
  refine q_const (.bipush 102) 2 rfl rfl rfl 3 (102) _ rfl cd_kc102 ?_
  refine q_const (.bipush 114) 2 rfl rfl rfl 5 (114) _ rfl cd_kc114 ?_
  refine q_const (.bipush 97) 2 rfl rfl rfl 7 (97) _ rfl cd_kc97 ?_
  refine q_const (.bipush 109) 2 rfl rfl rfl 9 (109) _ rfl cd_kc109 ?_
  refine q_const (.bipush 101) 2 rfl rfl rfl 11 (101) _ rfl cd_kc101 ?_
  refine q_const (.iconst 0) 1 rfl rfl rfl 12 (0) _ rfl cd_kj0 ?_
  refine q_const (.iconst 0) 1 rfl rfl rfl 13 (0) _ rfl cd_kj0 ?_
  refine q_cIz (w_PI M) rfl (.invokevirtual 141) rfl rfl rfl 167 rfl [.ref 15, .int (102), .int (114), .int (97), .int (109), .int (101), .int (0), .int (0)] [] rfl (k11_isWord_15 102 114 97 109 101 0 0 M) (fun v1 z2 => ?_)
  exact r_retZ rfl rfl z2
def f11_filmAt (a0 : Int32) (a1 : Int32) (a2 : Int32) (M : cd_M) : Int32 := ((6 * ((2 * a0) + a1)) + a2)
set_option maxRecDepth 8000 in
theorem k11_filmAt (a0 : Int32) (a1 : Int32) (a2 : Int32) (M : cd_M) : cd_R 173 0 [some (.int (a0)), some (.int (a1)), some (.int (a2))] [] M ((w_TI M) (f11_filmAt a0 a1 a2 M)) := by
  unfold f11_filmAt
  refine q_const (.bipush 6) 2 rfl rfl rfl 2 (6) _ rfl cd_kc6 ?_
  refine q_const (.iconst 2) 1 rfl rfl rfl 3 (2) _ rfl cd_kj2 ?_
  refine r_ld (.iload_n 0) 1 0 0 (.int (a0)) rfl rfl rfl rfl 4 rfl ?_
  refine r_go (.imul) 1 rfl rfl rfl 5 [.int (2 * a0), .int (6)] rfl ?_
  refine r_ld (.iload_n 1) 1 0 1 (.int (a1)) rfl rfl rfl rfl 6 rfl ?_
  refine r_go (.iadd) 1 rfl rfl rfl 7 [.int ((2 * a0) + a1), .int (6)] rfl ?_
  refine r_go (.imul) 1 rfl rfl rfl 8 [.int (6 * ((2 * a0) + a1))] rfl ?_
  refine r_ld (.iload_n 2) 1 0 2 (.int (a2)) rfl rfl rfl rfl 9 rfl ?_
  refine r_go (.iadd) 1 rfl rfl rfl 10 [.int ((6 * ((2 * a0) + a1)) + a2)] rfl ?_
  exact r_ret .ireturn 1 rfl rfl rfl _ rfl
def f11_frameHere_15_L42 : Nat → Int32 → cd_M → Option (Int32 × cd_M)
  | 0, _, _ => none
  | n + 1, a1, M => if 2 * (M.1 15 14) ≤ a1 then (cd_lt (cd_wI M 15 15 ((M.1 15 15) + 1)) fun M12 => (f11_takesEnd_15 M12).bind (cd_u2 fun v14 M13 => some (v14, M13))) else ((f11_takesNumber_15 0 99 M).bind (cd_u2 fun v18 M17 => if v18 = 0 then (some (0, M17)) else (if M17.1 15 14 = 0 then none else (if M17.1 15 14 = 0 then none else (if cd_in (f11_filmAt (M17.1 15 15) (a1 / (M17.1 15 14)) (a1 - a1 / (M17.1 15 14) * (M17.1 15 14)) M17) 240 = true then (cd_lt (cd_wI M17 59 (f11_filmAt (M17.1 15 15) (a1 / (M17.1 15 14)) (a1 - a1 / (M17.1 15 14) * (M17.1 15 14)) M17 : Int32).toNatClampNeg (M17.1 15 10)) fun M21 => cd_lt (a1 + (1)) fun x22 => f11_frameHere_15_L42 n x22 M21) else none)))))
set_option maxRecDepth 8000 in
theorem k11_frameHere_15_L42 : ∀ (n : Nat) (a1 : Int32) (M : cd_M), cd_R 174 42 [some (.ref 15), some (.int (a1))] [] M (w_PM (f11_frameHere_15_L42 n a1 M)) := by
  intro n
  induction n with
  | zero =>
    intro a1 M
    exact q_none w_PM rfl
  | succ n ih =>
    intro a1 M
    rw [f11_frameHere_15_L42]
    refine r_ld (.iload_n 1) 1 0 1 (.int (a1)) rfl rfl rfl rfl 43 rfl ?_
    refine q_const (.iconst 2) 1 rfl rfl rfl 44 (2) _ rfl cd_kj2 ?_
    refine r_ld (.aload_n 0) 1 2 0 (.ref 15) rfl rfl rfl rfl 45 rfl ?_
    refine r_go (.getfield 162) 3 rfl rfl rfl 48 [.int (M.1 15 14), .int (2), .int (a1)] rfl ?_
    refine r_go (.imul) 1 rfl rfl rfl 49 [.int (2 * (M.1 15 14)), .int (a1)] rfl ?_
    refine q_br w_PM (.if_icmp .ge 49) 3 rfl rfl rfl (2 * (M.1 15 14) ≤ a1) 98 52 [] rfl (fun _ => ?_) (fun _ => ?_)
    · refine r_ld (.aload_n 0) 1 2 0 (.ref 15) rfl rfl rfl rfl 99 rfl ?_
      refine r_go (.dup) 1 rfl rfl rfl 100 [.ref 15, .ref 15] rfl ?_
      refine r_go (.getfield 159) 3 rfl rfl rfl 103 [.int (M.1 15 15), .ref 15] rfl ?_
      refine q_const (.iconst 1) 1 rfl rfl rfl 104 (1) _ rfl cd_kj1 ?_
      refine r_go (.iadd) 1 rfl rfl rfl 105 [.int ((M.1 15 15) + 1), .ref 15] rfl ?_
      refine q_wr w_PM (.putfield 159) 3 rfl rfl rfl 108 [] (cd_wI M 15 15 ((M.1 15 15) + 1)) rfl (fun M12 => ?_)
      refine r_ld (.aload_n 0) 1 2 0 (.ref 15) rfl rfl rfl rfl 109 rfl ?_
      refine q_cMz w_PM rfl (.invokevirtual 173) rfl rfl rfl 169 rfl [.ref 15] [] rfl (k11_takesEnd_15 M12) (fun v14 M13 z15 => ?_)
      exact r_retZ rfl rfl z15
    · refine r_ld (.aload_n 0) 1 2 0 (.ref 15) rfl rfl rfl rfl 53 rfl ?_
      refine q_const (.iconst 0) 1 rfl rfl rfl 54 (0) _ rfl cd_kj0 ?_
      refine q_const (.bipush 99) 2 rfl rfl rfl 56 (99) _ rfl cd_kc99 ?_
      refine q_cMz w_PM rfl (.invokevirtual 165) rfl rfl rfl 170 rfl [.ref 15, .int (0), .int (99)] [] rfl (k11_takesNumber_15 0 99 M) (fun v18 M17 z19 => ?_)
      refine q_br w_PM (.ifCond .ne 5) 3 rfl rfl rfl (v18 = 0) 62 64 [] rfl (fun _ => ?_) (fun _ => ?_)
      · refine q_const (.iconst 0) 1 rfl rfl rfl 63 (0) _ rfl cd_kj0 ?_
        exact r_retZ rfl rfl (by decide)
      · refine r_ld (.aload_n 0) 1 2 0 (.ref 15) rfl rfl rfl rfl 65 rfl ?_
        refine r_go (.getfield 17) 3 rfl rfl rfl 68 [.ref 59] rfl ?_
        refine r_ld (.aload_n 0) 1 2 0 (.ref 15) rfl rfl rfl rfl 69 rfl ?_
        refine r_go (.getfield 159) 3 rfl rfl rfl 72 [.int (M17.1 15 15), .ref 59] rfl ?_
        refine r_ld (.iload_n 1) 1 0 1 (.int (a1)) rfl rfl rfl rfl 73 rfl ?_
        refine r_ld (.aload_n 0) 1 2 0 (.ref 15) rfl rfl rfl rfl 74 rfl ?_
        refine r_go (.getfield 162) 3 rfl rfl rfl 77 [.int (M17.1 15 14), .int (a1), .int (M17.1 15 15), .ref 59] rfl ?_
        refine q_div w_PM rfl rfl ?_
        refine r_ld (.iload_n 1) 1 0 1 (.int (a1)) rfl rfl rfl rfl 79 rfl ?_
        refine r_ld (.aload_n 0) 1 2 0 (.ref 15) rfl rfl rfl rfl 80 rfl ?_
        refine r_go (.getfield 162) 3 rfl rfl rfl 83 [.int (M17.1 15 14), .int (a1), .int (a1 / (M17.1 15 14)), .int (M17.1 15 15), .ref 59] rfl ?_
        refine q_rem w_PM rfl rfl ?_
        refine q_cTI (.invokestatic 169) rfl rfl rfl 173 [.int (M17.1 15 15), .int (a1 / (M17.1 15 14)), .int (a1 - a1 / (M17.1 15 14) * (M17.1 15 14))] [.ref 59] rfl (k11_filmAt (M17.1 15 15) (a1 / (M17.1 15 14)) (a1 - a1 / (M17.1 15 14) * (M17.1 15 14)) M17) ?_
        refine r_ld (.aload_n 0) 1 2 0 (.ref 15) rfl rfl rfl rfl 88 rfl ?_
        refine r_go (.getfield 152) 3 rfl rfl rfl 91 [.int (M17.1 15 10), .int (f11_filmAt (M17.1 15 15) (a1 / (M17.1 15 14)) (a1 - a1 / (M17.1 15 14) * (M17.1 15 14)) M17), .ref 59] rfl ?_
        refine q_iast w_PM rfl rfl 59 240 rfl (fun M21 => ?_)
        refine q_inc w_PM 1 (1) (a1) rfl rfl rfl 95 rfl (1) cd_kj1 (fun x22 => [some (.ref 15), some (.int (x22))]) (fun _ => rfl) (fun x22 => ?_)
        refine r_go (.goto (-53)) 3 rfl rfl rfl 42 [] rfl ?_
        exact r_w (ih x22 M21) (cd_le_s (cd_le_s cd_le_0))
def f11_frameHere_15_L27 (s0 : Int32) (M : cd_M) : Option (Int32 × cd_M) := cd_lt (f11_must_15 s0 4 M) (cd_u2 fun v8 M7 => if v8 = 0 then (some (0, M7)) else ((f11_steps_15 M7).bind fun M11 => f11_frameHere_15_L42 cd_fu 0 M11))
set_option maxRecDepth 8000 in
theorem k11_frameHere_15_L27 (s0 : Int32) (M : cd_M) : cd_R 174 27 [some (.ref 15), none] [.int (s0), .ref 15] M (w_PM (f11_frameHere_15_L27 s0 M)) := by
  unfold f11_frameHere_15_L27
  refine q_const (.iconst 4) 1 rfl rfl rfl 28 (4) _ rfl cd_kj4 ?_
  refine q_cTMz w_PM (.invokevirtual 145) rfl rfl rfl 166 rfl [.ref 15, .int (s0), .int (4)] [] rfl (k11_must_15 s0 4 M) (fun v8 M7 z9 => ?_)
  refine q_br w_PM (.ifCond .ne 5) 3 rfl rfl rfl (v8 = 0) 34 36 [] rfl (fun _ => ?_) (fun _ => ?_)
  · refine q_const (.iconst 0) 1 rfl rfl rfl 35 (0) _ rfl cd_kj0 ?_
    exact r_retZ rfl rfl (by decide)
  · refine r_ld (.aload_n 0) 1 2 0 (.ref 15) rfl rfl rfl rfl 37 rfl ?_
    refine q_cV w_PM rfl (.invokevirtual 149) rfl rfl rfl 165 [.ref 15] [] rfl (k11_steps_15 M7) (fun M11 => ?_)
    refine q_const (.iconst 0) 1 rfl rfl rfl 41 (0) _ rfl cd_kj0 ?_
    refine r_st (.istore_n 1) 1 0 1 rfl rfl rfl 42 rfl [some (.ref 15), some (.int (0))] rfl ?_
    exact r_w (k11_frameHere_15_L42 cd_fu 0 M11) (cd_le_s (cd_le_s cd_le_0))
def f11_frameHere_15 (M : cd_M) : Option (Int32 × cd_M) := (f11_isFrame_15 M).bind fun v1 => cd_lt (f11_must_15 v1 1 M) (cd_u2 fun v4 M3 => if v4 = 0 then (some (0, M3)) else (if 20 ≤ M3.1 15 15 then (f11_frameHere_15_L27 0 M3) else (f11_frameHere_15_L27 1 M3)))
set_option maxRecDepth 8000 in
theorem k11_frameHere_15 (M : cd_M) : cd_R 174 0 [some (.ref 15), none] [] M (w_PM (f11_frameHere_15 M)) := by
  unfold f11_frameHere_15
  refine r_ld (.aload_n 0) 1 2 0 (.ref 15) rfl rfl rfl rfl 1 rfl ?_
  refine r_ld (.aload_n 0) 1 2 0 (.ref 15) rfl rfl rfl rfl 2 rfl ?_
  refine q_cIz w_PM rfl (.invokevirtual 155) rfl rfl rfl 168 rfl [.ref 15] [.ref 15] rfl (k11_isFrame_15 M) (fun v1 z2 => ?_)
  refine q_const (.iconst 1) 1 rfl rfl rfl 6 (1) _ rfl cd_kj1 ?_
  refine q_cTMz w_PM (.invokevirtual 145) rfl rfl rfl 166 rfl [.ref 15, .int (v1), .int (1)] [] rfl (k11_must_15 v1 1 M) (fun v4 M3 z5 => ?_)
  refine q_br w_PM (.ifCond .eq 25) 3 rfl rfl rfl (v4 = 0) 34 12 [] rfl (fun _ => ?_) (fun _ => ?_)
  · refine q_const (.iconst 0) 1 rfl rfl rfl 35 (0) _ rfl cd_kj0 ?_
    exact r_retZ rfl rfl (by decide)
  · refine r_ld (.aload_n 0) 1 2 0 (.ref 15) rfl rfl rfl rfl 13 rfl ?_
    refine r_ld (.aload_n 0) 1 2 0 (.ref 15) rfl rfl rfl rfl 14 rfl ?_
    refine r_go (.getfield 159) 3 rfl rfl rfl 17 [.int (M3.1 15 15), .ref 15] rfl ?_
    refine q_const (.bipush 20) 2 rfl rfl rfl 19 (20) _ rfl cd_kc20 ?_
    refine q_br w_PM (.if_icmp .ge 7) 3 rfl rfl rfl (20 ≤ M3.1 15 15) 26 22 [.ref 15] rfl (fun _ => ?_) (fun _ => ?_)
    · refine q_const (.iconst 0) 1 rfl rfl rfl 27 (0) _ rfl cd_kj0 ?_
      exact r_w (k11_frameHere_15_L27 0 M3) (cd_le_s (cd_le_n cd_le_0))
    · refine q_const (.iconst 1) 1 rfl rfl rfl 23 (1) _ rfl cd_kj1 ?_
      refine r_go (.goto 4) 3 rfl rfl rfl 27 [.int (1), .ref 15] rfl ?_
      exact r_w (k11_frameHere_15_L27 1 M3) (cd_le_s (cd_le_n cd_le_0))
def f11_readsFilm_15_L66 : Nat → cd_M → Option (Int32 × cd_M)
  | 0, _ => none
  | n + 1, M => if M.1 15 6 = 0 then (some (1, M)) else ((f11_frameHere_15 M).bind (cd_u2 fun v22 M21 => if v22 = 0 then (some (0, M21)) else (f11_readsFilm_15_L66 n M21)))
set_option maxRecDepth 8000 in
theorem k11_readsFilm_15_L66 : ∀ (n : Nat) (M : cd_M), cd_R 175 66 [some (.ref 15)] [] M (w_PM (f11_readsFilm_15_L66 n M)) := by
  intro n
  induction n with
  | zero =>
    intro M
    exact q_none w_PM rfl
  | succ n ih =>
    intro M
    rw [f11_readsFilm_15_L66]
    refine r_ld (.aload_n 0) 1 2 0 (.ref 15) rfl rfl rfl rfl 67 rfl ?_
    refine r_go (.getfield 117) 3 rfl rfl rfl 70 [.int (M.1 15 6)] rfl ?_
    refine q_br w_PM (.ifCond .eq 12) 3 rfl rfl rfl (M.1 15 6 = 0) 82 73 [] rfl (fun _ => ?_) (fun _ => ?_)
    · refine q_const (.iconst 1) 1 rfl rfl rfl 83 (1) _ rfl cd_kj1 ?_
      exact r_retZ rfl rfl (by decide)
    · refine r_ld (.aload_n 0) 1 2 0 (.ref 15) rfl rfl rfl rfl 74 rfl ?_
      refine q_cMz w_PM rfl (.invokevirtual 176) rfl rfl rfl 174 rfl [.ref 15] [] rfl (k11_frameHere_15 M) (fun v22 M21 z23 => ?_)
      refine q_br w_PM (.ifCond .ne (-11)) 3 rfl rfl rfl (v22 = 0) 80 66 [] rfl (fun _ => ?_) (fun _ => ?_)
      · refine q_const (.iconst 0) 1 rfl rfl rfl 81 (0) _ rfl cd_kj0 ?_
        exact r_retZ rfl rfl (by decide)
      · exact r_w (ih M21) (cd_le_s cd_le_0)
def f11_readsFilm_15 (M : cd_M) : Option (Int32 × cd_M) := (f11_isWord_15 119 105 100 116 104 0 0 M).bind fun v1 => cd_lt (f11_must_15 v1 1 M) (cd_u2 fun v4 M3 => if v4 = 0 then (some (0, M3)) else ((f11_steps_15 M3).bind fun M7 => (f11_takesNumber_15 1 6 M7).bind (cd_u2 fun v9 M8 => if v9 = 0 then (some (0, M8)) else (cd_lt (cd_wI M8 15 14 (M8.1 15 10)) fun M12 => (f11_takesEnd_15 M12).bind (cd_u2 fun v14 M13 => if v14 = 0 then (some (0, M13)) else ((f11_frameHere_15 M13).bind (cd_u2 fun v18 M17 => if v18 = 0 then (some (0, M17)) else (f11_readsFilm_15_L66 cd_fu M17))))))))
set_option maxRecDepth 8000 in
theorem k11_readsFilm_15 (M : cd_M) : cd_R 175 0 [some (.ref 15)] [] M (w_PM (f11_readsFilm_15 M)) := by
  unfold f11_readsFilm_15
  refine r_ld (.aload_n 0) 1 2 0 (.ref 15) rfl rfl rfl rfl 1 rfl ?_
  refine r_ld (.aload_n 0) 1 2 0 (.ref 15) rfl rfl rfl rfl 2 rfl ?_
  refine q_const (.bipush 119) 2 rfl rfl rfl 4 (119) _ rfl cd_kc119 ?_
  refine q_const (.bipush 105) 2 rfl rfl rfl 6 (105) _ rfl cd_kc105 ?_
  refine q_const (.bipush 100) 2 rfl rfl rfl 8 (100) _ rfl cd_kc100 ?_
  refine q_const (.bipush 116) 2 rfl rfl rfl 10 (116) _ rfl cd_kc116 ?_
  refine q_const (.bipush 104) 2 rfl rfl rfl 12 (104) _ rfl cd_kc104 ?_
  refine q_const (.iconst 0) 1 rfl rfl rfl 13 (0) _ rfl cd_kj0 ?_
  refine q_const (.iconst 0) 1 rfl rfl rfl 14 (0) _ rfl cd_kj0 ?_
  refine q_cIz w_PM rfl (.invokevirtual 141) rfl rfl rfl 167 rfl [.ref 15, .int (119), .int (105), .int (100), .int (116), .int (104), .int (0), .int (0)] [.ref 15] rfl (k11_isWord_15 119 105 100 116 104 0 0 M) (fun v1 z2 => ?_)
  refine q_const (.iconst 1) 1 rfl rfl rfl 18 (1) _ rfl cd_kj1 ?_
  refine q_cTMz w_PM (.invokevirtual 145) rfl rfl rfl 166 rfl [.ref 15, .int (v1), .int (1)] [] rfl (k11_must_15 v1 1 M) (fun v4 M3 z5 => ?_)
  refine q_br w_PM (.ifCond .ne 5) 3 rfl rfl rfl (v4 = 0) 24 26 [] rfl (fun _ => ?_) (fun _ => ?_)
  · refine q_const (.iconst 0) 1 rfl rfl rfl 25 (0) _ rfl cd_kj0 ?_
    exact r_retZ rfl rfl (by decide)
  · refine r_ld (.aload_n 0) 1 2 0 (.ref 15) rfl rfl rfl rfl 27 rfl ?_
    refine q_cV w_PM rfl (.invokevirtual 149) rfl rfl rfl 165 [.ref 15] [] rfl (k11_steps_15 M3) (fun M7 => ?_)
    refine r_ld (.aload_n 0) 1 2 0 (.ref 15) rfl rfl rfl rfl 31 rfl ?_
    refine q_const (.iconst 1) 1 rfl rfl rfl 32 (1) _ rfl cd_kj1 ?_
    refine q_const (.bipush 6) 2 rfl rfl rfl 34 (6) _ rfl cd_kc6 ?_
    refine q_cMz w_PM rfl (.invokevirtual 165) rfl rfl rfl 170 rfl [.ref 15, .int (1), .int (6)] [] rfl (k11_takesNumber_15 1 6 M7) (fun v9 M8 z10 => ?_)
    refine q_br w_PM (.ifCond .ne 5) 3 rfl rfl rfl (v9 = 0) 40 42 [] rfl (fun _ => ?_) (fun _ => ?_)
    · refine q_const (.iconst 0) 1 rfl rfl rfl 41 (0) _ rfl cd_kj0 ?_
      exact r_retZ rfl rfl (by decide)
    · refine r_ld (.aload_n 0) 1 2 0 (.ref 15) rfl rfl rfl rfl 43 rfl ?_
      refine r_ld (.aload_n 0) 1 2 0 (.ref 15) rfl rfl rfl rfl 44 rfl ?_
      refine r_go (.getfield 152) 3 rfl rfl rfl 47 [.int (M8.1 15 10), .ref 15] rfl ?_
      refine q_wr w_PM (.putfield 162) 3 rfl rfl rfl 50 [] (cd_wI M8 15 14 (M8.1 15 10)) rfl (fun M12 => ?_)
      refine r_ld (.aload_n 0) 1 2 0 (.ref 15) rfl rfl rfl rfl 51 rfl ?_
      refine q_cMz w_PM rfl (.invokevirtual 173) rfl rfl rfl 169 rfl [.ref 15] [] rfl (k11_takesEnd_15 M12) (fun v14 M13 z15 => ?_)
      refine q_br w_PM (.ifCond .eq 10) 3 rfl rfl rfl (v14 = 0) 64 57 [] rfl (fun _ => ?_) (fun _ => ?_)
      · refine q_const (.iconst 0) 1 rfl rfl rfl 65 (0) _ rfl cd_kj0 ?_
        exact r_retZ rfl rfl (by decide)
      · refine r_ld (.aload_n 0) 1 2 0 (.ref 15) rfl rfl rfl rfl 58 rfl ?_
        refine q_cMz w_PM rfl (.invokevirtual 176) rfl rfl rfl 174 rfl [.ref 15] [] rfl (k11_frameHere_15 M13) (fun v18 M17 z19 => ?_)
        refine q_br w_PM (.ifCond .ne 5) 3 rfl rfl rfl (v18 = 0) 64 66 [] rfl (fun _ => ?_) (fun _ => ?_)
        · refine q_const (.iconst 0) 1 rfl rfl rfl 65 (0) _ rfl cd_kj0 ?_
          exact r_retZ rfl rfl (by decide)
        · exact r_w (k11_readsFilm_15_L66 cd_fu M17) (cd_le_s cd_le_0)
def f11_told_15 (M : cd_M) : Int32 := ((-2) - ((8 * (M.1 15 9)) + (M.1 15 8)))
set_option maxRecDepth 8000 in
theorem k11_told_15 (M : cd_M) : cd_R 172 0 [some (.ref 15)] [] M ((w_TI M) (f11_told_15 M)) := by
  unfold f11_told_15
  refine q_const (.bipush (-2)) 2 rfl rfl rfl 2 (-2) _ rfl cd_kcm2 ?_
  refine q_const (.bipush 8) 2 rfl rfl rfl 4 (8) _ rfl cd_kc8 ?_
  refine r_ld (.aload_n 0) 1 2 0 (.ref 15) rfl rfl rfl rfl 5 rfl ?_
  refine r_go (.getfield 138) 3 rfl rfl rfl 8 [.int (M.1 15 9), .int (8), .int ((-2))] rfl ?_
  refine r_go (.imul) 1 rfl rfl rfl 9 [.int (8 * (M.1 15 9)), .int ((-2))] rfl ?_
  refine r_ld (.aload_n 0) 1 2 0 (.ref 15) rfl rfl rfl rfl 10 rfl ?_
  refine r_go (.getfield 135) 3 rfl rfl rfl 13 [.int (M.1 15 8), .int (8 * (M.1 15 9)), .int ((-2))] rfl ?_
  refine r_go (.iadd) 1 rfl rfl rfl 14 [.int ((8 * (M.1 15 9)) + (M.1 15 8)), .int ((-2))] rfl ?_
  refine r_go (.isub) 1 rfl rfl rfl 15 [.int ((-2) - ((8 * (M.1 15 9)) + (M.1 15 8)))] rfl ?_
  exact r_ret .ireturn 1 rfl rfl rfl _ rfl
def f11_film_15_L61 : Nat → Int32 → cd_M → Option (Int32 × cd_M)
  | 0, _, _ => none
  | n + 1, a2, M => if 240 ≤ a2 then (cd_lt (cd_wI M 15 24 0) fun M11 => cd_lt (cd_wI M11 15 26 0) fun M12 => some (M12.1 15 12, M12)) else (if cd_in a2 240 = true then (if cd_in a2 240 = true then (cd_lt (cd_wI M 58 a2.toNatClampNeg (M.1 59 a2.toNatClampNeg)) fun M13 => cd_lt (a2 + (1)) fun x14 => f11_film_15_L61 n x14 M13) else none) else none)
set_option maxRecDepth 8000 in
theorem k11_film_15_L61 : ∀ (n : Nat) (a2 : Int32) (M : cd_M), cd_R 176 61 [some (.ref 15), none, some (.int (a2))] [] M (w_PM (f11_film_15_L61 n a2 M)) := by
  intro n
  induction n with
  | zero =>
    intro a2 M
    exact q_none w_PM rfl
  | succ n ih =>
    intro a2 M
    rw [f11_film_15_L61]
    refine r_ld (.iload_n 2) 1 0 2 (.int (a2)) rfl rfl rfl rfl 62 rfl ?_
    refine q_const (.sipush 240) 3 rfl rfl rfl 65 (240) _ rfl cd_kt240 ?_
    refine q_br w_PM (.if_icmp .ge 21) 3 rfl rfl rfl (240 ≤ a2) 86 68 [] rfl (fun _ => ?_) (fun _ => ?_)
    · refine r_ld (.aload_n 0) 1 2 0 (.ref 15) rfl rfl rfl rfl 87 rfl ?_
      refine q_const (.iconst 0) 1 rfl rfl rfl 88 (0) _ rfl cd_kj0 ?_
      refine q_wr w_PM (.putfield 195) 3 rfl rfl rfl 91 [] (cd_wI M 15 24 0) rfl (fun M11 => ?_)
      refine r_ld (.aload_n 0) 1 2 0 (.ref 15) rfl rfl rfl rfl 92 rfl ?_
      refine q_const (.iconst 0) 1 rfl rfl rfl 93 (0) _ rfl cd_kj0 ?_
      refine q_wr w_PM (.putfield 198) 3 rfl rfl rfl 96 [] (cd_wI M11 15 26 0) rfl (fun M12 => ?_)
      refine r_ld (.aload_n 0) 1 2 0 (.ref 15) rfl rfl rfl rfl 97 rfl ?_
      refine r_go (.getfield 192) 3 rfl rfl rfl 100 [.int (M12.1 15 12)] rfl ?_
      exact r_ret .ireturn 1 rfl rfl rfl _ rfl
    · refine r_ld (.aload_n 0) 1 2 0 (.ref 15) rfl rfl rfl rfl 69 rfl ?_
      refine r_go (.getfield 13) 3 rfl rfl rfl 72 [.ref 58] rfl ?_
      refine r_ld (.iload_n 2) 1 0 2 (.int (a2)) rfl rfl rfl rfl 73 rfl ?_
      refine r_ld (.aload_n 0) 1 2 0 (.ref 15) rfl rfl rfl rfl 74 rfl ?_
      refine r_go (.getfield 17) 3 rfl rfl rfl 77 [.ref 59, .int (a2), .ref 58] rfl ?_
      refine r_ld (.iload_n 2) 1 0 2 (.int (a2)) rfl rfl rfl rfl 78 rfl ?_
      refine q_iald w_PM rfl rfl 59 240 rfl ?_
      refine q_iast w_PM rfl rfl 58 240 rfl (fun M13 => ?_)
      refine q_inc w_PM 2 (1) (a2) rfl rfl rfl 83 rfl (1) cd_kj1 (fun x14 => [some (.ref 15), none, some (.int (x14))]) (fun _ => rfl) (fun x14 => ?_)
      refine r_go (.goto (-22)) 3 rfl rfl rfl 61 [] rfl ?_
      exact r_w (ih x14 M13) (cd_le_s (cd_le_n (cd_le_s cd_le_0)))
def f11_film_15 (a1 : Int32) (M : cd_M) : Option (Int32 × cd_M) := cd_lt (cd_wI M 15 0 0) fun M1 => if f11_within (a1.toInt64) 0 ((M1.1 15 2 : Int32).toInt64) M1 = 0 then (some ((-1), M1)) else ((f11_begins_15 a1 M1).bind fun M3 => cd_lt (cd_wI M3 15 15 0) fun M4 => (f11_readsFilm_15 M4).bind (cd_u2 fun v6 M5 => if v6 = 0 then (some (f11_told_15 M5, M5)) else (cd_lt (cd_wI M5 15 11 (M5.1 15 14)) fun M9 => cd_lt (cd_wI M9 15 12 (M9.1 15 15)) fun M10 => f11_film_15_L61 cd_fu 0 M10)))
set_option maxRecDepth 8000 in
theorem k11_film_15 (a1 : Int32) (M : cd_M) : cd_R 176 0 [some (.ref 15), some (.int (a1)), none] [] M (w_PM (f11_film_15 a1 M)) := by
  unfold f11_film_15
  refine r_ld (.aload_n 0) 1 2 0 (.ref 15) rfl rfl rfl rfl 1 rfl ?_
  refine q_const (.iconst 0) 1 rfl rfl rfl 2 (0) _ rfl cd_kj0 ?_
  refine q_wr w_PM (.putfield 95) 3 rfl rfl rfl 5 [] (cd_wI M 15 0 0) rfl (fun M1 => ?_)
  refine r_ld (.iload_n 1) 1 0 1 (.int (a1)) rfl rfl rfl rfl 6 rfl ?_
  refine r_go (.i2l) 1 rfl rfl rfl 7 [.long (a1.toInt64)] rfl ?_
  refine r_go (.lconst 0) 1 rfl rfl rfl 8 [.long (0), .long (a1.toInt64)] rfl ?_
  refine r_ld (.aload_n 0) 1 2 0 (.ref 15) rfl rfl rfl rfl 9 rfl ?_
  refine r_go (.getfield 98) 3 rfl rfl rfl 12 [.int (M1.1 15 2), .long (0), .long (a1.toInt64)] rfl ?_
  refine r_go (.i2l) 1 rfl rfl rfl 13 [.long ((M1.1 15 2 : Int32).toInt64), .long (0), .long (a1.toInt64)] rfl ?_
  refine q_cTIz (.invokestatic 127) rfl rfl rfl 161 rfl [.long (a1.toInt64), .long (0), .long ((M1.1 15 2 : Int32).toInt64)] [] rfl (k11_within (a1.toInt64) 0 ((M1.1 15 2 : Int32).toInt64) M1) (fun z2 => ?_)
  refine q_br w_PM (.ifCond .ne 5) 3 rfl rfl rfl (f11_within (a1.toInt64) 0 ((M1.1 15 2 : Int32).toInt64) M1 = 0) 19 21 [] rfl (fun _ => ?_) (fun _ => ?_)
  · refine q_const (.iconst (-1)) 1 rfl rfl rfl 20 (-1) _ rfl cd_kjm1 ?_
    exact r_ret .ireturn 1 rfl rfl rfl _ rfl
  · refine r_ld (.aload_n 0) 1 2 0 (.ref 15) rfl rfl rfl rfl 22 rfl ?_
    refine r_ld (.iload_n 1) 1 0 1 (.int (a1)) rfl rfl rfl rfl 23 rfl ?_
    refine q_cV w_PM rfl (.invokevirtual 179) rfl rfl rfl 171 [.ref 15, .int (a1)] [] rfl (k11_begins_15 a1 M1) (fun M3 => ?_)
    refine r_ld (.aload_n 0) 1 2 0 (.ref 15) rfl rfl rfl rfl 27 rfl ?_
    refine q_const (.iconst 0) 1 rfl rfl rfl 28 (0) _ rfl cd_kj0 ?_
    refine q_wr w_PM (.putfield 159) 3 rfl rfl rfl 31 [] (cd_wI M3 15 15 0) rfl (fun M4 => ?_)
    refine r_ld (.aload_n 0) 1 2 0 (.ref 15) rfl rfl rfl rfl 32 rfl ?_
    refine q_cMz w_PM rfl (.invokevirtual 182) rfl rfl rfl 175 rfl [.ref 15] [] rfl (k11_readsFilm_15 M4) (fun v6 M5 z7 => ?_)
    refine q_br w_PM (.ifCond .ne 8) 3 rfl rfl rfl (v6 = 0) 38 43 [] rfl (fun _ => ?_) (fun _ => ?_)
    · refine r_ld (.aload_n 0) 1 2 0 (.ref 15) rfl rfl rfl rfl 39 rfl ?_
      refine q_cTI (.invokevirtual 185) rfl rfl rfl 172 [.ref 15] [] rfl (k11_told_15 M5) ?_
      exact r_ret .ireturn 1 rfl rfl rfl _ rfl
    · refine r_ld (.aload_n 0) 1 2 0 (.ref 15) rfl rfl rfl rfl 44 rfl ?_
      refine r_ld (.aload_n 0) 1 2 0 (.ref 15) rfl rfl rfl rfl 45 rfl ?_
      refine r_go (.getfield 162) 3 rfl rfl rfl 48 [.int (M5.1 15 14), .ref 15] rfl ?_
      refine q_wr w_PM (.putfield 189) 3 rfl rfl rfl 51 [] (cd_wI M5 15 11 (M5.1 15 14)) rfl (fun M9 => ?_)
      refine r_ld (.aload_n 0) 1 2 0 (.ref 15) rfl rfl rfl rfl 52 rfl ?_
      refine r_ld (.aload_n 0) 1 2 0 (.ref 15) rfl rfl rfl rfl 53 rfl ?_
      refine r_go (.getfield 159) 3 rfl rfl rfl 56 [.int (M9.1 15 15), .ref 15] rfl ?_
      refine q_wr w_PM (.putfield 192) 3 rfl rfl rfl 59 [] (cd_wI M9 15 12 (M9.1 15 15)) rfl (fun M10 => ?_)
      refine q_const (.iconst 0) 1 rfl rfl rfl 60 (0) _ rfl cd_kj0 ?_
      refine r_st (.istore_n 2) 1 0 2 rfl rfl rfl 61 rfl [some (.ref 15), some (.int (a1)), some (.int (0))] rfl ?_
      exact r_w (k11_film_15_L61 cd_fu 0 M10) (cd_le_s (cd_le_n (cd_le_s cd_le_0)))
def f11_asAtFirst_15 (a1 : Int32) (M : cd_M) : Option cd_M := if cd_in ((5 * a1) + 0) 10 = true then (cd_lt (cd_wI M 62 ((5 * a1) + 0 : Int32).toNatClampNeg 0) fun M1 => if cd_in ((5 * a1) + 1) 10 = true then (cd_lt (cd_wI M1 62 ((5 * a1) + 1 : Int32).toNatClampNeg 40) fun M2 => if cd_in ((5 * a1) + 2) 10 = true then (cd_lt (cd_wI M2 62 ((5 * a1) + 2 : Int32).toNatClampNeg 10) fun M3 => if cd_in ((5 * a1) + 3) 10 = true then (cd_lt (cd_wI M3 62 ((5 * a1) + 3 : Int32).toNatClampNeg 0) fun M4 => if cd_in ((5 * a1) + 4) 10 = true then (cd_lt (cd_wI M4 62 ((5 * a1) + 4 : Int32).toNatClampNeg 0) fun M5 => some M5) else none) else none) else none) else none) else none
set_option maxRecDepth 8000 in
theorem k11_asAtFirst_15 (a1 : Int32) (M : cd_M) : cd_R 177 0 [some (.ref 15), some (.int (a1))] [] M (w_PV (f11_asAtFirst_15 a1 M)) := by
  unfold f11_asAtFirst_15
  refine r_ld (.aload_n 0) 1 2 0 (.ref 15) rfl rfl rfl rfl 1 rfl ?_
  refine r_go (.getfield 26) 3 rfl rfl rfl 4 [.ref 62] rfl ?_
  refine q_const (.iconst 5) 1 rfl rfl rfl 5 (5) _ rfl cd_kj5 ?_
  refine r_ld (.iload_n 1) 1 0 1 (.int (a1)) rfl rfl rfl rfl 6 rfl ?_
  refine r_go (.imul) 1 rfl rfl rfl 7 [.int (5 * a1), .ref 62] rfl ?_
  refine q_const (.iconst 0) 1 rfl rfl rfl 8 (0) _ rfl cd_kj0 ?_
  refine r_go (.iadd) 1 rfl rfl rfl 9 [.int ((5 * a1) + 0), .ref 62] rfl ?_
  refine q_const (.iconst 0) 1 rfl rfl rfl 10 (0) _ rfl cd_kj0 ?_
  refine q_iast w_PV rfl rfl 62 10 rfl (fun M1 => ?_)
  refine r_ld (.aload_n 0) 1 2 0 (.ref 15) rfl rfl rfl rfl 12 rfl ?_
  refine r_go (.getfield 26) 3 rfl rfl rfl 15 [.ref 62] rfl ?_
  refine q_const (.iconst 5) 1 rfl rfl rfl 16 (5) _ rfl cd_kj5 ?_
  refine r_ld (.iload_n 1) 1 0 1 (.int (a1)) rfl rfl rfl rfl 17 rfl ?_
  refine r_go (.imul) 1 rfl rfl rfl 18 [.int (5 * a1), .ref 62] rfl ?_
  refine q_const (.iconst 1) 1 rfl rfl rfl 19 (1) _ rfl cd_kj1 ?_
  refine r_go (.iadd) 1 rfl rfl rfl 20 [.int ((5 * a1) + 1), .ref 62] rfl ?_
  refine q_const (.bipush 40) 2 rfl rfl rfl 22 (40) _ rfl cd_kc40 ?_
  refine q_iast w_PV rfl rfl 62 10 rfl (fun M2 => ?_)
  refine r_ld (.aload_n 0) 1 2 0 (.ref 15) rfl rfl rfl rfl 24 rfl ?_
  refine r_go (.getfield 26) 3 rfl rfl rfl 27 [.ref 62] rfl ?_
  refine q_const (.iconst 5) 1 rfl rfl rfl 28 (5) _ rfl cd_kj5 ?_
  refine r_ld (.iload_n 1) 1 0 1 (.int (a1)) rfl rfl rfl rfl 29 rfl ?_
  refine r_go (.imul) 1 rfl rfl rfl 30 [.int (5 * a1), .ref 62] rfl ?_
  refine q_const (.iconst 2) 1 rfl rfl rfl 31 (2) _ rfl cd_kj2 ?_
  refine r_go (.iadd) 1 rfl rfl rfl 32 [.int ((5 * a1) + 2), .ref 62] rfl ?_
  refine q_const (.bipush 10) 2 rfl rfl rfl 34 (10) _ rfl cd_kc10 ?_
  refine q_iast w_PV rfl rfl 62 10 rfl (fun M3 => ?_)
  refine r_ld (.aload_n 0) 1 2 0 (.ref 15) rfl rfl rfl rfl 36 rfl ?_
  refine r_go (.getfield 26) 3 rfl rfl rfl 39 [.ref 62] rfl ?_
  refine q_const (.iconst 5) 1 rfl rfl rfl 40 (5) _ rfl cd_kj5 ?_
  refine r_ld (.iload_n 1) 1 0 1 (.int (a1)) rfl rfl rfl rfl 41 rfl ?_
  refine r_go (.imul) 1 rfl rfl rfl 42 [.int (5 * a1), .ref 62] rfl ?_
  refine q_const (.iconst 3) 1 rfl rfl rfl 43 (3) _ rfl cd_kj3 ?_
  refine r_go (.iadd) 1 rfl rfl rfl 44 [.int ((5 * a1) + 3), .ref 62] rfl ?_
  refine q_const (.iconst 0) 1 rfl rfl rfl 45 (0) _ rfl cd_kj0 ?_
  refine q_iast w_PV rfl rfl 62 10 rfl (fun M4 => ?_)
  refine r_ld (.aload_n 0) 1 2 0 (.ref 15) rfl rfl rfl rfl 47 rfl ?_
  refine r_go (.getfield 26) 3 rfl rfl rfl 50 [.ref 62] rfl ?_
  refine q_const (.iconst 5) 1 rfl rfl rfl 51 (5) _ rfl cd_kj5 ?_
  refine r_ld (.iload_n 1) 1 0 1 (.int (a1)) rfl rfl rfl rfl 52 rfl ?_
  refine r_go (.imul) 1 rfl rfl rfl 53 [.int (5 * a1), .ref 62] rfl ?_
  refine q_const (.iconst 4) 1 rfl rfl rfl 54 (4) _ rfl cd_kj4 ?_
  refine r_go (.iadd) 1 rfl rfl rfl 55 [.int ((5 * a1) + 4), .ref 62] rfl ?_
  refine q_const (.iconst 0) 1 rfl rfl rfl 56 (0) _ rfl cd_kj0 ?_
  refine q_iast w_PV rfl rfl 62 10 rfl (fun M5 => ?_)
  exact r_ret .return_ 1 rfl rfl rfl _ rfl
def f11_ruleHere_15 (M : cd_M) : Option (Int32) := (f11_isWord_15 115 108 97 99 107 0 0 M).bind fun v1 => if v1 = 0 then ((f11_isWord_15 101 100 105 116 0 0 0 M).bind fun v3 => if v3 = 0 then ((f11_isWord_15 115 116 105 108 108 0 0 M).bind fun v5 => if v5 = 0 then ((f11_isWord_15 109 97 116 101 0 0 0 M).bind fun v7 => if v7 = 0 then ((f11_isWord_15 109 101 97 115 117 114 101 M).bind fun v9 => if v9 = 0 then (some (-1)) else (some 4)) else (some 3)) else (some 2)) else (some 1)) else (some 0)
set_option maxRecDepth 8000 in
theorem k11_ruleHere_15 (M : cd_M) : cd_R 180 0 [some (.ref 15)] [] M ((w_PI M) (f11_ruleHere_15 M)) := by
  unfold f11_ruleHere_15
  refine r_ld (.aload_n 0) 1 2 0 (.ref 15) rfl rfl rfl rfl 1 rfl ?_
  refine q_const (.bipush 115) 2 rfl rfl rfl 3 (115) _ rfl cd_kc115 ?_
  refine q_const (.bipush 108) 2 rfl rfl rfl 5 (108) _ rfl cd_kc108 ?_
  refine q_const (.bipush 97) 2 rfl rfl rfl 7 (97) _ rfl cd_kc97 ?_
  refine q_const (.bipush 99) 2 rfl rfl rfl 9 (99) _ rfl cd_kc99 ?_
  refine q_const (.bipush 107) 2 rfl rfl rfl 11 (107) _ rfl cd_kc107 ?_
  refine q_const (.iconst 0) 1 rfl rfl rfl 12 (0) _ rfl cd_kj0 ?_
  refine q_const (.iconst 0) 1 rfl rfl rfl 13 (0) _ rfl cd_kj0 ?_
  refine q_cIz (w_PI M) rfl (.invokevirtual 141) rfl rfl rfl 167 rfl [.ref 15, .int (115), .int (108), .int (97), .int (99), .int (107), .int (0), .int (0)] [] rfl (k11_isWord_15 115 108 97 99 107 0 0 M) (fun v1 z2 => ?_)
  refine q_br (w_PI M) (.ifCond .eq 7) 3 rfl rfl rfl (v1 = 0) 23 19 [] rfl (fun _ => ?_) (fun _ => ?_)
  · refine r_ld (.aload_n 0) 1 2 0 (.ref 15) rfl rfl rfl rfl 24 rfl ?_
    refine q_const (.bipush 101) 2 rfl rfl rfl 26 (101) _ rfl cd_kc101 ?_
    refine q_const (.bipush 100) 2 rfl rfl rfl 28 (100) _ rfl cd_kc100 ?_
    refine q_const (.bipush 105) 2 rfl rfl rfl 30 (105) _ rfl cd_kc105 ?_
    refine q_const (.bipush 116) 2 rfl rfl rfl 32 (116) _ rfl cd_kc116 ?_
    refine q_const (.iconst 0) 1 rfl rfl rfl 33 (0) _ rfl cd_kj0 ?_
    refine q_const (.iconst 0) 1 rfl rfl rfl 34 (0) _ rfl cd_kj0 ?_
    refine q_const (.iconst 0) 1 rfl rfl rfl 35 (0) _ rfl cd_kj0 ?_
    refine q_cIz (w_PI M) rfl (.invokevirtual 141) rfl rfl rfl 167 rfl [.ref 15, .int (101), .int (100), .int (105), .int (116), .int (0), .int (0), .int (0)] [] rfl (k11_isWord_15 101 100 105 116 0 0 0 M) (fun v3 z4 => ?_)
    refine q_br (w_PI M) (.ifCond .eq 7) 3 rfl rfl rfl (v3 = 0) 45 41 [] rfl (fun _ => ?_) (fun _ => ?_)
    · refine r_ld (.aload_n 0) 1 2 0 (.ref 15) rfl rfl rfl rfl 46 rfl ?_
      refine q_const (.bipush 115) 2 rfl rfl rfl 48 (115) _ rfl cd_kc115 ?_
      refine q_const (.bipush 116) 2 rfl rfl rfl 50 (116) _ rfl cd_kc116 ?_
      refine q_const (.bipush 105) 2 rfl rfl rfl 52 (105) _ rfl cd_kc105 ?_
      refine q_const (.bipush 108) 2 rfl rfl rfl 54 (108) _ rfl cd_kc108 ?_
      refine q_const (.bipush 108) 2 rfl rfl rfl 56 (108) _ rfl cd_kc108 ?_
      refine q_const (.iconst 0) 1 rfl rfl rfl 57 (0) _ rfl cd_kj0 ?_
      refine q_const (.iconst 0) 1 rfl rfl rfl 58 (0) _ rfl cd_kj0 ?_
      refine q_cIz (w_PI M) rfl (.invokevirtual 141) rfl rfl rfl 167 rfl [.ref 15, .int (115), .int (116), .int (105), .int (108), .int (108), .int (0), .int (0)] [] rfl (k11_isWord_15 115 116 105 108 108 0 0 M) (fun v5 z6 => ?_)
      refine q_br (w_PI M) (.ifCond .eq 7) 3 rfl rfl rfl (v5 = 0) 68 64 [] rfl (fun _ => ?_) (fun _ => ?_)
      · refine r_ld (.aload_n 0) 1 2 0 (.ref 15) rfl rfl rfl rfl 69 rfl ?_
        refine q_const (.bipush 109) 2 rfl rfl rfl 71 (109) _ rfl cd_kc109 ?_
        refine q_const (.bipush 97) 2 rfl rfl rfl 73 (97) _ rfl cd_kc97 ?_
        refine q_const (.bipush 116) 2 rfl rfl rfl 75 (116) _ rfl cd_kc116 ?_
        refine q_const (.bipush 101) 2 rfl rfl rfl 77 (101) _ rfl cd_kc101 ?_
        refine q_const (.iconst 0) 1 rfl rfl rfl 78 (0) _ rfl cd_kj0 ?_
        refine q_const (.iconst 0) 1 rfl rfl rfl 79 (0) _ rfl cd_kj0 ?_
        refine q_const (.iconst 0) 1 rfl rfl rfl 80 (0) _ rfl cd_kj0 ?_
        refine q_cIz (w_PI M) rfl (.invokevirtual 141) rfl rfl rfl 167 rfl [.ref 15, .int (109), .int (97), .int (116), .int (101), .int (0), .int (0), .int (0)] [] rfl (k11_isWord_15 109 97 116 101 0 0 0 M) (fun v7 z8 => ?_)
        refine q_br (w_PI M) (.ifCond .eq 7) 3 rfl rfl rfl (v7 = 0) 90 86 [] rfl (fun _ => ?_) (fun _ => ?_)
        · refine r_ld (.aload_n 0) 1 2 0 (.ref 15) rfl rfl rfl rfl 91 rfl ?_
          refine q_const (.bipush 109) 2 rfl rfl rfl 93 (109) _ rfl cd_kc109 ?_
          refine q_const (.bipush 101) 2 rfl rfl rfl 95 (101) _ rfl cd_kc101 ?_
          refine q_const (.bipush 97) 2 rfl rfl rfl 97 (97) _ rfl cd_kc97 ?_
          refine q_const (.bipush 115) 2 rfl rfl rfl 99 (115) _ rfl cd_kc115 ?_
          refine q_const (.bipush 117) 2 rfl rfl rfl 101 (117) _ rfl cd_kc117 ?_
          refine q_const (.bipush 114) 2 rfl rfl rfl 103 (114) _ rfl cd_kc114 ?_
          refine q_const (.bipush 101) 2 rfl rfl rfl 105 (101) _ rfl cd_kc101 ?_
          refine q_cIz (w_PI M) rfl (.invokevirtual 141) rfl rfl rfl 167 rfl [.ref 15, .int (109), .int (101), .int (97), .int (115), .int (117), .int (114), .int (101)] [] rfl (k11_isWord_15 109 101 97 115 117 114 101 M) (fun v9 z10 => ?_)
          refine q_br (w_PI M) (.ifCond .eq 7) 3 rfl rfl rfl (v9 = 0) 115 111 [] rfl (fun _ => ?_) (fun _ => ?_)
          · refine q_const (.iconst (-1)) 1 rfl rfl rfl 116 (-1) _ rfl cd_kjm1 ?_
            exact r_ret .ireturn 1 rfl rfl rfl _ rfl
          · refine q_const (.iconst 4) 1 rfl rfl rfl 112 (4) _ rfl cd_kj4 ?_
            refine r_go (.goto 4) 3 rfl rfl rfl 116 [.int (4)] rfl ?_
            exact r_ret .ireturn 1 rfl rfl rfl _ rfl
        · refine q_const (.iconst 3) 1 rfl rfl rfl 87 (3) _ rfl cd_kj3 ?_
          refine r_go (.goto 29) 3 rfl rfl rfl 116 [.int (3)] rfl ?_
          exact r_ret .ireturn 1 rfl rfl rfl _ rfl
      · refine q_const (.iconst 2) 1 rfl rfl rfl 65 (2) _ rfl cd_kj2 ?_
        refine r_go (.goto 51) 3 rfl rfl rfl 116 [.int (2)] rfl ?_
        exact r_ret .ireturn 1 rfl rfl rfl _ rfl
    · refine q_const (.iconst 1) 1 rfl rfl rfl 42 (1) _ rfl cd_kj1 ?_
      refine r_go (.goto 74) 3 rfl rfl rfl 116 [.int (1)] rfl ?_
      exact r_ret .ireturn 1 rfl rfl rfl _ rfl
  · refine q_const (.iconst 0) 1 rfl rfl rfl 20 (0) _ rfl cd_kj0 ?_
    refine r_go (.goto 96) 3 rfl rfl rfl 116 [.int (0)] rfl ?_
    exact r_ret .ireturn 1 rfl rfl rfl _ rfl
def f11_measureHere_15 (M : cd_M) : Option (Int32) := (f11_isWord_15 115 117 109 0 0 0 0 M).bind fun v1 => if v1 = 0 then ((f11_isWord_15 109 111 115 116 0 0 0 M).bind fun v3 => if v3 = 0 then ((f11_isWord_15 109 97 110 121 0 0 0 M).bind fun v5 => if v5 = 0 then (some (-1)) else (some 2)) else (some 1)) else (some 0)
set_option maxRecDepth 8000 in
theorem k11_measureHere_15 (M : cd_M) : cd_R 179 0 [some (.ref 15)] [] M ((w_PI M) (f11_measureHere_15 M)) := by
  unfold f11_measureHere_15
  refine r_ld (.aload_n 0) 1 2 0 (.ref 15) rfl rfl rfl rfl 1 rfl ?_
  refine q_const (.bipush 115) 2 rfl rfl rfl 3 (115) _ rfl cd_kc115 ?_
  refine q_const (.bipush 117) 2 rfl rfl rfl 5 (117) _ rfl cd_kc117 ?_
  refine q_const (.bipush 109) 2 rfl rfl rfl 7 (109) _ rfl cd_kc109 ?_
  refine q_const (.iconst 0) 1 rfl rfl rfl 8 (0) _ rfl cd_kj0 ?_
  refine q_const (.iconst 0) 1 rfl rfl rfl 9 (0) _ rfl cd_kj0 ?_
  refine q_const (.iconst 0) 1 rfl rfl rfl 10 (0) _ rfl cd_kj0 ?_
  refine q_const (.iconst 0) 1 rfl rfl rfl 11 (0) _ rfl cd_kj0 ?_
  refine q_cIz (w_PI M) rfl (.invokevirtual 141) rfl rfl rfl 167 rfl [.ref 15, .int (115), .int (117), .int (109), .int (0), .int (0), .int (0), .int (0)] [] rfl (k11_isWord_15 115 117 109 0 0 0 0 M) (fun v1 z2 => ?_)
  refine q_br (w_PI M) (.ifCond .eq 7) 3 rfl rfl rfl (v1 = 0) 21 17 [] rfl (fun _ => ?_) (fun _ => ?_)
  · refine r_ld (.aload_n 0) 1 2 0 (.ref 15) rfl rfl rfl rfl 22 rfl ?_
    refine q_const (.bipush 109) 2 rfl rfl rfl 24 (109) _ rfl cd_kc109 ?_
    refine q_const (.bipush 111) 2 rfl rfl rfl 26 (111) _ rfl cd_kc111 ?_
    refine q_const (.bipush 115) 2 rfl rfl rfl 28 (115) _ rfl cd_kc115 ?_
    refine q_const (.bipush 116) 2 rfl rfl rfl 30 (116) _ rfl cd_kc116 ?_
    refine q_const (.iconst 0) 1 rfl rfl rfl 31 (0) _ rfl cd_kj0 ?_
    refine q_const (.iconst 0) 1 rfl rfl rfl 32 (0) _ rfl cd_kj0 ?_
    refine q_const (.iconst 0) 1 rfl rfl rfl 33 (0) _ rfl cd_kj0 ?_
    refine q_cIz (w_PI M) rfl (.invokevirtual 141) rfl rfl rfl 167 rfl [.ref 15, .int (109), .int (111), .int (115), .int (116), .int (0), .int (0), .int (0)] [] rfl (k11_isWord_15 109 111 115 116 0 0 0 M) (fun v3 z4 => ?_)
    refine q_br (w_PI M) (.ifCond .eq 7) 3 rfl rfl rfl (v3 = 0) 43 39 [] rfl (fun _ => ?_) (fun _ => ?_)
    · refine r_ld (.aload_n 0) 1 2 0 (.ref 15) rfl rfl rfl rfl 44 rfl ?_
      refine q_const (.bipush 109) 2 rfl rfl rfl 46 (109) _ rfl cd_kc109 ?_
      refine q_const (.bipush 97) 2 rfl rfl rfl 48 (97) _ rfl cd_kc97 ?_
      refine q_const (.bipush 110) 2 rfl rfl rfl 50 (110) _ rfl cd_kc110 ?_
      refine q_const (.bipush 121) 2 rfl rfl rfl 52 (121) _ rfl cd_kc121 ?_
      refine q_const (.iconst 0) 1 rfl rfl rfl 53 (0) _ rfl cd_kj0 ?_
      refine q_const (.iconst 0) 1 rfl rfl rfl 54 (0) _ rfl cd_kj0 ?_
      refine q_const (.iconst 0) 1 rfl rfl rfl 55 (0) _ rfl cd_kj0 ?_
      refine q_cIz (w_PI M) rfl (.invokevirtual 141) rfl rfl rfl 167 rfl [.ref 15, .int (109), .int (97), .int (110), .int (121), .int (0), .int (0), .int (0)] [] rfl (k11_isWord_15 109 97 110 121 0 0 0 M) (fun v5 z6 => ?_)
      refine q_br (w_PI M) (.ifCond .eq 7) 3 rfl rfl rfl (v5 = 0) 65 61 [] rfl (fun _ => ?_) (fun _ => ?_)
      · refine q_const (.iconst (-1)) 1 rfl rfl rfl 66 (-1) _ rfl cd_kjm1 ?_
        exact r_ret .ireturn 1 rfl rfl rfl _ rfl
      · refine q_const (.iconst 2) 1 rfl rfl rfl 62 (2) _ rfl cd_kj2 ?_
        refine r_go (.goto 4) 3 rfl rfl rfl 66 [.int (2)] rfl ?_
        exact r_ret .ireturn 1 rfl rfl rfl _ rfl
    · refine q_const (.iconst 1) 1 rfl rfl rfl 40 (1) _ rfl cd_kj1 ?_
      refine r_go (.goto 26) 3 rfl rfl rfl 66 [.int (1)] rfl ?_
      exact r_ret .ireturn 1 rfl rfl rfl _ rfl
  · refine q_const (.iconst 0) 1 rfl rfl rfl 18 (0) _ rfl cd_kj0 ?_
    refine r_go (.goto 48) 3 rfl rfl rfl 66 [.int (0)] rfl ?_
    exact r_ret .ireturn 1 rfl rfl rfl _ rfl
def f11_oneRule_15_L99 (a2 : Int32) (s0 : Int32) (M : cd_M) : Option (Int32 × cd_M) := cd_lt (f11_must_15 s0 1 M) (cd_u2 fun v13 M12 => if v13 = 0 then (some (0, M12)) else (if cd_in 9 10 = true then (cd_lt (cd_wI M12 62 (9 : Int32).toNatClampNeg a2) fun M16 => (f11_steps_15 M16).bind fun M17 => some (1, M17)) else none))
set_option maxRecDepth 8000 in
theorem k11_oneRule_15_L99 (a2 : Int32) (s0 : Int32) (M : cd_M) : cd_R 181 99 [some (.ref 15), none, some (.int (a2))] [.int (s0), .ref 15] M (w_PM (f11_oneRule_15_L99 a2 s0 M)) := by
  unfold f11_oneRule_15_L99
  refine q_const (.iconst 1) 1 rfl rfl rfl 100 (1) _ rfl cd_kj1 ?_
  refine q_cTMz w_PM (.invokevirtual 145) rfl rfl rfl 166 rfl [.ref 15, .int (s0), .int (1)] [] rfl (k11_must_15 s0 1 M) (fun v13 M12 z14 => ?_)
  refine q_br w_PM (.ifCond .ne 5) 3 rfl rfl rfl (v13 = 0) 106 108 [] rfl (fun _ => ?_) (fun _ => ?_)
  · refine q_const (.iconst 0) 1 rfl rfl rfl 107 (0) _ rfl cd_kj0 ?_
    exact r_retZ rfl rfl (by decide)
  · refine r_ld (.aload_n 0) 1 2 0 (.ref 15) rfl rfl rfl rfl 109 rfl ?_
    refine r_go (.getfield 26) 3 rfl rfl rfl 112 [.ref 62] rfl ?_
    refine q_const (.bipush 9) 2 rfl rfl rfl 114 (9) _ rfl cd_kc9 ?_
    refine r_ld (.iload_n 2) 1 0 2 (.int (a2)) rfl rfl rfl rfl 115 rfl ?_
    refine q_iast w_PM rfl rfl 62 10 rfl (fun M16 => ?_)
    refine r_ld (.aload_n 0) 1 2 0 (.ref 15) rfl rfl rfl rfl 117 rfl ?_
    refine q_cV w_PM rfl (.invokevirtual 149) rfl rfl rfl 165 [.ref 15] [] rfl (k11_steps_15 M16) (fun M17 => ?_)
    refine q_const (.iconst 1) 1 rfl rfl rfl 121 (1) _ rfl cd_kj1 ?_
    exact r_retZ rfl rfl (by decide)
def f11_oneRule_15_L32 (a1 : Int32) (s0 : Int32) (M : cd_M) : Option (Int32 × cd_M) := cd_lt (f11_must_15 s0 3 M) (cd_u2 fun v6 M5 => if v6 = 0 then (some (0, M5)) else (if cd_in a1 5 = true then (cd_lt (cd_wI M5 63 a1.toNatClampNeg (vp_nar .boolean 1)) fun M9 => (f11_steps_15 M9).bind fun M10 => if a1 = 4 then ((f11_measureHere_15 M10).bind fun v11 => if v11 < 0 then (f11_oneRule_15_L99 v11 0 M10) else (f11_oneRule_15_L99 v11 1 M10)) else ((f11_takesNumber_15 0 999 M10).bind (cd_u2 fun v19 M18 => if v19 = 0 then (some (0, M18)) else (if cd_in (5 + a1) 10 = true then (cd_lt (cd_wI M18 62 (5 + a1 : Int32).toNatClampNeg (M18.1 15 10)) fun M22 => some (1, M22)) else none)))) else none))
set_option maxRecDepth 8000 in
theorem k11_oneRule_15_L32 (a1 : Int32) (s0 : Int32) (M : cd_M) : cd_R 181 32 [some (.ref 15), some (.int (a1)), none] [.int (s0), .ref 15] M (w_PM (f11_oneRule_15_L32 a1 s0 M)) := by
  unfold f11_oneRule_15_L32
  refine q_const (.iconst 3) 1 rfl rfl rfl 33 (3) _ rfl cd_kj3 ?_
  refine q_cTMz w_PM (.invokevirtual 145) rfl rfl rfl 166 rfl [.ref 15, .int (s0), .int (3)] [] rfl (k11_must_15 s0 3 M) (fun v6 M5 z7 => ?_)
  refine q_br w_PM (.ifCond .ne 5) 3 rfl rfl rfl (v6 = 0) 39 41 [] rfl (fun _ => ?_) (fun _ => ?_)
  · refine q_const (.iconst 0) 1 rfl rfl rfl 40 (0) _ rfl cd_kj0 ?_
    exact r_retZ rfl rfl (by decide)
  · refine r_ld (.aload_n 0) 1 2 0 (.ref 15) rfl rfl rfl rfl 42 rfl ?_
    refine r_go (.getfield 29) 3 rfl rfl rfl 45 [.ref 63] rfl ?_
    refine r_ld (.iload_n 1) 1 0 1 (.int (a1)) rfl rfl rfl rfl 46 rfl ?_
    refine q_const (.iconst 1) 1 rfl rfl rfl 47 (1) _ rfl cd_kj1 ?_
    refine q_zast w_PM rfl rfl 63 5 rfl (fun M9 => ?_)
    refine r_ld (.aload_n 0) 1 2 0 (.ref 15) rfl rfl rfl rfl 49 rfl ?_
    refine q_cV w_PM rfl (.invokevirtual 149) rfl rfl rfl 165 [.ref 15] [] rfl (k11_steps_15 M9) (fun M10 => ?_)
    refine r_ld (.iload_n 1) 1 0 1 (.int (a1)) rfl rfl rfl rfl 53 rfl ?_
    refine q_const (.iconst 4) 1 rfl rfl rfl 54 (4) _ rfl cd_kj4 ?_
    refine q_br w_PM (.if_icmp .eq 30) 3 rfl rfl rfl (a1 = 4) 84 57 [] rfl (fun _ => ?_) (fun _ => ?_)
    · refine r_ld (.aload_n 0) 1 2 0 (.ref 15) rfl rfl rfl rfl 85 rfl ?_
      refine q_cI w_PM rfl (.invokevirtual 208) rfl rfl rfl 179 [.ref 15] [] rfl (k11_measureHere_15 M10) (fun v11 => ?_)
      refine r_st (.istore_n 2) 1 0 2 rfl rfl rfl 89 rfl [some (.ref 15), some (.int (a1)), some (.int (v11))] rfl ?_
      refine r_ld (.aload_n 0) 1 2 0 (.ref 15) rfl rfl rfl rfl 90 rfl ?_
      refine r_ld (.iload_n 2) 1 0 2 (.int (v11)) rfl rfl rfl rfl 91 rfl ?_
      refine q_br w_PM (.ifCond .lt 7) 3 rfl rfl rfl (v11 < 0) 98 94 [.ref 15] rfl (fun _ => ?_) (fun _ => ?_)
      · refine q_const (.iconst 0) 1 rfl rfl rfl 99 (0) _ rfl cd_kj0 ?_
        exact r_w (k11_oneRule_15_L99 v11 0 M10) (cd_le_s (cd_le_n (cd_le_s cd_le_0)))
      · refine q_const (.iconst 1) 1 rfl rfl rfl 95 (1) _ rfl cd_kj1 ?_
        refine r_go (.goto 4) 3 rfl rfl rfl 99 [.int (1), .ref 15] rfl ?_
        exact r_w (k11_oneRule_15_L99 v11 1 M10) (cd_le_s (cd_le_n (cd_le_s cd_le_0)))
    · refine r_ld (.aload_n 0) 1 2 0 (.ref 15) rfl rfl rfl rfl 58 rfl ?_
      refine q_const (.iconst 0) 1 rfl rfl rfl 59 (0) _ rfl cd_kj0 ?_
      refine q_const (.sipush 999) 3 rfl rfl rfl 62 (999) _ rfl cd_kt999 ?_
      refine q_cMz w_PM rfl (.invokevirtual 165) rfl rfl rfl 170 rfl [.ref 15, .int (0), .int (999)] [] rfl (k11_takesNumber_15 0 999 M10) (fun v19 M18 z20 => ?_)
      refine q_br w_PM (.ifCond .ne 5) 3 rfl rfl rfl (v19 = 0) 68 70 [] rfl (fun _ => ?_) (fun _ => ?_)
      · refine q_const (.iconst 0) 1 rfl rfl rfl 69 (0) _ rfl cd_kj0 ?_
        exact r_retZ rfl rfl (by decide)
      · refine r_ld (.aload_n 0) 1 2 0 (.ref 15) rfl rfl rfl rfl 71 rfl ?_
        refine r_go (.getfield 26) 3 rfl rfl rfl 74 [.ref 62] rfl ?_
        refine q_const (.iconst 5) 1 rfl rfl rfl 75 (5) _ rfl cd_kj5 ?_
        refine r_ld (.iload_n 1) 1 0 1 (.int (a1)) rfl rfl rfl rfl 76 rfl ?_
        refine r_go (.iadd) 1 rfl rfl rfl 77 [.int (5 + a1), .ref 62] rfl ?_
        refine r_ld (.aload_n 0) 1 2 0 (.ref 15) rfl rfl rfl rfl 78 rfl ?_
        refine r_go (.getfield 152) 3 rfl rfl rfl 81 [.int (M18.1 15 10), .int (5 + a1), .ref 62] rfl ?_
        refine q_iast w_PM rfl rfl 62 10 rfl (fun M22 => ?_)
        refine q_const (.iconst 1) 1 rfl rfl rfl 83 (1) _ rfl cd_kj1 ?_
        exact r_retZ rfl rfl (by decide)
def f11_oneRule_15_L10 (a1 : Int32) (s0 : Int32) (M : cd_M) : Option (Int32 × cd_M) := cd_lt (f11_must_15 s0 1 M) (cd_u2 fun v2 M1 => if v2 = 0 then (some (0, M1)) else (if cd_in a1 5 = true then (if M1.1 63 a1.toNatClampNeg = 0 then (f11_oneRule_15_L32 a1 1 M1) else (f11_oneRule_15_L32 a1 0 M1)) else none))
set_option maxRecDepth 8000 in
theorem k11_oneRule_15_L10 (a1 : Int32) (s0 : Int32) (M : cd_M) : cd_R 181 10 [some (.ref 15), some (.int (a1)), none] [.int (s0), .ref 15] M (w_PM (f11_oneRule_15_L10 a1 s0 M)) := by
  unfold f11_oneRule_15_L10
  refine q_const (.iconst 1) 1 rfl rfl rfl 11 (1) _ rfl cd_kj1 ?_
  refine q_cTMz w_PM (.invokevirtual 145) rfl rfl rfl 166 rfl [.ref 15, .int (s0), .int (1)] [] rfl (k11_must_15 s0 1 M) (fun v2 M1 z3 => ?_)
  refine q_br w_PM (.ifCond .eq 25) 3 rfl rfl rfl (v2 = 0) 39 17 [] rfl (fun _ => ?_) (fun _ => ?_)
  · refine q_const (.iconst 0) 1 rfl rfl rfl 40 (0) _ rfl cd_kj0 ?_
    exact r_retZ rfl rfl (by decide)
  · refine r_ld (.aload_n 0) 1 2 0 (.ref 15) rfl rfl rfl rfl 18 rfl ?_
    refine r_ld (.aload_n 0) 1 2 0 (.ref 15) rfl rfl rfl rfl 19 rfl ?_
    refine r_go (.getfield 29) 3 rfl rfl rfl 22 [.ref 63, .ref 15] rfl ?_
    refine r_ld (.iload_n 1) 1 0 1 (.int (a1)) rfl rfl rfl rfl 23 rfl ?_
    refine q_bald w_PM rfl rfl 63 5 23 rfl rfl (by decide) ?_
    refine q_br w_PM (.ifCond .ne 7) 3 rfl rfl rfl (M1.1 63 a1.toNatClampNeg = 0) 27 31 [.ref 15] rfl (fun _ => ?_) (fun _ => ?_)
    · refine q_const (.iconst 1) 1 rfl rfl rfl 28 (1) _ rfl cd_kj1 ?_
      refine r_go (.goto 4) 3 rfl rfl rfl 32 [.int (1), .ref 15] rfl ?_
      exact r_w (k11_oneRule_15_L32 a1 1 M1) (cd_le_s (cd_le_s (cd_le_n cd_le_0)))
    · refine q_const (.iconst 0) 1 rfl rfl rfl 32 (0) _ rfl cd_kj0 ?_
      exact r_w (k11_oneRule_15_L32 a1 0 M1) (cd_le_s (cd_le_s (cd_le_n cd_le_0)))
def f11_oneRule_15 (a1 : Int32) (M : cd_M) : Option (Int32 × cd_M) := if a1 < 0 then (f11_oneRule_15_L10 a1 0 M) else (f11_oneRule_15_L10 a1 1 M)
set_option maxRecDepth 8000 in
theorem k11_oneRule_15 (a1 : Int32) (M : cd_M) : cd_R 181 0 [some (.ref 15), some (.int (a1)), none] [] M (w_PM (f11_oneRule_15 a1 M)) := by
  unfold f11_oneRule_15
  refine r_ld (.aload_n 0) 1 2 0 (.ref 15) rfl rfl rfl rfl 1 rfl ?_
  refine r_ld (.iload_n 1) 1 0 1 (.int (a1)) rfl rfl rfl rfl 2 rfl ?_
  refine q_br w_PM (.ifCond .lt 7) 3 rfl rfl rfl (a1 < 0) 9 5 [.ref 15] rfl (fun _ => ?_) (fun _ => ?_)
  · refine q_const (.iconst 0) 1 rfl rfl rfl 10 (0) _ rfl cd_kj0 ?_
    exact r_w (k11_oneRule_15_L10 a1 0 M) (cd_le_s (cd_le_s (cd_le_n cd_le_0)))
  · refine q_const (.iconst 1) 1 rfl rfl rfl 6 (1) _ rfl cd_kj1 ?_
    refine r_go (.goto 4) 3 rfl rfl rfl 10 [.int (1), .ref 15] rfl ?_
    exact r_w (k11_oneRule_15_L10 a1 1 M) (cd_le_s (cd_le_s (cd_le_n cd_le_0)))
