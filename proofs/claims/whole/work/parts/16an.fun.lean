def f11_cadenceHere_15_L140 (r72 : Int32 → cd_M → Option (Int32 × cd_M)) (a1 : Int32) (s0 : Int32) (M : cd_M) : Option (Int32 × cd_M) := cd_lt (f11_must_15 s0 4 M) (cd_u2 fun v25 M24 => if v25 = 0 then (some (0, M24)) else (if cd_in a1 8 = true then (if cd_in ((6 * a1) + (M24.1 60 a1.toNatClampNeg)) 48 = true then (cd_lt (cd_wI M24 61 ((6 * a1) + (M24.1 60 a1.toNatClampNeg) : Int32).toNatClampNeg (M24.1 15 7)) fun M28 => if cd_in a1 8 = true then (if cd_in a1 8 = true then (cd_lt (cd_wI M28 60 a1.toNatClampNeg ((M28.1 60 a1.toNatClampNeg) + 1)) fun M29 => (f11_steps_15 M29).bind fun M30 => r72 a1 M30) else none) else none) else none) else none))
set_option maxRecDepth 8000 in
theorem k11_cadenceHere_15_L140 (r72 : Int32 → cd_M → Option (Int32 × cd_M)) (h72 : ∀ (a1 : Int32) (M : cd_M), cd_R 178 72 [some (.ref 15), some (.int (a1))] [] M (w_PM (r72 a1 M))) (a1 : Int32) (s0 : Int32) (M : cd_M) : cd_R 178 140 [some (.ref 15), some (.int (a1))] [.int (s0), .ref 15] M (w_PM (f11_cadenceHere_15_L140 r72 a1 s0 M)) := by
  unfold f11_cadenceHere_15_L140
  refine q_const (.iconst 4) 1 rfl rfl rfl 141 (4) _ rfl cd_kj4 ?_
  refine q_cTMz w_PM (.invokevirtual 145) rfl rfl rfl 166 rfl [.ref 15, .int (s0), .int (4)] [] rfl (k11_must_15 s0 4 M) (fun v25 M24 z26 => ?_)
  refine q_br w_PM (.ifCond .ne 5) 3 rfl rfl rfl (v25 = 0) 147 149 [] rfl (fun _ => ?_) (fun _ => ?_)
  · refine q_const (.iconst 0) 1 rfl rfl rfl 148 (0) _ rfl cd_kj0 ?_
    exact r_retZ rfl rfl (by decide)
  · refine r_ld (.aload_n 0) 1 2 0 (.ref 15) rfl rfl rfl rfl 150 rfl ?_
    refine r_go (.getfield 23) 3 rfl rfl rfl 153 [.ref 61] rfl ?_
    refine q_const (.bipush 6) 2 rfl rfl rfl 155 (6) _ rfl cd_kc6 ?_
    refine r_ld (.iload_n 1) 1 0 1 (.int (a1)) rfl rfl rfl rfl 156 rfl ?_
    refine r_go (.imul) 1 rfl rfl rfl 157 [.int (6 * a1), .ref 61] rfl ?_
    refine r_ld (.aload_n 0) 1 2 0 (.ref 15) rfl rfl rfl rfl 158 rfl ?_
    refine r_go (.getfield 20) 3 rfl rfl rfl 161 [.ref 60, .int (6 * a1), .ref 61] rfl ?_
    refine r_ld (.iload_n 1) 1 0 1 (.int (a1)) rfl rfl rfl rfl 162 rfl ?_
    refine q_iald w_PM rfl rfl 60 8 rfl ?_
    refine r_go (.iadd) 1 rfl rfl rfl 164 [.int ((6 * a1) + (M24.1 60 a1.toNatClampNeg)), .ref 61] rfl ?_
    refine r_ld (.aload_n 0) 1 2 0 (.ref 15) rfl rfl rfl rfl 165 rfl ?_
    refine r_go (.getfield 120) 3 rfl rfl rfl 168 [.int (M24.1 15 7), .int ((6 * a1) + (M24.1 60 a1.toNatClampNeg)), .ref 61] rfl ?_
    refine q_iast w_PM rfl rfl 61 48 rfl (fun M28 => ?_)
    refine r_ld (.aload_n 0) 1 2 0 (.ref 15) rfl rfl rfl rfl 170 rfl ?_
    refine r_go (.getfield 20) 3 rfl rfl rfl 173 [.ref 60] rfl ?_
    refine r_ld (.iload_n 1) 1 0 1 (.int (a1)) rfl rfl rfl rfl 174 rfl ?_
    refine r_go (.dup2) 1 rfl rfl rfl 175 [.int (a1), .ref 60, .int (a1), .ref 60] rfl ?_
    refine q_iald w_PM rfl rfl 60 8 rfl ?_
    refine q_const (.iconst 1) 1 rfl rfl rfl 177 (1) _ rfl cd_kj1 ?_
    refine r_go (.iadd) 1 rfl rfl rfl 178 [.int ((M28.1 60 a1.toNatClampNeg) + 1), .int (a1), .ref 60] rfl ?_
    refine q_iast w_PM rfl rfl 60 8 rfl (fun M29 => ?_)
    refine r_ld (.aload_n 0) 1 2 0 (.ref 15) rfl rfl rfl rfl 180 rfl ?_
    refine q_cV w_PM rfl (.invokevirtual 149) rfl rfl rfl 165 [.ref 15] [] rfl (k11_steps_15 M29) (fun M30 => ?_)
    refine r_go (.goto (-111)) 3 rfl rfl rfl 72 [] rfl ?_
    exact r_w (h72 a1 M30) (cd_le_s (cd_le_s cd_le_0))
def f11_cadenceHere_15_L94 (r72 : Int32 → cd_M → Option (Int32 × cd_M)) (a1 : Int32) (s0 : Int32) (M : cd_M) : Option (Int32 × cd_M) := cd_lt (f11_must_15 s0 1 M) (cd_u2 fun v16 M15 => if v16 = 0 then (some (0, M15)) else (cd_lt (f11_must_15 (f11_within ((M15.1 15 7 : Int32).toInt64) 2 5 M15) 2 M15) (cd_u2 fun v21 M20 => if v21 = 0 then (some (0, M20)) else (if cd_in a1 8 = true then (if 6 ≤ M20.1 60 a1.toNatClampNeg then (f11_cadenceHere_15_L140 r72 a1 0 M20) else (f11_cadenceHere_15_L140 r72 a1 1 M20)) else none))))
set_option maxRecDepth 8000 in
theorem k11_cadenceHere_15_L94 (r72 : Int32 → cd_M → Option (Int32 × cd_M)) (h72 : ∀ (a1 : Int32) (M : cd_M), cd_R 178 72 [some (.ref 15), some (.int (a1))] [] M (w_PM (r72 a1 M))) (a1 : Int32) (s0 : Int32) (M : cd_M) : cd_R 178 94 [some (.ref 15), some (.int (a1))] [.int (s0), .ref 15] M (w_PM (f11_cadenceHere_15_L94 r72 a1 s0 M)) := by
  unfold f11_cadenceHere_15_L94
  refine q_const (.iconst 1) 1 rfl rfl rfl 95 (1) _ rfl cd_kj1 ?_
  refine q_cTMz w_PM (.invokevirtual 145) rfl rfl rfl 166 rfl [.ref 15, .int (s0), .int (1)] [] rfl (k11_must_15 s0 1 M) (fun v16 M15 z17 => ?_)
  refine q_br w_PM (.ifCond .eq 49) 3 rfl rfl rfl (v16 = 0) 147 101 [] rfl (fun _ => ?_) (fun _ => ?_)
  · refine q_const (.iconst 0) 1 rfl rfl rfl 148 (0) _ rfl cd_kj0 ?_
    exact r_retZ rfl rfl (by decide)
  · refine r_ld (.aload_n 0) 1 2 0 (.ref 15) rfl rfl rfl rfl 102 rfl ?_
    refine r_ld (.aload_n 0) 1 2 0 (.ref 15) rfl rfl rfl rfl 103 rfl ?_
    refine r_go (.getfield 120) 3 rfl rfl rfl 106 [.int (M15.1 15 7), .ref 15] rfl ?_
    refine r_go (.i2l) 1 rfl rfl rfl 107 [.long ((M15.1 15 7 : Int32).toInt64), .ref 15] rfl ?_
    refine r_go (.ldc2_w 204) 3 rfl rfl rfl 110 [.long (2), .long ((M15.1 15 7 : Int32).toInt64), .ref 15] rfl ?_
    refine r_go (.ldc2_w 206) 3 rfl rfl rfl 113 [.long (5), .long (2), .long ((M15.1 15 7 : Int32).toInt64), .ref 15] rfl ?_
    refine q_cTIz (.invokestatic 127) rfl rfl rfl 161 rfl [.long ((M15.1 15 7 : Int32).toInt64), .long (2), .long (5)] [.ref 15] rfl (k11_within ((M15.1 15 7 : Int32).toInt64) 2 5 M15) (fun z19 => ?_)
    refine q_const (.iconst 2) 1 rfl rfl rfl 117 (2) _ rfl cd_kj2 ?_
    refine q_cTMz w_PM (.invokevirtual 145) rfl rfl rfl 166 rfl [.ref 15, .int (f11_within ((M15.1 15 7 : Int32).toInt64) 2 5 M15), .int (2)] [] rfl (k11_must_15 (f11_within ((M15.1 15 7 : Int32).toInt64) 2 5 M15) 2 M15) (fun v21 M20 z22 => ?_)
    refine q_br w_PM (.ifCond .eq 27) 3 rfl rfl rfl (v21 = 0) 147 123 [] rfl (fun _ => ?_) (fun _ => ?_)
    · refine q_const (.iconst 0) 1 rfl rfl rfl 148 (0) _ rfl cd_kj0 ?_
      exact r_retZ rfl rfl (by decide)
    · refine r_ld (.aload_n 0) 1 2 0 (.ref 15) rfl rfl rfl rfl 124 rfl ?_
      refine r_ld (.aload_n 0) 1 2 0 (.ref 15) rfl rfl rfl rfl 125 rfl ?_
      refine r_go (.getfield 20) 3 rfl rfl rfl 128 [.ref 60, .ref 15] rfl ?_
      refine r_ld (.iload_n 1) 1 0 1 (.int (a1)) rfl rfl rfl rfl 129 rfl ?_
      refine q_iald w_PM rfl rfl 60 8 rfl ?_
      refine q_const (.bipush 6) 2 rfl rfl rfl 132 (6) _ rfl cd_kc6 ?_
      refine q_br w_PM (.if_icmp .ge 7) 3 rfl rfl rfl (6 ≤ M20.1 60 a1.toNatClampNeg) 139 135 [.ref 15] rfl (fun _ => ?_) (fun _ => ?_)
      · refine q_const (.iconst 0) 1 rfl rfl rfl 140 (0) _ rfl cd_kj0 ?_
        exact r_w (k11_cadenceHere_15_L140 r72 h72 a1 0 M20) (cd_le_s (cd_le_s cd_le_0))
      · refine q_const (.iconst 1) 1 rfl rfl rfl 136 (1) _ rfl cd_kj1 ?_
        refine r_go (.goto 4) 3 rfl rfl rfl 140 [.int (1), .ref 15] rfl ?_
        exact r_w (k11_cadenceHere_15_L140 r72 h72 a1 1 M20) (cd_le_s (cd_le_s cd_le_0))
def f11_cadenceHere_15_L72 : Nat → Int32 → cd_M → Option (Int32 × cd_M)
  | 0, _, _ => none
  | n + 1, a1, M => if M.1 15 6 = 3 then (cd_lt (cd_wI M 15 18 ((M.1 15 18) + 1)) fun M14 => some (1, M14)) else (if M.1 15 6 = 2 then (f11_cadenceHere_15_L94 (f11_cadenceHere_15_L72 n) a1 1 M) else (f11_cadenceHere_15_L94 (f11_cadenceHere_15_L72 n) a1 0 M))
set_option maxRecDepth 8000 in
theorem k11_cadenceHere_15_L72 : ∀ (n : Nat) (a1 : Int32) (M : cd_M), cd_R 178 72 [some (.ref 15), some (.int (a1))] [] M (w_PM (f11_cadenceHere_15_L72 n a1 M)) := by
  intro n
  induction n with
  | zero =>
    intro a1 M
    exact q_none w_PM rfl
  | succ n ih =>
    intro a1 M
    rw [f11_cadenceHere_15_L72]
    refine r_ld (.aload_n 0) 1 2 0 (.ref 15) rfl rfl rfl rfl 73 rfl ?_
    refine r_go (.getfield 117) 3 rfl rfl rfl 76 [.int (M.1 15 6)] rfl ?_
    refine q_const (.iconst 3) 1 rfl rfl rfl 77 (3) _ rfl cd_kj3 ?_
    refine q_br w_PM (.if_icmp .eq 109) 3 rfl rfl rfl (M.1 15 6 = 3) 186 80 [] rfl (fun _ => ?_) (fun _ => ?_)
    · refine r_ld (.aload_n 0) 1 2 0 (.ref 15) rfl rfl rfl rfl 187 rfl ?_
      refine r_go (.dup) 1 rfl rfl rfl 188 [.ref 15, .ref 15] rfl ?_
      refine r_go (.getfield 201) 3 rfl rfl rfl 191 [.int (M.1 15 18), .ref 15] rfl ?_
      refine q_const (.iconst 1) 1 rfl rfl rfl 192 (1) _ rfl cd_kj1 ?_
      refine r_go (.iadd) 1 rfl rfl rfl 193 [.int ((M.1 15 18) + 1), .ref 15] rfl ?_
      refine q_wr w_PM (.putfield 201) 3 rfl rfl rfl 196 [] (cd_wI M 15 18 ((M.1 15 18) + 1)) rfl (fun M14 => ?_)
      refine q_const (.iconst 1) 1 rfl rfl rfl 197 (1) _ rfl cd_kj1 ?_
      exact r_retZ rfl rfl (by decide)
    · refine r_ld (.aload_n 0) 1 2 0 (.ref 15) rfl rfl rfl rfl 81 rfl ?_
      refine r_ld (.aload_n 0) 1 2 0 (.ref 15) rfl rfl rfl rfl 82 rfl ?_
      refine r_go (.getfield 117) 3 rfl rfl rfl 85 [.int (M.1 15 6), .ref 15] rfl ?_
      refine q_const (.iconst 2) 1 rfl rfl rfl 86 (2) _ rfl cd_kj2 ?_
      refine q_br w_PM (.if_icmp .ne 7) 3 rfl rfl rfl (M.1 15 6 = 2) 89 93 [.ref 15] rfl (fun _ => ?_) (fun _ => ?_)
      · refine q_const (.iconst 1) 1 rfl rfl rfl 90 (1) _ rfl cd_kj1 ?_
        refine r_go (.goto 4) 3 rfl rfl rfl 94 [.int (1), .ref 15] rfl ?_
        exact r_w (k11_cadenceHere_15_L94 (f11_cadenceHere_15_L72 n) ih a1 1 M) (cd_le_s (cd_le_s cd_le_0))
      · refine q_const (.iconst 0) 1 rfl rfl rfl 94 (0) _ rfl cd_kj0 ?_
        exact r_w (k11_cadenceHere_15_L94 (f11_cadenceHere_15_L72 n) ih a1 0 M) (cd_le_s (cd_le_s cd_le_0))
def f11_cadenceHere_15_L14 (s0 : Int32) (M : cd_M) : Option (Int32 × cd_M) := cd_lt (f11_must_15 s0 4 M) (cd_u2 fun v2 M1 => if v2 = 0 then (some (0, M1)) else (cd_lt (4 + (M1.1 15 18)) fun x5 => if cd_in x5 8 = true then (cd_lt (cd_wI M1 60 x5.toNatClampNeg 0) fun M6 => (f11_steps_15 M6).bind fun M7 => (f11_takesNumber_15 2 5 M7).bind (cd_u2 fun v9 M8 => if v9 = 0 then (some (0, M8)) else (if cd_in (6 * x5) 48 = true then (cd_lt (cd_wI M8 61 (6 * x5 : Int32).toNatClampNeg (M8.1 15 10)) fun M12 => if cd_in x5 8 = true then (cd_lt (cd_wI M12 60 x5.toNatClampNeg 1) fun M13 => f11_cadenceHere_15_L72 cd_fu x5 M13) else none) else none))) else none))
set_option maxRecDepth 8000 in
theorem k11_cadenceHere_15_L14 (s0 : Int32) (M : cd_M) : cd_R 178 14 [some (.ref 15), none] [.int (s0), .ref 15] M (w_PM (f11_cadenceHere_15_L14 s0 M)) := by
  unfold f11_cadenceHere_15_L14
  refine q_const (.iconst 4) 1 rfl rfl rfl 15 (4) _ rfl cd_kj4 ?_
  refine q_cTMz w_PM (.invokevirtual 145) rfl rfl rfl 166 rfl [.ref 15, .int (s0), .int (4)] [] rfl (k11_must_15 s0 4 M) (fun v2 M1 z3 => ?_)
  refine q_br w_PM (.ifCond .ne 5) 3 rfl rfl rfl (v2 = 0) 21 23 [] rfl (fun _ => ?_) (fun _ => ?_)
  · refine q_const (.iconst 0) 1 rfl rfl rfl 22 (0) _ rfl cd_kj0 ?_
    exact r_retZ rfl rfl (by decide)
  · refine q_const (.iconst 4) 1 rfl rfl rfl 24 (4) _ rfl cd_kj4 ?_
    refine r_ld (.aload_n 0) 1 2 0 (.ref 15) rfl rfl rfl rfl 25 rfl ?_
    refine r_go (.getfield 201) 3 rfl rfl rfl 28 [.int (M1.1 15 18), .int (4)] rfl ?_
    refine r_go (.iadd) 1 rfl rfl rfl 29 [.int (4 + (M1.1 15 18))] rfl ?_
    refine q_stB w_PM (.istore_n 1) 1 0 1 rfl rfl (fun _ => rfl) 30 rfl (fun x5 => [some (.ref 15), some (.int (x5))]) (fun _ => rfl) (fun x5 => ?_)
    refine r_ld (.aload_n 0) 1 2 0 (.ref 15) rfl rfl rfl rfl 31 rfl ?_
    refine r_go (.getfield 20) 3 rfl rfl rfl 34 [.ref 60] rfl ?_
    refine r_ld (.iload_n 1) 1 0 1 (.int (x5)) rfl rfl rfl rfl 35 rfl ?_
    refine q_const (.iconst 0) 1 rfl rfl rfl 36 (0) _ rfl cd_kj0 ?_
    refine q_iast w_PM rfl rfl 60 8 rfl (fun M6 => ?_)
    refine r_ld (.aload_n 0) 1 2 0 (.ref 15) rfl rfl rfl rfl 38 rfl ?_
    refine q_cV w_PM rfl (.invokevirtual 149) rfl rfl rfl 165 [.ref 15] [] rfl (k11_steps_15 M6) (fun M7 => ?_)
    refine r_ld (.aload_n 0) 1 2 0 (.ref 15) rfl rfl rfl rfl 42 rfl ?_
    refine q_const (.iconst 2) 1 rfl rfl rfl 43 (2) _ rfl cd_kj2 ?_
    refine q_const (.iconst 5) 1 rfl rfl rfl 44 (5) _ rfl cd_kj5 ?_
    refine q_cMz w_PM rfl (.invokevirtual 165) rfl rfl rfl 170 rfl [.ref 15, .int (2), .int (5)] [] rfl (k11_takesNumber_15 2 5 M7) (fun v9 M8 z10 => ?_)
    refine q_br w_PM (.ifCond .ne 5) 3 rfl rfl rfl (v9 = 0) 50 52 [] rfl (fun _ => ?_) (fun _ => ?_)
    · refine q_const (.iconst 0) 1 rfl rfl rfl 51 (0) _ rfl cd_kj0 ?_
      exact r_retZ rfl rfl (by decide)
    · refine r_ld (.aload_n 0) 1 2 0 (.ref 15) rfl rfl rfl rfl 53 rfl ?_
      refine r_go (.getfield 23) 3 rfl rfl rfl 56 [.ref 61] rfl ?_
      refine q_const (.bipush 6) 2 rfl rfl rfl 58 (6) _ rfl cd_kc6 ?_
      refine r_ld (.iload_n 1) 1 0 1 (.int (x5)) rfl rfl rfl rfl 59 rfl ?_
      refine r_go (.imul) 1 rfl rfl rfl 60 [.int (6 * x5), .ref 61] rfl ?_
      refine r_ld (.aload_n 0) 1 2 0 (.ref 15) rfl rfl rfl rfl 61 rfl ?_
      refine r_go (.getfield 152) 3 rfl rfl rfl 64 [.int (M8.1 15 10), .int (6 * x5), .ref 61] rfl ?_
      refine q_iast w_PM rfl rfl 61 48 rfl (fun M12 => ?_)
      refine r_ld (.aload_n 0) 1 2 0 (.ref 15) rfl rfl rfl rfl 66 rfl ?_
      refine r_go (.getfield 20) 3 rfl rfl rfl 69 [.ref 60] rfl ?_
      refine r_ld (.iload_n 1) 1 0 1 (.int (x5)) rfl rfl rfl rfl 70 rfl ?_
      refine q_const (.iconst 1) 1 rfl rfl rfl 71 (1) _ rfl cd_kj1 ?_
      refine q_iast w_PM rfl rfl 60 8 rfl (fun M13 => ?_)
      exact r_w (k11_cadenceHere_15_L72 cd_fu x5 M13) (cd_le_s (cd_le_s cd_le_0))
def f11_cadenceHere_15 (M : cd_M) : Option (Int32 × cd_M) := if 4 ≤ M.1 15 18 then (f11_cadenceHere_15_L14 0 M) else (f11_cadenceHere_15_L14 1 M)
set_option maxRecDepth 8000 in
theorem k11_cadenceHere_15 (M : cd_M) : cd_R 178 0 [some (.ref 15), none] [] M (w_PM (f11_cadenceHere_15 M)) := by
  unfold f11_cadenceHere_15
  refine r_ld (.aload_n 0) 1 2 0 (.ref 15) rfl rfl rfl rfl 1 rfl ?_
  refine r_ld (.aload_n 0) 1 2 0 (.ref 15) rfl rfl rfl rfl 2 rfl ?_
  refine r_go (.getfield 201) 3 rfl rfl rfl 5 [.int (M.1 15 18), .ref 15] rfl ?_
  refine q_const (.iconst 4) 1 rfl rfl rfl 6 (4) _ rfl cd_kj4 ?_
  refine q_br w_PM (.if_icmp .ge 7) 3 rfl rfl rfl (4 ≤ M.1 15 18) 13 9 [.ref 15] rfl (fun _ => ?_) (fun _ => ?_)
  · refine q_const (.iconst 0) 1 rfl rfl rfl 14 (0) _ rfl cd_kj0 ?_
    exact r_w (k11_cadenceHere_15_L14 0 M) (cd_le_s (cd_le_n cd_le_0))
  · refine q_const (.iconst 1) 1 rfl rfl rfl 10 (1) _ rfl cd_kj1 ?_
    refine r_go (.goto 4) 3 rfl rfl rfl 14 [.int (1), .ref 15] rfl ?_
    exact r_w (k11_cadenceHere_15_L14 1 M) (cd_le_s (cd_le_n cd_le_0))
def f11_lineHere_15_L36 (s0 : Int32) (M : cd_M) : Option (Int32 × cd_M) := if s0 = 0 then (some (0, M)) else ((f11_takesEnd_15 M).bind (cd_u2 fun v9 M8 => if v9 = 0 then (some (0, M8)) else (some (1, M8))))
set_option maxRecDepth 8000 in
theorem k11_lineHere_15_L36 (s0 : Int32) (M : cd_M) : cd_R 182 36 [some (.ref 15), none] [.int (s0)] M (w_PM (f11_lineHere_15_L36 s0 M)) := by
  unfold f11_lineHere_15_L36
  refine r_st (.istore_n 1) 1 0 1 rfl rfl rfl 37 rfl [some (.ref 15), some (.int (s0))] rfl ?_
  refine r_ld (.iload_n 1) 1 0 1 (.int (s0)) rfl rfl rfl rfl 38 rfl ?_
  refine q_br w_PM (.ifCond .eq 14) 3 rfl rfl rfl (s0 = 0) 52 41 [] rfl (fun _ => ?_) (fun _ => ?_)
  · refine q_const (.iconst 0) 1 rfl rfl rfl 53 (0) _ rfl cd_kj0 ?_
    exact r_retZ rfl rfl (by decide)
  · refine r_ld (.aload_n 0) 1 2 0 (.ref 15) rfl rfl rfl rfl 42 rfl ?_
    refine q_cMz w_PM rfl (.invokevirtual 173) rfl rfl rfl 169 rfl [.ref 15] [] rfl (k11_takesEnd_15 M) (fun v9 M8 z10 => ?_)
    refine q_br w_PM (.ifCond .eq 7) 3 rfl rfl rfl (v9 = 0) 52 48 [] rfl (fun _ => ?_) (fun _ => ?_)
    · refine q_const (.iconst 0) 1 rfl rfl rfl 53 (0) _ rfl cd_kj0 ?_
      exact r_retZ rfl rfl (by decide)
    · refine q_const (.iconst 1) 1 rfl rfl rfl 49 (1) _ rfl cd_kj1 ?_
      refine r_go (.goto 4) 3 rfl rfl rfl 53 [.int (1)] rfl ?_
      exact r_retZ rfl rfl (by decide)
def f11_lineHere_15 (M : cd_M) : Option (Int32 × cd_M) := (f11_isWord_15 99 97 100 101 110 99 101 M).bind fun v1 => if v1 = 0 then ((f11_ruleHere_15 M).bind fun v3 => (f11_oneRule_15 v3 M).bind (cd_u2 fun v5 M4 => f11_lineHere_15_L36 v5 M4)) else ((f11_cadenceHere_15 M).bind (cd_u2 fun v13 M12 => f11_lineHere_15_L36 v13 M12))
set_option maxRecDepth 8000 in
theorem k11_lineHere_15 (M : cd_M) : cd_R 182 0 [some (.ref 15), none] [] M (w_PM (f11_lineHere_15 M)) := by
  unfold f11_lineHere_15
  refine r_ld (.aload_n 0) 1 2 0 (.ref 15) rfl rfl rfl rfl 1 rfl ?_
  refine q_const (.bipush 99) 2 rfl rfl rfl 3 (99) _ rfl cd_kc99 ?_
  refine q_const (.bipush 97) 2 rfl rfl rfl 5 (97) _ rfl cd_kc97 ?_
  refine q_const (.bipush 100) 2 rfl rfl rfl 7 (100) _ rfl cd_kc100 ?_
  refine q_const (.bipush 101) 2 rfl rfl rfl 9 (101) _ rfl cd_kc101 ?_
  refine q_const (.bipush 110) 2 rfl rfl rfl 11 (110) _ rfl cd_kc110 ?_
  refine q_const (.bipush 99) 2 rfl rfl rfl 13 (99) _ rfl cd_kc99 ?_
  refine q_const (.bipush 101) 2 rfl rfl rfl 15 (101) _ rfl cd_kc101 ?_
  refine q_cIz w_PM rfl (.invokevirtual 141) rfl rfl rfl 167 rfl [.ref 15, .int (99), .int (97), .int (100), .int (101), .int (110), .int (99), .int (101)] [] rfl (k11_isWord_15 99 97 100 101 110 99 101 M) (fun v1 z2 => ?_)
  refine q_br w_PM (.ifCond .eq 10) 3 rfl rfl rfl (v1 = 0) 28 21 [] rfl (fun _ => ?_) (fun _ => ?_)
  · refine r_ld (.aload_n 0) 1 2 0 (.ref 15) rfl rfl rfl rfl 29 rfl ?_
    refine r_ld (.aload_n 0) 1 2 0 (.ref 15) rfl rfl rfl rfl 30 rfl ?_
    refine q_cI w_PM rfl (.invokevirtual 214) rfl rfl rfl 180 [.ref 15] [.ref 15] rfl (k11_ruleHere_15 M) (fun v3 => ?_)
    refine q_cMz w_PM rfl (.invokevirtual 217) rfl rfl rfl 181 rfl [.ref 15, .int (v3)] [] rfl (k11_oneRule_15 v3 M) (fun v5 M4 z6 => ?_)
    exact r_w (k11_lineHere_15_L36 v5 M4) (cd_le_s (cd_le_n cd_le_0))
  · refine r_ld (.aload_n 0) 1 2 0 (.ref 15) rfl rfl rfl rfl 22 rfl ?_
    refine q_cMz w_PM rfl (.invokevirtual 211) rfl rfl rfl 178 rfl [.ref 15] [] rfl (k11_cadenceHere_15 M) (fun v13 M12 z14 => ?_)
    refine r_go (.goto 11) 3 rfl rfl rfl 36 [.int (v13)] rfl ?_
    exact r_w (k11_lineHere_15_L36 v13 M12) (cd_le_s (cd_le_n cd_le_0))
def f11_readsRules_15_L29 (s0 : Int32) (M : cd_M) : Option (Int32 × cd_M) := cd_lt (f11_must_15 s0 1 M) (cd_u2 fun v2 M1 => some (v2, M1))
set_option maxRecDepth 8000 in
theorem k11_readsRules_15_L29 (s0 : Int32) (M : cd_M) : cd_R 183 29 [none] [.int (s0), .ref 15] M (w_PM (f11_readsRules_15_L29 s0 M)) := by
  unfold f11_readsRules_15_L29
  refine q_const (.iconst 1) 1 rfl rfl rfl 30 (1) _ rfl cd_kj1 ?_
  refine q_cTMz w_PM (.invokevirtual 145) rfl rfl rfl 166 rfl [.ref 15, .int (s0), .int (1)] [] rfl (k11_must_15 s0 1 M) (fun v2 M1 z3 => ?_)
  exact r_retZ rfl rfl z3
def f11_readsRules_15_L0 : Nat → cd_M → Option (Int32 × cd_M)
  | 0, _ => none
  | n + 1, M => if M.1 15 6 = 0 then (if M.1 15 18 ≤ 0 then (f11_readsRules_15_L29 0 M) else (f11_readsRules_15_L29 1 M)) else ((f11_lineHere_15 M).bind (cd_u2 fun v6 M5 => if v6 = 0 then (some (0, M5)) else (f11_readsRules_15_L0 n M5)))
set_option maxRecDepth 8000 in
theorem k11_readsRules_15_L0 : ∀ (n : Nat) (M : cd_M), cd_R 183 0 [some (.ref 15)] [] M (w_PM (f11_readsRules_15_L0 n M)) := by
  intro n
  induction n with
  | zero =>
    intro M
    exact q_none w_PM rfl
  | succ n ih =>
    intro M
    rw [f11_readsRules_15_L0]
    refine r_ld (.aload_n 0) 1 2 0 (.ref 15) rfl rfl rfl rfl 1 rfl ?_
    refine r_go (.getfield 117) 3 rfl rfl rfl 4 [.int (M.1 15 6)] rfl ?_
    refine q_br w_PM (.ifCond .eq 12) 3 rfl rfl rfl (M.1 15 6 = 0) 16 7 [] rfl (fun _ => ?_) (fun _ => ?_)
    · refine r_ld (.aload_n 0) 1 2 0 (.ref 15) rfl rfl rfl rfl 17 rfl ?_
      refine r_ld (.aload_n 0) 1 2 0 (.ref 15) rfl rfl rfl rfl 18 rfl ?_
      refine r_go (.getfield 201) 3 rfl rfl rfl 21 [.int (M.1 15 18), .ref 15] rfl ?_
      refine q_br w_PM (.ifCond .le 7) 3 rfl rfl rfl (M.1 15 18 ≤ 0) 28 24 [.ref 15] rfl (fun _ => ?_) (fun _ => ?_)
      · refine q_const (.iconst 0) 1 rfl rfl rfl 29 (0) _ rfl cd_kj0 ?_
        exact r_w (k11_readsRules_15_L29 0 M) (cd_le_n cd_le_0)
      · refine q_const (.iconst 1) 1 rfl rfl rfl 25 (1) _ rfl cd_kj1 ?_
        refine r_go (.goto 4) 3 rfl rfl rfl 29 [.int (1), .ref 15] rfl ?_
        exact r_w (k11_readsRules_15_L29 1 M) (cd_le_n cd_le_0)
    · refine r_ld (.aload_n 0) 1 2 0 (.ref 15) rfl rfl rfl rfl 8 rfl ?_
      refine q_cMz w_PM rfl (.invokevirtual 221) rfl rfl rfl 182 rfl [.ref 15] [] rfl (k11_lineHere_15 M) (fun v6 M5 z7 => ?_)
      refine q_br w_PM (.ifCond .ne (-11)) 3 rfl rfl rfl (v6 = 0) 14 0 [] rfl (fun _ => ?_) (fun _ => ?_)
      · refine q_const (.iconst 0) 1 rfl rfl rfl 15 (0) _ rfl cd_kj0 ?_
        exact r_retZ rfl rfl (by decide)
      · exact r_w (ih M5) (cd_le_s cd_le_0)
def f11_readsRules_15 (M : cd_M) : Option (Int32 × cd_M) := f11_readsRules_15_L0 cd_fu M
set_option maxRecDepth 8000 in
theorem k11_readsRules_15 (M : cd_M) : cd_R 183 0 [some (.ref 15)] [] M (w_PM (f11_readsRules_15 M)) := by
  unfold f11_readsRules_15
  exact r_w (k11_readsRules_15_L0 cd_fu M) (cd_le_s cd_le_0)
def f11_rules_15_L134 : Nat → Int32 → cd_M → Option (Int32 × cd_M)
  | 0, _, _ => none
  | n + 1, a2, M => if 5 ≤ a2 then (cd_lt (cd_wI M 15 26 0) fun M11 => cd_lt (cd_wI M11 15 23 0) fun M12 => some (M12.1 15 17, M12)) else (if cd_in (5 + a2) 10 = true then (if cd_in a2 10 = true then (cd_lt (cd_wI M 62 a2.toNatClampNeg (M.1 62 (5 + a2 : Int32).toNatClampNeg)) fun M13 => cd_lt (a2 + (1)) fun x14 => f11_rules_15_L134 n x14 M13) else none) else none)
set_option maxRecDepth 8000 in
theorem k11_rules_15_L134 : ∀ (n : Nat) (a2 : Int32) (M : cd_M), cd_R 184 134 [some (.ref 15), none, some (.int (a2))] [] M (w_PM (f11_rules_15_L134 n a2 M)) := by
  intro n
  induction n with
  | zero =>
    intro a2 M
    exact q_none w_PM rfl
  | succ n ih =>
    intro a2 M
    rw [f11_rules_15_L134]
    refine r_ld (.iload_n 2) 1 0 2 (.int (a2)) rfl rfl rfl rfl 135 rfl ?_
    refine q_const (.iconst 5) 1 rfl rfl rfl 136 (5) _ rfl cd_kj5 ?_
    refine q_br w_PM (.if_icmp .ge 23) 3 rfl rfl rfl (5 ≤ a2) 159 139 [] rfl (fun _ => ?_) (fun _ => ?_)
    · refine r_ld (.aload_n 0) 1 2 0 (.ref 15) rfl rfl rfl rfl 160 rfl ?_
      refine q_const (.iconst 0) 1 rfl rfl rfl 161 (0) _ rfl cd_kj0 ?_
      refine q_wr w_PM (.putfield 198) 3 rfl rfl rfl 164 [] (cd_wI M 15 26 0) rfl (fun M11 => ?_)
      refine r_ld (.aload_n 0) 1 2 0 (.ref 15) rfl rfl rfl rfl 165 rfl ?_
      refine q_const (.iconst 0) 1 rfl rfl rfl 166 (0) _ rfl cd_kj0 ?_
      refine q_wr w_PM (.putfield 227) 3 rfl rfl rfl 169 [] (cd_wI M11 15 23 0) rfl (fun M12 => ?_)
      refine r_ld (.aload_n 0) 1 2 0 (.ref 15) rfl rfl rfl rfl 170 rfl ?_
      refine r_go (.getfield 87) 3 rfl rfl rfl 173 [.int (M12.1 15 17)] rfl ?_
      exact r_ret .ireturn 1 rfl rfl rfl _ rfl
    · refine r_ld (.aload_n 0) 1 2 0 (.ref 15) rfl rfl rfl rfl 140 rfl ?_
      refine r_go (.getfield 26) 3 rfl rfl rfl 143 [.ref 62] rfl ?_
      refine r_ld (.iload_n 2) 1 0 2 (.int (a2)) rfl rfl rfl rfl 144 rfl ?_
      refine r_ld (.aload_n 0) 1 2 0 (.ref 15) rfl rfl rfl rfl 145 rfl ?_
      refine r_go (.getfield 26) 3 rfl rfl rfl 148 [.ref 62, .int (a2), .ref 62] rfl ?_
      refine q_const (.iconst 5) 1 rfl rfl rfl 149 (5) _ rfl cd_kj5 ?_
      refine r_ld (.iload_n 2) 1 0 2 (.int (a2)) rfl rfl rfl rfl 150 rfl ?_
      refine r_go (.iadd) 1 rfl rfl rfl 151 [.int (5 + a2), .ref 62, .int (a2), .ref 62] rfl ?_
      refine q_iald w_PM rfl rfl 62 10 rfl ?_
      refine q_iast w_PM rfl rfl 62 10 rfl (fun M13 => ?_)
      refine q_inc w_PM 2 (1) (a2) rfl rfl rfl 156 rfl (1) cd_kj1 (fun x14 => [some (.ref 15), none, some (.int (x14))]) (fun _ => rfl) (fun x14 => ?_)
      refine r_go (.goto (-22)) 3 rfl rfl rfl 134 [] rfl ?_
      exact r_w (ih x14 M13) (cd_le_s (cd_le_n (cd_le_s cd_le_0)))
def f11_rules_15_L105 : Nat → Int32 → cd_M → Option (Int32 × cd_M)
  | 0, _, _ => none
  | n + 1, a2, M => if 24 ≤ a2 then (f11_rules_15_L134 cd_fu 0 M) else (if cd_in (24 + a2) 48 = true then (if cd_in a2 48 = true then (cd_lt (cd_wI M 61 a2.toNatClampNeg (M.1 61 (24 + a2 : Int32).toNatClampNeg)) fun M15 => cd_lt (a2 + (1)) fun x16 => f11_rules_15_L105 n x16 M15) else none) else none)
set_option maxRecDepth 8000 in
theorem k11_rules_15_L105 : ∀ (n : Nat) (a2 : Int32) (M : cd_M), cd_R 184 105 [some (.ref 15), none, some (.int (a2))] [] M (w_PM (f11_rules_15_L105 n a2 M)) := by
  intro n
  induction n with
  | zero =>
    intro a2 M
    exact q_none w_PM rfl
  | succ n ih =>
    intro a2 M
    rw [f11_rules_15_L105]
    refine r_ld (.iload_n 2) 1 0 2 (.int (a2)) rfl rfl rfl rfl 106 rfl ?_
    refine q_const (.bipush 24) 2 rfl rfl rfl 108 (24) _ rfl cd_kc24 ?_
    refine q_br w_PM (.if_icmp .ge 24) 3 rfl rfl rfl (24 ≤ a2) 132 111 [] rfl (fun _ => ?_) (fun _ => ?_)
    · refine q_const (.iconst 0) 1 rfl rfl rfl 133 (0) _ rfl cd_kj0 ?_
      refine r_st (.istore_n 2) 1 0 2 rfl rfl rfl 134 rfl [some (.ref 15), none, some (.int (0))] rfl ?_
      exact r_w (k11_rules_15_L134 cd_fu 0 M) (cd_le_s (cd_le_n (cd_le_s cd_le_0)))
    · refine r_ld (.aload_n 0) 1 2 0 (.ref 15) rfl rfl rfl rfl 112 rfl ?_
      refine r_go (.getfield 23) 3 rfl rfl rfl 115 [.ref 61] rfl ?_
      refine r_ld (.iload_n 2) 1 0 2 (.int (a2)) rfl rfl rfl rfl 116 rfl ?_
      refine r_ld (.aload_n 0) 1 2 0 (.ref 15) rfl rfl rfl rfl 117 rfl ?_
      refine r_go (.getfield 23) 3 rfl rfl rfl 120 [.ref 61, .int (a2), .ref 61] rfl ?_
      refine q_const (.bipush 24) 2 rfl rfl rfl 122 (24) _ rfl cd_kc24 ?_
      refine r_ld (.iload_n 2) 1 0 2 (.int (a2)) rfl rfl rfl rfl 123 rfl ?_
      refine r_go (.iadd) 1 rfl rfl rfl 124 [.int (24 + a2), .ref 61, .int (a2), .ref 61] rfl ?_
      refine q_iald w_PM rfl rfl 61 48 rfl ?_
      refine q_iast w_PM rfl rfl 61 48 rfl (fun M15 => ?_)
      refine q_inc w_PM 2 (1) (a2) rfl rfl rfl 129 rfl (1) cd_kj1 (fun x16 => [some (.ref 15), none, some (.int (x16))]) (fun _ => rfl) (fun x16 => ?_)
      refine r_go (.goto (-24)) 3 rfl rfl rfl 105 [] rfl ?_
      exact r_w (ih x16 M15) (cd_le_s (cd_le_n (cd_le_s cd_le_0)))
def f11_rules_15_L78 : Nat → Int32 → cd_M → Option (Int32 × cd_M)
  | 0, _, _ => none
  | n + 1, a2, M => if 4 ≤ a2 then (f11_rules_15_L105 cd_fu 0 M) else (if cd_in (4 + a2) 8 = true then (if cd_in a2 8 = true then (cd_lt (cd_wI M 60 a2.toNatClampNeg (M.1 60 (4 + a2 : Int32).toNatClampNeg)) fun M17 => cd_lt (a2 + (1)) fun x18 => f11_rules_15_L78 n x18 M17) else none) else none)
set_option maxRecDepth 8000 in
theorem k11_rules_15_L78 : ∀ (n : Nat) (a2 : Int32) (M : cd_M), cd_R 184 78 [some (.ref 15), none, some (.int (a2))] [] M (w_PM (f11_rules_15_L78 n a2 M)) := by
  intro n
  induction n with
  | zero =>
    intro a2 M
    exact q_none w_PM rfl
  | succ n ih =>
    intro a2 M
    rw [f11_rules_15_L78]
    refine r_ld (.iload_n 2) 1 0 2 (.int (a2)) rfl rfl rfl rfl 79 rfl ?_
    refine q_const (.iconst 4) 1 rfl rfl rfl 80 (4) _ rfl cd_kj4 ?_
    refine q_br w_PM (.if_icmp .ge 23) 3 rfl rfl rfl (4 ≤ a2) 103 83 [] rfl (fun _ => ?_) (fun _ => ?_)
    · refine q_const (.iconst 0) 1 rfl rfl rfl 104 (0) _ rfl cd_kj0 ?_
      refine r_st (.istore_n 2) 1 0 2 rfl rfl rfl 105 rfl [some (.ref 15), none, some (.int (0))] rfl ?_
      exact r_w (k11_rules_15_L105 cd_fu 0 M) (cd_le_s (cd_le_n (cd_le_s cd_le_0)))
    · refine r_ld (.aload_n 0) 1 2 0 (.ref 15) rfl rfl rfl rfl 84 rfl ?_
      refine r_go (.getfield 20) 3 rfl rfl rfl 87 [.ref 60] rfl ?_
      refine r_ld (.iload_n 2) 1 0 2 (.int (a2)) rfl rfl rfl rfl 88 rfl ?_
      refine r_ld (.aload_n 0) 1 2 0 (.ref 15) rfl rfl rfl rfl 89 rfl ?_
      refine r_go (.getfield 20) 3 rfl rfl rfl 92 [.ref 60, .int (a2), .ref 60] rfl ?_
      refine q_const (.iconst 4) 1 rfl rfl rfl 93 (4) _ rfl cd_kj4 ?_
      refine r_ld (.iload_n 2) 1 0 2 (.int (a2)) rfl rfl rfl rfl 94 rfl ?_
      refine r_go (.iadd) 1 rfl rfl rfl 95 [.int (4 + a2), .ref 60, .int (a2), .ref 60] rfl ?_
      refine q_iald w_PM rfl rfl 60 8 rfl ?_
      refine q_iast w_PM rfl rfl 60 8 rfl (fun M17 => ?_)
      refine q_inc w_PM 2 (1) (a2) rfl rfl rfl 100 rfl (1) cd_kj1 (fun x18 => [some (.ref 15), none, some (.int (x18))]) (fun _ => rfl) (fun x18 => ?_)
      refine r_go (.goto (-22)) 3 rfl rfl rfl 78 [] rfl ?_
      exact r_w (ih x18 M17) (cd_le_s (cd_le_n (cd_le_s cd_le_0)))
def f11_rules_15_L38 : Nat → Int32 → cd_M → Option (Int32 × cd_M)
  | 0, _, _ => none
  | n + 1, a2, M => if 5 ≤ a2 then ((f11_readsRules_15 M).bind (cd_u2 fun v7 M6 => if v7 = 0 then (some (f11_told_15 M6, M6)) else (cd_lt (cd_wI M6 15 17 (M6.1 15 18)) fun M10 => f11_rules_15_L78 cd_fu 0 M10))) else (if cd_in a2 5 = true then (cd_lt (cd_wI M 63 a2.toNatClampNeg (vp_nar .boolean 0)) fun M19 => cd_lt (a2 + (1)) fun x20 => f11_rules_15_L38 n x20 M19) else none)
set_option maxRecDepth 8000 in
theorem k11_rules_15_L38 : ∀ (n : Nat) (a2 : Int32) (M : cd_M), cd_R 184 38 [some (.ref 15), none, some (.int (a2))] [] M (w_PM (f11_rules_15_L38 n a2 M)) := by
  intro n
  induction n with
  | zero =>
    intro a2 M
    exact q_none w_PM rfl
  | succ n ih =>
    intro a2 M
    rw [f11_rules_15_L38]
    refine r_ld (.iload_n 2) 1 0 2 (.int (a2)) rfl rfl rfl rfl 39 rfl ?_
    refine q_const (.iconst 5) 1 rfl rfl rfl 40 (5) _ rfl cd_kj5 ?_
    refine q_br w_PM (.if_icmp .ge 16) 3 rfl rfl rfl (5 ≤ a2) 56 43 [] rfl (fun _ => ?_) (fun _ => ?_)
    · refine r_ld (.aload_n 0) 1 2 0 (.ref 15) rfl rfl rfl rfl 57 rfl ?_
      refine q_cMz w_PM rfl (.invokevirtual 224) rfl rfl rfl 183 rfl [.ref 15] [] rfl (k11_readsRules_15 M) (fun v7 M6 z8 => ?_)
      refine q_br w_PM (.ifCond .ne 8) 3 rfl rfl rfl (v7 = 0) 63 68 [] rfl (fun _ => ?_) (fun _ => ?_)
      · refine r_ld (.aload_n 0) 1 2 0 (.ref 15) rfl rfl rfl rfl 64 rfl ?_
        refine q_cTI (.invokevirtual 185) rfl rfl rfl 172 [.ref 15] [] rfl (k11_told_15 M6) ?_
        exact r_ret .ireturn 1 rfl rfl rfl _ rfl
      · refine r_ld (.aload_n 0) 1 2 0 (.ref 15) rfl rfl rfl rfl 69 rfl ?_
        refine r_ld (.aload_n 0) 1 2 0 (.ref 15) rfl rfl rfl rfl 70 rfl ?_
        refine r_go (.getfield 201) 3 rfl rfl rfl 73 [.int (M6.1 15 18), .ref 15] rfl ?_
        refine q_wr w_PM (.putfield 87) 3 rfl rfl rfl 76 [] (cd_wI M6 15 17 (M6.1 15 18)) rfl (fun M10 => ?_)
        refine q_const (.iconst 0) 1 rfl rfl rfl 77 (0) _ rfl cd_kj0 ?_
        refine r_st (.istore_n 2) 1 0 2 rfl rfl rfl 78 rfl [some (.ref 15), none, some (.int (0))] rfl ?_
        exact r_w (k11_rules_15_L78 cd_fu 0 M10) (cd_le_s (cd_le_n (cd_le_s cd_le_0)))
    · refine r_ld (.aload_n 0) 1 2 0 (.ref 15) rfl rfl rfl rfl 44 rfl ?_
      refine r_go (.getfield 29) 3 rfl rfl rfl 47 [.ref 63] rfl ?_
      refine r_ld (.iload_n 2) 1 0 2 (.int (a2)) rfl rfl rfl rfl 48 rfl ?_
      refine q_const (.iconst 0) 1 rfl rfl rfl 49 (0) _ rfl cd_kj0 ?_
      refine q_zast w_PM rfl rfl 63 5 rfl (fun M19 => ?_)
      refine q_inc w_PM 2 (1) (a2) rfl rfl rfl 53 rfl (1) cd_kj1 (fun x20 => [some (.ref 15), none, some (.int (x20))]) (fun _ => rfl) (fun x20 => ?_)
      refine r_go (.goto (-15)) 3 rfl rfl rfl 38 [] rfl ?_
      exact r_w (ih x20 M19) (cd_le_s (cd_le_n (cd_le_s cd_le_0)))
def f11_rules_15 (a1 : Int32) (M : cd_M) : Option (Int32 × cd_M) := cd_lt (cd_wI M 15 0 0) fun M1 => if f11_within (a1.toInt64) 0 ((M1.1 15 2 : Int32).toInt64) M1 = 0 then (some ((-1), M1)) else ((f11_begins_15 a1 M1).bind fun M3 => cd_lt (cd_wI M3 15 18 0) fun M4 => (f11_asAtFirst_15 1 M4).bind fun M5 => f11_rules_15_L38 cd_fu 0 M5)
set_option maxRecDepth 8000 in
theorem k11_rules_15 (a1 : Int32) (M : cd_M) : cd_R 184 0 [some (.ref 15), some (.int (a1)), none] [] M (w_PM (f11_rules_15 a1 M)) := by
  unfold f11_rules_15
  refine r_ld (.aload_n 0) 1 2 0 (.ref 15) rfl rfl rfl rfl 1 rfl ?_
  refine q_const (.iconst 0) 1 rfl rfl rfl 2 (0) _ rfl cd_kj0 ?_
  refine q_wr w_PM (.putfield 95) 3 rfl rfl rfl 5 [] (cd_wI M 15 0 0) rfl (fun M1 => ?_)
  refine r_ld (.iload_n 1) 1 0 1 (.int (a1)) rfl rfl rfl rfl 6 rfl ?_
  refine r_go (.i2l) 1 rfl rfl rfl 7 [.long (a1.toInt64)] rfl ?_
  refine r_go (.lconst 0) 1 rfl rfl rfl 8 [.long (0), .long (a1.toInt64)] rfl ?_
  refine r_ld (.aload_n 0) 1 2 0 (.ref 15) rfl rfl rfl rfl 9 rfl ?_
  refine r_go (.getfield 98) 3 rfl rfl rfl 12 [.int (M1.1 15 2), .long (0), .long (a1.toInt64)] rfl ?_
  refine r_go (.i2l) 1 rfl rfl rfl 13 [.long ((M1.1 15 2 : Int32).toInt64), .long (0), .long (a1.toInt64)] rfl ?_
  refine q_cTIz (.invokestatic 127) rfl rfl rfl 161 rfl [.long (a1.toInt64), .long (0), .long ((M1.1 15 2 : Int32).toInt64)] [] rfl (k11_within (a1.toInt64) 0 ((M1.1 15 2 : Int32).toInt64) M1) (fun z2 => ?_)
  refine q_br w_PM (.ifCond .ne 5) 3 rfl rfl rfl (f11_within (a1.toInt64) 0 ((M1.1 15 2 : Int32).toInt64) M1 = 0) 19 21 [] rfl (fun _ => ?_) (fun _ => ?_)
  · refine q_const (.iconst (-1)) 1 rfl rfl rfl 20 (-1) _ rfl cd_kjm1 ?_
    exact r_ret .ireturn 1 rfl rfl rfl _ rfl
  · refine r_ld (.aload_n 0) 1 2 0 (.ref 15) rfl rfl rfl rfl 22 rfl ?_
    refine r_ld (.iload_n 1) 1 0 1 (.int (a1)) rfl rfl rfl rfl 23 rfl ?_
    refine q_cV w_PM rfl (.invokevirtual 179) rfl rfl rfl 171 [.ref 15, .int (a1)] [] rfl (k11_begins_15 a1 M1) (fun M3 => ?_)
    refine r_ld (.aload_n 0) 1 2 0 (.ref 15) rfl rfl rfl rfl 27 rfl ?_
    refine q_const (.iconst 0) 1 rfl rfl rfl 28 (0) _ rfl cd_kj0 ?_
    refine q_wr w_PM (.putfield 201) 3 rfl rfl rfl 31 [] (cd_wI M3 15 18 0) rfl (fun M4 => ?_)
    refine r_ld (.aload_n 0) 1 2 0 (.ref 15) rfl rfl rfl rfl 32 rfl ?_
    refine q_const (.iconst 1) 1 rfl rfl rfl 33 (1) _ rfl cd_kj1 ?_
    refine q_cV w_PM rfl (.invokevirtual 91) rfl rfl rfl 177 [.ref 15, .int (1)] [] rfl (k11_asAtFirst_15 1 M4) (fun M5 => ?_)
    refine q_const (.iconst 0) 1 rfl rfl rfl 37 (0) _ rfl cd_kj0 ?_
    refine r_st (.istore_n 2) 1 0 2 rfl rfl rfl 38 rfl [some (.ref 15), some (.int (a1)), some (.int (0))] rfl ?_
    exact r_w (k11_rules_15_L38 cd_fu 0 M5) (cd_le_s (cd_le_n (cd_le_s cd_le_0)))
def f11_frame_15 (a1 : Int32) (a2 : Int32) (a3 : Int32) (M : cd_M) : Option (Int32 × cd_M) := cd_lt (cd_wI M 15 0 0) fun M1 => if f11_within (a1.toInt64) 0 (((M1.1 15 12) - 1 : Int32).toInt64) M1 = 0 then (some ((-1), M1)) else (if f11_within (a2.toInt64) 0 1 M1 = 0 then (some ((-1), M1)) else (if f11_within (a3.toInt64) 0 (((M1.1 15 11) - 1 : Int32).toInt64) M1 = 0 then (some ((-1), M1)) else (if cd_in (f11_filmAt a1 a2 a3 M1) 240 = true then (some (M1.1 58 (f11_filmAt a1 a2 a3 M1 : Int32).toNatClampNeg, M1)) else none)))
set_option maxRecDepth 8000 in
theorem k11_frame_15 (a1 : Int32) (a2 : Int32) (a3 : Int32) (M : cd_M) : cd_R 186 0 [some (.ref 15), some (.int (a1)), some (.int (a2)), some (.int (a3))] [] M (w_PM (f11_frame_15 a1 a2 a3 M)) := by
  unfold f11_frame_15
  refine r_ld (.aload_n 0) 1 2 0 (.ref 15) rfl rfl rfl rfl 1 rfl ?_
  refine q_const (.iconst 0) 1 rfl rfl rfl 2 (0) _ rfl cd_kj0 ?_
  refine q_wr w_PM (.putfield 95) 3 rfl rfl rfl 5 [] (cd_wI M 15 0 0) rfl (fun M1 => ?_)
  refine r_ld (.iload_n 1) 1 0 1 (.int (a1)) rfl rfl rfl rfl 6 rfl ?_
  refine r_go (.i2l) 1 rfl rfl rfl 7 [.long (a1.toInt64)] rfl ?_
  refine r_go (.lconst 0) 1 rfl rfl rfl 8 [.long (0), .long (a1.toInt64)] rfl ?_
  refine r_ld (.aload_n 0) 1 2 0 (.ref 15) rfl rfl rfl rfl 9 rfl ?_
  refine r_go (.getfield 192) 3 rfl rfl rfl 12 [.int (M1.1 15 12), .long (0), .long (a1.toInt64)] rfl ?_
  refine q_const (.iconst 1) 1 rfl rfl rfl 13 (1) _ rfl cd_kj1 ?_
  refine r_go (.isub) 1 rfl rfl rfl 14 [.int ((M1.1 15 12) - 1), .long (0), .long (a1.toInt64)] rfl ?_
  refine r_go (.i2l) 1 rfl rfl rfl 15 [.long (((M1.1 15 12) - 1 : Int32).toInt64), .long (0), .long (a1.toInt64)] rfl ?_
  refine q_cTIz (.invokestatic 127) rfl rfl rfl 161 rfl [.long (a1.toInt64), .long (0), .long (((M1.1 15 12) - 1 : Int32).toInt64)] [] rfl (k11_within (a1.toInt64) 0 (((M1.1 15 12) - 1 : Int32).toInt64) M1) (fun z2 => ?_)
  refine q_br w_PM (.ifCond .eq 43) 3 rfl rfl rfl (f11_within (a1.toInt64) 0 (((M1.1 15 12) - 1 : Int32).toInt64) M1 = 0) 61 21 [] rfl (fun _ => ?_) (fun _ => ?_)
  · refine q_const (.iconst (-1)) 1 rfl rfl rfl 62 (-1) _ rfl cd_kjm1 ?_
    exact r_ret .ireturn 1 rfl rfl rfl _ rfl
  · refine r_ld (.iload_n 2) 1 0 2 (.int (a2)) rfl rfl rfl rfl 22 rfl ?_
    refine r_go (.i2l) 1 rfl rfl rfl 23 [.long (a2.toInt64)] rfl ?_
    refine r_go (.lconst 0) 1 rfl rfl rfl 24 [.long (0), .long (a2.toInt64)] rfl ?_
    refine r_go (.lconst 1) 1 rfl rfl rfl 25 [.long (1), .long (0), .long (a2.toInt64)] rfl ?_
    refine q_cTIz (.invokestatic 127) rfl rfl rfl 161 rfl [.long (a2.toInt64), .long (0), .long (1)] [] rfl (k11_within (a2.toInt64) 0 1 M1) (fun z3 => ?_)
    refine q_br w_PM (.ifCond .eq 33) 3 rfl rfl rfl (f11_within (a2.toInt64) 0 1 M1 = 0) 61 31 [] rfl (fun _ => ?_) (fun _ => ?_)
    · refine q_const (.iconst (-1)) 1 rfl rfl rfl 62 (-1) _ rfl cd_kjm1 ?_
      exact r_ret .ireturn 1 rfl rfl rfl _ rfl
    · refine r_ld (.iload_n 3) 1 0 3 (.int (a3)) rfl rfl rfl rfl 32 rfl ?_
      refine r_go (.i2l) 1 rfl rfl rfl 33 [.long (a3.toInt64)] rfl ?_
      refine r_go (.lconst 0) 1 rfl rfl rfl 34 [.long (0), .long (a3.toInt64)] rfl ?_
      refine r_ld (.aload_n 0) 1 2 0 (.ref 15) rfl rfl rfl rfl 35 rfl ?_
      refine r_go (.getfield 189) 3 rfl rfl rfl 38 [.int (M1.1 15 11), .long (0), .long (a3.toInt64)] rfl ?_
      refine q_const (.iconst 1) 1 rfl rfl rfl 39 (1) _ rfl cd_kj1 ?_
      refine r_go (.isub) 1 rfl rfl rfl 40 [.int ((M1.1 15 11) - 1), .long (0), .long (a3.toInt64)] rfl ?_
      refine r_go (.i2l) 1 rfl rfl rfl 41 [.long (((M1.1 15 11) - 1 : Int32).toInt64), .long (0), .long (a3.toInt64)] rfl ?_
      refine q_cTIz (.invokestatic 127) rfl rfl rfl 161 rfl [.long (a3.toInt64), .long (0), .long (((M1.1 15 11) - 1 : Int32).toInt64)] [] rfl (k11_within (a3.toInt64) 0 (((M1.1 15 11) - 1 : Int32).toInt64) M1) (fun z4 => ?_)
      refine q_br w_PM (.ifCond .eq 17) 3 rfl rfl rfl (f11_within (a3.toInt64) 0 (((M1.1 15 11) - 1 : Int32).toInt64) M1 = 0) 61 47 [] rfl (fun _ => ?_) (fun _ => ?_)
      · refine q_const (.iconst (-1)) 1 rfl rfl rfl 62 (-1) _ rfl cd_kjm1 ?_
        exact r_ret .ireturn 1 rfl rfl rfl _ rfl
      · refine r_ld (.aload_n 0) 1 2 0 (.ref 15) rfl rfl rfl rfl 48 rfl ?_
        refine r_go (.getfield 13) 3 rfl rfl rfl 51 [.ref 58] rfl ?_
        refine r_ld (.iload_n 1) 1 0 1 (.int (a1)) rfl rfl rfl rfl 52 rfl ?_
        refine r_ld (.iload_n 2) 1 0 2 (.int (a2)) rfl rfl rfl rfl 53 rfl ?_
        refine r_ld (.iload_n 3) 1 0 3 (.int (a3)) rfl rfl rfl rfl 54 rfl ?_
        refine q_cTI (.invokestatic 169) rfl rfl rfl 173 [.int (a1), .int (a2), .int (a3)] [.ref 58] rfl (k11_filmAt a1 a2 a3 M1) ?_
        refine q_iald w_PM rfl rfl 58 240 rfl ?_
        refine r_go (.goto 4) 3 rfl rfl rfl 62 [.int (M1.1 58 (f11_filmAt a1 a2 a3 M1 : Int32).toNatClampNeg)] rfl ?_
        exact r_ret .ireturn 1 rfl rfl rfl _ rfl
def f11_isCadence_15 (a1 : Int32) (M : cd_M) : Int32 := (f11_within (a1.toInt64) 0 (((M.1 15 17) - 1 : Int32).toInt64) M)
set_option maxRecDepth 8000 in
theorem k11_isCadence_15 (a1 : Int32) (M : cd_M) : cd_R 185 0 [some (.ref 15), some (.int (a1))] [] M ((w_TI M) (f11_isCadence_15 a1 M)) := by
  unfold f11_isCadence_15
  refine r_ld (.iload_n 1) 1 0 1 (.int (a1)) rfl rfl rfl rfl 1 rfl ?_
  refine r_go (.i2l) 1 rfl rfl rfl 2 [.long (a1.toInt64)] rfl ?_
  refine r_go (.lconst 0) 1 rfl rfl rfl 3 [.long (0), .long (a1.toInt64)] rfl ?_
  refine r_ld (.aload_n 0) 1 2 0 (.ref 15) rfl rfl rfl rfl 4 rfl ?_
  refine r_go (.getfield 87) 3 rfl rfl rfl 7 [.int (M.1 15 17), .long (0), .long (a1.toInt64)] rfl ?_
  refine q_const (.iconst 1) 1 rfl rfl rfl 8 (1) _ rfl cd_kj1 ?_
  refine r_go (.isub) 1 rfl rfl rfl 9 [.int ((M.1 15 17) - 1), .long (0), .long (a1.toInt64)] rfl ?_
  refine r_go (.i2l) 1 rfl rfl rfl 10 [.long (((M.1 15 17) - 1 : Int32).toInt64), .long (0), .long (a1.toInt64)] rfl ?_
  refine q_cTIz (.invokestatic 127) rfl rfl rfl 161 rfl [.long (a1.toInt64), .long (0), .long (((M.1 15 17) - 1 : Int32).toInt64)] [] rfl (k11_within (a1.toInt64) 0 (((M.1 15 17) - 1 : Int32).toInt64) M) (fun z1 => ?_)
  exact r_retZ rfl rfl z1
def f11_cadence_15 (a1 : Int32) (a2 : Int32) (M : cd_M) : Option (Int32 × cd_M) := cd_lt (cd_wI M 15 0 0) fun M1 => if f11_isCadence_15 a1 M1 = 0 then (some ((-1), M1)) else (if a2 = (-1) then (if cd_in a1 8 = true then (some (M1.1 60 a1.toNatClampNeg, M1)) else none) else (if cd_in a1 8 = true then (if f11_within (a2.toInt64) 0 (((M1.1 60 a1.toNatClampNeg) - 1 : Int32).toInt64) M1 = 0 then (some ((-1), M1)) else (if cd_in ((6 * a1) + a2) 48 = true then (some (M1.1 61 ((6 * a1) + a2 : Int32).toNatClampNeg, M1)) else none)) else none))
set_option maxRecDepth 8000 in
theorem k11_cadence_15 (a1 : Int32) (a2 : Int32) (M : cd_M) : cd_R 187 0 [some (.ref 15), some (.int (a1)), some (.int (a2))] [] M (w_PM (f11_cadence_15 a1 a2 M)) := by
  unfold f11_cadence_15
  refine r_ld (.aload_n 0) 1 2 0 (.ref 15) rfl rfl rfl rfl 1 rfl ?_
  refine q_const (.iconst 0) 1 rfl rfl rfl 2 (0) _ rfl cd_kj0 ?_
  refine q_wr w_PM (.putfield 95) 3 rfl rfl rfl 5 [] (cd_wI M 15 0 0) rfl (fun M1 => ?_)
  refine r_ld (.aload_n 0) 1 2 0 (.ref 15) rfl rfl rfl rfl 6 rfl ?_
  refine r_ld (.iload_n 1) 1 0 1 (.int (a1)) rfl rfl rfl rfl 7 rfl ?_
  refine q_cTIz (.invokevirtual 230) rfl rfl rfl 185 rfl [.ref 15, .int (a1)] [] rfl (k11_isCadence_15 a1 M1) (fun z2 => ?_)
  refine q_br w_PM (.ifCond .ne 5) 3 rfl rfl rfl (f11_isCadence_15 a1 M1 = 0) 13 15 [] rfl (fun _ => ?_) (fun _ => ?_)
  · refine q_const (.iconst (-1)) 1 rfl rfl rfl 14 (-1) _ rfl cd_kjm1 ?_
    exact r_ret .ireturn 1 rfl rfl rfl _ rfl
  · refine r_ld (.iload_n 2) 1 0 2 (.int (a2)) rfl rfl rfl rfl 16 rfl ?_
    refine q_const (.iconst (-1)) 1 rfl rfl rfl 17 (-1) _ rfl cd_kjm1 ?_
    refine q_br w_PM (.if_icmp .ne 12) 3 rfl rfl rfl (a2 = (-1)) 20 29 [] rfl (fun _ => ?_) (fun _ => ?_)
    · refine r_ld (.aload_n 0) 1 2 0 (.ref 15) rfl rfl rfl rfl 21 rfl ?_
      refine r_go (.getfield 20) 3 rfl rfl rfl 24 [.ref 60] rfl ?_
      refine r_ld (.iload_n 1) 1 0 1 (.int (a1)) rfl rfl rfl rfl 25 rfl ?_
      refine q_iald w_PM rfl rfl 60 8 rfl ?_
      refine r_go (.goto 36) 3 rfl rfl rfl 62 [.int (M1.1 60 a1.toNatClampNeg)] rfl ?_
      exact r_ret .ireturn 1 rfl rfl rfl _ rfl
    · refine r_ld (.iload_n 2) 1 0 2 (.int (a2)) rfl rfl rfl rfl 30 rfl ?_
      refine r_go (.i2l) 1 rfl rfl rfl 31 [.long (a2.toInt64)] rfl ?_
      refine r_go (.lconst 0) 1 rfl rfl rfl 32 [.long (0), .long (a2.toInt64)] rfl ?_
      refine r_ld (.aload_n 0) 1 2 0 (.ref 15) rfl rfl rfl rfl 33 rfl ?_
      refine r_go (.getfield 20) 3 rfl rfl rfl 36 [.ref 60, .long (0), .long (a2.toInt64)] rfl ?_
      refine r_ld (.iload_n 1) 1 0 1 (.int (a1)) rfl rfl rfl rfl 37 rfl ?_
      refine q_iald w_PM rfl rfl 60 8 rfl ?_
      refine q_const (.iconst 1) 1 rfl rfl rfl 39 (1) _ rfl cd_kj1 ?_
      refine r_go (.isub) 1 rfl rfl rfl 40 [.int ((M1.1 60 a1.toNatClampNeg) - 1), .long (0), .long (a2.toInt64)] rfl ?_
      refine r_go (.i2l) 1 rfl rfl rfl 41 [.long (((M1.1 60 a1.toNatClampNeg) - 1 : Int32).toInt64), .long (0), .long (a2.toInt64)] rfl ?_
      refine q_cTIz (.invokestatic 127) rfl rfl rfl 161 rfl [.long (a2.toInt64), .long (0), .long (((M1.1 60 a1.toNatClampNeg) - 1 : Int32).toInt64)] [] rfl (k11_within (a2.toInt64) 0 (((M1.1 60 a1.toNatClampNeg) - 1 : Int32).toInt64) M1) (fun z3 => ?_)
      refine q_br w_PM (.ifCond .eq 17) 3 rfl rfl rfl (f11_within (a2.toInt64) 0 (((M1.1 60 a1.toNatClampNeg) - 1 : Int32).toInt64) M1 = 0) 61 47 [] rfl (fun _ => ?_) (fun _ => ?_)
      · refine q_const (.iconst (-1)) 1 rfl rfl rfl 62 (-1) _ rfl cd_kjm1 ?_
        exact r_ret .ireturn 1 rfl rfl rfl _ rfl
      · refine r_ld (.aload_n 0) 1 2 0 (.ref 15) rfl rfl rfl rfl 48 rfl ?_
        refine r_go (.getfield 23) 3 rfl rfl rfl 51 [.ref 61] rfl ?_
        refine q_const (.bipush 6) 2 rfl rfl rfl 53 (6) _ rfl cd_kc6 ?_
        refine r_ld (.iload_n 1) 1 0 1 (.int (a1)) rfl rfl rfl rfl 54 rfl ?_
        refine r_go (.imul) 1 rfl rfl rfl 55 [.int (6 * a1), .ref 61] rfl ?_
        refine r_ld (.iload_n 2) 1 0 2 (.int (a2)) rfl rfl rfl rfl 56 rfl ?_
        refine r_go (.iadd) 1 rfl rfl rfl 57 [.int ((6 * a1) + a2), .ref 61] rfl ?_
        refine q_iald w_PM rfl rfl 61 48 rfl ?_
        refine r_go (.goto 4) 3 rfl rfl rfl 62 [.int (M1.1 61 ((6 * a1) + a2 : Int32).toNatClampNeg)] rfl ?_
        exact r_ret .ireturn 1 rfl rfl rfl _ rfl
def f11_force_15 (a1 : Int32) (M : cd_M) : Int32 × cd_M := cd_lt (cd_wI M 15 0 0) fun M1 => if f11_isCadence_15 a1 M1 = 0 then (((-1), M1)) else (cd_lt (M1.1 15 23) fun x3 => cd_lt (cd_wI M1 15 23 a1) fun M4 => (x3, M4))
set_option maxRecDepth 8000 in
theorem k11_force_15 (a1 : Int32) (M : cd_M) : cd_R 188 0 [some (.ref 15), some (.int (a1)), none] [] M (w_TM (f11_force_15 a1 M)) := by
  unfold f11_force_15
  refine r_ld (.aload_n 0) 1 2 0 (.ref 15) rfl rfl rfl rfl 1 rfl ?_
  refine q_const (.iconst 0) 1 rfl rfl rfl 2 (0) _ rfl cd_kj0 ?_
  refine q_wr w_TM (.putfield 95) 3 rfl rfl rfl 5 [] (cd_wI M 15 0 0) rfl (fun M1 => ?_)
  refine r_ld (.aload_n 0) 1 2 0 (.ref 15) rfl rfl rfl rfl 6 rfl ?_
  refine r_ld (.iload_n 1) 1 0 1 (.int (a1)) rfl rfl rfl rfl 7 rfl ?_
  refine q_cTIz (.invokevirtual 230) rfl rfl rfl 185 rfl [.ref 15, .int (a1)] [] rfl (k11_isCadence_15 a1 M1) (fun z2 => ?_)
  refine q_br w_TM (.ifCond .ne 5) 3 rfl rfl rfl (f11_isCadence_15 a1 M1 = 0) 13 15 [] rfl (fun _ => ?_) (fun _ => ?_)
  · refine q_const (.iconst (-1)) 1 rfl rfl rfl 14 (-1) _ rfl cd_kjm1 ?_
    exact r_ret .ireturn 1 rfl rfl rfl _ rfl
  · refine r_ld (.aload_n 0) 1 2 0 (.ref 15) rfl rfl rfl rfl 16 rfl ?_
    refine r_go (.getfield 227) 3 rfl rfl rfl 19 [.int (M1.1 15 23)] rfl ?_
    refine q_stB w_TM (.istore_n 2) 1 0 2 rfl rfl (fun _ => rfl) 20 rfl (fun x3 => [some (.ref 15), some (.int (a1)), some (.int (x3))]) (fun _ => rfl) (fun x3 => ?_)
    refine r_ld (.aload_n 0) 1 2 0 (.ref 15) rfl rfl rfl rfl 21 rfl ?_
    refine r_ld (.iload_n 1) 1 0 1 (.int (a1)) rfl rfl rfl rfl 22 rfl ?_
    refine q_wr w_TM (.putfield 227) 3 rfl rfl rfl 25 [] (cd_wI M1 15 23 a1) rfl (fun M4 => ?_)
    refine r_ld (.iload_n 2) 1 0 2 (.int (x3)) rfl rfl rfl rfl 26 rfl ?_
    exact r_ret .ireturn 1 rfl rfl rfl _ rfl
def f11_keeps_15_L93 : Nat → Int32 → cd_M → Option cd_M
  | 0, _, _ => none
  | n + 1, a1, M => if 630 ≤ a1 then (cd_lt (cd_wI M 15 26 ((M.1 15 26) + 1)) fun M3 => some M3) else (if cd_in a1 630 = true then (if cd_in ((630 * (M.1 15 26)) + a1) 7560 = true then (cd_lt (cd_wI M 66 ((630 * (M.1 15 26)) + a1 : Int32).toNatClampNeg (M.1 64 a1.toNatClampNeg)) fun M4 => cd_lt (a1 + (1)) fun x5 => f11_keeps_15_L93 n x5 M4) else none) else none)
set_option maxRecDepth 8000 in
theorem k11_keeps_15_L93 : ∀ (n : Nat) (a1 : Int32) (M : cd_M), cd_R 193 93 [some (.ref 15), some (.int (a1))] [] M (w_PV (f11_keeps_15_L93 n a1 M)) := by
  intro n
  induction n with
  | zero =>
    intro a1 M
    exact q_none w_PV rfl
  | succ n ih =>
    intro a1 M
    rw [f11_keeps_15_L93]
    refine r_ld (.iload_n 1) 1 0 1 (.int (a1)) rfl rfl rfl rfl 94 rfl ?_
    refine q_const (.sipush 630) 3 rfl rfl rfl 97 (630) _ rfl cd_kt630 ?_
    refine q_br w_PV (.if_icmp .ge 30) 3 rfl rfl rfl (630 ≤ a1) 127 100 [] rfl (fun _ => ?_) (fun _ => ?_)
    · refine r_ld (.aload_n 0) 1 2 0 (.ref 15) rfl rfl rfl rfl 128 rfl ?_
      refine r_go (.dup) 1 rfl rfl rfl 129 [.ref 15, .ref 15] rfl ?_
      refine r_go (.getfield 198) 3 rfl rfl rfl 132 [.int (M.1 15 26), .ref 15] rfl ?_
      refine q_const (.iconst 1) 1 rfl rfl rfl 133 (1) _ rfl cd_kj1 ?_
      refine r_go (.iadd) 1 rfl rfl rfl 134 [.int ((M.1 15 26) + 1), .ref 15] rfl ?_
      refine q_wr w_PV (.putfield 198) 3 rfl rfl rfl 137 [] (cd_wI M 15 26 ((M.1 15 26) + 1)) rfl (fun M3 => ?_)
      exact r_ret .return_ 1 rfl rfl rfl _ rfl
    · refine r_ld (.aload_n 0) 1 2 0 (.ref 15) rfl rfl rfl rfl 101 rfl ?_
      refine r_go (.getfield 39) 3 rfl rfl rfl 104 [.ref 66] rfl ?_
      refine q_const (.sipush 630) 3 rfl rfl rfl 107 (630) _ rfl cd_kt630 ?_
      refine r_ld (.aload_n 0) 1 2 0 (.ref 15) rfl rfl rfl rfl 108 rfl ?_
      refine r_go (.getfield 198) 3 rfl rfl rfl 111 [.int (M.1 15 26), .int (630), .ref 66] rfl ?_
      refine r_go (.imul) 1 rfl rfl rfl 112 [.int (630 * (M.1 15 26)), .ref 66] rfl ?_
      refine r_ld (.iload_n 1) 1 0 1 (.int (a1)) rfl rfl rfl rfl 113 rfl ?_
      refine r_go (.iadd) 1 rfl rfl rfl 114 [.int ((630 * (M.1 15 26)) + a1), .ref 66] rfl ?_
      refine r_ld (.aload_n 0) 1 2 0 (.ref 15) rfl rfl rfl rfl 115 rfl ?_
      refine r_go (.getfield 33) 3 rfl rfl rfl 118 [.ref 64, .int ((630 * (M.1 15 26)) + a1), .ref 66] rfl ?_
      refine r_ld (.iload_n 1) 1 0 1 (.int (a1)) rfl rfl rfl rfl 119 rfl ?_
      refine q_iald w_PV rfl rfl 64 630 rfl ?_
      refine q_iast w_PV rfl rfl 66 7560 rfl (fun M4 => ?_)
      refine q_inc w_PV 1 (1) (a1) rfl rfl rfl 124 rfl (1) cd_kj1 (fun x5 => [some (.ref 15), some (.int (x5))]) (fun _ => rfl) (fun x5 => ?_)
      refine r_go (.goto (-31)) 3 rfl rfl rfl 93 [] rfl ?_
      exact r_w (ih x5 M4) (cd_le_s (cd_le_s cd_le_0))
def f11_keeps_15_L78 (M : cd_M) : Option cd_M := if cd_in (M.1 15 26) 12 = true then (cd_lt (cd_wI M 65 (M.1 15 26 : Int32).toNatClampNeg (M.1 15 24)) fun M2 => f11_keeps_15_L93 cd_fu 0 M2) else none
set_option maxRecDepth 8000 in
theorem k11_keeps_15_L78 (M : cd_M) : cd_R 193 78 [some (.ref 15), none] [] M (w_PV (f11_keeps_15_L78 M)) := by
  unfold f11_keeps_15_L78
  refine r_ld (.aload_n 0) 1 2 0 (.ref 15) rfl rfl rfl rfl 79 rfl ?_
  refine r_go (.getfield 36) 3 rfl rfl rfl 82 [.ref 65] rfl ?_
  refine r_ld (.aload_n 0) 1 2 0 (.ref 15) rfl rfl rfl rfl 83 rfl ?_
  refine r_go (.getfield 198) 3 rfl rfl rfl 86 [.int (M.1 15 26), .ref 65] rfl ?_
  refine r_ld (.aload_n 0) 1 2 0 (.ref 15) rfl rfl rfl rfl 87 rfl ?_
  refine r_go (.getfield 195) 3 rfl rfl rfl 90 [.int (M.1 15 24), .int (M.1 15 26), .ref 65] rfl ?_
  refine q_iast w_PV rfl rfl 65 12 rfl (fun M2 => ?_)
  refine q_const (.iconst 0) 1 rfl rfl rfl 92 (0) _ rfl cd_kj0 ?_
  refine r_st (.istore_n 1) 1 0 1 rfl rfl rfl 93 rfl [some (.ref 15), some (.int (0))] rfl ?_
  exact r_w (k11_keeps_15_L93 cd_fu 0 M2) (cd_le_s (cd_le_s cd_le_0))
def f11_keeps_15_L39 : Nat → Int32 → cd_M → Option cd_M
  | 0, _, _ => none
  | n + 1, a1, M => if 6930 ≤ a1 then (cd_lt (cd_wI M 15 26 ((M.1 15 26) - 1)) fun M1 => f11_keeps_15_L78 M1) else (if cd_in (a1 + 630) 7560 = true then (if cd_in a1 7560 = true then (cd_lt (cd_wI M 66 a1.toNatClampNeg (M.1 66 (a1 + 630 : Int32).toNatClampNeg)) fun M6 => cd_lt (a1 + (1)) fun x7 => f11_keeps_15_L39 n x7 M6) else none) else none)
set_option maxRecDepth 8000 in
theorem k11_keeps_15_L39 : ∀ (n : Nat) (a1 : Int32) (M : cd_M), cd_R 193 39 [some (.ref 15), some (.int (a1))] [] M (w_PV (f11_keeps_15_L39 n a1 M)) := by
  intro n
  induction n with
  | zero =>
    intro a1 M
    exact q_none w_PV rfl
  | succ n ih =>
    intro a1 M
    rw [f11_keeps_15_L39]
    refine r_ld (.iload_n 1) 1 0 1 (.int (a1)) rfl rfl rfl rfl 40 rfl ?_
    refine q_const (.sipush 6930) 3 rfl rfl rfl 43 (6930) _ rfl cd_kt6930 ?_
    refine q_br w_PV (.if_icmp .ge 25) 3 rfl rfl rfl (6930 ≤ a1) 68 46 [] rfl (fun _ => ?_) (fun _ => ?_)
    · refine r_ld (.aload_n 0) 1 2 0 (.ref 15) rfl rfl rfl rfl 69 rfl ?_
      refine r_go (.dup) 1 rfl rfl rfl 70 [.ref 15, .ref 15] rfl ?_
      refine r_go (.getfield 198) 3 rfl rfl rfl 73 [.int (M.1 15 26), .ref 15] rfl ?_
      refine q_const (.iconst 1) 1 rfl rfl rfl 74 (1) _ rfl cd_kj1 ?_
      refine r_go (.isub) 1 rfl rfl rfl 75 [.int ((M.1 15 26) - 1), .ref 15] rfl ?_
      refine q_wr w_PV (.putfield 198) 3 rfl rfl rfl 78 [] (cd_wI M 15 26 ((M.1 15 26) - 1)) rfl (fun M1 => ?_)
      exact r_w (k11_keeps_15_L78 M1) (cd_le_s (cd_le_n cd_le_0))
    · refine r_ld (.aload_n 0) 1 2 0 (.ref 15) rfl rfl rfl rfl 47 rfl ?_
      refine r_go (.getfield 39) 3 rfl rfl rfl 50 [.ref 66] rfl ?_
      refine r_ld (.iload_n 1) 1 0 1 (.int (a1)) rfl rfl rfl rfl 51 rfl ?_
      refine r_ld (.aload_n 0) 1 2 0 (.ref 15) rfl rfl rfl rfl 52 rfl ?_
      refine r_go (.getfield 39) 3 rfl rfl rfl 55 [.ref 66, .int (a1), .ref 66] rfl ?_
      refine r_ld (.iload_n 1) 1 0 1 (.int (a1)) rfl rfl rfl rfl 56 rfl ?_
      refine q_const (.sipush 630) 3 rfl rfl rfl 59 (630) _ rfl cd_kt630 ?_
      refine r_go (.iadd) 1 rfl rfl rfl 60 [.int (a1 + 630), .ref 66, .int (a1), .ref 66] rfl ?_
      refine q_iald w_PV rfl rfl 66 7560 rfl ?_
      refine q_iast w_PV rfl rfl 66 7560 rfl (fun M6 => ?_)
      refine q_inc w_PV 1 (1) (a1) rfl rfl rfl 65 rfl (1) cd_kj1 (fun x7 => [some (.ref 15), some (.int (x7))]) (fun _ => rfl) (fun x7 => ?_)
      refine r_go (.goto (-26)) 3 rfl rfl rfl 39 [] rfl ?_
      exact r_w (ih x7 M6) (cd_le_s (cd_le_s cd_le_0))
def f11_keeps_15_L11 : Nat → Int32 → cd_M → Option cd_M
  | 0, _, _ => none
  | n + 1, a1, M => if 11 ≤ a1 then (f11_keeps_15_L39 cd_fu 0 M) else (if cd_in (a1 + 1) 12 = true then (if cd_in a1 12 = true then (cd_lt (cd_wI M 65 a1.toNatClampNeg (M.1 65 (a1 + 1 : Int32).toNatClampNeg)) fun M8 => cd_lt (a1 + (1)) fun x9 => f11_keeps_15_L11 n x9 M8) else none) else none)
set_option maxRecDepth 8000 in
theorem k11_keeps_15_L11 : ∀ (n : Nat) (a1 : Int32) (M : cd_M), cd_R 193 11 [some (.ref 15), some (.int (a1))] [] M (w_PV (f11_keeps_15_L11 n a1 M)) := by
  intro n
  induction n with
  | zero =>
    intro a1 M
    exact q_none w_PV rfl
  | succ n ih =>
    intro a1 M
    rw [f11_keeps_15_L11]
    refine r_ld (.iload_n 1) 1 0 1 (.int (a1)) rfl rfl rfl rfl 12 rfl ?_
    refine q_const (.bipush 11) 2 rfl rfl rfl 14 (11) _ rfl cd_kc11 ?_
    refine q_br w_PV (.if_icmp .ge 23) 3 rfl rfl rfl (11 ≤ a1) 37 17 [] rfl (fun _ => ?_) (fun _ => ?_)
    · refine q_const (.iconst 0) 1 rfl rfl rfl 38 (0) _ rfl cd_kj0 ?_
      refine r_st (.istore_n 1) 1 0 1 rfl rfl rfl 39 rfl [some (.ref 15), some (.int (0))] rfl ?_
      exact r_w (k11_keeps_15_L39 cd_fu 0 M) (cd_le_s (cd_le_s cd_le_0))
    · refine r_ld (.aload_n 0) 1 2 0 (.ref 15) rfl rfl rfl rfl 18 rfl ?_
      refine r_go (.getfield 36) 3 rfl rfl rfl 21 [.ref 65] rfl ?_
      refine r_ld (.iload_n 1) 1 0 1 (.int (a1)) rfl rfl rfl rfl 22 rfl ?_
      refine r_ld (.aload_n 0) 1 2 0 (.ref 15) rfl rfl rfl rfl 23 rfl ?_
      refine r_go (.getfield 36) 3 rfl rfl rfl 26 [.ref 65, .int (a1), .ref 65] rfl ?_
      refine r_ld (.iload_n 1) 1 0 1 (.int (a1)) rfl rfl rfl rfl 27 rfl ?_
      refine q_const (.iconst 1) 1 rfl rfl rfl 28 (1) _ rfl cd_kj1 ?_
      refine r_go (.iadd) 1 rfl rfl rfl 29 [.int (a1 + 1), .ref 65, .int (a1), .ref 65] rfl ?_
      refine q_iald w_PV rfl rfl 65 12 rfl ?_
      refine q_iast w_PV rfl rfl 65 12 rfl (fun M8 => ?_)
      refine q_inc w_PV 1 (1) (a1) rfl rfl rfl 34 rfl (1) cd_kj1 (fun x9 => [some (.ref 15), some (.int (x9))]) (fun _ => rfl) (fun x9 => ?_)
      refine r_go (.goto (-23)) 3 rfl rfl rfl 11 [] rfl ?_
      exact r_w (ih x9 M8) (cd_le_s (cd_le_s cd_le_0))
def f11_keeps_15 (M : cd_M) : Option cd_M := if M.1 15 26 = 12 then (f11_keeps_15_L11 cd_fu 0 M) else (f11_keeps_15_L78 M)
set_option maxRecDepth 8000 in
theorem k11_keeps_15 (M : cd_M) : cd_R 193 0 [some (.ref 15), none] [] M (w_PV (f11_keeps_15 M)) := by
  unfold f11_keeps_15
  refine r_ld (.aload_n 0) 1 2 0 (.ref 15) rfl rfl rfl rfl 1 rfl ?_
  refine r_go (.getfield 198) 3 rfl rfl rfl 4 [.int (M.1 15 26)] rfl ?_
  refine q_const (.bipush 12) 2 rfl rfl rfl 6 (12) _ rfl cd_kc12 ?_
  refine q_br w_PV (.if_icmp .ne 72) 3 rfl rfl rfl (M.1 15 26 = 12) 9 78 [] rfl (fun _ => ?_) (fun _ => ?_)
  · refine q_const (.iconst 0) 1 rfl rfl rfl 10 (0) _ rfl cd_kj0 ?_
    refine r_st (.istore_n 1) 1 0 1 rfl rfl rfl 11 rfl [some (.ref 15), some (.int (0))] rfl ?_
    exact r_w (k11_keeps_15_L11 cd_fu 0 M) (cd_le_s (cd_le_s cd_le_0))
  · exact r_w (k11_keeps_15_L78 M) (cd_le_s (cd_le_n cd_le_0))
