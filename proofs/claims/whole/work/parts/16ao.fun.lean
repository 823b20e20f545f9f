def f11_carry_15_L188 (r62 : Int32 → Int32 → Int32 → cd_M → Option (Int32 × cd_M)) (a3 : Int32) (a4 : Int32) (a5 : Int32) (M : cd_M) : Option (Int32 × cd_M) := if cd_in (M.1 15 23) 8 = true then (if M.1 60 (M.1 15 23 : Int32).toNatClampNeg = 0 then none else (cd_lt ((a3 + 1) - (a3 + 1) / (M.1 60 (M.1 15 23 : Int32).toNatClampNeg) * (M.1 60 (M.1 15 23 : Int32).toNatClampNeg)) fun x6 => cd_lt (a5 + (1)) fun x7 => r62 x6 a4 x7 M)) else none
set_option maxRecDepth 8000 in
theorem k11_carry_15_L188 (r62 : Int32 → Int32 → Int32 → cd_M → Option (Int32 × cd_M)) (h62 : ∀ (a3 : Int32) (a4 : Int32) (a5 : Int32) (M : cd_M), cd_R 194 62 [some (.ref 15), none, none, some (.int (a3)), some (.int (a4)), some (.int (a5)), none, none] [] M (w_PM (r62 a3 a4 a5 M))) (a3 : Int32) (a4 : Int32) (a5 : Int32) (M : cd_M) : cd_R 194 188 [some (.ref 15), none, none, some (.int (a3)), some (.int (a4)), some (.int (a5)), none, none] [] M (w_PM (f11_carry_15_L188 r62 a3 a4 a5 M)) := by
  unfold f11_carry_15_L188
  refine r_ld (.iload_n 3) 1 0 3 (.int (a3)) rfl rfl rfl rfl 189 rfl ?_
  refine q_const (.iconst 1) 1 rfl rfl rfl 190 (1) _ rfl cd_kj1 ?_
  refine r_go (.iadd) 1 rfl rfl rfl 191 [.int (a3 + 1)] rfl ?_
  refine r_ld (.aload_n 0) 1 2 0 (.ref 15) rfl rfl rfl rfl 192 rfl ?_
  refine r_go (.getfield 20) 3 rfl rfl rfl 195 [.ref 60, .int (a3 + 1)] rfl ?_
  refine r_ld (.aload_n 0) 1 2 0 (.ref 15) rfl rfl rfl rfl 196 rfl ?_
  refine r_go (.getfield 227) 3 rfl rfl rfl 199 [.int (M.1 15 23), .ref 60, .int (a3 + 1)] rfl ?_
  refine q_iald w_PM rfl rfl 60 8 rfl ?_
  refine q_rem w_PM rfl rfl ?_
  refine q_stB w_PM (.istore_n 3) 1 0 3 rfl rfl (fun _ => rfl) 202 rfl (fun x6 => [some (.ref 15), none, none, some (.int (x6)), some (.int (a4)), some (.int (a5)), none, none]) (fun _ => rfl) (fun x6 => ?_)
  refine q_inc w_PM 5 (1) (a5) rfl rfl rfl 205 rfl (1) cd_kj1 (fun x7 => [some (.ref 15), none, none, some (.int (x6)), some (.int (a4)), some (.int (x7)), none, none]) (fun _ => rfl) (fun x7 => ?_)
  refine r_go (.goto (-143)) 3 rfl rfl rfl 62 [] rfl ?_
  exact r_w (h62 x6 a4 x7 M) (cd_le_s (cd_le_n (cd_le_n (cd_le_s (cd_le_s (cd_le_s (cd_le_n (cd_le_n cd_le_0))))))))
def f11_carry_15_L105 (r62 : Int32 → Int32 → Int32 → cd_M → Option (Int32 × cd_M)) (r74 : Int32 → Int32 → Int32 → Int32 → cd_M → Option (Int32 × cd_M)) : Nat → Int32 → Int32 → Int32 → Int32 → Int32 → cd_M → Option (Int32 × cd_M)
  | 0, _, _, _, _, _, _ => none
  | n + 1, a3, a4, a5, a6, a7, M => if M.1 15 11 ≤ a7 then (if cd_in ((7 * (M.1 15 24)) + 6) 630 = true then (cd_lt (cd_wI M 64 ((7 * (M.1 15 24)) + 6 : Int32).toNatClampNeg a4) fun M8 => cd_lt (1 - a4) fun x9 => cd_lt (cd_wI M8 15 24 ((M8.1 15 24) + 1)) fun M10 => cd_lt (a6 + (1)) fun x11 => r74 a3 x9 a5 x11 M10) else none) else (if cd_in (f11_filmAt a5 a4 a7 M) 240 = true then (if cd_in ((7 * (M.1 15 24)) + a7) 630 = true then (cd_lt (cd_wI M 64 ((7 * (M.1 15 24)) + a7 : Int32).toNatClampNeg (M.1 58 (f11_filmAt a5 a4 a7 M : Int32).toNatClampNeg)) fun M12 => cd_lt (a7 + (1)) fun x13 => f11_carry_15_L105 r62 r74 n a3 a4 a5 a6 x13 M12) else none) else none)
set_option maxRecDepth 8000 in
theorem k11_carry_15_L105 (r62 : Int32 → Int32 → Int32 → cd_M → Option (Int32 × cd_M)) (h62 : ∀ (a3 : Int32) (a4 : Int32) (a5 : Int32) (M : cd_M), cd_R 194 62 [some (.ref 15), none, none, some (.int (a3)), some (.int (a4)), some (.int (a5)), none, none] [] M (w_PM (r62 a3 a4 a5 M))) (r74 : Int32 → Int32 → Int32 → Int32 → cd_M → Option (Int32 × cd_M)) (h74 : ∀ (a3 : Int32) (a4 : Int32) (a5 : Int32) (a6 : Int32) (M : cd_M), cd_R 194 74 [some (.ref 15), none, none, some (.int (a3)), some (.int (a4)), some (.int (a5)), some (.int (a6)), none] [] M (w_PM (r74 a3 a4 a5 a6 M))) : ∀ (n : Nat) (a3 : Int32) (a4 : Int32) (a5 : Int32) (a6 : Int32) (a7 : Int32) (M : cd_M), cd_R 194 105 [some (.ref 15), none, none, some (.int (a3)), some (.int (a4)), some (.int (a5)), some (.int (a6)), some (.int (a7))] [] M (w_PM (f11_carry_15_L105 r62 r74 n a3 a4 a5 a6 a7 M)) := by
  intro n
  induction n with
  | zero =>
    intro a3 a4 a5 a6 a7 M
    exact q_none w_PM rfl
  | succ n ih =>
    intro a3 a4 a5 a6 a7 M
    rw [f11_carry_15_L105]
    refine r_ld (.iload 7) 2 0 7 (.int (a7)) rfl rfl rfl rfl 107 rfl ?_
    refine r_ld (.aload_n 0) 1 2 0 (.ref 15) rfl rfl rfl rfl 108 rfl ?_
    refine r_go (.getfield 189) 3 rfl rfl rfl 111 [.int (M.1 15 11), .int (a7)] rfl ?_
    refine q_br w_PM (.if_icmp .ge 38) 3 rfl rfl rfl (M.1 15 11 ≤ a7) 149 114 [] rfl (fun _ => ?_) (fun _ => ?_)
    · refine r_ld (.aload_n 0) 1 2 0 (.ref 15) rfl rfl rfl rfl 150 rfl ?_
      refine r_go (.getfield 33) 3 rfl rfl rfl 153 [.ref 64] rfl ?_
      refine q_const (.bipush 7) 2 rfl rfl rfl 155 (7) _ rfl cd_kc7 ?_
      refine r_ld (.aload_n 0) 1 2 0 (.ref 15) rfl rfl rfl rfl 156 rfl ?_
      refine r_go (.getfield 195) 3 rfl rfl rfl 159 [.int (M.1 15 24), .int (7), .ref 64] rfl ?_
      refine r_go (.imul) 1 rfl rfl rfl 160 [.int (7 * (M.1 15 24)), .ref 64] rfl ?_
      refine q_const (.bipush 6) 2 rfl rfl rfl 162 (6) _ rfl cd_kc6 ?_
      refine r_go (.iadd) 1 rfl rfl rfl 163 [.int ((7 * (M.1 15 24)) + 6), .ref 64] rfl ?_
      refine r_ld (.iload 4) 2 0 4 (.int (a4)) rfl rfl rfl rfl 165 rfl ?_
      refine q_iast w_PM rfl rfl 64 630 rfl (fun M8 => ?_)
      refine q_const (.iconst 1) 1 rfl rfl rfl 167 (1) _ rfl cd_kj1 ?_
      refine r_ld (.iload 4) 2 0 4 (.int (a4)) rfl rfl rfl rfl 169 rfl ?_
      refine r_go (.isub) 1 rfl rfl rfl 170 [.int (1 - a4)] rfl ?_
      refine q_stB w_PM (.istore 4) 2 0 4 rfl rfl (fun _ => rfl) 172 rfl (fun x9 => [some (.ref 15), none, none, some (.int (a3)), some (.int (x9)), some (.int (a5)), some (.int (a6)), some (.int (a7))]) (fun _ => rfl) (fun x9 => ?_)
      refine r_ld (.aload_n 0) 1 2 0 (.ref 15) rfl rfl rfl rfl 173 rfl ?_
      refine r_go (.dup) 1 rfl rfl rfl 174 [.ref 15, .ref 15] rfl ?_
      refine r_go (.getfield 195) 3 rfl rfl rfl 177 [.int (M8.1 15 24), .ref 15] rfl ?_
      refine q_const (.iconst 1) 1 rfl rfl rfl 178 (1) _ rfl cd_kj1 ?_
      refine r_go (.iadd) 1 rfl rfl rfl 179 [.int ((M8.1 15 24) + 1), .ref 15] rfl ?_
      refine q_wr w_PM (.putfield 195) 3 rfl rfl rfl 182 [] (cd_wI M8 15 24 ((M8.1 15 24) + 1)) rfl (fun M10 => ?_)
      refine q_inc w_PM 6 (1) (a6) rfl rfl rfl 185 rfl (1) cd_kj1 (fun x11 => [some (.ref 15), none, none, some (.int (a3)), some (.int (x9)), some (.int (a5)), some (.int (x11)), some (.int (a7))]) (fun _ => rfl) (fun x11 => ?_)
      refine r_go (.goto (-111)) 3 rfl rfl rfl 74 [] rfl ?_
      exact r_w (h74 a3 x9 a5 x11 M10) (cd_le_s (cd_le_n (cd_le_n (cd_le_s (cd_le_s (cd_le_s (cd_le_s (cd_le_n cd_le_0))))))))
    · refine r_ld (.aload_n 0) 1 2 0 (.ref 15) rfl rfl rfl rfl 115 rfl ?_
      refine r_go (.getfield 33) 3 rfl rfl rfl 118 [.ref 64] rfl ?_
      refine q_const (.bipush 7) 2 rfl rfl rfl 120 (7) _ rfl cd_kc7 ?_
      refine r_ld (.aload_n 0) 1 2 0 (.ref 15) rfl rfl rfl rfl 121 rfl ?_
      refine r_go (.getfield 195) 3 rfl rfl rfl 124 [.int (M.1 15 24), .int (7), .ref 64] rfl ?_
      refine r_go (.imul) 1 rfl rfl rfl 125 [.int (7 * (M.1 15 24)), .ref 64] rfl ?_
      refine r_ld (.iload 7) 2 0 7 (.int (a7)) rfl rfl rfl rfl 127 rfl ?_
      refine r_go (.iadd) 1 rfl rfl rfl 128 [.int ((7 * (M.1 15 24)) + a7), .ref 64] rfl ?_
      refine r_ld (.aload_n 0) 1 2 0 (.ref 15) rfl rfl rfl rfl 129 rfl ?_
      refine r_go (.getfield 13) 3 rfl rfl rfl 132 [.ref 58, .int ((7 * (M.1 15 24)) + a7), .ref 64] rfl ?_
      refine r_ld (.iload 5) 2 0 5 (.int (a5)) rfl rfl rfl rfl 134 rfl ?_
      refine r_ld (.iload 4) 2 0 4 (.int (a4)) rfl rfl rfl rfl 136 rfl ?_
      refine r_ld (.iload 7) 2 0 7 (.int (a7)) rfl rfl rfl rfl 138 rfl ?_
      refine q_cTI (.invokestatic 169) rfl rfl rfl 173 [.int (a5), .int (a4), .int (a7)] [.ref 58, .int ((7 * (M.1 15 24)) + a7), .ref 64] rfl (k11_filmAt a5 a4 a7 M) ?_
      refine q_iald w_PM rfl rfl 58 240 rfl ?_
      refine q_iast w_PM rfl rfl 64 630 rfl (fun M12 => ?_)
      refine q_inc w_PM 7 (1) (a7) rfl rfl rfl 146 rfl (1) cd_kj1 (fun x13 => [some (.ref 15), none, none, some (.int (a3)), some (.int (a4)), some (.int (a5)), some (.int (a6)), some (.int (x13))]) (fun _ => rfl) (fun x13 => ?_)
      refine r_go (.goto (-41)) 3 rfl rfl rfl 105 [] rfl ?_
      exact r_w (ih a3 a4 a5 a6 x13 M12) (cd_le_s (cd_le_n (cd_le_n (cd_le_s (cd_le_s (cd_le_s (cd_le_s (cd_le_s cd_le_0))))))))
def f11_carry_15_L74 (r62 : Int32 → Int32 → Int32 → cd_M → Option (Int32 × cd_M)) : Nat → Int32 → Int32 → Int32 → Int32 → cd_M → Option (Int32 × cd_M)
  | 0, _, _, _, _, _ => none
  | n + 1, a3, a4, a5, a6, M => if cd_in ((6 * (M.1 15 23)) + a3) 48 = true then (if M.1 61 ((6 * (M.1 15 23)) + a3 : Int32).toNatClampNeg ≤ a6 then (f11_carry_15_L188 r62 a3 a4 a5 M) else (if 90 ≤ M.1 15 24 then (f11_carry_15_L188 r62 a3 a4 a5 M) else (f11_carry_15_L105 r62 (f11_carry_15_L74 r62 n) cd_fu a3 a4 a5 a6 0 M))) else none
set_option maxRecDepth 8000 in
theorem k11_carry_15_L74 (r62 : Int32 → Int32 → Int32 → cd_M → Option (Int32 × cd_M)) (h62 : ∀ (a3 : Int32) (a4 : Int32) (a5 : Int32) (M : cd_M), cd_R 194 62 [some (.ref 15), none, none, some (.int (a3)), some (.int (a4)), some (.int (a5)), none, none] [] M (w_PM (r62 a3 a4 a5 M))) : ∀ (n : Nat) (a3 : Int32) (a4 : Int32) (a5 : Int32) (a6 : Int32) (M : cd_M), cd_R 194 74 [some (.ref 15), none, none, some (.int (a3)), some (.int (a4)), some (.int (a5)), some (.int (a6)), none] [] M (w_PM (f11_carry_15_L74 r62 n a3 a4 a5 a6 M)) := by
  intro n
  induction n with
  | zero =>
    intro a3 a4 a5 a6 M
    exact q_none w_PM rfl
  | succ n ih =>
    intro a3 a4 a5 a6 M
    rw [f11_carry_15_L74]
    refine r_ld (.iload 6) 2 0 6 (.int (a6)) rfl rfl rfl rfl 76 rfl ?_
    refine r_ld (.aload_n 0) 1 2 0 (.ref 15) rfl rfl rfl rfl 77 rfl ?_
    refine r_go (.getfield 23) 3 rfl rfl rfl 80 [.ref 61, .int (a6)] rfl ?_
    refine q_const (.bipush 6) 2 rfl rfl rfl 82 (6) _ rfl cd_kc6 ?_
    refine r_ld (.aload_n 0) 1 2 0 (.ref 15) rfl rfl rfl rfl 83 rfl ?_
    refine r_go (.getfield 227) 3 rfl rfl rfl 86 [.int (M.1 15 23), .int (6), .ref 61, .int (a6)] rfl ?_
    refine r_go (.imul) 1 rfl rfl rfl 87 [.int (6 * (M.1 15 23)), .ref 61, .int (a6)] rfl ?_
    refine r_ld (.iload_n 3) 1 0 3 (.int (a3)) rfl rfl rfl rfl 88 rfl ?_
    refine r_go (.iadd) 1 rfl rfl rfl 89 [.int ((6 * (M.1 15 23)) + a3), .ref 61, .int (a6)] rfl ?_
    refine q_iald w_PM rfl rfl 61 48 rfl ?_
    refine q_br w_PM (.if_icmp .ge 98) 3 rfl rfl rfl (M.1 61 ((6 * (M.1 15 23)) + a3 : Int32).toNatClampNeg ≤ a6) 188 93 [] rfl (fun _ => ?_) (fun _ => ?_)
    · exact r_w (k11_carry_15_L188 r62 h62 a3 a4 a5 M) (cd_le_s (cd_le_n (cd_le_n (cd_le_s (cd_le_s (cd_le_s (cd_le_n (cd_le_n cd_le_0))))))))
    · refine r_ld (.aload_n 0) 1 2 0 (.ref 15) rfl rfl rfl rfl 94 rfl ?_
      refine r_go (.getfield 195) 3 rfl rfl rfl 97 [.int (M.1 15 24)] rfl ?_
      refine q_const (.bipush 90) 2 rfl rfl rfl 99 (90) _ rfl cd_kc90 ?_
      refine q_br w_PM (.if_icmp .ge 89) 3 rfl rfl rfl (90 ≤ M.1 15 24) 188 102 [] rfl (fun _ => ?_) (fun _ => ?_)
      · exact r_w (k11_carry_15_L188 r62 h62 a3 a4 a5 M) (cd_le_s (cd_le_n (cd_le_n (cd_le_s (cd_le_s (cd_le_s (cd_le_n (cd_le_n cd_le_0))))))))
      · refine q_const (.iconst 0) 1 rfl rfl rfl 103 (0) _ rfl cd_kj0 ?_
        refine r_st (.istore 7) 2 0 7 rfl rfl rfl 105 rfl [some (.ref 15), none, none, some (.int (a3)), some (.int (a4)), some (.int (a5)), some (.int (a6)), some (.int (0))] rfl ?_
        exact r_w (k11_carry_15_L105 r62 h62 (f11_carry_15_L74 r62 n) ih cd_fu a3 a4 a5 a6 0 M) (cd_le_s (cd_le_n (cd_le_n (cd_le_s (cd_le_s (cd_le_s (cd_le_s (cd_le_s cd_le_0))))))))
def f11_carry_15_L62 : Nat → Int32 → Int32 → Int32 → cd_M → Option (Int32 × cd_M)
  | 0, _, _, _, _ => none
  | n + 1, a3, a4, a5, M => if M.1 15 12 ≤ a5 then (some (M.1 15 24, M)) else (f11_carry_15_L74 (f11_carry_15_L62 n) cd_fu a3 a4 a5 0 M)
set_option maxRecDepth 8000 in
theorem k11_carry_15_L62 : ∀ (n : Nat) (a3 : Int32) (a4 : Int32) (a5 : Int32) (M : cd_M), cd_R 194 62 [some (.ref 15), none, none, some (.int (a3)), some (.int (a4)), some (.int (a5)), none, none] [] M (w_PM (f11_carry_15_L62 n a3 a4 a5 M)) := by
  intro n
  induction n with
  | zero =>
    intro a3 a4 a5 M
    exact q_none w_PM rfl
  | succ n ih =>
    intro a3 a4 a5 M
    rw [f11_carry_15_L62]
    refine r_ld (.iload 5) 2 0 5 (.int (a5)) rfl rfl rfl rfl 64 rfl ?_
    refine r_ld (.aload_n 0) 1 2 0 (.ref 15) rfl rfl rfl rfl 65 rfl ?_
    refine r_go (.getfield 192) 3 rfl rfl rfl 68 [.int (M.1 15 12), .int (a5)] rfl ?_
    refine q_br w_PM (.if_icmp .ge 140) 3 rfl rfl rfl (M.1 15 12 ≤ a5) 208 71 [] rfl (fun _ => ?_) (fun _ => ?_)
    · refine r_ld (.aload_n 0) 1 2 0 (.ref 15) rfl rfl rfl rfl 209 rfl ?_
      refine r_go (.getfield 195) 3 rfl rfl rfl 212 [.int (M.1 15 24)] rfl ?_
      exact r_ret .ireturn 1 rfl rfl rfl _ rfl
    · refine q_const (.iconst 0) 1 rfl rfl rfl 72 (0) _ rfl cd_kj0 ?_
      refine r_st (.istore 6) 2 0 6 rfl rfl rfl 74 rfl [some (.ref 15), none, none, some (.int (a3)), some (.int (a4)), some (.int (a5)), some (.int (0)), none] rfl ?_
      exact r_w (k11_carry_15_L74 (f11_carry_15_L62 n) ih cd_fu a3 a4 a5 0 M) (cd_le_s (cd_le_n (cd_le_n (cd_le_s (cd_le_s (cd_le_s (cd_le_s (cd_le_n cd_le_0))))))))
def f11_carry_15 (a1 : Int32) (a2 : Int32) (M : cd_M) : Option (Int32 × cd_M) := cd_lt (cd_wI M 15 0 0) fun M1 => if M1.1 15 12 = 0 then (some ((-1), M1)) else (if cd_in (M1.1 15 23) 8 = true then (if f11_within (a1.toInt64) 0 (((M1.1 60 (M1.1 15 23 : Int32).toNatClampNeg) - 1 : Int32).toInt64) M1 = 0 then (some ((-1), M1)) else (if f11_within (a2.toInt64) 0 1 M1 = 0 then (some ((-1), M1)) else ((f11_keeps_15 M1).bind fun M4 => cd_lt (cd_wI M4 15 24 0) fun M5 => f11_carry_15_L62 cd_fu a1 a2 0 M5))) else none)
set_option maxRecDepth 8000 in
theorem k11_carry_15 (a1 : Int32) (a2 : Int32) (M : cd_M) : cd_R 194 0 [some (.ref 15), some (.int (a1)), some (.int (a2)), none, none, none, none, none] [] M (w_PM (f11_carry_15 a1 a2 M)) := by
  unfold f11_carry_15
  refine r_ld (.aload_n 0) 1 2 0 (.ref 15) rfl rfl rfl rfl 1 rfl ?_
  refine q_const (.iconst 0) 1 rfl rfl rfl 2 (0) _ rfl cd_kj0 ?_
  refine q_wr w_PM (.putfield 95) 3 rfl rfl rfl 5 [] (cd_wI M 15 0 0) rfl (fun M1 => ?_)
  refine r_ld (.aload_n 0) 1 2 0 (.ref 15) rfl rfl rfl rfl 6 rfl ?_
  refine r_go (.getfield 192) 3 rfl rfl rfl 9 [.int (M1.1 15 12)] rfl ?_
  refine q_br w_PM (.ifCond .eq 34) 3 rfl rfl rfl (M1.1 15 12 = 0) 43 12 [] rfl (fun _ => ?_) (fun _ => ?_)
  · refine q_const (.iconst (-1)) 1 rfl rfl rfl 44 (-1) _ rfl cd_kjm1 ?_
    exact r_ret .ireturn 1 rfl rfl rfl _ rfl
  · refine r_ld (.iload_n 1) 1 0 1 (.int (a1)) rfl rfl rfl rfl 13 rfl ?_
    refine r_go (.i2l) 1 rfl rfl rfl 14 [.long (a1.toInt64)] rfl ?_
    refine r_go (.lconst 0) 1 rfl rfl rfl 15 [.long (0), .long (a1.toInt64)] rfl ?_
    refine r_ld (.aload_n 0) 1 2 0 (.ref 15) rfl rfl rfl rfl 16 rfl ?_
    refine r_go (.getfield 20) 3 rfl rfl rfl 19 [.ref 60, .long (0), .long (a1.toInt64)] rfl ?_
    refine r_ld (.aload_n 0) 1 2 0 (.ref 15) rfl rfl rfl rfl 20 rfl ?_
    refine r_go (.getfield 227) 3 rfl rfl rfl 23 [.int (M1.1 15 23), .ref 60, .long (0), .long (a1.toInt64)] rfl ?_
    refine q_iald w_PM rfl rfl 60 8 rfl ?_
    refine q_const (.iconst 1) 1 rfl rfl rfl 25 (1) _ rfl cd_kj1 ?_
    refine r_go (.isub) 1 rfl rfl rfl 26 [.int ((M1.1 60 (M1.1 15 23 : Int32).toNatClampNeg) - 1), .long (0), .long (a1.toInt64)] rfl ?_
    refine r_go (.i2l) 1 rfl rfl rfl 27 [.long (((M1.1 60 (M1.1 15 23 : Int32).toNatClampNeg) - 1 : Int32).toInt64), .long (0), .long (a1.toInt64)] rfl ?_
    refine q_cTIz (.invokestatic 127) rfl rfl rfl 161 rfl [.long (a1.toInt64), .long (0), .long (((M1.1 60 (M1.1 15 23 : Int32).toNatClampNeg) - 1 : Int32).toInt64)] [] rfl (k11_within (a1.toInt64) 0 (((M1.1 60 (M1.1 15 23 : Int32).toNatClampNeg) - 1 : Int32).toInt64) M1) (fun z2 => ?_)
    refine q_br w_PM (.ifCond .eq 13) 3 rfl rfl rfl (f11_within (a1.toInt64) 0 (((M1.1 60 (M1.1 15 23 : Int32).toNatClampNeg) - 1 : Int32).toInt64) M1 = 0) 43 33 [] rfl (fun _ => ?_) (fun _ => ?_)
    · refine q_const (.iconst (-1)) 1 rfl rfl rfl 44 (-1) _ rfl cd_kjm1 ?_
      exact r_ret .ireturn 1 rfl rfl rfl _ rfl
    · refine r_ld (.iload_n 2) 1 0 2 (.int (a2)) rfl rfl rfl rfl 34 rfl ?_
      refine r_go (.i2l) 1 rfl rfl rfl 35 [.long (a2.toInt64)] rfl ?_
      refine r_go (.lconst 0) 1 rfl rfl rfl 36 [.long (0), .long (a2.toInt64)] rfl ?_
      refine r_go (.lconst 1) 1 rfl rfl rfl 37 [.long (1), .long (0), .long (a2.toInt64)] rfl ?_
      refine q_cTIz (.invokestatic 127) rfl rfl rfl 161 rfl [.long (a2.toInt64), .long (0), .long (1)] [] rfl (k11_within (a2.toInt64) 0 1 M1) (fun z3 => ?_)
      refine q_br w_PM (.ifCond .ne 5) 3 rfl rfl rfl (f11_within (a2.toInt64) 0 1 M1 = 0) 43 45 [] rfl (fun _ => ?_) (fun _ => ?_)
      · refine q_const (.iconst (-1)) 1 rfl rfl rfl 44 (-1) _ rfl cd_kjm1 ?_
        exact r_ret .ireturn 1 rfl rfl rfl _ rfl
      · refine r_ld (.aload_n 0) 1 2 0 (.ref 15) rfl rfl rfl rfl 46 rfl ?_
        refine q_cV w_PM rfl (.invokevirtual 233) rfl rfl rfl 193 [.ref 15] [] rfl (k11_keeps_15 M1) (fun M4 => ?_)
        refine r_ld (.aload_n 0) 1 2 0 (.ref 15) rfl rfl rfl rfl 50 rfl ?_
        refine q_const (.iconst 0) 1 rfl rfl rfl 51 (0) _ rfl cd_kj0 ?_
        refine q_wr w_PM (.putfield 195) 3 rfl rfl rfl 54 [] (cd_wI M4 15 24 0) rfl (fun M5 => ?_)
        refine r_ld (.iload_n 1) 1 0 1 (.int (a1)) rfl rfl rfl rfl 55 rfl ?_
        refine r_st (.istore_n 3) 1 0 3 rfl rfl rfl 56 rfl [some (.ref 15), some (.int (a1)), some (.int (a2)), some (.int (a1)), none, none, none, none] rfl ?_
        refine r_ld (.iload_n 2) 1 0 2 (.int (a2)) rfl rfl rfl rfl 57 rfl ?_
        refine r_st (.istore 4) 2 0 4 rfl rfl rfl 59 rfl [some (.ref 15), some (.int (a1)), some (.int (a2)), some (.int (a1)), some (.int (a2)), none, none, none] rfl ?_
        refine q_const (.iconst 0) 1 rfl rfl rfl 60 (0) _ rfl cd_kj0 ?_
        refine r_st (.istore 5) 2 0 5 rfl rfl rfl 62 rfl [some (.ref 15), some (.int (a1)), some (.int (a2)), some (.int (a1)), some (.int (a2)), some (.int (0)), none, none] rfl ?_
        exact r_w (k11_carry_15_L62 cd_fu a1 a2 0 M5) (cd_le_s (cd_le_n (cd_le_n (cd_le_s (cd_le_s (cd_le_s (cd_le_n (cd_le_n cd_le_0))))))))
def f11_areThere_15 (a1 : Int32) (a2 : Int32) (M : cd_M) : Int32 := if a2 < 1 then (0) else (if f11_within (a1.toInt64) 0 (((M.1 15 24) - 1 : Int32).toInt64) M = 0 then (0) else (if (M.1 15 24) - a1 < a2 then (0) else (1)))
set_option maxRecDepth 8000 in
theorem k11_areThere_15 (a1 : Int32) (a2 : Int32) (M : cd_M) : cd_R 195 0 [some (.ref 15), some (.int (a1)), some (.int (a2))] [] M ((w_TI M) (f11_areThere_15 a1 a2 M)) := by
  unfold f11_areThere_15
  refine r_ld (.iload_n 2) 1 0 2 (.int (a2)) rfl rfl rfl rfl 1 rfl ?_
  refine q_const (.iconst 1) 1 rfl rfl rfl 2 (1) _ rfl cd_kj1 ?_
  refine q_br (w_TI M) (.if_icmp .lt 33) 3 rfl rfl rfl (a2 < 1) 35 5 [] rfl (fun _ => ?_) (fun _ => ?_)
  · refine q_const (.iconst 0) 1 rfl rfl rfl 36 (0) _ rfl cd_kj0 ?_
    exact r_retZ rfl rfl (by decide)
  · refine r_ld (.iload_n 1) 1 0 1 (.int (a1)) rfl rfl rfl rfl 6 rfl ?_
    refine r_go (.i2l) 1 rfl rfl rfl 7 [.long (a1.toInt64)] rfl ?_
    refine r_go (.lconst 0) 1 rfl rfl rfl 8 [.long (0), .long (a1.toInt64)] rfl ?_
    refine r_ld (.aload_n 0) 1 2 0 (.ref 15) rfl rfl rfl rfl 9 rfl ?_
    refine r_go (.getfield 195) 3 rfl rfl rfl 12 [.int (M.1 15 24), .long (0), .long (a1.toInt64)] rfl ?_
    refine q_const (.iconst 1) 1 rfl rfl rfl 13 (1) _ rfl cd_kj1 ?_
    refine r_go (.isub) 1 rfl rfl rfl 14 [.int ((M.1 15 24) - 1), .long (0), .long (a1.toInt64)] rfl ?_
    refine r_go (.i2l) 1 rfl rfl rfl 15 [.long (((M.1 15 24) - 1 : Int32).toInt64), .long (0), .long (a1.toInt64)] rfl ?_
    refine q_cTIz (.invokestatic 127) rfl rfl rfl 161 rfl [.long (a1.toInt64), .long (0), .long (((M.1 15 24) - 1 : Int32).toInt64)] [] rfl (k11_within (a1.toInt64) 0 (((M.1 15 24) - 1 : Int32).toInt64) M) (fun z1 => ?_)
    refine q_br (w_TI M) (.ifCond .eq 17) 3 rfl rfl rfl (f11_within (a1.toInt64) 0 (((M.1 15 24) - 1 : Int32).toInt64) M = 0) 35 21 [] rfl (fun _ => ?_) (fun _ => ?_)
    · refine q_const (.iconst 0) 1 rfl rfl rfl 36 (0) _ rfl cd_kj0 ?_
      exact r_retZ rfl rfl (by decide)
    · refine r_ld (.iload_n 2) 1 0 2 (.int (a2)) rfl rfl rfl rfl 22 rfl ?_
      refine r_ld (.aload_n 0) 1 2 0 (.ref 15) rfl rfl rfl rfl 23 rfl ?_
      refine r_go (.getfield 195) 3 rfl rfl rfl 26 [.int (M.1 15 24), .int (a2)] rfl ?_
      refine r_ld (.iload_n 1) 1 0 1 (.int (a1)) rfl rfl rfl rfl 27 rfl ?_
      refine r_go (.isub) 1 rfl rfl rfl 28 [.int ((M.1 15 24) - a1), .int (a2)] rfl ?_
      refine q_br (w_TI M) (.if_icmp .gt 7) 3 rfl rfl rfl ((M.1 15 24) - a1 < a2) 35 31 [] rfl (fun _ => ?_) (fun _ => ?_)
      · refine q_const (.iconst 0) 1 rfl rfl rfl 36 (0) _ rfl cd_kj0 ?_
        exact r_retZ rfl rfl (by decide)
      · refine q_const (.iconst 1) 1 rfl rfl rfl 32 (1) _ rfl cd_kj1 ?_
        refine r_go (.goto 4) 3 rfl rfl rfl 36 [.int (1)] rfl ?_
        exact r_retZ rfl rfl (by decide)
def f11_copiesField_15_L2 : Nat → Int32 → Int32 → Int32 → cd_M → Option cd_M
  | 0, _, _, _, _ => none
  | n + 1, a1, a2, a3, M => if 7 ≤ a3 then (some M) else (if cd_in ((7 * a1) + a3) 630 = true then (if cd_in ((7 * a2) + a3) 630 = true then (cd_lt (cd_wI M 64 ((7 * a2) + a3 : Int32).toNatClampNeg (M.1 64 ((7 * a1) + a3 : Int32).toNatClampNeg)) fun M1 => cd_lt (a3 + (1)) fun x2 => f11_copiesField_15_L2 n a1 a2 x2 M1) else none) else none)
set_option maxRecDepth 8000 in
theorem k11_copiesField_15_L2 : ∀ (n : Nat) (a1 : Int32) (a2 : Int32) (a3 : Int32) (M : cd_M), cd_R 192 2 [some (.ref 15), some (.int (a1)), some (.int (a2)), some (.int (a3))] [] M (w_PV (f11_copiesField_15_L2 n a1 a2 a3 M)) := by
  intro n
  induction n with
  | zero =>
    intro a1 a2 a3 M
    exact q_none w_PV rfl
  | succ n ih =>
    intro a1 a2 a3 M
    rw [f11_copiesField_15_L2]
    refine r_ld (.iload_n 3) 1 0 3 (.int (a3)) rfl rfl rfl rfl 3 rfl ?_
    refine q_const (.bipush 7) 2 rfl rfl rfl 5 (7) _ rfl cd_kc7 ?_
    refine q_br w_PV (.if_icmp .ge 31) 3 rfl rfl rfl (7 ≤ a3) 36 8 [] rfl (fun _ => ?_) (fun _ => ?_)
    · exact r_ret .return_ 1 rfl rfl rfl _ rfl
    · refine r_ld (.aload_n 0) 1 2 0 (.ref 15) rfl rfl rfl rfl 9 rfl ?_
      refine r_go (.getfield 33) 3 rfl rfl rfl 12 [.ref 64] rfl ?_
      refine q_const (.bipush 7) 2 rfl rfl rfl 14 (7) _ rfl cd_kc7 ?_
      refine r_ld (.iload_n 2) 1 0 2 (.int (a2)) rfl rfl rfl rfl 15 rfl ?_
      refine r_go (.imul) 1 rfl rfl rfl 16 [.int (7 * a2), .ref 64] rfl ?_
      refine r_ld (.iload_n 3) 1 0 3 (.int (a3)) rfl rfl rfl rfl 17 rfl ?_
      refine r_go (.iadd) 1 rfl rfl rfl 18 [.int ((7 * a2) + a3), .ref 64] rfl ?_
      refine r_ld (.aload_n 0) 1 2 0 (.ref 15) rfl rfl rfl rfl 19 rfl ?_
      refine r_go (.getfield 33) 3 rfl rfl rfl 22 [.ref 64, .int ((7 * a2) + a3), .ref 64] rfl ?_
      refine q_const (.bipush 7) 2 rfl rfl rfl 24 (7) _ rfl cd_kc7 ?_
      refine r_ld (.iload_n 1) 1 0 1 (.int (a1)) rfl rfl rfl rfl 25 rfl ?_
      refine r_go (.imul) 1 rfl rfl rfl 26 [.int (7 * a1), .ref 64, .int ((7 * a2) + a3), .ref 64] rfl ?_
      refine r_ld (.iload_n 3) 1 0 3 (.int (a3)) rfl rfl rfl rfl 27 rfl ?_
      refine r_go (.iadd) 1 rfl rfl rfl 28 [.int ((7 * a1) + a3), .ref 64, .int ((7 * a2) + a3), .ref 64] rfl ?_
      refine q_iald w_PV rfl rfl 64 630 rfl ?_
      refine q_iast w_PV rfl rfl 64 630 rfl (fun M1 => ?_)
      refine q_inc w_PV 3 (1) (a3) rfl rfl rfl 33 rfl (1) cd_kj1 (fun x2 => [some (.ref 15), some (.int (a1)), some (.int (a2)), some (.int (x2))]) (fun _ => rfl) (fun x2 => ?_)
      refine r_go (.goto (-31)) 3 rfl rfl rfl 2 [] rfl ?_
      exact r_w (ih a1 a2 x2 M1) (cd_le_s (cd_le_s (cd_le_s (cd_le_s cd_le_0))))
def f11_copiesField_15 (a1 : Int32) (a2 : Int32) (M : cd_M) : Option cd_M := f11_copiesField_15_L2 cd_fu a1 a2 0 M
set_option maxRecDepth 8000 in
theorem k11_copiesField_15 (a1 : Int32) (a2 : Int32) (M : cd_M) : cd_R 192 0 [some (.ref 15), some (.int (a1)), some (.int (a2)), none] [] M (w_PV (f11_copiesField_15 a1 a2 M)) := by
  unfold f11_copiesField_15
  refine q_const (.iconst 0) 1 rfl rfl rfl 1 (0) _ rfl cd_kj0 ?_
  refine r_st (.istore_n 3) 1 0 3 rfl rfl rfl 2 rfl [some (.ref 15), some (.int (a1)), some (.int (a2)), some (.int (0))] rfl ?_
  exact r_w (k11_copiesField_15_L2 cd_fu a1 a2 0 M) (cd_le_s (cd_le_s (cd_le_s (cd_le_s cd_le_0))))
def f11_cut_15_L22 : Nat → Int32 → Int32 → cd_M → Option (Int32 × cd_M)
  | 0, _, _, _ => none
  | n + 1, a2, a3, M => if M.1 15 24 ≤ a3 + a2 then (cd_lt (cd_wI M 15 24 ((M.1 15 24) - a2)) fun M4 => some (M4.1 15 24, M4)) else ((f11_copiesField_15 (a3 + a2) a3 M).bind fun M5 => cd_lt (a3 + (1)) fun x6 => f11_cut_15_L22 n a2 x6 M5)
set_option maxRecDepth 8000 in
theorem k11_cut_15_L22 : ∀ (n : Nat) (a2 : Int32) (a3 : Int32) (M : cd_M), cd_R 196 22 [some (.ref 15), none, some (.int (a2)), some (.int (a3))] [] M (w_PM (f11_cut_15_L22 n a2 a3 M)) := by
  intro n
  induction n with
  | zero =>
    intro a2 a3 M
    exact q_none w_PM rfl
  | succ n ih =>
    intro a2 a3 M
    rw [f11_cut_15_L22]
    refine r_ld (.iload_n 3) 1 0 3 (.int (a3)) rfl rfl rfl rfl 23 rfl ?_
    refine r_ld (.iload_n 2) 1 0 2 (.int (a2)) rfl rfl rfl rfl 24 rfl ?_
    refine r_go (.iadd) 1 rfl rfl rfl 25 [.int (a3 + a2)] rfl ?_
    refine r_ld (.aload_n 0) 1 2 0 (.ref 15) rfl rfl rfl rfl 26 rfl ?_
    refine r_go (.getfield 195) 3 rfl rfl rfl 29 [.int (M.1 15 24), .int (a3 + a2)] rfl ?_
    refine q_br w_PM (.if_icmp .ge 17) 3 rfl rfl rfl (M.1 15 24 ≤ a3 + a2) 46 32 [] rfl (fun _ => ?_) (fun _ => ?_)
    · refine r_ld (.aload_n 0) 1 2 0 (.ref 15) rfl rfl rfl rfl 47 rfl ?_
      refine r_go (.dup) 1 rfl rfl rfl 48 [.ref 15, .ref 15] rfl ?_
      refine r_go (.getfield 195) 3 rfl rfl rfl 51 [.int (M.1 15 24), .ref 15] rfl ?_
      refine r_ld (.iload_n 2) 1 0 2 (.int (a2)) rfl rfl rfl rfl 52 rfl ?_
      refine r_go (.isub) 1 rfl rfl rfl 53 [.int ((M.1 15 24) - a2), .ref 15] rfl ?_
      refine q_wr w_PM (.putfield 195) 3 rfl rfl rfl 56 [] (cd_wI M 15 24 ((M.1 15 24) - a2)) rfl (fun M4 => ?_)
      refine r_ld (.aload_n 0) 1 2 0 (.ref 15) rfl rfl rfl rfl 57 rfl ?_
      refine r_go (.getfield 195) 3 rfl rfl rfl 60 [.int (M4.1 15 24)] rfl ?_
      exact r_ret .ireturn 1 rfl rfl rfl _ rfl
    · refine r_ld (.aload_n 0) 1 2 0 (.ref 15) rfl rfl rfl rfl 33 rfl ?_
      refine r_ld (.iload_n 3) 1 0 3 (.int (a3)) rfl rfl rfl rfl 34 rfl ?_
      refine r_ld (.iload_n 2) 1 0 2 (.int (a2)) rfl rfl rfl rfl 35 rfl ?_
      refine r_go (.iadd) 1 rfl rfl rfl 36 [.int (a3 + a2), .ref 15] rfl ?_
      refine r_ld (.iload_n 3) 1 0 3 (.int (a3)) rfl rfl rfl rfl 37 rfl ?_
      refine q_cV w_PM rfl (.invokevirtual 239) rfl rfl rfl 192 [.ref 15, .int (a3 + a2), .int (a3)] [] rfl (k11_copiesField_15 (a3 + a2) a3 M) (fun M5 => ?_)
      refine q_inc w_PM 3 (1) (a3) rfl rfl rfl 43 rfl (1) cd_kj1 (fun x6 => [some (.ref 15), none, some (.int (a2)), some (.int (x6))]) (fun _ => rfl) (fun x6 => ?_)
      refine r_go (.goto (-21)) 3 rfl rfl rfl 22 [] rfl ?_
      exact r_w (ih a2 x6 M5) (cd_le_s (cd_le_n (cd_le_s (cd_le_s cd_le_0))))
def f11_cut_15 (a1 : Int32) (a2 : Int32) (M : cd_M) : Option (Int32 × cd_M) := cd_lt (cd_wI M 15 0 0) fun M1 => if f11_areThere_15 a1 a2 M1 = 0 then (some ((-1), M1)) else ((f11_keeps_15 M1).bind fun M3 => f11_cut_15_L22 cd_fu a2 a1 M3)
set_option maxRecDepth 8000 in
theorem k11_cut_15 (a1 : Int32) (a2 : Int32) (M : cd_M) : cd_R 196 0 [some (.ref 15), some (.int (a1)), some (.int (a2)), none] [] M (w_PM (f11_cut_15 a1 a2 M)) := by
  unfold f11_cut_15
  refine r_ld (.aload_n 0) 1 2 0 (.ref 15) rfl rfl rfl rfl 1 rfl ?_
  refine q_const (.iconst 0) 1 rfl rfl rfl 2 (0) _ rfl cd_kj0 ?_
  refine q_wr w_PM (.putfield 95) 3 rfl rfl rfl 5 [] (cd_wI M 15 0 0) rfl (fun M1 => ?_)
  refine r_ld (.aload_n 0) 1 2 0 (.ref 15) rfl rfl rfl rfl 6 rfl ?_
  refine r_ld (.iload_n 1) 1 0 1 (.int (a1)) rfl rfl rfl rfl 7 rfl ?_
  refine r_ld (.iload_n 2) 1 0 2 (.int (a2)) rfl rfl rfl rfl 8 rfl ?_
  refine q_cTIz (.invokevirtual 236) rfl rfl rfl 195 rfl [.ref 15, .int (a1), .int (a2)] [] rfl (k11_areThere_15 a1 a2 M1) (fun z2 => ?_)
  refine q_br w_PM (.ifCond .ne 5) 3 rfl rfl rfl (f11_areThere_15 a1 a2 M1 = 0) 14 16 [] rfl (fun _ => ?_) (fun _ => ?_)
  · refine q_const (.iconst (-1)) 1 rfl rfl rfl 15 (-1) _ rfl cd_kjm1 ?_
    exact r_ret .ireturn 1 rfl rfl rfl _ rfl
  · refine r_ld (.aload_n 0) 1 2 0 (.ref 15) rfl rfl rfl rfl 17 rfl ?_
    refine q_cV w_PM rfl (.invokevirtual 233) rfl rfl rfl 193 [.ref 15] [] rfl (k11_keeps_15 M1) (fun M3 => ?_)
    refine r_ld (.iload_n 1) 1 0 1 (.int (a1)) rfl rfl rfl rfl 21 rfl ?_
    refine r_st (.istore_n 3) 1 0 3 rfl rfl rfl 22 rfl [some (.ref 15), some (.int (a1)), some (.int (a2)), some (.int (a1))] rfl ?_
    exact r_w (k11_cut_15_L22 cd_fu a2 a1 M3) (cd_le_s (cd_le_n (cd_le_s (cd_le_s cd_le_0))))
def f11_doubled_15_L61 : Nat → Int32 → Int32 → Int32 → cd_M → Option (Int32 × cd_M)
  | 0, _, _, _, _ => none
  | n + 1, a1, a2, a3, M => if a1 + a2 ≤ a3 then (cd_lt (cd_wI M 15 24 ((M.1 15 24) + a2)) fun M5 => some (M5.1 15 24, M5)) else ((f11_copiesField_15 a3 (a3 + a2) M).bind fun M6 => cd_lt (a3 + (1)) fun x7 => f11_doubled_15_L61 n a1 a2 x7 M6)
set_option maxRecDepth 8000 in
theorem k11_doubled_15_L61 : ∀ (n : Nat) (a1 : Int32) (a2 : Int32) (a3 : Int32) (M : cd_M), cd_R 197 61 [some (.ref 15), some (.int (a1)), some (.int (a2)), some (.int (a3))] [] M (w_PM (f11_doubled_15_L61 n a1 a2 a3 M)) := by
  intro n
  induction n with
  | zero =>
    intro a1 a2 a3 M
    exact q_none w_PM rfl
  | succ n ih =>
    intro a1 a2 a3 M
    rw [f11_doubled_15_L61]
    refine r_ld (.iload_n 3) 1 0 3 (.int (a3)) rfl rfl rfl rfl 62 rfl ?_
    refine r_ld (.iload_n 1) 1 0 1 (.int (a1)) rfl rfl rfl rfl 63 rfl ?_
    refine r_ld (.iload_n 2) 1 0 2 (.int (a2)) rfl rfl rfl rfl 64 rfl ?_
    refine r_go (.iadd) 1 rfl rfl rfl 65 [.int (a1 + a2), .int (a3)] rfl ?_
    refine q_br w_PM (.if_icmp .ge 17) 3 rfl rfl rfl (a1 + a2 ≤ a3) 82 68 [] rfl (fun _ => ?_) (fun _ => ?_)
    · refine r_ld (.aload_n 0) 1 2 0 (.ref 15) rfl rfl rfl rfl 83 rfl ?_
      refine r_go (.dup) 1 rfl rfl rfl 84 [.ref 15, .ref 15] rfl ?_
      refine r_go (.getfield 195) 3 rfl rfl rfl 87 [.int (M.1 15 24), .ref 15] rfl ?_
      refine r_ld (.iload_n 2) 1 0 2 (.int (a2)) rfl rfl rfl rfl 88 rfl ?_
      refine r_go (.iadd) 1 rfl rfl rfl 89 [.int ((M.1 15 24) + a2), .ref 15] rfl ?_
      refine q_wr w_PM (.putfield 195) 3 rfl rfl rfl 92 [] (cd_wI M 15 24 ((M.1 15 24) + a2)) rfl (fun M5 => ?_)
      refine r_ld (.aload_n 0) 1 2 0 (.ref 15) rfl rfl rfl rfl 93 rfl ?_
      refine r_go (.getfield 195) 3 rfl rfl rfl 96 [.int (M5.1 15 24)] rfl ?_
      exact r_ret .ireturn 1 rfl rfl rfl _ rfl
    · refine r_ld (.aload_n 0) 1 2 0 (.ref 15) rfl rfl rfl rfl 69 rfl ?_
      refine r_ld (.iload_n 3) 1 0 3 (.int (a3)) rfl rfl rfl rfl 70 rfl ?_
      refine r_ld (.iload_n 3) 1 0 3 (.int (a3)) rfl rfl rfl rfl 71 rfl ?_
      refine r_ld (.iload_n 2) 1 0 2 (.int (a2)) rfl rfl rfl rfl 72 rfl ?_
      refine r_go (.iadd) 1 rfl rfl rfl 73 [.int (a3 + a2), .int (a3), .ref 15] rfl ?_
      refine q_cV w_PM rfl (.invokevirtual 239) rfl rfl rfl 192 [.ref 15, .int (a3), .int (a3 + a2)] [] rfl (k11_copiesField_15 a3 (a3 + a2) M) (fun M6 => ?_)
      refine q_inc w_PM 3 (1) (a3) rfl rfl rfl 79 rfl (1) cd_kj1 (fun x7 => [some (.ref 15), some (.int (a1)), some (.int (a2)), some (.int (x7))]) (fun _ => rfl) (fun x7 => ?_)
      refine r_go (.goto (-18)) 3 rfl rfl rfl 61 [] rfl ?_
      exact r_w (ih a1 a2 x7 M6) (cd_le_s (cd_le_s (cd_le_s (cd_le_s cd_le_0))))
def f11_doubled_15_L38 : Nat → Int32 → Int32 → Int32 → cd_M → Option (Int32 × cd_M)
  | 0, _, _, _, _ => none
  | n + 1, a1, a2, a3, M => if a3 < a1 + a2 then (f11_doubled_15_L61 cd_fu a1 a2 a1 M) else ((f11_copiesField_15 a3 (a3 + a2) M).bind fun M8 => cd_lt (a3 + (-1)) fun x9 => f11_doubled_15_L38 n a1 a2 x9 M8)
set_option maxRecDepth 8000 in
theorem k11_doubled_15_L38 : ∀ (n : Nat) (a1 : Int32) (a2 : Int32) (a3 : Int32) (M : cd_M), cd_R 197 38 [some (.ref 15), some (.int (a1)), some (.int (a2)), some (.int (a3))] [] M (w_PM (f11_doubled_15_L38 n a1 a2 a3 M)) := by
  intro n
  induction n with
  | zero =>
    intro a1 a2 a3 M
    exact q_none w_PM rfl
  | succ n ih =>
    intro a1 a2 a3 M
    rw [f11_doubled_15_L38]
    refine r_ld (.iload_n 3) 1 0 3 (.int (a3)) rfl rfl rfl rfl 39 rfl ?_
    refine r_ld (.iload_n 1) 1 0 1 (.int (a1)) rfl rfl rfl rfl 40 rfl ?_
    refine r_ld (.iload_n 2) 1 0 2 (.int (a2)) rfl rfl rfl rfl 41 rfl ?_
    refine r_go (.iadd) 1 rfl rfl rfl 42 [.int (a1 + a2), .int (a3)] rfl ?_
    refine q_br w_PM (.if_icmp .lt 17) 3 rfl rfl rfl (a3 < a1 + a2) 59 45 [] rfl (fun _ => ?_) (fun _ => ?_)
    · refine r_ld (.iload_n 1) 1 0 1 (.int (a1)) rfl rfl rfl rfl 60 rfl ?_
      refine r_st (.istore_n 3) 1 0 3 rfl rfl rfl 61 rfl [some (.ref 15), some (.int (a1)), some (.int (a2)), some (.int (a1))] rfl ?_
      exact r_w (k11_doubled_15_L61 cd_fu a1 a2 a1 M) (cd_le_s (cd_le_s (cd_le_s (cd_le_s cd_le_0))))
    · refine r_ld (.aload_n 0) 1 2 0 (.ref 15) rfl rfl rfl rfl 46 rfl ?_
      refine r_ld (.iload_n 3) 1 0 3 (.int (a3)) rfl rfl rfl rfl 47 rfl ?_
      refine r_ld (.iload_n 3) 1 0 3 (.int (a3)) rfl rfl rfl rfl 48 rfl ?_
      refine r_ld (.iload_n 2) 1 0 2 (.int (a2)) rfl rfl rfl rfl 49 rfl ?_
      refine r_go (.iadd) 1 rfl rfl rfl 50 [.int (a3 + a2), .int (a3), .ref 15] rfl ?_
      refine q_cV w_PM rfl (.invokevirtual 239) rfl rfl rfl 192 [.ref 15, .int (a3), .int (a3 + a2)] [] rfl (k11_copiesField_15 a3 (a3 + a2) M) (fun M8 => ?_)
      refine q_inc w_PM 3 (-1) (a3) rfl rfl rfl 56 rfl (-1) cd_kjm1 (fun x9 => [some (.ref 15), some (.int (a1)), some (.int (a2)), some (.int (x9))]) (fun _ => rfl) (fun x9 => ?_)
      refine r_go (.goto (-18)) 3 rfl rfl rfl 38 [] rfl ?_
      exact r_w (ih a1 a2 x9 M8) (cd_le_s (cd_le_s (cd_le_s (cd_le_s cd_le_0))))
def f11_doubled_15 (a1 : Int32) (a2 : Int32) (M : cd_M) : Option (Int32 × cd_M) := cd_lt (cd_wI M 15 0 0) fun M1 => if f11_areThere_15 a1 a2 M1 = 0 then (some ((-1), M1)) else (if (M1.1 15 24) + a2 ≤ 90 then ((f11_keeps_15 M1).bind fun M3 => cd_lt ((M3.1 15 24) - 1) fun x4 => f11_doubled_15_L38 cd_fu a1 a2 x4 M3) else (some ((-1), M1)))
set_option maxRecDepth 8000 in
theorem k11_doubled_15 (a1 : Int32) (a2 : Int32) (M : cd_M) : cd_R 197 0 [some (.ref 15), some (.int (a1)), some (.int (a2)), none] [] M (w_PM (f11_doubled_15 a1 a2 M)) := by
  unfold f11_doubled_15
  refine r_ld (.aload_n 0) 1 2 0 (.ref 15) rfl rfl rfl rfl 1 rfl ?_
  refine q_const (.iconst 0) 1 rfl rfl rfl 2 (0) _ rfl cd_kj0 ?_
  refine q_wr w_PM (.putfield 95) 3 rfl rfl rfl 5 [] (cd_wI M 15 0 0) rfl (fun M1 => ?_)
  refine r_ld (.aload_n 0) 1 2 0 (.ref 15) rfl rfl rfl rfl 6 rfl ?_
  refine r_ld (.iload_n 1) 1 0 1 (.int (a1)) rfl rfl rfl rfl 7 rfl ?_
  refine r_ld (.iload_n 2) 1 0 2 (.int (a2)) rfl rfl rfl rfl 8 rfl ?_
  refine q_cTIz (.invokevirtual 236) rfl rfl rfl 195 rfl [.ref 15, .int (a1), .int (a2)] [] rfl (k11_areThere_15 a1 a2 M1) (fun z2 => ?_)
  refine q_br w_PM (.ifCond .eq 14) 3 rfl rfl rfl (f11_areThere_15 a1 a2 M1 = 0) 25 14 [] rfl (fun _ => ?_) (fun _ => ?_)
  · refine q_const (.iconst (-1)) 1 rfl rfl rfl 26 (-1) _ rfl cd_kjm1 ?_
    exact r_ret .ireturn 1 rfl rfl rfl _ rfl
  · refine r_ld (.aload_n 0) 1 2 0 (.ref 15) rfl rfl rfl rfl 15 rfl ?_
    refine r_go (.getfield 195) 3 rfl rfl rfl 18 [.int (M1.1 15 24)] rfl ?_
    refine r_ld (.iload_n 2) 1 0 2 (.int (a2)) rfl rfl rfl rfl 19 rfl ?_
    refine r_go (.iadd) 1 rfl rfl rfl 20 [.int ((M1.1 15 24) + a2)] rfl ?_
    refine q_const (.bipush 90) 2 rfl rfl rfl 22 (90) _ rfl cd_kc90 ?_
    refine q_br w_PM (.if_icmp .le 5) 3 rfl rfl rfl ((M1.1 15 24) + a2 ≤ 90) 27 25 [] rfl (fun _ => ?_) (fun _ => ?_)
    · refine r_ld (.aload_n 0) 1 2 0 (.ref 15) rfl rfl rfl rfl 28 rfl ?_
      refine q_cV w_PM rfl (.invokevirtual 233) rfl rfl rfl 193 [.ref 15] [] rfl (k11_keeps_15 M1) (fun M3 => ?_)
      refine r_ld (.aload_n 0) 1 2 0 (.ref 15) rfl rfl rfl rfl 32 rfl ?_
      refine r_go (.getfield 195) 3 rfl rfl rfl 35 [.int (M3.1 15 24)] rfl ?_
      refine q_const (.iconst 1) 1 rfl rfl rfl 36 (1) _ rfl cd_kj1 ?_
      refine r_go (.isub) 1 rfl rfl rfl 37 [.int ((M3.1 15 24) - 1)] rfl ?_
      refine q_stB w_PM (.istore_n 3) 1 0 3 rfl rfl (fun _ => rfl) 38 rfl (fun x4 => [some (.ref 15), some (.int (a1)), some (.int (a2)), some (.int (x4))]) (fun _ => rfl) (fun x4 => ?_)
      exact r_w (k11_doubled_15_L38 cd_fu a1 a2 x4 M3) (cd_le_s (cd_le_s (cd_le_s (cd_le_s cd_le_0))))
    · refine q_const (.iconst (-1)) 1 rfl rfl rfl 26 (-1) _ rfl cd_kjm1 ?_
      exact r_ret .ireturn 1 rfl rfl rfl _ rfl
def f11_sample_15 (a1 : Int32) (a2 : Int32) (M : cd_M) : Option (Int32) := if cd_in ((7 * a1) + a2) 630 = true then (some (M.1 64 ((7 * a1) + a2 : Int32).toNatClampNeg)) else none
set_option maxRecDepth 8000 in
theorem k11_sample_15 (a1 : Int32) (a2 : Int32) (M : cd_M) : cd_R 191 0 [some (.ref 15), some (.int (a1)), some (.int (a2))] [] M ((w_PI M) (f11_sample_15 a1 a2 M)) := by
  unfold f11_sample_15
  refine r_ld (.aload_n 0) 1 2 0 (.ref 15) rfl rfl rfl rfl 1 rfl ?_
  refine r_go (.getfield 33) 3 rfl rfl rfl 4 [.ref 64] rfl ?_
  refine q_const (.bipush 7) 2 rfl rfl rfl 6 (7) _ rfl cd_kc7 ?_
  refine r_ld (.iload_n 1) 1 0 1 (.int (a1)) rfl rfl rfl rfl 7 rfl ?_
  refine r_go (.imul) 1 rfl rfl rfl 8 [.int (7 * a1), .ref 64] rfl ?_
  refine r_ld (.iload_n 2) 1 0 2 (.int (a2)) rfl rfl rfl rfl 9 rfl ?_
  refine r_go (.iadd) 1 rfl rfl rfl 10 [.int ((7 * a1) + a2), .ref 64] rfl ?_
  refine q_iald (w_PI M) rfl rfl 64 630 rfl ?_
  exact r_ret .ireturn 1 rfl rfl rfl _ rfl
def f11_noise_15_L148 (r38 : Int32 → Int32 → Int32 → Int32 → cd_M → Option (Int32 × cd_M)) (r50 : Int32 → Int32 → Int32 → Int32 → Int32 → cd_M → Option (Int32 × cd_M)) (a2 : Int32) (a3 : Int32) (a5 : Int32) (a6 : Int32) (s0 : Int32) (s1 : Int32) (M : cd_M) : Option (Int32 × cd_M) := cd_lt (s1 + s0) fun x9 => cd_lt (a6 + (1)) fun x10 => r50 a2 a3 x9 a5 x10 M
set_option maxRecDepth 8000 in
theorem k11_noise_15_L148 (r38 : Int32 → Int32 → Int32 → Int32 → cd_M → Option (Int32 × cd_M)) (h38 : ∀ (a2 : Int32) (a3 : Int32) (a4 : Int32) (a5 : Int32) (M : cd_M), cd_R 198 38 [some (.ref 15), none, some (.int (a2)), some (.int (a3)), some (.int (a4)), some (.int (a5)), none, none, none] [] M (w_PM (r38 a2 a3 a4 a5 M))) (r50 : Int32 → Int32 → Int32 → Int32 → Int32 → cd_M → Option (Int32 × cd_M)) (h50 : ∀ (a2 : Int32) (a3 : Int32) (a4 : Int32) (a5 : Int32) (a6 : Int32) (M : cd_M), cd_R 198 50 [some (.ref 15), none, some (.int (a2)), some (.int (a3)), some (.int (a4)), some (.int (a5)), some (.int (a6)), none, none] [] M (w_PM (r50 a2 a3 a4 a5 a6 M))) (a2 : Int32) (a3 : Int32) (a5 : Int32) (a6 : Int32) (s0 : Int32) (s1 : Int32) (M : cd_M) : cd_R 198 148 [some (.ref 15), none, some (.int (a2)), some (.int (a3)), none, some (.int (a5)), some (.int (a6)), none, none] [.int (s0), .int (s1)] M (w_PM (f11_noise_15_L148 r38 r50 a2 a3 a5 a6 s0 s1 M)) := by
  unfold f11_noise_15_L148
  refine r_go (.iadd) 1 rfl rfl rfl 149 [.int (s1 + s0)] rfl ?_
  refine q_stB w_PM (.istore 4) 2 0 4 rfl rfl (fun _ => rfl) 151 rfl (fun x9 => [some (.ref 15), none, some (.int (a2)), some (.int (a3)), some (.int (x9)), some (.int (a5)), some (.int (a6)), none, none]) (fun _ => rfl) (fun x9 => ?_)
  refine q_inc w_PM 6 (1) (a6) rfl rfl rfl 154 rfl (1) cd_kj1 (fun x10 => [some (.ref 15), none, some (.int (a2)), some (.int (a3)), some (.int (x9)), some (.int (a5)), some (.int (x10)), none, none]) (fun _ => rfl) (fun x10 => ?_)
  refine r_go (.goto (-104)) 3 rfl rfl rfl 50 [] rfl ?_
  exact r_w (h50 a2 a3 x9 a5 x10 M) (cd_le_s (cd_le_n (cd_le_s (cd_le_s (cd_le_s (cd_le_s (cd_le_s (cd_le_n (cd_le_n cd_le_0)))))))))
def f11_noise_15_L117 (r38 : Int32 → Int32 → Int32 → Int32 → cd_M → Option (Int32 × cd_M)) (r50 : Int32 → Int32 → Int32 → Int32 → Int32 → cd_M → Option (Int32 × cd_M)) (a2 : Int32) (a3 : Int32) (a4 : Int32) (a5 : Int32) (a6 : Int32) (a7 : Int32) (s0 : Int32) (M : cd_M) : Option (Int32 × cd_M) := if cd_in ((7 * a5) + a6) 630 = true then (cd_lt (cd_wI M 64 ((7 * a5) + a6 : Int32).toNatClampNeg s0) fun M8 => if s0 = a7 then (f11_noise_15_L148 r38 r50 a2 a3 a5 a6 0 a4 M8) else (f11_noise_15_L148 r38 r50 a2 a3 a5 a6 1 a4 M8)) else none
set_option maxRecDepth 8000 in
theorem k11_noise_15_L117 (r38 : Int32 → Int32 → Int32 → Int32 → cd_M → Option (Int32 × cd_M)) (h38 : ∀ (a2 : Int32) (a3 : Int32) (a4 : Int32) (a5 : Int32) (M : cd_M), cd_R 198 38 [some (.ref 15), none, some (.int (a2)), some (.int (a3)), some (.int (a4)), some (.int (a5)), none, none, none] [] M (w_PM (r38 a2 a3 a4 a5 M))) (r50 : Int32 → Int32 → Int32 → Int32 → Int32 → cd_M → Option (Int32 × cd_M)) (h50 : ∀ (a2 : Int32) (a3 : Int32) (a4 : Int32) (a5 : Int32) (a6 : Int32) (M : cd_M), cd_R 198 50 [some (.ref 15), none, some (.int (a2)), some (.int (a3)), some (.int (a4)), some (.int (a5)), some (.int (a6)), none, none] [] M (w_PM (r50 a2 a3 a4 a5 a6 M))) (a2 : Int32) (a3 : Int32) (a4 : Int32) (a5 : Int32) (a6 : Int32) (a7 : Int32) (s0 : Int32) (M : cd_M) : cd_R 198 117 [some (.ref 15), none, some (.int (a2)), some (.int (a3)), some (.int (a4)), some (.int (a5)), some (.int (a6)), some (.int (a7)), none] [.int (s0)] M (w_PM (f11_noise_15_L117 r38 r50 a2 a3 a4 a5 a6 a7 s0 M)) := by
  unfold f11_noise_15_L117
  refine r_st (.istore 8) 2 0 8 rfl rfl rfl 119 rfl [some (.ref 15), none, some (.int (a2)), some (.int (a3)), some (.int (a4)), some (.int (a5)), some (.int (a6)), some (.int (a7)), some (.int (s0))] rfl ?_
  refine r_ld (.aload_n 0) 1 2 0 (.ref 15) rfl rfl rfl rfl 120 rfl ?_
  refine r_go (.getfield 33) 3 rfl rfl rfl 123 [.ref 64] rfl ?_
  refine q_const (.bipush 7) 2 rfl rfl rfl 125 (7) _ rfl cd_kc7 ?_
  refine r_ld (.iload 5) 2 0 5 (.int (a5)) rfl rfl rfl rfl 127 rfl ?_
  refine r_go (.imul) 1 rfl rfl rfl 128 [.int (7 * a5), .ref 64] rfl ?_
  refine r_ld (.iload 6) 2 0 6 (.int (a6)) rfl rfl rfl rfl 130 rfl ?_
  refine r_go (.iadd) 1 rfl rfl rfl 131 [.int ((7 * a5) + a6), .ref 64] rfl ?_
  refine r_ld (.iload 8) 2 0 8 (.int (s0)) rfl rfl rfl rfl 133 rfl ?_
  refine q_iast w_PM rfl rfl 64 630 rfl (fun M8 => ?_)
  refine r_ld (.iload 4) 2 0 4 (.int (a4)) rfl rfl rfl rfl 136 rfl ?_
  refine r_ld (.iload 8) 2 0 8 (.int (s0)) rfl rfl rfl rfl 138 rfl ?_
  refine r_ld (.iload 7) 2 0 7 (.int (a7)) rfl rfl rfl rfl 140 rfl ?_
  refine q_br w_PM (.if_icmp .eq 7) 3 rfl rfl rfl (s0 = a7) 147 143 [.int (a4)] rfl (fun _ => ?_) (fun _ => ?_)
  · refine q_const (.iconst 0) 1 rfl rfl rfl 148 (0) _ rfl cd_kj0 ?_
    exact r_w (k11_noise_15_L148 r38 h38 r50 h50 a2 a3 a5 a6 0 a4 M8) (cd_le_s (cd_le_n (cd_le_s (cd_le_s (cd_le_n (cd_le_s (cd_le_s (cd_le_n (cd_le_n cd_le_0)))))))))
  · refine q_const (.iconst 1) 1 rfl rfl rfl 144 (1) _ rfl cd_kj1 ?_
    refine r_go (.goto 4) 3 rfl rfl rfl 148 [.int (1), .int (a4)] rfl ?_
    exact r_w (k11_noise_15_L148 r38 h38 r50 h50 a2 a3 a5 a6 1 a4 M8) (cd_le_s (cd_le_n (cd_le_s (cd_le_s (cd_le_n (cd_le_s (cd_le_s (cd_le_n (cd_le_n cd_le_0)))))))))
def f11_noise_15_L50 (r38 : Int32 → Int32 → Int32 → Int32 → cd_M → Option (Int32 × cd_M)) : Nat → Int32 → Int32 → Int32 → Int32 → Int32 → cd_M → Option (Int32 × cd_M)
  | 0, _, _, _, _, _, _ => none
  | n + 1, a2, a3, a4, a5, a6, M => if M.1 15 11 ≤ a6 then (cd_lt (a5 + (1)) fun x4 => r38 a2 a3 a4 x4 M) else (cd_lt ((1664525 * a3) + 1013904223) fun x5 => (f11_sample_15 a5 a6 M).bind fun v6 => if (2 * a2) + 1 = 0 then none else (cd_lt ((v6 + (((x5.toUInt32 >>> ((8 : Int32).toUInt32 &&& Int32.toUInt32 31)).toInt32) - ((x5.toUInt32 >>> ((8 : Int32).toUInt32 &&& Int32.toUInt32 31)).toInt32) / ((2 * a2) + 1) * ((2 * a2) + 1))) - a2) fun x7 => if 0 ≤ x7 then (if x7 ≤ 99 then (f11_noise_15_L117 r38 (f11_noise_15_L50 r38 n) a2 x5 a4 a5 a6 v6 x7 M) else (f11_noise_15_L117 r38 (f11_noise_15_L50 r38 n) a2 x5 a4 a5 a6 v6 99 M)) else (f11_noise_15_L117 r38 (f11_noise_15_L50 r38 n) a2 x5 a4 a5 a6 v6 0 M)))
set_option maxRecDepth 8000 in
theorem k11_noise_15_L50 (r38 : Int32 → Int32 → Int32 → Int32 → cd_M → Option (Int32 × cd_M)) (h38 : ∀ (a2 : Int32) (a3 : Int32) (a4 : Int32) (a5 : Int32) (M : cd_M), cd_R 198 38 [some (.ref 15), none, some (.int (a2)), some (.int (a3)), some (.int (a4)), some (.int (a5)), none, none, none] [] M (w_PM (r38 a2 a3 a4 a5 M))) : ∀ (n : Nat) (a2 : Int32) (a3 : Int32) (a4 : Int32) (a5 : Int32) (a6 : Int32) (M : cd_M), cd_R 198 50 [some (.ref 15), none, some (.int (a2)), some (.int (a3)), some (.int (a4)), some (.int (a5)), some (.int (a6)), none, none] [] M (w_PM (f11_noise_15_L50 r38 n a2 a3 a4 a5 a6 M)) := by
  intro n
  induction n with
  | zero =>
    intro a2 a3 a4 a5 a6 M
    exact q_none w_PM rfl
  | succ n ih =>
    intro a2 a3 a4 a5 a6 M
    rw [f11_noise_15_L50]
    refine r_ld (.iload 6) 2 0 6 (.int (a6)) rfl rfl rfl rfl 52 rfl ?_
    refine r_ld (.aload_n 0) 1 2 0 (.ref 15) rfl rfl rfl rfl 53 rfl ?_
    refine r_go (.getfield 189) 3 rfl rfl rfl 56 [.int (M.1 15 11), .int (a6)] rfl ?_
    refine q_br w_PM (.if_icmp .ge 101) 3 rfl rfl rfl (M.1 15 11 ≤ a6) 157 59 [] rfl (fun _ => ?_) (fun _ => ?_)
    · refine q_inc w_PM 5 (1) (a5) rfl rfl rfl 160 rfl (1) cd_kj1 (fun x4 => [some (.ref 15), none, some (.int (a2)), some (.int (a3)), some (.int (a4)), some (.int (x4)), some (.int (a6)), none, none]) (fun _ => rfl) (fun x4 => ?_)
      refine r_go (.goto (-122)) 3 rfl rfl rfl 38 [] rfl ?_
      exact r_w (h38 a2 a3 a4 x4 M) (cd_le_s (cd_le_n (cd_le_s (cd_le_s (cd_le_s (cd_le_s (cd_le_n (cd_le_n (cd_le_n cd_le_0)))))))))
    · refine r_go (.ldc 245) 2 rfl rfl rfl 61 [.int (1664525)] rfl ?_
      refine r_ld (.iload_n 3) 1 0 3 (.int (a3)) rfl rfl rfl rfl 62 rfl ?_
      refine r_go (.imul) 1 rfl rfl rfl 63 [.int (1664525 * a3)] rfl ?_
      refine r_go (.ldc 246) 2 rfl rfl rfl 65 [.int (1013904223), .int (1664525 * a3)] rfl ?_
      refine r_go (.iadd) 1 rfl rfl rfl 66 [.int ((1664525 * a3) + 1013904223)] rfl ?_
      refine q_stB w_PM (.istore_n 3) 1 0 3 rfl rfl (fun _ => rfl) 67 rfl (fun x5 => [some (.ref 15), none, some (.int (a2)), some (.int (x5)), some (.int (a4)), some (.int (a5)), some (.int (a6)), none, none]) (fun _ => rfl) (fun x5 => ?_)
      refine r_ld (.aload_n 0) 1 2 0 (.ref 15) rfl rfl rfl rfl 68 rfl ?_
      refine r_ld (.iload 5) 2 0 5 (.int (a5)) rfl rfl rfl rfl 70 rfl ?_
      refine r_ld (.iload 6) 2 0 6 (.int (a6)) rfl rfl rfl rfl 72 rfl ?_
      refine q_cI w_PM rfl (.invokevirtual 247) rfl rfl rfl 191 [.ref 15, .int (a5), .int (a6)] [] rfl (k11_sample_15 a5 a6 M) (fun v6 => ?_)
      refine r_st (.istore 7) 2 0 7 rfl rfl rfl 77 rfl [some (.ref 15), none, some (.int (a2)), some (.int (x5)), some (.int (a4)), some (.int (a5)), some (.int (a6)), some (.int (v6)), none] rfl ?_
      refine r_ld (.iload 7) 2 0 7 (.int (v6)) rfl rfl rfl rfl 79 rfl ?_
      refine r_ld (.iload_n 3) 1 0 3 (.int (x5)) rfl rfl rfl rfl 80 rfl ?_
      refine q_const (.bipush 8) 2 rfl rfl rfl 82 (8) _ rfl cd_kc8 ?_
      refine r_go (.iushr) 1 rfl rfl rfl 83 [.int ((x5.toUInt32 >>> ((8 : Int32).toUInt32 &&& Int32.toUInt32 31)).toInt32), .int (v6)] rfl ?_
      refine q_const (.iconst 2) 1 rfl rfl rfl 84 (2) _ rfl cd_kj2 ?_
      refine r_ld (.iload_n 2) 1 0 2 (.int (a2)) rfl rfl rfl rfl 85 rfl ?_
      refine r_go (.imul) 1 rfl rfl rfl 86 [.int (2 * a2), .int ((x5.toUInt32 >>> ((8 : Int32).toUInt32 &&& Int32.toUInt32 31)).toInt32), .int (v6)] rfl ?_
      refine q_const (.iconst 1) 1 rfl rfl rfl 87 (1) _ rfl cd_kj1 ?_
      refine r_go (.iadd) 1 rfl rfl rfl 88 [.int ((2 * a2) + 1), .int ((x5.toUInt32 >>> ((8 : Int32).toUInt32 &&& Int32.toUInt32 31)).toInt32), .int (v6)] rfl ?_
      refine q_rem w_PM rfl rfl ?_
      refine r_go (.iadd) 1 rfl rfl rfl 90 [.int (v6 + (((x5.toUInt32 >>> ((8 : Int32).toUInt32 &&& Int32.toUInt32 31)).toInt32) - ((x5.toUInt32 >>> ((8 : Int32).toUInt32 &&& Int32.toUInt32 31)).toInt32) / ((2 * a2) + 1) * ((2 * a2) + 1)))] rfl ?_
      refine r_ld (.iload_n 2) 1 0 2 (.int (a2)) rfl rfl rfl rfl 91 rfl ?_
      refine r_go (.isub) 1 rfl rfl rfl 92 [.int ((v6 + (((x5.toUInt32 >>> ((8 : Int32).toUInt32 &&& Int32.toUInt32 31)).toInt32) - ((x5.toUInt32 >>> ((8 : Int32).toUInt32 &&& Int32.toUInt32 31)).toInt32) / ((2 * a2) + 1) * ((2 * a2) + 1))) - a2)] rfl ?_
      refine q_stB w_PM (.istore 8) 2 0 8 rfl rfl (fun _ => rfl) 94 rfl (fun x7 => [some (.ref 15), none, some (.int (a2)), some (.int (x5)), some (.int (a4)), some (.int (a5)), some (.int (a6)), some (.int (v6)), some (.int (x7))]) (fun _ => rfl) (fun x7 => ?_)
      refine r_ld (.iload 8) 2 0 8 (.int (x7)) rfl rfl rfl rfl 96 rfl ?_
      refine q_br w_PM (.ifCond .ge 7) 3 rfl rfl rfl (0 ≤ x7) 103 99 [] rfl (fun _ => ?_) (fun _ => ?_)
      · refine r_ld (.iload 8) 2 0 8 (.int (x7)) rfl rfl rfl rfl 105 rfl ?_
        refine q_const (.bipush 99) 2 rfl rfl rfl 107 (99) _ rfl cd_kc99 ?_
        refine q_br w_PM (.if_icmp .le 8) 3 rfl rfl rfl (x7 ≤ 99) 115 110 [] rfl (fun _ => ?_) (fun _ => ?_)
        · refine r_ld (.iload 8) 2 0 8 (.int (x7)) rfl rfl rfl rfl 117 rfl ?_
          exact r_w (k11_noise_15_L117 r38 h38 (f11_noise_15_L50 r38 n) ih a2 x5 a4 a5 a6 v6 x7 M) (cd_le_s (cd_le_n (cd_le_s (cd_le_s (cd_le_s (cd_le_s (cd_le_s (cd_le_s (cd_le_n cd_le_0)))))))))
        · refine q_const (.bipush 99) 2 rfl rfl rfl 112 (99) _ rfl cd_kc99 ?_
          refine r_go (.goto 5) 3 rfl rfl rfl 117 [.int (99)] rfl ?_
          exact r_w (k11_noise_15_L117 r38 h38 (f11_noise_15_L50 r38 n) ih a2 x5 a4 a5 a6 v6 99 M) (cd_le_s (cd_le_n (cd_le_s (cd_le_s (cd_le_s (cd_le_s (cd_le_s (cd_le_s (cd_le_n cd_le_0)))))))))
      · refine q_const (.iconst 0) 1 rfl rfl rfl 100 (0) _ rfl cd_kj0 ?_
        refine r_go (.goto 17) 3 rfl rfl rfl 117 [.int (0)] rfl ?_
        exact r_w (k11_noise_15_L117 r38 h38 (f11_noise_15_L50 r38 n) ih a2 x5 a4 a5 a6 v6 0 M) (cd_le_s (cd_le_n (cd_le_s (cd_le_s (cd_le_s (cd_le_s (cd_le_s (cd_le_s (cd_le_n cd_le_0)))))))))
def f11_noise_15_L38 : Nat → Int32 → Int32 → Int32 → Int32 → cd_M → Option (Int32 × cd_M)
  | 0, _, _, _, _, _ => none
  | n + 1, a2, a3, a4, a5, M => if M.1 15 24 ≤ a5 then (some (a4, M)) else (f11_noise_15_L50 (f11_noise_15_L38 n) cd_fu a2 a3 a4 a5 0 M)
set_option maxRecDepth 8000 in
theorem k11_noise_15_L38 : ∀ (n : Nat) (a2 : Int32) (a3 : Int32) (a4 : Int32) (a5 : Int32) (M : cd_M), cd_R 198 38 [some (.ref 15), none, some (.int (a2)), some (.int (a3)), some (.int (a4)), some (.int (a5)), none, none, none] [] M (w_PM (f11_noise_15_L38 n a2 a3 a4 a5 M)) := by
  intro n
  induction n with
  | zero =>
    intro a2 a3 a4 a5 M
    exact q_none w_PM rfl
  | succ n ih =>
    intro a2 a3 a4 a5 M
    rw [f11_noise_15_L38]
    refine r_ld (.iload 5) 2 0 5 (.int (a5)) rfl rfl rfl rfl 40 rfl ?_
    refine r_ld (.aload_n 0) 1 2 0 (.ref 15) rfl rfl rfl rfl 41 rfl ?_
    refine r_go (.getfield 195) 3 rfl rfl rfl 44 [.int (M.1 15 24), .int (a5)] rfl ?_
    refine q_br w_PM (.if_icmp .ge 119) 3 rfl rfl rfl (M.1 15 24 ≤ a5) 163 47 [] rfl (fun _ => ?_) (fun _ => ?_)
    · refine r_ld (.iload 4) 2 0 4 (.int (a4)) rfl rfl rfl rfl 165 rfl ?_
      exact r_ret .ireturn 1 rfl rfl rfl _ rfl
    · refine q_const (.iconst 0) 1 rfl rfl rfl 48 (0) _ rfl cd_kj0 ?_
      refine r_st (.istore 6) 2 0 6 rfl rfl rfl 50 rfl [some (.ref 15), none, some (.int (a2)), some (.int (a3)), some (.int (a4)), some (.int (a5)), some (.int (0)), none, none] rfl ?_
      exact r_w (k11_noise_15_L50 (f11_noise_15_L38 n) ih cd_fu a2 a3 a4 a5 0 M) (cd_le_s (cd_le_n (cd_le_s (cd_le_s (cd_le_s (cd_le_s (cd_le_s (cd_le_n (cd_le_n cd_le_0)))))))))
def f11_noise_15 (a1 : Int32) (a2 : Int32) (M : cd_M) : Option (Int32 × cd_M) := cd_lt (cd_wI M 15 0 0) fun M1 => if f11_within (a2.toInt64) 1 9 M1 = 0 then (some ((-1), M1)) else (if M1.1 15 24 = 0 then (some ((-1), M1)) else ((f11_keeps_15 M1).bind fun M3 => f11_noise_15_L38 cd_fu a2 a1 0 0 M3))
set_option maxRecDepth 8000 in
theorem k11_noise_15 (a1 : Int32) (a2 : Int32) (M : cd_M) : cd_R 198 0 [some (.ref 15), some (.int (a1)), some (.int (a2)), none, none, none, none, none, none] [] M (w_PM (f11_noise_15 a1 a2 M)) := by
  unfold f11_noise_15
  refine r_ld (.aload_n 0) 1 2 0 (.ref 15) rfl rfl rfl rfl 1 rfl ?_
  refine q_const (.iconst 0) 1 rfl rfl rfl 2 (0) _ rfl cd_kj0 ?_
  refine q_wr w_PM (.putfield 95) 3 rfl rfl rfl 5 [] (cd_wI M 15 0 0) rfl (fun M1 => ?_)
  refine r_ld (.iload_n 2) 1 0 2 (.int (a2)) rfl rfl rfl rfl 6 rfl ?_
  refine r_go (.i2l) 1 rfl rfl rfl 7 [.long (a2.toInt64)] rfl ?_
  refine r_go (.lconst 1) 1 rfl rfl rfl 8 [.long (1), .long (a2.toInt64)] rfl ?_
  refine r_go (.ldc2_w 243) 3 rfl rfl rfl 11 [.long (9), .long (1), .long (a2.toInt64)] rfl ?_
  refine q_cTIz (.invokestatic 127) rfl rfl rfl 161 rfl [.long (a2.toInt64), .long (1), .long (9)] [] rfl (k11_within (a2.toInt64) 1 9 M1) (fun z2 => ?_)
  refine q_br w_PM (.ifCond .eq 10) 3 rfl rfl rfl (f11_within (a2.toInt64) 1 9 M1 = 0) 24 17 [] rfl (fun _ => ?_) (fun _ => ?_)
  · refine q_const (.iconst (-1)) 1 rfl rfl rfl 25 (-1) _ rfl cd_kjm1 ?_
    exact r_ret .ireturn 1 rfl rfl rfl _ rfl
  · refine r_ld (.aload_n 0) 1 2 0 (.ref 15) rfl rfl rfl rfl 18 rfl ?_
    refine r_go (.getfield 195) 3 rfl rfl rfl 21 [.int (M1.1 15 24)] rfl ?_
    refine q_br w_PM (.ifCond .ne 5) 3 rfl rfl rfl (M1.1 15 24 = 0) 24 26 [] rfl (fun _ => ?_) (fun _ => ?_)
    · refine q_const (.iconst (-1)) 1 rfl rfl rfl 25 (-1) _ rfl cd_kjm1 ?_
      exact r_ret .ireturn 1 rfl rfl rfl _ rfl
    · refine r_ld (.aload_n 0) 1 2 0 (.ref 15) rfl rfl rfl rfl 27 rfl ?_
      refine q_cV w_PM rfl (.invokevirtual 233) rfl rfl rfl 193 [.ref 15] [] rfl (k11_keeps_15 M1) (fun M3 => ?_)
      refine r_ld (.iload_n 1) 1 0 1 (.int (a1)) rfl rfl rfl rfl 31 rfl ?_
      refine r_st (.istore_n 3) 1 0 3 rfl rfl rfl 32 rfl [some (.ref 15), some (.int (a1)), some (.int (a2)), some (.int (a1)), none, none, none, none, none] rfl ?_
      refine q_const (.iconst 0) 1 rfl rfl rfl 33 (0) _ rfl cd_kj0 ?_
      refine r_st (.istore 4) 2 0 4 rfl rfl rfl 35 rfl [some (.ref 15), some (.int (a1)), some (.int (a2)), some (.int (a1)), some (.int (0)), none, none, none, none] rfl ?_
      refine q_const (.iconst 0) 1 rfl rfl rfl 36 (0) _ rfl cd_kj0 ?_
      refine r_st (.istore 5) 2 0 5 rfl rfl rfl 38 rfl [some (.ref 15), some (.int (a1)), some (.int (a2)), some (.int (a1)), some (.int (0)), some (.int (0)), none, none, none] rfl ?_
      exact r_w (k11_noise_15_L38 cd_fu a2 a1 0 0 M3) (cd_le_s (cd_le_n (cd_le_s (cd_le_s (cd_le_s (cd_le_s (cd_le_n (cd_le_n (cd_le_n cd_le_0)))))))))
def f11_isField_15 (a1 : Int32) (M : cd_M) : Int32 := (f11_within (a1.toInt64) 0 (((M.1 15 24) - 1 : Int32).toInt64) M)
set_option maxRecDepth 8000 in
theorem k11_isField_15 (a1 : Int32) (M : cd_M) : cd_R 189 0 [some (.ref 15), some (.int (a1))] [] M ((w_TI M) (f11_isField_15 a1 M)) := by
  unfold f11_isField_15
  refine r_ld (.iload_n 1) 1 0 1 (.int (a1)) rfl rfl rfl rfl 1 rfl ?_
  refine r_go (.i2l) 1 rfl rfl rfl 2 [.long (a1.toInt64)] rfl ?_
  refine r_go (.lconst 0) 1 rfl rfl rfl 3 [.long (0), .long (a1.toInt64)] rfl ?_
  refine r_ld (.aload_n 0) 1 2 0 (.ref 15) rfl rfl rfl rfl 4 rfl ?_
  refine r_go (.getfield 195) 3 rfl rfl rfl 7 [.int (M.1 15 24), .long (0), .long (a1.toInt64)] rfl ?_
  refine q_const (.iconst 1) 1 rfl rfl rfl 8 (1) _ rfl cd_kj1 ?_
  refine r_go (.isub) 1 rfl rfl rfl 9 [.int ((M.1 15 24) - 1), .long (0), .long (a1.toInt64)] rfl ?_
  refine r_go (.i2l) 1 rfl rfl rfl 10 [.long (((M.1 15 24) - 1 : Int32).toInt64), .long (0), .long (a1.toInt64)] rfl ?_
  refine q_cTIz (.invokestatic 127) rfl rfl rfl 161 rfl [.long (a1.toInt64), .long (0), .long (((M.1 15 24) - 1 : Int32).toInt64)] [] rfl (k11_within (a1.toInt64) 0 (((M.1 15 24) - 1 : Int32).toInt64) M) (fun z1 => ?_)
  exact r_retZ rfl rfl z1
