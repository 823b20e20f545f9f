def f0_weighStates_9_7_6_L228 (r118 : Int32 → Int32 → Int32 → Int32 → Int32 → Int32 → cd_M → Option cd_M) (a3 : Int32) (a5 : Int32) (a6 : Int32) (a7 : Int32) (a8 : Int32) (a9 : Int32) (s0 : Int32) (s1 : Int32) (s2 : Int32) (M : cd_M) : Option cd_M := if cd_in s2 90 = true then (cd_lt (cd_wI M 31 s2.toNatClampNeg (s1 + s0)) fun M11 => cd_lt (a9 + (1)) fun x12 => r118 a3 a5 a6 a7 a8 x12 M11) else none
set_option maxRecDepth 8000 in
theorem k0_weighStates_9_7_6_L228 (r118 : Int32 → Int32 → Int32 → Int32 → Int32 → Int32 → cd_M → Option cd_M) (h118 : ∀ (a3 : Int32) (a5 : Int32) (a6 : Int32) (a7 : Int32) (a8 : Int32) (a9 : Int32) (M : cd_M), cd_R 8 118 [some (.ref 9), none, none, some (.int (a3)), none, some (.int (a5)), some (.int (a6)), some (.int (a7)), some (.int (a8)), some (.int (a9)), none] [] M (w_PV (r118 a3 a5 a6 a7 a8 a9 M))) (a3 : Int32) (a5 : Int32) (a6 : Int32) (a7 : Int32) (a8 : Int32) (a9 : Int32) (s0 : Int32) (s1 : Int32) (s2 : Int32) (M : cd_M) : cd_R 8 228 [some (.ref 9), none, none, some (.int (a3)), none, some (.int (a5)), some (.int (a6)), some (.int (a7)), some (.int (a8)), some (.int (a9)), none] [.int (s0), .int (s1), .int (s2), .ref 31] M (w_PV (f0_weighStates_9_7_6_L228 r118 a3 a5 a6 a7 a8 a9 s0 s1 s2 M)) := by
  unfold f0_weighStates_9_7_6_L228
  refine r_go (.iadd) 1 rfl rfl rfl 229 [.int (s1 + s0), .int (s2), .ref 31] rfl ?_
  refine q_iast w_PV rfl rfl 31 90 rfl (fun M11 => ?_)
  refine q_inc w_PV 9 (1) (a9) rfl rfl rfl 233 rfl (1) cd_kj1 (fun x12 => [some (.ref 9), none, none, some (.int (a3)), none, some (.int (a5)), some (.int (a6)), some (.int (a7)), some (.int (a8)), some (.int (x12)), none]) (fun _ => rfl) (fun x12 => ?_)
  refine r_go (.goto (-115)) 3 rfl rfl rfl 118 [] rfl ?_
  exact r_w (h118 a3 a5 a6 a7 a8 x12 M11) (cd_le_s (cd_le_n (cd_le_n (cd_le_s (cd_le_n (cd_le_s (cd_le_s (cd_le_s (cd_le_s (cd_le_s (cd_le_n cd_le_0)))))))))))
def f0_weighStates_9_7_6_L200 (r118 : Int32 → Int32 → Int32 → Int32 → Int32 → Int32 → cd_M → Option cd_M) (a3 : Int32) (a5 : Int32) (a6 : Int32) (a7 : Int32) (a8 : Int32) (a9 : Int32) (a10 : Int32) (M : cd_M) : Option cd_M := (f6_seen_10 a9 M).bind fun v10 => if 2 ≤ v10 then (f0_weighStates_9_7_6_L228 r118 a3 a5 a6 a7 a8 a9 a7 a10 a9 M) else (f0_weighStates_9_7_6_L228 r118 a3 a5 a6 a7 a8 a9 a6 a10 a9 M)
set_option maxRecDepth 8000 in
theorem k0_weighStates_9_7_6_L200 (r118 : Int32 → Int32 → Int32 → Int32 → Int32 → Int32 → cd_M → Option cd_M) (h118 : ∀ (a3 : Int32) (a5 : Int32) (a6 : Int32) (a7 : Int32) (a8 : Int32) (a9 : Int32) (M : cd_M), cd_R 8 118 [some (.ref 9), none, none, some (.int (a3)), none, some (.int (a5)), some (.int (a6)), some (.int (a7)), some (.int (a8)), some (.int (a9)), none] [] M (w_PV (r118 a3 a5 a6 a7 a8 a9 M))) (a3 : Int32) (a5 : Int32) (a6 : Int32) (a7 : Int32) (a8 : Int32) (a9 : Int32) (a10 : Int32) (M : cd_M) : cd_R 8 200 [some (.ref 9), none, none, some (.int (a3)), none, some (.int (a5)), some (.int (a6)), some (.int (a7)), some (.int (a8)), some (.int (a9)), some (.int (a10))] [] M (w_PV (f0_weighStates_9_7_6_L200 r118 a3 a5 a6 a7 a8 a9 a10 M)) := by
  unfold f0_weighStates_9_7_6_L200
  refine r_ld (.aload_n 0) 1 2 0 (.ref 9) rfl rfl rfl rfl 201 rfl ?_
  refine r_go (.getfield 18) 3 rfl rfl rfl 204 [.ref 31] rfl ?_
  refine r_ld (.iload 9) 2 0 9 (.int (a9)) rfl rfl rfl rfl 206 rfl ?_
  refine r_ld (.iload 10) 2 0 10 (.int (a10)) rfl rfl rfl rfl 208 rfl ?_
  refine r_ld (.aload_n 0) 1 2 0 (.ref 9) rfl rfl rfl rfl 209 rfl ?_
  refine r_go (.getfield 12) 3 rfl rfl rfl 212 [.ref 10, .int (a10), .int (a9), .ref 31] rfl ?_
  refine r_ld (.iload 9) 2 0 9 (.int (a9)) rfl rfl rfl rfl 214 rfl ?_
  refine q_cI w_PV rfl (.invokevirtual 105) rfl rfl rfl 72 [.ref 10, .int (a9)] [.int (a10), .int (a9), .ref 31] rfl (k6_seen_10 a9 M) (fun v10 => ?_)
  refine q_const (.iconst 2) 1 rfl rfl rfl 218 (2) _ rfl cd_kj2 ?_
  refine q_br w_PV (.if_icmp .ge 8) 3 rfl rfl rfl (2 ≤ v10) 226 221 [.int (a10), .int (a9), .ref 31] rfl (fun _ => ?_) (fun _ => ?_)
  · refine r_ld (.iload 7) 2 0 7 (.int (a7)) rfl rfl rfl rfl 228 rfl ?_
    exact r_w (k0_weighStates_9_7_6_L228 r118 h118 a3 a5 a6 a7 a8 a9 a7 a10 a9 M) (cd_le_s (cd_le_n (cd_le_n (cd_le_s (cd_le_n (cd_le_s (cd_le_s (cd_le_s (cd_le_s (cd_le_s (cd_le_n cd_le_0)))))))))))
  · refine r_ld (.iload 6) 2 0 6 (.int (a6)) rfl rfl rfl rfl 223 rfl ?_
    refine r_go (.goto 5) 3 rfl rfl rfl 228 [.int (a6), .int (a10), .int (a9), .ref 31] rfl ?_
    exact r_w (k0_weighStates_9_7_6_L228 r118 h118 a3 a5 a6 a7 a8 a9 a6 a10 a9 M) (cd_le_s (cd_le_n (cd_le_n (cd_le_s (cd_le_n (cd_le_s (cd_le_s (cd_le_s (cd_le_s (cd_le_s (cd_le_n cd_le_0)))))))))))
def f0_weighStates_9_7_6_L118 : Nat → Int32 → Int32 → Int32 → Int32 → Int32 → Int32 → cd_M → Option cd_M
  | 0, _, _, _, _, _, _, _ => none
  | n + 1, a3, a5, a6, a7, a8, a9, M => if f6_size_10 M ≤ a9 then (some M) else (if a5 = 0 then (f0_weighStates_9_7_6_L200 (f0_weighStates_9_7_6_L118 n) a3 a5 a6 a7 a8 a9 a8 M) else ((f6_next_10 a9 M).bind fun v13 => (f0_isBetterOn_9 v13 a8 (a3 + 1) M).bind fun v14 => if v14 = 0 then (f0_weighStates_9_7_6_L200 (f0_weighStates_9_7_6_L118 n) a3 a5 a6 a7 a8 a9 a8 M) else ((f6_next_10 a9 M).bind fun v16 => if cd_in v16 90 = true then (cd_lt (M.1 32 v16.toNatClampNeg) fun x17 => if cd_in ((2 * a3) + (a9 >>> ((6 : Int32) &&& 31))) 180 = true then (if cd_in ((2 * a3) + (a9 >>> ((6 : Int32) &&& 31))) 180 = true then (cd_lt (cd_wL M 33 ((2 * a3) + (a9 >>> ((6 : Int32) &&& 31)) : Int32).toNatClampNeg ((M.2 33 ((2 * a3) + (a9 >>> ((6 : Int32) &&& 31)) : Int32).toNatClampNeg : Int64) ||| ((1 : Int64) <<< ((a9 &&& 63 : Int32).toInt64 &&& 63) : Int64))) fun M18 => f0_weighStates_9_7_6_L200 (f0_weighStates_9_7_6_L118 n) a3 a5 a6 a7 a8 a9 x17 M18) else none) else none) else none)))
set_option maxRecDepth 8000 in
theorem k0_weighStates_9_7_6_L118 : ∀ (n : Nat) (a3 : Int32) (a5 : Int32) (a6 : Int32) (a7 : Int32) (a8 : Int32) (a9 : Int32) (M : cd_M), cd_R 8 118 [some (.ref 9), none, none, some (.int (a3)), none, some (.int (a5)), some (.int (a6)), some (.int (a7)), some (.int (a8)), some (.int (a9)), none] [] M (w_PV (f0_weighStates_9_7_6_L118 n a3 a5 a6 a7 a8 a9 M)) := by
  intro n
  induction n with
  | zero =>
    intro a3 a5 a6 a7 a8 a9 M
    exact q_none w_PV rfl
  | succ n ih =>
    intro a3 a5 a6 a7 a8 a9 M
    rw [f0_weighStates_9_7_6_L118]
    refine r_ld (.iload 9) 2 0 9 (.int (a9)) rfl rfl rfl rfl 120 rfl ?_
    refine r_ld (.aload_n 0) 1 2 0 (.ref 9) rfl rfl rfl rfl 121 rfl ?_
    refine r_go (.getfield 12) 3 rfl rfl rfl 124 [.ref 10, .int (a9)] rfl ?_
    refine q_cTI (.invokevirtual 97) rfl rfl rfl 69 [.ref 10] [.int (a9)] rfl (k6_size_10 M) ?_
    refine q_br w_PV (.if_icmp .ge 109) 3 rfl rfl rfl (f6_size_10 M ≤ a9) 236 130 [] rfl (fun _ => ?_) (fun _ => ?_)
    · exact r_ret .return_ 1 rfl rfl rfl _ rfl
    · refine r_ld (.iload 8) 2 0 8 (.int (a8)) rfl rfl rfl rfl 132 rfl ?_
      refine r_st (.istore 10) 2 0 10 rfl rfl rfl 134 rfl [some (.ref 9), none, none, some (.int (a3)), none, some (.int (a5)), some (.int (a6)), some (.int (a7)), some (.int (a8)), some (.int (a9)), some (.int (a8))] rfl ?_
      refine r_ld (.iload 5) 2 0 5 (.int (a5)) rfl rfl rfl rfl 136 rfl ?_
      refine q_br w_PV (.ifCond .eq 64) 3 rfl rfl rfl (a5 = 0) 200 139 [] rfl (fun _ => ?_) (fun _ => ?_)
      · exact r_w (k0_weighStates_9_7_6_L200 (f0_weighStates_9_7_6_L118 n) ih a3 a5 a6 a7 a8 a9 a8 M) (cd_le_s (cd_le_n (cd_le_n (cd_le_s (cd_le_n (cd_le_s (cd_le_s (cd_le_s (cd_le_s (cd_le_s (cd_le_s cd_le_0)))))))))))
      · refine r_ld (.aload_n 0) 1 2 0 (.ref 9) rfl rfl rfl rfl 140 rfl ?_
        refine r_ld (.aload_n 0) 1 2 0 (.ref 9) rfl rfl rfl rfl 141 rfl ?_
        refine r_go (.getfield 12) 3 rfl rfl rfl 144 [.ref 10, .ref 9] rfl ?_
        refine r_ld (.iload 9) 2 0 9 (.int (a9)) rfl rfl rfl rfl 146 rfl ?_
        refine q_cI w_PV rfl (.invokevirtual 98) rfl rfl rfl 73 [.ref 10, .int (a9)] [.ref 9] rfl (k6_next_10 a9 M) (fun v13 => ?_)
        refine r_ld (.iload 8) 2 0 8 (.int (a8)) rfl rfl rfl rfl 151 rfl ?_
        refine r_ld (.iload_n 3) 1 0 3 (.int (a3)) rfl rfl rfl rfl 152 rfl ?_
        refine q_const (.iconst 1) 1 rfl rfl rfl 153 (1) _ rfl cd_kj1 ?_
        refine r_go (.iadd) 1 rfl rfl rfl 154 [.int (a3 + 1), .int (a8), .int (v13), .ref 9] rfl ?_
        refine q_cIz w_PV rfl (.invokevirtual 101) rfl rfl rfl 9 rfl [.ref 9, .int (v13), .int (a8), .int (a3 + 1)] [] rfl (k0_isBetterOn_9 v13 a8 (a3 + 1) M) (fun v14 z15 => ?_)
        refine q_br w_PV (.ifCond .eq 43) 3 rfl rfl rfl (v14 = 0) 200 160 [] rfl (fun _ => ?_) (fun _ => ?_)
        · exact r_w (k0_weighStates_9_7_6_L200 (f0_weighStates_9_7_6_L118 n) ih a3 a5 a6 a7 a8 a9 a8 M) (cd_le_s (cd_le_n (cd_le_n (cd_le_s (cd_le_n (cd_le_s (cd_le_s (cd_le_s (cd_le_s (cd_le_s (cd_le_s cd_le_0)))))))))))
        · refine r_ld (.aload_n 0) 1 2 0 (.ref 9) rfl rfl rfl rfl 161 rfl ?_
          refine r_go (.getfield 22) 3 rfl rfl rfl 164 [.ref 32] rfl ?_
          refine r_ld (.aload_n 0) 1 2 0 (.ref 9) rfl rfl rfl rfl 165 rfl ?_
          refine r_go (.getfield 12) 3 rfl rfl rfl 168 [.ref 10, .ref 32] rfl ?_
          refine r_ld (.iload 9) 2 0 9 (.int (a9)) rfl rfl rfl rfl 170 rfl ?_
          refine q_cI w_PV rfl (.invokevirtual 98) rfl rfl rfl 73 [.ref 10, .int (a9)] [.ref 32] rfl (k6_next_10 a9 M) (fun v16 => ?_)
          refine q_iald w_PV rfl rfl 32 90 rfl ?_
          refine q_stB w_PV (.istore 10) 2 0 10 rfl rfl (fun _ => rfl) 176 rfl (fun x17 => [some (.ref 9), none, none, some (.int (a3)), none, some (.int (a5)), some (.int (a6)), some (.int (a7)), some (.int (a8)), some (.int (a9)), some (.int (x17))]) (fun _ => rfl) (fun x17 => ?_)
          refine r_ld (.aload_n 0) 1 2 0 (.ref 9) rfl rfl rfl rfl 177 rfl ?_
          refine r_go (.getfield 25) 3 rfl rfl rfl 180 [.ref 33] rfl ?_
          refine q_const (.iconst 2) 1 rfl rfl rfl 181 (2) _ rfl cd_kj2 ?_
          refine r_ld (.iload_n 3) 1 0 3 (.int (a3)) rfl rfl rfl rfl 182 rfl ?_
          refine r_go (.imul) 1 rfl rfl rfl 183 [.int (2 * a3), .ref 33] rfl ?_
          refine r_ld (.iload 9) 2 0 9 (.int (a9)) rfl rfl rfl rfl 185 rfl ?_
          refine q_const (.bipush 6) 2 rfl rfl rfl 187 (6) _ rfl cd_kc6 ?_
          refine r_go (.ishr) 1 rfl rfl rfl 188 [.int (a9 >>> ((6 : Int32) &&& 31)), .int (2 * a3), .ref 33] rfl ?_
          refine r_go (.iadd) 1 rfl rfl rfl 189 [.int ((2 * a3) + (a9 >>> ((6 : Int32) &&& 31))), .ref 33] rfl ?_
          refine r_go (.dup2) 1 rfl rfl rfl 190 [.int ((2 * a3) + (a9 >>> ((6 : Int32) &&& 31))), .ref 33, .int ((2 * a3) + (a9 >>> ((6 : Int32) &&& 31))), .ref 33] rfl ?_
          refine q_lald w_PV rfl rfl 33 180 rfl ?_
          refine r_go (.lconst 1) 1 rfl rfl rfl 192 [.long (1), .long (M.2 33 ((2 * a3) + (a9 >>> ((6 : Int32) &&& 31)) : Int32).toNatClampNeg), .int ((2 * a3) + (a9 >>> ((6 : Int32) &&& 31))), .ref 33] rfl ?_
          refine r_ld (.iload 9) 2 0 9 (.int (a9)) rfl rfl rfl rfl 194 rfl ?_
          refine q_const (.bipush 63) 2 rfl rfl rfl 196 (63) _ rfl cd_kc63 ?_
          refine r_go (.iand) 1 rfl rfl rfl 197 [.int (a9 &&& 63), .long (1), .long (M.2 33 ((2 * a3) + (a9 >>> ((6 : Int32) &&& 31)) : Int32).toNatClampNeg), .int ((2 * a3) + (a9 >>> ((6 : Int32) &&& 31))), .ref 33] rfl ?_
          refine r_go (.lshl) 1 rfl rfl rfl 198 [.long ((1 : Int64) <<< ((a9 &&& 63 : Int32).toInt64 &&& 63)), .long (M.2 33 ((2 * a3) + (a9 >>> ((6 : Int32) &&& 31)) : Int32).toNatClampNeg), .int ((2 * a3) + (a9 >>> ((6 : Int32) &&& 31))), .ref 33] rfl ?_
          refine r_go (.lor) 1 rfl rfl rfl 199 [.long ((M.2 33 ((2 * a3) + (a9 >>> ((6 : Int32) &&& 31)) : Int32).toNatClampNeg : Int64) ||| ((1 : Int64) <<< ((a9 &&& 63 : Int32).toInt64 &&& 63) : Int64)), .int ((2 * a3) + (a9 >>> ((6 : Int32) &&& 31))), .ref 33] rfl ?_
          refine q_last w_PV rfl rfl 33 180 rfl (fun M18 => ?_)
          exact r_w (k0_weighStates_9_7_6_L200 (f0_weighStates_9_7_6_L118 n) ih a3 a5 a6 a7 a8 a9 x17 M18) (cd_le_s (cd_le_n (cd_le_n (cd_le_s (cd_le_n (cd_le_s (cd_le_s (cd_le_s (cd_le_s (cd_le_s (cd_le_s cd_le_0)))))))))))
def f0_weighStates_9_7_6_L93 (a3 : Int32) (a5 : Int32) (a6 : Int32) (a7 : Int32) (s0 : Int32) (M : cd_M) : Option cd_M := if cd_in (2 * a3) 180 = true then (cd_lt (cd_wL M 33 (2 * a3 : Int32).toNatClampNeg 0) fun M8 => if cd_in ((2 * a3) + 1) 180 = true then (cd_lt (cd_wL M8 33 ((2 * a3) + 1 : Int32).toNatClampNeg 0) fun M9 => f0_weighStates_9_7_6_L118 cd_fu a3 a5 a6 a7 s0 0 M9) else none) else none
set_option maxRecDepth 8000 in
theorem k0_weighStates_9_7_6_L93 (a3 : Int32) (a5 : Int32) (a6 : Int32) (a7 : Int32) (s0 : Int32) (M : cd_M) : cd_R 8 93 [some (.ref 9), none, none, some (.int (a3)), none, some (.int (a5)), some (.int (a6)), some (.int (a7)), none, none, none] [.int (s0)] M (w_PV (f0_weighStates_9_7_6_L93 a3 a5 a6 a7 s0 M)) := by
  unfold f0_weighStates_9_7_6_L93
  refine r_st (.istore 8) 2 0 8 rfl rfl rfl 95 rfl [some (.ref 9), none, none, some (.int (a3)), none, some (.int (a5)), some (.int (a6)), some (.int (a7)), some (.int (s0)), none, none] rfl ?_
  refine r_ld (.aload_n 0) 1 2 0 (.ref 9) rfl rfl rfl rfl 96 rfl ?_
  refine r_go (.getfield 25) 3 rfl rfl rfl 99 [.ref 33] rfl ?_
  refine q_const (.iconst 2) 1 rfl rfl rfl 100 (2) _ rfl cd_kj2 ?_
  refine r_ld (.iload_n 3) 1 0 3 (.int (a3)) rfl rfl rfl rfl 101 rfl ?_
  refine r_go (.imul) 1 rfl rfl rfl 102 [.int (2 * a3), .ref 33] rfl ?_
  refine r_go (.lconst 0) 1 rfl rfl rfl 103 [.long (0), .int (2 * a3), .ref 33] rfl ?_
  refine q_last w_PV rfl rfl 33 180 rfl (fun M8 => ?_)
  refine r_ld (.aload_n 0) 1 2 0 (.ref 9) rfl rfl rfl rfl 105 rfl ?_
  refine r_go (.getfield 25) 3 rfl rfl rfl 108 [.ref 33] rfl ?_
  refine q_const (.iconst 2) 1 rfl rfl rfl 109 (2) _ rfl cd_kj2 ?_
  refine r_ld (.iload_n 3) 1 0 3 (.int (a3)) rfl rfl rfl rfl 110 rfl ?_
  refine r_go (.imul) 1 rfl rfl rfl 111 [.int (2 * a3), .ref 33] rfl ?_
  refine q_const (.iconst 1) 1 rfl rfl rfl 112 (1) _ rfl cd_kj1 ?_
  refine r_go (.iadd) 1 rfl rfl rfl 113 [.int ((2 * a3) + 1), .ref 33] rfl ?_
  refine r_go (.lconst 0) 1 rfl rfl rfl 114 [.long (0), .int ((2 * a3) + 1), .ref 33] rfl ?_
  refine q_last w_PV rfl rfl 33 180 rfl (fun M9 => ?_)
  refine q_const (.iconst 0) 1 rfl rfl rfl 116 (0) _ rfl cd_kj0 ?_
  refine r_st (.istore 9) 2 0 9 rfl rfl rfl 118 rfl [some (.ref 9), none, none, some (.int (a3)), none, some (.int (a5)), some (.int (a6)), some (.int (a7)), some (.int (s0)), some (.int (0)), none] rfl ?_
  exact r_w (k0_weighStates_9_7_6_L118 cd_fu a3 a5 a6 a7 s0 0 M9) (cd_le_s (cd_le_n (cd_le_n (cd_le_s (cd_le_n (cd_le_s (cd_le_s (cd_le_s (cd_le_s (cd_le_s (cd_le_n cd_le_0)))))))))))
def f0_weighStates_9_7_6_L42 (a3 : Int32) (a4 : Int32) (s0 : Int32) (M : cd_M) : Option cd_M := (f5_costOfFresh_6_7 a3 M).bind fun v3 => cd_lt (128 * v3) fun x4 => (f5_costOfRepeat_6_7 a3 M).bind fun v5 => cd_lt (128 * v5) fun x6 => if a4 = 0 then ((f5_value_6 1 M).bind fun v7 => f0_weighStates_9_7_6_L93 a3 s0 x4 x6 (((M.1 9 5) + (128 * v7)) + 1) M) else (f0_weighStates_9_7_6_L93 a3 s0 x4 x6 0 M)
set_option maxRecDepth 8000 in
theorem k0_weighStates_9_7_6_L42 (a3 : Int32) (a4 : Int32) (s0 : Int32) (M : cd_M) : cd_R 8 42 [some (.ref 9), some (.ref 7), some (.ref 6), some (.int (a3)), some (.int (a4)), none, none, none, none, none, none] [.int (s0)] M (w_PV (f0_weighStates_9_7_6_L42 a3 a4 s0 M)) := by
  unfold f0_weighStates_9_7_6_L42
  refine r_st (.istore 5) 2 0 5 rfl rfl rfl 44 rfl [some (.ref 9), some (.ref 7), some (.ref 6), some (.int (a3)), some (.int (a4)), some (.int (s0)), none, none, none, none, none] rfl ?_
  refine q_const (.sipush 128) 3 rfl rfl rfl 47 (128) _ rfl cd_kt128 ?_
  refine r_ld (.aload_n 2) 1 2 2 (.ref 6) rfl rfl rfl rfl 48 rfl ?_
  refine r_ld (.aload_n 1) 1 2 1 (.ref 7) rfl rfl rfl rfl 49 rfl ?_
  refine r_ld (.iload_n 3) 1 0 3 (.int (a3)) rfl rfl rfl rfl 50 rfl ?_
  refine q_cI w_PV rfl (.invokevirtual 85) rfl rfl rfl 68 [.ref 6, .ref 7, .int (a3)] [.int (128)] rfl (k5_costOfFresh_6_7 a3 M) (fun v3 => ?_)
  refine r_go (.imul) 1 rfl rfl rfl 54 [.int (128 * v3)] rfl ?_
  refine q_stB w_PV (.istore 6) 2 0 6 rfl rfl (fun _ => rfl) 56 rfl (fun x4 => [some (.ref 9), some (.ref 7), some (.ref 6), some (.int (a3)), some (.int (a4)), some (.int (s0)), some (.int (x4)), none, none, none, none]) (fun _ => rfl) (fun x4 => ?_)
  refine q_const (.sipush 128) 3 rfl rfl rfl 59 (128) _ rfl cd_kt128 ?_
  refine r_ld (.aload_n 2) 1 2 2 (.ref 6) rfl rfl rfl rfl 60 rfl ?_
  refine r_ld (.aload_n 1) 1 2 1 (.ref 7) rfl rfl rfl rfl 61 rfl ?_
  refine r_ld (.iload_n 3) 1 0 3 (.int (a3)) rfl rfl rfl rfl 62 rfl ?_
  refine q_cI w_PV rfl (.invokevirtual 91) rfl rfl rfl 67 [.ref 6, .ref 7, .int (a3)] [.int (128)] rfl (k5_costOfRepeat_6_7 a3 M) (fun v5 => ?_)
  refine r_go (.imul) 1 rfl rfl rfl 66 [.int (128 * v5)] rfl ?_
  refine q_stB w_PV (.istore 7) 2 0 7 rfl rfl (fun _ => rfl) 68 rfl (fun x6 => [some (.ref 9), some (.ref 7), some (.ref 6), some (.int (a3)), some (.int (a4)), some (.int (s0)), some (.int (x4)), some (.int (x6)), none, none, none]) (fun _ => rfl) (fun x6 => ?_)
  refine r_ld (.iload 4) 2 0 4 (.int (a4)) rfl rfl rfl rfl 70 rfl ?_
  refine q_br w_PV (.ifCond .eq 7) 3 rfl rfl rfl (a4 = 0) 77 73 [] rfl (fun _ => ?_) (fun _ => ?_)
  · refine r_ld (.aload_n 0) 1 2 0 (.ref 9) rfl rfl rfl rfl 78 rfl ?_
    refine r_go (.getfield 32) 3 rfl rfl rfl 81 [.int (M.1 9 5)] rfl ?_
    refine q_const (.sipush 128) 3 rfl rfl rfl 84 (128) _ rfl cd_kt128 ?_
    refine r_ld (.aload_n 2) 1 2 2 (.ref 6) rfl rfl rfl rfl 85 rfl ?_
    refine q_const (.iconst 1) 1 rfl rfl rfl 86 (1) _ rfl cd_kj1 ?_
    refine q_cI w_PV rfl (.invokevirtual 94) rfl rfl rfl 65 [.ref 6, .int (1)] [.int (128), .int (M.1 9 5)] rfl (k5_value_6 1 M) (fun v7 => ?_)
    refine r_go (.imul) 1 rfl rfl rfl 90 [.int (128 * v7), .int (M.1 9 5)] rfl ?_
    refine r_go (.iadd) 1 rfl rfl rfl 91 [.int ((M.1 9 5) + (128 * v7))] rfl ?_
    refine q_const (.iconst 1) 1 rfl rfl rfl 92 (1) _ rfl cd_kj1 ?_
    refine r_go (.iadd) 1 rfl rfl rfl 93 [.int (((M.1 9 5) + (128 * v7)) + 1)] rfl ?_
    exact r_w (k0_weighStates_9_7_6_L93 a3 s0 x4 x6 (((M.1 9 5) + (128 * v7)) + 1) M) (cd_le_s (cd_le_n (cd_le_n (cd_le_s (cd_le_n (cd_le_s (cd_le_s (cd_le_s (cd_le_n (cd_le_n (cd_le_n cd_le_0)))))))))))
  · refine q_const (.iconst 0) 1 rfl rfl rfl 74 (0) _ rfl cd_kj0 ?_
    refine r_go (.goto 19) 3 rfl rfl rfl 93 [.int (0)] rfl ?_
    exact r_w (k0_weighStates_9_7_6_L93 a3 s0 x4 x6 0 M) (cd_le_s (cd_le_n (cd_le_n (cd_le_s (cd_le_n (cd_le_s (cd_le_s (cd_le_s (cd_le_n (cd_le_n (cd_le_n cd_le_0)))))))))))
def f0_weighStates_9_7_6_L41 (a3 : Int32) (a4 : Int32) (M : cd_M) : Option cd_M := f0_weighStates_9_7_6_L42 a3 a4 0 M
set_option maxRecDepth 8000 in
theorem k0_weighStates_9_7_6_L41 (a3 : Int32) (a4 : Int32) (M : cd_M) : cd_R 8 41 [some (.ref 9), some (.ref 7), some (.ref 6), some (.int (a3)), some (.int (a4)), none, none, none, none, none, none] [] M (w_PV (f0_weighStates_9_7_6_L41 a3 a4 M)) := by
  unfold f0_weighStates_9_7_6_L41
  refine q_const (.iconst 0) 1 rfl rfl rfl 42 (0) _ rfl cd_kj0 ?_
  exact r_w (k0_weighStates_9_7_6_L42 a3 a4 0 M) (cd_le_s (cd_le_s (cd_le_s (cd_le_s (cd_le_s (cd_le_n (cd_le_n (cd_le_n (cd_le_n (cd_le_n (cd_le_n cd_le_0)))))))))))
def f0_weighStates_9_7_6_L15 (a3 : Int32) (s0 : Int32) (M : cd_M) : Option cd_M := if s0 = 0 then ((f4_parity_7 a3 M).bind fun v1 => (f4_parity_7 (a3 + 1) M).bind fun v2 => if v1 = v2 then (f0_weighStates_9_7_6_L41 a3 s0 M) else (f0_weighStates_9_7_6_L42 a3 s0 1 M)) else (f0_weighStates_9_7_6_L41 a3 s0 M)
set_option maxRecDepth 8000 in
theorem k0_weighStates_9_7_6_L15 (a3 : Int32) (s0 : Int32) (M : cd_M) : cd_R 8 15 [some (.ref 9), some (.ref 7), some (.ref 6), some (.int (a3)), none, none, none, none, none, none, none] [.int (s0)] M (w_PV (f0_weighStates_9_7_6_L15 a3 s0 M)) := by
  unfold f0_weighStates_9_7_6_L15
  refine r_st (.istore 4) 2 0 4 rfl rfl rfl 17 rfl [some (.ref 9), some (.ref 7), some (.ref 6), some (.int (a3)), some (.int (s0)), none, none, none, none, none, none] rfl ?_
  refine r_ld (.iload 4) 2 0 4 (.int (s0)) rfl rfl rfl rfl 19 rfl ?_
  refine q_br w_PV (.ifCond .ne 22) 3 rfl rfl rfl (s0 = 0) 22 41 [] rfl (fun _ => ?_) (fun _ => ?_)
  · refine r_ld (.aload_n 1) 1 2 1 (.ref 7) rfl rfl rfl rfl 23 rfl ?_
    refine r_ld (.iload_n 3) 1 0 3 (.int (a3)) rfl rfl rfl rfl 24 rfl ?_
    refine q_cI w_PV rfl (.invokevirtual 82) rfl rfl rfl 46 [.ref 7, .int (a3)] [] rfl (k4_parity_7 a3 M) (fun v1 => ?_)
    refine r_ld (.aload_n 1) 1 2 1 (.ref 7) rfl rfl rfl rfl 28 rfl ?_
    refine r_ld (.iload_n 3) 1 0 3 (.int (a3)) rfl rfl rfl rfl 29 rfl ?_
    refine q_const (.iconst 1) 1 rfl rfl rfl 30 (1) _ rfl cd_kj1 ?_
    refine r_go (.iadd) 1 rfl rfl rfl 31 [.int (a3 + 1), .ref 7, .int (v1)] rfl ?_
    refine q_cI w_PV rfl (.invokevirtual 82) rfl rfl rfl 46 [.ref 7, .int (a3 + 1)] [.int (v1)] rfl (k4_parity_7 (a3 + 1) M) (fun v2 => ?_)
    refine q_br w_PV (.if_icmp .eq 7) 3 rfl rfl rfl (v1 = v2) 41 37 [] rfl (fun _ => ?_) (fun _ => ?_)
    · exact r_w (k0_weighStates_9_7_6_L41 a3 s0 M) (cd_le_s (cd_le_s (cd_le_s (cd_le_s (cd_le_s (cd_le_n (cd_le_n (cd_le_n (cd_le_n (cd_le_n (cd_le_n cd_le_0)))))))))))
    · refine q_const (.iconst 1) 1 rfl rfl rfl 38 (1) _ rfl cd_kj1 ?_
      refine r_go (.goto 4) 3 rfl rfl rfl 42 [.int (1)] rfl ?_
      exact r_w (k0_weighStates_9_7_6_L42 a3 s0 1 M) (cd_le_s (cd_le_s (cd_le_s (cd_le_s (cd_le_s (cd_le_n (cd_le_n (cd_le_n (cd_le_n (cd_le_n (cd_le_n cd_le_0)))))))))))
  · exact r_w (k0_weighStates_9_7_6_L41 a3 s0 M) (cd_le_s (cd_le_s (cd_le_s (cd_le_s (cd_le_s (cd_le_n (cd_le_n (cd_le_n (cd_le_n (cd_le_n (cd_le_n cd_le_0)))))))))))
def f0_weighStates_9_7_6 (a3 : Int32) (M : cd_M) : Option cd_M := if a3 + 1 < f4_size_7 M then (f0_weighStates_9_7_6_L15 a3 0 M) else (f0_weighStates_9_7_6_L15 a3 1 M)
set_option maxRecDepth 8000 in
theorem k0_weighStates_9_7_6 (a3 : Int32) (M : cd_M) : cd_R 8 0 [some (.ref 9), some (.ref 7), some (.ref 6), some (.int (a3)), none, none, none, none, none, none, none] [] M (w_PV (f0_weighStates_9_7_6 a3 M)) := by
  unfold f0_weighStates_9_7_6
  refine r_ld (.iload_n 3) 1 0 3 (.int (a3)) rfl rfl rfl rfl 1 rfl ?_
  refine q_const (.iconst 1) 1 rfl rfl rfl 2 (1) _ rfl cd_kj1 ?_
  refine r_go (.iadd) 1 rfl rfl rfl 3 [.int (a3 + 1)] rfl ?_
  refine r_ld (.aload_n 1) 1 2 1 (.ref 7) rfl rfl rfl rfl 4 rfl ?_
  refine q_cTI (.invokevirtual 57) rfl rfl rfl 41 [.ref 7] [.int (a3 + 1)] rfl (k4_size_7 M) ?_
  refine q_br w_PV (.if_icmp .lt 7) 3 rfl rfl rfl (a3 + 1 < f4_size_7 M) 14 10 [] rfl (fun _ => ?_) (fun _ => ?_)
  · refine q_const (.iconst 0) 1 rfl rfl rfl 15 (0) _ rfl cd_kj0 ?_
    exact r_w (k0_weighStates_9_7_6_L15 a3 0 M) (cd_le_s (cd_le_s (cd_le_s (cd_le_s (cd_le_n (cd_le_n (cd_le_n (cd_le_n (cd_le_n (cd_le_n (cd_le_n cd_le_0)))))))))))
  · refine q_const (.iconst 1) 1 rfl rfl rfl 11 (1) _ rfl cd_kj1 ?_
    refine r_go (.goto 4) 3 rfl rfl rfl 15 [.int (1)] rfl ?_
    exact r_w (k0_weighStates_9_7_6_L15 a3 1 M) (cd_le_s (cd_le_s (cd_le_s (cd_le_s (cd_le_n (cd_le_n (cd_le_n (cd_le_n (cd_le_n (cd_le_n (cd_le_n cd_le_0)))))))))))
def f0_leastEntry_9_L43 (r4 : Int32 → Int32 → cd_M → Option (Int32)) (a1 : Int32) (a2 : Int32) (M : cd_M) : Option (Int32) := cd_lt (a2 + (1)) fun x2 => r4 a1 x2 M
set_option maxRecDepth 8000 in
theorem k0_leastEntry_9_L43 (r4 : Int32 → Int32 → cd_M → Option (Int32)) (h4 : ∀ (a1 : Int32) (a2 : Int32) (M : cd_M), cd_R 10 4 [some (.ref 9), some (.int (a1)), some (.int (a2))] [] M ((w_PI M) (r4 a1 a2 M))) (a1 : Int32) (a2 : Int32) (M : cd_M) : cd_R 10 43 [some (.ref 9), some (.int (a1)), some (.int (a2))] [] M ((w_PI M) (f0_leastEntry_9_L43 r4 a1 a2 M)) := by
  unfold f0_leastEntry_9_L43
  refine q_inc (w_PI M) 2 (1) (a2) rfl rfl rfl 46 rfl (1) cd_kj1 (fun x2 => [some (.ref 9), some (.int (a1)), some (.int (x2))]) (fun _ => rfl) (fun x2 => ?_)
  refine r_go (.goto (-42)) 3 rfl rfl rfl 4 [] rfl ?_
  exact r_w (h4 a1 x2 M) (cd_le_s (cd_le_s (cd_le_s cd_le_0)))
def f0_leastEntry_9_L4 : Nat → Int32 → Int32 → cd_M → Option (Int32)
  | 0, _, _, _ => none
  | n + 1, a1, a2, M => if f6_size_10 M ≤ a2 then (some a1) else ((f6_seen_10 a2 M).bind fun v1 => if v1 = 0 then (if cd_in a2 90 = true then (if cd_in a1 90 = true then (if M.1 31 a1.toNatClampNeg ≤ M.1 31 a2.toNatClampNeg then (f0_leastEntry_9_L43 (f0_leastEntry_9_L4 n) a1 a2 M) else (f0_leastEntry_9_L43 (f0_leastEntry_9_L4 n) a2 a2 M)) else none) else none) else (f0_leastEntry_9_L43 (f0_leastEntry_9_L4 n) a1 a2 M))
set_option maxRecDepth 8000 in
theorem k0_leastEntry_9_L4 : ∀ (n : Nat) (a1 : Int32) (a2 : Int32) (M : cd_M), cd_R 10 4 [some (.ref 9), some (.int (a1)), some (.int (a2))] [] M ((w_PI M) (f0_leastEntry_9_L4 n a1 a2 M)) := by
  intro n
  induction n with
  | zero =>
    intro a1 a2 M
    exact q_none (w_PI M) rfl
  | succ n ih =>
    intro a1 a2 M
    rw [f0_leastEntry_9_L4]
    refine r_ld (.iload_n 2) 1 0 2 (.int (a2)) rfl rfl rfl rfl 5 rfl ?_
    refine r_ld (.aload_n 0) 1 2 0 (.ref 9) rfl rfl rfl rfl 6 rfl ?_
    refine r_go (.getfield 12) 3 rfl rfl rfl 9 [.ref 10, .int (a2)] rfl ?_
    refine q_cTI (.invokevirtual 97) rfl rfl rfl 69 [.ref 10] [.int (a2)] rfl (k6_size_10 M) ?_
    refine q_br (w_PI M) (.if_icmp .ge 37) 3 rfl rfl rfl (f6_size_10 M ≤ a2) 49 15 [] rfl (fun _ => ?_) (fun _ => ?_)
    · refine r_ld (.iload_n 1) 1 0 1 (.int (a1)) rfl rfl rfl rfl 50 rfl ?_
      exact r_ret .ireturn 1 rfl rfl rfl _ rfl
    · refine r_ld (.aload_n 0) 1 2 0 (.ref 9) rfl rfl rfl rfl 16 rfl ?_
      refine r_go (.getfield 12) 3 rfl rfl rfl 19 [.ref 10] rfl ?_
      refine r_ld (.iload_n 2) 1 0 2 (.int (a2)) rfl rfl rfl rfl 20 rfl ?_
      refine q_cI (w_PI M) rfl (.invokevirtual 105) rfl rfl rfl 72 [.ref 10, .int (a2)] [] rfl (k6_seen_10 a2 M) (fun v1 => ?_)
      refine q_br (w_PI M) (.ifCond .ne 20) 3 rfl rfl rfl (v1 = 0) 26 43 [] rfl (fun _ => ?_) (fun _ => ?_)
      · refine r_ld (.aload_n 0) 1 2 0 (.ref 9) rfl rfl rfl rfl 27 rfl ?_
        refine r_go (.getfield 18) 3 rfl rfl rfl 30 [.ref 31] rfl ?_
        refine r_ld (.iload_n 2) 1 0 2 (.int (a2)) rfl rfl rfl rfl 31 rfl ?_
        refine q_iald (w_PI M) rfl rfl 31 90 rfl ?_
        refine r_ld (.aload_n 0) 1 2 0 (.ref 9) rfl rfl rfl rfl 33 rfl ?_
        refine r_go (.getfield 18) 3 rfl rfl rfl 36 [.ref 31, .int (M.1 31 a2.toNatClampNeg)] rfl ?_
        refine r_ld (.iload_n 1) 1 0 1 (.int (a1)) rfl rfl rfl rfl 37 rfl ?_
        refine q_iald (w_PI M) rfl rfl 31 90 rfl ?_
        refine q_br (w_PI M) (.if_icmp .ge 5) 3 rfl rfl rfl (M.1 31 a1.toNatClampNeg ≤ M.1 31 a2.toNatClampNeg) 43 41 [] rfl (fun _ => ?_) (fun _ => ?_)
        · exact r_w (k0_leastEntry_9_L43 (f0_leastEntry_9_L4 n) ih a1 a2 M) (cd_le_s (cd_le_s (cd_le_s cd_le_0)))
        · refine r_ld (.iload_n 2) 1 0 2 (.int (a2)) rfl rfl rfl rfl 42 rfl ?_
          refine r_st (.istore_n 1) 1 0 1 rfl rfl rfl 43 rfl [some (.ref 9), some (.int (a2)), some (.int (a2))] rfl ?_
          exact r_w (k0_leastEntry_9_L43 (f0_leastEntry_9_L4 n) ih a2 a2 M) (cd_le_s (cd_le_s (cd_le_s cd_le_0)))
      · exact r_w (k0_leastEntry_9_L43 (f0_leastEntry_9_L4 n) ih a1 a2 M) (cd_le_s (cd_le_s (cd_le_s cd_le_0)))
def f0_leastEntry_9 (M : cd_M) : Option (Int32) := f0_leastEntry_9_L4 cd_fu 0 1 M
set_option maxRecDepth 8000 in
theorem k0_leastEntry_9 (M : cd_M) : cd_R 10 0 [some (.ref 9), none, none] [] M ((w_PI M) (f0_leastEntry_9 M)) := by
  unfold f0_leastEntry_9
  refine q_const (.iconst 0) 1 rfl rfl rfl 1 (0) _ rfl cd_kj0 ?_
  refine r_st (.istore_n 1) 1 0 1 rfl rfl rfl 2 rfl [some (.ref 9), some (.int (0)), none] rfl ?_
  refine q_const (.iconst 1) 1 rfl rfl rfl 3 (1) _ rfl cd_kj1 ?_
  refine r_st (.istore_n 2) 1 0 2 rfl rfl rfl 4 rfl [some (.ref 9), some (.int (0)), some (.int (1))] rfl ?_
  exact r_w (k0_leastEntry_9_L4 cd_fu 0 1 M) (cd_le_s (cd_le_s (cd_le_s cd_le_0)))
def f0_solve_9_7_6_L22 : Nat → Int32 → Int32 → cd_M → Option cd_M
  | 0, _, _, _ => none
  | n + 1, a3, a4, M => if a4 < 0 then (if a3 < 0 then (some M) else (if 4 ≤ a3 then (some M) else (if cd_in a3 4 = true then (cd_lt (cd_wI M 35 a3.toNatClampNeg (vp_nar .boolean 1)) fun M4 => if cd_in a3 4 = true then (cd_lt (cd_wI M4 36 a3.toNatClampNeg ((M4.1 9 5) / 128)) fun M5 => if cd_in 0 90 = true then ((f6_place_10 (M5.1 34 (0 : Int32).toNatClampNeg) M5).bind fun v6 => if cd_in a3 4 = true then (cd_lt (cd_wI M5 37 a3.toNatClampNeg v6) fun M7 => if cd_in 0 90 = true then ((f6_step_10 (M7.1 34 (0 : Int32).toNatClampNeg) M7).bind fun v8 => if cd_in a3 4 = true then (cd_lt (cd_wI M7 38 a3.toNatClampNeg v8) fun M9 => some M9) else none) else none) else none) else none) else none) else none))) else ((f0_weighStates_9_7_6 a4 M).bind fun M10 => (f0_leastEntry_9 M10).bind fun v11 => if cd_in a4 90 = true then (cd_lt (cd_wI M10 34 a4.toNatClampNeg v11) fun M12 => if cd_in a4 90 = true then (if cd_in (M12.1 34 a4.toNatClampNeg) 90 = true then (cd_lt (cd_wI M12 9 5 (M12.1 31 (M12.1 34 a4.toNatClampNeg : Int32).toNatClampNeg)) fun M13 => if cd_cpOK 0 0 90 90 90 then (cd_lt (cd_cI M13 31 32 (0 : Int32).toNatClampNeg (0 : Int32).toNatClampNeg (90 : Int32).toNatClampNeg) fun M14 => cd_lt (a4 + (-1)) fun x15 => f0_solve_9_7_6_L22 n a3 x15 M14) else none) else none) else none) else none)
set_option maxRecDepth 8000 in
theorem k0_solve_9_7_6_L22 : ∀ (n : Nat) (a3 : Int32) (a4 : Int32) (M : cd_M), cd_R 7 22 [some (.ref 9), some (.ref 7), some (.ref 6), some (.int (a3)), some (.int (a4))] [] M (w_PV (f0_solve_9_7_6_L22 n a3 a4 M)) := by
  intro n
  induction n with
  | zero =>
    intro a3 a4 M
    exact q_none w_PV rfl
  | succ n ih =>
    intro a3 a4 M
    rw [f0_solve_9_7_6_L22]
    refine r_ld (.iload 4) 2 0 4 (.int (a4)) rfl rfl rfl rfl 24 rfl ?_
    refine q_br w_PV (.ifCond .lt 59) 3 rfl rfl rfl (a4 < 0) 83 27 [] rfl (fun _ => ?_) (fun _ => ?_)
    · refine r_ld (.iload_n 3) 1 0 3 (.int (a3)) rfl rfl rfl rfl 84 rfl ?_
      refine q_br w_PV (.ifCond .lt 67) 3 rfl rfl rfl (a3 < 0) 151 87 [] rfl (fun _ => ?_) (fun _ => ?_)
      · exact r_ret .return_ 1 rfl rfl rfl _ rfl
      · refine r_ld (.iload_n 3) 1 0 3 (.int (a3)) rfl rfl rfl rfl 88 rfl ?_
        refine q_const (.iconst 4) 1 rfl rfl rfl 89 (4) _ rfl cd_kj4 ?_
        refine q_br w_PV (.if_icmp .ge 62) 3 rfl rfl rfl (4 ≤ a3) 151 92 [] rfl (fun _ => ?_) (fun _ => ?_)
        · exact r_ret .return_ 1 rfl rfl rfl _ rfl
        · refine r_ld (.aload_n 0) 1 2 0 (.ref 9) rfl rfl rfl rfl 93 rfl ?_
          refine r_go (.getfield 36) 3 rfl rfl rfl 96 [.ref 35] rfl ?_
          refine r_ld (.iload_n 3) 1 0 3 (.int (a3)) rfl rfl rfl rfl 97 rfl ?_
          refine q_const (.iconst 1) 1 rfl rfl rfl 98 (1) _ rfl cd_kj1 ?_
          refine q_zast w_PV rfl rfl 35 4 rfl (fun M4 => ?_)
          refine r_ld (.aload_n 0) 1 2 0 (.ref 9) rfl rfl rfl rfl 100 rfl ?_
          refine r_go (.getfield 40) 3 rfl rfl rfl 103 [.ref 36] rfl ?_
          refine r_ld (.iload_n 3) 1 0 3 (.int (a3)) rfl rfl rfl rfl 104 rfl ?_
          refine r_ld (.aload_n 0) 1 2 0 (.ref 9) rfl rfl rfl rfl 105 rfl ?_
          refine r_go (.getfield 32) 3 rfl rfl rfl 108 [.int (M4.1 9 5), .int (a3), .ref 36] rfl ?_
          refine q_const (.sipush 128) 3 rfl rfl rfl 111 (128) _ rfl cd_kt128 ?_
          refine q_divK rfl (by decide) ?_
          refine q_iast w_PV rfl rfl 36 4 rfl (fun M5 => ?_)
          refine r_ld (.aload_n 0) 1 2 0 (.ref 9) rfl rfl rfl rfl 114 rfl ?_
          refine r_go (.getfield 43) 3 rfl rfl rfl 117 [.ref 37] rfl ?_
          refine r_ld (.iload_n 3) 1 0 3 (.int (a3)) rfl rfl rfl rfl 118 rfl ?_
          refine r_ld (.aload_n 0) 1 2 0 (.ref 9) rfl rfl rfl rfl 119 rfl ?_
          refine r_go (.getfield 12) 3 rfl rfl rfl 122 [.ref 10, .int (a3), .ref 37] rfl ?_
          refine r_ld (.aload_n 0) 1 2 0 (.ref 9) rfl rfl rfl rfl 123 rfl ?_
          refine r_go (.getfield 29) 3 rfl rfl rfl 126 [.ref 34, .ref 10, .int (a3), .ref 37] rfl ?_
          refine q_const (.iconst 0) 1 rfl rfl rfl 127 (0) _ rfl cd_kj0 ?_
          refine q_iald w_PV rfl rfl 34 90 rfl ?_
          refine q_cI w_PV rfl (.invokevirtual 75) rfl rfl rfl 70 [.ref 10, .int (M5.1 34 (0 : Int32).toNatClampNeg)] [.int (a3), .ref 37] rfl (k6_place_10 (M5.1 34 (0 : Int32).toNatClampNeg) M5) (fun v6 => ?_)
          refine q_iast w_PV rfl rfl 37 4 rfl (fun M7 => ?_)
          refine r_ld (.aload_n 0) 1 2 0 (.ref 9) rfl rfl rfl rfl 133 rfl ?_
          refine r_go (.getfield 46) 3 rfl rfl rfl 136 [.ref 38] rfl ?_
          refine r_ld (.iload_n 3) 1 0 3 (.int (a3)) rfl rfl rfl rfl 137 rfl ?_
          refine r_ld (.aload_n 0) 1 2 0 (.ref 9) rfl rfl rfl rfl 138 rfl ?_
          refine r_go (.getfield 12) 3 rfl rfl rfl 141 [.ref 10, .int (a3), .ref 38] rfl ?_
          refine r_ld (.aload_n 0) 1 2 0 (.ref 9) rfl rfl rfl rfl 142 rfl ?_
          refine r_go (.getfield 29) 3 rfl rfl rfl 145 [.ref 34, .ref 10, .int (a3), .ref 38] rfl ?_
          refine q_const (.iconst 0) 1 rfl rfl rfl 146 (0) _ rfl cd_kj0 ?_
          refine q_iald w_PV rfl rfl 34 90 rfl ?_
          refine q_cI w_PV rfl (.invokevirtual 79) rfl rfl rfl 71 [.ref 10, .int (M7.1 34 (0 : Int32).toNatClampNeg)] [.int (a3), .ref 38] rfl (k6_step_10 (M7.1 34 (0 : Int32).toNatClampNeg) M7) (fun v8 => ?_)
          refine q_iast w_PV rfl rfl 38 4 rfl (fun M9 => ?_)
          exact r_ret .return_ 1 rfl rfl rfl _ rfl
    · refine r_ld (.aload_n 0) 1 2 0 (.ref 9) rfl rfl rfl rfl 28 rfl ?_
      refine r_ld (.aload_n 1) 1 2 1 (.ref 7) rfl rfl rfl rfl 29 rfl ?_
      refine r_ld (.aload_n 2) 1 2 2 (.ref 6) rfl rfl rfl rfl 30 rfl ?_
      refine r_ld (.iload 4) 2 0 4 (.int (a4)) rfl rfl rfl rfl 32 rfl ?_
      refine q_cV w_PV rfl (.invokevirtual 63) rfl rfl rfl 8 [.ref 9, .ref 7, .ref 6, .int (a4)] [] rfl (k0_weighStates_9_7_6 a4 M) (fun M10 => ?_)
      refine r_ld (.aload_n 0) 1 2 0 (.ref 9) rfl rfl rfl rfl 36 rfl ?_
      refine r_go (.getfield 29) 3 rfl rfl rfl 39 [.ref 34] rfl ?_
      refine r_ld (.iload 4) 2 0 4 (.int (a4)) rfl rfl rfl rfl 41 rfl ?_
      refine r_ld (.aload_n 0) 1 2 0 (.ref 9) rfl rfl rfl rfl 42 rfl ?_
      refine q_cI w_PV rfl (.invokevirtual 66) rfl rfl rfl 10 [.ref 9] [.int (a4), .ref 34] rfl (k0_leastEntry_9 M10) (fun v11 => ?_)
      refine q_iast w_PV rfl rfl 34 90 rfl (fun M12 => ?_)
      refine r_ld (.aload_n 0) 1 2 0 (.ref 9) rfl rfl rfl rfl 47 rfl ?_
      refine r_ld (.aload_n 0) 1 2 0 (.ref 9) rfl rfl rfl rfl 48 rfl ?_
      refine r_go (.getfield 18) 3 rfl rfl rfl 51 [.ref 31, .ref 9] rfl ?_
      refine r_ld (.aload_n 0) 1 2 0 (.ref 9) rfl rfl rfl rfl 52 rfl ?_
      refine r_go (.getfield 29) 3 rfl rfl rfl 55 [.ref 34, .ref 31, .ref 9] rfl ?_
      refine r_ld (.iload 4) 2 0 4 (.int (a4)) rfl rfl rfl rfl 57 rfl ?_
      refine q_iald w_PV rfl rfl 34 90 rfl ?_
      refine q_iald w_PV rfl rfl 31 90 rfl ?_
      refine q_wr w_PV (.putfield 32) 3 rfl rfl rfl 62 [] (cd_wI M12 9 5 (M12.1 31 (M12.1 34 a4.toNatClampNeg : Int32).toNatClampNeg)) rfl (fun M13 => ?_)
      refine r_ld (.aload_n 0) 1 2 0 (.ref 9) rfl rfl rfl rfl 63 rfl ?_
      refine r_go (.getfield 18) 3 rfl rfl rfl 66 [.ref 31] rfl ?_
      refine q_const (.iconst 0) 1 rfl rfl rfl 67 (0) _ rfl cd_kj0 ?_
      refine r_ld (.aload_n 0) 1 2 0 (.ref 9) rfl rfl rfl rfl 68 rfl ?_
      refine r_go (.getfield 22) 3 rfl rfl rfl 71 [.ref 32, .int (0), .ref 31] rfl ?_
      refine q_const (.iconst 0) 1 rfl rfl rfl 72 (0) _ rfl cd_kj0 ?_
      refine q_const (.bipush 90) 2 rfl rfl rfl 74 (90) _ rfl cd_kc90 ?_
      refine q_cpy w_PV rfl (.invokestatic 69) rfl rfl rfl 31 90 32 90 20 rfl rfl (cd_cI M13 31 32 (0 : Int32).toNatClampNeg (0 : Int32).toNatClampNeg (90 : Int32).toNatClampNeg) (fun h => cd_cpI _ rfl rfl rfl rfl h) (fun M14 => ?_)
      refine q_inc w_PV 4 (-1) (a4) rfl rfl rfl 80 rfl (-1) cd_kjm1 (fun x15 => [some (.ref 9), some (.ref 7), some (.ref 6), some (.int (a3)), some (.int (x15))]) (fun _ => rfl) (fun x15 => ?_)
      refine r_go (.goto (-58)) 3 rfl rfl rfl 22 [] rfl ?_
      exact r_w (ih a3 x15 M14) (cd_le_s (cd_le_s (cd_le_s (cd_le_s (cd_le_s cd_le_0)))))
def f0_solve_9_7_6 (a3 : Int32) (M : cd_M) : Option cd_M := (f6_build_10_6 a3 M).bind fun M1 => cd_lt (cd_wI M1 9 5 0) fun M2 => cd_lt ((f4_size_7 M2) - 1) fun x3 => f0_solve_9_7_6_L22 cd_fu a3 x3 M2
set_option maxRecDepth 8000 in
theorem k0_solve_9_7_6 (a3 : Int32) (M : cd_M) : cd_R 7 0 [some (.ref 9), some (.ref 7), some (.ref 6), some (.int (a3)), none] [] M (w_PV (f0_solve_9_7_6 a3 M)) := by
  unfold f0_solve_9_7_6
  refine r_ld (.aload_n 0) 1 2 0 (.ref 9) rfl rfl rfl rfl 1 rfl ?_
  refine r_go (.getfield 12) 3 rfl rfl rfl 4 [.ref 10] rfl ?_
  refine r_ld (.aload_n 2) 1 2 2 (.ref 6) rfl rfl rfl rfl 5 rfl ?_
  refine r_ld (.iload_n 3) 1 0 3 (.int (a3)) rfl rfl rfl rfl 6 rfl ?_
  refine q_cV w_PV rfl (.invokevirtual 53) rfl rfl rfl 75 [.ref 10, .ref 6, .int (a3)] [] rfl (k6_build_10_6 a3 M) (fun M1 => ?_)
  refine r_ld (.aload_n 0) 1 2 0 (.ref 9) rfl rfl rfl rfl 10 rfl ?_
  refine q_const (.iconst 0) 1 rfl rfl rfl 11 (0) _ rfl cd_kj0 ?_
  refine q_wr w_PV (.putfield 32) 3 rfl rfl rfl 14 [] (cd_wI M1 9 5 0) rfl (fun M2 => ?_)
  refine r_ld (.aload_n 1) 1 2 1 (.ref 7) rfl rfl rfl rfl 15 rfl ?_
  refine q_cTI (.invokevirtual 57) rfl rfl rfl 41 [.ref 7] [] rfl (k4_size_7 M2) ?_
  refine q_const (.iconst 1) 1 rfl rfl rfl 19 (1) _ rfl cd_kj1 ?_
  refine r_go (.isub) 1 rfl rfl rfl 20 [.int ((f4_size_7 M2) - 1)] rfl ?_
  refine q_stB w_PV (.istore 4) 2 0 4 rfl rfl (fun _ => rfl) 22 rfl (fun x3 => [some (.ref 9), some (.ref 7), some (.ref 6), some (.int (a3)), some (.int (x3))]) (fun _ => rfl) (fun x3 => ?_)
  exact r_w (k0_solve_9_7_6_L22 cd_fu a3 x3 M2) (cd_le_s (cd_le_s (cd_le_s (cd_le_s (cd_le_s cd_le_0)))))
def f0_states_9 (M : cd_M) : Nat := 10
set_option maxRecDepth 8000 in
theorem k0_states_9 (M : cd_M) : cd_R 0 0 [some (.ref 9)] [] M ((w_TR M) (f0_states_9 M)) := by
  unfold f0_states_9
  refine r_ld (.aload_n 0) 1 2 0 (.ref 9) rfl rfl rfl rfl 1 rfl ?_
  refine r_go (.getfield 12) 3 rfl rfl rfl 4 [.ref 10] rfl ?_
  exact r_ret .areturn 1 rfl rfl rfl _ rfl
def f9_addField_11_10_L89 (M : cd_M) : Option cd_M := cd_lt (cd_wI M 11 6 ((M.1 11 6) + 1)) fun M8 => some M8
set_option maxRecDepth 8000 in
theorem k9_addField_11_10_L89 (M : cd_M) : cd_R 113 89 [some (.ref 11), none, none, none] [] M (w_PV (f9_addField_11_10_L89 M)) := by
  unfold f9_addField_11_10_L89
  refine r_ld (.aload_n 0) 1 2 0 (.ref 11) rfl rfl rfl rfl 90 rfl ?_
  refine r_go (.dup) 1 rfl rfl rfl 91 [.ref 11, .ref 11] rfl ?_
  refine r_go (.getfield 31) 3 rfl rfl rfl 94 [.int (M.1 11 6), .ref 11] rfl ?_
  refine q_const (.iconst 1) 1 rfl rfl rfl 95 (1) _ rfl cd_kj1 ?_
  refine r_go (.iadd) 1 rfl rfl rfl 96 [.int ((M.1 11 6) + 1), .ref 11] rfl ?_
  refine q_wr w_PV (.putfield 31) 3 rfl rfl rfl 99 [] (cd_wI M 11 6 ((M.1 11 6) + 1)) rfl (fun M8 => ?_)
  exact r_ret .return_ 1 rfl rfl rfl _ rfl
def f9_addField_11_10 (a2 : Int32) (a3 : Int32) (M : cd_M) : Option cd_M := if M.1 11 6 < 90 then ((f6_place_10 a2 M).bind fun v1 => if cd_in (M.1 11 6) 90 = true then (cd_lt (cd_wI M 43 (M.1 11 6 : Int32).toNatClampNeg v1) fun M2 => (f6_step_10 a2 M2).bind fun v3 => if cd_in (M2.1 11 6) 90 = true then (cd_lt (cd_wI M2 44 (M2.1 11 6 : Int32).toNatClampNeg v3) fun M4 => (f6_seen_10 a2 M4).bind fun v5 => if cd_in (M4.1 11 6) 90 = true then (cd_lt (cd_wI M4 45 (M4.1 11 6 : Int32).toNatClampNeg v5) fun M6 => if cd_in (M6.1 11 6) 90 = true then (cd_lt (cd_wI M6 46 (M6.1 11 6 : Int32).toNatClampNeg (vp_nar .boolean a3)) fun M7 => if a3 = 0 then (f9_addField_11_10_L89 M7) else (if cd_in (M7.1 11 7) 90 = true then (cd_lt (cd_wI M7 48 (M7.1 11 7 : Int32).toNatClampNeg (M7.1 11 6)) fun M9 => cd_lt (cd_wI M9 11 7 ((M9.1 11 7) + 1)) fun M10 => f9_addField_11_10_L89 M10) else none)) else none) else none) else none) else none) else (some M)
set_option maxRecDepth 8000 in
theorem k9_addField_11_10 (a2 : Int32) (a3 : Int32) (M : cd_M) : cd_R 113 0 [some (.ref 11), some (.ref 10), some (.int (a2)), some (.int (a3))] [] M (w_PV (f9_addField_11_10 a2 a3 M)) := by
  unfold f9_addField_11_10
  refine r_ld (.aload_n 0) 1 2 0 (.ref 11) rfl rfl rfl rfl 1 rfl ?_
  refine r_go (.getfield 31) 3 rfl rfl rfl 4 [.int (M.1 11 6)] rfl ?_
  refine q_const (.bipush 90) 2 rfl rfl rfl 6 (90) _ rfl cd_kc90 ?_
  refine q_br w_PV (.if_icmp .lt 4) 3 rfl rfl rfl (M.1 11 6 < 90) 10 9 [] rfl (fun _ => ?_) (fun _ => ?_)
  · refine r_ld (.aload_n 0) 1 2 0 (.ref 11) rfl rfl rfl rfl 11 rfl ?_
    refine r_go (.getfield 9) 3 rfl rfl rfl 14 [.ref 43] rfl ?_
    refine r_ld (.aload_n 0) 1 2 0 (.ref 11) rfl rfl rfl rfl 15 rfl ?_
    refine r_go (.getfield 31) 3 rfl rfl rfl 18 [.int (M.1 11 6), .ref 43] rfl ?_
    refine r_ld (.aload_n 1) 1 2 1 (.ref 10) rfl rfl rfl rfl 19 rfl ?_
    refine r_ld (.iload_n 2) 1 0 2 (.int (a2)) rfl rfl rfl rfl 20 rfl ?_
    refine q_cI w_PV rfl (.invokevirtual 76) rfl rfl rfl 70 [.ref 10, .int (a2)] [.int (M.1 11 6), .ref 43] rfl (k6_place_10 a2 M) (fun v1 => ?_)
    refine q_iast w_PV rfl rfl 43 90 rfl (fun M2 => ?_)
    refine r_ld (.aload_n 0) 1 2 0 (.ref 11) rfl rfl rfl rfl 25 rfl ?_
    refine r_go (.getfield 15) 3 rfl rfl rfl 28 [.ref 44] rfl ?_
    refine r_ld (.aload_n 0) 1 2 0 (.ref 11) rfl rfl rfl rfl 29 rfl ?_
    refine r_go (.getfield 31) 3 rfl rfl rfl 32 [.int (M2.1 11 6), .ref 44] rfl ?_
    refine r_ld (.aload_n 1) 1 2 1 (.ref 10) rfl rfl rfl rfl 33 rfl ?_
    refine r_ld (.iload_n 2) 1 0 2 (.int (a2)) rfl rfl rfl rfl 34 rfl ?_
    refine q_cI w_PV rfl (.invokevirtual 79) rfl rfl rfl 71 [.ref 10, .int (a2)] [.int (M2.1 11 6), .ref 44] rfl (k6_step_10 a2 M2) (fun v3 => ?_)
    refine q_iast w_PV rfl rfl 44 90 rfl (fun M4 => ?_)
    refine r_ld (.aload_n 0) 1 2 0 (.ref 11) rfl rfl rfl rfl 39 rfl ?_
    refine r_go (.getfield 18) 3 rfl rfl rfl 42 [.ref 45] rfl ?_
    refine r_ld (.aload_n 0) 1 2 0 (.ref 11) rfl rfl rfl rfl 43 rfl ?_
    refine r_go (.getfield 31) 3 rfl rfl rfl 46 [.int (M4.1 11 6), .ref 45] rfl ?_
    refine r_ld (.aload_n 1) 1 2 1 (.ref 10) rfl rfl rfl rfl 47 rfl ?_
    refine r_ld (.iload_n 2) 1 0 2 (.int (a2)) rfl rfl rfl rfl 48 rfl ?_
    refine q_cI w_PV rfl (.invokevirtual 82) rfl rfl rfl 72 [.ref 10, .int (a2)] [.int (M4.1 11 6), .ref 45] rfl (k6_seen_10 a2 M4) (fun v5 => ?_)
    refine q_iast w_PV rfl rfl 45 90 rfl (fun M6 => ?_)
    refine r_ld (.aload_n 0) 1 2 0 (.ref 11) rfl rfl rfl rfl 53 rfl ?_
    refine r_go (.getfield 21) 3 rfl rfl rfl 56 [.ref 46] rfl ?_
    refine r_ld (.aload_n 0) 1 2 0 (.ref 11) rfl rfl rfl rfl 57 rfl ?_
    refine r_go (.getfield 31) 3 rfl rfl rfl 60 [.int (M6.1 11 6), .ref 46] rfl ?_
    refine r_ld (.iload_n 3) 1 0 3 (.int (a3)) rfl rfl rfl rfl 61 rfl ?_
    refine q_zast w_PV rfl rfl 46 90 rfl (fun M7 => ?_)
    refine r_ld (.iload_n 3) 1 0 3 (.int (a3)) rfl rfl rfl rfl 63 rfl ?_
    refine q_br w_PV (.ifCond .eq 26) 3 rfl rfl rfl (a3 = 0) 89 66 [] rfl (fun _ => ?_) (fun _ => ?_)
    · exact r_w (k9_addField_11_10_L89 M7) (cd_le_s (cd_le_n (cd_le_n (cd_le_n cd_le_0))))
    · refine r_ld (.aload_n 0) 1 2 0 (.ref 11) rfl rfl rfl rfl 67 rfl ?_
      refine r_go (.getfield 28) 3 rfl rfl rfl 70 [.ref 48] rfl ?_
      refine r_ld (.aload_n 0) 1 2 0 (.ref 11) rfl rfl rfl rfl 71 rfl ?_
      refine r_go (.getfield 35) 3 rfl rfl rfl 74 [.int (M7.1 11 7), .ref 48] rfl ?_
      refine r_ld (.aload_n 0) 1 2 0 (.ref 11) rfl rfl rfl rfl 75 rfl ?_
      refine r_go (.getfield 31) 3 rfl rfl rfl 78 [.int (M7.1 11 6), .int (M7.1 11 7), .ref 48] rfl ?_
      refine q_iast w_PV rfl rfl 48 90 rfl (fun M9 => ?_)
      refine r_ld (.aload_n 0) 1 2 0 (.ref 11) rfl rfl rfl rfl 80 rfl ?_
      refine r_go (.dup) 1 rfl rfl rfl 81 [.ref 11, .ref 11] rfl ?_
      refine r_go (.getfield 35) 3 rfl rfl rfl 84 [.int (M9.1 11 7), .ref 11] rfl ?_
      refine q_const (.iconst 1) 1 rfl rfl rfl 85 (1) _ rfl cd_kj1 ?_
      refine r_go (.iadd) 1 rfl rfl rfl 86 [.int ((M9.1 11 7) + 1), .ref 11] rfl ?_
      refine q_wr w_PV (.putfield 35) 3 rfl rfl rfl 89 [] (cd_wI M9 11 7 ((M9.1 11 7) + 1)) rfl (fun M10 => ?_)
      exact r_w (k9_addField_11_10_L89 M10) (cd_le_s (cd_le_n (cd_le_n (cd_le_n cd_le_0))))
  · exact r_ret .return_ 1 rfl rfl rfl _ rfl
def f9_has_11 (a1 : Int32) (M : cd_M) : Int32 := if a1 < 0 then (0) else (if M.1 11 6 ≤ a1 then (0) else (1))
set_option maxRecDepth 8000 in
theorem k9_has_11 (a1 : Int32) (M : cd_M) : cd_R 115 0 [some (.ref 11), some (.int (a1))] [] M ((w_TI M) (f9_has_11 a1 M)) := by
  unfold f9_has_11
  refine r_ld (.iload_n 1) 1 0 1 (.int (a1)) rfl rfl rfl rfl 1 rfl ?_
  refine q_br (w_TI M) (.ifCond .lt 15) 3 rfl rfl rfl (a1 < 0) 16 4 [] rfl (fun _ => ?_) (fun _ => ?_)
  · refine q_const (.iconst 0) 1 rfl rfl rfl 17 (0) _ rfl cd_kj0 ?_
    exact r_retZ rfl rfl (by decide)
  · refine r_ld (.iload_n 1) 1 0 1 (.int (a1)) rfl rfl rfl rfl 5 rfl ?_
    refine r_ld (.aload_n 0) 1 2 0 (.ref 11) rfl rfl rfl rfl 6 rfl ?_
    refine r_go (.getfield 31) 3 rfl rfl rfl 9 [.int (M.1 11 6), .int (a1)] rfl ?_
    refine q_br (w_TI M) (.if_icmp .ge 7) 3 rfl rfl rfl (M.1 11 6 ≤ a1) 16 12 [] rfl (fun _ => ?_) (fun _ => ?_)
    · refine q_const (.iconst 0) 1 rfl rfl rfl 17 (0) _ rfl cd_kj0 ?_
      exact r_retZ rfl rfl (by decide)
    · refine q_const (.iconst 1) 1 rfl rfl rfl 13 (1) _ rfl cd_kj1 ?_
      refine r_go (.goto 4) 3 rfl rfl rfl 17 [.int (1)] rfl ?_
      exact r_retZ rfl rfl (by decide)
def f9_isKept_11 (a1 : Int32) (M : cd_M) : Option (Int32) := if f9_has_11 a1 M = 0 then (some 0) else (if cd_in a1 90 = true then (if 2 ≤ M.1 45 a1.toNatClampNeg then (some 0) else (some 1)) else none)
set_option maxRecDepth 8000 in
theorem k9_isKept_11 (a1 : Int32) (M : cd_M) : cd_R 121 0 [some (.ref 11), some (.int (a1))] [] M ((w_PI M) (f9_isKept_11 a1 M)) := by
  unfold f9_isKept_11
  refine r_ld (.aload_n 0) 1 2 0 (.ref 11) rfl rfl rfl rfl 1 rfl ?_
  refine r_ld (.iload_n 1) 1 0 1 (.int (a1)) rfl rfl rfl rfl 2 rfl ?_
  refine q_cTIz (.invokevirtual 85) rfl rfl rfl 115 rfl [.ref 11, .int (a1)] [] rfl (k9_has_11 a1 M) (fun z1 => ?_)
  refine q_br (w_PI M) (.ifCond .eq 17) 3 rfl rfl rfl (f9_has_11 a1 M = 0) 22 8 [] rfl (fun _ => ?_) (fun _ => ?_)
  · refine q_const (.iconst 0) 1 rfl rfl rfl 23 (0) _ rfl cd_kj0 ?_
    exact r_retZ rfl rfl (by decide)
  · refine r_ld (.aload_n 0) 1 2 0 (.ref 11) rfl rfl rfl rfl 9 rfl ?_
    refine r_go (.getfield 18) 3 rfl rfl rfl 12 [.ref 45] rfl ?_
    refine r_ld (.iload_n 1) 1 0 1 (.int (a1)) rfl rfl rfl rfl 13 rfl ?_
    refine q_iald (w_PI M) rfl rfl 45 90 rfl ?_
    refine q_const (.iconst 2) 1 rfl rfl rfl 15 (2) _ rfl cd_kj2 ?_
    refine q_br (w_PI M) (.if_icmp .ge 7) 3 rfl rfl rfl (2 ≤ M.1 45 a1.toNatClampNeg) 22 18 [] rfl (fun _ => ?_) (fun _ => ?_)
    · refine q_const (.iconst 0) 1 rfl rfl rfl 23 (0) _ rfl cd_kj0 ?_
      exact r_retZ rfl rfl (by decide)
    · refine q_const (.iconst 1) 1 rfl rfl rfl 19 (1) _ rfl cd_kj1 ?_
      refine r_go (.goto 4) 3 rfl rfl rfl 23 [.int (1)] rfl ?_
      exact r_retZ rfl rfl (by decide)
def f9_putPrice_11_7_6_L90 (s0 : Int32) (s1 : Int32) (M : cd_M) : Option cd_M := cd_lt (cd_wI M 11 8 (s1 + s0)) fun M9 => some M9
set_option maxRecDepth 8000 in
theorem k9_putPrice_11_7_6_L90 (s0 : Int32) (s1 : Int32) (M : cd_M) : cd_R 114 90 [none, none, none, none, none] [.int (s0), .int (s1), .ref 11] M (w_PV (f9_putPrice_11_7_6_L90 s0 s1 M)) := by
  unfold f9_putPrice_11_7_6_L90
  refine r_go (.iadd) 1 rfl rfl rfl 91 [.int (s1 + s0), .ref 11] rfl ?_
  refine q_wr w_PV (.putfield 38) 3 rfl rfl rfl 94 [] (cd_wI M 11 8 (s1 + s0)) rfl (fun M9 => ?_)
  exact r_ret .return_ 1 rfl rfl rfl _ rfl
def f9_putPrice_11_7_6_L53 (a3 : Int32) (a4 : Int32) (M : cd_M) : Option cd_M := if cd_in a3 90 = true then (cd_lt (cd_wI M 47 a3.toNatClampNeg a4) fun M5 => cd_lt (cd_wI M5 11 9 ((M5.1 11 9) + a4)) fun M6 => (f9_isKept_11 a3 M6).bind fun v7 => if v7 = 0 then (f9_putPrice_11_7_6_L90 1 (M6.1 11 8) M6) else (f9_putPrice_11_7_6_L90 0 (M6.1 11 8) M6)) else none
set_option maxRecDepth 8000 in
theorem k9_putPrice_11_7_6_L53 (a3 : Int32) (a4 : Int32) (M : cd_M) : cd_R 114 53 [some (.ref 11), none, none, some (.int (a3)), some (.int (a4))] [] M (w_PV (f9_putPrice_11_7_6_L53 a3 a4 M)) := by
  unfold f9_putPrice_11_7_6_L53
  refine r_ld (.aload_n 0) 1 2 0 (.ref 11) rfl rfl rfl rfl 54 rfl ?_
  refine r_go (.getfield 25) 3 rfl rfl rfl 57 [.ref 47] rfl ?_
  refine r_ld (.iload_n 3) 1 0 3 (.int (a3)) rfl rfl rfl rfl 58 rfl ?_
  refine r_ld (.iload 4) 2 0 4 (.int (a4)) rfl rfl rfl rfl 60 rfl ?_
  refine q_iast w_PV rfl rfl 47 90 rfl (fun M5 => ?_)
  refine r_ld (.aload_n 0) 1 2 0 (.ref 11) rfl rfl rfl rfl 62 rfl ?_
  refine r_go (.dup) 1 rfl rfl rfl 63 [.ref 11, .ref 11] rfl ?_
  refine r_go (.getfield 41) 3 rfl rfl rfl 66 [.int (M5.1 11 9), .ref 11] rfl ?_
  refine r_ld (.iload 4) 2 0 4 (.int (a4)) rfl rfl rfl rfl 68 rfl ?_
  refine r_go (.iadd) 1 rfl rfl rfl 69 [.int ((M5.1 11 9) + a4), .ref 11] rfl ?_
  refine q_wr w_PV (.putfield 41) 3 rfl rfl rfl 72 [] (cd_wI M5 11 9 ((M5.1 11 9) + a4)) rfl (fun M6 => ?_)
  refine r_ld (.aload_n 0) 1 2 0 (.ref 11) rfl rfl rfl rfl 73 rfl ?_
  refine r_go (.dup) 1 rfl rfl rfl 74 [.ref 11, .ref 11] rfl ?_
  refine r_go (.getfield 38) 3 rfl rfl rfl 77 [.int (M6.1 11 8), .ref 11] rfl ?_
  refine r_ld (.aload_n 0) 1 2 0 (.ref 11) rfl rfl rfl rfl 78 rfl ?_
  refine r_ld (.iload_n 3) 1 0 3 (.int (a3)) rfl rfl rfl rfl 79 rfl ?_
  refine q_cIz w_PV rfl (.invokevirtual 89) rfl rfl rfl 121 rfl [.ref 11, .int (a3)] [.int (M6.1 11 8), .ref 11] rfl (k9_isKept_11 a3 M6) (fun v7 z8 => ?_)
  refine q_br w_PV (.ifCond .eq 7) 3 rfl rfl rfl (v7 = 0) 89 85 [.int (M6.1 11 8), .ref 11] rfl (fun _ => ?_) (fun _ => ?_)
  · refine q_const (.iconst 1) 1 rfl rfl rfl 90 (1) _ rfl cd_kj1 ?_
    exact r_w (k9_putPrice_11_7_6_L90 1 (M6.1 11 8) M6) (cd_le_n (cd_le_n (cd_le_n (cd_le_n (cd_le_n cd_le_0)))))
  · refine q_const (.iconst 0) 1 rfl rfl rfl 86 (0) _ rfl cd_kj0 ?_
    refine r_go (.goto 4) 3 rfl rfl rfl 90 [.int (0), .int (M6.1 11 8), .ref 11] rfl ?_
    exact r_w (k9_putPrice_11_7_6_L90 0 (M6.1 11 8) M6) (cd_le_n (cd_le_n (cd_le_n (cd_le_n (cd_le_n cd_le_0)))))
def f9_putPrice_11_7_6_L32 (a3 : Int32) (s0 : Int32) (M : cd_M) : Option cd_M := if cd_in a3 90 = true then (if M.1 46 a3.toNatClampNeg = 0 then (f9_putPrice_11_7_6_L53 a3 s0 M) else ((f5_value_6 1 M).bind fun v10 => cd_lt (s0 + v10) fun x11 => f9_putPrice_11_7_6_L53 a3 x11 M)) else none
set_option maxRecDepth 8000 in
theorem k9_putPrice_11_7_6_L32 (a3 : Int32) (s0 : Int32) (M : cd_M) : cd_R 114 32 [some (.ref 11), none, some (.ref 6), some (.int (a3)), none] [.int (s0)] M (w_PV (f9_putPrice_11_7_6_L32 a3 s0 M)) := by
  unfold f9_putPrice_11_7_6_L32
  refine r_st (.istore 4) 2 0 4 rfl rfl rfl 34 rfl [some (.ref 11), none, some (.ref 6), some (.int (a3)), some (.int (s0))] rfl ?_
  refine r_ld (.aload_n 0) 1 2 0 (.ref 11) rfl rfl rfl rfl 35 rfl ?_
  refine r_go (.getfield 21) 3 rfl rfl rfl 38 [.ref 46] rfl ?_
  refine r_ld (.iload_n 3) 1 0 3 (.int (a3)) rfl rfl rfl rfl 39 rfl ?_
  refine q_bald w_PV rfl rfl 46 90 23 rfl rfl (by decide) ?_
  refine q_br w_PV (.ifCond .eq 13) 3 rfl rfl rfl (M.1 46 a3.toNatClampNeg = 0) 53 43 [] rfl (fun _ => ?_) (fun _ => ?_)
  · exact r_w (k9_putPrice_11_7_6_L53 a3 s0 M) (cd_le_s (cd_le_n (cd_le_n (cd_le_s (cd_le_s cd_le_0)))))
  · refine r_ld (.iload 4) 2 0 4 (.int (s0)) rfl rfl rfl rfl 45 rfl ?_
    refine r_ld (.aload_n 2) 1 2 2 (.ref 6) rfl rfl rfl rfl 46 rfl ?_
    refine q_const (.iconst 1) 1 rfl rfl rfl 47 (1) _ rfl cd_kj1 ?_
    refine q_cI w_PV rfl (.invokevirtual 101) rfl rfl rfl 65 [.ref 6, .int (1)] [.int (s0)] rfl (k5_value_6 1 M) (fun v10 => ?_)
    refine r_go (.iadd) 1 rfl rfl rfl 51 [.int (s0 + v10)] rfl ?_
    refine q_stB w_PV (.istore 4) 2 0 4 rfl rfl (fun _ => rfl) 53 rfl (fun x11 => [some (.ref 11), none, some (.ref 6), some (.int (a3)), some (.int (x11))]) (fun _ => rfl) (fun x11 => ?_)
    exact r_w (k9_putPrice_11_7_6_L53 a3 x11 M) (cd_le_s (cd_le_n (cd_le_n (cd_le_s (cd_le_s cd_le_0)))))
def f9_putPrice_11_7_6 (a3 : Int32) (M : cd_M) : Option cd_M := if f9_has_11 a3 M = 0 then (some M) else ((f9_isKept_11 a3 M).bind fun v2 => if v2 = 0 then ((f5_costOfRepeat_6_7 a3 M).bind fun v4 => f9_putPrice_11_7_6_L32 a3 v4 M) else ((f5_costOfFresh_6_7 a3 M).bind fun v12 => f9_putPrice_11_7_6_L32 a3 v12 M))
set_option maxRecDepth 8000 in
theorem k9_putPrice_11_7_6 (a3 : Int32) (M : cd_M) : cd_R 114 0 [some (.ref 11), some (.ref 7), some (.ref 6), some (.int (a3)), none] [] M (w_PV (f9_putPrice_11_7_6 a3 M)) := by
  unfold f9_putPrice_11_7_6
  refine r_ld (.aload_n 0) 1 2 0 (.ref 11) rfl rfl rfl rfl 1 rfl ?_
  refine r_ld (.iload_n 3) 1 0 3 (.int (a3)) rfl rfl rfl rfl 2 rfl ?_
  refine q_cTIz (.invokevirtual 85) rfl rfl rfl 115 rfl [.ref 11, .int (a3)] [] rfl (k9_has_11 a3 M) (fun z1 => ?_)
  refine q_br w_PV (.ifCond .ne 4) 3 rfl rfl rfl (f9_has_11 a3 M = 0) 8 9 [] rfl (fun _ => ?_) (fun _ => ?_)
  · exact r_ret .return_ 1 rfl rfl rfl _ rfl
  · refine r_ld (.aload_n 0) 1 2 0 (.ref 11) rfl rfl rfl rfl 10 rfl ?_
    refine r_ld (.iload_n 3) 1 0 3 (.int (a3)) rfl rfl rfl rfl 11 rfl ?_
    refine q_cIz w_PV rfl (.invokevirtual 89) rfl rfl rfl 121 rfl [.ref 11, .int (a3)] [] rfl (k9_isKept_11 a3 M) (fun v2 z3 => ?_)
    refine q_br w_PV (.ifCond .eq 12) 3 rfl rfl rfl (v2 = 0) 26 17 [] rfl (fun _ => ?_) (fun _ => ?_)
    · refine r_ld (.aload_n 2) 1 2 2 (.ref 6) rfl rfl rfl rfl 27 rfl ?_
      refine r_ld (.aload_n 1) 1 2 1 (.ref 7) rfl rfl rfl rfl 28 rfl ?_
      refine r_ld (.iload_n 3) 1 0 3 (.int (a3)) rfl rfl rfl rfl 29 rfl ?_
      refine q_cI w_PV rfl (.invokevirtual 98) rfl rfl rfl 67 [.ref 6, .ref 7, .int (a3)] [] rfl (k5_costOfRepeat_6_7 a3 M) (fun v4 => ?_)
      exact r_w (k9_putPrice_11_7_6_L32 a3 v4 M) (cd_le_s (cd_le_n (cd_le_s (cd_le_s (cd_le_n cd_le_0)))))
    · refine r_ld (.aload_n 2) 1 2 2 (.ref 6) rfl rfl rfl rfl 18 rfl ?_
      refine r_ld (.aload_n 1) 1 2 1 (.ref 7) rfl rfl rfl rfl 19 rfl ?_
      refine r_ld (.iload_n 3) 1 0 3 (.int (a3)) rfl rfl rfl rfl 20 rfl ?_
      refine q_cI w_PV rfl (.invokevirtual 92) rfl rfl rfl 68 [.ref 6, .ref 7, .int (a3)] [] rfl (k5_costOfFresh_6_7 a3 M) (fun v12 => ?_)
      refine r_go (.goto 9) 3 rfl rfl rfl 32 [.int (v12)] rfl ?_
      exact r_w (k9_putPrice_11_7_6_L32 a3 v12 M) (cd_le_s (cd_le_n (cd_le_s (cd_le_s (cd_le_n cd_le_0)))))
def f0_goesOn_9 (a1 : Int32) (a2 : Int32) (M : cd_M) : Option (Int32) := if a1 < 0 then (some 0) else (if 90 ≤ a1 then (some 0) else (if a2 < 0 then (some 0) else (if a2 < 90 then (if cd_in ((2 * a1) + (a2 >>> ((6 : Int32) &&& 31))) 180 = true then (if lg_cmp ((((M.2 33 ((2 * a1) + (a2 >>> ((6 : Int32) &&& 31)) : Int32).toNatClampNeg : Int64).toUInt64 >>> ((a2 &&& 63 : Int32).toInt64.toUInt64 &&& Int64.toUInt64 63)).toInt64 : Int64) &&& (1 : Int64) : Int64) (0 : Int64) = 0 then (some 0) else (some 1)) else none) else (some 0))))
set_option maxRecDepth 8000 in
theorem k0_goesOn_9 (a1 : Int32) (a2 : Int32) (M : cd_M) : cd_R 6 0 [some (.ref 9), some (.int (a1)), some (.int (a2))] [] M ((w_PI M) (f0_goesOn_9 a1 a2 M)) := by
  unfold f0_goesOn_9
  refine r_ld (.iload_n 1) 1 0 1 (.int (a1)) rfl rfl rfl rfl 1 rfl ?_
  refine q_br (w_PI M) (.ifCond .lt 19) 3 rfl rfl rfl (a1 < 0) 20 4 [] rfl (fun _ => ?_) (fun _ => ?_)
  · refine q_const (.iconst 0) 1 rfl rfl rfl 21 (0) _ rfl cd_kj0 ?_
    exact r_retZ rfl rfl (by decide)
  · refine r_ld (.iload_n 1) 1 0 1 (.int (a1)) rfl rfl rfl rfl 5 rfl ?_
    refine q_const (.bipush 90) 2 rfl rfl rfl 7 (90) _ rfl cd_kc90 ?_
    refine q_br (w_PI M) (.if_icmp .ge 13) 3 rfl rfl rfl (90 ≤ a1) 20 10 [] rfl (fun _ => ?_) (fun _ => ?_)
    · refine q_const (.iconst 0) 1 rfl rfl rfl 21 (0) _ rfl cd_kj0 ?_
      exact r_retZ rfl rfl (by decide)
    · refine r_ld (.iload_n 2) 1 0 2 (.int (a2)) rfl rfl rfl rfl 11 rfl ?_
      refine q_br (w_PI M) (.ifCond .lt 9) 3 rfl rfl rfl (a2 < 0) 20 14 [] rfl (fun _ => ?_) (fun _ => ?_)
      · refine q_const (.iconst 0) 1 rfl rfl rfl 21 (0) _ rfl cd_kj0 ?_
        exact r_retZ rfl rfl (by decide)
      · refine r_ld (.iload_n 2) 1 0 2 (.int (a2)) rfl rfl rfl rfl 15 rfl ?_
        refine q_const (.bipush 90) 2 rfl rfl rfl 17 (90) _ rfl cd_kc90 ?_
        refine q_br (w_PI M) (.if_icmp .lt 5) 3 rfl rfl rfl (a2 < 90) 22 20 [] rfl (fun _ => ?_) (fun _ => ?_)
        · refine r_ld (.aload_n 0) 1 2 0 (.ref 9) rfl rfl rfl rfl 23 rfl ?_
          refine r_go (.getfield 25) 3 rfl rfl rfl 26 [.ref 33] rfl ?_
          refine q_const (.iconst 2) 1 rfl rfl rfl 27 (2) _ rfl cd_kj2 ?_
          refine r_ld (.iload_n 1) 1 0 1 (.int (a1)) rfl rfl rfl rfl 28 rfl ?_
          refine r_go (.imul) 1 rfl rfl rfl 29 [.int (2 * a1), .ref 33] rfl ?_
          refine r_ld (.iload_n 2) 1 0 2 (.int (a2)) rfl rfl rfl rfl 30 rfl ?_
          refine q_const (.bipush 6) 2 rfl rfl rfl 32 (6) _ rfl cd_kc6 ?_
          refine r_go (.ishr) 1 rfl rfl rfl 33 [.int (a2 >>> ((6 : Int32) &&& 31)), .int (2 * a1), .ref 33] rfl ?_
          refine r_go (.iadd) 1 rfl rfl rfl 34 [.int ((2 * a1) + (a2 >>> ((6 : Int32) &&& 31))), .ref 33] rfl ?_
          refine q_lald (w_PI M) rfl rfl 33 180 rfl ?_
          refine r_ld (.iload_n 2) 1 0 2 (.int (a2)) rfl rfl rfl rfl 36 rfl ?_
          refine q_const (.bipush 63) 2 rfl rfl rfl 38 (63) _ rfl cd_kc63 ?_
          refine r_go (.iand) 1 rfl rfl rfl 39 [.int (a2 &&& 63), .long (M.2 33 ((2 * a1) + (a2 >>> ((6 : Int32) &&& 31)) : Int32).toNatClampNeg)] rfl ?_
          refine r_go (.lushr) 1 rfl rfl rfl 40 [.long (((M.2 33 ((2 * a1) + (a2 >>> ((6 : Int32) &&& 31)) : Int32).toNatClampNeg : Int64).toUInt64 >>> ((a2 &&& 63 : Int32).toInt64.toUInt64 &&& Int64.toUInt64 63)).toInt64)] rfl ?_
          refine r_go (.lconst 1) 1 rfl rfl rfl 41 [.long (1), .long (((M.2 33 ((2 * a1) + (a2 >>> ((6 : Int32) &&& 31)) : Int32).toNatClampNeg : Int64).toUInt64 >>> ((a2 &&& 63 : Int32).toInt64.toUInt64 &&& Int64.toUInt64 63)).toInt64)] rfl ?_
          refine r_go (.land) 1 rfl rfl rfl 42 [.long ((((M.2 33 ((2 * a1) + (a2 >>> ((6 : Int32) &&& 31)) : Int32).toNatClampNeg : Int64).toUInt64 >>> ((a2 &&& 63 : Int32).toInt64.toUInt64 &&& Int64.toUInt64 63)).toInt64 : Int64) &&& (1 : Int64))] rfl ?_
          refine r_go (.lconst 0) 1 rfl rfl rfl 43 [.long (0), .long ((((M.2 33 ((2 * a1) + (a2 >>> ((6 : Int32) &&& 31)) : Int32).toNatClampNeg : Int64).toUInt64 >>> ((a2 &&& 63 : Int32).toInt64.toUInt64 &&& Int64.toUInt64 63)).toInt64 : Int64) &&& (1 : Int64))] rfl ?_
          refine r_go (.lcmp) 1 rfl rfl rfl 44 [.int (lg_cmp ((((M.2 33 ((2 * a1) + (a2 >>> ((6 : Int32) &&& 31)) : Int32).toNatClampNeg : Int64).toUInt64 >>> ((a2 &&& 63 : Int32).toInt64.toUInt64 &&& Int64.toUInt64 63)).toInt64 : Int64) &&& (1 : Int64) : Int64) (0 : Int64))] rfl ?_
          refine q_br (w_PI M) (.ifCond .eq 7) 3 rfl rfl rfl (lg_cmp ((((M.2 33 ((2 * a1) + (a2 >>> ((6 : Int32) &&& 31)) : Int32).toNatClampNeg : Int64).toUInt64 >>> ((a2 &&& 63 : Int32).toInt64.toUInt64 &&& Int64.toUInt64 63)).toInt64 : Int64) &&& (1 : Int64) : Int64) (0 : Int64) = 0) 51 47 [] rfl (fun _ => ?_) (fun _ => ?_)
          · refine q_const (.iconst 0) 1 rfl rfl rfl 52 (0) _ rfl cd_kj0 ?_
            exact r_retZ rfl rfl (by decide)
          · refine q_const (.iconst 1) 1 rfl rfl rfl 48 (1) _ rfl cd_kj1 ?_
            refine r_go (.goto 4) 3 rfl rfl rfl 52 [.int (1)] rfl ?_
            exact r_retZ rfl rfl (by decide)
        · refine q_const (.iconst 0) 1 rfl rfl rfl 21 (0) _ rfl cd_kj0 ?_
          exact r_retZ rfl rfl (by decide)
