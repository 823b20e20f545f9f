def f11_laysGroups_15_L172 (r12 : Int32 → cd_M → Option cd_M) (a1 : Int32) (s0 : Int32) (s1 : Int32) (M : cd_M) : Option cd_M := cd_lt (cd_wI M 15 47 (s1 + s0)) fun M13 => cd_lt (a1 + (1)) fun x14 => r12 x14 M13
set_option maxRecDepth 8000 in
theorem k11_laysGroups_15_L172 (r12 : Int32 → cd_M → Option cd_M) (h12 : ∀ (a1 : Int32) (M : cd_M), cd_R 219 12 [some (.ref 15), some (.int (a1)), none] [] M (w_PV (r12 a1 M))) (a1 : Int32) (s0 : Int32) (s1 : Int32) (M : cd_M) : cd_R 219 172 [some (.ref 15), some (.int (a1)), none] [.int (s0), .int (s1), .ref 15] M (w_PV (f11_laysGroups_15_L172 r12 a1 s0 s1 M)) := by
  unfold f11_laysGroups_15_L172
  refine r_go (.iadd) 1 rfl rfl rfl 173 [.int (s1 + s0), .ref 15] rfl ?_
  refine q_wr w_PV (.putfield 315) 3 rfl rfl rfl 176 [] (cd_wI M 15 47 (s1 + s0)) rfl (fun M13 => ?_)
  refine q_inc w_PV 1 (1) (a1) rfl rfl rfl 179 rfl (1) cd_kj1 (fun x14 => [some (.ref 15), some (.int (x14)), none]) (fun _ => rfl) (fun x14 => ?_)
  refine r_go (.goto (-167)) 3 rfl rfl rfl 12 [] rfl ?_
  exact r_w (h12 x14 M13) (cd_le_s (cd_le_s (cd_le_n cd_le_0)))
def f11_laysGroups_15_L153 (r12 : Int32 → cd_M → Option cd_M) (a1 : Int32) (M : cd_M) : Option cd_M := if cd_in a1 90 = true then (if M.1 74 a1.toNatClampNeg = 0 then (f11_laysGroups_15_L172 r12 a1 1 (M.1 15 47) M) else (f11_laysGroups_15_L172 r12 a1 0 (M.1 15 47) M)) else none
set_option maxRecDepth 8000 in
theorem k11_laysGroups_15_L153 (r12 : Int32 → cd_M → Option cd_M) (h12 : ∀ (a1 : Int32) (M : cd_M), cd_R 219 12 [some (.ref 15), some (.int (a1)), none] [] M (w_PV (r12 a1 M))) (a1 : Int32) (M : cd_M) : cd_R 219 153 [some (.ref 15), some (.int (a1)), none] [] M (w_PV (f11_laysGroups_15_L153 r12 a1 M)) := by
  unfold f11_laysGroups_15_L153
  refine r_ld (.aload_n 0) 1 2 0 (.ref 15) rfl rfl rfl rfl 154 rfl ?_
  refine r_go (.dup) 1 rfl rfl rfl 155 [.ref 15, .ref 15] rfl ?_
  refine r_go (.getfield 315) 3 rfl rfl rfl 158 [.int (M.1 15 47), .ref 15] rfl ?_
  refine r_ld (.aload_n 0) 1 2 0 (.ref 15) rfl rfl rfl rfl 159 rfl ?_
  refine r_go (.getfield 63) 3 rfl rfl rfl 162 [.ref 74, .int (M.1 15 47), .ref 15] rfl ?_
  refine r_ld (.iload_n 1) 1 0 1 (.int (a1)) rfl rfl rfl rfl 163 rfl ?_
  refine q_bald w_PV rfl rfl 74 90 23 rfl rfl (by decide) ?_
  refine q_br w_PV (.ifCond .eq 7) 3 rfl rfl rfl (M.1 74 a1.toNatClampNeg = 0) 171 167 [.int (M.1 15 47), .ref 15] rfl (fun _ => ?_) (fun _ => ?_)
  · refine q_const (.iconst 1) 1 rfl rfl rfl 172 (1) _ rfl cd_kj1 ?_
    exact r_w (k11_laysGroups_15_L172 r12 h12 a1 1 (M.1 15 47) M) (cd_le_s (cd_le_s (cd_le_n cd_le_0)))
  · refine q_const (.iconst 0) 1 rfl rfl rfl 168 (0) _ rfl cd_kj0 ?_
    refine r_go (.goto 4) 3 rfl rfl rfl 172 [.int (0), .int (M.1 15 47), .ref 15] rfl ?_
    exact r_w (k11_laysGroups_15_L172 r12 h12 a1 0 (M.1 15 47) M) (cd_le_s (cd_le_s (cd_le_n cd_le_0)))
def f11_laysGroups_15_L128 (r12 : Int32 → cd_M → Option cd_M) (a1 : Int32) (a2 : Int32) (s0 : Int32) (s1 : Int32) (M : cd_M) : Option cd_M := if cd_in s1 90 = true then (cd_lt (cd_wI M 74 s1.toNatClampNeg (vp_nar .boolean s0)) fun M12 => if cd_in a1 90 = true then (if M12.1 74 a1.toNatClampNeg = 0 then (f11_laysGroups_15_L153 r12 a1 M12) else ((f11_parityOf_15 a1 M12).bind fun v15 => if cd_in ((2 * a2) + v15) 180 = true then (cd_lt (cd_wI M12 75 ((2 * a2) + v15 : Int32).toNatClampNeg a1) fun M16 => f11_laysGroups_15_L153 r12 a1 M16) else none)) else none) else none
set_option maxRecDepth 8000 in
theorem k11_laysGroups_15_L128 (r12 : Int32 → cd_M → Option cd_M) (h12 : ∀ (a1 : Int32) (M : cd_M), cd_R 219 12 [some (.ref 15), some (.int (a1)), none] [] M (w_PV (r12 a1 M))) (a1 : Int32) (a2 : Int32) (s0 : Int32) (s1 : Int32) (M : cd_M) : cd_R 219 128 [some (.ref 15), some (.int (a1)), some (.int (a2))] [.int (s0), .int (s1), .ref 74] M (w_PV (f11_laysGroups_15_L128 r12 a1 a2 s0 s1 M)) := by
  unfold f11_laysGroups_15_L128
  refine q_zast w_PV rfl rfl 74 90 rfl (fun M12 => ?_)
  refine r_ld (.aload_n 0) 1 2 0 (.ref 15) rfl rfl rfl rfl 130 rfl ?_
  refine r_go (.getfield 63) 3 rfl rfl rfl 133 [.ref 74] rfl ?_
  refine r_ld (.iload_n 1) 1 0 1 (.int (a1)) rfl rfl rfl rfl 134 rfl ?_
  refine q_bald w_PV rfl rfl 74 90 23 rfl rfl (by decide) ?_
  refine q_br w_PV (.ifCond .eq 18) 3 rfl rfl rfl (M12.1 74 a1.toNatClampNeg = 0) 153 138 [] rfl (fun _ => ?_) (fun _ => ?_)
  · exact r_w (k11_laysGroups_15_L153 r12 h12 a1 M12) (cd_le_s (cd_le_s (cd_le_n cd_le_0)))
  · refine r_ld (.aload_n 0) 1 2 0 (.ref 15) rfl rfl rfl rfl 139 rfl ?_
    refine r_go (.getfield 66) 3 rfl rfl rfl 142 [.ref 75] rfl ?_
    refine q_const (.iconst 2) 1 rfl rfl rfl 143 (2) _ rfl cd_kj2 ?_
    refine r_ld (.iload_n 2) 1 0 2 (.int (a2)) rfl rfl rfl rfl 144 rfl ?_
    refine r_go (.imul) 1 rfl rfl rfl 145 [.int (2 * a2), .ref 75] rfl ?_
    refine r_ld (.aload_n 0) 1 2 0 (.ref 15) rfl rfl rfl rfl 146 rfl ?_
    refine r_ld (.iload_n 1) 1 0 1 (.int (a1)) rfl rfl rfl rfl 147 rfl ?_
    refine q_cI w_PV rfl (.invokevirtual 258) rfl rfl rfl 190 [.ref 15, .int (a1)] [.int (2 * a2), .ref 75] rfl (k11_parityOf_15 a1 M12) (fun v15 => ?_)
    refine r_go (.iadd) 1 rfl rfl rfl 151 [.int ((2 * a2) + v15), .ref 75] rfl ?_
    refine r_ld (.iload_n 1) 1 0 1 (.int (a1)) rfl rfl rfl rfl 152 rfl ?_
    refine q_iast w_PV rfl rfl 75 180 rfl (fun M16 => ?_)
    exact r_w (k11_laysGroups_15_L153 r12 h12 a1 M16) (cd_le_s (cd_le_s (cd_le_n cd_le_0)))
def f11_laysGroups_15_L87 (r12 : Int32 → cd_M → Option cd_M) (a1 : Int32) (M : cd_M) : Option cd_M := cd_lt ((M.1 15 37) - 1) fun x9 => if cd_in a1 90 = true then (cd_lt (cd_wI M 72 a1.toNatClampNeg x9) fun M10 => (f11_parityOf_15 a1 M10).bind fun v11 => if cd_in ((2 * x9) + v11) 180 = true then (if 0 ≤ M10.1 75 ((2 * x9) + v11 : Int32).toNatClampNeg then (f11_laysGroups_15_L128 r12 a1 x9 0 a1 M10) else (f11_laysGroups_15_L128 r12 a1 x9 1 a1 M10)) else none) else none
set_option maxRecDepth 8000 in
theorem k11_laysGroups_15_L87 (r12 : Int32 → cd_M → Option cd_M) (h12 : ∀ (a1 : Int32) (M : cd_M), cd_R 219 12 [some (.ref 15), some (.int (a1)), none] [] M (w_PV (r12 a1 M))) (a1 : Int32) (M : cd_M) : cd_R 219 87 [some (.ref 15), some (.int (a1)), none] [] M (w_PV (f11_laysGroups_15_L87 r12 a1 M)) := by
  unfold f11_laysGroups_15_L87
  refine r_ld (.aload_n 0) 1 2 0 (.ref 15) rfl rfl rfl rfl 88 rfl ?_
  refine r_go (.getfield 312) 3 rfl rfl rfl 91 [.int (M.1 15 37)] rfl ?_
  refine q_const (.iconst 1) 1 rfl rfl rfl 92 (1) _ rfl cd_kj1 ?_
  refine r_go (.isub) 1 rfl rfl rfl 93 [.int ((M.1 15 37) - 1)] rfl ?_
  refine q_stB w_PV (.istore_n 2) 1 0 2 rfl rfl (fun _ => rfl) 94 rfl (fun x9 => [some (.ref 15), some (.int (a1)), some (.int (x9))]) (fun _ => rfl) (fun x9 => ?_)
  refine r_ld (.aload_n 0) 1 2 0 (.ref 15) rfl rfl rfl rfl 95 rfl ?_
  refine r_go (.getfield 57) 3 rfl rfl rfl 98 [.ref 72] rfl ?_
  refine r_ld (.iload_n 1) 1 0 1 (.int (a1)) rfl rfl rfl rfl 99 rfl ?_
  refine r_ld (.iload_n 2) 1 0 2 (.int (x9)) rfl rfl rfl rfl 100 rfl ?_
  refine q_iast w_PV rfl rfl 72 90 rfl (fun M10 => ?_)
  refine r_ld (.aload_n 0) 1 2 0 (.ref 15) rfl rfl rfl rfl 102 rfl ?_
  refine r_go (.getfield 63) 3 rfl rfl rfl 105 [.ref 74] rfl ?_
  refine r_ld (.iload_n 1) 1 0 1 (.int (a1)) rfl rfl rfl rfl 106 rfl ?_
  refine r_ld (.aload_n 0) 1 2 0 (.ref 15) rfl rfl rfl rfl 107 rfl ?_
  refine r_go (.getfield 66) 3 rfl rfl rfl 110 [.ref 75, .int (a1), .ref 74] rfl ?_
  refine q_const (.iconst 2) 1 rfl rfl rfl 111 (2) _ rfl cd_kj2 ?_
  refine r_ld (.iload_n 2) 1 0 2 (.int (x9)) rfl rfl rfl rfl 112 rfl ?_
  refine r_go (.imul) 1 rfl rfl rfl 113 [.int (2 * x9), .ref 75, .int (a1), .ref 74] rfl ?_
  refine r_ld (.aload_n 0) 1 2 0 (.ref 15) rfl rfl rfl rfl 114 rfl ?_
  refine r_ld (.iload_n 1) 1 0 1 (.int (a1)) rfl rfl rfl rfl 115 rfl ?_
  refine q_cI w_PV rfl (.invokevirtual 258) rfl rfl rfl 190 [.ref 15, .int (a1)] [.int (2 * x9), .ref 75, .int (a1), .ref 74] rfl (k11_parityOf_15 a1 M10) (fun v11 => ?_)
  refine r_go (.iadd) 1 rfl rfl rfl 119 [.int ((2 * x9) + v11), .ref 75, .int (a1), .ref 74] rfl ?_
  refine q_iald w_PV rfl rfl 75 180 rfl ?_
  refine q_br w_PV (.ifCond .ge 7) 3 rfl rfl rfl (0 ≤ M10.1 75 ((2 * x9) + v11 : Int32).toNatClampNeg) 127 123 [.int (a1), .ref 74] rfl (fun _ => ?_) (fun _ => ?_)
  · refine q_const (.iconst 0) 1 rfl rfl rfl 128 (0) _ rfl cd_kj0 ?_
    exact r_w (k11_laysGroups_15_L128 r12 h12 a1 x9 0 a1 M10) (cd_le_s (cd_le_s (cd_le_s cd_le_0)))
  · refine q_const (.iconst 1) 1 rfl rfl rfl 124 (1) _ rfl cd_kj1 ?_
    refine r_go (.goto 4) 3 rfl rfl rfl 128 [.int (1), .int (a1), .ref 74] rfl ?_
    exact r_w (k11_laysGroups_15_L128 r12 h12 a1 x9 1 a1 M10) (cd_le_s (cd_le_s (cd_le_s cd_le_0)))
def f11_laysGroups_15_L12 : Nat → Int32 → cd_M → Option cd_M
  | 0, _, _ => none
  | n + 1, a1, M => if M.1 15 24 ≤ a1 then (if cd_in (M.1 15 37) 91 = true then (cd_lt (cd_wI M 73 (M.1 15 37 : Int32).toNatClampNeg (M.1 15 24)) fun M3 => some M3) else none) else (if cd_in a1 90 = true then (if (M.1 70 a1.toNatClampNeg) - (M.1 70 a1.toNatClampNeg) / 5 * 5 = 0 then (if cd_in (M.1 15 37) 91 = true then (cd_lt (cd_wI M 73 (M.1 15 37 : Int32).toNatClampNeg a1) fun M4 => if cd_in (2 * (M4.1 15 37)) 180 = true then (cd_lt (cd_wI M4 75 (2 * (M4.1 15 37) : Int32).toNatClampNeg (-1)) fun M5 => if cd_in ((2 * (M5.1 15 37)) + 1) 180 = true then (cd_lt (cd_wI M5 75 ((2 * (M5.1 15 37)) + 1 : Int32).toNatClampNeg (-1)) fun M6 => if cd_in (M6.1 15 37) 90 = true then (cd_lt (cd_wI M6 76 (M6.1 15 37 : Int32).toNatClampNeg (-1)) fun M7 => cd_lt (cd_wI M7 15 37 ((M7.1 15 37) + 1)) fun M8 => f11_laysGroups_15_L87 (f11_laysGroups_15_L12 n) a1 M8) else none) else none) else none) else none) else (f11_laysGroups_15_L87 (f11_laysGroups_15_L12 n) a1 M)) else none)
set_option maxRecDepth 8000 in
theorem k11_laysGroups_15_L12 : ∀ (n : Nat) (a1 : Int32) (M : cd_M), cd_R 219 12 [some (.ref 15), some (.int (a1)), none] [] M (w_PV (f11_laysGroups_15_L12 n a1 M)) := by
  intro n
  induction n with
  | zero =>
    intro a1 M
    exact q_none w_PV rfl
  | succ n ih =>
    intro a1 M
    rw [f11_laysGroups_15_L12]
    refine r_ld (.iload_n 1) 1 0 1 (.int (a1)) rfl rfl rfl rfl 13 rfl ?_
    refine r_ld (.aload_n 0) 1 2 0 (.ref 15) rfl rfl rfl rfl 14 rfl ?_
    refine r_go (.getfield 195) 3 rfl rfl rfl 17 [.int (M.1 15 24), .int (a1)] rfl ?_
    refine q_br w_PV (.if_icmp .ge 165) 3 rfl rfl rfl (M.1 15 24 ≤ a1) 182 20 [] rfl (fun _ => ?_) (fun _ => ?_)
    · refine r_ld (.aload_n 0) 1 2 0 (.ref 15) rfl rfl rfl rfl 183 rfl ?_
      refine r_go (.getfield 60) 3 rfl rfl rfl 186 [.ref 73] rfl ?_
      refine r_ld (.aload_n 0) 1 2 0 (.ref 15) rfl rfl rfl rfl 187 rfl ?_
      refine r_go (.getfield 312) 3 rfl rfl rfl 190 [.int (M.1 15 37), .ref 73] rfl ?_
      refine r_ld (.aload_n 0) 1 2 0 (.ref 15) rfl rfl rfl rfl 191 rfl ?_
      refine r_go (.getfield 195) 3 rfl rfl rfl 194 [.int (M.1 15 24), .int (M.1 15 37), .ref 73] rfl ?_
      refine q_iast w_PV rfl rfl 73 91 rfl (fun M3 => ?_)
      exact r_ret .return_ 1 rfl rfl rfl _ rfl
    · refine r_ld (.aload_n 0) 1 2 0 (.ref 15) rfl rfl rfl rfl 21 rfl ?_
      refine r_go (.getfield 51) 3 rfl rfl rfl 24 [.ref 70] rfl ?_
      refine r_ld (.iload_n 1) 1 0 1 (.int (a1)) rfl rfl rfl rfl 25 rfl ?_
      refine q_iald w_PV rfl rfl 70 90 rfl ?_
      refine q_const (.iconst 5) 1 rfl rfl rfl 27 (5) _ rfl cd_kj5 ?_
      refine q_remK rfl (by decide) ?_
      refine q_br w_PV (.ifCond .ne 59) 3 rfl rfl rfl ((M.1 70 a1.toNatClampNeg) - (M.1 70 a1.toNatClampNeg) / 5 * 5 = 0) 31 87 [] rfl (fun _ => ?_) (fun _ => ?_)
      · refine r_ld (.aload_n 0) 1 2 0 (.ref 15) rfl rfl rfl rfl 32 rfl ?_
        refine r_go (.getfield 60) 3 rfl rfl rfl 35 [.ref 73] rfl ?_
        refine r_ld (.aload_n 0) 1 2 0 (.ref 15) rfl rfl rfl rfl 36 rfl ?_
        refine r_go (.getfield 312) 3 rfl rfl rfl 39 [.int (M.1 15 37), .ref 73] rfl ?_
        refine r_ld (.iload_n 1) 1 0 1 (.int (a1)) rfl rfl rfl rfl 40 rfl ?_
        refine q_iast w_PV rfl rfl 73 91 rfl (fun M4 => ?_)
        refine r_ld (.aload_n 0) 1 2 0 (.ref 15) rfl rfl rfl rfl 42 rfl ?_
        refine r_go (.getfield 66) 3 rfl rfl rfl 45 [.ref 75] rfl ?_
        refine q_const (.iconst 2) 1 rfl rfl rfl 46 (2) _ rfl cd_kj2 ?_
        refine r_ld (.aload_n 0) 1 2 0 (.ref 15) rfl rfl rfl rfl 47 rfl ?_
        refine r_go (.getfield 312) 3 rfl rfl rfl 50 [.int (M4.1 15 37), .int (2), .ref 75] rfl ?_
        refine r_go (.imul) 1 rfl rfl rfl 51 [.int (2 * (M4.1 15 37)), .ref 75] rfl ?_
        refine q_const (.iconst (-1)) 1 rfl rfl rfl 52 (-1) _ rfl cd_kjm1 ?_
        refine q_iast w_PV rfl rfl 75 180 rfl (fun M5 => ?_)
        refine r_ld (.aload_n 0) 1 2 0 (.ref 15) rfl rfl rfl rfl 54 rfl ?_
        refine r_go (.getfield 66) 3 rfl rfl rfl 57 [.ref 75] rfl ?_
        refine q_const (.iconst 2) 1 rfl rfl rfl 58 (2) _ rfl cd_kj2 ?_
        refine r_ld (.aload_n 0) 1 2 0 (.ref 15) rfl rfl rfl rfl 59 rfl ?_
        refine r_go (.getfield 312) 3 rfl rfl rfl 62 [.int (M5.1 15 37), .int (2), .ref 75] rfl ?_
        refine r_go (.imul) 1 rfl rfl rfl 63 [.int (2 * (M5.1 15 37)), .ref 75] rfl ?_
        refine q_const (.iconst 1) 1 rfl rfl rfl 64 (1) _ rfl cd_kj1 ?_
        refine r_go (.iadd) 1 rfl rfl rfl 65 [.int ((2 * (M5.1 15 37)) + 1), .ref 75] rfl ?_
        refine q_const (.iconst (-1)) 1 rfl rfl rfl 66 (-1) _ rfl cd_kjm1 ?_
        refine q_iast w_PV rfl rfl 75 180 rfl (fun M6 => ?_)
        refine r_ld (.aload_n 0) 1 2 0 (.ref 15) rfl rfl rfl rfl 68 rfl ?_
        refine r_go (.getfield 69) 3 rfl rfl rfl 71 [.ref 76] rfl ?_
        refine r_ld (.aload_n 0) 1 2 0 (.ref 15) rfl rfl rfl rfl 72 rfl ?_
        refine r_go (.getfield 312) 3 rfl rfl rfl 75 [.int (M6.1 15 37), .ref 76] rfl ?_
        refine q_const (.iconst (-1)) 1 rfl rfl rfl 76 (-1) _ rfl cd_kjm1 ?_
        refine q_iast w_PV rfl rfl 76 90 rfl (fun M7 => ?_)
        refine r_ld (.aload_n 0) 1 2 0 (.ref 15) rfl rfl rfl rfl 78 rfl ?_
        refine r_go (.dup) 1 rfl rfl rfl 79 [.ref 15, .ref 15] rfl ?_
        refine r_go (.getfield 312) 3 rfl rfl rfl 82 [.int (M7.1 15 37), .ref 15] rfl ?_
        refine q_const (.iconst 1) 1 rfl rfl rfl 83 (1) _ rfl cd_kj1 ?_
        refine r_go (.iadd) 1 rfl rfl rfl 84 [.int ((M7.1 15 37) + 1), .ref 15] rfl ?_
        refine q_wr w_PV (.putfield 312) 3 rfl rfl rfl 87 [] (cd_wI M7 15 37 ((M7.1 15 37) + 1)) rfl (fun M8 => ?_)
        exact r_w (k11_laysGroups_15_L87 (f11_laysGroups_15_L12 n) ih a1 M8) (cd_le_s (cd_le_s (cd_le_n cd_le_0)))
      · exact r_w (k11_laysGroups_15_L87 (f11_laysGroups_15_L12 n) ih a1 M) (cd_le_s (cd_le_s (cd_le_n cd_le_0)))
def f11_laysGroups_15 (M : cd_M) : Option cd_M := cd_lt (cd_wI M 15 37 0) fun M1 => cd_lt (cd_wI M1 15 47 0) fun M2 => f11_laysGroups_15_L12 cd_fu 0 M2
set_option maxRecDepth 8000 in
theorem k11_laysGroups_15 (M : cd_M) : cd_R 219 0 [some (.ref 15), none, none] [] M (w_PV (f11_laysGroups_15 M)) := by
  unfold f11_laysGroups_15
  refine r_ld (.aload_n 0) 1 2 0 (.ref 15) rfl rfl rfl rfl 1 rfl ?_
  refine q_const (.iconst 0) 1 rfl rfl rfl 2 (0) _ rfl cd_kj0 ?_
  refine q_wr w_PV (.putfield 312) 3 rfl rfl rfl 5 [] (cd_wI M 15 37 0) rfl (fun M1 => ?_)
  refine r_ld (.aload_n 0) 1 2 0 (.ref 15) rfl rfl rfl rfl 6 rfl ?_
  refine q_const (.iconst 0) 1 rfl rfl rfl 7 (0) _ rfl cd_kj0 ?_
  refine q_wr w_PV (.putfield 315) 3 rfl rfl rfl 10 [] (cd_wI M1 15 47 0) rfl (fun M2 => ?_)
  refine q_const (.iconst 0) 1 rfl rfl rfl 11 (0) _ rfl cd_kj0 ?_
  refine r_st (.istore_n 1) 1 0 1 rfl rfl rfl 12 rfl [some (.ref 15), some (.int (0)), none] rfl ?_
  exact r_w (k11_laysGroups_15_L12 cd_fu 0 M2) (cd_le_s (cd_le_s (cd_le_n cd_le_0)))
def f11_loneOf_15 (a1 : Int32) (M : cd_M) : Option (Int32) := if cd_in (2 * a1) 180 = true then (if 0 ≤ M.1 75 (2 * a1 : Int32).toNatClampNeg then (if cd_in (2 * a1) 180 = true then (some (M.1 75 (2 * a1 : Int32).toNatClampNeg)) else none) else (if cd_in ((2 * a1) + 1) 180 = true then (some (M.1 75 ((2 * a1) + 1 : Int32).toNatClampNeg)) else none)) else none
set_option maxRecDepth 8000 in
theorem k11_loneOf_15 (a1 : Int32) (M : cd_M) : cd_R 218 0 [some (.ref 15), some (.int (a1))] [] M ((w_PI M) (f11_loneOf_15 a1 M)) := by
  unfold f11_loneOf_15
  refine r_ld (.aload_n 0) 1 2 0 (.ref 15) rfl rfl rfl rfl 1 rfl ?_
  refine r_go (.getfield 66) 3 rfl rfl rfl 4 [.ref 75] rfl ?_
  refine q_const (.iconst 2) 1 rfl rfl rfl 5 (2) _ rfl cd_kj2 ?_
  refine r_ld (.iload_n 1) 1 0 1 (.int (a1)) rfl rfl rfl rfl 6 rfl ?_
  refine r_go (.imul) 1 rfl rfl rfl 7 [.int (2 * a1), .ref 75] rfl ?_
  refine q_iald (w_PI M) rfl rfl 75 180 rfl ?_
  refine q_br (w_PI M) (.ifCond .ge 16) 3 rfl rfl rfl (0 ≤ M.1 75 (2 * a1 : Int32).toNatClampNeg) 24 11 [] rfl (fun _ => ?_) (fun _ => ?_)
  · refine r_ld (.aload_n 0) 1 2 0 (.ref 15) rfl rfl rfl rfl 25 rfl ?_
    refine r_go (.getfield 66) 3 rfl rfl rfl 28 [.ref 75] rfl ?_
    refine q_const (.iconst 2) 1 rfl rfl rfl 29 (2) _ rfl cd_kj2 ?_
    refine r_ld (.iload_n 1) 1 0 1 (.int (a1)) rfl rfl rfl rfl 30 rfl ?_
    refine r_go (.imul) 1 rfl rfl rfl 31 [.int (2 * a1), .ref 75] rfl ?_
    refine q_iald (w_PI M) rfl rfl 75 180 rfl ?_
    exact r_ret .ireturn 1 rfl rfl rfl _ rfl
  · refine r_ld (.aload_n 0) 1 2 0 (.ref 15) rfl rfl rfl rfl 12 rfl ?_
    refine r_go (.getfield 66) 3 rfl rfl rfl 15 [.ref 75] rfl ?_
    refine q_const (.iconst 2) 1 rfl rfl rfl 16 (2) _ rfl cd_kj2 ?_
    refine r_ld (.iload_n 1) 1 0 1 (.int (a1)) rfl rfl rfl rfl 17 rfl ?_
    refine r_go (.imul) 1 rfl rfl rfl 18 [.int (2 * a1), .ref 75] rfl ?_
    refine q_const (.iconst 1) 1 rfl rfl rfl 19 (1) _ rfl cd_kj1 ?_
    refine r_go (.iadd) 1 rfl rfl rfl 20 [.int ((2 * a1) + 1), .ref 75] rfl ?_
    refine q_iald (w_PI M) rfl rfl 75 180 rfl ?_
    refine r_go (.goto 11) 3 rfl rfl rfl 32 [.int (M.1 75 ((2 * a1) + 1 : Int32).toNatClampNeg)] rfl ?_
    exact r_ret .ireturn 1 rfl rfl rfl _ rfl
def f11_isOrphan_15 (a1 : Int32) (M : cd_M) : Option (Int32) := if cd_in (2 * a1) 180 = true then (if M.1 75 (2 * a1 : Int32).toNatClampNeg < 0 then (some 1) else (if cd_in ((2 * a1) + 1) 180 = true then (if 0 ≤ M.1 75 ((2 * a1) + 1 : Int32).toNatClampNeg then (some 0) else (some 1)) else none)) else none
set_option maxRecDepth 8000 in
theorem k11_isOrphan_15 (a1 : Int32) (M : cd_M) : cd_R 217 0 [some (.ref 15), some (.int (a1))] [] M ((w_PI M) (f11_isOrphan_15 a1 M)) := by
  unfold f11_isOrphan_15
  refine r_ld (.aload_n 0) 1 2 0 (.ref 15) rfl rfl rfl rfl 1 rfl ?_
  refine r_go (.getfield 66) 3 rfl rfl rfl 4 [.ref 75] rfl ?_
  refine q_const (.iconst 2) 1 rfl rfl rfl 5 (2) _ rfl cd_kj2 ?_
  refine r_ld (.iload_n 1) 1 0 1 (.int (a1)) rfl rfl rfl rfl 6 rfl ?_
  refine r_go (.imul) 1 rfl rfl rfl 7 [.int (2 * a1), .ref 75] rfl ?_
  refine q_iald (w_PI M) rfl rfl 75 180 rfl ?_
  refine q_br (w_PI M) (.ifCond .lt 16) 3 rfl rfl rfl (M.1 75 (2 * a1 : Int32).toNatClampNeg < 0) 24 11 [] rfl (fun _ => ?_) (fun _ => ?_)
  · refine q_const (.iconst 1) 1 rfl rfl rfl 25 (1) _ rfl cd_kj1 ?_
    refine r_go (.goto 4) 3 rfl rfl rfl 29 [.int (1)] rfl ?_
    exact r_retZ rfl rfl (by decide)
  · refine r_ld (.aload_n 0) 1 2 0 (.ref 15) rfl rfl rfl rfl 12 rfl ?_
    refine r_go (.getfield 66) 3 rfl rfl rfl 15 [.ref 75] rfl ?_
    refine q_const (.iconst 2) 1 rfl rfl rfl 16 (2) _ rfl cd_kj2 ?_
    refine r_ld (.iload_n 1) 1 0 1 (.int (a1)) rfl rfl rfl rfl 17 rfl ?_
    refine r_go (.imul) 1 rfl rfl rfl 18 [.int (2 * a1), .ref 75] rfl ?_
    refine q_const (.iconst 1) 1 rfl rfl rfl 19 (1) _ rfl cd_kj1 ?_
    refine r_go (.iadd) 1 rfl rfl rfl 20 [.int ((2 * a1) + 1), .ref 75] rfl ?_
    refine q_iald (w_PI M) rfl rfl 75 180 rfl ?_
    refine q_br (w_PI M) (.ifCond .ge 7) 3 rfl rfl rfl (0 ≤ M.1 75 ((2 * a1) + 1 : Int32).toNatClampNeg) 28 24 [] rfl (fun _ => ?_) (fun _ => ?_)
    · refine q_const (.iconst 0) 1 rfl rfl rfl 29 (0) _ rfl cd_kj0 ?_
      exact r_retZ rfl rfl (by decide)
    · refine q_const (.iconst 1) 1 rfl rfl rfl 25 (1) _ rfl cd_kj1 ?_
      refine r_go (.goto 4) 3 rfl rfl rfl 29 [.int (1)] rfl ?_
      exact r_retZ rfl rfl (by decide)
def f11_canMate_15 (a1 : Int32) (a2 : Int32) (M : cd_M) : Option (Int32) := (f11_isOrphan_15 a1 M).bind fun v1 => if v1 = 0 then (some 0) else ((f11_isOrphan_15 a2 M).bind fun v3 => if v3 = 0 then (some 0) else (if cd_in a1 90 = true then (if 0 ≤ M.1 76 a1.toNatClampNeg then (some 0) else ((f11_loneOf_15 a1 M).bind fun v5 => (f11_parityOf_15 v5 M).bind fun v6 => (f11_loneOf_15 a2 M).bind fun v7 => (f11_parityOf_15 v7 M).bind fun v8 => if v6 = v8 then (some 0) else ((f11_loneOf_15 a1 M).bind fun v9 => (f11_loneOf_15 a2 M).bind fun v10 => (f11_apartOf_15 v9 v10 M).bind fun v11 => if cd_in 3 10 = true then (if M.1 62 (3 : Int32).toNatClampNeg < v11 then (some 0) else (some 1)) else none))) else none))
set_option maxRecDepth 8000 in
theorem k11_canMate_15 (a1 : Int32) (a2 : Int32) (M : cd_M) : cd_R 220 0 [some (.ref 15), some (.int (a1)), some (.int (a2))] [] M ((w_PI M) (f11_canMate_15 a1 a2 M)) := by
  unfold f11_canMate_15
  refine r_ld (.aload_n 0) 1 2 0 (.ref 15) rfl rfl rfl rfl 1 rfl ?_
  refine r_ld (.iload_n 1) 1 0 1 (.int (a1)) rfl rfl rfl rfl 2 rfl ?_
  refine q_cIz (w_PI M) rfl (.invokevirtual 318) rfl rfl rfl 217 rfl [.ref 15, .int (a1)] [] rfl (k11_isOrphan_15 a1 M) (fun v1 z2 => ?_)
  refine q_br (w_PI M) (.ifCond .eq 68) 3 rfl rfl rfl (v1 = 0) 73 8 [] rfl (fun _ => ?_) (fun _ => ?_)
  · refine q_const (.iconst 0) 1 rfl rfl rfl 74 (0) _ rfl cd_kj0 ?_
    exact r_retZ rfl rfl (by decide)
  · refine r_ld (.aload_n 0) 1 2 0 (.ref 15) rfl rfl rfl rfl 9 rfl ?_
    refine r_ld (.iload_n 2) 1 0 2 (.int (a2)) rfl rfl rfl rfl 10 rfl ?_
    refine q_cIz (w_PI M) rfl (.invokevirtual 318) rfl rfl rfl 217 rfl [.ref 15, .int (a2)] [] rfl (k11_isOrphan_15 a2 M) (fun v3 z4 => ?_)
    refine q_br (w_PI M) (.ifCond .eq 60) 3 rfl rfl rfl (v3 = 0) 73 16 [] rfl (fun _ => ?_) (fun _ => ?_)
    · refine q_const (.iconst 0) 1 rfl rfl rfl 74 (0) _ rfl cd_kj0 ?_
      exact r_retZ rfl rfl (by decide)
    · refine r_ld (.aload_n 0) 1 2 0 (.ref 15) rfl rfl rfl rfl 17 rfl ?_
      refine r_go (.getfield 69) 3 rfl rfl rfl 20 [.ref 76] rfl ?_
      refine r_ld (.iload_n 1) 1 0 1 (.int (a1)) rfl rfl rfl rfl 21 rfl ?_
      refine q_iald (w_PI M) rfl rfl 76 90 rfl ?_
      refine q_br (w_PI M) (.ifCond .ge 51) 3 rfl rfl rfl (0 ≤ M.1 76 a1.toNatClampNeg) 73 25 [] rfl (fun _ => ?_) (fun _ => ?_)
      · refine q_const (.iconst 0) 1 rfl rfl rfl 74 (0) _ rfl cd_kj0 ?_
        exact r_retZ rfl rfl (by decide)
      · refine r_ld (.aload_n 0) 1 2 0 (.ref 15) rfl rfl rfl rfl 26 rfl ?_
        refine r_ld (.aload_n 0) 1 2 0 (.ref 15) rfl rfl rfl rfl 27 rfl ?_
        refine r_ld (.iload_n 1) 1 0 1 (.int (a1)) rfl rfl rfl rfl 28 rfl ?_
        refine q_cI (w_PI M) rfl (.invokevirtual 321) rfl rfl rfl 218 [.ref 15, .int (a1)] [.ref 15] rfl (k11_loneOf_15 a1 M) (fun v5 => ?_)
        refine q_cI (w_PI M) rfl (.invokevirtual 258) rfl rfl rfl 190 [.ref 15, .int (v5)] [] rfl (k11_parityOf_15 v5 M) (fun v6 => ?_)
        refine r_ld (.aload_n 0) 1 2 0 (.ref 15) rfl rfl rfl rfl 35 rfl ?_
        refine r_ld (.aload_n 0) 1 2 0 (.ref 15) rfl rfl rfl rfl 36 rfl ?_
        refine r_ld (.iload_n 2) 1 0 2 (.int (a2)) rfl rfl rfl rfl 37 rfl ?_
        refine q_cI (w_PI M) rfl (.invokevirtual 321) rfl rfl rfl 218 [.ref 15, .int (a2)] [.ref 15, .int (v6)] rfl (k11_loneOf_15 a2 M) (fun v7 => ?_)
        refine q_cI (w_PI M) rfl (.invokevirtual 258) rfl rfl rfl 190 [.ref 15, .int (v7)] [.int (v6)] rfl (k11_parityOf_15 v7 M) (fun v8 => ?_)
        refine q_br (w_PI M) (.if_icmp .eq 30) 3 rfl rfl rfl (v6 = v8) 73 46 [] rfl (fun _ => ?_) (fun _ => ?_)
        · refine q_const (.iconst 0) 1 rfl rfl rfl 74 (0) _ rfl cd_kj0 ?_
          exact r_retZ rfl rfl (by decide)
        · refine r_ld (.aload_n 0) 1 2 0 (.ref 15) rfl rfl rfl rfl 47 rfl ?_
          refine r_ld (.aload_n 0) 1 2 0 (.ref 15) rfl rfl rfl rfl 48 rfl ?_
          refine r_ld (.iload_n 1) 1 0 1 (.int (a1)) rfl rfl rfl rfl 49 rfl ?_
          refine q_cI (w_PI M) rfl (.invokevirtual 321) rfl rfl rfl 218 [.ref 15, .int (a1)] [.ref 15] rfl (k11_loneOf_15 a1 M) (fun v9 => ?_)
          refine r_ld (.aload_n 0) 1 2 0 (.ref 15) rfl rfl rfl rfl 53 rfl ?_
          refine r_ld (.iload_n 2) 1 0 2 (.int (a2)) rfl rfl rfl rfl 54 rfl ?_
          refine q_cI (w_PI M) rfl (.invokevirtual 321) rfl rfl rfl 218 [.ref 15, .int (a2)] [.int (v9), .ref 15] rfl (k11_loneOf_15 a2 M) (fun v10 => ?_)
          refine q_cI (w_PI M) rfl (.invokevirtual 261) rfl rfl rfl 202 [.ref 15, .int (v9), .int (v10)] [] rfl (k11_apartOf_15 v9 v10 M) (fun v11 => ?_)
          refine r_ld (.aload_n 0) 1 2 0 (.ref 15) rfl rfl rfl rfl 61 rfl ?_
          refine r_go (.getfield 26) 3 rfl rfl rfl 64 [.ref 62, .int (v11)] rfl ?_
          refine q_const (.iconst 3) 1 rfl rfl rfl 65 (3) _ rfl cd_kj3 ?_
          refine q_iald (w_PI M) rfl rfl 62 10 rfl ?_
          refine q_br (w_PI M) (.if_icmp .gt 7) 3 rfl rfl rfl (M.1 62 (3 : Int32).toNatClampNeg < v11) 73 69 [] rfl (fun _ => ?_) (fun _ => ?_)
          · refine q_const (.iconst 0) 1 rfl rfl rfl 74 (0) _ rfl cd_kj0 ?_
            exact r_retZ rfl rfl (by decide)
          · refine q_const (.iconst 1) 1 rfl rfl rfl 70 (1) _ rfl cd_kj1 ?_
            refine r_go (.goto 4) 3 rfl rfl rfl 74 [.int (1)] rfl ?_
            exact r_retZ rfl rfl (by decide)
def f11_laysFound_15_L316 (r115 : Int32 → cd_M → Option cd_M) (a1 : Int32) (M : cd_M) : Option cd_M := cd_lt (a1 + (1)) fun x9 => r115 x9 M
set_option maxRecDepth 8000 in
theorem k11_laysFound_15_L316 (r115 : Int32 → cd_M → Option cd_M) (h115 : ∀ (a1 : Int32) (M : cd_M), cd_R 221 115 [some (.ref 15), some (.int (a1)), none, none, none, none] [] M (w_PV (r115 a1 M))) (a1 : Int32) (M : cd_M) : cd_R 221 316 [some (.ref 15), some (.int (a1)), none, none, none, none] [] M (w_PV (f11_laysFound_15_L316 r115 a1 M)) := by
  unfold f11_laysFound_15_L316
  refine q_inc w_PV 1 (1) (a1) rfl rfl rfl 319 rfl (1) cd_kj1 (fun x9 => [some (.ref 15), some (.int (x9)), none, none, none, none]) (fun _ => rfl) (fun x9 => ?_)
  refine r_go (.goto (-204)) 3 rfl rfl rfl 115 [] rfl ?_
  exact r_w (h115 x9 M) (cd_le_s (cd_le_s (cd_le_n (cd_le_n (cd_le_n (cd_le_n cd_le_0))))))
def f11_laysFound_15_L279 (r115 : Int32 → cd_M → Option cd_M) (a1 : Int32) (a3 : Int32) (a4 : Int32) (M : cd_M) : Option cd_M := if cd_in (2 * (M.1 15 44)) 180 = true then (cd_lt (cd_wI M 78 (2 * (M.1 15 44) : Int32).toNatClampNeg a3) fun M6 => if cd_in ((2 * (M6.1 15 44)) + 1) 180 = true then (cd_lt (cd_wI M6 78 ((2 * (M6.1 15 44)) + 1 : Int32).toNatClampNeg a4) fun M7 => cd_lt (cd_wI M7 15 44 ((M7.1 15 44) + 1)) fun M8 => f11_laysFound_15_L316 r115 a1 M8) else none) else none
set_option maxRecDepth 8000 in
theorem k11_laysFound_15_L279 (r115 : Int32 → cd_M → Option cd_M) (h115 : ∀ (a1 : Int32) (M : cd_M), cd_R 221 115 [some (.ref 15), some (.int (a1)), none, none, none, none] [] M (w_PV (r115 a1 M))) (a1 : Int32) (a3 : Int32) (a4 : Int32) (M : cd_M) : cd_R 221 279 [some (.ref 15), some (.int (a1)), none, some (.int (a3)), some (.int (a4)), none] [] M (w_PV (f11_laysFound_15_L279 r115 a1 a3 a4 M)) := by
  unfold f11_laysFound_15_L279
  refine r_ld (.aload_n 0) 1 2 0 (.ref 15) rfl rfl rfl rfl 280 rfl ?_
  refine r_go (.getfield 75) 3 rfl rfl rfl 283 [.ref 78] rfl ?_
  refine q_const (.iconst 2) 1 rfl rfl rfl 284 (2) _ rfl cd_kj2 ?_
  refine r_ld (.aload_n 0) 1 2 0 (.ref 15) rfl rfl rfl rfl 285 rfl ?_
  refine r_go (.getfield 330) 3 rfl rfl rfl 288 [.int (M.1 15 44), .int (2), .ref 78] rfl ?_
  refine r_go (.imul) 1 rfl rfl rfl 289 [.int (2 * (M.1 15 44)), .ref 78] rfl ?_
  refine r_ld (.iload_n 3) 1 0 3 (.int (a3)) rfl rfl rfl rfl 290 rfl ?_
  refine q_iast w_PV rfl rfl 78 180 rfl (fun M6 => ?_)
  refine r_ld (.aload_n 0) 1 2 0 (.ref 15) rfl rfl rfl rfl 292 rfl ?_
  refine r_go (.getfield 75) 3 rfl rfl rfl 295 [.ref 78] rfl ?_
  refine q_const (.iconst 2) 1 rfl rfl rfl 296 (2) _ rfl cd_kj2 ?_
  refine r_ld (.aload_n 0) 1 2 0 (.ref 15) rfl rfl rfl rfl 297 rfl ?_
  refine r_go (.getfield 330) 3 rfl rfl rfl 300 [.int (M6.1 15 44), .int (2), .ref 78] rfl ?_
  refine r_go (.imul) 1 rfl rfl rfl 301 [.int (2 * (M6.1 15 44)), .ref 78] rfl ?_
  refine q_const (.iconst 1) 1 rfl rfl rfl 302 (1) _ rfl cd_kj1 ?_
  refine r_go (.iadd) 1 rfl rfl rfl 303 [.int ((2 * (M6.1 15 44)) + 1), .ref 78] rfl ?_
  refine r_ld (.iload 4) 2 0 4 (.int (a4)) rfl rfl rfl rfl 305 rfl ?_
  refine q_iast w_PV rfl rfl 78 180 rfl (fun M7 => ?_)
  refine r_ld (.aload_n 0) 1 2 0 (.ref 15) rfl rfl rfl rfl 307 rfl ?_
  refine r_go (.dup) 1 rfl rfl rfl 308 [.ref 15, .ref 15] rfl ?_
  refine r_go (.getfield 330) 3 rfl rfl rfl 311 [.int (M7.1 15 44), .ref 15] rfl ?_
  refine q_const (.iconst 1) 1 rfl rfl rfl 312 (1) _ rfl cd_kj1 ?_
  refine r_go (.iadd) 1 rfl rfl rfl 313 [.int ((M7.1 15 44) + 1), .ref 15] rfl ?_
  refine q_wr w_PV (.putfield 330) 3 rfl rfl rfl 316 [] (cd_wI M7 15 44 ((M7.1 15 44) + 1)) rfl (fun M8 => ?_)
  exact r_w (k11_laysFound_15_L316 r115 h115 a1 M8) (cd_le_s (cd_le_s (cd_le_n (cd_le_n (cd_le_n (cd_le_n cd_le_0))))))
def f11_laysFound_15_L277 (r115 : Int32 → cd_M → Option cd_M) (a1 : Int32) (a3 : Int32) (s0 : Int32) (M : cd_M) : Option cd_M := f11_laysFound_15_L279 r115 a1 a3 s0 M
set_option maxRecDepth 8000 in
theorem k11_laysFound_15_L277 (r115 : Int32 → cd_M → Option cd_M) (h115 : ∀ (a1 : Int32) (M : cd_M), cd_R 221 115 [some (.ref 15), some (.int (a1)), none, none, none, none] [] M (w_PV (r115 a1 M))) (a1 : Int32) (a3 : Int32) (s0 : Int32) (M : cd_M) : cd_R 221 277 [some (.ref 15), some (.int (a1)), none, some (.int (a3)), none, none] [.int (s0)] M (w_PV (f11_laysFound_15_L277 r115 a1 a3 s0 M)) := by
  unfold f11_laysFound_15_L277
  refine r_st (.istore 4) 2 0 4 rfl rfl rfl 279 rfl [some (.ref 15), some (.int (a1)), none, some (.int (a3)), some (.int (s0)), none] rfl ?_
  exact r_w (k11_laysFound_15_L279 r115 h115 a1 a3 s0 M) (cd_le_s (cd_le_s (cd_le_n (cd_le_s (cd_le_s (cd_le_n cd_le_0))))))
def f11_laysFound_15_L261 (r115 : Int32 → cd_M → Option cd_M) (a1 : Int32) (a2 : Int32) (a5 : Int32) (s0 : Int32) (M : cd_M) : Option cd_M := (f11_parityOf_15 a2 M).bind fun v12 => if v12 = 1 then (f11_laysFound_15_L277 r115 a1 s0 a2 M) else (f11_laysFound_15_L277 r115 a1 s0 a5 M)
set_option maxRecDepth 8000 in
theorem k11_laysFound_15_L261 (r115 : Int32 → cd_M → Option cd_M) (h115 : ∀ (a1 : Int32) (M : cd_M), cd_R 221 115 [some (.ref 15), some (.int (a1)), none, none, none, none] [] M (w_PV (r115 a1 M))) (a1 : Int32) (a2 : Int32) (a5 : Int32) (s0 : Int32) (M : cd_M) : cd_R 221 261 [some (.ref 15), some (.int (a1)), some (.int (a2)), none, none, some (.int (a5))] [.int (s0)] M (w_PV (f11_laysFound_15_L261 r115 a1 a2 a5 s0 M)) := by
  unfold f11_laysFound_15_L261
  refine r_st (.istore_n 3) 1 0 3 rfl rfl rfl 262 rfl [some (.ref 15), some (.int (a1)), some (.int (a2)), some (.int (s0)), none, some (.int (a5))] rfl ?_
  refine r_ld (.aload_n 0) 1 2 0 (.ref 15) rfl rfl rfl rfl 263 rfl ?_
  refine r_ld (.iload_n 2) 1 0 2 (.int (a2)) rfl rfl rfl rfl 264 rfl ?_
  refine q_cI w_PV rfl (.invokevirtual 258) rfl rfl rfl 190 [.ref 15, .int (a2)] [] rfl (k11_parityOf_15 a2 M) (fun v12 => ?_)
  refine q_const (.iconst 1) 1 rfl rfl rfl 268 (1) _ rfl cd_kj1 ?_
  refine q_br w_PV (.if_icmp .ne 7) 3 rfl rfl rfl (v12 = 1) 271 275 [] rfl (fun _ => ?_) (fun _ => ?_)
  · refine r_ld (.iload_n 2) 1 0 2 (.int (a2)) rfl rfl rfl rfl 272 rfl ?_
    refine r_go (.goto 5) 3 rfl rfl rfl 277 [.int (a2)] rfl ?_
    exact r_w (k11_laysFound_15_L277 r115 h115 a1 s0 a2 M) (cd_le_s (cd_le_s (cd_le_n (cd_le_s (cd_le_n (cd_le_n cd_le_0))))))
  · refine r_ld (.iload 5) 2 0 5 (.int (a5)) rfl rfl rfl rfl 277 rfl ?_
    exact r_w (k11_laysFound_15_L277 r115 h115 a1 s0 a5 M) (cd_le_s (cd_le_s (cd_le_n (cd_le_s (cd_le_n (cd_le_n cd_le_0))))))
def f11_laysFound_15_L226 (r115 : Int32 → cd_M → Option cd_M) (a1 : Int32) (a2 : Int32) (a3 : Int32) (s0 : Int32) (M : cd_M) : Option cd_M := if cd_in a1 90 = true then (if M.1 76 a1.toNatClampNeg ≤ a1 then (f11_laysFound_15_L279 r115 a1 a3 s0 M) else ((f11_loneOf_15 (a1 + 1) M).bind fun v10 => (f11_parityOf_15 a2 M).bind fun v11 => if v11 = 0 then (f11_laysFound_15_L261 r115 a1 a2 v10 a2 M) else (f11_laysFound_15_L261 r115 a1 a2 v10 v10 M))) else none
set_option maxRecDepth 8000 in
theorem k11_laysFound_15_L226 (r115 : Int32 → cd_M → Option cd_M) (h115 : ∀ (a1 : Int32) (M : cd_M), cd_R 221 115 [some (.ref 15), some (.int (a1)), none, none, none, none] [] M (w_PV (r115 a1 M))) (a1 : Int32) (a2 : Int32) (a3 : Int32) (s0 : Int32) (M : cd_M) : cd_R 221 226 [some (.ref 15), some (.int (a1)), some (.int (a2)), some (.int (a3)), none, none] [.int (s0)] M (w_PV (f11_laysFound_15_L226 r115 a1 a2 a3 s0 M)) := by
  unfold f11_laysFound_15_L226
  refine r_st (.istore 4) 2 0 4 rfl rfl rfl 228 rfl [some (.ref 15), some (.int (a1)), some (.int (a2)), some (.int (a3)), some (.int (s0)), none] rfl ?_
  refine r_ld (.aload_n 0) 1 2 0 (.ref 15) rfl rfl rfl rfl 229 rfl ?_
  refine r_go (.getfield 69) 3 rfl rfl rfl 232 [.ref 76] rfl ?_
  refine r_ld (.iload_n 1) 1 0 1 (.int (a1)) rfl rfl rfl rfl 233 rfl ?_
  refine q_iald w_PV rfl rfl 76 90 rfl ?_
  refine r_ld (.iload_n 1) 1 0 1 (.int (a1)) rfl rfl rfl rfl 235 rfl ?_
  refine q_br w_PV (.if_icmp .le 44) 3 rfl rfl rfl (M.1 76 a1.toNatClampNeg ≤ a1) 279 238 [] rfl (fun _ => ?_) (fun _ => ?_)
  · exact r_w (k11_laysFound_15_L279 r115 h115 a1 a3 s0 M) (cd_le_s (cd_le_s (cd_le_n (cd_le_s (cd_le_s (cd_le_n cd_le_0))))))
  · refine r_ld (.aload_n 0) 1 2 0 (.ref 15) rfl rfl rfl rfl 239 rfl ?_
    refine r_ld (.iload_n 1) 1 0 1 (.int (a1)) rfl rfl rfl rfl 240 rfl ?_
    refine q_const (.iconst 1) 1 rfl rfl rfl 241 (1) _ rfl cd_kj1 ?_
    refine r_go (.iadd) 1 rfl rfl rfl 242 [.int (a1 + 1), .ref 15] rfl ?_
    refine q_cI w_PV rfl (.invokevirtual 321) rfl rfl rfl 218 [.ref 15, .int (a1 + 1)] [] rfl (k11_loneOf_15 (a1 + 1) M) (fun v10 => ?_)
    refine r_st (.istore 5) 2 0 5 rfl rfl rfl 247 rfl [some (.ref 15), some (.int (a1)), some (.int (a2)), some (.int (a3)), some (.int (s0)), some (.int (v10))] rfl ?_
    refine r_ld (.aload_n 0) 1 2 0 (.ref 15) rfl rfl rfl rfl 248 rfl ?_
    refine r_ld (.iload_n 2) 1 0 2 (.int (a2)) rfl rfl rfl rfl 249 rfl ?_
    refine q_cI w_PV rfl (.invokevirtual 258) rfl rfl rfl 190 [.ref 15, .int (a2)] [] rfl (k11_parityOf_15 a2 M) (fun v11 => ?_)
    refine q_br w_PV (.ifCond .ne 7) 3 rfl rfl rfl (v11 = 0) 255 259 [] rfl (fun _ => ?_) (fun _ => ?_)
    · refine r_ld (.iload_n 2) 1 0 2 (.int (a2)) rfl rfl rfl rfl 256 rfl ?_
      refine r_go (.goto 5) 3 rfl rfl rfl 261 [.int (a2)] rfl ?_
      exact r_w (k11_laysFound_15_L261 r115 h115 a1 a2 v10 a2 M) (cd_le_s (cd_le_s (cd_le_s (cd_le_n (cd_le_n (cd_le_s cd_le_0))))))
    · refine r_ld (.iload 5) 2 0 5 (.int (v10)) rfl rfl rfl rfl 261 rfl ?_
      exact r_w (k11_laysFound_15_L261 r115 h115 a1 a2 v10 v10 M) (cd_le_s (cd_le_s (cd_le_s (cd_le_n (cd_le_n (cd_le_s cd_le_0))))))
def f11_laysFound_15_L198 (r115 : Int32 → cd_M → Option cd_M) (a1 : Int32) (a2 : Int32) (s0 : Int32) (M : cd_M) : Option cd_M := if cd_in ((2 * a1) + 1) 180 = true then (if M.1 75 ((2 * a1) + 1 : Int32).toNatClampNeg < 0 then (f11_laysFound_15_L226 r115 a1 a2 s0 a2 M) else (if cd_in ((2 * a1) + 1) 180 = true then (f11_laysFound_15_L226 r115 a1 a2 s0 (M.1 75 ((2 * a1) + 1 : Int32).toNatClampNeg) M) else none)) else none
set_option maxRecDepth 8000 in
theorem k11_laysFound_15_L198 (r115 : Int32 → cd_M → Option cd_M) (h115 : ∀ (a1 : Int32) (M : cd_M), cd_R 221 115 [some (.ref 15), some (.int (a1)), none, none, none, none] [] M (w_PV (r115 a1 M))) (a1 : Int32) (a2 : Int32) (s0 : Int32) (M : cd_M) : cd_R 221 198 [some (.ref 15), some (.int (a1)), some (.int (a2)), none, none, none] [.int (s0)] M (w_PV (f11_laysFound_15_L198 r115 a1 a2 s0 M)) := by
  unfold f11_laysFound_15_L198
  refine r_st (.istore_n 3) 1 0 3 rfl rfl rfl 199 rfl [some (.ref 15), some (.int (a1)), some (.int (a2)), some (.int (s0)), none, none] rfl ?_
  refine r_ld (.aload_n 0) 1 2 0 (.ref 15) rfl rfl rfl rfl 200 rfl ?_
  refine r_go (.getfield 66) 3 rfl rfl rfl 203 [.ref 75] rfl ?_
  refine q_const (.iconst 2) 1 rfl rfl rfl 204 (2) _ rfl cd_kj2 ?_
  refine r_ld (.iload_n 1) 1 0 1 (.int (a1)) rfl rfl rfl rfl 205 rfl ?_
  refine r_go (.imul) 1 rfl rfl rfl 206 [.int (2 * a1), .ref 75] rfl ?_
  refine q_const (.iconst 1) 1 rfl rfl rfl 207 (1) _ rfl cd_kj1 ?_
  refine r_go (.iadd) 1 rfl rfl rfl 208 [.int ((2 * a1) + 1), .ref 75] rfl ?_
  refine q_iald w_PV rfl rfl 75 180 rfl ?_
  refine q_br w_PV (.ifCond .lt 16) 3 rfl rfl rfl (M.1 75 ((2 * a1) + 1 : Int32).toNatClampNeg < 0) 225 212 [] rfl (fun _ => ?_) (fun _ => ?_)
  · refine r_ld (.iload_n 2) 1 0 2 (.int (a2)) rfl rfl rfl rfl 226 rfl ?_
    exact r_w (k11_laysFound_15_L226 r115 h115 a1 a2 s0 a2 M) (cd_le_s (cd_le_s (cd_le_s (cd_le_s (cd_le_n (cd_le_n cd_le_0))))))
  · refine r_ld (.aload_n 0) 1 2 0 (.ref 15) rfl rfl rfl rfl 213 rfl ?_
    refine r_go (.getfield 66) 3 rfl rfl rfl 216 [.ref 75] rfl ?_
    refine q_const (.iconst 2) 1 rfl rfl rfl 217 (2) _ rfl cd_kj2 ?_
    refine r_ld (.iload_n 1) 1 0 1 (.int (a1)) rfl rfl rfl rfl 218 rfl ?_
    refine r_go (.imul) 1 rfl rfl rfl 219 [.int (2 * a1), .ref 75] rfl ?_
    refine q_const (.iconst 1) 1 rfl rfl rfl 220 (1) _ rfl cd_kj1 ?_
    refine r_go (.iadd) 1 rfl rfl rfl 221 [.int ((2 * a1) + 1), .ref 75] rfl ?_
    refine q_iald w_PV rfl rfl 75 180 rfl ?_
    refine r_go (.goto 4) 3 rfl rfl rfl 226 [.int (M.1 75 ((2 * a1) + 1 : Int32).toNatClampNeg)] rfl ?_
    exact r_w (k11_laysFound_15_L226 r115 h115 a1 a2 s0 (M.1 75 ((2 * a1) + 1 : Int32).toNatClampNeg) M) (cd_le_s (cd_le_s (cd_le_s (cd_le_s (cd_le_n (cd_le_n cd_le_0))))))
def f11_laysFound_15_L159 (r115 : Int32 → cd_M → Option cd_M) (a1 : Int32) (M : cd_M) : Option cd_M := if cd_in a1 90 = true then (cd_lt (cd_wI M 77 a1.toNatClampNeg (M.1 15 44)) fun M4 => (f11_loneOf_15 a1 M4).bind fun v5 => if cd_in (2 * a1) 180 = true then (if M4.1 75 (2 * a1 : Int32).toNatClampNeg < 0 then (f11_laysFound_15_L198 r115 a1 v5 v5 M4) else (if cd_in (2 * a1) 180 = true then (f11_laysFound_15_L198 r115 a1 v5 (M4.1 75 (2 * a1 : Int32).toNatClampNeg) M4) else none)) else none) else none
set_option maxRecDepth 8000 in
theorem k11_laysFound_15_L159 (r115 : Int32 → cd_M → Option cd_M) (h115 : ∀ (a1 : Int32) (M : cd_M), cd_R 221 115 [some (.ref 15), some (.int (a1)), none, none, none, none] [] M (w_PV (r115 a1 M))) (a1 : Int32) (M : cd_M) : cd_R 221 159 [some (.ref 15), some (.int (a1)), none, none, none, none] [] M (w_PV (f11_laysFound_15_L159 r115 a1 M)) := by
  unfold f11_laysFound_15_L159
  refine r_ld (.aload_n 0) 1 2 0 (.ref 15) rfl rfl rfl rfl 160 rfl ?_
  refine r_go (.getfield 72) 3 rfl rfl rfl 163 [.ref 77] rfl ?_
  refine r_ld (.iload_n 1) 1 0 1 (.int (a1)) rfl rfl rfl rfl 164 rfl ?_
  refine r_ld (.aload_n 0) 1 2 0 (.ref 15) rfl rfl rfl rfl 165 rfl ?_
  refine r_go (.getfield 330) 3 rfl rfl rfl 168 [.int (M.1 15 44), .int (a1), .ref 77] rfl ?_
  refine q_iast w_PV rfl rfl 77 90 rfl (fun M4 => ?_)
  refine r_ld (.aload_n 0) 1 2 0 (.ref 15) rfl rfl rfl rfl 170 rfl ?_
  refine r_ld (.iload_n 1) 1 0 1 (.int (a1)) rfl rfl rfl rfl 171 rfl ?_
  refine q_cI w_PV rfl (.invokevirtual 321) rfl rfl rfl 218 [.ref 15, .int (a1)] [] rfl (k11_loneOf_15 a1 M4) (fun v5 => ?_)
  refine r_st (.istore_n 2) 1 0 2 rfl rfl rfl 175 rfl [some (.ref 15), some (.int (a1)), some (.int (v5)), none, none, none] rfl ?_
  refine r_ld (.aload_n 0) 1 2 0 (.ref 15) rfl rfl rfl rfl 176 rfl ?_
  refine r_go (.getfield 66) 3 rfl rfl rfl 179 [.ref 75] rfl ?_
  refine q_const (.iconst 2) 1 rfl rfl rfl 180 (2) _ rfl cd_kj2 ?_
  refine r_ld (.iload_n 1) 1 0 1 (.int (a1)) rfl rfl rfl rfl 181 rfl ?_
  refine r_go (.imul) 1 rfl rfl rfl 182 [.int (2 * a1), .ref 75] rfl ?_
  refine q_iald w_PV rfl rfl 75 180 rfl ?_
  refine q_br w_PV (.ifCond .lt 14) 3 rfl rfl rfl (M4.1 75 (2 * a1 : Int32).toNatClampNeg < 0) 197 186 [] rfl (fun _ => ?_) (fun _ => ?_)
  · refine r_ld (.iload_n 2) 1 0 2 (.int (v5)) rfl rfl rfl rfl 198 rfl ?_
    exact r_w (k11_laysFound_15_L198 r115 h115 a1 v5 v5 M4) (cd_le_s (cd_le_s (cd_le_s (cd_le_n (cd_le_n (cd_le_n cd_le_0))))))
  · refine r_ld (.aload_n 0) 1 2 0 (.ref 15) rfl rfl rfl rfl 187 rfl ?_
    refine r_go (.getfield 66) 3 rfl rfl rfl 190 [.ref 75] rfl ?_
    refine q_const (.iconst 2) 1 rfl rfl rfl 191 (2) _ rfl cd_kj2 ?_
    refine r_ld (.iload_n 1) 1 0 1 (.int (a1)) rfl rfl rfl rfl 192 rfl ?_
    refine r_go (.imul) 1 rfl rfl rfl 193 [.int (2 * a1), .ref 75] rfl ?_
    refine q_iald w_PV rfl rfl 75 180 rfl ?_
    refine r_go (.goto 4) 3 rfl rfl rfl 198 [.int (M4.1 75 (2 * a1 : Int32).toNatClampNeg)] rfl ?_
    exact r_w (k11_laysFound_15_L198 r115 h115 a1 v5 (M4.1 75 (2 * a1 : Int32).toNatClampNeg) M4) (cd_le_s (cd_le_s (cd_le_s (cd_le_n (cd_le_n (cd_le_n cd_le_0))))))
def f11_laysFound_15_L115 : Nat → Int32 → cd_M → Option cd_M
  | 0, _, _ => none
  | n + 1, a1, M => if M.1 15 37 ≤ a1 then (some M) else (if cd_in a1 90 = true then (if M.1 76 a1.toNatClampNeg < 0 then (f11_laysFound_15_L159 (f11_laysFound_15_L115 n) a1 M) else (if cd_in a1 90 = true then (if a1 ≤ M.1 76 a1.toNatClampNeg then (f11_laysFound_15_L159 (f11_laysFound_15_L115 n) a1 M) else (if cd_in (a1 - 1) 90 = true then (if cd_in a1 90 = true then (cd_lt (cd_wI M 77 a1.toNatClampNeg (M.1 77 (a1 - 1 : Int32).toNatClampNeg)) fun M13 => f11_laysFound_15_L316 (f11_laysFound_15_L115 n) a1 M13) else none) else none)) else none)) else none)
set_option maxRecDepth 8000 in
theorem k11_laysFound_15_L115 : ∀ (n : Nat) (a1 : Int32) (M : cd_M), cd_R 221 115 [some (.ref 15), some (.int (a1)), none, none, none, none] [] M (w_PV (f11_laysFound_15_L115 n a1 M)) := by
  intro n
  induction n with
  | zero =>
    intro a1 M
    exact q_none w_PV rfl
  | succ n ih =>
    intro a1 M
    rw [f11_laysFound_15_L115]
    refine r_ld (.iload_n 1) 1 0 1 (.int (a1)) rfl rfl rfl rfl 116 rfl ?_
    refine r_ld (.aload_n 0) 1 2 0 (.ref 15) rfl rfl rfl rfl 117 rfl ?_
    refine r_go (.getfield 312) 3 rfl rfl rfl 120 [.int (M.1 15 37), .int (a1)] rfl ?_
    refine q_br w_PV (.if_icmp .ge 202) 3 rfl rfl rfl (M.1 15 37 ≤ a1) 322 123 [] rfl (fun _ => ?_) (fun _ => ?_)
    · exact r_ret .return_ 1 rfl rfl rfl _ rfl
    · refine r_ld (.aload_n 0) 1 2 0 (.ref 15) rfl rfl rfl rfl 124 rfl ?_
      refine r_go (.getfield 69) 3 rfl rfl rfl 127 [.ref 76] rfl ?_
      refine r_ld (.iload_n 1) 1 0 1 (.int (a1)) rfl rfl rfl rfl 128 rfl ?_
      refine q_iald w_PV rfl rfl 76 90 rfl ?_
      refine q_br w_PV (.ifCond .lt 30) 3 rfl rfl rfl (M.1 76 a1.toNatClampNeg < 0) 159 132 [] rfl (fun _ => ?_) (fun _ => ?_)
      · exact r_w (k11_laysFound_15_L159 (f11_laysFound_15_L115 n) ih a1 M) (cd_le_s (cd_le_s (cd_le_n (cd_le_n (cd_le_n (cd_le_n cd_le_0))))))
      · refine r_ld (.aload_n 0) 1 2 0 (.ref 15) rfl rfl rfl rfl 133 rfl ?_
        refine r_go (.getfield 69) 3 rfl rfl rfl 136 [.ref 76] rfl ?_
        refine r_ld (.iload_n 1) 1 0 1 (.int (a1)) rfl rfl rfl rfl 137 rfl ?_
        refine q_iald w_PV rfl rfl 76 90 rfl ?_
        refine r_ld (.iload_n 1) 1 0 1 (.int (a1)) rfl rfl rfl rfl 139 rfl ?_
        refine q_br w_PV (.if_icmp .ge 20) 3 rfl rfl rfl (a1 ≤ M.1 76 a1.toNatClampNeg) 159 142 [] rfl (fun _ => ?_) (fun _ => ?_)
        · exact r_w (k11_laysFound_15_L159 (f11_laysFound_15_L115 n) ih a1 M) (cd_le_s (cd_le_s (cd_le_n (cd_le_n (cd_le_n (cd_le_n cd_le_0))))))
        · refine r_ld (.aload_n 0) 1 2 0 (.ref 15) rfl rfl rfl rfl 143 rfl ?_
          refine r_go (.getfield 72) 3 rfl rfl rfl 146 [.ref 77] rfl ?_
          refine r_ld (.iload_n 1) 1 0 1 (.int (a1)) rfl rfl rfl rfl 147 rfl ?_
          refine r_ld (.aload_n 0) 1 2 0 (.ref 15) rfl rfl rfl rfl 148 rfl ?_
          refine r_go (.getfield 72) 3 rfl rfl rfl 151 [.ref 77, .int (a1), .ref 77] rfl ?_
          refine r_ld (.iload_n 1) 1 0 1 (.int (a1)) rfl rfl rfl rfl 152 rfl ?_
          refine q_const (.iconst 1) 1 rfl rfl rfl 153 (1) _ rfl cd_kj1 ?_
          refine r_go (.isub) 1 rfl rfl rfl 154 [.int (a1 - 1), .ref 77, .int (a1), .ref 77] rfl ?_
          refine q_iald w_PV rfl rfl 77 90 rfl ?_
          refine q_iast w_PV rfl rfl 77 90 rfl (fun M13 => ?_)
          refine r_go (.goto 160) 3 rfl rfl rfl 316 [] rfl ?_
          exact r_w (k11_laysFound_15_L316 (f11_laysFound_15_L115 n) ih a1 M13) (cd_le_s (cd_le_s (cd_le_n (cd_le_n (cd_le_n (cd_le_n cd_le_0))))))
def f11_laysFound_15_L107 (r55 : Int32 → cd_M → Option cd_M) (a1 : Int32) (M : cd_M) : Option cd_M := cd_lt (a1 + (1)) fun x16 => r55 x16 M
set_option maxRecDepth 8000 in
theorem k11_laysFound_15_L107 (r55 : Int32 → cd_M → Option cd_M) (h55 : ∀ (a1 : Int32) (M : cd_M), cd_R 221 55 [some (.ref 15), some (.int (a1)), none, none, none, none] [] M (w_PV (r55 a1 M))) (a1 : Int32) (M : cd_M) : cd_R 221 107 [some (.ref 15), some (.int (a1)), none, none, none, none] [] M (w_PV (f11_laysFound_15_L107 r55 a1 M)) := by
  unfold f11_laysFound_15_L107
  refine q_inc w_PV 1 (1) (a1) rfl rfl rfl 110 rfl (1) cd_kj1 (fun x16 => [some (.ref 15), some (.int (x16)), none, none, none, none]) (fun _ => rfl) (fun x16 => ?_)
  refine r_go (.goto (-55)) 3 rfl rfl rfl 55 [] rfl ?_
  exact r_w (h55 x16 M) (cd_le_s (cd_le_s (cd_le_n (cd_le_n (cd_le_n (cd_le_n cd_le_0))))))
def f11_laysFound_15_L55 : Nat → Int32 → cd_M → Option cd_M
  | 0, _, _ => none
  | n + 1, a1, M => if M.1 15 37 ≤ a1 + 1 then (f11_laysFound_15_L115 cd_fu 0 M) else ((f11_canMate_15 a1 (a1 + 1) M).bind fun v14 => if v14 = 0 then (f11_laysFound_15_L107 (f11_laysFound_15_L55 n) a1 M) else (if cd_in a1 90 = true then (cd_lt (cd_wI M 76 a1.toNatClampNeg (a1 + 1)) fun M17 => if cd_in (a1 + 1) 90 = true then (cd_lt (cd_wI M17 76 (a1 + 1 : Int32).toNatClampNeg a1) fun M18 => cd_lt (cd_wI M18 15 46 ((M18.1 15 46) + 1)) fun M19 => f11_laysFound_15_L107 (f11_laysFound_15_L55 n) a1 M19) else none) else none))
set_option maxRecDepth 8000 in
theorem k11_laysFound_15_L55 : ∀ (n : Nat) (a1 : Int32) (M : cd_M), cd_R 221 55 [some (.ref 15), some (.int (a1)), none, none, none, none] [] M (w_PV (f11_laysFound_15_L55 n a1 M)) := by
  intro n
  induction n with
  | zero =>
    intro a1 M
    exact q_none w_PV rfl
  | succ n ih =>
    intro a1 M
    rw [f11_laysFound_15_L55]
    refine r_ld (.iload_n 1) 1 0 1 (.int (a1)) rfl rfl rfl rfl 56 rfl ?_
    refine q_const (.iconst 1) 1 rfl rfl rfl 57 (1) _ rfl cd_kj1 ?_
    refine r_go (.iadd) 1 rfl rfl rfl 58 [.int (a1 + 1)] rfl ?_
    refine r_ld (.aload_n 0) 1 2 0 (.ref 15) rfl rfl rfl rfl 59 rfl ?_
    refine r_go (.getfield 312) 3 rfl rfl rfl 62 [.int (M.1 15 37), .int (a1 + 1)] rfl ?_
    refine q_br w_PV (.if_icmp .ge 51) 3 rfl rfl rfl (M.1 15 37 ≤ a1 + 1) 113 65 [] rfl (fun _ => ?_) (fun _ => ?_)
    · refine q_const (.iconst 0) 1 rfl rfl rfl 114 (0) _ rfl cd_kj0 ?_
      refine r_st (.istore_n 1) 1 0 1 rfl rfl rfl 115 rfl [some (.ref 15), some (.int (0)), none, none, none, none] rfl ?_
      exact r_w (k11_laysFound_15_L115 cd_fu 0 M) (cd_le_s (cd_le_s (cd_le_n (cd_le_n (cd_le_n (cd_le_n cd_le_0))))))
    · refine r_ld (.aload_n 0) 1 2 0 (.ref 15) rfl rfl rfl rfl 66 rfl ?_
      refine r_ld (.iload_n 1) 1 0 1 (.int (a1)) rfl rfl rfl rfl 67 rfl ?_
      refine r_ld (.iload_n 1) 1 0 1 (.int (a1)) rfl rfl rfl rfl 68 rfl ?_
      refine q_const (.iconst 1) 1 rfl rfl rfl 69 (1) _ rfl cd_kj1 ?_
      refine r_go (.iadd) 1 rfl rfl rfl 70 [.int (a1 + 1), .int (a1), .ref 15] rfl ?_
      refine q_cIz w_PV rfl (.invokevirtual 333) rfl rfl rfl 220 rfl [.ref 15, .int (a1), .int (a1 + 1)] [] rfl (k11_canMate_15 a1 (a1 + 1) M) (fun v14 z15 => ?_)
      refine q_br w_PV (.ifCond .ne 6) 3 rfl rfl rfl (v14 = 0) 76 79 [] rfl (fun _ => ?_) (fun _ => ?_)
      · refine r_go (.goto 31) 3 rfl rfl rfl 107 [] rfl ?_
        exact r_w (k11_laysFound_15_L107 (f11_laysFound_15_L55 n) ih a1 M) (cd_le_s (cd_le_s (cd_le_n (cd_le_n (cd_le_n (cd_le_n cd_le_0))))))
      · refine r_ld (.aload_n 0) 1 2 0 (.ref 15) rfl rfl rfl rfl 80 rfl ?_
        refine r_go (.getfield 69) 3 rfl rfl rfl 83 [.ref 76] rfl ?_
        refine r_ld (.iload_n 1) 1 0 1 (.int (a1)) rfl rfl rfl rfl 84 rfl ?_
        refine r_ld (.iload_n 1) 1 0 1 (.int (a1)) rfl rfl rfl rfl 85 rfl ?_
        refine q_const (.iconst 1) 1 rfl rfl rfl 86 (1) _ rfl cd_kj1 ?_
        refine r_go (.iadd) 1 rfl rfl rfl 87 [.int (a1 + 1), .int (a1), .ref 76] rfl ?_
        refine q_iast w_PV rfl rfl 76 90 rfl (fun M17 => ?_)
        refine r_ld (.aload_n 0) 1 2 0 (.ref 15) rfl rfl rfl rfl 89 rfl ?_
        refine r_go (.getfield 69) 3 rfl rfl rfl 92 [.ref 76] rfl ?_
        refine r_ld (.iload_n 1) 1 0 1 (.int (a1)) rfl rfl rfl rfl 93 rfl ?_
        refine q_const (.iconst 1) 1 rfl rfl rfl 94 (1) _ rfl cd_kj1 ?_
        refine r_go (.iadd) 1 rfl rfl rfl 95 [.int (a1 + 1), .ref 76] rfl ?_
        refine r_ld (.iload_n 1) 1 0 1 (.int (a1)) rfl rfl rfl rfl 96 rfl ?_
        refine q_iast w_PV rfl rfl 76 90 rfl (fun M18 => ?_)
        refine r_ld (.aload_n 0) 1 2 0 (.ref 15) rfl rfl rfl rfl 98 rfl ?_
        refine r_go (.dup) 1 rfl rfl rfl 99 [.ref 15, .ref 15] rfl ?_
        refine r_go (.getfield 327) 3 rfl rfl rfl 102 [.int (M18.1 15 46), .ref 15] rfl ?_
        refine q_const (.iconst 1) 1 rfl rfl rfl 103 (1) _ rfl cd_kj1 ?_
        refine r_go (.iadd) 1 rfl rfl rfl 104 [.int ((M18.1 15 46) + 1), .ref 15] rfl ?_
        refine q_wr w_PV (.putfield 327) 3 rfl rfl rfl 107 [] (cd_wI M18 15 46 ((M18.1 15 46) + 1)) rfl (fun M19 => ?_)
        exact r_w (k11_laysFound_15_L107 (f11_laysFound_15_L55 n) ih a1 M19) (cd_le_s (cd_le_s (cd_le_n (cd_le_n (cd_le_n (cd_le_n cd_le_0))))))
def f11_laysFound_15_L43 (r17 : Int32 → cd_M → Option cd_M) (a1 : Int32) (s0 : Int32) (s1 : Int32) (M : cd_M) : Option cd_M := cd_lt (cd_wI M 15 45 (s1 + s0)) fun M22 => cd_lt (a1 + (1)) fun x23 => r17 x23 M22
set_option maxRecDepth 8000 in
theorem k11_laysFound_15_L43 (r17 : Int32 → cd_M → Option cd_M) (h17 : ∀ (a1 : Int32) (M : cd_M), cd_R 221 17 [some (.ref 15), some (.int (a1)), none, none, none, none] [] M (w_PV (r17 a1 M))) (a1 : Int32) (s0 : Int32) (s1 : Int32) (M : cd_M) : cd_R 221 43 [some (.ref 15), some (.int (a1)), none, none, none, none] [.int (s0), .int (s1), .ref 15] M (w_PV (f11_laysFound_15_L43 r17 a1 s0 s1 M)) := by
  unfold f11_laysFound_15_L43
  refine r_go (.iadd) 1 rfl rfl rfl 44 [.int (s1 + s0), .ref 15] rfl ?_
  refine q_wr w_PV (.putfield 324) 3 rfl rfl rfl 47 [] (cd_wI M 15 45 (s1 + s0)) rfl (fun M22 => ?_)
  refine q_inc w_PV 1 (1) (a1) rfl rfl rfl 50 rfl (1) cd_kj1 (fun x23 => [some (.ref 15), some (.int (x23)), none, none, none, none]) (fun _ => rfl) (fun x23 => ?_)
  refine r_go (.goto (-33)) 3 rfl rfl rfl 17 [] rfl ?_
  exact r_w (h17 x23 M22) (cd_le_s (cd_le_s (cd_le_n (cd_le_n (cd_le_n (cd_le_n cd_le_0))))))
def f11_laysFound_15_L17 : Nat → Int32 → cd_M → Option cd_M
  | 0, _, _ => none
  | n + 1, a1, M => if M.1 15 37 ≤ a1 then (f11_laysFound_15_L55 cd_fu 0 M) else ((f11_isOrphan_15 a1 M).bind fun v20 => if v20 = 0 then (f11_laysFound_15_L43 (f11_laysFound_15_L17 n) a1 0 (M.1 15 45) M) else (f11_laysFound_15_L43 (f11_laysFound_15_L17 n) a1 1 (M.1 15 45) M))
set_option maxRecDepth 8000 in
theorem k11_laysFound_15_L17 : ∀ (n : Nat) (a1 : Int32) (M : cd_M), cd_R 221 17 [some (.ref 15), some (.int (a1)), none, none, none, none] [] M (w_PV (f11_laysFound_15_L17 n a1 M)) := by
  intro n
  induction n with
  | zero =>
    intro a1 M
    exact q_none w_PV rfl
  | succ n ih =>
    intro a1 M
    rw [f11_laysFound_15_L17]
    refine r_ld (.iload_n 1) 1 0 1 (.int (a1)) rfl rfl rfl rfl 18 rfl ?_
    refine r_ld (.aload_n 0) 1 2 0 (.ref 15) rfl rfl rfl rfl 19 rfl ?_
    refine r_go (.getfield 312) 3 rfl rfl rfl 22 [.int (M.1 15 37), .int (a1)] rfl ?_
    refine q_br w_PV (.if_icmp .ge 31) 3 rfl rfl rfl (M.1 15 37 ≤ a1) 53 25 [] rfl (fun _ => ?_) (fun _ => ?_)
    · refine q_const (.iconst 0) 1 rfl rfl rfl 54 (0) _ rfl cd_kj0 ?_
      refine r_st (.istore_n 1) 1 0 1 rfl rfl rfl 55 rfl [some (.ref 15), some (.int (0)), none, none, none, none] rfl ?_
      exact r_w (k11_laysFound_15_L55 cd_fu 0 M) (cd_le_s (cd_le_s (cd_le_n (cd_le_n (cd_le_n (cd_le_n cd_le_0))))))
    · refine r_ld (.aload_n 0) 1 2 0 (.ref 15) rfl rfl rfl rfl 26 rfl ?_
      refine r_go (.dup) 1 rfl rfl rfl 27 [.ref 15, .ref 15] rfl ?_
      refine r_go (.getfield 324) 3 rfl rfl rfl 30 [.int (M.1 15 45), .ref 15] rfl ?_
      refine r_ld (.aload_n 0) 1 2 0 (.ref 15) rfl rfl rfl rfl 31 rfl ?_
      refine r_ld (.iload_n 1) 1 0 1 (.int (a1)) rfl rfl rfl rfl 32 rfl ?_
      refine q_cIz w_PV rfl (.invokevirtual 318) rfl rfl rfl 217 rfl [.ref 15, .int (a1)] [.int (M.1 15 45), .ref 15] rfl (k11_isOrphan_15 a1 M) (fun v20 z21 => ?_)
      refine q_br w_PV (.ifCond .eq 7) 3 rfl rfl rfl (v20 = 0) 42 38 [.int (M.1 15 45), .ref 15] rfl (fun _ => ?_) (fun _ => ?_)
      · refine q_const (.iconst 0) 1 rfl rfl rfl 43 (0) _ rfl cd_kj0 ?_
        exact r_w (k11_laysFound_15_L43 (f11_laysFound_15_L17 n) ih a1 0 (M.1 15 45) M) (cd_le_s (cd_le_s (cd_le_n (cd_le_n (cd_le_n (cd_le_n cd_le_0))))))
      · refine q_const (.iconst 1) 1 rfl rfl rfl 39 (1) _ rfl cd_kj1 ?_
        refine r_go (.goto 4) 3 rfl rfl rfl 43 [.int (1), .int (M.1 15 45), .ref 15] rfl ?_
        exact r_w (k11_laysFound_15_L43 (f11_laysFound_15_L17 n) ih a1 1 (M.1 15 45) M) (cd_le_s (cd_le_s (cd_le_n (cd_le_n (cd_le_n (cd_le_n cd_le_0))))))
def f11_laysFound_15 (M : cd_M) : Option cd_M := cd_lt (cd_wI M 15 45 0) fun M1 => cd_lt (cd_wI M1 15 46 0) fun M2 => cd_lt (cd_wI M2 15 44 0) fun M3 => f11_laysFound_15_L17 cd_fu 0 M3
set_option maxRecDepth 8000 in
theorem k11_laysFound_15 (M : cd_M) : cd_R 221 0 [some (.ref 15), none, none, none, none, none] [] M (w_PV (f11_laysFound_15 M)) := by
  unfold f11_laysFound_15
  refine r_ld (.aload_n 0) 1 2 0 (.ref 15) rfl rfl rfl rfl 1 rfl ?_
  refine q_const (.iconst 0) 1 rfl rfl rfl 2 (0) _ rfl cd_kj0 ?_
  refine q_wr w_PV (.putfield 324) 3 rfl rfl rfl 5 [] (cd_wI M 15 45 0) rfl (fun M1 => ?_)
  refine r_ld (.aload_n 0) 1 2 0 (.ref 15) rfl rfl rfl rfl 6 rfl ?_
  refine q_const (.iconst 0) 1 rfl rfl rfl 7 (0) _ rfl cd_kj0 ?_
  refine q_wr w_PV (.putfield 327) 3 rfl rfl rfl 10 [] (cd_wI M1 15 46 0) rfl (fun M2 => ?_)
  refine r_ld (.aload_n 0) 1 2 0 (.ref 15) rfl rfl rfl rfl 11 rfl ?_
  refine q_const (.iconst 0) 1 rfl rfl rfl 12 (0) _ rfl cd_kj0 ?_
  refine q_wr w_PV (.putfield 330) 3 rfl rfl rfl 15 [] (cd_wI M2 15 44 0) rfl (fun M3 => ?_)
  refine q_const (.iconst 0) 1 rfl rfl rfl 16 (0) _ rfl cd_kj0 ?_
  refine r_st (.istore_n 1) 1 0 1 rfl rfl rfl 17 rfl [some (.ref 15), some (.int (0)), none, none, none, none] rfl ?_
  exact r_w (k11_laysFound_15_L17 cd_fu 0 M3) (cd_le_s (cd_le_s (cd_le_n (cd_le_n (cd_le_n (cd_le_n cd_le_0))))))
def f11_laysAll_15 (M : cd_M) : Option cd_M := (f11_laysPath_15 (M.1 15 23) M).bind fun M1 => (f11_laysGroups_15 M1).bind fun M2 => (f11_laysFound_15 M2).bind fun M3 => some M3
set_option maxRecDepth 8000 in
theorem k11_laysAll_15 (M : cd_M) : cd_R 222 0 [some (.ref 15)] [] M (w_PV (f11_laysAll_15 M)) := by
  unfold f11_laysAll_15
  refine r_ld (.aload_n 0) 1 2 0 (.ref 15) rfl rfl rfl rfl 1 rfl ?_
  refine r_ld (.aload_n 0) 1 2 0 (.ref 15) rfl rfl rfl rfl 2 rfl ?_
  refine r_go (.getfield 227) 3 rfl rfl rfl 5 [.int (M.1 15 23), .ref 15] rfl ?_
  refine q_cV w_PV rfl (.invokevirtual 336) rfl rfl rfl 215 [.ref 15, .int (M.1 15 23)] [] rfl (k11_laysPath_15 (M.1 15 23) M) (fun M1 => ?_)
  refine r_ld (.aload_n 0) 1 2 0 (.ref 15) rfl rfl rfl rfl 9 rfl ?_
  refine q_cV w_PV rfl (.invokevirtual 339) rfl rfl rfl 219 [.ref 15] [] rfl (k11_laysGroups_15 M1) (fun M2 => ?_)
  refine r_ld (.aload_n 0) 1 2 0 (.ref 15) rfl rfl rfl rfl 13 rfl ?_
  refine q_cV w_PV rfl (.invokevirtual 342) rfl rfl rfl 221 [.ref 15] [] rfl (k11_laysFound_15 M2) (fun M3 => ?_)
  exact r_ret .return_ 1 rfl rfl rfl _ rfl
