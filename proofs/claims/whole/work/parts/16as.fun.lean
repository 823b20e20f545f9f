def f11_path_15 (a1 : Int32) (a2 : Int32) (M : cd_M) : Option (Int32 × cd_M) := cd_lt (cd_wI M 15 0 0) fun M1 => if f11_isField_15 a1 M1 = 0 then (some ((-1), M1)) else ((f11_laysAll_15 M1).bind fun M3 => if a2 = 0 then (if cd_in a1 90 = true then (some ((M3.1 70 a1.toNatClampNeg) / 25, M3)) else none) else (if a2 = 1 then (if cd_in a1 90 = true then (some (((M3.1 70 a1.toNatClampNeg) / 5) - ((M3.1 70 a1.toNatClampNeg) / 5) / 5 * 5, M3)) else none) else (if a2 = 2 then (if cd_in a1 90 = true then (some ((M3.1 70 a1.toNatClampNeg) - (M3.1 70 a1.toNatClampNeg) / 5 * 5, M3)) else none) else (if a2 = 3 then (if cd_in a1 90 = true then (if M3.1 71 a1.toNatClampNeg = 0 then (some (0, M3)) else (some (1, M3))) else none) else (if a2 = 4 then ((f11_costOf_15 a1 M3).bind fun v4 => some (v4, M3)) else (if a2 = 5 then (if cd_in a1 90 = true then (some (M3.1 72 a1.toNatClampNeg, M3)) else none) else (if a2 = 6 then (if cd_in a1 90 = true then (if M3.1 74 a1.toNatClampNeg = 0 then (some (0, M3)) else (some (1, M3))) else none) else (if a2 = 7 then (if cd_in a1 90 = true then (if cd_in (M3.1 72 a1.toNatClampNeg) 90 = true then (some (M3.1 77 (M3.1 72 a1.toNatClampNeg : Int32).toNatClampNeg, M3)) else none) else none) else (some ((-1), M3))))))))))
set_option maxRecDepth 8000 in
theorem k11_path_15 (a1 : Int32) (a2 : Int32) (M : cd_M) : cd_R 223 0 [some (.ref 15), some (.int (a1)), some (.int (a2))] [] M (w_PM (f11_path_15 a1 a2 M)) := by
  unfold f11_path_15
  refine r_ld (.aload_n 0) 1 2 0 (.ref 15) rfl rfl rfl rfl 1 rfl ?_
  refine q_const (.iconst 0) 1 rfl rfl rfl 2 (0) _ rfl cd_kj0 ?_
  refine q_wr w_PM (.putfield 95) 3 rfl rfl rfl 5 [] (cd_wI M 15 0 0) rfl (fun M1 => ?_)
  refine r_ld (.aload_n 0) 1 2 0 (.ref 15) rfl rfl rfl rfl 6 rfl ?_
  refine r_ld (.iload_n 1) 1 0 1 (.int (a1)) rfl rfl rfl rfl 7 rfl ?_
  refine q_cTIz (.invokevirtual 251) rfl rfl rfl 189 rfl [.ref 15, .int (a1)] [] rfl (k11_isField_15 a1 M1) (fun z2 => ?_)
  refine q_br w_PM (.ifCond .ne 5) 3 rfl rfl rfl (f11_isField_15 a1 M1 = 0) 13 15 [] rfl (fun _ => ?_) (fun _ => ?_)
  · refine q_const (.iconst (-1)) 1 rfl rfl rfl 14 (-1) _ rfl cd_kjm1 ?_
    exact r_ret .ireturn 1 rfl rfl rfl _ rfl
  · refine r_ld (.aload_n 0) 1 2 0 (.ref 15) rfl rfl rfl rfl 16 rfl ?_
    refine q_cV w_PM rfl (.invokevirtual 345) rfl rfl rfl 222 [.ref 15] [] rfl (k11_laysAll_15 M1) (fun M3 => ?_)
    refine r_ld (.iload_n 2) 1 0 2 (.int (a2)) rfl rfl rfl rfl 20 rfl ?_
    refine q_or w_PM (a2 = 0) (fun e0 => ?_) (fun e0 => ?_)
    · rw [e0]
      refine r_go (.tableswitch 133 0 7 #[48, 58, 69, 78, 93, 99, 106, 121]) 48 rfl rfl rfl 68 [] rfl ?_
      refine r_ld (.aload_n 0) 1 2 0 (.ref 15) rfl rfl rfl rfl 69 rfl ?_
      refine r_go (.getfield 51) 3 rfl rfl rfl 72 [.ref 70] rfl ?_
      refine r_ld (.iload_n 1) 1 0 1 (.int (a1)) rfl rfl rfl rfl 73 rfl ?_
      refine q_iald w_PM rfl rfl 70 90 rfl ?_
      refine q_const (.bipush 25) 2 rfl rfl rfl 76 (25) _ rfl cd_kc25 ?_
      refine q_divK rfl (by decide) ?_
      exact r_ret .ireturn 1 rfl rfl rfl _ rfl
    refine q_or w_PM (a2 = 1) (fun e1 => ?_) (fun e1 => ?_)
    · rw [e1]
      refine r_go (.tableswitch 133 0 7 #[48, 58, 69, 78, 93, 99, 106, 121]) 48 rfl rfl rfl 78 [] rfl ?_
      refine r_ld (.aload_n 0) 1 2 0 (.ref 15) rfl rfl rfl rfl 79 rfl ?_
      refine r_go (.getfield 51) 3 rfl rfl rfl 82 [.ref 70] rfl ?_
      refine r_ld (.iload_n 1) 1 0 1 (.int (a1)) rfl rfl rfl rfl 83 rfl ?_
      refine q_iald w_PM rfl rfl 70 90 rfl ?_
      refine q_const (.iconst 5) 1 rfl rfl rfl 85 (5) _ rfl cd_kj5 ?_
      refine q_divK rfl (by decide) ?_
      refine q_const (.iconst 5) 1 rfl rfl rfl 87 (5) _ rfl cd_kj5 ?_
      refine q_remK rfl (by decide) ?_
      exact r_ret .ireturn 1 rfl rfl rfl _ rfl
    refine q_or w_PM (a2 = 2) (fun e2 => ?_) (fun e2 => ?_)
    · rw [e2]
      refine r_go (.tableswitch 133 0 7 #[48, 58, 69, 78, 93, 99, 106, 121]) 48 rfl rfl rfl 89 [] rfl ?_
      refine r_ld (.aload_n 0) 1 2 0 (.ref 15) rfl rfl rfl rfl 90 rfl ?_
      refine r_go (.getfield 51) 3 rfl rfl rfl 93 [.ref 70] rfl ?_
      refine r_ld (.iload_n 1) 1 0 1 (.int (a1)) rfl rfl rfl rfl 94 rfl ?_
      refine q_iald w_PM rfl rfl 70 90 rfl ?_
      refine q_const (.iconst 5) 1 rfl rfl rfl 96 (5) _ rfl cd_kj5 ?_
      refine q_remK rfl (by decide) ?_
      exact r_ret .ireturn 1 rfl rfl rfl _ rfl
    refine q_or w_PM (a2 = 3) (fun e3 => ?_) (fun e3 => ?_)
    · rw [e3]
      refine r_go (.tableswitch 133 0 7 #[48, 58, 69, 78, 93, 99, 106, 121]) 48 rfl rfl rfl 98 [] rfl ?_
      refine r_ld (.aload_n 0) 1 2 0 (.ref 15) rfl rfl rfl rfl 99 rfl ?_
      refine r_go (.getfield 54) 3 rfl rfl rfl 102 [.ref 71] rfl ?_
      refine r_ld (.iload_n 1) 1 0 1 (.int (a1)) rfl rfl rfl rfl 103 rfl ?_
      refine q_bald w_PM rfl rfl 71 90 23 rfl rfl (by decide) ?_
      refine q_br w_PM (.ifCond .eq 7) 3 rfl rfl rfl (M3.1 71 a1.toNatClampNeg = 0) 111 107 [] rfl (fun _ => ?_) (fun _ => ?_)
      · refine q_const (.iconst 0) 1 rfl rfl rfl 112 (0) _ rfl cd_kj0 ?_
        exact r_ret .ireturn 1 rfl rfl rfl _ rfl
      · refine q_const (.iconst 1) 1 rfl rfl rfl 108 (1) _ rfl cd_kj1 ?_
        refine r_go (.goto 4) 3 rfl rfl rfl 112 [.int (1)] rfl ?_
        exact r_ret .ireturn 1 rfl rfl rfl _ rfl
    refine q_or w_PM (a2 = 4) (fun e4 => ?_) (fun e4 => ?_)
    · rw [e4]
      refine r_go (.tableswitch 133 0 7 #[48, 58, 69, 78, 93, 99, 106, 121]) 48 rfl rfl rfl 113 [] rfl ?_
      refine r_ld (.aload_n 0) 1 2 0 (.ref 15) rfl rfl rfl rfl 114 rfl ?_
      refine r_ld (.iload_n 1) 1 0 1 (.int (a1)) rfl rfl rfl rfl 115 rfl ?_
      refine q_cI w_PM rfl (.invokevirtual 309) rfl rfl rfl 216 [.ref 15, .int (a1)] [] rfl (k11_costOf_15 a1 M3) (fun v4 => ?_)
      exact r_ret .ireturn 1 rfl rfl rfl _ rfl
    refine q_or w_PM (a2 = 5) (fun e5 => ?_) (fun e5 => ?_)
    · rw [e5]
      refine r_go (.tableswitch 133 0 7 #[48, 58, 69, 78, 93, 99, 106, 121]) 48 rfl rfl rfl 119 [] rfl ?_
      refine r_ld (.aload_n 0) 1 2 0 (.ref 15) rfl rfl rfl rfl 120 rfl ?_
      refine r_go (.getfield 57) 3 rfl rfl rfl 123 [.ref 72] rfl ?_
      refine r_ld (.iload_n 1) 1 0 1 (.int (a1)) rfl rfl rfl rfl 124 rfl ?_
      refine q_iald w_PM rfl rfl 72 90 rfl ?_
      exact r_ret .ireturn 1 rfl rfl rfl _ rfl
    refine q_or w_PM (a2 = 6) (fun e6 => ?_) (fun e6 => ?_)
    · rw [e6]
      refine r_go (.tableswitch 133 0 7 #[48, 58, 69, 78, 93, 99, 106, 121]) 48 rfl rfl rfl 126 [] rfl ?_
      refine r_ld (.aload_n 0) 1 2 0 (.ref 15) rfl rfl rfl rfl 127 rfl ?_
      refine r_go (.getfield 63) 3 rfl rfl rfl 130 [.ref 74] rfl ?_
      refine r_ld (.iload_n 1) 1 0 1 (.int (a1)) rfl rfl rfl rfl 131 rfl ?_
      refine q_bald w_PM rfl rfl 74 90 23 rfl rfl (by decide) ?_
      refine q_br w_PM (.ifCond .eq 7) 3 rfl rfl rfl (M3.1 74 a1.toNatClampNeg = 0) 139 135 [] rfl (fun _ => ?_) (fun _ => ?_)
      · refine q_const (.iconst 0) 1 rfl rfl rfl 140 (0) _ rfl cd_kj0 ?_
        exact r_ret .ireturn 1 rfl rfl rfl _ rfl
      · refine q_const (.iconst 1) 1 rfl rfl rfl 136 (1) _ rfl cd_kj1 ?_
        refine r_go (.goto 4) 3 rfl rfl rfl 140 [.int (1)] rfl ?_
        exact r_ret .ireturn 1 rfl rfl rfl _ rfl
    refine q_or w_PM (a2 = 7) (fun e7 => ?_) (fun e7 => ?_)
    · rw [e7]
      refine r_go (.tableswitch 133 0 7 #[48, 58, 69, 78, 93, 99, 106, 121]) 48 rfl rfl rfl 141 [] rfl ?_
      refine r_ld (.aload_n 0) 1 2 0 (.ref 15) rfl rfl rfl rfl 142 rfl ?_
      refine r_go (.getfield 72) 3 rfl rfl rfl 145 [.ref 77] rfl ?_
      refine r_ld (.aload_n 0) 1 2 0 (.ref 15) rfl rfl rfl rfl 146 rfl ?_
      refine r_go (.getfield 57) 3 rfl rfl rfl 149 [.ref 72, .ref 77] rfl ?_
      refine r_ld (.iload_n 1) 1 0 1 (.int (a1)) rfl rfl rfl rfl 150 rfl ?_
      refine q_iald w_PM rfl rfl 72 90 rfl ?_
      refine q_iald w_PM rfl rfl 77 90 rfl ?_
      exact r_ret .ireturn 1 rfl rfl rfl _ rfl
    have g0 := cd_neI 0 (by omega) e0
    have g1 := cd_neI 1 (by omega) e1
    have g2 := cd_neI 2 (by omega) e2
    have g3 := cd_neI 3 (by omega) e3
    have g4 := cd_neI 4 (by omega) e4
    have g5 := cd_neI 5 (by omega) e5
    have g6 := cd_neI 6 (by omega) e6
    have g7 := cd_neI 7 (by omega) e7
    refine q_swD (133) 7 #[48, 58, 69, 78, 93, 99, 106, 121] 48 rfl (by omega) 153 rfl ?_
    refine q_const (.iconst (-1)) 1 rfl rfl rfl 154 (-1) _ rfl cd_kjm1 ?_
    exact r_ret .ireturn 1 rfl rfl rfl _ rfl
def f11_all_15 (a1 : Int32) (M : cd_M) : Option (Int32 × cd_M) := cd_lt (cd_wI M 15 0 0) fun M1 => (f11_laysAll_15 M1).bind fun M2 => if a1 = 0 then (some (M2.1 15 35, M2)) else (if a1 = 1 then (some (M2.1 15 36, M2)) else (if a1 = 2 then (some (M2.1 15 37, M2)) else (if a1 = 3 then (some (M2.1 15 47, M2)) else (if a1 = 4 then (some (M2.1 15 45, M2)) else (if a1 = 5 then (some (M2.1 15 46, M2)) else (if a1 = 6 then (some (M2.1 15 44, M2)) else (some ((-1), M2))))))))
set_option maxRecDepth 8000 in
theorem k11_all_15 (a1 : Int32) (M : cd_M) : cd_R 224 0 [some (.ref 15), some (.int (a1))] [] M (w_PM (f11_all_15 a1 M)) := by
  unfold f11_all_15
  refine r_ld (.aload_n 0) 1 2 0 (.ref 15) rfl rfl rfl rfl 1 rfl ?_
  refine q_const (.iconst 0) 1 rfl rfl rfl 2 (0) _ rfl cd_kj0 ?_
  refine q_wr w_PM (.putfield 95) 3 rfl rfl rfl 5 [] (cd_wI M 15 0 0) rfl (fun M1 => ?_)
  refine r_ld (.aload_n 0) 1 2 0 (.ref 15) rfl rfl rfl rfl 6 rfl ?_
  refine q_cV w_PM rfl (.invokevirtual 345) rfl rfl rfl 222 [.ref 15] [] rfl (k11_laysAll_15 M1) (fun M2 => ?_)
  refine r_ld (.iload_n 1) 1 0 1 (.int (a1)) rfl rfl rfl rfl 10 rfl ?_
  refine q_or w_PM (a1 = 0) (fun e0 => ?_) (fun e0 => ?_)
  · rw [e0]
    refine r_go (.tableswitch 77 0 6 #[42, 47, 52, 57, 62, 67, 72]) 42 rfl rfl rfl 52 [] rfl ?_
    refine r_ld (.aload_n 0) 1 2 0 (.ref 15) rfl rfl rfl rfl 53 rfl ?_
    refine r_go (.getfield 300) 3 rfl rfl rfl 56 [.int (M2.1 15 35)] rfl ?_
    exact r_ret .ireturn 1 rfl rfl rfl _ rfl
  refine q_or w_PM (a1 = 1) (fun e1 => ?_) (fun e1 => ?_)
  · rw [e1]
    refine r_go (.tableswitch 77 0 6 #[42, 47, 52, 57, 62, 67, 72]) 42 rfl rfl rfl 57 [] rfl ?_
    refine r_ld (.aload_n 0) 1 2 0 (.ref 15) rfl rfl rfl rfl 58 rfl ?_
    refine r_go (.getfield 303) 3 rfl rfl rfl 61 [.int (M2.1 15 36)] rfl ?_
    exact r_ret .ireturn 1 rfl rfl rfl _ rfl
  refine q_or w_PM (a1 = 2) (fun e2 => ?_) (fun e2 => ?_)
  · rw [e2]
    refine r_go (.tableswitch 77 0 6 #[42, 47, 52, 57, 62, 67, 72]) 42 rfl rfl rfl 62 [] rfl ?_
    refine r_ld (.aload_n 0) 1 2 0 (.ref 15) rfl rfl rfl rfl 63 rfl ?_
    refine r_go (.getfield 312) 3 rfl rfl rfl 66 [.int (M2.1 15 37)] rfl ?_
    exact r_ret .ireturn 1 rfl rfl rfl _ rfl
  refine q_or w_PM (a1 = 3) (fun e3 => ?_) (fun e3 => ?_)
  · rw [e3]
    refine r_go (.tableswitch 77 0 6 #[42, 47, 52, 57, 62, 67, 72]) 42 rfl rfl rfl 67 [] rfl ?_
    refine r_ld (.aload_n 0) 1 2 0 (.ref 15) rfl rfl rfl rfl 68 rfl ?_
    refine r_go (.getfield 315) 3 rfl rfl rfl 71 [.int (M2.1 15 47)] rfl ?_
    exact r_ret .ireturn 1 rfl rfl rfl _ rfl
  refine q_or w_PM (a1 = 4) (fun e4 => ?_) (fun e4 => ?_)
  · rw [e4]
    refine r_go (.tableswitch 77 0 6 #[42, 47, 52, 57, 62, 67, 72]) 42 rfl rfl rfl 72 [] rfl ?_
    refine r_ld (.aload_n 0) 1 2 0 (.ref 15) rfl rfl rfl rfl 73 rfl ?_
    refine r_go (.getfield 324) 3 rfl rfl rfl 76 [.int (M2.1 15 45)] rfl ?_
    exact r_ret .ireturn 1 rfl rfl rfl _ rfl
  refine q_or w_PM (a1 = 5) (fun e5 => ?_) (fun e5 => ?_)
  · rw [e5]
    refine r_go (.tableswitch 77 0 6 #[42, 47, 52, 57, 62, 67, 72]) 42 rfl rfl rfl 77 [] rfl ?_
    refine r_ld (.aload_n 0) 1 2 0 (.ref 15) rfl rfl rfl rfl 78 rfl ?_
    refine r_go (.getfield 327) 3 rfl rfl rfl 81 [.int (M2.1 15 46)] rfl ?_
    exact r_ret .ireturn 1 rfl rfl rfl _ rfl
  refine q_or w_PM (a1 = 6) (fun e6 => ?_) (fun e6 => ?_)
  · rw [e6]
    refine r_go (.tableswitch 77 0 6 #[42, 47, 52, 57, 62, 67, 72]) 42 rfl rfl rfl 82 [] rfl ?_
    refine r_ld (.aload_n 0) 1 2 0 (.ref 15) rfl rfl rfl rfl 83 rfl ?_
    refine r_go (.getfield 330) 3 rfl rfl rfl 86 [.int (M2.1 15 44)] rfl ?_
    exact r_ret .ireturn 1 rfl rfl rfl _ rfl
  have g0 := cd_neI 0 (by omega) e0
  have g1 := cd_neI 1 (by omega) e1
  have g2 := cd_neI 2 (by omega) e2
  have g3 := cd_neI 3 (by omega) e3
  have g4 := cd_neI 4 (by omega) e4
  have g5 := cd_neI 5 (by omega) e5
  have g6 := cd_neI 6 (by omega) e6
  refine q_swD (77) 6 #[42, 47, 52, 57, 62, 67, 72] 42 rfl (by omega) 87 rfl ?_
  refine q_const (.iconst (-1)) 1 rfl rfl rfl 88 (-1) _ rfl cd_kjm1 ?_
  exact r_ret .ireturn 1 rfl rfl rfl _ rfl
def f11_edit_15_L49 (r19 : Int32 → Int32 → Int32 → cd_M → Option (Int32 × cd_M)) (a1 : Int32) (a2 : Int32) (a3 : Int32) (M : cd_M) : Option (Int32 × cd_M) := cd_lt (a3 + (1)) fun x3 => r19 a1 a2 x3 M
set_option maxRecDepth 8000 in
theorem k11_edit_15_L49 (r19 : Int32 → Int32 → Int32 → cd_M → Option (Int32 × cd_M)) (h19 : ∀ (a1 : Int32) (a2 : Int32) (a3 : Int32) (M : cd_M), cd_R 225 19 [some (.ref 15), some (.int (a1)), some (.int (a2)), some (.int (a3))] [] M (w_PM (r19 a1 a2 a3 M))) (a1 : Int32) (a2 : Int32) (a3 : Int32) (M : cd_M) : cd_R 225 49 [some (.ref 15), some (.int (a1)), some (.int (a2)), some (.int (a3))] [] M (w_PM (f11_edit_15_L49 r19 a1 a2 a3 M)) := by
  unfold f11_edit_15_L49
  refine q_inc w_PM 3 (1) (a3) rfl rfl rfl 52 rfl (1) cd_kj1 (fun x3 => [some (.ref 15), some (.int (a1)), some (.int (a2)), some (.int (x3))]) (fun _ => rfl) (fun x3 => ?_)
  refine r_go (.goto (-33)) 3 rfl rfl rfl 19 [] rfl ?_
  exact r_w (h19 a1 a2 x3 M) (cd_le_s (cd_le_s (cd_le_s (cd_le_s cd_le_0))))
def f11_edit_15_L19 : Nat → Int32 → Int32 → Int32 → cd_M → Option (Int32 × cd_M)
  | 0, _, _, _, _ => none
  | n + 1, a1, a2, a3, M => if M.1 15 24 ≤ a3 then (some ((-1), M)) else (if cd_in a3 90 = true then (if M.1 71 a3.toNatClampNeg = 0 then (f11_edit_15_L49 (f11_edit_15_L19 n) a1 a2 a3 M) else (if a2 = a1 then (some (a3, M)) else (cd_lt (a2 + (1)) fun x4 => f11_edit_15_L49 (f11_edit_15_L19 n) a1 x4 a3 M))) else none)
set_option maxRecDepth 8000 in
theorem k11_edit_15_L19 : ∀ (n : Nat) (a1 : Int32) (a2 : Int32) (a3 : Int32) (M : cd_M), cd_R 225 19 [some (.ref 15), some (.int (a1)), some (.int (a2)), some (.int (a3))] [] M (w_PM (f11_edit_15_L19 n a1 a2 a3 M)) := by
  intro n
  induction n with
  | zero =>
    intro a1 a2 a3 M
    exact q_none w_PM rfl
  | succ n ih =>
    intro a1 a2 a3 M
    rw [f11_edit_15_L19]
    refine r_ld (.iload_n 3) 1 0 3 (.int (a3)) rfl rfl rfl rfl 20 rfl ?_
    refine r_ld (.aload_n 0) 1 2 0 (.ref 15) rfl rfl rfl rfl 21 rfl ?_
    refine r_go (.getfield 195) 3 rfl rfl rfl 24 [.int (M.1 15 24), .int (a3)] rfl ?_
    refine q_br w_PM (.if_icmp .ge 31) 3 rfl rfl rfl (M.1 15 24 ≤ a3) 55 27 [] rfl (fun _ => ?_) (fun _ => ?_)
    · refine q_const (.iconst (-1)) 1 rfl rfl rfl 56 (-1) _ rfl cd_kjm1 ?_
      exact r_ret .ireturn 1 rfl rfl rfl _ rfl
    · refine r_ld (.aload_n 0) 1 2 0 (.ref 15) rfl rfl rfl rfl 28 rfl ?_
      refine r_go (.getfield 54) 3 rfl rfl rfl 31 [.ref 71] rfl ?_
      refine r_ld (.iload_n 3) 1 0 3 (.int (a3)) rfl rfl rfl rfl 32 rfl ?_
      refine q_bald w_PM rfl rfl 71 90 23 rfl rfl (by decide) ?_
      refine q_br w_PM (.ifCond .ne 6) 3 rfl rfl rfl (M.1 71 a3.toNatClampNeg = 0) 36 39 [] rfl (fun _ => ?_) (fun _ => ?_)
      · refine r_go (.goto 13) 3 rfl rfl rfl 49 [] rfl ?_
        exact r_w (k11_edit_15_L49 (f11_edit_15_L19 n) ih a1 a2 a3 M) (cd_le_s (cd_le_s (cd_le_s (cd_le_s cd_le_0))))
      · refine r_ld (.iload_n 2) 1 0 2 (.int (a2)) rfl rfl rfl rfl 40 rfl ?_
        refine r_ld (.iload_n 1) 1 0 1 (.int (a1)) rfl rfl rfl rfl 41 rfl ?_
        refine q_br w_PM (.if_icmp .ne 5) 3 rfl rfl rfl (a2 = a1) 44 46 [] rfl (fun _ => ?_) (fun _ => ?_)
        · refine r_ld (.iload_n 3) 1 0 3 (.int (a3)) rfl rfl rfl rfl 45 rfl ?_
          exact r_ret .ireturn 1 rfl rfl rfl _ rfl
        · refine q_inc w_PM 2 (1) (a2) rfl rfl rfl 49 rfl (1) cd_kj1 (fun x4 => [some (.ref 15), some (.int (a1)), some (.int (x4)), some (.int (a3))]) (fun _ => rfl) (fun x4 => ?_)
          exact r_w (k11_edit_15_L49 (f11_edit_15_L19 n) ih a1 x4 a3 M) (cd_le_s (cd_le_s (cd_le_s (cd_le_s cd_le_0))))
def f11_edit_15 (a1 : Int32) (M : cd_M) : Option (Int32 × cd_M) := cd_lt (cd_wI M 15 0 0) fun M1 => if 0 ≤ a1 then ((f11_laysAll_15 M1).bind fun M2 => f11_edit_15_L19 cd_fu a1 0 0 M2) else (some ((-1), M1))
set_option maxRecDepth 8000 in
theorem k11_edit_15 (a1 : Int32) (M : cd_M) : cd_R 225 0 [some (.ref 15), some (.int (a1)), none, none] [] M (w_PM (f11_edit_15 a1 M)) := by
  unfold f11_edit_15
  refine r_ld (.aload_n 0) 1 2 0 (.ref 15) rfl rfl rfl rfl 1 rfl ?_
  refine q_const (.iconst 0) 1 rfl rfl rfl 2 (0) _ rfl cd_kj0 ?_
  refine q_wr w_PM (.putfield 95) 3 rfl rfl rfl 5 [] (cd_wI M 15 0 0) rfl (fun M1 => ?_)
  refine r_ld (.iload_n 1) 1 0 1 (.int (a1)) rfl rfl rfl rfl 6 rfl ?_
  refine q_br w_PM (.ifCond .ge 5) 3 rfl rfl rfl (0 ≤ a1) 11 9 [] rfl (fun _ => ?_) (fun _ => ?_)
  · refine r_ld (.aload_n 0) 1 2 0 (.ref 15) rfl rfl rfl rfl 12 rfl ?_
    refine q_cV w_PM rfl (.invokevirtual 345) rfl rfl rfl 222 [.ref 15] [] rfl (k11_laysAll_15 M1) (fun M2 => ?_)
    refine q_const (.iconst 0) 1 rfl rfl rfl 16 (0) _ rfl cd_kj0 ?_
    refine r_st (.istore_n 2) 1 0 2 rfl rfl rfl 17 rfl [some (.ref 15), some (.int (a1)), some (.int (0)), none] rfl ?_
    refine q_const (.iconst 0) 1 rfl rfl rfl 18 (0) _ rfl cd_kj0 ?_
    refine r_st (.istore_n 3) 1 0 3 rfl rfl rfl 19 rfl [some (.ref 15), some (.int (a1)), some (.int (0)), some (.int (0))] rfl ?_
    exact r_w (k11_edit_15_L19 cd_fu a1 0 0 M2) (cd_le_s (cd_le_s (cd_le_s (cd_le_s cd_le_0))))
  · refine q_const (.iconst (-1)) 1 rfl rfl rfl 10 (-1) _ rfl cd_kjm1 ?_
    exact r_ret .ireturn 1 rfl rfl rfl _ rfl
def f11_group_15 (a1 : Int32) (a2 : Int32) (M : cd_M) : Option (Int32 × cd_M) := cd_lt (cd_wI M 15 0 0) fun M1 => (f11_laysAll_15 M1).bind fun M2 => if f11_within (a1.toInt64) 0 (((M2.1 15 37) - 1 : Int32).toInt64) M2 = 0 then (some ((-2), M2)) else (if a2 = 0 then (if cd_in a1 91 = true then (some (M2.1 73 a1.toNatClampNeg, M2)) else none) else (if a2 = 1 then (if cd_in (a1 + 1) 91 = true then (if cd_in a1 91 = true then (some ((M2.1 73 (a1 + 1 : Int32).toNatClampNeg) - (M2.1 73 a1.toNatClampNeg), M2)) else none) else none) else (if a2 = 2 then ((f11_isOrphan_15 a1 M2).bind fun v4 => if v4 = 0 then (some (0, M2)) else (some (1, M2))) else (if a2 = 3 then (if cd_in a1 90 = true then (some (M2.1 76 a1.toNatClampNeg, M2)) else none) else (some ((-2), M2))))))
set_option maxRecDepth 8000 in
theorem k11_group_15 (a1 : Int32) (a2 : Int32) (M : cd_M) : cd_R 226 0 [some (.ref 15), some (.int (a1)), some (.int (a2))] [] M (w_PM (f11_group_15 a1 a2 M)) := by
  unfold f11_group_15
  refine r_ld (.aload_n 0) 1 2 0 (.ref 15) rfl rfl rfl rfl 1 rfl ?_
  refine q_const (.iconst 0) 1 rfl rfl rfl 2 (0) _ rfl cd_kj0 ?_
  refine q_wr w_PM (.putfield 95) 3 rfl rfl rfl 5 [] (cd_wI M 15 0 0) rfl (fun M1 => ?_)
  refine r_ld (.aload_n 0) 1 2 0 (.ref 15) rfl rfl rfl rfl 6 rfl ?_
  refine q_cV w_PM rfl (.invokevirtual 345) rfl rfl rfl 222 [.ref 15] [] rfl (k11_laysAll_15 M1) (fun M2 => ?_)
  refine r_ld (.iload_n 1) 1 0 1 (.int (a1)) rfl rfl rfl rfl 10 rfl ?_
  refine r_go (.i2l) 1 rfl rfl rfl 11 [.long (a1.toInt64)] rfl ?_
  refine r_go (.lconst 0) 1 rfl rfl rfl 12 [.long (0), .long (a1.toInt64)] rfl ?_
  refine r_ld (.aload_n 0) 1 2 0 (.ref 15) rfl rfl rfl rfl 13 rfl ?_
  refine r_go (.getfield 312) 3 rfl rfl rfl 16 [.int (M2.1 15 37), .long (0), .long (a1.toInt64)] rfl ?_
  refine q_const (.iconst 1) 1 rfl rfl rfl 17 (1) _ rfl cd_kj1 ?_
  refine r_go (.isub) 1 rfl rfl rfl 18 [.int ((M2.1 15 37) - 1), .long (0), .long (a1.toInt64)] rfl ?_
  refine r_go (.i2l) 1 rfl rfl rfl 19 [.long (((M2.1 15 37) - 1 : Int32).toInt64), .long (0), .long (a1.toInt64)] rfl ?_
  refine q_cTIz (.invokestatic 127) rfl rfl rfl 161 rfl [.long (a1.toInt64), .long (0), .long (((M2.1 15 37) - 1 : Int32).toInt64)] [] rfl (k11_within (a1.toInt64) 0 (((M2.1 15 37) - 1 : Int32).toInt64) M2) (fun z3 => ?_)
  refine q_br w_PM (.ifCond .ne 6) 3 rfl rfl rfl (f11_within (a1.toInt64) 0 (((M2.1 15 37) - 1 : Int32).toInt64) M2 = 0) 25 28 [] rfl (fun _ => ?_) (fun _ => ?_)
  · refine q_const (.bipush (-2)) 2 rfl rfl rfl 27 (-2) _ rfl cd_kcm2 ?_
    exact r_ret .ireturn 1 rfl rfl rfl _ rfl
  · refine r_ld (.iload_n 2) 1 0 2 (.int (a2)) rfl rfl rfl rfl 29 rfl ?_
    refine q_or w_PM (a2 = 0) (fun e0 => ?_) (fun e0 => ?_)
    · rw [e0]
      refine r_go (.tableswitch 75 0 3 #[31, 38, 54, 68]) 31 rfl rfl rfl 60 [] rfl ?_
      refine r_ld (.aload_n 0) 1 2 0 (.ref 15) rfl rfl rfl rfl 61 rfl ?_
      refine r_go (.getfield 60) 3 rfl rfl rfl 64 [.ref 73] rfl ?_
      refine r_ld (.iload_n 1) 1 0 1 (.int (a1)) rfl rfl rfl rfl 65 rfl ?_
      refine q_iald w_PM rfl rfl 73 91 rfl ?_
      exact r_ret .ireturn 1 rfl rfl rfl _ rfl
    refine q_or w_PM (a2 = 1) (fun e1 => ?_) (fun e1 => ?_)
    · rw [e1]
      refine r_go (.tableswitch 75 0 3 #[31, 38, 54, 68]) 31 rfl rfl rfl 67 [] rfl ?_
      refine r_ld (.aload_n 0) 1 2 0 (.ref 15) rfl rfl rfl rfl 68 rfl ?_
      refine r_go (.getfield 60) 3 rfl rfl rfl 71 [.ref 73] rfl ?_
      refine r_ld (.iload_n 1) 1 0 1 (.int (a1)) rfl rfl rfl rfl 72 rfl ?_
      refine q_const (.iconst 1) 1 rfl rfl rfl 73 (1) _ rfl cd_kj1 ?_
      refine r_go (.iadd) 1 rfl rfl rfl 74 [.int (a1 + 1), .ref 73] rfl ?_
      refine q_iald w_PM rfl rfl 73 91 rfl ?_
      refine r_ld (.aload_n 0) 1 2 0 (.ref 15) rfl rfl rfl rfl 76 rfl ?_
      refine r_go (.getfield 60) 3 rfl rfl rfl 79 [.ref 73, .int (M2.1 73 (a1 + 1 : Int32).toNatClampNeg)] rfl ?_
      refine r_ld (.iload_n 1) 1 0 1 (.int (a1)) rfl rfl rfl rfl 80 rfl ?_
      refine q_iald w_PM rfl rfl 73 91 rfl ?_
      refine r_go (.isub) 1 rfl rfl rfl 82 [.int ((M2.1 73 (a1 + 1 : Int32).toNatClampNeg) - (M2.1 73 a1.toNatClampNeg))] rfl ?_
      exact r_ret .ireturn 1 rfl rfl rfl _ rfl
    refine q_or w_PM (a2 = 2) (fun e2 => ?_) (fun e2 => ?_)
    · rw [e2]
      refine r_go (.tableswitch 75 0 3 #[31, 38, 54, 68]) 31 rfl rfl rfl 83 [] rfl ?_
      refine r_ld (.aload_n 0) 1 2 0 (.ref 15) rfl rfl rfl rfl 84 rfl ?_
      refine r_ld (.iload_n 1) 1 0 1 (.int (a1)) rfl rfl rfl rfl 85 rfl ?_
      refine q_cIz w_PM rfl (.invokevirtual 318) rfl rfl rfl 217 rfl [.ref 15, .int (a1)] [] rfl (k11_isOrphan_15 a1 M2) (fun v4 z5 => ?_)
      refine q_br w_PM (.ifCond .eq 7) 3 rfl rfl rfl (v4 = 0) 95 91 [] rfl (fun _ => ?_) (fun _ => ?_)
      · refine q_const (.iconst 0) 1 rfl rfl rfl 96 (0) _ rfl cd_kj0 ?_
        exact r_ret .ireturn 1 rfl rfl rfl _ rfl
      · refine q_const (.iconst 1) 1 rfl rfl rfl 92 (1) _ rfl cd_kj1 ?_
        refine r_go (.goto 4) 3 rfl rfl rfl 96 [.int (1)] rfl ?_
        exact r_ret .ireturn 1 rfl rfl rfl _ rfl
    refine q_or w_PM (a2 = 3) (fun e3 => ?_) (fun e3 => ?_)
    · rw [e3]
      refine r_go (.tableswitch 75 0 3 #[31, 38, 54, 68]) 31 rfl rfl rfl 97 [] rfl ?_
      refine r_ld (.aload_n 0) 1 2 0 (.ref 15) rfl rfl rfl rfl 98 rfl ?_
      refine r_go (.getfield 69) 3 rfl rfl rfl 101 [.ref 76] rfl ?_
      refine r_ld (.iload_n 1) 1 0 1 (.int (a1)) rfl rfl rfl rfl 102 rfl ?_
      refine q_iald w_PM rfl rfl 76 90 rfl ?_
      exact r_ret .ireturn 1 rfl rfl rfl _ rfl
    have g0 := cd_neI 0 (by omega) e0
    have g1 := cd_neI 1 (by omega) e1
    have g2 := cd_neI 2 (by omega) e2
    have g3 := cd_neI 3 (by omega) e3
    refine q_swD (75) 3 #[31, 38, 54, 68] 31 rfl (by omega) 104 rfl ?_
    refine q_const (.bipush (-2)) 2 rfl rfl rfl 106 (-2) _ rfl cd_kcm2 ?_
    exact r_ret .ireturn 1 rfl rfl rfl _ rfl
def f11_found_15 (a1 : Int32) (a2 : Int32) (a3 : Int32) (M : cd_M) : Option (Int32 × cd_M) := cd_lt (cd_wI M 15 0 0) fun M1 => (f11_laysAll_15 M1).bind fun M2 => if f11_within (a1.toInt64) 0 (((M2.1 15 44) - 1 : Int32).toInt64) M2 = 0 then (some ((-1), M2)) else (if f11_within (a2.toInt64) 0 1 M2 = 0 then (some ((-1), M2)) else (if f11_within (a3.toInt64) 0 (((M2.1 15 11) - 1 : Int32).toInt64) M2 = 0 then (some ((-1), M2)) else (if cd_in ((2 * a1) + a2) 180 = true then ((f11_sample_15 (M2.1 78 ((2 * a1) + a2 : Int32).toNatClampNeg) a3 M2).bind fun v6 => some (v6, M2)) else none)))
set_option maxRecDepth 8000 in
theorem k11_found_15 (a1 : Int32) (a2 : Int32) (a3 : Int32) (M : cd_M) : cd_R 227 0 [some (.ref 15), some (.int (a1)), some (.int (a2)), some (.int (a3))] [] M (w_PM (f11_found_15 a1 a2 a3 M)) := by
  unfold f11_found_15
  refine r_ld (.aload_n 0) 1 2 0 (.ref 15) rfl rfl rfl rfl 1 rfl ?_
  refine q_const (.iconst 0) 1 rfl rfl rfl 2 (0) _ rfl cd_kj0 ?_
  refine q_wr w_PM (.putfield 95) 3 rfl rfl rfl 5 [] (cd_wI M 15 0 0) rfl (fun M1 => ?_)
  refine r_ld (.aload_n 0) 1 2 0 (.ref 15) rfl rfl rfl rfl 6 rfl ?_
  refine q_cV w_PM rfl (.invokevirtual 345) rfl rfl rfl 222 [.ref 15] [] rfl (k11_laysAll_15 M1) (fun M2 => ?_)
  refine r_ld (.iload_n 1) 1 0 1 (.int (a1)) rfl rfl rfl rfl 10 rfl ?_
  refine r_go (.i2l) 1 rfl rfl rfl 11 [.long (a1.toInt64)] rfl ?_
  refine r_go (.lconst 0) 1 rfl rfl rfl 12 [.long (0), .long (a1.toInt64)] rfl ?_
  refine r_ld (.aload_n 0) 1 2 0 (.ref 15) rfl rfl rfl rfl 13 rfl ?_
  refine r_go (.getfield 330) 3 rfl rfl rfl 16 [.int (M2.1 15 44), .long (0), .long (a1.toInt64)] rfl ?_
  refine q_const (.iconst 1) 1 rfl rfl rfl 17 (1) _ rfl cd_kj1 ?_
  refine r_go (.isub) 1 rfl rfl rfl 18 [.int ((M2.1 15 44) - 1), .long (0), .long (a1.toInt64)] rfl ?_
  refine r_go (.i2l) 1 rfl rfl rfl 19 [.long (((M2.1 15 44) - 1 : Int32).toInt64), .long (0), .long (a1.toInt64)] rfl ?_
  refine q_cTIz (.invokestatic 127) rfl rfl rfl 161 rfl [.long (a1.toInt64), .long (0), .long (((M2.1 15 44) - 1 : Int32).toInt64)] [] rfl (k11_within (a1.toInt64) 0 (((M2.1 15 44) - 1 : Int32).toInt64) M2) (fun z3 => ?_)
  refine q_br w_PM (.ifCond .eq 47) 3 rfl rfl rfl (f11_within (a1.toInt64) 0 (((M2.1 15 44) - 1 : Int32).toInt64) M2 = 0) 69 25 [] rfl (fun _ => ?_) (fun _ => ?_)
  · refine q_const (.iconst (-1)) 1 rfl rfl rfl 70 (-1) _ rfl cd_kjm1 ?_
    exact r_ret .ireturn 1 rfl rfl rfl _ rfl
  · refine r_ld (.iload_n 2) 1 0 2 (.int (a2)) rfl rfl rfl rfl 26 rfl ?_
    refine r_go (.i2l) 1 rfl rfl rfl 27 [.long (a2.toInt64)] rfl ?_
    refine r_go (.lconst 0) 1 rfl rfl rfl 28 [.long (0), .long (a2.toInt64)] rfl ?_
    refine r_go (.lconst 1) 1 rfl rfl rfl 29 [.long (1), .long (0), .long (a2.toInt64)] rfl ?_
    refine q_cTIz (.invokestatic 127) rfl rfl rfl 161 rfl [.long (a2.toInt64), .long (0), .long (1)] [] rfl (k11_within (a2.toInt64) 0 1 M2) (fun z4 => ?_)
    refine q_br w_PM (.ifCond .eq 37) 3 rfl rfl rfl (f11_within (a2.toInt64) 0 1 M2 = 0) 69 35 [] rfl (fun _ => ?_) (fun _ => ?_)
    · refine q_const (.iconst (-1)) 1 rfl rfl rfl 70 (-1) _ rfl cd_kjm1 ?_
      exact r_ret .ireturn 1 rfl rfl rfl _ rfl
    · refine r_ld (.iload_n 3) 1 0 3 (.int (a3)) rfl rfl rfl rfl 36 rfl ?_
      refine r_go (.i2l) 1 rfl rfl rfl 37 [.long (a3.toInt64)] rfl ?_
      refine r_go (.lconst 0) 1 rfl rfl rfl 38 [.long (0), .long (a3.toInt64)] rfl ?_
      refine r_ld (.aload_n 0) 1 2 0 (.ref 15) rfl rfl rfl rfl 39 rfl ?_
      refine r_go (.getfield 189) 3 rfl rfl rfl 42 [.int (M2.1 15 11), .long (0), .long (a3.toInt64)] rfl ?_
      refine q_const (.iconst 1) 1 rfl rfl rfl 43 (1) _ rfl cd_kj1 ?_
      refine r_go (.isub) 1 rfl rfl rfl 44 [.int ((M2.1 15 11) - 1), .long (0), .long (a3.toInt64)] rfl ?_
      refine r_go (.i2l) 1 rfl rfl rfl 45 [.long (((M2.1 15 11) - 1 : Int32).toInt64), .long (0), .long (a3.toInt64)] rfl ?_
      refine q_cTIz (.invokestatic 127) rfl rfl rfl 161 rfl [.long (a3.toInt64), .long (0), .long (((M2.1 15 11) - 1 : Int32).toInt64)] [] rfl (k11_within (a3.toInt64) 0 (((M2.1 15 11) - 1 : Int32).toInt64) M2) (fun z5 => ?_)
      refine q_br w_PM (.ifCond .eq 21) 3 rfl rfl rfl (f11_within (a3.toInt64) 0 (((M2.1 15 11) - 1 : Int32).toInt64) M2 = 0) 69 51 [] rfl (fun _ => ?_) (fun _ => ?_)
      · refine q_const (.iconst (-1)) 1 rfl rfl rfl 70 (-1) _ rfl cd_kjm1 ?_
        exact r_ret .ireturn 1 rfl rfl rfl _ rfl
      · refine r_ld (.aload_n 0) 1 2 0 (.ref 15) rfl rfl rfl rfl 52 rfl ?_
        refine r_ld (.aload_n 0) 1 2 0 (.ref 15) rfl rfl rfl rfl 53 rfl ?_
        refine r_go (.getfield 75) 3 rfl rfl rfl 56 [.ref 78, .ref 15] rfl ?_
        refine q_const (.iconst 2) 1 rfl rfl rfl 57 (2) _ rfl cd_kj2 ?_
        refine r_ld (.iload_n 1) 1 0 1 (.int (a1)) rfl rfl rfl rfl 58 rfl ?_
        refine r_go (.imul) 1 rfl rfl rfl 59 [.int (2 * a1), .ref 78, .ref 15] rfl ?_
        refine r_ld (.iload_n 2) 1 0 2 (.int (a2)) rfl rfl rfl rfl 60 rfl ?_
        refine r_go (.iadd) 1 rfl rfl rfl 61 [.int ((2 * a1) + a2), .ref 78, .ref 15] rfl ?_
        refine q_iald w_PM rfl rfl 78 180 rfl ?_
        refine r_ld (.iload_n 3) 1 0 3 (.int (a3)) rfl rfl rfl rfl 63 rfl ?_
        refine q_cI w_PM rfl (.invokevirtual 247) rfl rfl rfl 191 [.ref 15, .int (M2.1 78 ((2 * a1) + a2 : Int32).toNatClampNeg), .int (a3)] [] rfl (k11_sample_15 (M2.1 78 ((2 * a1) + a2 : Int32).toNatClampNeg) a3 M2) (fun v6 => ?_)
        refine r_go (.goto 4) 3 rfl rfl rfl 70 [.int (v6)] rfl ?_
        exact r_ret .ireturn 1 rfl rfl rfl _ rfl
def f11_areSame_15_L10 (r2 : Int32 → Int32 → Int32 → cd_M → Option (Int32)) : Nat → Int32 → Int32 → Int32 → Int32 → cd_M → Option (Int32)
  | 0, _, _, _, _, _ => none
  | n + 1, a1, a2, a3, a4, M => if M.1 15 11 ≤ a4 then (cd_lt (a3 + (1)) fun x1 => r2 a1 a2 x1 M) else (if cd_in (f11_filmAt a1 a3 a4 M) 240 = true then (if cd_in ((2 * a2) + a3) 180 = true then ((f11_sample_15 (M.1 78 ((2 * a2) + a3 : Int32).toNatClampNeg) a4 M).bind fun v2 => if M.1 58 (f11_filmAt a1 a3 a4 M : Int32).toNatClampNeg = v2 then (cd_lt (a4 + (1)) fun x3 => f11_areSame_15_L10 r2 n a1 a2 a3 x3 M) else (some 0)) else none) else none)
set_option maxRecDepth 8000 in
theorem k11_areSame_15_L10 (r2 : Int32 → Int32 → Int32 → cd_M → Option (Int32)) (h2 : ∀ (a1 : Int32) (a2 : Int32) (a3 : Int32) (M : cd_M), cd_R 228 2 [some (.ref 15), some (.int (a1)), some (.int (a2)), some (.int (a3)), none] [] M ((w_PI M) (r2 a1 a2 a3 M))) : ∀ (n : Nat) (a1 : Int32) (a2 : Int32) (a3 : Int32) (a4 : Int32) (M : cd_M), cd_R 228 10 [some (.ref 15), some (.int (a1)), some (.int (a2)), some (.int (a3)), some (.int (a4))] [] M ((w_PI M) (f11_areSame_15_L10 r2 n a1 a2 a3 a4 M)) := by
  intro n
  induction n with
  | zero =>
    intro a1 a2 a3 a4 M
    exact q_none (w_PI M) rfl
  | succ n ih =>
    intro a1 a2 a3 a4 M
    rw [f11_areSame_15_L10]
    refine r_ld (.iload 4) 2 0 4 (.int (a4)) rfl rfl rfl rfl 12 rfl ?_
    refine r_ld (.aload_n 0) 1 2 0 (.ref 15) rfl rfl rfl rfl 13 rfl ?_
    refine r_go (.getfield 189) 3 rfl rfl rfl 16 [.int (M.1 15 11), .int (a4)] rfl ?_
    refine q_br (w_PI M) (.if_icmp .ge 42) 3 rfl rfl rfl (M.1 15 11 ≤ a4) 58 19 [] rfl (fun _ => ?_) (fun _ => ?_)
    · refine q_inc (w_PI M) 3 (1) (a3) rfl rfl rfl 61 rfl (1) cd_kj1 (fun x1 => [some (.ref 15), some (.int (a1)), some (.int (a2)), some (.int (x1)), some (.int (a4))]) (fun _ => rfl) (fun x1 => ?_)
      refine r_go (.goto (-59)) 3 rfl rfl rfl 2 [] rfl ?_
      exact r_w (h2 a1 a2 x1 M) (cd_le_s (cd_le_s (cd_le_s (cd_le_s (cd_le_n cd_le_0)))))
    · refine r_ld (.aload_n 0) 1 2 0 (.ref 15) rfl rfl rfl rfl 20 rfl ?_
      refine r_go (.getfield 13) 3 rfl rfl rfl 23 [.ref 58] rfl ?_
      refine r_ld (.iload_n 1) 1 0 1 (.int (a1)) rfl rfl rfl rfl 24 rfl ?_
      refine r_ld (.iload_n 3) 1 0 3 (.int (a3)) rfl rfl rfl rfl 25 rfl ?_
      refine r_ld (.iload 4) 2 0 4 (.int (a4)) rfl rfl rfl rfl 27 rfl ?_
      refine q_cTI (.invokestatic 169) rfl rfl rfl 173 [.int (a1), .int (a3), .int (a4)] [.ref 58] rfl (k11_filmAt a1 a3 a4 M) ?_
      refine q_iald (w_PI M) rfl rfl 58 240 rfl ?_
      refine r_ld (.aload_n 0) 1 2 0 (.ref 15) rfl rfl rfl rfl 32 rfl ?_
      refine r_ld (.aload_n 0) 1 2 0 (.ref 15) rfl rfl rfl rfl 33 rfl ?_
      refine r_go (.getfield 75) 3 rfl rfl rfl 36 [.ref 78, .ref 15, .int (M.1 58 (f11_filmAt a1 a3 a4 M : Int32).toNatClampNeg)] rfl ?_
      refine q_const (.iconst 2) 1 rfl rfl rfl 37 (2) _ rfl cd_kj2 ?_
      refine r_ld (.iload_n 2) 1 0 2 (.int (a2)) rfl rfl rfl rfl 38 rfl ?_
      refine r_go (.imul) 1 rfl rfl rfl 39 [.int (2 * a2), .ref 78, .ref 15, .int (M.1 58 (f11_filmAt a1 a3 a4 M : Int32).toNatClampNeg)] rfl ?_
      refine r_ld (.iload_n 3) 1 0 3 (.int (a3)) rfl rfl rfl rfl 40 rfl ?_
      refine r_go (.iadd) 1 rfl rfl rfl 41 [.int ((2 * a2) + a3), .ref 78, .ref 15, .int (M.1 58 (f11_filmAt a1 a3 a4 M : Int32).toNatClampNeg)] rfl ?_
      refine q_iald (w_PI M) rfl rfl 78 180 rfl ?_
      refine r_ld (.iload 4) 2 0 4 (.int (a4)) rfl rfl rfl rfl 44 rfl ?_
      refine q_cI (w_PI M) rfl (.invokevirtual 247) rfl rfl rfl 191 [.ref 15, .int (M.1 78 ((2 * a2) + a3 : Int32).toNatClampNeg), .int (a4)] [.int (M.1 58 (f11_filmAt a1 a3 a4 M : Int32).toNatClampNeg)] rfl (k11_sample_15 (M.1 78 ((2 * a2) + a3 : Int32).toNatClampNeg) a4 M) (fun v2 => ?_)
      refine q_br (w_PI M) (.if_icmp .eq 5) 3 rfl rfl rfl (M.1 58 (f11_filmAt a1 a3 a4 M : Int32).toNatClampNeg = v2) 52 50 [] rfl (fun _ => ?_) (fun _ => ?_)
      · refine q_inc (w_PI M) 4 (1) (a4) rfl rfl rfl 55 rfl (1) cd_kj1 (fun x3 => [some (.ref 15), some (.int (a1)), some (.int (a2)), some (.int (a3)), some (.int (x3))]) (fun _ => rfl) (fun x3 => ?_)
        refine r_go (.goto (-45)) 3 rfl rfl rfl 10 [] rfl ?_
        exact r_w (ih a1 a2 a3 x3 M) (cd_le_s (cd_le_s (cd_le_s (cd_le_s (cd_le_s cd_le_0)))))
      · refine q_const (.iconst 0) 1 rfl rfl rfl 51 (0) _ rfl cd_kj0 ?_
        exact r_retZ rfl rfl (by decide)
def f11_areSame_15_L2 : Nat → Int32 → Int32 → Int32 → cd_M → Option (Int32)
  | 0, _, _, _, _ => none
  | n + 1, a1, a2, a3, M => if 2 ≤ a3 then (some 1) else (f11_areSame_15_L10 (f11_areSame_15_L2 n) cd_fu a1 a2 a3 0 M)
set_option maxRecDepth 8000 in
theorem k11_areSame_15_L2 : ∀ (n : Nat) (a1 : Int32) (a2 : Int32) (a3 : Int32) (M : cd_M), cd_R 228 2 [some (.ref 15), some (.int (a1)), some (.int (a2)), some (.int (a3)), none] [] M ((w_PI M) (f11_areSame_15_L2 n a1 a2 a3 M)) := by
  intro n
  induction n with
  | zero =>
    intro a1 a2 a3 M
    exact q_none (w_PI M) rfl
  | succ n ih =>
    intro a1 a2 a3 M
    rw [f11_areSame_15_L2]
    refine r_ld (.iload_n 3) 1 0 3 (.int (a3)) rfl rfl rfl rfl 3 rfl ?_
    refine q_const (.iconst 2) 1 rfl rfl rfl 4 (2) _ rfl cd_kj2 ?_
    refine q_br (w_PI M) (.if_icmp .ge 60) 3 rfl rfl rfl (2 ≤ a3) 64 7 [] rfl (fun _ => ?_) (fun _ => ?_)
    · refine q_const (.iconst 1) 1 rfl rfl rfl 65 (1) _ rfl cd_kj1 ?_
      exact r_retZ rfl rfl (by decide)
    · refine q_const (.iconst 0) 1 rfl rfl rfl 8 (0) _ rfl cd_kj0 ?_
      refine r_st (.istore 4) 2 0 4 rfl rfl rfl 10 rfl [some (.ref 15), some (.int (a1)), some (.int (a2)), some (.int (a3)), some (.int (0))] rfl ?_
      exact r_w (k11_areSame_15_L10 (f11_areSame_15_L2 n) ih cd_fu a1 a2 a3 0 M) (cd_le_s (cd_le_s (cd_le_s (cd_le_s (cd_le_s cd_le_0)))))
def f11_areSame_15 (a1 : Int32) (a2 : Int32) (M : cd_M) : Option (Int32) := f11_areSame_15_L2 cd_fu a1 a2 0 M
set_option maxRecDepth 8000 in
theorem k11_areSame_15 (a1 : Int32) (a2 : Int32) (M : cd_M) : cd_R 228 0 [some (.ref 15), some (.int (a1)), some (.int (a2)), none, none] [] M ((w_PI M) (f11_areSame_15 a1 a2 M)) := by
  unfold f11_areSame_15
  refine q_const (.iconst 0) 1 rfl rfl rfl 1 (0) _ rfl cd_kj0 ?_
  refine r_st (.istore_n 3) 1 0 3 rfl rfl rfl 2 rfl [some (.ref 15), some (.int (a1)), some (.int (a2)), some (.int (0)), none] rfl ?_
  exact r_w (k11_areSame_15_L2 cd_fu a1 a2 0 M) (cd_le_s (cd_le_s (cd_le_s (cd_le_s (cd_le_n cd_le_0)))))
def f11_known_15_L29 : Nat → Int32 → Int32 → cd_M → Option (Int32 × cd_M)
  | 0, _, _, _ => none
  | n + 1, a1, a2, M => if M.1 15 12 ≤ a2 then (some ((-1), M)) else ((f11_areSame_15 a2 a1 M).bind fun v4 => if v4 = 0 then (cd_lt (a2 + (1)) fun x6 => f11_known_15_L29 n a1 x6 M) else (some (a2, M)))
set_option maxRecDepth 8000 in
theorem k11_known_15_L29 : ∀ (n : Nat) (a1 : Int32) (a2 : Int32) (M : cd_M), cd_R 229 29 [some (.ref 15), some (.int (a1)), some (.int (a2))] [] M (w_PM (f11_known_15_L29 n a1 a2 M)) := by
  intro n
  induction n with
  | zero =>
    intro a1 a2 M
    exact q_none w_PM rfl
  | succ n ih =>
    intro a1 a2 M
    rw [f11_known_15_L29]
    refine r_ld (.iload_n 2) 1 0 2 (.int (a2)) rfl rfl rfl rfl 30 rfl ?_
    refine r_ld (.aload_n 0) 1 2 0 (.ref 15) rfl rfl rfl rfl 31 rfl ?_
    refine r_go (.getfield 192) 3 rfl rfl rfl 34 [.int (M.1 15 12), .int (a2)] rfl ?_
    refine q_br w_PM (.if_icmp .ge 20) 3 rfl rfl rfl (M.1 15 12 ≤ a2) 54 37 [] rfl (fun _ => ?_) (fun _ => ?_)
    · refine q_const (.iconst (-1)) 1 rfl rfl rfl 55 (-1) _ rfl cd_kjm1 ?_
      exact r_ret .ireturn 1 rfl rfl rfl _ rfl
    · refine r_ld (.aload_n 0) 1 2 0 (.ref 15) rfl rfl rfl rfl 38 rfl ?_
      refine r_ld (.iload_n 2) 1 0 2 (.int (a2)) rfl rfl rfl rfl 39 rfl ?_
      refine r_ld (.iload_n 1) 1 0 1 (.int (a1)) rfl rfl rfl rfl 40 rfl ?_
      refine q_cIz w_PM rfl (.invokevirtual 348) rfl rfl rfl 228 rfl [.ref 15, .int (a2), .int (a1)] [] rfl (k11_areSame_15 a2 a1 M) (fun v4 z5 => ?_)
      refine q_br w_PM (.ifCond .eq 5) 3 rfl rfl rfl (v4 = 0) 48 46 [] rfl (fun _ => ?_) (fun _ => ?_)
      · refine q_inc w_PM 2 (1) (a2) rfl rfl rfl 51 rfl (1) cd_kj1 (fun x6 => [some (.ref 15), some (.int (a1)), some (.int (x6))]) (fun _ => rfl) (fun x6 => ?_)
        refine r_go (.goto (-22)) 3 rfl rfl rfl 29 [] rfl ?_
        exact r_w (ih a1 x6 M) (cd_le_s (cd_le_s (cd_le_s cd_le_0)))
      · refine r_ld (.iload_n 2) 1 0 2 (.int (a2)) rfl rfl rfl rfl 47 rfl ?_
        exact r_ret .ireturn 1 rfl rfl rfl _ rfl
def f11_known_15 (a1 : Int32) (M : cd_M) : Option (Int32 × cd_M) := cd_lt (cd_wI M 15 0 0) fun M1 => (f11_laysAll_15 M1).bind fun M2 => if f11_within (a1.toInt64) 0 (((M2.1 15 44) - 1 : Int32).toInt64) M2 = 0 then (some ((-1), M2)) else (f11_known_15_L29 cd_fu a1 0 M2)
set_option maxRecDepth 8000 in
theorem k11_known_15 (a1 : Int32) (M : cd_M) : cd_R 229 0 [some (.ref 15), some (.int (a1)), none] [] M (w_PM (f11_known_15 a1 M)) := by
  unfold f11_known_15
  refine r_ld (.aload_n 0) 1 2 0 (.ref 15) rfl rfl rfl rfl 1 rfl ?_
  refine q_const (.iconst 0) 1 rfl rfl rfl 2 (0) _ rfl cd_kj0 ?_
  refine q_wr w_PM (.putfield 95) 3 rfl rfl rfl 5 [] (cd_wI M 15 0 0) rfl (fun M1 => ?_)
  refine r_ld (.aload_n 0) 1 2 0 (.ref 15) rfl rfl rfl rfl 6 rfl ?_
  refine q_cV w_PM rfl (.invokevirtual 345) rfl rfl rfl 222 [.ref 15] [] rfl (k11_laysAll_15 M1) (fun M2 => ?_)
  refine r_ld (.iload_n 1) 1 0 1 (.int (a1)) rfl rfl rfl rfl 10 rfl ?_
  refine r_go (.i2l) 1 rfl rfl rfl 11 [.long (a1.toInt64)] rfl ?_
  refine r_go (.lconst 0) 1 rfl rfl rfl 12 [.long (0), .long (a1.toInt64)] rfl ?_
  refine r_ld (.aload_n 0) 1 2 0 (.ref 15) rfl rfl rfl rfl 13 rfl ?_
  refine r_go (.getfield 330) 3 rfl rfl rfl 16 [.int (M2.1 15 44), .long (0), .long (a1.toInt64)] rfl ?_
  refine q_const (.iconst 1) 1 rfl rfl rfl 17 (1) _ rfl cd_kj1 ?_
  refine r_go (.isub) 1 rfl rfl rfl 18 [.int ((M2.1 15 44) - 1), .long (0), .long (a1.toInt64)] rfl ?_
  refine r_go (.i2l) 1 rfl rfl rfl 19 [.long (((M2.1 15 44) - 1 : Int32).toInt64), .long (0), .long (a1.toInt64)] rfl ?_
  refine q_cTIz (.invokestatic 127) rfl rfl rfl 161 rfl [.long (a1.toInt64), .long (0), .long (((M2.1 15 44) - 1 : Int32).toInt64)] [] rfl (k11_within (a1.toInt64) 0 (((M2.1 15 44) - 1 : Int32).toInt64) M2) (fun z3 => ?_)
  refine q_br w_PM (.ifCond .ne 5) 3 rfl rfl rfl (f11_within (a1.toInt64) 0 (((M2.1 15 44) - 1 : Int32).toInt64) M2 = 0) 25 27 [] rfl (fun _ => ?_) (fun _ => ?_)
  · refine q_const (.iconst (-1)) 1 rfl rfl rfl 26 (-1) _ rfl cd_kjm1 ?_
    exact r_ret .ireturn 1 rfl rfl rfl _ rfl
  · refine q_const (.iconst 0) 1 rfl rfl rfl 28 (0) _ rfl cd_kj0 ?_
    refine r_st (.istore_n 2) 1 0 2 rfl rfl rfl 29 rfl [some (.ref 15), some (.int (a1)), some (.int (0))] rfl ?_
    exact r_w (k11_known_15_L29 cd_fu a1 0 M2) (cd_le_s (cd_le_s (cd_le_s cd_le_0)))
def f11_restored_15_L125 (r43 : Int32 → cd_M → Option (Int32 × cd_M)) (r55 : Int32 → Int32 → Int32 → cd_M → Option (Int32 × cd_M)) (a1 : Int32) (a3 : Int32) (a4 : Int32) (M : cd_M) : Option (Int32 × cd_M) := cd_lt (a3 + (1)) fun x7 => r55 a1 a4 x7 M
set_option maxRecDepth 8000 in
theorem k11_restored_15_L125 (r43 : Int32 → cd_M → Option (Int32 × cd_M)) (h43 : ∀ (a1 : Int32) (M : cd_M), cd_R 230 43 [some (.ref 15), some (.int (a1)), none, none, none] [] M (w_PM (r43 a1 M))) (r55 : Int32 → Int32 → Int32 → cd_M → Option (Int32 × cd_M)) (h55 : ∀ (a1 : Int32) (a2 : Int32) (a3 : Int32) (M : cd_M), cd_R 230 55 [some (.ref 15), some (.int (a1)), some (.int (a2)), some (.int (a3)), none] [] M (w_PM (r55 a1 a2 a3 M))) (a1 : Int32) (a3 : Int32) (a4 : Int32) (M : cd_M) : cd_R 230 125 [some (.ref 15), some (.int (a1)), none, some (.int (a3)), some (.int (a4))] [] M (w_PM (f11_restored_15_L125 r43 r55 a1 a3 a4 M)) := by
  unfold f11_restored_15_L125
  refine r_ld (.iload 4) 2 0 4 (.int (a4)) rfl rfl rfl rfl 127 rfl ?_
  refine r_st (.istore_n 2) 1 0 2 rfl rfl rfl 128 rfl [some (.ref 15), some (.int (a1)), some (.int (a4)), some (.int (a3)), some (.int (a4))] rfl ?_
  refine q_inc w_PM 3 (1) (a3) rfl rfl rfl 131 rfl (1) cd_kj1 (fun x7 => [some (.ref 15), some (.int (a1)), some (.int (a4)), some (.int (x7)), some (.int (a4))]) (fun _ => rfl) (fun x7 => ?_)
  refine r_go (.goto (-76)) 3 rfl rfl rfl 55 [] rfl ?_
  exact r_w (h55 a1 a4 x7 M) (cd_le_s (cd_le_s (cd_le_s (cd_le_s (cd_le_n cd_le_0)))))
def f11_restored_15_L55 (r43 : Int32 → cd_M → Option (Int32 × cd_M)) : Nat → Int32 → Int32 → Int32 → cd_M → Option (Int32 × cd_M)
  | 0, _, _, _, _ => none
  | n + 1, a1, a2, a3, M => if M.1 15 44 < a3 then (cd_lt (a1 + (1)) fun x3 => r43 x3 M) else (if cd_in a3 91 = true then (cd_lt (M.1 79 a3.toNatClampNeg) fun x4 => (f11_areSame_15 a1 (a3 - 1) M).bind fun v5 => if v5 = 0 then (if cd_in (a3 - 1) 91 = true then (if cd_in a3 91 = true then (if M.1 79 (a3 - 1 : Int32).toNatClampNeg ≤ M.1 79 a3.toNatClampNeg then (f11_restored_15_L125 r43 (f11_restored_15_L55 r43 n) a1 a3 x4 M) else (if cd_in (a3 - 1) 91 = true then (if cd_in a3 91 = true then (cd_lt (cd_wI M 79 a3.toNatClampNeg (M.1 79 (a3 - 1 : Int32).toNatClampNeg)) fun M8 => f11_restored_15_L125 r43 (f11_restored_15_L55 r43 n) a1 a3 x4 M8) else none) else none)) else none) else none) else (if cd_in a3 91 = true then (cd_lt (cd_wI M 79 a3.toNatClampNeg (a2 + 1)) fun M9 => f11_restored_15_L125 r43 (f11_restored_15_L55 r43 n) a1 a3 x4 M9) else none)) else none)
set_option maxRecDepth 8000 in
theorem k11_restored_15_L55 (r43 : Int32 → cd_M → Option (Int32 × cd_M)) (h43 : ∀ (a1 : Int32) (M : cd_M), cd_R 230 43 [some (.ref 15), some (.int (a1)), none, none, none] [] M (w_PM (r43 a1 M))) : ∀ (n : Nat) (a1 : Int32) (a2 : Int32) (a3 : Int32) (M : cd_M), cd_R 230 55 [some (.ref 15), some (.int (a1)), some (.int (a2)), some (.int (a3)), none] [] M (w_PM (f11_restored_15_L55 r43 n a1 a2 a3 M)) := by
  intro n
  induction n with
  | zero =>
    intro a1 a2 a3 M
    exact q_none w_PM rfl
  | succ n ih =>
    intro a1 a2 a3 M
    rw [f11_restored_15_L55]
    refine r_ld (.iload_n 3) 1 0 3 (.int (a3)) rfl rfl rfl rfl 56 rfl ?_
    refine r_ld (.aload_n 0) 1 2 0 (.ref 15) rfl rfl rfl rfl 57 rfl ?_
    refine r_go (.getfield 330) 3 rfl rfl rfl 60 [.int (M.1 15 44), .int (a3)] rfl ?_
    refine q_br w_PM (.if_icmp .gt 74) 3 rfl rfl rfl (M.1 15 44 < a3) 134 63 [] rfl (fun _ => ?_) (fun _ => ?_)
    · refine q_inc w_PM 1 (1) (a1) rfl rfl rfl 137 rfl (1) cd_kj1 (fun x3 => [some (.ref 15), some (.int (x3)), some (.int (a2)), some (.int (a3)), none]) (fun _ => rfl) (fun x3 => ?_)
      refine r_go (.goto (-94)) 3 rfl rfl rfl 43 [] rfl ?_
      exact r_w (h43 x3 M) (cd_le_s (cd_le_s (cd_le_n (cd_le_n (cd_le_n cd_le_0)))))
    · refine r_ld (.aload_n 0) 1 2 0 (.ref 15) rfl rfl rfl rfl 64 rfl ?_
      refine r_go (.getfield 78) 3 rfl rfl rfl 67 [.ref 79] rfl ?_
      refine r_ld (.iload_n 3) 1 0 3 (.int (a3)) rfl rfl rfl rfl 68 rfl ?_
      refine q_iald w_PM rfl rfl 79 91 rfl ?_
      refine q_stB w_PM (.istore 4) 2 0 4 rfl rfl (fun _ => rfl) 71 rfl (fun x4 => [some (.ref 15), some (.int (a1)), some (.int (a2)), some (.int (a3)), some (.int (x4))]) (fun _ => rfl) (fun x4 => ?_)
      refine r_ld (.aload_n 0) 1 2 0 (.ref 15) rfl rfl rfl rfl 72 rfl ?_
      refine r_ld (.iload_n 1) 1 0 1 (.int (a1)) rfl rfl rfl rfl 73 rfl ?_
      refine r_ld (.iload_n 3) 1 0 3 (.int (a3)) rfl rfl rfl rfl 74 rfl ?_
      refine q_const (.iconst 1) 1 rfl rfl rfl 75 (1) _ rfl cd_kj1 ?_
      refine r_go (.isub) 1 rfl rfl rfl 76 [.int (a3 - 1), .int (a1), .ref 15] rfl ?_
      refine q_cIz w_PM rfl (.invokevirtual 348) rfl rfl rfl 228 rfl [.ref 15, .int (a1), .int (a3 - 1)] [] rfl (k11_areSame_15 a1 (a3 - 1) M) (fun v5 z6 => ?_)
      refine q_br w_PM (.ifCond .eq 15) 3 rfl rfl rfl (v5 = 0) 94 82 [] rfl (fun _ => ?_) (fun _ => ?_)
      · refine r_ld (.aload_n 0) 1 2 0 (.ref 15) rfl rfl rfl rfl 95 rfl ?_
        refine r_go (.getfield 78) 3 rfl rfl rfl 98 [.ref 79] rfl ?_
        refine r_ld (.iload_n 3) 1 0 3 (.int (a3)) rfl rfl rfl rfl 99 rfl ?_
        refine q_const (.iconst 1) 1 rfl rfl rfl 100 (1) _ rfl cd_kj1 ?_
        refine r_go (.isub) 1 rfl rfl rfl 101 [.int (a3 - 1), .ref 79] rfl ?_
        refine q_iald w_PM rfl rfl 79 91 rfl ?_
        refine r_ld (.aload_n 0) 1 2 0 (.ref 15) rfl rfl rfl rfl 103 rfl ?_
        refine r_go (.getfield 78) 3 rfl rfl rfl 106 [.ref 79, .int (M.1 79 (a3 - 1 : Int32).toNatClampNeg)] rfl ?_
        refine r_ld (.iload_n 3) 1 0 3 (.int (a3)) rfl rfl rfl rfl 107 rfl ?_
        refine q_iald w_PM rfl rfl 79 91 rfl ?_
        refine q_br w_PM (.if_icmp .le 17) 3 rfl rfl rfl (M.1 79 (a3 - 1 : Int32).toNatClampNeg ≤ M.1 79 a3.toNatClampNeg) 125 111 [] rfl (fun _ => ?_) (fun _ => ?_)
        · exact r_w (k11_restored_15_L125 r43 h43 (f11_restored_15_L55 r43 n) ih a1 a3 x4 M) (cd_le_s (cd_le_s (cd_le_n (cd_le_s (cd_le_s cd_le_0)))))
        · refine r_ld (.aload_n 0) 1 2 0 (.ref 15) rfl rfl rfl rfl 112 rfl ?_
          refine r_go (.getfield 78) 3 rfl rfl rfl 115 [.ref 79] rfl ?_
          refine r_ld (.iload_n 3) 1 0 3 (.int (a3)) rfl rfl rfl rfl 116 rfl ?_
          refine r_ld (.aload_n 0) 1 2 0 (.ref 15) rfl rfl rfl rfl 117 rfl ?_
          refine r_go (.getfield 78) 3 rfl rfl rfl 120 [.ref 79, .int (a3), .ref 79] rfl ?_
          refine r_ld (.iload_n 3) 1 0 3 (.int (a3)) rfl rfl rfl rfl 121 rfl ?_
          refine q_const (.iconst 1) 1 rfl rfl rfl 122 (1) _ rfl cd_kj1 ?_
          refine r_go (.isub) 1 rfl rfl rfl 123 [.int (a3 - 1), .ref 79, .int (a3), .ref 79] rfl ?_
          refine q_iald w_PM rfl rfl 79 91 rfl ?_
          refine q_iast w_PM rfl rfl 79 91 rfl (fun M8 => ?_)
          exact r_w (k11_restored_15_L125 r43 h43 (f11_restored_15_L55 r43 n) ih a1 a3 x4 M8) (cd_le_s (cd_le_s (cd_le_n (cd_le_s (cd_le_s cd_le_0)))))
      · refine r_ld (.aload_n 0) 1 2 0 (.ref 15) rfl rfl rfl rfl 83 rfl ?_
        refine r_go (.getfield 78) 3 rfl rfl rfl 86 [.ref 79] rfl ?_
        refine r_ld (.iload_n 3) 1 0 3 (.int (a3)) rfl rfl rfl rfl 87 rfl ?_
        refine r_ld (.iload_n 2) 1 0 2 (.int (a2)) rfl rfl rfl rfl 88 rfl ?_
        refine q_const (.iconst 1) 1 rfl rfl rfl 89 (1) _ rfl cd_kj1 ?_
        refine r_go (.iadd) 1 rfl rfl rfl 90 [.int (a2 + 1), .int (a3), .ref 79] rfl ?_
        refine q_iast w_PM rfl rfl 79 91 rfl (fun M9 => ?_)
        refine r_go (.goto 34) 3 rfl rfl rfl 125 [] rfl ?_
        exact r_w (k11_restored_15_L125 r43 h43 (f11_restored_15_L55 r43 n) ih a1 a3 x4 M9) (cd_le_s (cd_le_s (cd_le_n (cd_le_s (cd_le_s cd_le_0)))))
def f11_restored_15_L43 : Nat → Int32 → cd_M → Option (Int32 × cd_M)
  | 0, _, _ => none
  | n + 1, a1, M => if M.1 15 12 ≤ a1 then (if cd_in (M.1 15 44) 91 = true then (some (M.1 79 (M.1 15 44 : Int32).toNatClampNeg, M)) else none) else (f11_restored_15_L55 (f11_restored_15_L43 n) cd_fu a1 0 1 M)
set_option maxRecDepth 8000 in
theorem k11_restored_15_L43 : ∀ (n : Nat) (a1 : Int32) (M : cd_M), cd_R 230 43 [some (.ref 15), some (.int (a1)), none, none, none] [] M (w_PM (f11_restored_15_L43 n a1 M)) := by
  intro n
  induction n with
  | zero =>
    intro a1 M
    exact q_none w_PM rfl
  | succ n ih =>
    intro a1 M
    rw [f11_restored_15_L43]
    refine r_ld (.iload_n 1) 1 0 1 (.int (a1)) rfl rfl rfl rfl 44 rfl ?_
    refine r_ld (.aload_n 0) 1 2 0 (.ref 15) rfl rfl rfl rfl 45 rfl ?_
    refine r_go (.getfield 192) 3 rfl rfl rfl 48 [.int (M.1 15 12), .int (a1)] rfl ?_
    refine q_br w_PM (.if_icmp .ge 92) 3 rfl rfl rfl (M.1 15 12 ≤ a1) 140 51 [] rfl (fun _ => ?_) (fun _ => ?_)
    · refine r_ld (.aload_n 0) 1 2 0 (.ref 15) rfl rfl rfl rfl 141 rfl ?_
      refine r_go (.getfield 78) 3 rfl rfl rfl 144 [.ref 79] rfl ?_
      refine r_ld (.aload_n 0) 1 2 0 (.ref 15) rfl rfl rfl rfl 145 rfl ?_
      refine r_go (.getfield 330) 3 rfl rfl rfl 148 [.int (M.1 15 44), .ref 79] rfl ?_
      refine q_iald w_PM rfl rfl 79 91 rfl ?_
      exact r_ret .ireturn 1 rfl rfl rfl _ rfl
    · refine q_const (.iconst 0) 1 rfl rfl rfl 52 (0) _ rfl cd_kj0 ?_
      refine r_st (.istore_n 2) 1 0 2 rfl rfl rfl 53 rfl [some (.ref 15), some (.int (a1)), some (.int (0)), none, none] rfl ?_
      refine q_const (.iconst 1) 1 rfl rfl rfl 54 (1) _ rfl cd_kj1 ?_
      refine r_st (.istore_n 3) 1 0 3 rfl rfl rfl 55 rfl [some (.ref 15), some (.int (a1)), some (.int (0)), some (.int (1)), none] rfl ?_
      exact r_w (k11_restored_15_L55 (f11_restored_15_L43 n) ih cd_fu a1 0 1 M) (cd_le_s (cd_le_s (cd_le_s (cd_le_s (cd_le_n cd_le_0)))))
def f11_restored_15_L20 : Nat → Int32 → cd_M → Option (Int32 × cd_M)
  | 0, _, _ => none
  | n + 1, a1, M => if M.1 15 44 < a1 then (f11_restored_15_L43 cd_fu 0 M) else (if cd_in a1 91 = true then (cd_lt (cd_wI M 79 a1.toNatClampNeg 0) fun M10 => cd_lt (a1 + (1)) fun x11 => f11_restored_15_L20 n x11 M10) else none)
set_option maxRecDepth 8000 in
theorem k11_restored_15_L20 : ∀ (n : Nat) (a1 : Int32) (M : cd_M), cd_R 230 20 [some (.ref 15), some (.int (a1)), none, none, none] [] M (w_PM (f11_restored_15_L20 n a1 M)) := by
  intro n
  induction n with
  | zero =>
    intro a1 M
    exact q_none w_PM rfl
  | succ n ih =>
    intro a1 M
    rw [f11_restored_15_L20]
    refine r_ld (.iload_n 1) 1 0 1 (.int (a1)) rfl rfl rfl rfl 21 rfl ?_
    refine r_ld (.aload_n 0) 1 2 0 (.ref 15) rfl rfl rfl rfl 22 rfl ?_
    refine r_go (.getfield 330) 3 rfl rfl rfl 25 [.int (M.1 15 44), .int (a1)] rfl ?_
    refine q_br w_PM (.if_icmp .gt 16) 3 rfl rfl rfl (M.1 15 44 < a1) 41 28 [] rfl (fun _ => ?_) (fun _ => ?_)
    · refine q_const (.iconst 0) 1 rfl rfl rfl 42 (0) _ rfl cd_kj0 ?_
      refine r_st (.istore_n 1) 1 0 1 rfl rfl rfl 43 rfl [some (.ref 15), some (.int (0)), none, none, none] rfl ?_
      exact r_w (k11_restored_15_L43 cd_fu 0 M) (cd_le_s (cd_le_s (cd_le_n (cd_le_n (cd_le_n cd_le_0)))))
    · refine r_ld (.aload_n 0) 1 2 0 (.ref 15) rfl rfl rfl rfl 29 rfl ?_
      refine r_go (.getfield 78) 3 rfl rfl rfl 32 [.ref 79] rfl ?_
      refine r_ld (.iload_n 1) 1 0 1 (.int (a1)) rfl rfl rfl rfl 33 rfl ?_
      refine q_const (.iconst 0) 1 rfl rfl rfl 34 (0) _ rfl cd_kj0 ?_
      refine q_iast w_PM rfl rfl 79 91 rfl (fun M10 => ?_)
      refine q_inc w_PM 1 (1) (a1) rfl rfl rfl 38 rfl (1) cd_kj1 (fun x11 => [some (.ref 15), some (.int (x11)), none, none, none]) (fun _ => rfl) (fun x11 => ?_)
      refine r_go (.goto (-18)) 3 rfl rfl rfl 20 [] rfl ?_
      exact r_w (ih x11 M10) (cd_le_s (cd_le_s (cd_le_n (cd_le_n (cd_le_n cd_le_0)))))
def f11_restored_15 (M : cd_M) : Option (Int32 × cd_M) := cd_lt (cd_wI M 15 0 0) fun M1 => if M1.1 15 12 = 0 then (some ((-1), M1)) else ((f11_laysAll_15 M1).bind fun M2 => f11_restored_15_L20 cd_fu 0 M2)
set_option maxRecDepth 8000 in
theorem k11_restored_15 (M : cd_M) : cd_R 230 0 [some (.ref 15), none, none, none, none] [] M (w_PM (f11_restored_15 M)) := by
  unfold f11_restored_15
  refine r_ld (.aload_n 0) 1 2 0 (.ref 15) rfl rfl rfl rfl 1 rfl ?_
  refine q_const (.iconst 0) 1 rfl rfl rfl 2 (0) _ rfl cd_kj0 ?_
  refine q_wr w_PM (.putfield 95) 3 rfl rfl rfl 5 [] (cd_wI M 15 0 0) rfl (fun M1 => ?_)
  refine r_ld (.aload_n 0) 1 2 0 (.ref 15) rfl rfl rfl rfl 6 rfl ?_
  refine r_go (.getfield 192) 3 rfl rfl rfl 9 [.int (M1.1 15 12)] rfl ?_
  refine q_br w_PM (.ifCond .ne 5) 3 rfl rfl rfl (M1.1 15 12 = 0) 12 14 [] rfl (fun _ => ?_) (fun _ => ?_)
  · refine q_const (.iconst (-1)) 1 rfl rfl rfl 13 (-1) _ rfl cd_kjm1 ?_
    exact r_ret .ireturn 1 rfl rfl rfl _ rfl
  · refine r_ld (.aload_n 0) 1 2 0 (.ref 15) rfl rfl rfl rfl 15 rfl ?_
    refine q_cV w_PM rfl (.invokevirtual 345) rfl rfl rfl 222 [.ref 15] [] rfl (k11_laysAll_15 M1) (fun M2 => ?_)
    refine q_const (.iconst 0) 1 rfl rfl rfl 19 (0) _ rfl cd_kj0 ?_
    refine r_st (.istore_n 1) 1 0 1 rfl rfl rfl 20 rfl [some (.ref 15), some (.int (0)), none, none, none] rfl ?_
    exact r_w (k11_restored_15_L20 cd_fu 0 M2) (cd_le_s (cd_le_s (cd_le_n (cd_le_n (cd_le_n cd_le_0)))))
def f11_costs__15 (a1 : Int32) (M : cd_M) : Option (Int32 × cd_M) := cd_lt (cd_wI M 15 0 0) fun M1 => if f11_isCadence_15 a1 M1 = 0 then (some ((-1), M1)) else ((f11_laysPath_15 a1 M1).bind fun M3 => some (M3.1 15 35, M3))
set_option maxRecDepth 8000 in
theorem k11_costs__15 (a1 : Int32) (M : cd_M) : cd_R 231 0 [some (.ref 15), some (.int (a1))] [] M (w_PM (f11_costs__15 a1 M)) := by
  unfold f11_costs__15
  refine r_ld (.aload_n 0) 1 2 0 (.ref 15) rfl rfl rfl rfl 1 rfl ?_
  refine q_const (.iconst 0) 1 rfl rfl rfl 2 (0) _ rfl cd_kj0 ?_
  refine q_wr w_PM (.putfield 95) 3 rfl rfl rfl 5 [] (cd_wI M 15 0 0) rfl (fun M1 => ?_)
  refine r_ld (.aload_n 0) 1 2 0 (.ref 15) rfl rfl rfl rfl 6 rfl ?_
  refine r_ld (.iload_n 1) 1 0 1 (.int (a1)) rfl rfl rfl rfl 7 rfl ?_
  refine q_cTIz (.invokevirtual 230) rfl rfl rfl 185 rfl [.ref 15, .int (a1)] [] rfl (k11_isCadence_15 a1 M1) (fun z2 => ?_)
  refine q_br w_PM (.ifCond .ne 5) 3 rfl rfl rfl (f11_isCadence_15 a1 M1 = 0) 13 15 [] rfl (fun _ => ?_) (fun _ => ?_)
  · refine q_const (.iconst (-1)) 1 rfl rfl rfl 14 (-1) _ rfl cd_kjm1 ?_
    exact r_ret .ireturn 1 rfl rfl rfl _ rfl
  · refine r_ld (.aload_n 0) 1 2 0 (.ref 15) rfl rfl rfl rfl 16 rfl ?_
    refine r_ld (.iload_n 1) 1 0 1 (.int (a1)) rfl rfl rfl rfl 17 rfl ?_
    refine q_cV w_PM rfl (.invokevirtual 336) rfl rfl rfl 215 [.ref 15, .int (a1)] [] rfl (k11_laysPath_15 a1 M1) (fun M3 => ?_)
    refine r_ld (.aload_n 0) 1 2 0 (.ref 15) rfl rfl rfl rfl 21 rfl ?_
    refine r_go (.getfield 300) 3 rfl rfl rfl 24 [.int (M3.1 15 35)] rfl ?_
    exact r_ret .ireturn 1 rfl rfl rfl _ rfl
