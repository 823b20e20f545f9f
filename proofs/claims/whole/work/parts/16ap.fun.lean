def f11_set_15 (a1 : Int32) (a2 : Int32) (a3 : Int32) (M : cd_M) : Option (Int32 × cd_M) := cd_lt (cd_wI M 15 0 0) fun M1 => if f11_isField_15 a1 M1 = 0 then (some ((-1), M1)) else (if f11_within (a2.toInt64) 0 (((M1.1 15 11) - 1 : Int32).toInt64) M1 = 0 then (some ((-1), M1)) else (if f11_within (a3.toInt64) 0 99 M1 = 0 then (some ((-1), M1)) else ((f11_keeps_15 M1).bind fun M5 => (f11_sample_15 a1 a2 M5).bind fun v6 => if cd_in ((7 * a1) + a2) 630 = true then (cd_lt (cd_wI M5 64 ((7 * a1) + a2 : Int32).toNatClampNeg a3) fun M7 => some (v6, M7)) else none)))
set_option maxRecDepth 8000 in
theorem k11_set_15 (a1 : Int32) (a2 : Int32) (a3 : Int32) (M : cd_M) : cd_R 199 0 [some (.ref 15), some (.int (a1)), some (.int (a2)), some (.int (a3)), none] [] M (w_PM (f11_set_15 a1 a2 a3 M)) := by
  unfold f11_set_15
  refine r_ld (.aload_n 0) 1 2 0 (.ref 15) rfl rfl rfl rfl 1 rfl ?_
  refine q_const (.iconst 0) 1 rfl rfl rfl 2 (0) _ rfl cd_kj0 ?_
  refine q_wr w_PM (.putfield 95) 3 rfl rfl rfl 5 [] (cd_wI M 15 0 0) rfl (fun M1 => ?_)
  refine r_ld (.aload_n 0) 1 2 0 (.ref 15) rfl rfl rfl rfl 6 rfl ?_
  refine r_ld (.iload_n 1) 1 0 1 (.int (a1)) rfl rfl rfl rfl 7 rfl ?_
  refine q_cTIz (.invokevirtual 251) rfl rfl rfl 189 rfl [.ref 15, .int (a1)] [] rfl (k11_isField_15 a1 M1) (fun z2 => ?_)
  refine q_br w_PM (.ifCond .eq 31) 3 rfl rfl rfl (f11_isField_15 a1 M1 = 0) 41 13 [] rfl (fun _ => ?_) (fun _ => ?_)
  · refine q_const (.iconst (-1)) 1 rfl rfl rfl 42 (-1) _ rfl cd_kjm1 ?_
    exact r_ret .ireturn 1 rfl rfl rfl _ rfl
  · refine r_ld (.iload_n 2) 1 0 2 (.int (a2)) rfl rfl rfl rfl 14 rfl ?_
    refine r_go (.i2l) 1 rfl rfl rfl 15 [.long (a2.toInt64)] rfl ?_
    refine r_go (.lconst 0) 1 rfl rfl rfl 16 [.long (0), .long (a2.toInt64)] rfl ?_
    refine r_ld (.aload_n 0) 1 2 0 (.ref 15) rfl rfl rfl rfl 17 rfl ?_
    refine r_go (.getfield 189) 3 rfl rfl rfl 20 [.int (M1.1 15 11), .long (0), .long (a2.toInt64)] rfl ?_
    refine q_const (.iconst 1) 1 rfl rfl rfl 21 (1) _ rfl cd_kj1 ?_
    refine r_go (.isub) 1 rfl rfl rfl 22 [.int ((M1.1 15 11) - 1), .long (0), .long (a2.toInt64)] rfl ?_
    refine r_go (.i2l) 1 rfl rfl rfl 23 [.long (((M1.1 15 11) - 1 : Int32).toInt64), .long (0), .long (a2.toInt64)] rfl ?_
    refine q_cTIz (.invokestatic 127) rfl rfl rfl 161 rfl [.long (a2.toInt64), .long (0), .long (((M1.1 15 11) - 1 : Int32).toInt64)] [] rfl (k11_within (a2.toInt64) 0 (((M1.1 15 11) - 1 : Int32).toInt64) M1) (fun z3 => ?_)
    refine q_br w_PM (.ifCond .eq 15) 3 rfl rfl rfl (f11_within (a2.toInt64) 0 (((M1.1 15 11) - 1 : Int32).toInt64) M1 = 0) 41 29 [] rfl (fun _ => ?_) (fun _ => ?_)
    · refine q_const (.iconst (-1)) 1 rfl rfl rfl 42 (-1) _ rfl cd_kjm1 ?_
      exact r_ret .ireturn 1 rfl rfl rfl _ rfl
    · refine r_ld (.iload_n 3) 1 0 3 (.int (a3)) rfl rfl rfl rfl 30 rfl ?_
      refine r_go (.i2l) 1 rfl rfl rfl 31 [.long (a3.toInt64)] rfl ?_
      refine r_go (.lconst 0) 1 rfl rfl rfl 32 [.long (0), .long (a3.toInt64)] rfl ?_
      refine r_go (.ldc2_w 254) 3 rfl rfl rfl 35 [.long (99), .long (0), .long (a3.toInt64)] rfl ?_
      refine q_cTIz (.invokestatic 127) rfl rfl rfl 161 rfl [.long (a3.toInt64), .long (0), .long (99)] [] rfl (k11_within (a3.toInt64) 0 99 M1) (fun z4 => ?_)
      refine q_br w_PM (.ifCond .ne 5) 3 rfl rfl rfl (f11_within (a3.toInt64) 0 99 M1 = 0) 41 43 [] rfl (fun _ => ?_) (fun _ => ?_)
      · refine q_const (.iconst (-1)) 1 rfl rfl rfl 42 (-1) _ rfl cd_kjm1 ?_
        exact r_ret .ireturn 1 rfl rfl rfl _ rfl
      · refine r_ld (.aload_n 0) 1 2 0 (.ref 15) rfl rfl rfl rfl 44 rfl ?_
        refine q_cV w_PM rfl (.invokevirtual 233) rfl rfl rfl 193 [.ref 15] [] rfl (k11_keeps_15 M1) (fun M5 => ?_)
        refine r_ld (.aload_n 0) 1 2 0 (.ref 15) rfl rfl rfl rfl 48 rfl ?_
        refine r_ld (.iload_n 1) 1 0 1 (.int (a1)) rfl rfl rfl rfl 49 rfl ?_
        refine r_ld (.iload_n 2) 1 0 2 (.int (a2)) rfl rfl rfl rfl 50 rfl ?_
        refine q_cI w_PM rfl (.invokevirtual 247) rfl rfl rfl 191 [.ref 15, .int (a1), .int (a2)] [] rfl (k11_sample_15 a1 a2 M5) (fun v6 => ?_)
        refine r_st (.istore 4) 2 0 4 rfl rfl rfl 55 rfl [some (.ref 15), some (.int (a1)), some (.int (a2)), some (.int (a3)), some (.int (v6))] rfl ?_
        refine r_ld (.aload_n 0) 1 2 0 (.ref 15) rfl rfl rfl rfl 56 rfl ?_
        refine r_go (.getfield 33) 3 rfl rfl rfl 59 [.ref 64] rfl ?_
        refine q_const (.bipush 7) 2 rfl rfl rfl 61 (7) _ rfl cd_kc7 ?_
        refine r_ld (.iload_n 1) 1 0 1 (.int (a1)) rfl rfl rfl rfl 62 rfl ?_
        refine r_go (.imul) 1 rfl rfl rfl 63 [.int (7 * a1), .ref 64] rfl ?_
        refine r_ld (.iload_n 2) 1 0 2 (.int (a2)) rfl rfl rfl rfl 64 rfl ?_
        refine r_go (.iadd) 1 rfl rfl rfl 65 [.int ((7 * a1) + a2), .ref 64] rfl ?_
        refine r_ld (.iload_n 3) 1 0 3 (.int (a3)) rfl rfl rfl rfl 66 rfl ?_
        refine q_iast w_PM rfl rfl 64 630 rfl (fun M7 => ?_)
        refine r_ld (.iload 4) 2 0 4 (.int (v6)) rfl rfl rfl rfl 69 rfl ?_
        exact r_ret .ireturn 1 rfl rfl rfl _ rfl
def f11_undo_15_L39 : Nat → Int32 → cd_M → Option (Int32 × cd_M)
  | 0, _, _ => none
  | n + 1, a1, M => if 630 ≤ a1 then (some (M.1 15 26, M)) else (if cd_in ((630 * (M.1 15 26)) + a1) 7560 = true then (if cd_in a1 630 = true then (cd_lt (cd_wI M 64 a1.toNatClampNeg (M.1 66 ((630 * (M.1 15 26)) + a1 : Int32).toNatClampNeg)) fun M4 => cd_lt (a1 + (1)) fun x5 => f11_undo_15_L39 n x5 M4) else none) else none)
set_option maxRecDepth 8000 in
theorem k11_undo_15_L39 : ∀ (n : Nat) (a1 : Int32) (M : cd_M), cd_R 200 39 [some (.ref 15), some (.int (a1))] [] M (w_PM (f11_undo_15_L39 n a1 M)) := by
  intro n
  induction n with
  | zero =>
    intro a1 M
    exact q_none w_PM rfl
  | succ n ih =>
    intro a1 M
    rw [f11_undo_15_L39]
    refine r_ld (.iload_n 1) 1 0 1 (.int (a1)) rfl rfl rfl rfl 40 rfl ?_
    refine q_const (.sipush 630) 3 rfl rfl rfl 43 (630) _ rfl cd_kt630 ?_
    refine q_br w_PM (.if_icmp .ge 30) 3 rfl rfl rfl (630 ≤ a1) 73 46 [] rfl (fun _ => ?_) (fun _ => ?_)
    · refine r_ld (.aload_n 0) 1 2 0 (.ref 15) rfl rfl rfl rfl 74 rfl ?_
      refine r_go (.getfield 198) 3 rfl rfl rfl 77 [.int (M.1 15 26)] rfl ?_
      exact r_ret .ireturn 1 rfl rfl rfl _ rfl
    · refine r_ld (.aload_n 0) 1 2 0 (.ref 15) rfl rfl rfl rfl 47 rfl ?_
      refine r_go (.getfield 33) 3 rfl rfl rfl 50 [.ref 64] rfl ?_
      refine r_ld (.iload_n 1) 1 0 1 (.int (a1)) rfl rfl rfl rfl 51 rfl ?_
      refine r_ld (.aload_n 0) 1 2 0 (.ref 15) rfl rfl rfl rfl 52 rfl ?_
      refine r_go (.getfield 39) 3 rfl rfl rfl 55 [.ref 66, .int (a1), .ref 64] rfl ?_
      refine q_const (.sipush 630) 3 rfl rfl rfl 58 (630) _ rfl cd_kt630 ?_
      refine r_ld (.aload_n 0) 1 2 0 (.ref 15) rfl rfl rfl rfl 59 rfl ?_
      refine r_go (.getfield 198) 3 rfl rfl rfl 62 [.int (M.1 15 26), .int (630), .ref 66, .int (a1), .ref 64] rfl ?_
      refine r_go (.imul) 1 rfl rfl rfl 63 [.int (630 * (M.1 15 26)), .ref 66, .int (a1), .ref 64] rfl ?_
      refine r_ld (.iload_n 1) 1 0 1 (.int (a1)) rfl rfl rfl rfl 64 rfl ?_
      refine r_go (.iadd) 1 rfl rfl rfl 65 [.int ((630 * (M.1 15 26)) + a1), .ref 66, .int (a1), .ref 64] rfl ?_
      refine q_iald w_PM rfl rfl 66 7560 rfl ?_
      refine q_iast w_PM rfl rfl 64 630 rfl (fun M4 => ?_)
      refine q_inc w_PM 1 (1) (a1) rfl rfl rfl 70 rfl (1) cd_kj1 (fun x5 => [some (.ref 15), some (.int (x5))]) (fun _ => rfl) (fun x5 => ?_)
      refine r_go (.goto (-31)) 3 rfl rfl rfl 39 [] rfl ?_
      exact r_w (ih x5 M4) (cd_le_s (cd_le_s cd_le_0))
def f11_undo_15 (M : cd_M) : Option (Int32 × cd_M) := cd_lt (cd_wI M 15 0 0) fun M1 => if M1.1 15 26 = 0 then (some ((-1), M1)) else (cd_lt (cd_wI M1 15 26 ((M1.1 15 26) - 1)) fun M2 => if cd_in (M2.1 15 26) 12 = true then (cd_lt (cd_wI M2 15 24 (M2.1 65 (M2.1 15 26 : Int32).toNatClampNeg)) fun M3 => f11_undo_15_L39 cd_fu 0 M3) else none)
set_option maxRecDepth 8000 in
theorem k11_undo_15 (M : cd_M) : cd_R 200 0 [some (.ref 15), none] [] M (w_PM (f11_undo_15 M)) := by
  unfold f11_undo_15
  refine r_ld (.aload_n 0) 1 2 0 (.ref 15) rfl rfl rfl rfl 1 rfl ?_
  refine q_const (.iconst 0) 1 rfl rfl rfl 2 (0) _ rfl cd_kj0 ?_
  refine q_wr w_PM (.putfield 95) 3 rfl rfl rfl 5 [] (cd_wI M 15 0 0) rfl (fun M1 => ?_)
  refine r_ld (.aload_n 0) 1 2 0 (.ref 15) rfl rfl rfl rfl 6 rfl ?_
  refine r_go (.getfield 198) 3 rfl rfl rfl 9 [.int (M1.1 15 26)] rfl ?_
  refine q_br w_PM (.ifCond .ne 5) 3 rfl rfl rfl (M1.1 15 26 = 0) 12 14 [] rfl (fun _ => ?_) (fun _ => ?_)
  · refine q_const (.iconst (-1)) 1 rfl rfl rfl 13 (-1) _ rfl cd_kjm1 ?_
    exact r_ret .ireturn 1 rfl rfl rfl _ rfl
  · refine r_ld (.aload_n 0) 1 2 0 (.ref 15) rfl rfl rfl rfl 15 rfl ?_
    refine r_go (.dup) 1 rfl rfl rfl 16 [.ref 15, .ref 15] rfl ?_
    refine r_go (.getfield 198) 3 rfl rfl rfl 19 [.int (M1.1 15 26), .ref 15] rfl ?_
    refine q_const (.iconst 1) 1 rfl rfl rfl 20 (1) _ rfl cd_kj1 ?_
    refine r_go (.isub) 1 rfl rfl rfl 21 [.int ((M1.1 15 26) - 1), .ref 15] rfl ?_
    refine q_wr w_PM (.putfield 198) 3 rfl rfl rfl 24 [] (cd_wI M1 15 26 ((M1.1 15 26) - 1)) rfl (fun M2 => ?_)
    refine r_ld (.aload_n 0) 1 2 0 (.ref 15) rfl rfl rfl rfl 25 rfl ?_
    refine r_ld (.aload_n 0) 1 2 0 (.ref 15) rfl rfl rfl rfl 26 rfl ?_
    refine r_go (.getfield 36) 3 rfl rfl rfl 29 [.ref 65, .ref 15] rfl ?_
    refine r_ld (.aload_n 0) 1 2 0 (.ref 15) rfl rfl rfl rfl 30 rfl ?_
    refine r_go (.getfield 198) 3 rfl rfl rfl 33 [.int (M2.1 15 26), .ref 65, .ref 15] rfl ?_
    refine q_iald w_PM rfl rfl 65 12 rfl ?_
    refine q_wr w_PM (.putfield 195) 3 rfl rfl rfl 37 [] (cd_wI M2 15 24 (M2.1 65 (M2.1 15 26 : Int32).toNatClampNeg)) rfl (fun M3 => ?_)
    refine q_const (.iconst 0) 1 rfl rfl rfl 38 (0) _ rfl cd_kj0 ?_
    refine r_st (.istore_n 1) 1 0 1 rfl rfl rfl 39 rfl [some (.ref 15), some (.int (0))] rfl ?_
    exact r_w (k11_undo_15_L39 cd_fu 0 M3) (cd_le_s (cd_le_s cd_le_0))
def f11_parityOf_15 (a1 : Int32) (M : cd_M) : Option (Int32) := if cd_in ((7 * a1) + 6) 630 = true then (some (M.1 64 ((7 * a1) + 6 : Int32).toNatClampNeg)) else none
set_option maxRecDepth 8000 in
theorem k11_parityOf_15 (a1 : Int32) (M : cd_M) : cd_R 190 0 [some (.ref 15), some (.int (a1))] [] M ((w_PI M) (f11_parityOf_15 a1 M)) := by
  unfold f11_parityOf_15
  refine r_ld (.aload_n 0) 1 2 0 (.ref 15) rfl rfl rfl rfl 1 rfl ?_
  refine r_go (.getfield 33) 3 rfl rfl rfl 4 [.ref 64] rfl ?_
  refine q_const (.bipush 7) 2 rfl rfl rfl 6 (7) _ rfl cd_kc7 ?_
  refine r_ld (.iload_n 1) 1 0 1 (.int (a1)) rfl rfl rfl rfl 7 rfl ?_
  refine r_go (.imul) 1 rfl rfl rfl 8 [.int (7 * a1), .ref 64] rfl ?_
  refine q_const (.bipush 6) 2 rfl rfl rfl 10 (6) _ rfl cd_kc6 ?_
  refine r_go (.iadd) 1 rfl rfl rfl 11 [.int ((7 * a1) + 6), .ref 64] rfl ?_
  refine q_iald (w_PI M) rfl rfl 64 630 rfl ?_
  exact r_ret .ireturn 1 rfl rfl rfl _ rfl
def f11_field_15_L32 (a1 : Int32) (a2 : Int32) (s0 : Int32) (M : cd_M) : Option (Int32 × cd_M) := cd_lt (cd_wI M 15 0 s0) fun M2 => if M2.1 15 0 = 1 then (some (0, M2)) else (if a2 = (-1) then ((f11_parityOf_15 a1 M2).bind fun v3 => some (v3, M2)) else ((f11_sample_15 a1 a2 M2).bind fun v4 => some (v4, M2)))
set_option maxRecDepth 8000 in
theorem k11_field_15_L32 (a1 : Int32) (a2 : Int32) (s0 : Int32) (M : cd_M) : cd_R 201 32 [some (.ref 15), some (.int (a1)), some (.int (a2))] [.int (s0), .ref 15] M (w_PM (f11_field_15_L32 a1 a2 s0 M)) := by
  unfold f11_field_15_L32
  refine q_wr w_PM (.putfield 95) 3 rfl rfl rfl 35 [] (cd_wI M 15 0 s0) rfl (fun M2 => ?_)
  refine r_ld (.aload_n 0) 1 2 0 (.ref 15) rfl rfl rfl rfl 36 rfl ?_
  refine r_go (.getfield 95) 3 rfl rfl rfl 39 [.int (M2.1 15 0)] rfl ?_
  refine q_const (.iconst 1) 1 rfl rfl rfl 40 (1) _ rfl cd_kj1 ?_
  refine q_br w_PM (.if_icmp .ne 7) 3 rfl rfl rfl (M2.1 15 0 = 1) 43 47 [] rfl (fun _ => ?_) (fun _ => ?_)
  · refine q_const (.iconst 0) 1 rfl rfl rfl 44 (0) _ rfl cd_kj0 ?_
    refine r_go (.goto 22) 3 rfl rfl rfl 66 [.int (0)] rfl ?_
    exact r_ret .ireturn 1 rfl rfl rfl _ rfl
  · refine r_ld (.iload_n 2) 1 0 2 (.int (a2)) rfl rfl rfl rfl 48 rfl ?_
    refine q_const (.iconst (-1)) 1 rfl rfl rfl 49 (-1) _ rfl cd_kjm1 ?_
    refine q_br w_PM (.if_icmp .ne 11) 3 rfl rfl rfl (a2 = (-1)) 52 60 [] rfl (fun _ => ?_) (fun _ => ?_)
    · refine r_ld (.aload_n 0) 1 2 0 (.ref 15) rfl rfl rfl rfl 53 rfl ?_
      refine r_ld (.iload_n 1) 1 0 1 (.int (a1)) rfl rfl rfl rfl 54 rfl ?_
      refine q_cI w_PM rfl (.invokevirtual 258) rfl rfl rfl 190 [.ref 15, .int (a1)] [] rfl (k11_parityOf_15 a1 M2) (fun v3 => ?_)
      refine r_go (.goto 9) 3 rfl rfl rfl 66 [.int (v3)] rfl ?_
      exact r_ret .ireturn 1 rfl rfl rfl _ rfl
    · refine r_ld (.aload_n 0) 1 2 0 (.ref 15) rfl rfl rfl rfl 61 rfl ?_
      refine r_ld (.iload_n 1) 1 0 1 (.int (a1)) rfl rfl rfl rfl 62 rfl ?_
      refine r_ld (.iload_n 2) 1 0 2 (.int (a2)) rfl rfl rfl rfl 63 rfl ?_
      refine q_cI w_PM rfl (.invokevirtual 247) rfl rfl rfl 191 [.ref 15, .int (a1), .int (a2)] [] rfl (k11_sample_15 a1 a2 M2) (fun v4 => ?_)
      exact r_ret .ireturn 1 rfl rfl rfl _ rfl
def f11_field_15_L31 (a1 : Int32) (a2 : Int32) (M : cd_M) : Option (Int32 × cd_M) := f11_field_15_L32 a1 a2 1 M
set_option maxRecDepth 8000 in
theorem k11_field_15_L31 (a1 : Int32) (a2 : Int32) (M : cd_M) : cd_R 201 31 [some (.ref 15), some (.int (a1)), some (.int (a2))] [.ref 15] M (w_PM (f11_field_15_L31 a1 a2 M)) := by
  unfold f11_field_15_L31
  refine q_const (.iconst 1) 1 rfl rfl rfl 32 (1) _ rfl cd_kj1 ?_
  exact r_w (k11_field_15_L32 a1 a2 1 M) (cd_le_s (cd_le_s (cd_le_s cd_le_0)))
def f11_field_15 (a1 : Int32) (a2 : Int32) (M : cd_M) : Option (Int32 × cd_M) := if f11_isField_15 a1 M = 0 then (f11_field_15_L31 a1 a2 M) else (if f11_within (a2.toInt64) (-1) (((M.1 15 11) - 1 : Int32).toInt64) M = 0 then (f11_field_15_L31 a1 a2 M) else (f11_field_15_L32 a1 a2 0 M))
set_option maxRecDepth 8000 in
theorem k11_field_15 (a1 : Int32) (a2 : Int32) (M : cd_M) : cd_R 201 0 [some (.ref 15), some (.int (a1)), some (.int (a2))] [] M (w_PM (f11_field_15 a1 a2 M)) := by
  unfold f11_field_15
  refine r_ld (.aload_n 0) 1 2 0 (.ref 15) rfl rfl rfl rfl 1 rfl ?_
  refine r_ld (.aload_n 0) 1 2 0 (.ref 15) rfl rfl rfl rfl 2 rfl ?_
  refine r_ld (.iload_n 1) 1 0 1 (.int (a1)) rfl rfl rfl rfl 3 rfl ?_
  refine q_cTIz (.invokevirtual 251) rfl rfl rfl 189 rfl [.ref 15, .int (a1)] [.ref 15] rfl (k11_isField_15 a1 M) (fun z1 => ?_)
  refine q_br w_PM (.ifCond .eq 25) 3 rfl rfl rfl (f11_isField_15 a1 M = 0) 31 9 [.ref 15] rfl (fun _ => ?_) (fun _ => ?_)
  · exact r_w (k11_field_15_L31 a1 a2 M) (cd_le_s (cd_le_s (cd_le_s cd_le_0)))
  · refine r_ld (.iload_n 2) 1 0 2 (.int (a2)) rfl rfl rfl rfl 10 rfl ?_
    refine r_go (.i2l) 1 rfl rfl rfl 11 [.long (a2.toInt64), .ref 15] rfl ?_
    refine r_go (.ldc2_w 256) 3 rfl rfl rfl 14 [.long ((-1)), .long (a2.toInt64), .ref 15] rfl ?_
    refine r_ld (.aload_n 0) 1 2 0 (.ref 15) rfl rfl rfl rfl 15 rfl ?_
    refine r_go (.getfield 189) 3 rfl rfl rfl 18 [.int (M.1 15 11), .long ((-1)), .long (a2.toInt64), .ref 15] rfl ?_
    refine q_const (.iconst 1) 1 rfl rfl rfl 19 (1) _ rfl cd_kj1 ?_
    refine r_go (.isub) 1 rfl rfl rfl 20 [.int ((M.1 15 11) - 1), .long ((-1)), .long (a2.toInt64), .ref 15] rfl ?_
    refine r_go (.i2l) 1 rfl rfl rfl 21 [.long (((M.1 15 11) - 1 : Int32).toInt64), .long ((-1)), .long (a2.toInt64), .ref 15] rfl ?_
    refine q_cTIz (.invokestatic 127) rfl rfl rfl 161 rfl [.long (a2.toInt64), .long ((-1)), .long (((M.1 15 11) - 1 : Int32).toInt64)] [.ref 15] rfl (k11_within (a2.toInt64) (-1) (((M.1 15 11) - 1 : Int32).toInt64) M) (fun z5 => ?_)
    refine q_br w_PM (.ifCond .eq 7) 3 rfl rfl rfl (f11_within (a2.toInt64) (-1) (((M.1 15 11) - 1 : Int32).toInt64) M = 0) 31 27 [.ref 15] rfl (fun _ => ?_) (fun _ => ?_)
    · exact r_w (k11_field_15_L31 a1 a2 M) (cd_le_s (cd_le_s (cd_le_s cd_le_0)))
    · refine q_const (.iconst 0) 1 rfl rfl rfl 28 (0) _ rfl cd_kj0 ?_
      refine r_go (.goto 4) 3 rfl rfl rfl 32 [.int (0), .ref 15] rfl ?_
      exact r_w (k11_field_15_L32 a1 a2 0 M) (cd_le_s (cd_le_s (cd_le_s cd_le_0)))
def f11_apartOf_15_L85 (r11 : Int32 → Int32 → Int32 → Int32 → Int32 → Int32 → cd_M → Option (Int32)) (a1 : Int32) (a2 : Int32) (a3 : Int32) (a4 : Int32) (a6 : Int32) (s0 : Int32) (s1 : Int32) (M : cd_M) : Option (Int32) := cd_lt (s1 + s0) fun x5 => cd_lt (a6 + (1)) fun x6 => r11 a1 a2 a3 a4 x5 x6 M
set_option maxRecDepth 8000 in
theorem k11_apartOf_15_L85 (r11 : Int32 → Int32 → Int32 → Int32 → Int32 → Int32 → cd_M → Option (Int32)) (h11 : ∀ (a1 : Int32) (a2 : Int32) (a3 : Int32) (a4 : Int32) (a5 : Int32) (a6 : Int32) (M : cd_M), cd_R 202 11 [some (.ref 15), some (.int (a1)), some (.int (a2)), some (.int (a3)), some (.int (a4)), some (.int (a5)), some (.int (a6)), none] [] M ((w_PI M) (r11 a1 a2 a3 a4 a5 a6 M))) (a1 : Int32) (a2 : Int32) (a3 : Int32) (a4 : Int32) (a6 : Int32) (s0 : Int32) (s1 : Int32) (M : cd_M) : cd_R 202 85 [some (.ref 15), some (.int (a1)), some (.int (a2)), some (.int (a3)), some (.int (a4)), none, some (.int (a6)), none] [.int (s0), .int (s1)] M ((w_PI M) (f11_apartOf_15_L85 r11 a1 a2 a3 a4 a6 s0 s1 M)) := by
  unfold f11_apartOf_15_L85
  refine r_go (.iadd) 1 rfl rfl rfl 86 [.int (s1 + s0)] rfl ?_
  refine q_stB (w_PI M) (.istore 5) 2 0 5 rfl rfl (fun _ => rfl) 88 rfl (fun x5 => [some (.ref 15), some (.int (a1)), some (.int (a2)), some (.int (a3)), some (.int (a4)), some (.int (x5)), some (.int (a6)), none]) (fun _ => rfl) (fun x5 => ?_)
  refine q_inc (w_PI M) 6 (1) (a6) rfl rfl rfl 91 rfl (1) cd_kj1 (fun x6 => [some (.ref 15), some (.int (a1)), some (.int (a2)), some (.int (a3)), some (.int (a4)), some (.int (x5)), some (.int (x6)), none]) (fun _ => rfl) (fun x6 => ?_)
  refine r_go (.goto (-80)) 3 rfl rfl rfl 11 [] rfl ?_
  exact r_w (h11 a1 a2 a3 a4 x5 x6 M) (cd_le_s (cd_le_s (cd_le_s (cd_le_s (cd_le_s (cd_le_s (cd_le_s (cd_le_n cd_le_0))))))))
def f11_apartOf_15_L71 (r11 : Int32 → Int32 → Int32 → Int32 → Int32 → Int32 → cd_M → Option (Int32)) (a1 : Int32) (a2 : Int32) (a3 : Int32) (a5 : Int32) (a6 : Int32) (a7 : Int32) (s0 : Int32) (M : cd_M) : Option (Int32) := if a7 ≤ 0 then (f11_apartOf_15_L85 r11 a1 a2 a3 s0 a6 0 a5 M) else (f11_apartOf_15_L85 r11 a1 a2 a3 s0 a6 1 a5 M)
set_option maxRecDepth 8000 in
theorem k11_apartOf_15_L71 (r11 : Int32 → Int32 → Int32 → Int32 → Int32 → Int32 → cd_M → Option (Int32)) (h11 : ∀ (a1 : Int32) (a2 : Int32) (a3 : Int32) (a4 : Int32) (a5 : Int32) (a6 : Int32) (M : cd_M), cd_R 202 11 [some (.ref 15), some (.int (a1)), some (.int (a2)), some (.int (a3)), some (.int (a4)), some (.int (a5)), some (.int (a6)), none] [] M ((w_PI M) (r11 a1 a2 a3 a4 a5 a6 M))) (a1 : Int32) (a2 : Int32) (a3 : Int32) (a5 : Int32) (a6 : Int32) (a7 : Int32) (s0 : Int32) (M : cd_M) : cd_R 202 71 [some (.ref 15), some (.int (a1)), some (.int (a2)), some (.int (a3)), none, some (.int (a5)), some (.int (a6)), some (.int (a7))] [.int (s0)] M ((w_PI M) (f11_apartOf_15_L71 r11 a1 a2 a3 a5 a6 a7 s0 M)) := by
  unfold f11_apartOf_15_L71
  refine r_st (.istore 4) 2 0 4 rfl rfl rfl 73 rfl [some (.ref 15), some (.int (a1)), some (.int (a2)), some (.int (a3)), some (.int (s0)), some (.int (a5)), some (.int (a6)), some (.int (a7))] rfl ?_
  refine r_ld (.iload 5) 2 0 5 (.int (a5)) rfl rfl rfl rfl 75 rfl ?_
  refine r_ld (.iload 7) 2 0 7 (.int (a7)) rfl rfl rfl rfl 77 rfl ?_
  refine q_br (w_PI M) (.ifCond .le 7) 3 rfl rfl rfl (a7 ≤ 0) 84 80 [.int (a5)] rfl (fun _ => ?_) (fun _ => ?_)
  · refine q_const (.iconst 0) 1 rfl rfl rfl 85 (0) _ rfl cd_kj0 ?_
    exact r_w (k11_apartOf_15_L85 r11 h11 a1 a2 a3 s0 a6 0 a5 M) (cd_le_s (cd_le_s (cd_le_s (cd_le_s (cd_le_s (cd_le_n (cd_le_s (cd_le_n cd_le_0))))))))
  · refine q_const (.iconst 1) 1 rfl rfl rfl 81 (1) _ rfl cd_kj1 ?_
    refine r_go (.goto 4) 3 rfl rfl rfl 85 [.int (1), .int (a5)] rfl ?_
    exact r_w (k11_apartOf_15_L85 r11 h11 a1 a2 a3 s0 a6 1 a5 M) (cd_le_s (cd_le_s (cd_le_s (cd_le_s (cd_le_s (cd_le_n (cd_le_s (cd_le_n cd_le_0))))))))
def f11_apartOf_15_L50 (r11 : Int32 → Int32 → Int32 → Int32 → Int32 → Int32 → cd_M → Option (Int32)) (a1 : Int32) (a2 : Int32) (a3 : Int32) (a4 : Int32) (a5 : Int32) (a6 : Int32) (s0 : Int32) (M : cd_M) : Option (Int32) := cd_lt (a3 + s0) fun x4 => if s0 ≤ a4 then (f11_apartOf_15_L71 r11 a1 a2 x4 a5 a6 s0 a4 M) else (f11_apartOf_15_L71 r11 a1 a2 x4 a5 a6 s0 s0 M)
set_option maxRecDepth 8000 in
theorem k11_apartOf_15_L50 (r11 : Int32 → Int32 → Int32 → Int32 → Int32 → Int32 → cd_M → Option (Int32)) (h11 : ∀ (a1 : Int32) (a2 : Int32) (a3 : Int32) (a4 : Int32) (a5 : Int32) (a6 : Int32) (M : cd_M), cd_R 202 11 [some (.ref 15), some (.int (a1)), some (.int (a2)), some (.int (a3)), some (.int (a4)), some (.int (a5)), some (.int (a6)), none] [] M ((w_PI M) (r11 a1 a2 a3 a4 a5 a6 M))) (a1 : Int32) (a2 : Int32) (a3 : Int32) (a4 : Int32) (a5 : Int32) (a6 : Int32) (s0 : Int32) (M : cd_M) : cd_R 202 50 [some (.ref 15), some (.int (a1)), some (.int (a2)), some (.int (a3)), some (.int (a4)), some (.int (a5)), some (.int (a6)), none] [.int (s0)] M ((w_PI M) (f11_apartOf_15_L50 r11 a1 a2 a3 a4 a5 a6 s0 M)) := by
  unfold f11_apartOf_15_L50
  refine r_st (.istore 7) 2 0 7 rfl rfl rfl 52 rfl [some (.ref 15), some (.int (a1)), some (.int (a2)), some (.int (a3)), some (.int (a4)), some (.int (a5)), some (.int (a6)), some (.int (s0))] rfl ?_
  refine r_ld (.iload_n 3) 1 0 3 (.int (a3)) rfl rfl rfl rfl 53 rfl ?_
  refine r_ld (.iload 7) 2 0 7 (.int (s0)) rfl rfl rfl rfl 55 rfl ?_
  refine r_go (.iadd) 1 rfl rfl rfl 56 [.int (a3 + s0)] rfl ?_
  refine q_stB (w_PI M) (.istore_n 3) 1 0 3 rfl rfl (fun _ => rfl) 57 rfl (fun x4 => [some (.ref 15), some (.int (a1)), some (.int (a2)), some (.int (x4)), some (.int (a4)), some (.int (a5)), some (.int (a6)), some (.int (s0))]) (fun _ => rfl) (fun x4 => ?_)
  refine r_ld (.iload 7) 2 0 7 (.int (s0)) rfl rfl rfl rfl 59 rfl ?_
  refine r_ld (.iload 4) 2 0 4 (.int (a4)) rfl rfl rfl rfl 61 rfl ?_
  refine q_br (w_PI M) (.if_icmp .le 8) 3 rfl rfl rfl (s0 ≤ a4) 69 64 [] rfl (fun _ => ?_) (fun _ => ?_)
  · refine r_ld (.iload 4) 2 0 4 (.int (a4)) rfl rfl rfl rfl 71 rfl ?_
    exact r_w (k11_apartOf_15_L71 r11 h11 a1 a2 x4 a5 a6 s0 a4 M) (cd_le_s (cd_le_s (cd_le_s (cd_le_s (cd_le_n (cd_le_s (cd_le_s (cd_le_s cd_le_0))))))))
  · refine r_ld (.iload 7) 2 0 7 (.int (s0)) rfl rfl rfl rfl 66 rfl ?_
    refine r_go (.goto 5) 3 rfl rfl rfl 71 [.int (s0)] rfl ?_
    exact r_w (k11_apartOf_15_L71 r11 h11 a1 a2 x4 a5 a6 s0 s0 M) (cd_le_s (cd_le_s (cd_le_s (cd_le_s (cd_le_n (cd_le_s (cd_le_s (cd_le_s cd_le_0))))))))
def f11_apartOf_15_L11 : Nat → Int32 → Int32 → Int32 → Int32 → Int32 → Int32 → cd_M → Option (Int32)
  | 0, _, _, _, _, _, _, _ => none
  | n + 1, a1, a2, a3, a4, a5, a6, M => if M.1 15 11 ≤ a6 then (if cd_in 4 10 = true then (if M.1 62 (4 : Int32).toNatClampNeg = 0 then (some a3) else (if cd_in 4 10 = true then (if M.1 62 (4 : Int32).toNatClampNeg = 1 then (some a4) else (some a5)) else none)) else none) else ((f11_sample_15 a1 a6 M).bind fun v1 => (f11_sample_15 a2 a6 M).bind fun v2 => cd_lt (v1 - v2) fun x3 => if 0 ≤ x3 then (f11_apartOf_15_L50 (f11_apartOf_15_L11 n) a1 a2 a3 a4 a5 a6 x3 M) else (f11_apartOf_15_L50 (f11_apartOf_15_L11 n) a1 a2 a3 a4 a5 a6 (-x3) M))
set_option maxRecDepth 8000 in
theorem k11_apartOf_15_L11 : ∀ (n : Nat) (a1 : Int32) (a2 : Int32) (a3 : Int32) (a4 : Int32) (a5 : Int32) (a6 : Int32) (M : cd_M), cd_R 202 11 [some (.ref 15), some (.int (a1)), some (.int (a2)), some (.int (a3)), some (.int (a4)), some (.int (a5)), some (.int (a6)), none] [] M ((w_PI M) (f11_apartOf_15_L11 n a1 a2 a3 a4 a5 a6 M)) := by
  intro n
  induction n with
  | zero =>
    intro a1 a2 a3 a4 a5 a6 M
    exact q_none (w_PI M) rfl
  | succ n ih =>
    intro a1 a2 a3 a4 a5 a6 M
    rw [f11_apartOf_15_L11]
    refine r_ld (.iload 6) 2 0 6 (.int (a6)) rfl rfl rfl rfl 13 rfl ?_
    refine r_ld (.aload_n 0) 1 2 0 (.ref 15) rfl rfl rfl rfl 14 rfl ?_
    refine r_go (.getfield 189) 3 rfl rfl rfl 17 [.int (M.1 15 11), .int (a6)] rfl ?_
    refine q_br (w_PI M) (.if_icmp .ge 77) 3 rfl rfl rfl (M.1 15 11 ≤ a6) 94 20 [] rfl (fun _ => ?_) (fun _ => ?_)
    · refine r_ld (.aload_n 0) 1 2 0 (.ref 15) rfl rfl rfl rfl 95 rfl ?_
      refine r_go (.getfield 26) 3 rfl rfl rfl 98 [.ref 62] rfl ?_
      refine q_const (.iconst 4) 1 rfl rfl rfl 99 (4) _ rfl cd_kj4 ?_
      refine q_iald (w_PI M) rfl rfl 62 10 rfl ?_
      refine q_br (w_PI M) (.ifCond .ne 7) 3 rfl rfl rfl (M.1 62 (4 : Int32).toNatClampNeg = 0) 103 107 [] rfl (fun _ => ?_) (fun _ => ?_)
      · refine r_ld (.iload_n 3) 1 0 3 (.int (a3)) rfl rfl rfl rfl 104 rfl ?_
        refine r_go (.goto 20) 3 rfl rfl rfl 124 [.int (a3)] rfl ?_
        exact r_ret .ireturn 1 rfl rfl rfl _ rfl
      · refine r_ld (.aload_n 0) 1 2 0 (.ref 15) rfl rfl rfl rfl 108 rfl ?_
        refine r_go (.getfield 26) 3 rfl rfl rfl 111 [.ref 62] rfl ?_
        refine q_const (.iconst 4) 1 rfl rfl rfl 112 (4) _ rfl cd_kj4 ?_
        refine q_iald (w_PI M) rfl rfl 62 10 rfl ?_
        refine q_const (.iconst 1) 1 rfl rfl rfl 114 (1) _ rfl cd_kj1 ?_
        refine q_br (w_PI M) (.if_icmp .ne 8) 3 rfl rfl rfl (M.1 62 (4 : Int32).toNatClampNeg = 1) 117 122 [] rfl (fun _ => ?_) (fun _ => ?_)
        · refine r_ld (.iload 4) 2 0 4 (.int (a4)) rfl rfl rfl rfl 119 rfl ?_
          refine r_go (.goto 5) 3 rfl rfl rfl 124 [.int (a4)] rfl ?_
          exact r_ret .ireturn 1 rfl rfl rfl _ rfl
        · refine r_ld (.iload 5) 2 0 5 (.int (a5)) rfl rfl rfl rfl 124 rfl ?_
          exact r_ret .ireturn 1 rfl rfl rfl _ rfl
    · refine r_ld (.aload_n 0) 1 2 0 (.ref 15) rfl rfl rfl rfl 21 rfl ?_
      refine r_ld (.iload_n 1) 1 0 1 (.int (a1)) rfl rfl rfl rfl 22 rfl ?_
      refine r_ld (.iload 6) 2 0 6 (.int (a6)) rfl rfl rfl rfl 24 rfl ?_
      refine q_cI (w_PI M) rfl (.invokevirtual 247) rfl rfl rfl 191 [.ref 15, .int (a1), .int (a6)] [] rfl (k11_sample_15 a1 a6 M) (fun v1 => ?_)
      refine r_ld (.aload_n 0) 1 2 0 (.ref 15) rfl rfl rfl rfl 28 rfl ?_
      refine r_ld (.iload_n 2) 1 0 2 (.int (a2)) rfl rfl rfl rfl 29 rfl ?_
      refine r_ld (.iload 6) 2 0 6 (.int (a6)) rfl rfl rfl rfl 31 rfl ?_
      refine q_cI (w_PI M) rfl (.invokevirtual 247) rfl rfl rfl 191 [.ref 15, .int (a2), .int (a6)] [.int (v1)] rfl (k11_sample_15 a2 a6 M) (fun v2 => ?_)
      refine r_go (.isub) 1 rfl rfl rfl 35 [.int (v1 - v2)] rfl ?_
      refine q_stB (w_PI M) (.istore 7) 2 0 7 rfl rfl (fun _ => rfl) 37 rfl (fun x3 => [some (.ref 15), some (.int (a1)), some (.int (a2)), some (.int (a3)), some (.int (a4)), some (.int (a5)), some (.int (a6)), some (.int (x3))]) (fun _ => rfl) (fun x3 => ?_)
      refine r_ld (.iload 7) 2 0 7 (.int (x3)) rfl rfl rfl rfl 39 rfl ?_
      refine q_br (w_PI M) (.ifCond .ge 9) 3 rfl rfl rfl (0 ≤ x3) 48 42 [] rfl (fun _ => ?_) (fun _ => ?_)
      · refine r_ld (.iload 7) 2 0 7 (.int (x3)) rfl rfl rfl rfl 50 rfl ?_
        exact r_w (k11_apartOf_15_L50 (f11_apartOf_15_L11 n) ih a1 a2 a3 a4 a5 a6 x3 M) (cd_le_s (cd_le_s (cd_le_s (cd_le_s (cd_le_s (cd_le_s (cd_le_s (cd_le_n cd_le_0))))))))
      · refine r_ld (.iload 7) 2 0 7 (.int (x3)) rfl rfl rfl rfl 44 rfl ?_
        refine r_go (.ineg) 1 rfl rfl rfl 45 [.int (-x3)] rfl ?_
        refine r_go (.goto 5) 3 rfl rfl rfl 50 [.int (-x3)] rfl ?_
        exact r_w (k11_apartOf_15_L50 (f11_apartOf_15_L11 n) ih a1 a2 a3 a4 a5 a6 (-x3) M) (cd_le_s (cd_le_s (cd_le_s (cd_le_s (cd_le_s (cd_le_s (cd_le_s (cd_le_n cd_le_0))))))))
def f11_apartOf_15 (a1 : Int32) (a2 : Int32) (M : cd_M) : Option (Int32) := f11_apartOf_15_L11 cd_fu a1 a2 0 0 0 0 M
set_option maxRecDepth 8000 in
theorem k11_apartOf_15 (a1 : Int32) (a2 : Int32) (M : cd_M) : cd_R 202 0 [some (.ref 15), some (.int (a1)), some (.int (a2)), none, none, none, none, none] [] M ((w_PI M) (f11_apartOf_15 a1 a2 M)) := by
  unfold f11_apartOf_15
  refine q_const (.iconst 0) 1 rfl rfl rfl 1 (0) _ rfl cd_kj0 ?_
  refine r_st (.istore_n 3) 1 0 3 rfl rfl rfl 2 rfl [some (.ref 15), some (.int (a1)), some (.int (a2)), some (.int (0)), none, none, none, none] rfl ?_
  refine q_const (.iconst 0) 1 rfl rfl rfl 3 (0) _ rfl cd_kj0 ?_
  refine r_st (.istore 4) 2 0 4 rfl rfl rfl 5 rfl [some (.ref 15), some (.int (a1)), some (.int (a2)), some (.int (0)), some (.int (0)), none, none, none] rfl ?_
  refine q_const (.iconst 0) 1 rfl rfl rfl 6 (0) _ rfl cd_kj0 ?_
  refine r_st (.istore 5) 2 0 5 rfl rfl rfl 8 rfl [some (.ref 15), some (.int (a1)), some (.int (a2)), some (.int (0)), some (.int (0)), some (.int (0)), none, none] rfl ?_
  refine q_const (.iconst 0) 1 rfl rfl rfl 9 (0) _ rfl cd_kj0 ?_
  refine r_st (.istore 6) 2 0 6 rfl rfl rfl 11 rfl [some (.ref 15), some (.int (a1)), some (.int (a2)), some (.int (0)), some (.int (0)), some (.int (0)), some (.int (0)), none] rfl ?_
  exact r_w (k11_apartOf_15_L11 cd_fu a1 a2 0 0 0 0 M) (cd_le_s (cd_le_s (cd_le_s (cd_le_s (cd_le_s (cd_le_s (cd_le_s (cd_le_n cd_le_0))))))))
def f11_apart_15 (a1 : Int32) (a2 : Int32) (M : cd_M) : Option (Int32 × cd_M) := cd_lt (cd_wI M 15 0 0) fun M1 => if f11_isField_15 a1 M1 = 0 then (some ((-1), M1)) else (if f11_isField_15 a2 M1 = 0 then (some ((-1), M1)) else ((f11_apartOf_15 a1 a2 M1).bind fun v4 => some (v4, M1)))
set_option maxRecDepth 8000 in
theorem k11_apart_15 (a1 : Int32) (a2 : Int32) (M : cd_M) : cd_R 203 0 [some (.ref 15), some (.int (a1)), some (.int (a2))] [] M (w_PM (f11_apart_15 a1 a2 M)) := by
  unfold f11_apart_15
  refine r_ld (.aload_n 0) 1 2 0 (.ref 15) rfl rfl rfl rfl 1 rfl ?_
  refine q_const (.iconst 0) 1 rfl rfl rfl 2 (0) _ rfl cd_kj0 ?_
  refine q_wr w_PM (.putfield 95) 3 rfl rfl rfl 5 [] (cd_wI M 15 0 0) rfl (fun M1 => ?_)
  refine r_ld (.aload_n 0) 1 2 0 (.ref 15) rfl rfl rfl rfl 6 rfl ?_
  refine r_ld (.iload_n 1) 1 0 1 (.int (a1)) rfl rfl rfl rfl 7 rfl ?_
  refine q_cTIz (.invokevirtual 251) rfl rfl rfl 189 rfl [.ref 15, .int (a1)] [] rfl (k11_isField_15 a1 M1) (fun z2 => ?_)
  refine q_br w_PM (.ifCond .eq 20) 3 rfl rfl rfl (f11_isField_15 a1 M1 = 0) 30 13 [] rfl (fun _ => ?_) (fun _ => ?_)
  · refine q_const (.iconst (-1)) 1 rfl rfl rfl 31 (-1) _ rfl cd_kjm1 ?_
    exact r_ret .ireturn 1 rfl rfl rfl _ rfl
  · refine r_ld (.aload_n 0) 1 2 0 (.ref 15) rfl rfl rfl rfl 14 rfl ?_
    refine r_ld (.iload_n 2) 1 0 2 (.int (a2)) rfl rfl rfl rfl 15 rfl ?_
    refine q_cTIz (.invokevirtual 251) rfl rfl rfl 189 rfl [.ref 15, .int (a2)] [] rfl (k11_isField_15 a2 M1) (fun z3 => ?_)
    refine q_br w_PM (.ifCond .eq 12) 3 rfl rfl rfl (f11_isField_15 a2 M1 = 0) 30 21 [] rfl (fun _ => ?_) (fun _ => ?_)
    · refine q_const (.iconst (-1)) 1 rfl rfl rfl 31 (-1) _ rfl cd_kjm1 ?_
      exact r_ret .ireturn 1 rfl rfl rfl _ rfl
    · refine r_ld (.aload_n 0) 1 2 0 (.ref 15) rfl rfl rfl rfl 22 rfl ?_
      refine r_ld (.iload_n 1) 1 0 1 (.int (a1)) rfl rfl rfl rfl 23 rfl ?_
      refine r_ld (.iload_n 2) 1 0 2 (.int (a2)) rfl rfl rfl rfl 24 rfl ?_
      refine q_cI w_PM rfl (.invokevirtual 261) rfl rfl rfl 202 [.ref 15, .int (a1), .int (a2)] [] rfl (k11_apartOf_15 a1 a2 M1) (fun v4 => ?_)
      refine r_go (.goto 4) 3 rfl rfl rfl 31 [.int (v4)] rfl ?_
      exact r_ret .ireturn 1 rfl rfl rfl _ rfl
def f11_areAlike_15 (a1 : Int32) (a2 : Int32) (M : cd_M) : Option (Int32) := (f11_apartOf_15 a1 a2 M).bind fun v1 => if cd_in 0 10 = true then (if M.1 62 (0 : Int32).toNatClampNeg < v1 then (some 0) else (some 1)) else none
set_option maxRecDepth 8000 in
theorem k11_areAlike_15 (a1 : Int32) (a2 : Int32) (M : cd_M) : cd_R 204 0 [some (.ref 15), some (.int (a1)), some (.int (a2))] [] M ((w_PI M) (f11_areAlike_15 a1 a2 M)) := by
  unfold f11_areAlike_15
  refine r_ld (.aload_n 0) 1 2 0 (.ref 15) rfl rfl rfl rfl 1 rfl ?_
  refine r_ld (.iload_n 1) 1 0 1 (.int (a1)) rfl rfl rfl rfl 2 rfl ?_
  refine r_ld (.iload_n 2) 1 0 2 (.int (a2)) rfl rfl rfl rfl 3 rfl ?_
  refine q_cI (w_PI M) rfl (.invokevirtual 261) rfl rfl rfl 202 [.ref 15, .int (a1), .int (a2)] [] rfl (k11_apartOf_15 a1 a2 M) (fun v1 => ?_)
  refine r_ld (.aload_n 0) 1 2 0 (.ref 15) rfl rfl rfl rfl 7 rfl ?_
  refine r_go (.getfield 26) 3 rfl rfl rfl 10 [.ref 62, .int (v1)] rfl ?_
  refine q_const (.iconst 0) 1 rfl rfl rfl 11 (0) _ rfl cd_kj0 ?_
  refine q_iald (w_PI M) rfl rfl 62 10 rfl ?_
  refine q_br (w_PI M) (.if_icmp .gt 7) 3 rfl rfl rfl (M.1 62 (0 : Int32).toNatClampNeg < v1) 19 15 [] rfl (fun _ => ?_) (fun _ => ?_)
  · refine q_const (.iconst 0) 1 rfl rfl rfl 20 (0) _ rfl cd_kj0 ?_
    exact r_retZ rfl rfl (by decide)
  · refine q_const (.iconst 1) 1 rfl rfl rfl 16 (1) _ rfl cd_kj1 ?_
    refine r_go (.goto 4) 3 rfl rfl rfl 20 [.int (1)] rfl ?_
    exact r_retZ rfl rfl (by decide)
def f11_laysCosts_15_L122 (r2 : Int32 → cd_M → Option cd_M) (a1 : Int32) (s0 : Int32) (s1 : Int32) (M : cd_M) : Option cd_M := if cd_in s1 90 = true then (cd_lt (cd_wI M 68 s1.toNatClampNeg s0) fun M2 => cd_lt (a1 + (1)) fun x3 => r2 x3 M2) else none
set_option maxRecDepth 8000 in
theorem k11_laysCosts_15_L122 (r2 : Int32 → cd_M → Option cd_M) (h2 : ∀ (a1 : Int32) (M : cd_M), cd_R 208 2 [some (.ref 15), some (.int (a1)), none, none] [] M (w_PV (r2 a1 M))) (a1 : Int32) (s0 : Int32) (s1 : Int32) (M : cd_M) : cd_R 208 122 [some (.ref 15), some (.int (a1)), none, none] [.int (s0), .int (s1), .ref 68] M (w_PV (f11_laysCosts_15_L122 r2 a1 s0 s1 M)) := by
  unfold f11_laysCosts_15_L122
  refine q_iast w_PV rfl rfl 68 90 rfl (fun M2 => ?_)
  refine q_inc w_PV 1 (1) (a1) rfl rfl rfl 126 rfl (1) cd_kj1 (fun x3 => [some (.ref 15), some (.int (x3)), none, none]) (fun _ => rfl) (fun x3 => ?_)
  refine r_go (.goto (-124)) 3 rfl rfl rfl 2 [] rfl ?_
  exact r_w (h2 x3 M2) (cd_le_s (cd_le_s (cd_le_n (cd_le_n cd_le_0))))
def f11_laysCosts_15_L104 (r2 : Int32 → cd_M → Option cd_M) (a1 : Int32) (s0 : Int32) (M : cd_M) : Option cd_M := f11_laysCosts_15_L122 r2 a1 0 s0 M
set_option maxRecDepth 8000 in
theorem k11_laysCosts_15_L104 (r2 : Int32 → cd_M → Option cd_M) (h2 : ∀ (a1 : Int32) (M : cd_M), cd_R 208 2 [some (.ref 15), some (.int (a1)), none, none] [] M (w_PV (r2 a1 M))) (a1 : Int32) (s0 : Int32) (M : cd_M) : cd_R 208 104 [some (.ref 15), some (.int (a1)), none, none] [.int (s0), .ref 68] M (w_PV (f11_laysCosts_15_L104 r2 a1 s0 M)) := by
  unfold f11_laysCosts_15_L104
  refine q_const (.iconst 0) 1 rfl rfl rfl 105 (0) _ rfl cd_kj0 ?_
  refine r_go (.goto 17) 3 rfl rfl rfl 122 [.int (0), .int (s0), .ref 68] rfl ?_
  exact r_w (k11_laysCosts_15_L122 r2 h2 a1 0 s0 M) (cd_le_s (cd_le_s (cd_le_n (cd_le_n cd_le_0))))
def f11_laysCosts_15_L83 (r2 : Int32 → cd_M → Option cd_M) (a1 : Int32) (a2 : Int32) (s0 : Int32) (M : cd_M) : Option cd_M := if a2 = 0 then (f11_laysCosts_15_L104 r2 a1 a1 M) else ((f11_areAlike_15 a1 (a1 - 2) M).bind fun v4 => if v4 = 0 then (if s0 ≤ 999 then (f11_laysCosts_15_L122 r2 a1 s0 a1 M) else (f11_laysCosts_15_L122 r2 a1 999 a1 M)) else (f11_laysCosts_15_L104 r2 a1 a1 M))
set_option maxRecDepth 8000 in
theorem k11_laysCosts_15_L83 (r2 : Int32 → cd_M → Option cd_M) (h2 : ∀ (a1 : Int32) (M : cd_M), cd_R 208 2 [some (.ref 15), some (.int (a1)), none, none] [] M (w_PV (r2 a1 M))) (a1 : Int32) (a2 : Int32) (s0 : Int32) (M : cd_M) : cd_R 208 83 [some (.ref 15), some (.int (a1)), some (.int (a2)), none] [.int (s0)] M (w_PV (f11_laysCosts_15_L83 r2 a1 a2 s0 M)) := by
  unfold f11_laysCosts_15_L83
  refine r_st (.istore_n 3) 1 0 3 rfl rfl rfl 84 rfl [some (.ref 15), some (.int (a1)), some (.int (a2)), some (.int (s0))] rfl ?_
  refine r_ld (.aload_n 0) 1 2 0 (.ref 15) rfl rfl rfl rfl 85 rfl ?_
  refine r_go (.getfield 45) 3 rfl rfl rfl 88 [.ref 68] rfl ?_
  refine r_ld (.iload_n 1) 1 0 1 (.int (a1)) rfl rfl rfl rfl 89 rfl ?_
  refine r_ld (.iload_n 2) 1 0 2 (.int (a2)) rfl rfl rfl rfl 90 rfl ?_
  refine q_br w_PV (.ifCond .eq 14) 3 rfl rfl rfl (a2 = 0) 104 93 [.int (a1), .ref 68] rfl (fun _ => ?_) (fun _ => ?_)
  · exact r_w (k11_laysCosts_15_L104 r2 h2 a1 a1 M) (cd_le_s (cd_le_s (cd_le_n (cd_le_n cd_le_0))))
  · refine r_ld (.aload_n 0) 1 2 0 (.ref 15) rfl rfl rfl rfl 94 rfl ?_
    refine r_ld (.iload_n 1) 1 0 1 (.int (a1)) rfl rfl rfl rfl 95 rfl ?_
    refine r_ld (.iload_n 1) 1 0 1 (.int (a1)) rfl rfl rfl rfl 96 rfl ?_
    refine q_const (.iconst 2) 1 rfl rfl rfl 97 (2) _ rfl cd_kj2 ?_
    refine r_go (.isub) 1 rfl rfl rfl 98 [.int (a1 - 2), .int (a1), .ref 15, .int (a1), .ref 68] rfl ?_
    refine q_cIz w_PV rfl (.invokevirtual 270) rfl rfl rfl 204 rfl [.ref 15, .int (a1), .int (a1 - 2)] [.int (a1), .ref 68] rfl (k11_areAlike_15 a1 (a1 - 2) M) (fun v4 z5 => ?_)
    refine q_br w_PV (.ifCond .eq 7) 3 rfl rfl rfl (v4 = 0) 108 104 [.int (a1), .ref 68] rfl (fun _ => ?_) (fun _ => ?_)
    · refine r_ld (.iload_n 3) 1 0 3 (.int (s0)) rfl rfl rfl rfl 109 rfl ?_
      refine q_const (.sipush 999) 3 rfl rfl rfl 112 (999) _ rfl cd_kt999 ?_
      refine q_br w_PV (.if_icmp .le 9) 3 rfl rfl rfl (s0 ≤ 999) 121 115 [.int (a1), .ref 68] rfl (fun _ => ?_) (fun _ => ?_)
      · refine r_ld (.iload_n 3) 1 0 3 (.int (s0)) rfl rfl rfl rfl 122 rfl ?_
        exact r_w (k11_laysCosts_15_L122 r2 h2 a1 s0 a1 M) (cd_le_s (cd_le_s (cd_le_n (cd_le_n cd_le_0))))
      · refine q_const (.sipush 999) 3 rfl rfl rfl 118 (999) _ rfl cd_kt999 ?_
        refine r_go (.goto 4) 3 rfl rfl rfl 122 [.int (999), .int (a1), .ref 68] rfl ?_
        exact r_w (k11_laysCosts_15_L122 r2 h2 a1 999 a1 M) (cd_le_s (cd_le_s (cd_le_n (cd_le_n cd_le_0))))
    · exact r_w (k11_laysCosts_15_L104 r2 h2 a1 a1 M) (cd_le_s (cd_le_s (cd_le_n (cd_le_n cd_le_0))))
def f11_laysCosts_15_L66 (r2 : Int32 → cd_M → Option cd_M) (a1 : Int32) (a2 : Int32) (s0 : Int32) (s1 : Int32) (M : cd_M) : Option cd_M := if cd_in s1 90 = true then (cd_lt (cd_wI M 67 s1.toNatClampNeg s0) fun M1 => if a2 = 0 then (f11_laysCosts_15_L83 r2 a1 a2 0 M1) else ((f11_apartOf_15 a1 (a1 - 2) M1).bind fun v6 => f11_laysCosts_15_L83 r2 a1 a2 v6 M1)) else none
set_option maxRecDepth 8000 in
theorem k11_laysCosts_15_L66 (r2 : Int32 → cd_M → Option cd_M) (h2 : ∀ (a1 : Int32) (M : cd_M), cd_R 208 2 [some (.ref 15), some (.int (a1)), none, none] [] M (w_PV (r2 a1 M))) (a1 : Int32) (a2 : Int32) (s0 : Int32) (s1 : Int32) (M : cd_M) : cd_R 208 66 [some (.ref 15), some (.int (a1)), some (.int (a2)), none] [.int (s0), .int (s1), .ref 67] M (w_PV (f11_laysCosts_15_L66 r2 a1 a2 s0 s1 M)) := by
  unfold f11_laysCosts_15_L66
  refine q_iast w_PV rfl rfl 67 90 rfl (fun M1 => ?_)
  refine r_ld (.iload_n 2) 1 0 2 (.int (a2)) rfl rfl rfl rfl 68 rfl ?_
  refine q_br w_PV (.ifCond .eq 14) 3 rfl rfl rfl (a2 = 0) 82 71 [] rfl (fun _ => ?_) (fun _ => ?_)
  · refine q_const (.iconst 0) 1 rfl rfl rfl 83 (0) _ rfl cd_kj0 ?_
    exact r_w (k11_laysCosts_15_L83 r2 h2 a1 a2 0 M1) (cd_le_s (cd_le_s (cd_le_s (cd_le_n cd_le_0))))
  · refine r_ld (.aload_n 0) 1 2 0 (.ref 15) rfl rfl rfl rfl 72 rfl ?_
    refine r_ld (.iload_n 1) 1 0 1 (.int (a1)) rfl rfl rfl rfl 73 rfl ?_
    refine r_ld (.iload_n 1) 1 0 1 (.int (a1)) rfl rfl rfl rfl 74 rfl ?_
    refine q_const (.iconst 2) 1 rfl rfl rfl 75 (2) _ rfl cd_kj2 ?_
    refine r_go (.isub) 1 rfl rfl rfl 76 [.int (a1 - 2), .int (a1), .ref 15] rfl ?_
    refine q_cI w_PV rfl (.invokevirtual 261) rfl rfl rfl 202 [.ref 15, .int (a1), .int (a1 - 2)] [] rfl (k11_apartOf_15 a1 (a1 - 2) M1) (fun v6 => ?_)
    refine r_go (.goto 4) 3 rfl rfl rfl 83 [.int (v6)] rfl ?_
    exact r_w (k11_laysCosts_15_L83 r2 h2 a1 a2 v6 M1) (cd_le_s (cd_le_s (cd_le_s (cd_le_n cd_le_0))))
def f11_laysCosts_15_L65 (r2 : Int32 → cd_M → Option cd_M) (a1 : Int32) (a2 : Int32) (s0 : Int32) (M : cd_M) : Option cd_M := f11_laysCosts_15_L66 r2 a1 a2 0 s0 M
set_option maxRecDepth 8000 in
theorem k11_laysCosts_15_L65 (r2 : Int32 → cd_M → Option cd_M) (h2 : ∀ (a1 : Int32) (M : cd_M), cd_R 208 2 [some (.ref 15), some (.int (a1)), none, none] [] M (w_PV (r2 a1 M))) (a1 : Int32) (a2 : Int32) (s0 : Int32) (M : cd_M) : cd_R 208 65 [some (.ref 15), some (.int (a1)), some (.int (a2)), none] [.int (s0), .ref 67] M (w_PV (f11_laysCosts_15_L65 r2 a1 a2 s0 M)) := by
  unfold f11_laysCosts_15_L65
  refine q_const (.iconst 0) 1 rfl rfl rfl 66 (0) _ rfl cd_kj0 ?_
  exact r_w (k11_laysCosts_15_L66 r2 h2 a1 a2 0 s0 M) (cd_le_s (cd_le_s (cd_le_s (cd_le_n cd_le_0))))
def f11_laysCosts_15_L20 (r2 : Int32 → cd_M → Option cd_M) (a1 : Int32) (s0 : Int32) (M : cd_M) : Option cd_M := if s0 = 0 then (f11_laysCosts_15_L65 r2 a1 s0 a1 M) else ((f11_parityOf_15 a1 M).bind fun v7 => (f11_parityOf_15 (a1 - 2) M).bind fun v8 => if v7 = v8 then ((f11_areAlike_15 a1 (a1 - 2) M).bind fun v9 => if v9 = 0 then (f11_laysCosts_15_L65 r2 a1 s0 a1 M) else (if cd_in 2 10 = true then (f11_laysCosts_15_L66 r2 a1 s0 (M.1 62 (2 : Int32).toNatClampNeg) a1 M) else none)) else (f11_laysCosts_15_L65 r2 a1 s0 a1 M))
set_option maxRecDepth 8000 in
theorem k11_laysCosts_15_L20 (r2 : Int32 → cd_M → Option cd_M) (h2 : ∀ (a1 : Int32) (M : cd_M), cd_R 208 2 [some (.ref 15), some (.int (a1)), none, none] [] M (w_PV (r2 a1 M))) (a1 : Int32) (s0 : Int32) (M : cd_M) : cd_R 208 20 [some (.ref 15), some (.int (a1)), none, none] [.int (s0)] M (w_PV (f11_laysCosts_15_L20 r2 a1 s0 M)) := by
  unfold f11_laysCosts_15_L20
  refine r_st (.istore_n 2) 1 0 2 rfl rfl rfl 21 rfl [some (.ref 15), some (.int (a1)), some (.int (s0)), none] rfl ?_
  refine r_ld (.aload_n 0) 1 2 0 (.ref 15) rfl rfl rfl rfl 22 rfl ?_
  refine r_go (.getfield 42) 3 rfl rfl rfl 25 [.ref 67] rfl ?_
  refine r_ld (.iload_n 1) 1 0 1 (.int (a1)) rfl rfl rfl rfl 26 rfl ?_
  refine r_ld (.iload_n 2) 1 0 2 (.int (s0)) rfl rfl rfl rfl 27 rfl ?_
  refine q_br w_PV (.ifCond .eq 38) 3 rfl rfl rfl (s0 = 0) 65 30 [.int (a1), .ref 67] rfl (fun _ => ?_) (fun _ => ?_)
  · exact r_w (k11_laysCosts_15_L65 r2 h2 a1 s0 a1 M) (cd_le_s (cd_le_s (cd_le_s (cd_le_n cd_le_0))))
  · refine r_ld (.aload_n 0) 1 2 0 (.ref 15) rfl rfl rfl rfl 31 rfl ?_
    refine r_ld (.iload_n 1) 1 0 1 (.int (a1)) rfl rfl rfl rfl 32 rfl ?_
    refine q_cI w_PV rfl (.invokevirtual 258) rfl rfl rfl 190 [.ref 15, .int (a1)] [.int (a1), .ref 67] rfl (k11_parityOf_15 a1 M) (fun v7 => ?_)
    refine r_ld (.aload_n 0) 1 2 0 (.ref 15) rfl rfl rfl rfl 36 rfl ?_
    refine r_ld (.iload_n 1) 1 0 1 (.int (a1)) rfl rfl rfl rfl 37 rfl ?_
    refine q_const (.iconst 2) 1 rfl rfl rfl 38 (2) _ rfl cd_kj2 ?_
    refine r_go (.isub) 1 rfl rfl rfl 39 [.int (a1 - 2), .ref 15, .int (v7), .int (a1), .ref 67] rfl ?_
    refine q_cI w_PV rfl (.invokevirtual 258) rfl rfl rfl 190 [.ref 15, .int (a1 - 2)] [.int (v7), .int (a1), .ref 67] rfl (k11_parityOf_15 (a1 - 2) M) (fun v8 => ?_)
    refine q_br w_PV (.if_icmp .ne 23) 3 rfl rfl rfl (v7 = v8) 45 65 [.int (a1), .ref 67] rfl (fun _ => ?_) (fun _ => ?_)
    · refine r_ld (.aload_n 0) 1 2 0 (.ref 15) rfl rfl rfl rfl 46 rfl ?_
      refine r_ld (.iload_n 1) 1 0 1 (.int (a1)) rfl rfl rfl rfl 47 rfl ?_
      refine r_ld (.iload_n 1) 1 0 1 (.int (a1)) rfl rfl rfl rfl 48 rfl ?_
      refine q_const (.iconst 2) 1 rfl rfl rfl 49 (2) _ rfl cd_kj2 ?_
      refine r_go (.isub) 1 rfl rfl rfl 50 [.int (a1 - 2), .int (a1), .ref 15, .int (a1), .ref 67] rfl ?_
      refine q_cIz w_PV rfl (.invokevirtual 270) rfl rfl rfl 204 rfl [.ref 15, .int (a1), .int (a1 - 2)] [.int (a1), .ref 67] rfl (k11_areAlike_15 a1 (a1 - 2) M) (fun v9 z10 => ?_)
      refine q_br w_PV (.ifCond .eq 12) 3 rfl rfl rfl (v9 = 0) 65 56 [.int (a1), .ref 67] rfl (fun _ => ?_) (fun _ => ?_)
      · exact r_w (k11_laysCosts_15_L65 r2 h2 a1 s0 a1 M) (cd_le_s (cd_le_s (cd_le_s (cd_le_n cd_le_0))))
      · refine r_ld (.aload_n 0) 1 2 0 (.ref 15) rfl rfl rfl rfl 57 rfl ?_
        refine r_go (.getfield 26) 3 rfl rfl rfl 60 [.ref 62, .int (a1), .ref 67] rfl ?_
        refine q_const (.iconst 2) 1 rfl rfl rfl 61 (2) _ rfl cd_kj2 ?_
        refine q_iald w_PV rfl rfl 62 10 rfl ?_
        refine r_go (.goto 4) 3 rfl rfl rfl 66 [.int (M.1 62 (2 : Int32).toNatClampNeg), .int (a1), .ref 67] rfl ?_
        exact r_w (k11_laysCosts_15_L66 r2 h2 a1 s0 (M.1 62 (2 : Int32).toNatClampNeg) a1 M) (cd_le_s (cd_le_s (cd_le_s (cd_le_n cd_le_0))))
    · exact r_w (k11_laysCosts_15_L65 r2 h2 a1 s0 a1 M) (cd_le_s (cd_le_s (cd_le_s (cd_le_n cd_le_0))))
def f11_laysCosts_15_L2 : Nat → Int32 → cd_M → Option cd_M
  | 0, _, _ => none
  | n + 1, a1, M => if M.1 15 24 ≤ a1 then (some M) else (if a1 ≤ 1 then (f11_laysCosts_15_L20 (f11_laysCosts_15_L2 n) a1 0 M) else (f11_laysCosts_15_L20 (f11_laysCosts_15_L2 n) a1 1 M))
set_option maxRecDepth 8000 in
theorem k11_laysCosts_15_L2 : ∀ (n : Nat) (a1 : Int32) (M : cd_M), cd_R 208 2 [some (.ref 15), some (.int (a1)), none, none] [] M (w_PV (f11_laysCosts_15_L2 n a1 M)) := by
  intro n
  induction n with
  | zero =>
    intro a1 M
    exact q_none w_PV rfl
  | succ n ih =>
    intro a1 M
    rw [f11_laysCosts_15_L2]
    refine r_ld (.iload_n 1) 1 0 1 (.int (a1)) rfl rfl rfl rfl 3 rfl ?_
    refine r_ld (.aload_n 0) 1 2 0 (.ref 15) rfl rfl rfl rfl 4 rfl ?_
    refine r_go (.getfield 195) 3 rfl rfl rfl 7 [.int (M.1 15 24), .int (a1)] rfl ?_
    refine q_br w_PV (.if_icmp .ge 122) 3 rfl rfl rfl (M.1 15 24 ≤ a1) 129 10 [] rfl (fun _ => ?_) (fun _ => ?_)
    · exact r_ret .return_ 1 rfl rfl rfl _ rfl
    · refine r_ld (.iload_n 1) 1 0 1 (.int (a1)) rfl rfl rfl rfl 11 rfl ?_
      refine q_const (.iconst 1) 1 rfl rfl rfl 12 (1) _ rfl cd_kj1 ?_
      refine q_br w_PV (.if_icmp .le 7) 3 rfl rfl rfl (a1 ≤ 1) 19 15 [] rfl (fun _ => ?_) (fun _ => ?_)
      · refine q_const (.iconst 0) 1 rfl rfl rfl 20 (0) _ rfl cd_kj0 ?_
        exact r_w (k11_laysCosts_15_L20 (f11_laysCosts_15_L2 n) ih a1 0 M) (cd_le_s (cd_le_s (cd_le_n (cd_le_n cd_le_0))))
      · refine q_const (.iconst 1) 1 rfl rfl rfl 16 (1) _ rfl cd_kj1 ?_
        refine r_go (.goto 4) 3 rfl rfl rfl 20 [.int (1)] rfl ?_
        exact r_w (k11_laysCosts_15_L20 (f11_laysCosts_15_L2 n) ih a1 1 M) (cd_le_s (cd_le_s (cd_le_n (cd_le_n cd_le_0))))
def f11_laysCosts_15 (M : cd_M) : Option cd_M := f11_laysCosts_15_L2 cd_fu 0 M
set_option maxRecDepth 8000 in
theorem k11_laysCosts_15 (M : cd_M) : cd_R 208 0 [some (.ref 15), none, none, none] [] M (w_PV (f11_laysCosts_15 M)) := by
  unfold f11_laysCosts_15
  refine q_const (.iconst 0) 1 rfl rfl rfl 1 (0) _ rfl cd_kj0 ?_
  refine r_st (.istore_n 1) 1 0 1 rfl rfl rfl 2 rfl [some (.ref 15), some (.int (0)), none, none] rfl ?_
  exact r_w (k11_laysCosts_15_L2 cd_fu 0 M) (cd_le_s (cd_le_s (cd_le_n (cd_le_n cd_le_0))))
def f11_numberAt_15 (a1 : Int32) (M : cd_M) : Option (Int32) := if cd_in ((6 * (M.1 15 29)) + a1) 48 = true then (some (M.1 61 ((6 * (M.1 15 29)) + a1 : Int32).toNatClampNeg)) else none
set_option maxRecDepth 8000 in
theorem k11_numberAt_15 (a1 : Int32) (M : cd_M) : cd_R 206 0 [some (.ref 15), some (.int (a1))] [] M ((w_PI M) (f11_numberAt_15 a1 M)) := by
  unfold f11_numberAt_15
  refine r_ld (.aload_n 0) 1 2 0 (.ref 15) rfl rfl rfl rfl 1 rfl ?_
  refine r_go (.getfield 23) 3 rfl rfl rfl 4 [.ref 61] rfl ?_
  refine q_const (.bipush 6) 2 rfl rfl rfl 6 (6) _ rfl cd_kc6 ?_
  refine r_ld (.aload_n 0) 1 2 0 (.ref 15) rfl rfl rfl rfl 7 rfl ?_
  refine r_go (.getfield 264) 3 rfl rfl rfl 10 [.int (M.1 15 29), .int (6), .ref 61] rfl ?_
  refine r_go (.imul) 1 rfl rfl rfl 11 [.int (6 * (M.1 15 29)), .ref 61] rfl ?_
  refine r_ld (.iload_n 1) 1 0 1 (.int (a1)) rfl rfl rfl rfl 12 rfl ?_
  refine r_go (.iadd) 1 rfl rfl rfl 13 [.int ((6 * (M.1 15 29)) + a1), .ref 61] rfl ?_
  refine q_iald (w_PI M) rfl rfl 61 48 rfl ?_
  exact r_ret .ireturn 1 rfl rfl rfl _ rfl
def f11_isState_15 (a1 : Int32) (a2 : Int32) (a3 : Int32) (M : cd_M) : Option (Int32) := if cd_in (M.1 15 29) 8 = true then (if M.1 60 (M.1 15 29 : Int32).toNatClampNeg ≤ a1 then (some 0) else ((f11_numberAt_15 a1 M).bind fun v1 => if v1 ≤ a2 then (some 0) else (if a2 < a3 then (some 0) else (some 1)))) else none
set_option maxRecDepth 8000 in
theorem k11_isState_15 (a1 : Int32) (a2 : Int32) (a3 : Int32) (M : cd_M) : cd_R 207 0 [some (.ref 15), some (.int (a1)), some (.int (a2)), some (.int (a3))] [] M ((w_PI M) (f11_isState_15 a1 a2 a3 M)) := by
  unfold f11_isState_15
  refine r_ld (.iload_n 1) 1 0 1 (.int (a1)) rfl rfl rfl rfl 1 rfl ?_
  refine r_ld (.aload_n 0) 1 2 0 (.ref 15) rfl rfl rfl rfl 2 rfl ?_
  refine r_go (.getfield 20) 3 rfl rfl rfl 5 [.ref 60, .int (a1)] rfl ?_
  refine r_ld (.aload_n 0) 1 2 0 (.ref 15) rfl rfl rfl rfl 6 rfl ?_
  refine r_go (.getfield 264) 3 rfl rfl rfl 9 [.int (M.1 15 29), .ref 60, .int (a1)] rfl ?_
  refine q_iald (w_PI M) rfl rfl 60 8 rfl ?_
  refine q_br (w_PI M) (.if_icmp .ge 21) 3 rfl rfl rfl (M.1 60 (M.1 15 29 : Int32).toNatClampNeg ≤ a1) 31 13 [] rfl (fun _ => ?_) (fun _ => ?_)
  · refine q_const (.iconst 0) 1 rfl rfl rfl 32 (0) _ rfl cd_kj0 ?_
    exact r_retZ rfl rfl (by decide)
  · refine r_ld (.iload_n 2) 1 0 2 (.int (a2)) rfl rfl rfl rfl 14 rfl ?_
    refine r_ld (.aload_n 0) 1 2 0 (.ref 15) rfl rfl rfl rfl 15 rfl ?_
    refine r_ld (.iload_n 1) 1 0 1 (.int (a1)) rfl rfl rfl rfl 16 rfl ?_
    refine q_cI (w_PI M) rfl (.invokevirtual 267) rfl rfl rfl 206 [.ref 15, .int (a1)] [.int (a2)] rfl (k11_numberAt_15 a1 M) (fun v1 => ?_)
    refine q_br (w_PI M) (.if_icmp .ge 12) 3 rfl rfl rfl (v1 ≤ a2) 31 22 [] rfl (fun _ => ?_) (fun _ => ?_)
    · refine q_const (.iconst 0) 1 rfl rfl rfl 32 (0) _ rfl cd_kj0 ?_
      exact r_retZ rfl rfl (by decide)
    · refine r_ld (.iload_n 3) 1 0 3 (.int (a3)) rfl rfl rfl rfl 23 rfl ?_
      refine r_ld (.iload_n 2) 1 0 2 (.int (a2)) rfl rfl rfl rfl 24 rfl ?_
      refine q_br (w_PI M) (.if_icmp .gt 7) 3 rfl rfl rfl (a2 < a3) 31 27 [] rfl (fun _ => ?_) (fun _ => ?_)
      · refine q_const (.iconst 0) 1 rfl rfl rfl 32 (0) _ rfl cd_kj0 ?_
        exact r_retZ rfl rfl (by decide)
      · refine q_const (.iconst 1) 1 rfl rfl rfl 28 (1) _ rfl cd_kj1 ?_
        refine r_go (.goto 4) 3 rfl rfl rfl 32 [.int (1)] rfl ?_
        exact r_retZ rfl rfl (by decide)
def f11_stateOf (a0 : Int32) (a1 : Int32) (a2 : Int32) (M : cd_M) : Int32 := (((25 * a0) + (5 * a1)) + a2)
set_option maxRecDepth 8000 in
theorem k11_stateOf (a0 : Int32) (a1 : Int32) (a2 : Int32) (M : cd_M) : cd_R 205 0 [some (.int (a0)), some (.int (a1)), some (.int (a2))] [] M ((w_TI M) (f11_stateOf a0 a1 a2 M)) := by
  unfold f11_stateOf
  refine q_const (.bipush 25) 2 rfl rfl rfl 2 (25) _ rfl cd_kc25 ?_
  refine r_ld (.iload_n 0) 1 0 0 (.int (a0)) rfl rfl rfl rfl 3 rfl ?_
  refine r_go (.imul) 1 rfl rfl rfl 4 [.int (25 * a0)] rfl ?_
  refine q_const (.iconst 5) 1 rfl rfl rfl 5 (5) _ rfl cd_kj5 ?_
  refine r_ld (.iload_n 1) 1 0 1 (.int (a1)) rfl rfl rfl rfl 6 rfl ?_
  refine r_go (.imul) 1 rfl rfl rfl 7 [.int (5 * a1), .int (25 * a0)] rfl ?_
  refine r_go (.iadd) 1 rfl rfl rfl 8 [.int ((25 * a0) + (5 * a1))] rfl ?_
  refine r_ld (.iload_n 2) 1 0 2 (.int (a2)) rfl rfl rfl rfl 9 rfl ?_
  refine r_go (.iadd) 1 rfl rfl rfl 10 [.int (((25 * a0) + (5 * a1)) + a2)] rfl ?_
  exact r_ret .ireturn 1 rfl rfl rfl _ rfl
def f11_on_15 (a1 : Int32) (a2 : Int32) (M : cd_M) : Option (Int32) := (f11_parityOf_15 a1 M).bind fun v1 => (f11_parityOf_15 (a1 - 1) M).bind fun v2 => if v1 = v2 then (some (-1)) else (cd_lt (a2 / 25) fun x3 => cd_lt ((a2 / 5) - (a2 / 5) / 5 * 5) fun x4 => (f11_numberAt_15 x3 M).bind fun v5 => if v5 ≤ x4 + 1 then (if cd_in (M.1 15 29) 8 = true then (if M.1 60 (M.1 15 29 : Int32).toNatClampNeg = 0 then none else (some (f11_stateOf ((x3 + 1) - (x3 + 1) / (M.1 60 (M.1 15 29 : Int32).toNatClampNeg) * (M.1 60 (M.1 15 29 : Int32).toNatClampNeg)) 0 0 M))) else none) else (some (f11_stateOf x3 (x4 + 1) ((a2 - a2 / 5 * 5) + 1) M)))
set_option maxRecDepth 8000 in
theorem k11_on_15 (a1 : Int32) (a2 : Int32) (M : cd_M) : cd_R 210 0 [some (.ref 15), some (.int (a1)), some (.int (a2)), none, none] [] M ((w_PI M) (f11_on_15 a1 a2 M)) := by
  unfold f11_on_15
  refine r_ld (.aload_n 0) 1 2 0 (.ref 15) rfl rfl rfl rfl 1 rfl ?_
  refine r_ld (.iload_n 1) 1 0 1 (.int (a1)) rfl rfl rfl rfl 2 rfl ?_
  refine q_cI (w_PI M) rfl (.invokevirtual 258) rfl rfl rfl 190 [.ref 15, .int (a1)] [] rfl (k11_parityOf_15 a1 M) (fun v1 => ?_)
  refine r_ld (.aload_n 0) 1 2 0 (.ref 15) rfl rfl rfl rfl 6 rfl ?_
  refine r_ld (.iload_n 1) 1 0 1 (.int (a1)) rfl rfl rfl rfl 7 rfl ?_
  refine q_const (.iconst 1) 1 rfl rfl rfl 8 (1) _ rfl cd_kj1 ?_
  refine r_go (.isub) 1 rfl rfl rfl 9 [.int (a1 - 1), .ref 15, .int (v1)] rfl ?_
  refine q_cI (w_PI M) rfl (.invokevirtual 258) rfl rfl rfl 190 [.ref 15, .int (a1 - 1)] [.int (v1)] rfl (k11_parityOf_15 (a1 - 1) M) (fun v2 => ?_)
  refine q_br (w_PI M) (.if_icmp .ne 5) 3 rfl rfl rfl (v1 = v2) 15 17 [] rfl (fun _ => ?_) (fun _ => ?_)
  · refine q_const (.iconst (-1)) 1 rfl rfl rfl 16 (-1) _ rfl cd_kjm1 ?_
    exact r_ret .ireturn 1 rfl rfl rfl _ rfl
  · refine r_ld (.iload_n 2) 1 0 2 (.int (a2)) rfl rfl rfl rfl 18 rfl ?_
    refine q_const (.bipush 25) 2 rfl rfl rfl 20 (25) _ rfl cd_kc25 ?_
    refine q_divK rfl (by decide) ?_
    refine q_stB (w_PI M) (.istore_n 3) 1 0 3 rfl rfl (fun _ => rfl) 22 rfl (fun x3 => [some (.ref 15), some (.int (a1)), some (.int (a2)), some (.int (x3)), none]) (fun _ => rfl) (fun x3 => ?_)
    refine r_ld (.iload_n 2) 1 0 2 (.int (a2)) rfl rfl rfl rfl 23 rfl ?_
    refine q_const (.iconst 5) 1 rfl rfl rfl 24 (5) _ rfl cd_kj5 ?_
    refine q_divK rfl (by decide) ?_
    refine q_const (.iconst 5) 1 rfl rfl rfl 26 (5) _ rfl cd_kj5 ?_
    refine q_remK rfl (by decide) ?_
    refine q_stB (w_PI M) (.istore 4) 2 0 4 rfl rfl (fun _ => rfl) 29 rfl (fun x4 => [some (.ref 15), some (.int (a1)), some (.int (a2)), some (.int (x3)), some (.int (x4))]) (fun _ => rfl) (fun x4 => ?_)
    refine r_ld (.iload 4) 2 0 4 (.int (x4)) rfl rfl rfl rfl 31 rfl ?_
    refine q_const (.iconst 1) 1 rfl rfl rfl 32 (1) _ rfl cd_kj1 ?_
    refine r_go (.iadd) 1 rfl rfl rfl 33 [.int (x4 + 1)] rfl ?_
    refine r_ld (.aload_n 0) 1 2 0 (.ref 15) rfl rfl rfl rfl 34 rfl ?_
    refine r_ld (.iload_n 3) 1 0 3 (.int (x3)) rfl rfl rfl rfl 35 rfl ?_
    refine q_cI (w_PI M) rfl (.invokevirtual 267) rfl rfl rfl 206 [.ref 15, .int (x3)] [.int (x4 + 1)] rfl (k11_numberAt_15 x3 M) (fun v5 => ?_)
    refine q_br (w_PI M) (.if_icmp .ge 17) 3 rfl rfl rfl (v5 ≤ x4 + 1) 55 41 [] rfl (fun _ => ?_) (fun _ => ?_)
    · refine r_ld (.iload_n 3) 1 0 3 (.int (x3)) rfl rfl rfl rfl 56 rfl ?_
      refine q_const (.iconst 1) 1 rfl rfl rfl 57 (1) _ rfl cd_kj1 ?_
      refine r_go (.iadd) 1 rfl rfl rfl 58 [.int (x3 + 1)] rfl ?_
      refine r_ld (.aload_n 0) 1 2 0 (.ref 15) rfl rfl rfl rfl 59 rfl ?_
      refine r_go (.getfield 20) 3 rfl rfl rfl 62 [.ref 60, .int (x3 + 1)] rfl ?_
      refine r_ld (.aload_n 0) 1 2 0 (.ref 15) rfl rfl rfl rfl 63 rfl ?_
      refine r_go (.getfield 264) 3 rfl rfl rfl 66 [.int (M.1 15 29), .ref 60, .int (x3 + 1)] rfl ?_
      refine q_iald (w_PI M) rfl rfl 60 8 rfl ?_
      refine q_rem (w_PI M) rfl rfl ?_
      refine q_const (.iconst 0) 1 rfl rfl rfl 69 (0) _ rfl cd_kj0 ?_
      refine q_const (.iconst 0) 1 rfl rfl rfl 70 (0) _ rfl cd_kj0 ?_
      refine q_cTI (.invokestatic 273) rfl rfl rfl 205 [.int ((x3 + 1) - (x3 + 1) / (M.1 60 (M.1 15 29 : Int32).toNatClampNeg) * (M.1 60 (M.1 15 29 : Int32).toNatClampNeg)), .int (0), .int (0)] [] rfl (k11_stateOf ((x3 + 1) - (x3 + 1) / (M.1 60 (M.1 15 29 : Int32).toNatClampNeg) * (M.1 60 (M.1 15 29 : Int32).toNatClampNeg)) 0 0 M) ?_
      exact r_ret .ireturn 1 rfl rfl rfl _ rfl
    · refine r_ld (.iload_n 3) 1 0 3 (.int (x3)) rfl rfl rfl rfl 42 rfl ?_
      refine r_ld (.iload 4) 2 0 4 (.int (x4)) rfl rfl rfl rfl 44 rfl ?_
      refine q_const (.iconst 1) 1 rfl rfl rfl 45 (1) _ rfl cd_kj1 ?_
      refine r_go (.iadd) 1 rfl rfl rfl 46 [.int (x4 + 1), .int (x3)] rfl ?_
      refine r_ld (.iload_n 2) 1 0 2 (.int (a2)) rfl rfl rfl rfl 47 rfl ?_
      refine q_const (.iconst 5) 1 rfl rfl rfl 48 (5) _ rfl cd_kj5 ?_
      refine q_remK rfl (by decide) ?_
      refine q_const (.iconst 1) 1 rfl rfl rfl 50 (1) _ rfl cd_kj1 ?_
      refine r_go (.iadd) 1 rfl rfl rfl 51 [.int ((a2 - a2 / 5 * 5) + 1), .int (x4 + 1), .int (x3)] rfl ?_
      refine q_cTI (.invokestatic 273) rfl rfl rfl 205 [.int (x3), .int (x4 + 1), .int ((a2 - a2 / 5 * 5) + 1)] [] rfl (k11_stateOf x3 (x4 + 1) ((a2 - a2 / 5 * 5) + 1) M) ?_
      exact r_ret .ireturn 1 rfl rfl rfl _ rfl
def f11_costAt_15 (a1 : Int32) (a2 : Int32) (M : cd_M) : Option (Int32) := if 2 ≤ a2 - a2 / 5 * 5 then (if cd_in a1 90 = true then (some (M.1 68 a1.toNatClampNeg)) else none) else (if cd_in a1 90 = true then (some (M.1 67 a1.toNatClampNeg)) else none)
set_option maxRecDepth 8000 in
theorem k11_costAt_15 (a1 : Int32) (a2 : Int32) (M : cd_M) : cd_R 209 0 [some (.ref 15), some (.int (a1)), some (.int (a2))] [] M ((w_PI M) (f11_costAt_15 a1 a2 M)) := by
  unfold f11_costAt_15
  refine r_ld (.iload_n 2) 1 0 2 (.int (a2)) rfl rfl rfl rfl 1 rfl ?_
  refine q_const (.iconst 5) 1 rfl rfl rfl 2 (5) _ rfl cd_kj5 ?_
  refine q_remK rfl (by decide) ?_
  refine q_const (.iconst 2) 1 rfl rfl rfl 4 (2) _ rfl cd_kj2 ?_
  refine q_br (w_PI M) (.if_icmp .ge 12) 3 rfl rfl rfl (2 ≤ a2 - a2 / 5 * 5) 16 7 [] rfl (fun _ => ?_) (fun _ => ?_)
  · refine r_ld (.aload_n 0) 1 2 0 (.ref 15) rfl rfl rfl rfl 17 rfl ?_
    refine r_go (.getfield 45) 3 rfl rfl rfl 20 [.ref 68] rfl ?_
    refine r_ld (.iload_n 1) 1 0 1 (.int (a1)) rfl rfl rfl rfl 21 rfl ?_
    refine q_iald (w_PI M) rfl rfl 68 90 rfl ?_
    exact r_ret .ireturn 1 rfl rfl rfl _ rfl
  · refine r_ld (.aload_n 0) 1 2 0 (.ref 15) rfl rfl rfl rfl 8 rfl ?_
    refine r_go (.getfield 42) 3 rfl rfl rfl 11 [.ref 67] rfl ?_
    refine r_ld (.iload_n 1) 1 0 1 (.int (a1)) rfl rfl rfl rfl 12 rfl ?_
    refine q_iald (w_PI M) rfl rfl 67 90 rfl ?_
    refine r_go (.goto 9) 3 rfl rfl rfl 22 [.int (M.1 67 a1.toNatClampNeg)] rfl ?_
    exact r_ret .ireturn 1 rfl rfl rfl _ rfl
