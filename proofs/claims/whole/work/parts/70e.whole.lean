/-! whole_start: what the Statement gives at the entry -/
theorem c0_nest : ∀ w ∈ cd_nest, w ∈ lw_tbl := by decide +kernel
theorem c0_cwnest : ∀ w ∈ cw_nest, w ∈ lw_tbl := by decide +kernel
def c0_tm (i : Nat) : Term := .string (cd_c (cd_str.getD i (0, 0, "")).1) (cd_str.getD i (0, 0, "")).2.1
def c0_fl : List Cond := flatC (Jvm.Cond.and given_1 narrow_1)
def c0_va (i : Nat) : Term := .field (c0_tm i) "java/lang/String" "value" "[B"
theorem c0_w1 : ∀ i : Fin 13, Cond.exactly (c0_tm i.1) "java/lang/String" ∈ c0_fl := by decide +kernel
theorem c0_w2 : ∀ i : Fin 13, Cond.eq (.field (c0_tm i.1) "java/lang/String" "coder" "B") (.int 0) ∈ c0_fl := by decide +kernel
theorem c0_w3 : ∀ i : Fin 13, Cond.arrayOf (c0_va i.1) .byte ∈ c0_fl := by decide +kernel
theorem c0_w4 : ∀ i : Fin 13, Cond.eq (.length (c0_va i.1)) (.int (Int32.ofNat (cd_sl.getD i.1 0))) ∈ c0_fl := by decide +kernel
theorem c0_w5 : ∀ i : Fin 13, ∀ j : Fin 14, j.1 < cd_sl.getD i.1 0 → Cond.eq (.elem (c0_va i.1) (.int (Int32.ofNat j.1))) (.int ((cd_sb.getD i.1 []).getD j.1 0)) ∈ c0_fl := by decide +kernel
def c0_ps : List (List Nat) := [[0, 41, 53, 64, 75, 88, 101, 118, 132, 148, 165, 192, 221], [0, 0, 54, 65, 76, 89, 102, 119, 133, 149, 166, 193, 222], [0, 0, 0, 66, 77, 90, 103, 120, 134, 150, 167, 194, 223], [0, 0, 0, 0, 78, 91, 104, 121, 135, 151, 168, 195, 224], [0, 0, 0, 0, 0, 92, 105, 122, 136, 152, 169, 196, 225], [0, 0, 0, 0, 0, 0, 106, 123, 137, 153, 170, 197, 226], [0, 0, 0, 0, 0, 0, 0, 124, 138, 154, 171, 198, 227], [0, 0, 0, 0, 0, 0, 0, 0, 139, 155, 172, 199, 228], [0, 0, 0, 0, 0, 0, 0, 0, 0, 156, 173, 200, 229], [0, 0, 0, 0, 0, 0, 0, 0, 0, 0, 174, 201, 230], [0, 0, 0, 0, 0, 0, 0, 0, 0, 0, 0, 202, 231], [0, 0, 0, 0, 0, 0, 0, 0, 0, 0, 0, 0, 232], [0, 0, 0, 0, 0, 0, 0, 0, 0, 0, 0, 0, 0]]
theorem c0_w7 : ∀ i j : Fin 13, i.1 < j.1 → c0_fl[(c0_ps.getD i.1 []).getD j.1 0]? = some (Cond.not (Cond.eq (c0_tm i.1) (c0_tm j.1))) := by decide +kernel
theorem c0_w6 (i j : Fin 13) (h : i.1 ≠ j.1) : Cond.not (Cond.eq (c0_tm i.1) (c0_tm j.1)) ∈ c0_fl ∨ Cond.not (Cond.eq (c0_tm j.1) (c0_tm i.1)) ∈ c0_fl := by
  by_cases q : i.1 < j.1
  · exact Or.inl (List.mem_of_getElem? (c0_w7 i j q))
  · exact Or.inr (List.mem_of_getElem? (c0_w7 j i (by omega)))
theorem c0_sr : ∀ i : Fin 13, Cond.stringRef (cd_c (cd_str.getD i.1 (0, 0, "")).1) (cd_str.getD i.1 (0, 0, "")).2.1 (cd_str.getD i.1 (0, 0, "")).2.2 ∈ lw_tbl := by decide +kernel
theorem c0_si : ∀ q ∈ cd_strI, q.2.2 < 13 ∧ q.1 = (cd_str.getD q.2.2 (0, 0, "")).1 ∧ q.2.1 = (cd_str.getD q.2.2 (0, 0, "")).2.1 := by decide
theorem c0_s1 : ∀ i : Fin 13, cd_sl.getD i.1 0 ≤ 14 := by decide
theorem c0_l1 : Cond.laysStatic RJ0 "COMPACT_STRINGS" "Z" ∈ lw_tbl ∧ Cond.laysStatic RJ3 "SIOOBE_FORMATTER" "Ljava/util/function/BiFunction;" ∈ lw_tbl ∧ Cond.laysStatic Bundle.tN "UNASSIGNED_STACK" Bundle.steD ∈ lw_tbl ∧ Cond.laysStatic Bundle.tN "SUPPRESSED_SENTINEL" Bundle.listD ∈ lw_tbl := by decide +kernel
theorem c0_l2 : Cond.eq (.static RJ0 "COMPACT_STRINGS" "Z") (.int 1) ∈ c0_fl ∧ Cond.isRef (.static RJ3 "SIOOBE_FORMATTER" "Ljava/util/function/BiFunction;") ∈ c0_fl ∧ Cond.isRef (.static Bundle.tN "UNASSIGNED_STACK" Bundle.steD) ∈ c0_fl ∧ Cond.isRef (.static Bundle.tN "SUPPRESSED_SENTINEL" Bundle.listD) ∈ c0_fl := by decide +kernel
def c0_Tf (adK adV : Nat → Nat) : Nat → Nat := fun k => if k < 1100 then adK (k - 1000) else adV (k - 1100)
theorem c0_adT (L0 : List Nat) (T : Nat → Nat) {k : Nat} (h : 83 ≤ k) : c0_ad L0 T k = T k := by
  unfold c0_ad
  have e : Nat.blt k 83 = false := by
    cases q : Nat.blt k 83 with
    | false => rfl
    | true => exact absurd (Nat.le_of_ble_eq_true q) (by omega)
  rw [e]
  rfl
theorem c0_adK (L0 : List Nat) (adK adV : Nat → Nat) {i : Nat} (h : i < 13) : c0_ad L0 (c0_Tf adK adV) (1000 + i) = adK i := by
  rw [c0_adT L0 _ (by omega)]
  unfold c0_Tf
  rw [if_pos (by omega), show 1000 + i - 1000 = i by omega]
theorem c0_adV (L0 : List Nat) (adK adV : Nat → Nat) {i : Nat} : c0_ad L0 (c0_Tf adK adV) (1100 + i) = adV i := by
  rw [c0_adT L0 _ (by omega)]
  unfold c0_Tf
  rw [if_neg (by omega), show 1100 + i - 1100 = i by omega]
theorem c0_K {s : State} {args : Array Value} (hbig : ∀ w ∈ cd_big, w.before args s = true) : ∃ (D : va_G) (cy : Nat → ClassId), va_K D cd_cl (cd_tys cy) s := by
  have hk : ∀ k, ∃ q : ClassId × (Nat → Nat), k < 12 → u_Kn s (cd_F k).1 (cd_F k).2.1 (cd_F k).2.2 q.1 q.2 := by
    intro k
    by_cases h : k < 12
    · rcases (show k = 0 ∨ k = 1 ∨ k = 2 ∨ k = 3 ∨ k = 4 ∨ k = 5 ∨ k = 6 ∨ k = 7 ∨ k = 8 ∨ k = 9 ∨ k = 10 ∨ k = 11 by omega) with rfl | rfl | rfl | rfl | rfl | rfl | rfl | rfl | rfl | rfl | rfl | rfl
      · obtain ⟨cC, iS, hh⟩ := u_known (C := (cd_F 0).1) (T := (cd_F 0).2.1) (N := (cd_F 0).2.2) hbig (cd_lay 0 (by decide)) (hbig (.instantiable RX0 10) (cd_m 1 178 rfl rfl))
        exact ⟨(cC, iS), fun _ => hh⟩
      · obtain ⟨cC, iS, hh⟩ := u_known (C := (cd_F 1).1) (T := (cd_F 1).2.1) (N := (cd_F 1).2.2) hbig (cd_lay 1 (by decide)) (hbig (.instantiable RX1 4) (cd_m 1 67 rfl rfl))
        exact ⟨(cC, iS), fun _ => hh⟩
      · obtain ⟨cC, iS, hh⟩ := u_known (C := (cd_F 2).1) (T := (cd_F 2).2.1) (N := (cd_F 2).2.2) hbig (cd_lay 2 (by decide)) (hbig (.instantiable RX2 9) (cd_m 2 35 rfl rfl))
        exact ⟨(cC, iS), fun _ => hh⟩
      · obtain ⟨cC, iS, hh⟩ := u_known (C := (cd_F 3).1) (T := (cd_F 3).2.1) (N := (cd_F 3).2.2) hbig (cd_lay 3 (by decide)) (hbig (.instantiable RX3 4) (cd_m 1 159 rfl rfl))
        exact ⟨(cC, iS), fun _ => hh⟩
      · obtain ⟨cC, iS, hh⟩ := u_known (C := (cd_F 4).1) (T := (cd_F 4).2.1) (N := (cd_F 4).2.2) hbig (cd_lay 4 (by decide)) (hbig (.instantiable RX4 2) (cd_m 1 144 rfl rfl))
        exact ⟨(cC, iS), fun _ => hh⟩
      · obtain ⟨cC, iS, hh⟩ := u_known (C := (cd_F 5).1) (T := (cd_F 5).2.1) (N := (cd_F 5).2.2) hbig (cd_lay 5 (by decide)) (hbig (.instantiable RX5 4) (cd_m 1 90 rfl rfl))
        exact ⟨(cC, iS), fun _ => hh⟩
      · obtain ⟨cC, iS, hh⟩ := u_known (C := (cd_F 6).1) (T := (cd_F 6).2.1) (N := (cd_F 6).2.2) hbig (cd_lay 6 (by decide)) (hbig (.instantiable RX6 5) (cd_m 1 184 rfl rfl))
        exact ⟨(cC, iS), fun _ => hh⟩
      · obtain ⟨cC, iS, hh⟩ := u_known (C := (cd_F 7).1) (T := (cd_F 7).2.1) (N := (cd_F 7).2.2) hbig (cd_lay 7 (by decide)) (hbig (.instantiable RX7 7) (cd_m 1 38 rfl rfl))
        exact ⟨(cC, iS), fun _ => hh⟩
      · obtain ⟨cC, iS, hh⟩ := u_known (C := (cd_F 8).1) (T := (cd_F 8).2.1) (N := (cd_F 8).2.2) hbig (cd_lay 8 (by decide)) (hbig (.instantiable RX8 6) (cd_m 1 32 rfl rfl))
        exact ⟨(cC, iS), fun _ => hh⟩
      · obtain ⟨cC, iS, hh⟩ := u_known (C := (cd_F 9).1) (T := (cd_F 9).2.1) (N := (cd_F 9).2.2) hbig (cd_lay 9 (by decide)) (hbig (.instantiable RX9 10) (cd_m 1 238 rfl rfl))
        exact ⟨(cC, iS), fun _ => hh⟩
      · obtain ⟨cC, iS, hh⟩ := u_known (C := (cd_F 10).1) (T := (cd_F 10).2.1) (N := (cd_F 10).2.2) hbig (cd_lay 10 (by decide)) (hbig (.instantiable RX10 12) (cd_m 1 24 rfl rfl))
        exact ⟨(cC, iS), fun _ => hh⟩
      · obtain ⟨cC, iS, hh⟩ := u_known (C := (cd_F 11).1) (T := (cd_F 11).2.1) (N := (cd_F 11).2.2) hbig (cd_lay 11 (by decide)) (hbig (.instantiable RX11 53) (cd_m 5 223 rfl rfl))
        exact ⟨(cC, iS), fun _ => hh⟩
    · exact ⟨(0, fun _ => 0), fun z => absurd z h⟩
  obtain ⟨f, hf⟩ : ∃ f : Nat → ClassId × (Nat → Nat), ∀ k, k < 12 → u_Kn s (cd_F k).1 (cd_F k).2.1 (cd_F k).2.2 (f k).1 (f k).2 := ⟨fun k => (hk k).choose, fun k => (hk k).choose_spec⟩
  obtain ⟨a0, k0, p0, x0, y0, z0⟩ := Cond.arrayClass_spec (show (Cond.arrayClass .int).holds args s none s [] = true from hbig (.arrayClass .int) (cd_m 1 65 rfl rfl))
  obtain ⟨a1, k1, p1, x1, y1, z1⟩ := Cond.arrayClass_spec (show (Cond.arrayClass .long).holds args s none s [] = true from hbig (.arrayClass .long) (cd_m 1 88 rfl rfl))
  obtain ⟨a2, k2, p2, x2, y2, z2⟩ := Cond.arrayClass_spec (show (Cond.arrayClass .byte).holds args s none s [] = true from hbig (.arrayClass .byte) (cd_m 3 84 rfl rfl))
  obtain ⟨a3, k3, p3, x3, y3, z3⟩ := Cond.arrayClass_spec (show (Cond.arrayClass .boolean).holds args s none s [] = true from hbig (.arrayClass .boolean) (cd_m 1 236 rfl rfl))
  refine ⟨(fun k => (f k).1, fun k => (f k).2), fun k => [a0, a1, a2, a3].getD k 0, fun k q hq => ?_, fun k q hq => ?_⟩
  · have hk : k < 12 := (List.getElem?_eq_some_iff.mp hq).1
    cases Option.some.inj (hq.symm.trans (cd_clF k hk))
    exact hf k hk
  · match k, hq with
    | 0, hq => cases hq; exact ⟨fun n z => ⟨fun k h => (by cases h), k0, y0, p0, z0⟩, x0⟩
    | 1, hq => cases hq; exact ⟨fun n z => ⟨fun k h => (by cases h), k1, y1, p1, z1⟩, x1⟩
    | 2, hq => cases hq; exact ⟨fun n z => ⟨fun k h => (by cases h), k2, y2, p2, z2⟩, x2⟩
    | 3, hq => cases hq; exact ⟨fun n z => ⟨fun k h => (by cases h), k3, y3, p3, z3⟩, x3⟩
    | k + 4, hq => simp [cd_tys] at hq
theorem whole_start {p : Program} {e : Env} {s : State} {m : MethodId} {below : List Frame} {meth : Method} {c : Code} (l : Launch) (hflags : l.flags = flags0) {b L : Nat} {xs : Nat → Int32} (hL : L ≤ 3072) (C0 : lw_At p s m meth c b L xs) : W p l e room_1 s m #[Value.ref b] below meth c s.heap [] 0 0 (lw_Z below #[Value.ref b] s) (entryFrame m ([Value.ref b] : List Value).toArray 7) := by
  obtain ⟨hx, hb, hr, hml, hown, hts, hX, hbl, hlocks, hgv⟩ := id C0
  have hbig := cl_ts hts
  have hfl : ∀ w ∈ c0_fl, w.before #[Value.ref b] s = true := flat_of_before _ hgv
  have hl0 : l.stackTraces = false := by
    unfold Launch.stackTraces
    rw [hflags]
    decide
  have hA : ∀ a : Nat, a < s.heap.size → ¬ (fun q : Nat => s.heap.size ≤ q) a := fun a h => Nat.not_le.mpr h
  obtain ⟨D, cy, hK⟩ := c0_K hbig
  obtain ⟨adK, adV, hvS, hev⟩ := vk_Sof (args := #[Value.ref b]) (s := s) (N := 13) (tm := c0_tm) (len := cd_sl) (byt := cd_sb) (A := fun q => s.heap.size ≤ q) (fun i hi => Nat.lt_of_le_of_lt (c0_s1 ⟨i, hi⟩) (by decide)) (fun i hi => hfl _ (c0_w1 ⟨i, hi⟩)) (fun i hi => hfl _ (c0_w2 ⟨i, hi⟩)) (fun i hi => hfl _ (c0_w3 ⟨i, hi⟩)) (fun i hi => hfl _ (c0_w4 ⟨i, hi⟩)) (fun i hi j hj => hfl _ (c0_w5 ⟨i, hi⟩ ⟨j, Nat.lt_of_lt_of_le hj (c0_s1 ⟨i, hi⟩)⟩ hj)) (fun i j hi hj hne => (c0_w6 ⟨i, hi⟩ ⟨j, hj⟩ hne).imp (fun h => hfl _ h) (fun h => hfl _ h)) hA
  have hR : ∀ i : Nat, i < 13 → vk_R (cd_c (cd_str.getD i (0, 0, "")).1) (cd_str.getD i (0, 0, "")).2.1 (cd_str.getD i (0, 0, "")).2.2 (adK i) s := fun i hi => vk_R.of (A := #[Value.ref b]) (hts _ (c0_sr ⟨i, hi⟩)) (hev i hi)
  obtain ⟨fm, hfm, hz⟩ : ∃ fm : Value, (fm = .null ∨ ∃ a, fm = .ref a) ∧ va_Z RJ3 "SIOOBE_FORMATTER" "Ljava/util/function/BiFunction;" fm (fun q => s.heap.size ≤ q) s s.heap := by
    rcases va_Zqof (A := fun q => s.heap.size ≤ q) (hts _ c0_l1.2.1) (hbig (.initialized RJ3) (cd_m 1 16 rfl rfl)) (hfl _ c0_l2.2.1) hA with h | ⟨t, h⟩
    · exact ⟨.null, Or.inl rfl, h⟩
    · exact ⟨.ref t, Or.inr ⟨t, rfl⟩, h⟩
  have hcs : va_Z RJ0 "COMPACT_STRINGS" "Z" (.int 1) (fun q => s.heap.size ≤ q) s s.heap := va_Zof (hts _ c0_l1.1) (hbig (.initialized RJ0) (cd_m 1 14 rfl rfl)) (va_eqt (hfl _ c0_l2.1)) hA
  have hNW : cw_NW s := fun w hw => va_Nw.of (cw_nest_on w hw) (hts w (c0_cwnest w hw))
  have hE : cf_Ex (adK 11) (adK 12) (fun q => s.heap.size ≤ q) s := ⟨fun w hw => va_Nw.of (cf_dec_on w hw) (hts w (cf_d w hw)), hR 11 (by decide), hR 12 (by decide), vx_Zqof (hts _ c0_l1.2.2.1) (hbig (.initialized Bundle.tN) (cd_m 1 19 rfl rfl)) (hfl _ c0_l2.2.2.1) hA, vx_Zqof (hts _ c0_l1.2.2.2) (hbig (.initialized Bundle.tN) (cd_m 1 19 rfl rfl)) (hfl _ c0_l2.2.2.2) hA⟩
  refine cl_start (T := c0_Tf adK adV) (fm := fm) hl0 hx hb hr hml hown hbig hlocks hK hNW (fun L0 => ⟨hfm, fun w hw => va_Nw.of (cd_nest_on w hw) (hts w (c0_nest w hw)), ⟨fun i hi => ?_, fun i j hi hj h => ?_⟩, fun q hq => ?_, hcs, hz⟩) hX hbl hL hE
  · have h := hvS.1 i hi
    dsimp only
    rw [c0_adK L0 adK adV hi, c0_adV L0 adK adV]
    exact h
  · dsimp only at h
    rw [c0_adK L0 adK adV hi, c0_adK L0 adK adV hj] at h
    exact hvS.2 i j hi hj h
  · obtain ⟨h1, h2, h3⟩ := c0_si q hq
    rw [c0_adK L0 adK adV h1, h2, h3]
    exact hR q.2.2 h1
