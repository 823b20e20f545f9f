/-! Math, arraycopy, calls; then all steps together -/
section cdT
variable {p : Program} {l : Launch} {e : Env} {s : State} {m : MethodId} {args : Array Value} {below : List Frame} {meth : Method} {c : Code} {y : Nat} {D : va_G} {cy : Nat → ClassId} {ad : Nat → Nat} {fm : Value} {A : Nat → Prop}
theorem cd_sz_la {la : Array Slot} {ls : List (Option Value)} (hl : cd_lr ad fm la ls) (h : ls.length = cd_ml.getD y 0) (hml : c.maxLocals = cd_ml.getD y 0) : c.maxLocals = la.size := by rw [hml, ← h, hl.1]
theorem cd_s_max (hC : cd_Cx p s m args meth c y D cy ad fm A) {pc idx q : Nat} {ls : List (Option Value)} {rs : List Value} {M : cd_M} {r : Option Value × cd_M} {a b : Int32} (hd : decode (cd_code y).1 pc = .ok (.invokestatic idx, 3)) (he : (cd_own y, idx, 0, q) ∈ cd_nat) (hn : ls.length = cd_ml.getD y 0) (hf : 1 ≤ cd_mf.getD y 0) (hw : cd_cat rs + 13 ≤ cd_mw.getD y 0)
    (kk : cd_OK p l e s m args below meth c y D cy ad fm A (pc + 3) ls (.int (if a < b then b else a) :: rs) M r) : cd_OK p l e s m args below meth c y D cy ad fm A pc ls (.int b :: .int a :: rs) M r := by
  obtain ⟨hx, hb, hr, hml, hown, hts, hlk, hK, hSt, hA, hy⟩ := hC
  intro H locs la hP hD hS hl
  exact va_mmax hx hb (cd_sz_la hl hn hml) hown (hts _ (cd_natOK _ he).1) (hts _ cd_max1) (hts _ cd_math1) (hts _ cd_max2) hf (by rw [cd_cat_em ad fm hSt.1]; exact hw) (Nat.le_refl 0) (Nat.le_refl 0) hd (kk H locs la hP hD hS hl)
theorem cd_s_min (hC : cd_Cx p s m args meth c y D cy ad fm A) {pc idx q : Nat} {ls : List (Option Value)} {rs : List Value} {M : cd_M} {r : Option Value × cd_M} {a b : Int32} (hd : decode (cd_code y).1 pc = .ok (.invokestatic idx, 3)) (he : (cd_own y, idx, 1, q) ∈ cd_nat) (hn : ls.length = cd_ml.getD y 0) (hf : 1 ≤ cd_mf.getD y 0) (hw : cd_cat rs + 13 ≤ cd_mw.getD y 0)
    (kk : cd_OK p l e s m args below meth c y D cy ad fm A (pc + 3) ls (.int (if b < a then b else a) :: rs) M r) : cd_OK p l e s m args below meth c y D cy ad fm A pc ls (.int b :: .int a :: rs) M r := by
  obtain ⟨hx, hb, hr, hml, hown, hts, hlk, hK, hSt, hA, hy⟩ := hC
  intro H locs la hP hD hS hl
  exact va_mmin hx hb (cd_sz_la hl hn hml) hown (hts _ (cd_natOK _ he).1) (hts _ cd_min1) (hts _ cd_math1) (hts _ cd_min2) hf (by rw [cd_cat_em ad fm hSt.1]; exact hw) (Nat.le_refl 0) (Nat.le_refl 0) hd (kk H locs la hP hD hS hl)
theorem cd_s_abs (hC : cd_Cx p s m args meth c y D cy ad fm A) {pc idx q : Nat} {ls : List (Option Value)} {rs : List Value} {M : cd_M} {r : Option Value × cd_M} {a : Int32} (hd : decode (cd_code y).1 pc = .ok (.invokestatic idx, 3)) (he : (cd_own y, idx, 2, q) ∈ cd_nat) (hn : ls.length = cd_ml.getD y 0) (hf : 1 ≤ cd_mf.getD y 0) (hw : cd_cat rs + 13 ≤ cd_mw.getD y 0)
    (kk : cd_OK p l e s m args below meth c y D cy ad fm A (pc + 3) ls (.int (if 0 ≤ a then a else 0 - a) :: rs) M r) : cd_OK p l e s m args below meth c y D cy ad fm A pc ls (.int a :: rs) M r := by
  obtain ⟨hx, hb, hr, hml, hown, hts, hlk, hK, hSt, hA, hy⟩ := hC
  intro H locs la hP hD hS hl
  exact va_mabs hx hb (cd_sz_la hl hn hml) hown (hts _ (cd_natOK _ he).1) (hts _ cd_abs1) (hts _ cd_math1) (hts _ cd_abs2) hf (by rw [cd_cat_em ad fm hSt.1]; exact hw) (Nat.le_refl 0) (Nat.le_refl 0) hd (kk H locs la hP hD hS hl)
theorem cd_s_cpyI (hC : cd_Cx p s m args meth c y D cy ad fm A) {pc idx q k0 k1 : Nat} {ls : List (Option Value)} {rs : List Value} {M : cd_M} {r : Option Value × cd_M} {sp dp n : Int32} (hd : decode (cd_code y).1 pc = .ok (.invokestatic idx, 3)) (he : (cd_own y, idx, 3, q) ∈ cd_nat) (hn : ls.length = cd_ml.getD y 0) (hf : 1 ≤ cd_mf.getD y 0) (hw : cd_cat rs + 18 ≤ cd_mw.getD y 0)
    (h0 : (cd_sh k0).1 = 20) (h1 : (cd_sh k1).1 = 20) (g1 : ¬ sp < 0) (g2 : ¬ dp < 0) (g3 : ¬ n < 0) (g4 : sp.toNatClampNeg + n.toNatClampNeg ≤ (cd_sh k0).2) (g5 : dp.toNatClampNeg + n.toNatClampNeg ≤ (cd_sh k1).2)
    (kk : cd_OK p l e s m args below meth c y D cy ad fm A (pc + 3) ls rs (cd_cI M k0 k1 sp.toNatClampNeg dp.toNatClampNeg n.toNatClampNeg) r) : cd_OK p l e s m args below meth c y D cy ad fm A pc ls (.int n :: .int dp :: .ref k1 :: .int sp :: .ref k0 :: rs) M r := by
  obtain ⟨hx, hb, hr, hml, hown, hts, hlk, hK, hSt, hA, hy⟩ := hC
  intro H locs la hP hD hS hl
  have hl0 : k0 < cd_NC := cd_sh_lt (by omega)
  have hl1 : k1 < cd_NC := cd_sh_lt (by omega)
  have ha0 := cd_ws_at (cy := cy) (ad := ad) (M := M) hl0
  have ha1 := cd_ws_at (cy := cy) (ad := ad) (M := M) hl1
  rw [cd_cell20 h0] at ha0
  rw [cd_cell20 h1] at ha1
  show W p l e (cd_room y) s m args below meth c H locs 0 0 _ (F0 m pc la (.int n :: .int dp :: cd_em ad fm (.ref k1) :: .int sp :: cd_em ad fm (.ref k0) :: rs.map (cd_em ad fm)))
  rw [cd_em_ref ad fm (cd_ne1200 hl0), cd_em_ref ad fm (cd_ne1200 hl1)]
  refine va_copyi hx hb (cd_sz_la hl hn hml) hown (hts _ (cd_natOK _ he).1) (hts _ cd_cpy1) (hts _ cd_cpy2) (hts _ cd_cpy3) hK hP hD hS k0 k1 0 0 ha0 ha1 rfl rfl rfl g1 g2 g3 g4 g5 (fun _ _ => rfl) hf (by rw [cd_cat_em ad fm hSt.1]; exact hw) hd (fun H1 locs1 hP1 hD1 hS1 => ?_)
  have ew := cd_ws_set (cy := cy) (ad := ad) (M := M) (M' := cd_cI M k0 k1 sp.toNatClampNeg dp.toNatClampNeg n.toNatClampNeg) hl1 (by rw [cd_cell20 h1, cd_cI_s]) (fun a h => cd_cell_cI_ne h)
  rw [ew] at hP1 hD1
  exact kk H1 locs1 la hP1 hD1 hS1 hl
theorem cd_s_cpyL (hC : cd_Cx p s m args meth c y D cy ad fm A) {pc idx q k0 k1 : Nat} {ls : List (Option Value)} {rs : List Value} {M : cd_M} {r : Option Value × cd_M} {sp dp n : Int32} (hd : decode (cd_code y).1 pc = .ok (.invokestatic idx, 3)) (he : (cd_own y, idx, 3, q) ∈ cd_nat) (hn : ls.length = cd_ml.getD y 0) (hf : 1 ≤ cd_mf.getD y 0) (hw : cd_cat rs + 18 ≤ cd_mw.getD y 0)
    (h0 : (cd_sh k0).1 = 21) (h1 : (cd_sh k1).1 = 21) (g1 : ¬ sp < 0) (g2 : ¬ dp < 0) (g3 : ¬ n < 0) (g4 : sp.toNatClampNeg + n.toNatClampNeg ≤ (cd_sh k0).2) (g5 : dp.toNatClampNeg + n.toNatClampNeg ≤ (cd_sh k1).2)
    (kk : cd_OK p l e s m args below meth c y D cy ad fm A (pc + 3) ls rs (cd_cL M k0 k1 sp.toNatClampNeg dp.toNatClampNeg n.toNatClampNeg) r) : cd_OK p l e s m args below meth c y D cy ad fm A pc ls (.int n :: .int dp :: .ref k1 :: .int sp :: .ref k0 :: rs) M r := by
  obtain ⟨hx, hb, hr, hml, hown, hts, hlk, hK, hSt, hA, hy⟩ := hC
  intro H locs la hP hD hS hl
  have hl0 : k0 < cd_NC := cd_sh_lt (by omega)
  have hl1 : k1 < cd_NC := cd_sh_lt (by omega)
  have ha0 := cd_ws_at (cy := cy) (ad := ad) (M := M) hl0
  have ha1 := cd_ws_at (cy := cy) (ad := ad) (M := M) hl1
  rw [cd_cell21 h0] at ha0
  rw [cd_cell21 h1] at ha1
  show W p l e (cd_room y) s m args below meth c H locs 0 0 _ (F0 m pc la (.int n :: .int dp :: cd_em ad fm (.ref k1) :: .int sp :: cd_em ad fm (.ref k0) :: rs.map (cd_em ad fm)))
  rw [cd_em_ref ad fm (cd_ne1200 hl0), cd_em_ref ad fm (cd_ne1200 hl1)]
  refine va_copyl hx hb (cd_sz_la hl hn hml) hown (hts _ (cd_natOK _ he).1) (hts _ cd_cpy1) (hts _ cd_cpy2) (hts _ cd_cpy3) hK hP hD hS k0 k1 1 1 ha0 ha1 rfl rfl rfl g1 g2 g3 g4 g5 (fun _ _ => rfl) hf (by rw [cd_cat_em ad fm hSt.1]; exact hw) hd (fun H1 locs1 hP1 hD1 hS1 => ?_)
  have ew := cd_ws_set (cy := cy) (ad := ad) (M := M) (M' := cd_cL M k0 k1 sp.toNatClampNeg dp.toNatClampNeg n.toNatClampNeg) hl1 (by rw [cd_cell21 h1, cd_cL_s]) (fun a h => cd_cell_cL_ne h)
  rw [ew] at hP1 hD1
  exact kk H1 locs1 la hP1 hD1 hS1 hl
/-- the contract of a method that comes to r -/
def cd_Pc (D : va_G) (cy : Nat → ClassId) (ad : Nat → Nat) (fm : Value) (as : List Value) (M : cd_M) (sz : Nat) : Array Value → State → Prop := va_Pc (as.map (cd_em ad fm)) (fun U => U.heap.size = sz ∧ va_P D cd_cl (cd_ws cy ad M) U.heap ∧ va_K D cd_cl (cd_tys cy) U ∧ va_D (fun _ => True) (cd_ws cy ad M) ∧ cd_St ad fm (va_A (cd_ws cy ad M) sz) U)
def cd_Mt (l : Launch) (D : va_G) (cy : Nat → ClassId) (ad : Nat → Nat) (fm : Value) (y : Nat) (as : List Value) (M : cd_M) (r : Option Value × cd_M) : Prop := ∀ sz : Nat, Met l (cd_y y) (cd_wsO y) (cd_room y) (cd_Pc D cy ad fm as M sz) (cd_Q D cy ad fm (va_A (cd_ws cy ad M) sz) r) 0 0 (va_A (cd_ws cy ad M) sz)
theorem cd_nest_on : ∀ w ∈ cd_nest, w.onTables = true := List.forall_mem_cons.mpr ⟨rfl, List.forall_mem_cons.mpr ⟨rfl, List.forall_mem_cons.mpr ⟨rfl, List.forall_mem_cons.mpr ⟨rfl, List.forall_mem_cons.mpr ⟨rfl, List.forall_mem_cons.mpr ⟨rfl, fun _ z => absurd z List.not_mem_nil⟩⟩⟩⟩⟩⟩
theorem cd_St_blind {U : State} {g : JFrame} {mk : MethodId} {a : Array Value} (h : cd_St ad fm A U) : cd_St ad fm A (U.calling g mk a) :=
  ⟨h.1, fun w hw => va_Nw.same (U := U.calling g mk a) (cd_nest_on w hw) (u := U) rfl (h.2.1 w hw), vk_S.moved (U := U.calling g mk a) (Vm.Alike.refl U.vm) h.2.2.1, fun q hq => vk_R.same rfl (h.2.2.2.1 q hq), va_Z.moved (U := U.calling g mk a) (Vm.Alike.refl U.vm) h.2.2.2.2.1, va_Z.moved (U := U.calling g mk a) (Vm.Alike.refl U.vm) h.2.2.2.2.2⟩
theorem cd_blind (as : List Value) (M : cd_M) (sz : Nat) : FrameBlind (cd_Pc D cy ad fm as M sz) := by
  intro a U g mk h
  obtain ⟨h1, h2, h3, h4, h5, h6⟩ := h
  exact ⟨h1, h2, h3, va_K.moved (u := U) (U := U.calling g mk a) (Vm.Alike.refl U.vm) h4, h5, cd_St_blind h6⟩
theorem cd_nest_warm {U : State} (hW : s.WarmedH U.vm) (h : ∀ w ∈ cd_nest, va_Nw w s) : ∀ w ∈ cd_nest, va_Nw w U := by
  have h0 := h (.fieldLinkNest RX3 26 RX4 "fields" "[J" RX10) (List.mem_of_getElem? (i := 0) rfl)
  have h1 := h (.fieldLinkNest RX3 31 RX4 "size" "I" RX10) (List.mem_of_getElem? (i := 1) rfl)
  have h2 := h (.methodLinkNest RX8 85 yX10_withSample RX10) (List.mem_of_getElem? (i := 2) rfl)
  have h3 := h (.methodLinkNest RX4 29 yX10_sampleOf RX10) (List.mem_of_getElem? (i := 3) rfl)
  have h4 := h (.methodLinkNest RX4 33 yX10_withSample RX10) (List.mem_of_getElem? (i := 4) rfl)
  have h5 := h (.methodLinkNest RX5 53 yX10_sampleOf RX10) (List.mem_of_getElem? (i := 5) rfl)
  exact List.forall_mem_cons.mpr ⟨va_Nw.warmF hW h0, List.forall_mem_cons.mpr ⟨va_Nw.warmF hW h1, List.forall_mem_cons.mpr ⟨va_Nw.warmM hW h2, List.forall_mem_cons.mpr ⟨va_Nw.warmM hW h3, List.forall_mem_cons.mpr ⟨va_Nw.warmM hW h4, List.forall_mem_cons.mpr ⟨va_Nw.warmM hW h5, fun _ z => absurd z List.not_mem_nil⟩⟩⟩⟩⟩⟩
theorem cd_St_go {H : Heap} {locs : List Loc} {B : Nat → Prop} {U : State} (h : cd_St ad fm A s) (hS : va_S A s.heap H locs) (hU : U.heap = H) (hW : s.WarmedH U.vm) (hB : ∀ q, B q → A q) : cd_St ad fm B U := by
  obtain ⟨h1, h2, h3, h4, h5, h6⟩ := h
  refine ⟨h1, cd_nest_warm hW h2, ?_, fun q hq => vk_R.warm hW (h4 q hq), ?_, ?_⟩
  · rw [hU]; exact ((h3.kept hS.2.1).moved hW.alike).narrow hB
  · rw [hU]; exact ((h5.kept hS.2.1).moved hW.alike).narrow hB
  · rw [hU]; exact ((h6.kept hS.2.1).moved hW.alike).narrow hB
theorem cd_callG {R : Room} {H H0 : Heap} {locs : List Loc} {cells slots mc ms pc : Nat} {Q : State → Prop} {ls : Array Slot} {rest st0 : List Value} {A0 A1 : Nat → Prop} {free : Addr → Prop} {v : Option Value} {B : State → Prop}
    (hr : va_Run p l e R s m args below meth c H locs cells slots mc ms (F0 m pc ls st0) rest (fun st oc t => (oc = .returned v ∧ B t) ∧ va_F A1 st t) free) (hS : va_S A0 H0 H locs) (hA : ∀ q, q < H.size → A1 q → A0 q) (hf : ∀ q, free q → A0 q)
    (kk : ∀ (t : State) (H1 : Heap) (locs1 : List Loc), t.heap = H1 → s.vm.Alike t.vm → B t → va_S A0 H0 H1 locs1 → W p l e R s m args below meth c H1 locs1 (cells + mc) (slots + ms) Q (F0 m (pc + 3) ls (v.toList ++ rest))) : W p l e R s m args below meth c H locs cells slots Q (F0 m pc ls st0) := by
  intro T hT X
  obtain ⟨v', st₀, t, T', L, h0, X', hL, e1, e2, ⟨⟨hv, hb⟩, hz, hk⟩, st⟩ := hr T hT X
  cases hv
  rw [h0] at hz hk
  obtain ⟨t2, a1, b1⟩ := kk t T'.heap (locs ++ L) e1.symm (by rw [← e2]; exact X'.warmed.alike) hb
    ⟨Nat.le_trans hS.1 (by rw [e1]; exact hz), fun q h1 h2 => by rw [e1, hk q (Nat.lt_of_lt_of_le h1 hS.1) (fun z => h2 (hA q (Nat.lt_of_lt_of_le h1 hS.1) z))]; exact hS.2.1 q h1 h2, fun q hq => by
      rcases List.mem_append.mp hq with h | h
      · exact hS.2.2 q h
      · exact hf _ (hL q h)⟩ T' rfl X'
  exact ⟨t2, st t2 a1, b1⟩
theorem cd_free {H : Heap} {locs : List Loc} {ws : va_W} (hD : va_D A ws) (hS : va_S A s.heap H locs) (hA : ∀ q, s.heap.size ≤ q → A q) : ∀ q, va_A ws H.size q → A q := by
  intro q h
  rcases h with ⟨k, e, h⟩ | h
  · exact hD.2 k (q, e) h
  · exact hA q (Nat.le_trans hS.1 h)
theorem cd_good (a b : Nat) (hb : b < 245) : GoodIn (cd_wsO a) (cd_wsO b) := by
  intro w hw
  have h : w ∈ cd_big := by
    rcases List.mem_cons.mp hw with h | h
    · rw [h]; exact cd_mOK b hb
    · exact h
  exact ⟨List.mem_cons_of_mem _ h, good_of_word (List.mem_filter.mp h).2⟩
theorem cd_goodB (b : Nat) (hb : b < 245) : GoodIn cd_big (cd_wsO b) := by
  intro w hw
  have h : w ∈ cd_big := by
    rcases List.mem_cons.mp hw with h | h
    · rw [h]; exact cd_mOK b hb
    · exact h
  exact ⟨h, good_of_word (List.mem_filter.mp h).2⟩
theorem cd_goodW {w : Cond} (h : w ∈ cd_big) : w ∈ cd_big ∧ ((w.onTables && w.keeps) = true ∨ ∃ ty, w = .arrayClass ty) := ⟨h, good_of_word (List.mem_filter.mp h).2⟩
/-- behind a call all goes on -/
theorem cd_after {pc : Nat} {ls : List (Option Value)} {rs : List Value} {M : cd_M} {r r1 : Option Value × cd_M} (kk : cd_OK p l e s m args below meth c y D cy ad fm A (pc + 3) ls (r1.1.toList ++ rs) r1.2 r) {H : Heap} {locs : List Loc} {la : Array Slot} (hD : va_D A (cd_ws cy ad M)) (hS : va_S A s.heap H locs) (hA : ∀ q, s.heap.size ≤ q → A q) (hl : cd_lr ad fm la ls) {st0 : List Value} {aa : Array Value}
    (hr : va_Run p l e (cd_room y) s m args below meth c H locs 0 0 0 0 (F0 m pc la st0) (rs.map (cd_em ad fm)) (cd_Q D cy ad fm (va_A (cd_ws cy ad M) H.size) r1 aa) (va_A (cd_ws cy ad M) H.size)) :
    W p l e (cd_room y) s m args below meth c H locs 0 0 (MQ below (cd_Q D cy ad fm A r) args s 0 0 A) (F0 m pc la st0) := by
  have hfr := cd_free (ws := cd_ws cy ad M) hD hS hA
  refine cd_callG (v := r1.1.map (cd_em ad fm)) (B := fun t => va_P D cd_cl (cd_ws cy ad r1.2) t.heap ∧ va_K D cd_cl (cd_tys cy) t ∧ va_D (va_A (cd_ws cy ad M) H.size) (cd_ws cy ad r1.2)) hr hS (fun q _ h => hfr q h) hfr (fun t H1 locs1 ht hvm hB hS1 => ?_)
  obtain ⟨hP1, hK1, hD1⟩ := hB
  rw [ht] at hP1
  have h9 := kk H1 locs1 la hP1 (hD1.weaken (fun _ q _ h => hfr q.1 h)) hS1 hl
  have em : (r1.1.toList ++ rs).map (cd_em ad fm) = (r1.1.map (cd_em ad fm)).toList ++ rs.map (cd_em ad fm) := by
    cases r1.1 <;> simp
  rw [em] at h9
  exact h9
end cdT
