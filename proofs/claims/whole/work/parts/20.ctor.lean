/-! constructors over the machine: rows in common -/
def cw_nest : List Cond := [.methodLinkNest RX10 9 yX8_init RX10, .methodLinkNest RX8 11 yX7_init RX10, .methodLinkNest RX10 34 yX4_init RX10, .methodLinkNest RX10 41 yX3_init RX10, .methodLinkNest RX10 48 yX0_init RX10, .methodLinkNest RX0 11 yX6_init RX10, .methodLinkNest RX10 55 yX9_init RX10, .methodLinkNest RX10 62 yX2_init RX10]
def cw_NW (U : State) : Prop := ∀ w ∈ cw_nest, va_Nw w U
theorem cw_nest_on : ∀ w ∈ cw_nest, w.onTables = true := List.forall_mem_cons.mpr ⟨rfl, List.forall_mem_cons.mpr ⟨rfl, List.forall_mem_cons.mpr ⟨rfl, List.forall_mem_cons.mpr ⟨rfl, List.forall_mem_cons.mpr ⟨rfl, List.forall_mem_cons.mpr ⟨rfl, List.forall_mem_cons.mpr ⟨rfl, List.forall_mem_cons.mpr ⟨rfl, fun _ z => absurd z List.not_mem_nil⟩⟩⟩⟩⟩⟩⟩⟩
theorem cw_NW_warm {s U : State} (hW : s.WarmedH U.vm) (h : cw_NW s) : cw_NW U := by
  have h0 := h (.methodLinkNest RX10 9 yX8_init RX10) (List.mem_of_getElem? (i := 0) rfl)
  have h1 := h (.methodLinkNest RX8 11 yX7_init RX10) (List.mem_of_getElem? (i := 1) rfl)
  have h2 := h (.methodLinkNest RX10 34 yX4_init RX10) (List.mem_of_getElem? (i := 2) rfl)
  have h3 := h (.methodLinkNest RX10 41 yX3_init RX10) (List.mem_of_getElem? (i := 3) rfl)
  have h4 := h (.methodLinkNest RX10 48 yX0_init RX10) (List.mem_of_getElem? (i := 4) rfl)
  have h5 := h (.methodLinkNest RX0 11 yX6_init RX10) (List.mem_of_getElem? (i := 5) rfl)
  have h6 := h (.methodLinkNest RX10 55 yX9_init RX10) (List.mem_of_getElem? (i := 6) rfl)
  have h7 := h (.methodLinkNest RX10 62 yX2_init RX10) (List.mem_of_getElem? (i := 7) rfl)
  exact List.forall_mem_cons.mpr ⟨va_Nw.warmM hW h0, List.forall_mem_cons.mpr ⟨va_Nw.warmM hW h1, List.forall_mem_cons.mpr ⟨va_Nw.warmM hW h2, List.forall_mem_cons.mpr ⟨va_Nw.warmM hW h3, List.forall_mem_cons.mpr ⟨va_Nw.warmM hW h4, List.forall_mem_cons.mpr ⟨va_Nw.warmM hW h5, List.forall_mem_cons.mpr ⟨va_Nw.warmM hW h6, List.forall_mem_cons.mpr ⟨va_Nw.warmM hW h7, fun _ z => absurd z List.not_mem_nil⟩⟩⟩⟩⟩⟩⟩⟩
/-- a constructor's start and end -/
def cw_Pc (D : va_G) (cy : Nat → ClassId) (av : List Value) (ws : va_W) (sz : Nat) : Array Value → State → Prop := va_Pc av (fun U => U.heap.size = sz ∧ va_P D cd_cl ws U.heap ∧ va_K D cd_cl (cd_tys cy) U ∧ va_D (fun _ => True) ws ∧ cw_NW U)
def cw_Q (A : Nat → Prop) (B : State → Prop) : Array Value → State → Outcome → State → Prop := fun _ st oc t => (oc = .returned none ∧ B t) ∧ va_F A st t
/-- the world behind it -/
def cw_B (D : va_G) (cy : Nat → ClassId) (A : Nat → Prop) (ws : va_W) (t : State) : Prop := va_P D cd_cl ws t.heap ∧ va_K D cd_cl (cd_tys cy) t ∧ va_D A ws
def cw_ws (y : MethodName) (b : ByteArray) (n : Nat) : List Cond := .code y b n none :: cd_big
theorem cw_blind {D : va_G} {cy : Nat → ClassId} (av : List Value) (ws : va_W) (sz : Nat) : FrameBlind (cw_Pc D cy av ws sz) := by
  intro a U g mk h
  obtain ⟨h1, h2, h3, h4, h5, h6⟩ := h
  exact ⟨h1, h2, h3, va_K.moved (u := U) (U := U.calling g mk a) (Vm.Alike.refl U.vm) h4, h5, fun w hw => va_Nw.same (U := U.calling g mk a) (cw_nest_on w hw) (u := U) rfl (h6 w hw)⟩
theorem cw_good {y : MethodName} {b : ByteArray} {n : Nat} (h : Cond.code y b n none ∈ cd_big) : GoodIn cd_big (cw_ws y b n) := by
  intro w hw
  have h : w ∈ cd_big := by
    rcases List.mem_cons.mp hw with e | e
    · rw [e]; exact h
    · exact e
  exact ⟨h, good_of_word (List.mem_filter.mp h).2⟩
section cwA
variable {p : Program} {l : Launch} {e : Env} {R : Room} {s : State} {m : MethodId} {args : Array Value} {below : List Frame} {meth : Method} {c : Code} {H : Heap} {locs : List Loc} {cells slots : Nat} {Q : State → Prop} {D : va_G} {cy : Nat → ClassId} {A : Nat → Prop}
/-- what holds through a constructor -/
def cw_Cx (p : Program) (s : State) (m : MethodId) (args : Array Value) (meth : Method) (c : Code) (cc : ByteArray) (nL : Nat) (own : String) (D : va_G) (cy : Nat → ClassId) (A : Nat → Prop) : Prop :=
  p.tables.exec = Jvm.exec ∧ c.code = cc ∧ c.maxLocals = nL ∧ s.vm.findClass own = some m.cls ∧ (∀ w ∈ cd_big, w.before args s = true) ∧ va_K D cd_cl (cd_tys cy) s ∧ cw_NW s ∧ (∀ q, s.heap.size ≤ q → A q)
theorem cw_newa {cc : ByteArray} {nL : Nat} {own : String} (hC : cw_Cx p s m args meth c cc nL own D cy A) {pc : Nat} {ls : Array Slot} {rest : List Value} {atype : ArrayType} {ty : FieldType} (hty : newarray.typeOf atype = ty) (hw : Cond.arrayClass ty ∈ cd_big) (k : Nat) (hk : (cd_tys cy)[k]? = some (cy k, ty)) (hra : va_RA s (cy k) ty → s.vm.findClass ("[" ++ ty.toString) = some (cy k)) {ws : va_W} (hP : va_P D cd_cl ws H) (hD : va_D A ws) (hS : va_S A s.heap H locs)
    {n : Int32} (N : Nat) (a0 : vp_A) (ha : ∀ cA : ClassId, vp_cell cA a0 = arrV cA N (fun _ => defaultValue ty)) (hn : ¬ n < 0) (hN : n.toNatClampNeg = N) (hbytes : N * componentBytes ty ≤ 536870912) (hcells : cells + 1 ≤ R.cells) (hslots : slots + N ≤ R.slots) (hdg : decode cc pc = .ok (.newarray atype, 2))
    (kk : ∀ (q : Nat) (H1 : Heap), va_P D cd_cl (ws ++ [(q, .inl (cy k, a0))]) H1 → va_D A (ws ++ [(q, .inl (cy k, a0))]) → va_S A s.heap H1 locs → W p l e R s m args below meth c H1 locs (cells + 1) (slots + N) Q (F0 m (pc + 2) ls (.ref q :: rest))) : W p l e R s m args below meth c H locs cells slots Q (F0 m pc ls (.int n :: rest)) := by
  obtain ⟨hx, hb, hml, hown, hts, hK, hNW, hA⟩ := hC
  subst hty
  refine va_newaK hx hb (hts _ hw) rfl hdg rfl hn hN hbytes hcells hslots rfl fun H1 cA e1 z1 o1 hAr hNm => ?_
  have hcA : cA = cy k := Option.some.inj (hNm.symm.trans (hra (hK.2 k _ hk).2))
  subst hcA
  have hk2 : ∀ (k : Nat) (x : Nat × va_E), ws[k]? = some x → H1[x.1]? = H[x.1]? := fun k x hx => o1 x.1 ((hP k x hx).lt)
  refine kk H.size H1 ((hP.kept hk2).app (fun k x hx => ?_)) (hD.push hP rfl (hA _ hS.1)) ⟨Nat.le_trans hS.1 (by omega), fun x h1 h2 => (o1 x (Nat.lt_of_lt_of_le h1 hS.1)).trans (hS.2.1 x h1 h2), hS.2.2⟩
  have hz : k < 1 := (List.getElem?_eq_some_iff.mp hx).1
  rw [show k = 0 by omega] at hx
  cases hx
  show H1[H.size]? = some (vp_cell _ _)
  rw [ha]
  exact e1
theorem cw_pre {cc : ByteArray} {nL : Nat} {own : String} (hC : cw_Cx p s m args meth c cc nL own D cy A) {wc : va_W} {av : List Value} (hPc : va_P D cd_cl wc H) (hDc : va_D A wc) {aa : Array Value} (ha : aa = av.toArray) : ∀ U : State, U.heap = H → s.WarmedH U.vm → cw_Pc D cy av wc H.size aa U := by
  obtain ⟨hx, hb, hml, hown, hts, hK, hNW, hA⟩ := hC
  intro U hU hW
  exact ⟨ha, by rw [hU], by rw [hU]; exact hPc, va_K.moved hW.alike hK, hDc.weaken (fun _ _ _ _ => trivial), cw_NW_warm hW hNW⟩
/-- behind a call: what came back beside the rest -/
theorem cw_after {ws wc wr : va_W} (hP : va_P D cd_cl ws H) (hD : va_D A ws) (hA : ∀ q, s.heap.size ≤ q → A q) (isC isR : List Nat) (hC : isC.map (fun i => ws[i]?) = wc.map some) (hR : isR.map (fun i => ws[i]?) = wr.map some) (hn : va_nd isR = true) (hdis : ∀ i ∈ isR, i ∉ isC) (hS : va_S A s.heap H locs) {B : State → Prop} {pc : Nat} {ls : Array Slot} {st0 rest : List Value} {aa : Array Value} {mc ms : Nat}
    (hr : va_Run p l e R s m args below meth c H locs cells slots mc ms (F0 m pc ls st0) rest (cw_Q (va_A wc H.size) B aa) (va_A wc H.size))
    (kk : ∀ (t : State) (H1 : Heap) (locs1 : List Loc), t.heap = H1 → B t → (∀ w1 : va_W, cw_B D cy (va_A wc H.size) w1 t → va_P D cd_cl (wr ++ w1) H1 ∧ va_D A (wr ++ w1)) → va_S A s.heap H1 locs1 → W p l e R s m args below meth c H1 locs1 (cells + mc) (slots + ms) Q (F0 m (pc + 3) ls rest)) : W p l e R s m args below meth c H locs cells slots Q (F0 m pc ls st0) := by
  have hF := va_free (wc := wc) hD hS hA isC hC
  intro T hT X
  obtain ⟨v', st₀, t, T', L, h0, X', hL, e1, e2, ⟨⟨hv, hb⟩, hz, hk⟩, st⟩ := hr T hT X
  cases hv
  rw [h0] at hz hk
  have hk1 : ∀ q : Nat, q < H.size → ¬ va_A wc H.size q → T'.heap[q]? = H[q]? := fun q h1 h2 => by rw [e1]; exact hk q h1 h2
  obtain ⟨t2, a1, b1⟩ := kk t T'.heap (locs ++ L) e1.symm hb
    (fun w1 hB => va_join (wr := wr) (w1 := w1) hP hD isC isR hC hR hn hdis hk1 hF (by rw [e1]; exact hB.1) hB.2.2)
    ⟨Nat.le_trans hS.1 (by rw [e1]; exact hz), fun q h1 h2 => by rw [e1, hk q (Nat.lt_of_lt_of_le h1 hS.1) (fun z => h2 (hF q z))]; exact hS.2.1 q h1 h2, fun q hq => by
      rcases List.mem_append.mp hq with h | h
      · exact hS.2.2 q h
      · exact hF _ (hL q h)⟩ T' rfl X'
  exact ⟨t2, st t2 a1, b1⟩
end cwA
