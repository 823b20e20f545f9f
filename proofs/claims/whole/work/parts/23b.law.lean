set_option maxHeartbeats 1000000 in
set_option maxRecDepth 20000 in
theorem cl_k_feed {p : Program} {l : Launch} {e : Env} {s : State} {m : MethodId} {args : Array Value} {below : List Frame} {meth : Method} {c : Code} {H : Heap} {locs : List Loc} {cells slots : Nat} {Q : State → Prop} {D : va_G} {cy : Nat → ClassId} {ad : Nat → Nat} {fm : Value} {Rel : cd_M → Prop} {b L : Nat} {xs : Nat → Int32} (hC : cl_Cx p s m args meth c D cy ad fm b L xs) {i : Nat} {ls : Array Slot} {M : cd_M} (hi : i + 5 < L) (hl : lv_has ls 7 [(0, .ref b), (4, .int (nI i)), (1, .ref (ad 0)), (2, .ref (ad 15)), (3, .ref (ad 82))]) (hop : ∃ (v : Int32) (M1 M2 : cd_M), f10_feed_0 (xs (i + 1)) (xs (i + 2)) (xs (i + 3)) (xs (i + 4)) (xs (i + 5)) M = some (v, M1) ∧ f11_feed_15 (xs (i + 1)) (xs (i + 2)) (xs (i + 3)) (xs (i + 4)) (xs (i + 5)) M1 = some (v, M2) ∧ Rel M2) (hcs : cells ≤ 601024 ∧ slots ≤ 7293034)
    (hP : va_P D cd_cl (cd_ws cy ad M) H) (hD : va_D (fun q => s.heap.size ≤ q) (cd_ws cy ad M)) (hS : va_S (fun q => s.heap.size ≤ q) s.heap H locs)
    (hn : ∀ (M2 : cd_M) (H1 : Heap) (locs1 : List Loc), Rel M2 → va_P D cd_cl (cd_ws cy ad M2) H1 → va_D (fun q => s.heap.size ≤ q) (cd_ws cy ad M2) → va_S (fun q => s.heap.size ≤ q) s.heap H1 locs1 → W p l e room_1 s m args below meth c H1 locs1 cells slots Q (F0 m 1069 ls [])) : W p l e room_1 s m args below meth c H locs cells slots Q (F0 m 160 ls []) := by
  have hx := hC.1
  have hb := hC.2.1
  obtain ⟨v, M1, M2, h1, h2, h3⟩ := hop
  refine lv_aload_n hx hb dl_160 rfl (lv_at hl 2 rfl) ?_
  refine cl_arg (k := 1) hC hl (by omega) dl_161 dl_162 dl_164 rfl dl_165 dl_166 hS ?_
  refine cl_arg (k := 2) hC hl (by omega) dl_167 dl_168 dl_170 rfl dl_171 dl_172 hS ?_
  refine cl_arg (k := 3) hC hl (by omega) dl_173 dl_174 dl_176 rfl dl_177 dl_178 hS ?_
  refine cl_arg (k := 4) hC hl (by omega) dl_179 dl_180 dl_182 rfl dl_183 dl_184 hS ?_
  refine cl_arg (k := 5) hC hl (by omega) dl_185 dl_186 dl_188 rfl dl_189 dl_190 hS ?_
  refine cl_call (k := 0) (as := [(xs (i + 1)), (xs (i + 2)), (xs (i + 3)), (xs (i + 4)), (xs (i + 5))]) (v := v) (M := M) (M' := M1) (rest := []) hC dl_191 (show 126 < 245 by decide) (cd_m 2 107 rfl rfl) (cd_m 2 108 rfl rfl) (cd_m 2 109 rfl rfl) (cd_m 1 1 rfl rfl) (show (parseMethodDescriptor (cd_y 126).desc).map (fun d => d.parameters.length) = some 5 by decide +kernel) rfl (by decide) (Nat.le_of_ble_eq_true rfl) (Nat.le_of_ble_eq_true rfl) (Nat.le_of_ble_eq_true rfl) (Nat.le_of_ble_eq_true rfl) hl.1 (cl_run (k10_feed_0 (xs (i + 1)) (xs (i + 2)) (xs (i + 3)) (xs (i + 4)) (xs (i + 5)) M) (by rw [h1]; rfl)) hcs hP hD hS (fun H locs hP hD hS => ?_)
  refine lv_aload_n hx hb dl_194 rfl (lv_at hl 3 rfl) ?_
  refine cl_arg (k := 1) hC hl (by omega) dl_195 dl_196 dl_198 rfl dl_199 dl_200 hS ?_
  refine cl_arg (k := 2) hC hl (by omega) dl_201 dl_202 dl_204 rfl dl_205 dl_206 hS ?_
  refine cl_arg (k := 3) hC hl (by omega) dl_207 dl_208 dl_210 rfl dl_211 dl_212 hS ?_
  refine cl_arg (k := 4) hC hl (by omega) dl_213 dl_214 dl_216 rfl dl_217 dl_218 hS ?_
  refine cl_arg (k := 5) hC hl (by omega) dl_219 dl_220 dl_222 rfl dl_223 dl_224 hS ?_
  refine cl_call (k := 15) (as := [(xs (i + 1)), (xs (i + 2)), (xs (i + 3)), (xs (i + 4)), (xs (i + 5))]) (v := v) (M := M1) (M' := M2) (rest := [.int v]) hC dl_225 (show 163 < 245 by decide) (cd_m 6 156 rfl rfl) (cd_m 6 157 rfl rfl) (cd_m 6 158 rfl rfl) (cd_m 1 13 rfl rfl) (show (parseMethodDescriptor (cd_y 163).desc).map (fun d => d.parameters.length) = some 5 by decide +kernel) rfl (by decide) (Nat.le_of_ble_eq_true rfl) (Nat.le_of_ble_eq_true rfl) (Nat.le_of_ble_eq_true rfl) (Nat.le_of_ble_eq_true rfl) hl.1 (cl_run (k11_feed_15 (xs (i + 1)) (xs (i + 2)) (xs (i + 3)) (xs (i + 4)) (xs (i + 5)) M1) (by rw [h2]; rfl)) hcs hP hD hS (fun H locs hP hD hS => ?_)
  refine lv_icmp_eq (tgt := 1069) hx hb dl_228 (by decide) (fun _ => ?_) (fun z => absurd rfl z)
  exact hn M2 H locs h3 hP hD hS
set_option maxHeartbeats 1000000 in
set_option maxRecDepth 20000 in
theorem cl_k_film {p : Program} {l : Launch} {e : Env} {s : State} {m : MethodId} {args : Array Value} {below : List Frame} {meth : Method} {c : Code} {H : Heap} {locs : List Loc} {cells slots : Nat} {Q : State → Prop} {D : va_G} {cy : Nat → ClassId} {ad : Nat → Nat} {fm : Value} {Rel : cd_M → Prop} {b L : Nat} {xs : Nat → Int32} (hC : cl_Cx p s m args meth c D cy ad fm b L xs) {i : Nat} {ls : Array Slot} {M : cd_M} (hi : i + 5 < L) (hl : lv_has ls 7 [(0, .ref b), (4, .int (nI i)), (1, .ref (ad 0)), (2, .ref (ad 15)), (3, .ref (ad 82))]) (hop : ∃ (v : Int32) (M1 M2 : cd_M), f10_film_0 (xs (i + 1)) M = some (v, M1) ∧ f11_film_15 (xs (i + 1)) M1 = some (v, M2) ∧ Rel M2) (hcs : cells ≤ 601024 ∧ slots ≤ 7293034)
    (hP : va_P D cd_cl (cd_ws cy ad M) H) (hD : va_D (fun q => s.heap.size ≤ q) (cd_ws cy ad M)) (hS : va_S (fun q => s.heap.size ≤ q) s.heap H locs)
    (hn : ∀ (M2 : cd_M) (H1 : Heap) (locs1 : List Loc), Rel M2 → va_P D cd_cl (cd_ws cy ad M2) H1 → va_D (fun q => s.heap.size ≤ q) (cd_ws cy ad M2) → va_S (fun q => s.heap.size ≤ q) s.heap H1 locs1 → W p l e room_1 s m args below meth c H1 locs1 cells slots Q (F0 m 1069 ls [])) : W p l e room_1 s m args below meth c H locs cells slots Q (F0 m 233 ls []) := by
  have hx := hC.1
  have hb := hC.2.1
  obtain ⟨v, M1, M2, h1, h2, h3⟩ := hop
  refine lv_aload_n hx hb dl_233 rfl (lv_at hl 2 rfl) ?_
  refine cl_arg (k := 1) hC hl (by omega) dl_234 dl_235 dl_237 rfl dl_238 dl_239 hS ?_
  refine cl_call (k := 0) (as := [(xs (i + 1))]) (v := v) (M := M) (M' := M1) (rest := []) hC dl_240 (show 127 < 245 by decide) (cd_m 2 127 rfl rfl) (cd_m 2 128 rfl rfl) (cd_m 2 129 rfl rfl) (cd_m 1 1 rfl rfl) (show (parseMethodDescriptor (cd_y 127).desc).map (fun d => d.parameters.length) = some 1 by decide +kernel) rfl (by decide) (Nat.le_of_ble_eq_true rfl) (Nat.le_of_ble_eq_true rfl) (Nat.le_of_ble_eq_true rfl) (Nat.le_of_ble_eq_true rfl) hl.1 (cl_run (k10_film_0 (xs (i + 1)) M) (by rw [h1]; rfl)) hcs hP hD hS (fun H locs hP hD hS => ?_)
  refine lv_aload_n hx hb dl_243 rfl (lv_at hl 3 rfl) ?_
  refine cl_arg (k := 1) hC hl (by omega) dl_244 dl_245 dl_247 rfl dl_248 dl_249 hS ?_
  refine cl_call (k := 15) (as := [(xs (i + 1))]) (v := v) (M := M1) (M' := M2) (rest := [.int v]) hC dl_250 (show 176 < 245 by decide) (cd_m 6 164 rfl rfl) (cd_m 6 165 rfl rfl) (cd_m 6 166 rfl rfl) (cd_m 1 13 rfl rfl) (show (parseMethodDescriptor (cd_y 176).desc).map (fun d => d.parameters.length) = some 1 by decide +kernel) rfl (by decide) (Nat.le_of_ble_eq_true rfl) (Nat.le_of_ble_eq_true rfl) (Nat.le_of_ble_eq_true rfl) (Nat.le_of_ble_eq_true rfl) hl.1 (cl_run (k11_film_15 (xs (i + 1)) M1) (by rw [h2]; rfl)) hcs hP hD hS (fun H locs hP hD hS => ?_)
  refine lv_icmp_eq (tgt := 1069) hx hb dl_253 (by decide) (fun _ => ?_) (fun z => absurd rfl z)
  exact hn M2 H locs h3 hP hD hS
set_option maxHeartbeats 1000000 in
set_option maxRecDepth 20000 in
theorem cl_k_rules {p : Program} {l : Launch} {e : Env} {s : State} {m : MethodId} {args : Array Value} {below : List Frame} {meth : Method} {c : Code} {H : Heap} {locs : List Loc} {cells slots : Nat} {Q : State → Prop} {D : va_G} {cy : Nat → ClassId} {ad : Nat → Nat} {fm : Value} {Rel : cd_M → Prop} {b L : Nat} {xs : Nat → Int32} (hC : cl_Cx p s m args meth c D cy ad fm b L xs) {i : Nat} {ls : Array Slot} {M : cd_M} (hi : i + 5 < L) (hl : lv_has ls 7 [(0, .ref b), (4, .int (nI i)), (1, .ref (ad 0)), (2, .ref (ad 15)), (3, .ref (ad 82))]) (hop : ∃ (v : Int32) (M1 M2 : cd_M), f10_rules_0 (xs (i + 1)) M = some (v, M1) ∧ f11_rules_15 (xs (i + 1)) M1 = some (v, M2) ∧ Rel M2) (hcs : cells ≤ 601024 ∧ slots ≤ 7293034)
    (hP : va_P D cd_cl (cd_ws cy ad M) H) (hD : va_D (fun q => s.heap.size ≤ q) (cd_ws cy ad M)) (hS : va_S (fun q => s.heap.size ≤ q) s.heap H locs)
    (hn : ∀ (M2 : cd_M) (H1 : Heap) (locs1 : List Loc), Rel M2 → va_P D cd_cl (cd_ws cy ad M2) H1 → va_D (fun q => s.heap.size ≤ q) (cd_ws cy ad M2) → va_S (fun q => s.heap.size ≤ q) s.heap H1 locs1 → W p l e room_1 s m args below meth c H1 locs1 cells slots Q (F0 m 1069 ls [])) : W p l e room_1 s m args below meth c H locs cells slots Q (F0 m 258 ls []) := by
  have hx := hC.1
  have hb := hC.2.1
  obtain ⟨v, M1, M2, h1, h2, h3⟩ := hop
  refine lv_aload_n hx hb dl_258 rfl (lv_at hl 2 rfl) ?_
  refine cl_arg (k := 1) hC hl (by omega) dl_259 dl_260 dl_262 rfl dl_263 dl_264 hS ?_
  refine cl_call (k := 0) (as := [(xs (i + 1))]) (v := v) (M := M) (M' := M1) (rest := []) hC dl_265 (show 128 < 245 by decide) (cd_m 3 85 rfl rfl) (cd_m 3 86 rfl rfl) (cd_m 3 87 rfl rfl) (cd_m 1 1 rfl rfl) (show (parseMethodDescriptor (cd_y 128).desc).map (fun d => d.parameters.length) = some 1 by decide +kernel) rfl (by decide) (Nat.le_of_ble_eq_true rfl) (Nat.le_of_ble_eq_true rfl) (Nat.le_of_ble_eq_true rfl) (Nat.le_of_ble_eq_true rfl) hl.1 (cl_run (k10_rules_0 (xs (i + 1)) M) (by rw [h1]; rfl)) hcs hP hD hS (fun H locs hP hD hS => ?_)
  refine lv_aload_n hx hb dl_268 rfl (lv_at hl 3 rfl) ?_
  refine cl_arg (k := 1) hC hl (by omega) dl_269 dl_270 dl_272 rfl dl_273 dl_274 hS ?_
  refine cl_call (k := 15) (as := [(xs (i + 1))]) (v := v) (M := M1) (M' := M2) (rest := [.int v]) hC dl_275 (show 184 < 245 by decide) (cd_m 6 222 rfl rfl) (cd_m 6 223 rfl rfl) (cd_m 6 224 rfl rfl) (cd_m 1 13 rfl rfl) (show (parseMethodDescriptor (cd_y 184).desc).map (fun d => d.parameters.length) = some 1 by decide +kernel) rfl (by decide) (Nat.le_of_ble_eq_true rfl) (Nat.le_of_ble_eq_true rfl) (Nat.le_of_ble_eq_true rfl) (Nat.le_of_ble_eq_true rfl) hl.1 (cl_run (k11_rules_15 (xs (i + 1)) M1) (by rw [h2]; rfl)) hcs hP hD hS (fun H locs hP hD hS => ?_)
  refine lv_icmp_eq (tgt := 1069) hx hb dl_278 (by decide) (fun _ => ?_) (fun z => absurd rfl z)
  exact hn M2 H locs h3 hP hD hS
set_option maxHeartbeats 1000000 in
set_option maxRecDepth 20000 in
theorem cl_k_frame {p : Program} {l : Launch} {e : Env} {s : State} {m : MethodId} {args : Array Value} {below : List Frame} {meth : Method} {c : Code} {H : Heap} {locs : List Loc} {cells slots : Nat} {Q : State → Prop} {D : va_G} {cy : Nat → ClassId} {ad : Nat → Nat} {fm : Value} {Rel : cd_M → Prop} {b L : Nat} {xs : Nat → Int32} (hC : cl_Cx p s m args meth c D cy ad fm b L xs) {i : Nat} {ls : Array Slot} {M : cd_M} (hi : i + 5 < L) (hl : lv_has ls 7 [(0, .ref b), (4, .int (nI i)), (1, .ref (ad 0)), (2, .ref (ad 15)), (3, .ref (ad 82))]) (hop : ∃ (v : Int32) (M2 : cd_M), f10_frame_0 (xs (i + 1)) (xs (i + 2)) (xs (i + 3)) M = some v ∧ f11_frame_15 (xs (i + 1)) (xs (i + 2)) (xs (i + 3)) M = some (v, M2) ∧ Rel M2) (hcs : cells ≤ 601024 ∧ slots ≤ 7293034)
    (hP : va_P D cd_cl (cd_ws cy ad M) H) (hD : va_D (fun q => s.heap.size ≤ q) (cd_ws cy ad M)) (hS : va_S (fun q => s.heap.size ≤ q) s.heap H locs)
    (hn : ∀ (M2 : cd_M) (H1 : Heap) (locs1 : List Loc), Rel M2 → va_P D cd_cl (cd_ws cy ad M2) H1 → va_D (fun q => s.heap.size ≤ q) (cd_ws cy ad M2) → va_S (fun q => s.heap.size ≤ q) s.heap H1 locs1 → W p l e room_1 s m args below meth c H1 locs1 cells slots Q (F0 m 1069 ls [])) : W p l e room_1 s m args below meth c H locs cells slots Q (F0 m 283 ls []) := by
  have hx := hC.1
  have hb := hC.2.1
  obtain ⟨v, M2, h1, h2, h3⟩ := hop
  refine lv_aload_n hx hb dl_283 rfl (lv_at hl 2 rfl) ?_
  refine cl_arg (k := 1) hC hl (by omega) dl_284 dl_285 dl_287 rfl dl_288 dl_289 hS ?_
  refine cl_arg (k := 2) hC hl (by omega) dl_290 dl_291 dl_293 rfl dl_294 dl_295 hS ?_
  refine cl_arg (k := 3) hC hl (by omega) dl_296 dl_297 dl_299 rfl dl_300 dl_301 hS ?_
  refine cl_call (k := 0) (as := [(xs (i + 1)), (xs (i + 2)), (xs (i + 3))]) (v := v) (M := M) (M' := M) (rest := []) hC dl_302 (show 129 < 245 by decide) (cd_m 3 141 rfl rfl) (cd_m 3 142 rfl rfl) (cd_m 3 143 rfl rfl) (cd_m 1 1 rfl rfl) (show (parseMethodDescriptor (cd_y 129).desc).map (fun d => d.parameters.length) = some 3 by decide +kernel) rfl (by decide) (Nat.le_of_ble_eq_true rfl) (Nat.le_of_ble_eq_true rfl) (Nat.le_of_ble_eq_true rfl) (Nat.le_of_ble_eq_true rfl) hl.1 (cl_run (k10_frame_0 (xs (i + 1)) (xs (i + 2)) (xs (i + 3)) M) (by rw [h1]; rfl)) hcs hP hD hS (fun H locs hP hD hS => ?_)
  refine lv_aload_n hx hb dl_305 rfl (lv_at hl 3 rfl) ?_
  refine cl_arg (k := 1) hC hl (by omega) dl_306 dl_307 dl_309 rfl dl_310 dl_311 hS ?_
  refine cl_arg (k := 2) hC hl (by omega) dl_312 dl_313 dl_315 rfl dl_316 dl_317 hS ?_
  refine cl_arg (k := 3) hC hl (by omega) dl_318 dl_319 dl_321 rfl dl_322 dl_323 hS ?_
  refine cl_call (k := 15) (as := [(xs (i + 1)), (xs (i + 2)), (xs (i + 3))]) (v := v) (M := M) (M' := M2) (rest := [.int v]) hC dl_324 (show 186 < 245 by decide) (cd_m 7 12 rfl rfl) (cd_m 7 13 rfl rfl) (cd_m 7 14 rfl rfl) (cd_m 1 13 rfl rfl) (show (parseMethodDescriptor (cd_y 186).desc).map (fun d => d.parameters.length) = some 3 by decide +kernel) rfl (by decide) (Nat.le_of_ble_eq_true rfl) (Nat.le_of_ble_eq_true rfl) (Nat.le_of_ble_eq_true rfl) (Nat.le_of_ble_eq_true rfl) hl.1 (cl_run (k11_frame_15 (xs (i + 1)) (xs (i + 2)) (xs (i + 3)) M) (by rw [h2]; rfl)) hcs hP hD hS (fun H locs hP hD hS => ?_)
  refine lv_icmp_eq (tgt := 1069) hx hb dl_327 (by decide) (fun _ => ?_) (fun z => absurd rfl z)
  exact hn M2 H locs h3 hP hD hS
set_option maxHeartbeats 1000000 in
set_option maxRecDepth 20000 in
theorem cl_k_cadence {p : Program} {l : Launch} {e : Env} {s : State} {m : MethodId} {args : Array Value} {below : List Frame} {meth : Method} {c : Code} {H : Heap} {locs : List Loc} {cells slots : Nat} {Q : State → Prop} {D : va_G} {cy : Nat → ClassId} {ad : Nat → Nat} {fm : Value} {Rel : cd_M → Prop} {b L : Nat} {xs : Nat → Int32} (hC : cl_Cx p s m args meth c D cy ad fm b L xs) {i : Nat} {ls : Array Slot} {M : cd_M} (hi : i + 5 < L) (hl : lv_has ls 7 [(0, .ref b), (4, .int (nI i)), (1, .ref (ad 0)), (2, .ref (ad 15)), (3, .ref (ad 82))]) (hop : ∃ (v : Int32) (M2 : cd_M), f10_cadence_0 (xs (i + 1)) (xs (i + 2)) M = some v ∧ f11_cadence_15 (xs (i + 1)) (xs (i + 2)) M = some (v, M2) ∧ Rel M2) (hcs : cells ≤ 601024 ∧ slots ≤ 7293034)
    (hP : va_P D cd_cl (cd_ws cy ad M) H) (hD : va_D (fun q => s.heap.size ≤ q) (cd_ws cy ad M)) (hS : va_S (fun q => s.heap.size ≤ q) s.heap H locs)
    (hn : ∀ (M2 : cd_M) (H1 : Heap) (locs1 : List Loc), Rel M2 → va_P D cd_cl (cd_ws cy ad M2) H1 → va_D (fun q => s.heap.size ≤ q) (cd_ws cy ad M2) → va_S (fun q => s.heap.size ≤ q) s.heap H1 locs1 → W p l e room_1 s m args below meth c H1 locs1 cells slots Q (F0 m 1069 ls [])) : W p l e room_1 s m args below meth c H locs cells slots Q (F0 m 332 ls []) := by
  have hx := hC.1
  have hb := hC.2.1
  obtain ⟨v, M2, h1, h2, h3⟩ := hop
  refine lv_aload_n hx hb dl_332 rfl (lv_at hl 2 rfl) ?_
  refine cl_arg (k := 1) hC hl (by omega) dl_333 dl_334 dl_336 rfl dl_337 dl_338 hS ?_
  refine cl_arg (k := 2) hC hl (by omega) dl_339 dl_340 dl_342 rfl dl_343 dl_344 hS ?_
  refine cl_call (k := 0) (as := [(xs (i + 1)), (xs (i + 2))]) (v := v) (M := M) (M' := M) (rest := []) hC dl_345 (show 130 < 245 by decide) (cd_m 3 162 rfl rfl) (cd_m 3 163 rfl rfl) (cd_m 3 164 rfl rfl) (cd_m 1 1 rfl rfl) (show (parseMethodDescriptor (cd_y 130).desc).map (fun d => d.parameters.length) = some 2 by decide +kernel) rfl (by decide) (Nat.le_of_ble_eq_true rfl) (Nat.le_of_ble_eq_true rfl) (Nat.le_of_ble_eq_true rfl) (Nat.le_of_ble_eq_true rfl) hl.1 (cl_run (k10_cadence_0 (xs (i + 1)) (xs (i + 2)) M) (by rw [h1]; rfl)) hcs hP hD hS (fun H locs hP hD hS => ?_)
  refine lv_aload_n hx hb dl_348 rfl (lv_at hl 3 rfl) ?_
  refine cl_arg (k := 1) hC hl (by omega) dl_349 dl_350 dl_352 rfl dl_353 dl_354 hS ?_
  refine cl_arg (k := 2) hC hl (by omega) dl_355 dl_356 dl_358 rfl dl_359 dl_360 hS ?_
  refine cl_call (k := 15) (as := [(xs (i + 1)), (xs (i + 2))]) (v := v) (M := M) (M' := M2) (rest := [.int v]) hC dl_361 (show 187 < 245 by decide) (cd_m 7 16 rfl rfl) (cd_m 7 17 rfl rfl) (cd_m 7 18 rfl rfl) (cd_m 1 13 rfl rfl) (show (parseMethodDescriptor (cd_y 187).desc).map (fun d => d.parameters.length) = some 2 by decide +kernel) rfl (by decide) (Nat.le_of_ble_eq_true rfl) (Nat.le_of_ble_eq_true rfl) (Nat.le_of_ble_eq_true rfl) (Nat.le_of_ble_eq_true rfl) hl.1 (cl_run (k11_cadence_15 (xs (i + 1)) (xs (i + 2)) M) (by rw [h2]; rfl)) hcs hP hD hS (fun H locs hP hD hS => ?_)
  refine lv_icmp_eq (tgt := 1069) hx hb dl_364 (by decide) (fun _ => ?_) (fun z => absurd rfl z)
  exact hn M2 H locs h3 hP hD hS
set_option maxHeartbeats 1000000 in
set_option maxRecDepth 20000 in
theorem cl_k_force {p : Program} {l : Launch} {e : Env} {s : State} {m : MethodId} {args : Array Value} {below : List Frame} {meth : Method} {c : Code} {H : Heap} {locs : List Loc} {cells slots : Nat} {Q : State → Prop} {D : va_G} {cy : Nat → ClassId} {ad : Nat → Nat} {fm : Value} {Rel : cd_M → Prop} {b L : Nat} {xs : Nat → Int32} (hC : cl_Cx p s m args meth c D cy ad fm b L xs) {i : Nat} {ls : Array Slot} {M : cd_M} (hi : i + 5 < L) (hl : lv_has ls 7 [(0, .ref b), (4, .int (nI i)), (1, .ref (ad 0)), (2, .ref (ad 15)), (3, .ref (ad 82))]) (hop : ∃ (v : Int32) (M1 M2 : cd_M), f10_force_0 (xs (i + 1)) M = (v, M1) ∧ f11_force_15 (xs (i + 1)) M1 = (v, M2) ∧ Rel M2) (hcs : cells ≤ 601024 ∧ slots ≤ 7293034)
    (hP : va_P D cd_cl (cd_ws cy ad M) H) (hD : va_D (fun q => s.heap.size ≤ q) (cd_ws cy ad M)) (hS : va_S (fun q => s.heap.size ≤ q) s.heap H locs)
    (hn : ∀ (M2 : cd_M) (H1 : Heap) (locs1 : List Loc), Rel M2 → va_P D cd_cl (cd_ws cy ad M2) H1 → va_D (fun q => s.heap.size ≤ q) (cd_ws cy ad M2) → va_S (fun q => s.heap.size ≤ q) s.heap H1 locs1 → W p l e room_1 s m args below meth c H1 locs1 cells slots Q (F0 m 1069 ls [])) : W p l e room_1 s m args below meth c H locs cells slots Q (F0 m 369 ls []) := by
  have hx := hC.1
  have hb := hC.2.1
  obtain ⟨v, M1, M2, h1, h2, h3⟩ := hop
  refine lv_aload_n hx hb dl_369 rfl (lv_at hl 2 rfl) ?_
  refine cl_arg (k := 1) hC hl (by omega) dl_370 dl_371 dl_373 rfl dl_374 dl_375 hS ?_
  refine cl_call (k := 0) (as := [(xs (i + 1))]) (v := v) (M := M) (M' := M1) (rest := []) hC dl_376 (show 131 < 245 by decide) (cd_m 3 185 rfl rfl) (cd_m 3 186 rfl rfl) (cd_m 3 187 rfl rfl) (cd_m 1 1 rfl rfl) (show (parseMethodDescriptor (cd_y 131).desc).map (fun d => d.parameters.length) = some 1 by decide +kernel) rfl (by decide) (Nat.le_of_ble_eq_true rfl) (Nat.le_of_ble_eq_true rfl) (Nat.le_of_ble_eq_true rfl) (Nat.le_of_ble_eq_true rfl) hl.1 (cl_run (k10_force_0 (xs (i + 1)) M) (by rw [h1]; rfl)) hcs hP hD hS (fun H locs hP hD hS => ?_)
  refine lv_aload_n hx hb dl_379 rfl (lv_at hl 3 rfl) ?_
  refine cl_arg (k := 1) hC hl (by omega) dl_380 dl_381 dl_383 rfl dl_384 dl_385 hS ?_
  refine cl_call (k := 15) (as := [(xs (i + 1))]) (v := v) (M := M1) (M' := M2) (rest := [.int v]) hC dl_386 (show 188 < 245 by decide) (cd_m 7 24 rfl rfl) (cd_m 7 25 rfl rfl) (cd_m 7 26 rfl rfl) (cd_m 1 13 rfl rfl) (show (parseMethodDescriptor (cd_y 188).desc).map (fun d => d.parameters.length) = some 1 by decide +kernel) rfl (by decide) (Nat.le_of_ble_eq_true rfl) (Nat.le_of_ble_eq_true rfl) (Nat.le_of_ble_eq_true rfl) (Nat.le_of_ble_eq_true rfl) hl.1 (cl_run (k11_force_15 (xs (i + 1)) M1) (by rw [h2]; rfl)) hcs hP hD hS (fun H locs hP hD hS => ?_)
  refine lv_icmp_eq (tgt := 1069) hx hb dl_389 (by decide) (fun _ => ?_) (fun z => absurd rfl z)
  exact hn M2 H locs h3 hP hD hS
set_option maxHeartbeats 1000000 in
set_option maxRecDepth 20000 in
theorem cl_k_carry {p : Program} {l : Launch} {e : Env} {s : State} {m : MethodId} {args : Array Value} {below : List Frame} {meth : Method} {c : Code} {H : Heap} {locs : List Loc} {cells slots : Nat} {Q : State → Prop} {D : va_G} {cy : Nat → ClassId} {ad : Nat → Nat} {fm : Value} {Rel : cd_M → Prop} {b L : Nat} {xs : Nat → Int32} (hC : cl_Cx p s m args meth c D cy ad fm b L xs) {i : Nat} {ls : Array Slot} {M : cd_M} (hi : i + 5 < L) (hl : lv_has ls 7 [(0, .ref b), (4, .int (nI i)), (1, .ref (ad 0)), (2, .ref (ad 15)), (3, .ref (ad 82))]) (hop : ∃ (v : Int32) (M1 M2 : cd_M), f10_carry_0 (xs (i + 1)) (xs (i + 2)) M = some (v, M1) ∧ f11_carry_15 (xs (i + 1)) (xs (i + 2)) M1 = some (v, M2) ∧ Rel M2) (hcs : cells ≤ 601024 ∧ slots ≤ 7293034)
    (hP : va_P D cd_cl (cd_ws cy ad M) H) (hD : va_D (fun q => s.heap.size ≤ q) (cd_ws cy ad M)) (hS : va_S (fun q => s.heap.size ≤ q) s.heap H locs)
    (hn : ∀ (M2 : cd_M) (H1 : Heap) (locs1 : List Loc), Rel M2 → va_P D cd_cl (cd_ws cy ad M2) H1 → va_D (fun q => s.heap.size ≤ q) (cd_ws cy ad M2) → va_S (fun q => s.heap.size ≤ q) s.heap H1 locs1 → W p l e room_1 s m args below meth c H1 locs1 cells slots Q (F0 m 1069 ls [])) : W p l e room_1 s m args below meth c H locs cells slots Q (F0 m 394 ls []) := by
  have hx := hC.1
  have hb := hC.2.1
  obtain ⟨v, M1, M2, h1, h2, h3⟩ := hop
  refine lv_aload_n hx hb dl_394 rfl (lv_at hl 2 rfl) ?_
  refine cl_arg (k := 1) hC hl (by omega) dl_395 dl_396 dl_398 rfl dl_399 dl_400 hS ?_
  refine cl_arg (k := 2) hC hl (by omega) dl_401 dl_402 dl_404 rfl dl_405 dl_406 hS ?_
  refine cl_call (k := 0) (as := [(xs (i + 1)), (xs (i + 2))]) (v := v) (M := M) (M' := M1) (rest := []) hC dl_407 (show 132 < 245 by decide) (cd_m 3 189 rfl rfl) (cd_m 3 190 rfl rfl) (cd_m 3 191 rfl rfl) (cd_m 1 1 rfl rfl) (show (parseMethodDescriptor (cd_y 132).desc).map (fun d => d.parameters.length) = some 2 by decide +kernel) rfl (by decide) (Nat.le_of_ble_eq_true rfl) (Nat.le_of_ble_eq_true rfl) (Nat.le_of_ble_eq_true rfl) (Nat.le_of_ble_eq_true rfl) hl.1 (cl_run (k10_carry_0 (xs (i + 1)) (xs (i + 2)) M) (by rw [h1]; rfl)) hcs hP hD hS (fun H locs hP hD hS => ?_)
  refine lv_aload_n hx hb dl_410 rfl (lv_at hl 3 rfl) ?_
  refine cl_arg (k := 1) hC hl (by omega) dl_411 dl_412 dl_414 rfl dl_415 dl_416 hS ?_
  refine cl_arg (k := 2) hC hl (by omega) dl_417 dl_418 dl_420 rfl dl_421 dl_422 hS ?_
  refine cl_call (k := 15) (as := [(xs (i + 1)), (xs (i + 2))]) (v := v) (M := M1) (M' := M2) (rest := [.int v]) hC dl_423 (show 194 < 245 by decide) (cd_m 7 28 rfl rfl) (cd_m 7 29 rfl rfl) (cd_m 7 30 rfl rfl) (cd_m 1 13 rfl rfl) (show (parseMethodDescriptor (cd_y 194).desc).map (fun d => d.parameters.length) = some 2 by decide +kernel) rfl (by decide) (Nat.le_of_ble_eq_true rfl) (Nat.le_of_ble_eq_true rfl) (Nat.le_of_ble_eq_true rfl) (Nat.le_of_ble_eq_true rfl) hl.1 (cl_run (k11_carry_15 (xs (i + 1)) (xs (i + 2)) M1) (by rw [h2]; rfl)) hcs hP hD hS (fun H locs hP hD hS => ?_)
  refine lv_icmp_eq (tgt := 1069) hx hb dl_426 (by decide) (fun _ => ?_) (fun z => absurd rfl z)
  exact hn M2 H locs h3 hP hD hS
set_option maxHeartbeats 1000000 in
set_option maxRecDepth 20000 in
theorem cl_k_cut {p : Program} {l : Launch} {e : Env} {s : State} {m : MethodId} {args : Array Value} {below : List Frame} {meth : Method} {c : Code} {H : Heap} {locs : List Loc} {cells slots : Nat} {Q : State → Prop} {D : va_G} {cy : Nat → ClassId} {ad : Nat → Nat} {fm : Value} {Rel : cd_M → Prop} {b L : Nat} {xs : Nat → Int32} (hC : cl_Cx p s m args meth c D cy ad fm b L xs) {i : Nat} {ls : Array Slot} {M : cd_M} (hi : i + 5 < L) (hl : lv_has ls 7 [(0, .ref b), (4, .int (nI i)), (1, .ref (ad 0)), (2, .ref (ad 15)), (3, .ref (ad 82))]) (hop : ∃ (v : Int32) (M1 M2 : cd_M), f10_cut_0 (xs (i + 1)) (xs (i + 2)) M = some (v, M1) ∧ f11_cut_15 (xs (i + 1)) (xs (i + 2)) M1 = some (v, M2) ∧ Rel M2) (hcs : cells ≤ 601024 ∧ slots ≤ 7293034)
    (hP : va_P D cd_cl (cd_ws cy ad M) H) (hD : va_D (fun q => s.heap.size ≤ q) (cd_ws cy ad M)) (hS : va_S (fun q => s.heap.size ≤ q) s.heap H locs)
    (hn : ∀ (M2 : cd_M) (H1 : Heap) (locs1 : List Loc), Rel M2 → va_P D cd_cl (cd_ws cy ad M2) H1 → va_D (fun q => s.heap.size ≤ q) (cd_ws cy ad M2) → va_S (fun q => s.heap.size ≤ q) s.heap H1 locs1 → W p l e room_1 s m args below meth c H1 locs1 cells slots Q (F0 m 1069 ls [])) : W p l e room_1 s m args below meth c H locs cells slots Q (F0 m 431 ls []) := by
  have hx := hC.1
  have hb := hC.2.1
  obtain ⟨v, M1, M2, h1, h2, h3⟩ := hop
  refine lv_aload_n hx hb dl_431 rfl (lv_at hl 2 rfl) ?_
  refine cl_arg (k := 1) hC hl (by omega) dl_432 dl_433 dl_435 rfl dl_436 dl_437 hS ?_
  refine cl_arg (k := 2) hC hl (by omega) dl_438 dl_439 dl_441 rfl dl_442 dl_443 hS ?_
  refine cl_call (k := 0) (as := [(xs (i + 1)), (xs (i + 2))]) (v := v) (M := M) (M' := M1) (rest := []) hC dl_444 (show 133 < 245 by decide) (cd_m 3 221 rfl rfl) (cd_m 3 222 rfl rfl) (cd_m 3 223 rfl rfl) (cd_m 1 1 rfl rfl) (show (parseMethodDescriptor (cd_y 133).desc).map (fun d => d.parameters.length) = some 2 by decide +kernel) rfl (by decide) (Nat.le_of_ble_eq_true rfl) (Nat.le_of_ble_eq_true rfl) (Nat.le_of_ble_eq_true rfl) (Nat.le_of_ble_eq_true rfl) hl.1 (cl_run (k10_cut_0 (xs (i + 1)) (xs (i + 2)) M) (by rw [h1]; rfl)) hcs hP hD hS (fun H locs hP hD hS => ?_)
  refine lv_aload_n hx hb dl_447 rfl (lv_at hl 3 rfl) ?_
  refine cl_arg (k := 1) hC hl (by omega) dl_448 dl_449 dl_451 rfl dl_452 dl_453 hS ?_
  refine cl_arg (k := 2) hC hl (by omega) dl_454 dl_455 dl_457 rfl dl_458 dl_459 hS ?_
  refine cl_call (k := 15) (as := [(xs (i + 1)), (xs (i + 2))]) (v := v) (M := M1) (M' := M2) (rest := [.int v]) hC dl_460 (show 196 < 245 by decide) (cd_m 7 36 rfl rfl) (cd_m 7 37 rfl rfl) (cd_m 7 38 rfl rfl) (cd_m 1 13 rfl rfl) (show (parseMethodDescriptor (cd_y 196).desc).map (fun d => d.parameters.length) = some 2 by decide +kernel) rfl (by decide) (Nat.le_of_ble_eq_true rfl) (Nat.le_of_ble_eq_true rfl) (Nat.le_of_ble_eq_true rfl) (Nat.le_of_ble_eq_true rfl) hl.1 (cl_run (k11_cut_15 (xs (i + 1)) (xs (i + 2)) M1) (by rw [h2]; rfl)) hcs hP hD hS (fun H locs hP hD hS => ?_)
  refine lv_icmp_eq (tgt := 1069) hx hb dl_463 (by decide) (fun _ => ?_) (fun z => absurd rfl z)
  exact hn M2 H locs h3 hP hD hS
set_option maxHeartbeats 1000000 in
set_option maxRecDepth 20000 in
theorem cl_k_doubled {p : Program} {l : Launch} {e : Env} {s : State} {m : MethodId} {args : Array Value} {below : List Frame} {meth : Method} {c : Code} {H : Heap} {locs : List Loc} {cells slots : Nat} {Q : State → Prop} {D : va_G} {cy : Nat → ClassId} {ad : Nat → Nat} {fm : Value} {Rel : cd_M → Prop} {b L : Nat} {xs : Nat → Int32} (hC : cl_Cx p s m args meth c D cy ad fm b L xs) {i : Nat} {ls : Array Slot} {M : cd_M} (hi : i + 5 < L) (hl : lv_has ls 7 [(0, .ref b), (4, .int (nI i)), (1, .ref (ad 0)), (2, .ref (ad 15)), (3, .ref (ad 82))]) (hop : ∃ (v : Int32) (M1 M2 : cd_M), f10_doubled_0 (xs (i + 1)) (xs (i + 2)) M = some (v, M1) ∧ f11_doubled_15 (xs (i + 1)) (xs (i + 2)) M1 = some (v, M2) ∧ Rel M2) (hcs : cells ≤ 601024 ∧ slots ≤ 7293034)
    (hP : va_P D cd_cl (cd_ws cy ad M) H) (hD : va_D (fun q => s.heap.size ≤ q) (cd_ws cy ad M)) (hS : va_S (fun q => s.heap.size ≤ q) s.heap H locs)
    (hn : ∀ (M2 : cd_M) (H1 : Heap) (locs1 : List Loc), Rel M2 → va_P D cd_cl (cd_ws cy ad M2) H1 → va_D (fun q => s.heap.size ≤ q) (cd_ws cy ad M2) → va_S (fun q => s.heap.size ≤ q) s.heap H1 locs1 → W p l e room_1 s m args below meth c H1 locs1 cells slots Q (F0 m 1069 ls [])) : W p l e room_1 s m args below meth c H locs cells slots Q (F0 m 468 ls []) := by
  have hx := hC.1
  have hb := hC.2.1
  obtain ⟨v, M1, M2, h1, h2, h3⟩ := hop
  refine lv_aload_n hx hb dl_468 rfl (lv_at hl 2 rfl) ?_
  refine cl_arg (k := 1) hC hl (by omega) dl_469 dl_470 dl_472 rfl dl_473 dl_474 hS ?_
  refine cl_arg (k := 2) hC hl (by omega) dl_475 dl_476 dl_478 rfl dl_479 dl_480 hS ?_
  refine cl_call (k := 0) (as := [(xs (i + 1)), (xs (i + 2))]) (v := v) (M := M) (M' := M1) (rest := []) hC dl_481 (show 134 < 245 by decide) (cd_m 3 239 rfl rfl) (cd_m 4 0 rfl rfl) (cd_m 4 1 rfl rfl) (cd_m 1 1 rfl rfl) (show (parseMethodDescriptor (cd_y 134).desc).map (fun d => d.parameters.length) = some 2 by decide +kernel) rfl (by decide) (Nat.le_of_ble_eq_true rfl) (Nat.le_of_ble_eq_true rfl) (Nat.le_of_ble_eq_true rfl) (Nat.le_of_ble_eq_true rfl) hl.1 (cl_run (k10_doubled_0 (xs (i + 1)) (xs (i + 2)) M) (by rw [h1]; rfl)) hcs hP hD hS (fun H locs hP hD hS => ?_)
  refine lv_aload_n hx hb dl_484 rfl (lv_at hl 3 rfl) ?_
  refine cl_arg (k := 1) hC hl (by omega) dl_485 dl_486 dl_488 rfl dl_489 dl_490 hS ?_
  refine cl_arg (k := 2) hC hl (by omega) dl_491 dl_492 dl_494 rfl dl_495 dl_496 hS ?_
  refine cl_call (k := 15) (as := [(xs (i + 1)), (xs (i + 2))]) (v := v) (M := M1) (M' := M2) (rest := [.int v]) hC dl_497 (show 197 < 245 by decide) (cd_m 7 48 rfl rfl) (cd_m 7 49 rfl rfl) (cd_m 7 50 rfl rfl) (cd_m 1 13 rfl rfl) (show (parseMethodDescriptor (cd_y 197).desc).map (fun d => d.parameters.length) = some 2 by decide +kernel) rfl (by decide) (Nat.le_of_ble_eq_true rfl) (Nat.le_of_ble_eq_true rfl) (Nat.le_of_ble_eq_true rfl) (Nat.le_of_ble_eq_true rfl) hl.1 (cl_run (k11_doubled_15 (xs (i + 1)) (xs (i + 2)) M1) (by rw [h2]; rfl)) hcs hP hD hS (fun H locs hP hD hS => ?_)
  refine lv_icmp_eq (tgt := 1069) hx hb dl_500 (by decide) (fun _ => ?_) (fun z => absurd rfl z)
  exact hn M2 H locs h3 hP hD hS
set_option maxHeartbeats 1000000 in
set_option maxRecDepth 20000 in
theorem cl_k_noise {p : Program} {l : Launch} {e : Env} {s : State} {m : MethodId} {args : Array Value} {below : List Frame} {meth : Method} {c : Code} {H : Heap} {locs : List Loc} {cells slots : Nat} {Q : State → Prop} {D : va_G} {cy : Nat → ClassId} {ad : Nat → Nat} {fm : Value} {Rel : cd_M → Prop} {b L : Nat} {xs : Nat → Int32} (hC : cl_Cx p s m args meth c D cy ad fm b L xs) {i : Nat} {ls : Array Slot} {M : cd_M} (hi : i + 5 < L) (hl : lv_has ls 7 [(0, .ref b), (4, .int (nI i)), (1, .ref (ad 0)), (2, .ref (ad 15)), (3, .ref (ad 82))]) (hop : ∃ (v : Int32) (M1 M2 : cd_M), f10_noise_0 (xs (i + 1)) (xs (i + 2)) M = some (v, M1) ∧ f11_noise_15 (xs (i + 1)) (xs (i + 2)) M1 = some (v, M2) ∧ Rel M2) (hcs : cells ≤ 601024 ∧ slots ≤ 7293034)
    (hP : va_P D cd_cl (cd_ws cy ad M) H) (hD : va_D (fun q => s.heap.size ≤ q) (cd_ws cy ad M)) (hS : va_S (fun q => s.heap.size ≤ q) s.heap H locs)
    (hn : ∀ (M2 : cd_M) (H1 : Heap) (locs1 : List Loc), Rel M2 → va_P D cd_cl (cd_ws cy ad M2) H1 → va_D (fun q => s.heap.size ≤ q) (cd_ws cy ad M2) → va_S (fun q => s.heap.size ≤ q) s.heap H1 locs1 → W p l e room_1 s m args below meth c H1 locs1 cells slots Q (F0 m 1069 ls [])) : W p l e room_1 s m args below meth c H locs cells slots Q (F0 m 505 ls []) := by
  have hx := hC.1
  have hb := hC.2.1
  obtain ⟨v, M1, M2, h1, h2, h3⟩ := hop
  refine lv_aload_n hx hb dl_505 rfl (lv_at hl 2 rfl) ?_
  refine cl_arg (k := 1) hC hl (by omega) dl_506 dl_507 dl_509 rfl dl_510 dl_511 hS ?_
  refine cl_arg (k := 2) hC hl (by omega) dl_512 dl_513 dl_515 rfl dl_516 dl_517 hS ?_
  refine cl_call (k := 0) (as := [(xs (i + 1)), (xs (i + 2))]) (v := v) (M := M) (M' := M1) (rest := []) hC dl_518 (show 135 < 245 by decide) (cd_m 4 7 rfl rfl) (cd_m 4 8 rfl rfl) (cd_m 4 9 rfl rfl) (cd_m 1 1 rfl rfl) (show (parseMethodDescriptor (cd_y 135).desc).map (fun d => d.parameters.length) = some 2 by decide +kernel) rfl (by decide) (Nat.le_of_ble_eq_true rfl) (Nat.le_of_ble_eq_true rfl) (Nat.le_of_ble_eq_true rfl) (Nat.le_of_ble_eq_true rfl) hl.1 (cl_run (k10_noise_0 (xs (i + 1)) (xs (i + 2)) M) (by rw [h1]; rfl)) hcs hP hD hS (fun H locs hP hD hS => ?_)
  refine lv_aload_n hx hb dl_521 rfl (lv_at hl 3 rfl) ?_
  refine cl_arg (k := 1) hC hl (by omega) dl_522 dl_523 dl_525 rfl dl_526 dl_527 hS ?_
  refine cl_arg (k := 2) hC hl (by omega) dl_528 dl_529 dl_531 rfl dl_532 dl_533 hS ?_
  refine cl_call (k := 15) (as := [(xs (i + 1)), (xs (i + 2))]) (v := v) (M := M1) (M' := M2) (rest := [.int v]) hC dl_534 (show 198 < 245 by decide) (cd_m 7 52 rfl rfl) (cd_m 7 53 rfl rfl) (cd_m 7 54 rfl rfl) (cd_m 1 13 rfl rfl) (show (parseMethodDescriptor (cd_y 198).desc).map (fun d => d.parameters.length) = some 2 by decide +kernel) rfl (by decide) (Nat.le_of_ble_eq_true rfl) (Nat.le_of_ble_eq_true rfl) (Nat.le_of_ble_eq_true rfl) (Nat.le_of_ble_eq_true rfl) hl.1 (cl_run (k11_noise_15 (xs (i + 1)) (xs (i + 2)) M1) (by rw [h2]; rfl)) hcs hP hD hS (fun H locs hP hD hS => ?_)
  refine lv_icmp_eq (tgt := 1069) hx hb dl_537 (by decide) (fun _ => ?_) (fun z => absurd rfl z)
  exact hn M2 H locs h3 hP hD hS
set_option maxHeartbeats 1000000 in
set_option maxRecDepth 20000 in
theorem cl_k_set {p : Program} {l : Launch} {e : Env} {s : State} {m : MethodId} {args : Array Value} {below : List Frame} {meth : Method} {c : Code} {H : Heap} {locs : List Loc} {cells slots : Nat} {Q : State → Prop} {D : va_G} {cy : Nat → ClassId} {ad : Nat → Nat} {fm : Value} {Rel : cd_M → Prop} {b L : Nat} {xs : Nat → Int32} (hC : cl_Cx p s m args meth c D cy ad fm b L xs) {i : Nat} {ls : Array Slot} {M : cd_M} (hi : i + 5 < L) (hl : lv_has ls 7 [(0, .ref b), (4, .int (nI i)), (1, .ref (ad 0)), (2, .ref (ad 15)), (3, .ref (ad 82))]) (hop : ∃ (v : Int32) (M1 M2 : cd_M), f10_set_0 (xs (i + 1)) (xs (i + 2)) (xs (i + 3)) M = some (v, M1) ∧ f11_set_15 (xs (i + 1)) (xs (i + 2)) (xs (i + 3)) M1 = some (v, M2) ∧ Rel M2) (hcs : cells ≤ 601024 ∧ slots ≤ 7293034)
    (hP : va_P D cd_cl (cd_ws cy ad M) H) (hD : va_D (fun q => s.heap.size ≤ q) (cd_ws cy ad M)) (hS : va_S (fun q => s.heap.size ≤ q) s.heap H locs)
    (hn : ∀ (M2 : cd_M) (H1 : Heap) (locs1 : List Loc), Rel M2 → va_P D cd_cl (cd_ws cy ad M2) H1 → va_D (fun q => s.heap.size ≤ q) (cd_ws cy ad M2) → va_S (fun q => s.heap.size ≤ q) s.heap H1 locs1 → W p l e room_1 s m args below meth c H1 locs1 cells slots Q (F0 m 1069 ls [])) : W p l e room_1 s m args below meth c H locs cells slots Q (F0 m 542 ls []) := by
  have hx := hC.1
  have hb := hC.2.1
  obtain ⟨v, M1, M2, h1, h2, h3⟩ := hop
  refine lv_aload_n hx hb dl_542 rfl (lv_at hl 2 rfl) ?_
  refine cl_arg (k := 1) hC hl (by omega) dl_543 dl_544 dl_546 rfl dl_547 dl_548 hS ?_
  refine cl_arg (k := 2) hC hl (by omega) dl_549 dl_550 dl_552 rfl dl_553 dl_554 hS ?_
  refine cl_arg (k := 3) hC hl (by omega) dl_555 dl_556 dl_558 rfl dl_559 dl_560 hS ?_
  refine cl_call (k := 0) (as := [(xs (i + 1)), (xs (i + 2)), (xs (i + 3))]) (v := v) (M := M) (M' := M1) (rest := []) hC dl_561 (show 136 < 245 by decide) (cd_m 4 34 rfl rfl) (cd_m 4 35 rfl rfl) (cd_m 4 36 rfl rfl) (cd_m 1 1 rfl rfl) (show (parseMethodDescriptor (cd_y 136).desc).map (fun d => d.parameters.length) = some 3 by decide +kernel) rfl (by decide) (Nat.le_of_ble_eq_true rfl) (Nat.le_of_ble_eq_true rfl) (Nat.le_of_ble_eq_true rfl) (Nat.le_of_ble_eq_true rfl) hl.1 (cl_run (k10_set_0 (xs (i + 1)) (xs (i + 2)) (xs (i + 3)) M) (by rw [h1]; rfl)) hcs hP hD hS (fun H locs hP hD hS => ?_)
  refine lv_aload_n hx hb dl_564 rfl (lv_at hl 3 rfl) ?_
  refine cl_arg (k := 1) hC hl (by omega) dl_565 dl_566 dl_568 rfl dl_569 dl_570 hS ?_
  refine cl_arg (k := 2) hC hl (by omega) dl_571 dl_572 dl_574 rfl dl_575 dl_576 hS ?_
  refine cl_arg (k := 3) hC hl (by omega) dl_577 dl_578 dl_580 rfl dl_581 dl_582 hS ?_
  refine cl_call (k := 15) (as := [(xs (i + 1)), (xs (i + 2)), (xs (i + 3))]) (v := v) (M := M1) (M' := M2) (rest := [.int v]) hC dl_583 (show 199 < 245 by decide) (cd_m 7 63 rfl rfl) (cd_m 7 64 rfl rfl) (cd_m 7 65 rfl rfl) (cd_m 1 13 rfl rfl) (show (parseMethodDescriptor (cd_y 199).desc).map (fun d => d.parameters.length) = some 3 by decide +kernel) rfl (by decide) (Nat.le_of_ble_eq_true rfl) (Nat.le_of_ble_eq_true rfl) (Nat.le_of_ble_eq_true rfl) (Nat.le_of_ble_eq_true rfl) hl.1 (cl_run (k11_set_15 (xs (i + 1)) (xs (i + 2)) (xs (i + 3)) M1) (by rw [h2]; rfl)) hcs hP hD hS (fun H locs hP hD hS => ?_)
  refine lv_icmp_eq (tgt := 1069) hx hb dl_586 (by decide) (fun _ => ?_) (fun z => absurd rfl z)
  exact hn M2 H locs h3 hP hD hS
set_option maxHeartbeats 1000000 in
set_option maxRecDepth 20000 in
theorem cl_k_undo {p : Program} {l : Launch} {e : Env} {s : State} {m : MethodId} {args : Array Value} {below : List Frame} {meth : Method} {c : Code} {H : Heap} {locs : List Loc} {cells slots : Nat} {Q : State → Prop} {D : va_G} {cy : Nat → ClassId} {ad : Nat → Nat} {fm : Value} {Rel : cd_M → Prop} {b L : Nat} {xs : Nat → Int32} (hC : cl_Cx p s m args meth c D cy ad fm b L xs) {i : Nat} {ls : Array Slot} {M : cd_M} (hi : i + 5 < L) (hl : lv_has ls 7 [(0, .ref b), (4, .int (nI i)), (1, .ref (ad 0)), (2, .ref (ad 15)), (3, .ref (ad 82))]) (hop : ∃ (v : Int32) (M1 M2 : cd_M), f10_undo_0 M = some (v, M1) ∧ f11_undo_15 M1 = some (v, M2) ∧ Rel M2) (hcs : cells ≤ 601024 ∧ slots ≤ 7293034)
    (hP : va_P D cd_cl (cd_ws cy ad M) H) (hD : va_D (fun q => s.heap.size ≤ q) (cd_ws cy ad M)) (hS : va_S (fun q => s.heap.size ≤ q) s.heap H locs)
    (hn : ∀ (M2 : cd_M) (H1 : Heap) (locs1 : List Loc), Rel M2 → va_P D cd_cl (cd_ws cy ad M2) H1 → va_D (fun q => s.heap.size ≤ q) (cd_ws cy ad M2) → va_S (fun q => s.heap.size ≤ q) s.heap H1 locs1 → W p l e room_1 s m args below meth c H1 locs1 cells slots Q (F0 m 1069 ls [])) : W p l e room_1 s m args below meth c H locs cells slots Q (F0 m 591 ls []) := by
  have hx := hC.1
  have hb := hC.2.1
  obtain ⟨v, M1, M2, h1, h2, h3⟩ := hop
  refine lv_aload_n hx hb dl_591 rfl (lv_at hl 2 rfl) ?_
  refine cl_call (k := 0) (as := []) (v := v) (M := M) (M' := M1) (rest := []) hC dl_592 (show 137 < 245 by decide) (cd_m 4 41 rfl rfl) (cd_m 4 42 rfl rfl) (cd_m 4 43 rfl rfl) (cd_m 1 1 rfl rfl) (show (parseMethodDescriptor (cd_y 137).desc).map (fun d => d.parameters.length) = some 0 by decide +kernel) rfl (by decide) (Nat.le_of_ble_eq_true rfl) (Nat.le_of_ble_eq_true rfl) (Nat.le_of_ble_eq_true rfl) (Nat.le_of_ble_eq_true rfl) hl.1 (cl_run (k10_undo_0 M) (by rw [h1]; rfl)) hcs hP hD hS (fun H locs hP hD hS => ?_)
  refine lv_aload_n hx hb dl_595 rfl (lv_at hl 3 rfl) ?_
  refine cl_call (k := 15) (as := []) (v := v) (M := M1) (M' := M2) (rest := [.int v]) hC dl_596 (show 200 < 245 by decide) (cd_m 7 72 rfl rfl) (cd_m 7 73 rfl rfl) (cd_m 7 74 rfl rfl) (cd_m 1 13 rfl rfl) (show (parseMethodDescriptor (cd_y 200).desc).map (fun d => d.parameters.length) = some 0 by decide +kernel) rfl (by decide) (Nat.le_of_ble_eq_true rfl) (Nat.le_of_ble_eq_true rfl) (Nat.le_of_ble_eq_true rfl) (Nat.le_of_ble_eq_true rfl) hl.1 (cl_run (k11_undo_15 M1) (by rw [h2]; rfl)) hcs hP hD hS (fun H locs hP hD hS => ?_)
  refine lv_icmp_eq (tgt := 1069) hx hb dl_599 (by decide) (fun _ => ?_) (fun z => absurd rfl z)
  exact hn M2 H locs h3 hP hD hS
