/-! what does not change where its cells do not -/
section cgA
variable {M M1 : cd_M} {w : Nat}
theorem CT_c {t : Nat} {b : Nat → Nat} (e1 : M1.1 2 1 = M.1 2 1) (e2 : ∀ i, M1.1 17 i = M.1 17 i) (h : CT M t b) : CT M1 t b := by unfold CT at *; simp only [e1, e2]; exact h
theorem MT_c {t : Nat} {b : Nat → Nat} (e1 : M1.1 15 2 = M.1 15 2) (e2 : ∀ i, M1.1 57 i = M.1 57 i) (h : MT M t b) : MT M1 t b := by unfold MT at *; simp only [e1, e2]; exact h
theorem CF_c {nf : Nat} {fl : Nat → Nat → Nat → Nat} (e1 : M1.1 5 2 = M.1 5 2) (e2 : M1.1 5 3 = M.1 5 3) (e3 : ∀ i, M1.2 23 i = M.2 23 i) (e4 : ∀ i, M1.2 24 i = M.2 24 i) (h : CF M w nf fl) : CF M1 w nf fl := by unfold CF at *; simp only [e1, e2, e3, e4]; exact h
theorem MF_c {nf : Nat} {fl : Nat → Nat → Nat → Nat} (e1 : M1.1 15 11 = M.1 15 11) (e2 : M1.1 15 12 = M.1 15 12) (e3 : ∀ i, M1.1 58 i = M.1 58 i) (h : MF M w nf fl) : MF M1 w nf fl := by unfold MF at *; simp only [e1, e2, e3]; exact h
theorem CR_c {nc fo : Nat} {ln : Nat → Nat} {nb : Nat → Nat → Nat} {vl : Nat → Nat} (e1 : M1.1 6 3 = M.1 6 3) (e2 : M1.1 0 10 = M.1 0 10) (e3 : ∀ i, M1.1 25 i = M.1 25 i) (e4 : ∀ i, M1.1 26 i = M.1 26 i) (e5 : ∀ i, M1.1 27 i = M.1 27 i) (h : CR M nc fo ln nb vl) : CR M1 nc fo ln nb vl := by unfold CR at *; simp only [e1, e2, e3, e4, e5]; exact h
theorem MR_c {nc fo : Nat} {ln : Nat → Nat} {nb : Nat → Nat → Nat} {vl : Nat → Nat} (e1 : M1.1 15 17 = M.1 15 17) (e2 : M1.1 15 23 = M.1 15 23) (e3 : ∀ i, M1.1 60 i = M.1 60 i) (e4 : ∀ i, M1.1 61 i = M.1 61 i) (e5 : ∀ i, M1.1 62 i = M.1 62 i) (h : MR M nc fo ln nb vl) : MR M1 nc fo ln nb vl := by unfold MR at *; simp only [e1, e2, e3, e4, e5]; exact h
theorem CL_c {n : Nat} {sm : Nat → Nat → Nat} {pa : Nat → Nat} (e1 : M1.1 7 1 = M.1 7 1) (e2 : ∀ i, M1.2 28 i = M.2 28 i) (h : CL M w n sm pa) : CL M1 w n sm pa := by unfold CL at *; simp only [e1, e2]; exact h
theorem ML_c {n : Nat} {sm : Nat → Nat → Nat} {pa : Nat → Nat} (e1 : M1.1 15 24 = M.1 15 24) (e2 : ∀ i, M1.1 64 i = M.1 64 i) (h : ML M w n sm pa) : ML M1 w n sm pa := by unfold ML at *; simp only [e1, e2]; exact h
theorem CH_c {u x : Nat} {hn : Nat → Nat} {hs : Nat → Nat → Nat → Nat} {hp : Nat → Nat → Nat} (e1 : M1.1 8 3 = M.1 8 3) (e2 : M1.1 8 2 = M.1 8 2) (e3 : ∀ i, M1.1 30 i = M.1 30 i) (e4 : ∀ i, M1.2 29 i = M.2 29 i) (h : CH M w u x hn hs hp) : CH M1 w u x hn hs hp := by unfold CH at *; simp only [e1, e2, e3, e4]; exact h
theorem MH_c {u : Nat} {hn : Nat → Nat} {hs : Nat → Nat → Nat → Nat} {hp : Nat → Nat → Nat} (e1 : M1.1 15 26 = M.1 15 26) (e2 : ∀ i, M1.1 65 i = M.1 65 i) (e3 : ∀ i, M1.1 66 i = M.1 66 i) (h : MH M w u hn hs hp) : MH M1 w u hn hs hp := by unfold MH at *; simp only [e1, e2, e3]; exact h
theorem CM_c {nc n : Nat} {ln : Nat → Nat} {nb : Nat → Nat → Nat} {vl : Nat → Nat} {sm : Nat → Nat → Nat} {pa : Nat → Nat} (e1 : ∀ i, M1.1 35 i = M.1 35 i) (e2 : ∀ i, M1.1 36 i = M.1 36 i) (e3 : ∀ i, M1.1 37 i = M.1 37 i) (e4 : ∀ i, M1.1 38 i = M.1 38 i) (h : CM M w nc ln nb vl n sm pa) : CM M1 w nc ln nb vl n sm pa := by unfold CM at *; simp only [e1, e2, e3, e4]; exact h
theorem TK_c {ss : Nat → Nat} {ee : Nat → Bool} {cc : Nat → Nat} {k : Nat} (e : ∀ x i, (x = 11 ∨ (43 ≤ x ∧ x ≤ 48)) → M1.1 x i = M.1 x i) (h : TK M ss ee cc k) : TK M1 ss ee cc k := by
  have e0 : ∀ i, M1.1 11 i = M.1 11 i := fun i => e _ _ (by omega)
  have e1 : ∀ i, M1.1 43 i = M.1 43 i := fun i => e _ _ (by omega)
  have e2 : ∀ i, M1.1 44 i = M.1 44 i := fun i => e _ _ (by omega)
  have e3 : ∀ i, M1.1 45 i = M.1 45 i := fun i => e _ _ (by omega)
  have e4 : ∀ i, M1.1 46 i = M.1 46 i := fun i => e _ _ (by omega)
  have e5 : ∀ i, M1.1 47 i = M.1 47 i := fun i => e _ _ (by omega)
  have e6 : ∀ i, M1.1 48 i = M.1 48 i := fun i => e _ _ (by omega)
  unfold TK at *
  simp only [e0, e1, e2, e3, e4, e5, e6]
  exact h
theorem GR_c {n : Nat} {sm : Nat → Nat → Nat} {pa vl : Nat → Nat} {P : Nat → Bool} (e : ∀ x i, (x = 12 ∨ x = 13 ∨ (49 ≤ x ∧ x ≤ 55)) → M1.1 x i = M.1 x i ∧ M1.2 x i = M.2 x i) (h : GR M w n sm pa vl P) : GR M1 w n sm pa vl P := by
  have e0 : ∀ i, M1.1 12 i = M.1 12 i := fun i => (e _ _ (by omega)).1
  have e1 : ∀ i, M1.1 13 i = M.1 13 i := fun i => (e _ _ (by omega)).1
  have e2 : ∀ i, M1.1 49 i = M.1 49 i := fun i => (e _ _ (by omega)).1
  have e3 : ∀ i, M1.1 50 i = M.1 50 i := fun i => (e _ _ (by omega)).1
  have e4 : ∀ i, M1.1 51 i = M.1 51 i := fun i => (e _ _ (by omega)).1
  have e5 : ∀ i, M1.1 52 i = M.1 52 i := fun i => (e _ _ (by omega)).1
  have e6 : ∀ i, M1.1 53 i = M.1 53 i := fun i => (e _ _ (by omega)).1
  have e7 : ∀ i, M1.2 54 i = M.2 54 i := fun i => (e _ _ (by omega)).2
  have e8 : ∀ i, M1.2 55 i = M.2 55 i := fun i => (e _ _ (by omega)).2
  unfold GR GB0 at *
  simp only [e0, e1, e2, e3, e4, e5, e6, e7, e8]
  exact h
theorem CX_c {n L : Nat} {sm : Nat → Nat → Nat} {pa vl nu : Nat → Nat} (e : ∀ x i, ((x = 0 ∧ i = 11) ∨ x = 11 ∨ x = 12 ∨ x = 13 ∨ (43 ≤ x ∧ x ≤ 55)) → M1.1 x i = M.1 x i ∧ M1.2 x i = M.2 x i) (h : CX M w n sm pa vl L nu) : CX M1 w n sm pa vl L nu := by
  rcases h with h | ⟨h1, h2, h3⟩
  · exact Or.inl ((e 0 11 (by omega)).1.trans h)
  · exact Or.inr ⟨(e 0 11 (by omega)).1.trans h1, TK_c (fun x i z => (e x i (by omega)).1) h2, GR_c (fun x i z => e x i (by omega)) h3⟩
end cgA
/-- a list that covers cells of the class alone, of the reference alone -/
def cls_ (ws : List (Nat × Option Nat)) : Bool := ws.all (fun q => !Nat.beq q.1 15 && Nat.ble (q.1 + 1) 57)
def mdl_ (ws : List (Nat × Option Nat)) : Bool := ws.all (fun q => Nat.beq q.1 15 || Nat.ble 57 q.1)
theorem cls_no {ws : List (Nat × Option Nat)} (h : cls_ ws = true) {x i : Nat} (hx : x = 15 ∨ 57 ≤ x) : cf_cov ws x i = false := by
  cases e : cf_cov ws x i with
  | false => rfl
  | true =>
    have h2 := List.all_eq_true.mp h
    have : ∃ j, (x, j) ∈ ws := by
      rcases cf_cov_iff.mp e with q | q
      · exact ⟨_, q⟩
      · exact ⟨_, q⟩
    obtain ⟨j, hj⟩ := this
    have h3 := h2 _ hj
    simp only [Bool.and_eq_true, Bool.not_eq_true', Nat.ble_eq] at h3
    have h4 : ¬ x = 15 := fun q => by rw [q] at h3; exact absurd h3.1 (by decide)
    omega
theorem mdl_no {ws : List (Nat × Option Nat)} (h : mdl_ ws = true) {x i : Nat} (hx : x ≠ 15 ∧ x < 57) : cf_cov ws x i = false := by
  cases e : cf_cov ws x i with
  | false => rfl
  | true =>
    have h2 := List.all_eq_true.mp h
    have : ∃ j, (x, j) ∈ ws := by
      rcases cf_cov_iff.mp e with q | q
      · exact ⟨_, q⟩
      · exact ⟨_, q⟩
    obtain ⟨j, hj⟩ := this
    have h3 := h2 _ hj
    simp only [Bool.or_eq_true, Nat.ble_eq, Nat.beq_eq] at h3
    omega
theorem Rel2_C {M M1 N : cd_M} (e : ∀ x i, x ≠ 15 ∧ x < 57 → M1.1 x i = M.1 x i ∧ M1.2 x i = M.2 x i) (h : Rel2 M N) : Rel2 M1 N := by
  obtain ⟨t, b, w, nf, fl, nc, fo, ln, nb, vl, n, sm, pa, u, x, hn, hs, hp, ⟨a1, a2⟩, ⟨b1, b2, b3⟩, ⟨c1, c2, c3⟩, ⟨d1, d2, d3⟩, ⟨e1, e2, e3⟩, f1, g1⟩ := h
  have eI : ∀ x i, x ≠ 15 ∧ x < 57 → M1.1 x i = M.1 x i := fun x i h => (e x i h).1
  have eL : ∀ x i, x ≠ 15 ∧ x < 57 → M1.2 x i = M.2 x i := fun x i h => (e x i h).2
  refine ⟨t, b, w, nf, fl, nc, fo, ln, nb, vl, n, sm, pa, u, x, hn, hs, hp, ⟨?_, a2⟩, ⟨?_, b2, b3⟩, ⟨?_, c2, c3⟩, ⟨?_, d2, d3⟩, ⟨?_, e2, e3⟩, ?_, ?_⟩
  · exact CT_c (eI _ _ (by decide)) (fun i => eI _ _ (by decide)) a1
  · exact CF_c (eI _ _ (by decide)) (eI _ _ (by decide)) (fun i => eL _ _ (by decide)) (fun i => eL _ _ (by decide)) b1
  · exact CR_c (eI _ _ (by decide)) (eI _ _ (by decide)) (fun i => eI _ _ (by decide)) (fun i => eI _ _ (by decide)) (fun i => eI _ _ (by decide)) c1
  · exact CL_c (eI _ _ (by decide)) (fun i => eL _ _ (by decide)) d1
  · exact CH_c (eI _ _ (by decide)) (eI _ _ (by decide)) (fun i => eI _ _ (by decide)) (fun i => eL _ _ (by decide)) e1
  · exact CM_c (fun i => eI _ _ (by decide)) (fun i => eI _ _ (by decide)) (fun i => eI _ _ (by decide)) (fun i => eI _ _ (by decide)) f1
  · exact CX_c (fun x i hx => e x i (by omega)) g1
theorem Rel2_M {M N N1 : cd_M} (e : ∀ x i, x = 15 ∨ 57 ≤ x → N1.1 x i = N.1 x i ∧ N1.2 x i = N.2 x i) (h : Rel2 M N) : Rel2 M N1 := by
  obtain ⟨t, b, w, nf, fl, nc, fo, ln, nb, vl, n, sm, pa, u, x, hn, hs, hp, ⟨a1, a2⟩, ⟨b1, b2, b3⟩, ⟨c1, c2, c3⟩, ⟨d1, d2, d3⟩, ⟨e1, e2, e3⟩, f1, g1⟩ := h
  have eI : ∀ x i, x = 15 ∨ 57 ≤ x → N1.1 x i = N.1 x i := fun x i h => (e x i h).1
  refine ⟨t, b, w, nf, fl, nc, fo, ln, nb, vl, n, sm, pa, u, x, hn, hs, hp, ⟨a1, ?_⟩, ⟨b1, ?_, b3⟩, ⟨c1, ?_, c3⟩, ⟨d1, ?_, d3⟩, ⟨e1, ?_, e3⟩, f1, g1⟩
  · exact MT_c (eI _ _ (by decide)) (fun i => eI _ _ (by decide)) a2
  · exact MF_c (eI _ _ (by decide)) (eI _ _ (by decide)) (fun i => eI _ _ (by decide)) b2
  · exact MR_c (eI _ _ (by decide)) (eI _ _ (by decide)) (fun i => eI _ _ (by decide)) (fun i => eI _ _ (by decide)) (fun i => eI _ _ (by decide)) c2
  · exact ML_c (eI _ _ (by decide)) (fun i => eI _ _ (by decide)) d2
  · exact MH_c (eI _ _ (by decide)) (fun i => eI _ _ (by decide)) (fun i => eI _ _ (by decide)) e2
/-- an operation of both, out of what it does on two memories -/
theorem op2_ {o1 o2 : cd_M → Option (Int32 × cd_M)} {w1 w2 : List (Nat × Option Nat)} (k1 : cls_ w1 = true) (k2 : mdl_ w2 = true) (f1 : ∀ M, cp (o1 M) (fun r => cf_ w1 M r.2)) (f2 : ∀ M, cp (o2 M) (fun r => cf_ w2 M r.2))
    (H : ∀ M N, Rel2 M N → ∃ v, cw (o1 M) (fun r => r.1 = v ∧ cw (o2 N) (fun q => q.1 = v ∧ Rel2 r.2 q.2))) (M : cd_M) (h : Rel M) : ∃ (v : Int32) (M1 M2 : cd_M), o1 M = some (v, M1) ∧ o2 M1 = some (v, M2) ∧ Rel M2 := by
  obtain ⟨v, r, hr, hv, -⟩ := H M M h
  have g1 := f1 M r hr
  have h2 : Rel2 M r.2 := Rel2_M (fun x i hx => g1 x i (cls_no k1 hx)) h
  obtain ⟨v', r', hr', hv', q, hq, hqv, hR⟩ := H M r.2 h2
  rw [hr] at hr'
  cases hr'
  have g2 := f2 _ q hq
  refine ⟨r.1, r.2, q.2, hr, ?_, Rel2_C (fun x i hx => g2 x i (mdl_no k2 hx)) hR⟩
  rw [hq, hv', ← hqv]
/-- where the class changes nothing -/
theorem op1_ {o1 : cd_M → Option Int32} {o2 : cd_M → Option (Int32 × cd_M)} {w2 : List (Nat × Option Nat)} (k2 : mdl_ w2 = true) (f2 : ∀ M, cp (o2 M) (fun r => cf_ w2 M r.2))
    (H : ∀ M N, Rel2 M N → ∃ v, o1 M = some v ∧ cw (o2 N) (fun q => q.1 = v ∧ Rel2 M q.2)) (M : cd_M) (h : Rel M) : ∃ (v : Int32) (M2 : cd_M), o1 M = some v ∧ o2 M = some (v, M2) ∧ Rel M2 := by
  obtain ⟨v, hv, q, hq, hqv, hR⟩ := H M M h
  have g2 := f2 _ q hq
  refine ⟨v, q.2, hv, ?_, Rel2_C (fun x i hx => g2 x i (mdl_no k2 hx)) hR⟩
  rw [hq, ← hqv]
