/-! field, on both sides -/
theorem Rel2_Mi {M N N1 : cd_M} (e : ∀ x i, x = 15 ∨ 57 ≤ x → N1.1 x i = N.1 x i) (h : Rel2 M N) : Rel2 M N1 := by
  obtain ⟨t, b, w, nf, fl, nc, fo, ln, nb, vl, n, sm, pa, u, x, hn, hs, hp, ⟨a1, a2⟩, ⟨b1, b2, b3⟩, ⟨c1, c2, c3⟩, ⟨d1, d2, d3⟩, ⟨e1, e2, e3⟩, f1, g1⟩ := h
  refine ⟨t, b, w, nf, fl, nc, fo, ln, nb, vl, n, sm, pa, u, x, hn, hs, hp, ⟨a1, ?_⟩, ⟨b1, ?_, b3⟩, ⟨c1, ?_, c3⟩, ⟨d1, ?_, d3⟩, ⟨e1, ?_, e3⟩, f1, g1⟩
  · exact MT_c (e _ _ (by decide)) (fun i => e _ _ (by decide)) a2
  · exact MF_c (e _ _ (by decide)) (e _ _ (by decide)) (fun i => e _ _ (by decide)) b2
  · exact MR_c (e _ _ (by decide)) (e _ _ (by decide)) (fun i => e _ _ (by decide)) (fun i => e _ _ (by decide)) (fun i => e _ _ (by decide)) c2
  · exact ML_c (e _ _ (by decide)) (fun i => e _ _ (by decide)) d2
  · exact MH_c (e _ _ (by decide)) (fun i => e _ _ (by decide)) (fun i => e _ _ (by decide)) e2
theorem wi_m1 {a : Int32} {w : Nat} {M : cd_M} (hw : w ≤ 6) : f11_within a.toInt64 (-1) (nI w - 1).toInt64 M = 0 ↔ ¬ (a = -1 ∨ inr_ a w) := by
  have h1 := wi_in (a := a) (n := w) (M := M) (by omega)
  rw [show (0 : Int64) = (0 : Int32).toInt64 from rfl, wi_32] at h1
  have h1 : (0 ≤ a ∧ a ≤ nI w - 1) ↔ inr_ a w := ⟨fun q => Classical.byContradiction (fun z => h1.mpr z q), fun q => Classical.byContradiction (fun z => h1.mp z q)⟩
  have h2 : -1 ≤ a ↔ a = -1 ∨ 0 ≤ a := by
    rw [← Int32.toInt_inj]
    simp only [Int32.le_iff_toInt_le]
    show (-1 : Int) ≤ _ ↔ _ = (-1 : Int) ∨ (0 : Int) ≤ _
    omega
  have h3 : (-1 : Int32) ≤ nI w - 1 := by
    have : ∀ w : Fin 7, (-1 : Int32) ≤ nI w.1 - 1 := by decide
    exact this ⟨w, by omega⟩
  rw [show (-1 : Int64) = (-1 : Int32).toInt64 from rfl, wi_32, h2, ← h1]
  apply not_congr
  constructor
  · rintro ⟨h | h, h'⟩
    · exact Or.inl h
    · exact Or.inr ⟨h, h'⟩
  · rintro (h | h)
    · exact ⟨Or.inl h, by rw [h]; exact h3⟩
    · exact ⟨Or.inr h.1, h.2⟩
