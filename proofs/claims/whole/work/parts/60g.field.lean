theorem fld_both {M N : cd_M} (h : Rel2 M N) (a1 a2 : Int32) : ∃ (r : Option Int32) (v : Int32), cf_o a1 a2 M = some r ∧ f11_field_15 a1 a2 N = some (v, cd_wI N 15 0 (cf_k r)) ∧ ∀ x, r = some x → v = x := by
  have g0 := Rel2_t (v := 0) h
  obtain ⟨t, b, w, nf, fl, nc, fo, ln, nb, vl, n, sm, pa, u, x, hn, hs, hp, hT, hF, hR, ⟨d1, d2, d3⟩, ⟨e1, e2, e3⟩, -⟩ := h
  have hw := hF.2.2.1
  have d2' : ML (cd_wI N 15 0 0) w n sm pa := ML_c (by rw [cd_wI_at, if_neg (by decide)]) (fun i => by rw [cd_wI_at, if_neg (by omega)]) d2
  have no : f11_field_15_L31 a1 a2 N = some (0, cd_wI N 15 0 1) := by
    unfold f11_field_15_L31 f11_field_15_L32
    dsimp only [cd_lt]
    rw [if_pos (by rw [cd_wI_at, if_pos ⟨rfl, rfl⟩])]
  have yes : f11_field_15_L32 a1 a2 0 N = if a2 = (-1) then ((f11_parityOf_15 a1 (cd_wI N 15 0 0)).bind fun v3 => some (v3, (cd_wI N 15 0 0))) else ((f11_sample_15 a1 a2 (cd_wI N 15 0 0)).bind fun v4 => some (v4, (cd_wI N 15 0 0))) := by
    unfold f11_field_15_L32
    dsimp only [cd_lt]
    rw [if_neg (by rw [cd_wI_at, if_pos ⟨rfl, rfl⟩]; decide)]
  unfold cf_o f11_field_15
  by_cases hi : inr_ a1 n
  · rw [if_neg (fun q => (has7 d1 d3).mp q hi), if_neg (fun q => (isF15 d2 d3).mp q hi), hF.2.1.1]
    obtain ⟨i, hi, rfl⟩ := hi
    by_cases hb : a2 = -1
    · rw [if_pos hb, parity7 hw d1 d3 hi, if_neg (fun q => (wi_m1 hw).mp q (Or.inl hb)), yes, if_pos hb, parity15 d2' d3 hi]
      exact ⟨_, _, rfl, rfl, fun x hx => Option.some.inj hx⟩
    · rw [if_neg hb]
      by_cases hs2 : inr_ a2 w
      · rw [if_neg (fun q => (isSmp hF.1 hF.2.2).mp q hs2), if_neg (fun q => (wi_m1 hw).mp q (Or.inr hs2)), yes, if_neg hb]
        obtain ⟨k, hk2, rfl⟩ := hs2
        rw [sample7 hw d1 d3 hi hk2, sample15 d2' d3 hw hi hk2]
        exact ⟨_, _, rfl, rfl, fun x hx => Option.some.inj hx⟩
      · rw [if_pos ((isSmp hF.1 hF.2.2).mpr hs2), if_pos ((wi_m1 hw).mpr (fun q => q.elim hb hs2)), no]
        exact ⟨_, _, rfl, rfl, fun x hx => nomatch hx⟩
  · rw [if_pos ((has7 d1 d3).mpr hi), if_pos ((isF15 d2 d3).mpr hi), no]
    exact ⟨_, _, rfl, rfl, fun x hx => nomatch hx⟩
theorem cf_M1 (r : Option Int32) (M : cd_M) (x i : Nat) : (cf_M r M).1 x i = M.1 x i := by
  cases r with
  | none => rfl
  | some y => rfl
theorem cf_M2 (r : Option Int32) (M : cd_M) (x i : Nat) (h : x ≠ 82) : (cf_M r M).2 x i = M.2 x i := by
  cases r with
  | none => rfl
  | some y =>
    show (if x = 82 then vp_updL (M.2 x) 0 y.toInt64 else M.2 x) i = M.2 x i
    rw [if_neg h]
theorem o_field : cl_o_field Rel := by
  intro a1 a2 M h
  obtain ⟨r, v, h1, h2, h3⟩ := fld_both h a1 a2
  have hN : Rel2 M (cf_M r M) := Rel2_Mi (fun x i _ => cf_M1 r M x i) h
  obtain ⟨r', v', g1, g2, g3⟩ := fld_both hN a1 a2
  cases Option.some.inj (h1.symm.trans g1)
  refine ⟨r, v', _, h1, g2, by rw [cd_wI_at, if_pos ⟨rfl, rfl⟩], fun x hx => ?_, ?_⟩
  · rw [g3 x hx, hx]
    have e : (cf_M (some x) M).2 82 = vp_updL (M.2 82) 0 x.toInt64 := cd_wL_s M 82 0 x.toInt64
    have e2 : (cd_wI (cf_M (some x) M) 15 0 (cf_k (some x))).2 82 0 = (cf_M (some x) M).2 82 0 := rfl
    rw [e2, e]
    unfold vp_updL
    exact if_pos rfl
  · have h5 : Rel2 M (cd_wI (cf_M r M) 15 0 (cf_k r)) := Rel2_t hN
    exact Rel2_C (fun x i hx => ⟨by rw [cd_wI_at, if_neg (by omega)]; exact cf_M1 r M x i, cf_M2 r M x i (by omega)⟩) h5
