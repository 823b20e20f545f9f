/-! how far two rows are apart -/
theorem gp_lt {a b : Nat} (ha : a < 128) (hb : b < 128) : gp_ a b < 128 := by
  unfold gp_
  by_cases h : a ≤ b
  · rw [if_pos h]; omega
  · rw [if_neg h]; omega
theorem gp_pos {a b : Nat} (ha : a < 128) (hb : b < 128) (h : 0 ≤ nI a - nI b) : nI a - nI b = nI (gp_ a b) := by
  unfold gp_
  by_cases q : b ≤ a
  · rw [pk_sub q]
    by_cases e : a ≤ b
    · rw [if_pos e]; congr 1; omega
    · rw [if_neg e]
  · exact absurd (pk_sneg (a := a) (b := b) (by omega) (by omega)) (Int32.not_lt.mpr h)
theorem gp_neg {a b : Nat} (ha : a < 128) (hb : b < 128) (h : ¬ 0 ≤ nI a - nI b) : -(nI a - nI b) = nI (gp_ a b) := by
  unfold gp_
  by_cases q : b ≤ a
  · rw [pk_sub q] at h
    exact absurd (nI_pos' (by omega)) h
  · rw [if_pos (by omega), Int32.neg_sub, pk_sub (by omega)]
theorem most_lt {s t : Nat → Nat} (hs : ∀ k, s k < 128) (ht : ∀ k, t k < 128) : ∀ k, most_ s t k < 128
  | 0 => (by show 0 < 128; decide)
  | k + 1 => by
    have h1 := most_lt hs ht k
    have h2 := gp_lt (hs k) (ht k)
    show (if _ then _ else _) < 128
    by_cases q : most_ s t k < gp_ (s k) (t k)
    · rw [if_pos q]; exact h2
    · rw [if_neg q]; exact h1
section apA
variable {s t s' t' : Nat → Nat} {w : Nat}
theorem gp_00 : gp_ 0 0 = 0 := rfl
theorem sum_ext (hs : ∀ k, k < w → s' k = s k) (ht : ∀ k, k < w → t' k = t k) (hs0 : ∀ k, w ≤ k → s' k = 0) (ht0 : ∀ k, w ≤ k → t' k = 0) : ∀ k, sum_ s' t' k = sum_ s t (min k w)
  | 0 => by rw [Nat.zero_min]; rfl
  | k + 1 => by
    show sum_ s' t' k + gp_ (s' k) (t' k) = _
    rw [sum_ext hs ht hs0 ht0 k]
    by_cases q : k < w
    · rw [hs k q, ht k q, show min (k + 1) w = k + 1 by omega, show min k w = k by omega]; rfl
    · rw [hs0 k (by omega), ht0 k (by omega), gp_00, show min (k + 1) w = w by omega, show min k w = w by omega]; rfl
theorem most_ext (hs : ∀ k, k < w → s' k = s k) (ht : ∀ k, k < w → t' k = t k) (hs0 : ∀ k, w ≤ k → s' k = 0) (ht0 : ∀ k, w ≤ k → t' k = 0) : ∀ k, most_ s' t' k = most_ s t (min k w)
  | 0 => by rw [Nat.zero_min]; rfl
  | k + 1 => by
    show (if most_ s' t' k < gp_ (s' k) (t' k) then gp_ (s' k) (t' k) else most_ s' t' k) = _
    rw [most_ext hs ht hs0 ht0 k]
    by_cases q : k < w
    · rw [hs k q, ht k q, show min (k + 1) w = k + 1 by omega, show min k w = k by omega]; rfl
    · rw [hs0 k (by omega), ht0 k (by omega), gp_00, show min (k + 1) w = w by omega, show min k w = w by omega, if_neg (by omega)]
theorem many_ext (hs : ∀ k, k < w → s' k = s k) (ht : ∀ k, k < w → t' k = t k) (hs0 : ∀ k, w ≤ k → s' k = 0) (ht0 : ∀ k, w ≤ k → t' k = 0) : ∀ k, many_ s' t' k = many_ s t (min k w)
  | 0 => by rw [Nat.zero_min]; rfl
  | k + 1 => by
    show many_ s' t' k + (if 0 < gp_ (s' k) (t' k) then 1 else 0) = _
    rw [many_ext hs ht hs0 ht0 k]
    by_cases q : k < w
    · rw [hs k q, ht k q, show min (k + 1) w = k + 1 by omega, show min k w = k by omega]; rfl
    · rw [hs0 k (by omega), ht0 k (by omega), gp_00, show min (k + 1) w = w by omega, show min k w = w by omega, if_neg (by omega)]; rfl
end apA
section apB
variable {M N : cd_M} {nc fo : Nat} {ln : Nat → Nat} {nb : Nat → Nat → Nat} {vl : Nat → Nat}
theorem dist_L (h : CR M nc fo ln nb vl) (hB : BR nc fo ln nb vl) {m1 m2 : Nat} (h1 : m1 < 2 ^ 63) (h2 : m2 < 2 ^ 63) : ∀ (f k : Nat), k ≤ 6 → 6 - k < f → f5_distance_6_L12 f (lN m1) (lN m2) (nI (sum_ (dg_ m1) (dg_ m2) k)) (nI (most_ (dg_ m1) (dg_ m2) k)) (nI (many_ (dg_ m1) (dg_ m2) k)) (nI k) M = some (nI (dist_ (vl 4) 6 (dg_ m1) (dg_ m2)))
  | 0, k, hk, hf => by omega
  | f + 1, k, hk, hf => by
    have hv := hB.2.2.2.2.2.2
    rw [f5_distance_6_L12]
    dsimp only [cd_lt]
    rw [show (6 : Int32) = nI 6 from rfl]
    by_cases q : 6 ≤ k
    · have hk6 : k = 6 := by omega
      rw [if_pos (nI_le q (by omega)), if_pos (show cd_in 4 5 = true by decide), if_pos (show cd_in 4 5 = true by decide), show Int32.toNatClampNeg 4 = 4 from rfl, h.2.2.2.2 4 (by decide), hk6]
      unfold dist_
      by_cases e0 : vl 4 = 0
      · rw [e0, if_pos (show nI 0 = 0 from rfl), if_pos rfl]
      · rw [if_neg (nI_ne0 (by omega) (by omega)), if_neg e0]
        by_cases e1 : vl 4 = 1
        · rw [e1, if_pos (show nI 1 = 1 from rfl), if_pos rfl]
        · rw [if_neg (show ¬ nI (vl 4) = 1 from fun z => e1 ((nI_eq (b := 1) (by omega) (by decide)).mp z)), if_neg e1]
    · rw [if_neg (nI_ge (by omega) (by omega)), sm_of h1 (by omega), sm_of h2 (by omega)]
      have g1 := dg_lt m1 k
      have g2 := dg_lt m2 k
      have eg : (if 0 ≤ nI (dg_ m1 k) - nI (dg_ m2 k) then nI (dg_ m1 k) - nI (dg_ m2 k) else 0 - (nI (dg_ m1 k) - nI (dg_ m2 k))) = nI (gp_ (dg_ m1 k) (dg_ m2 k)) := by
        by_cases z : 0 ≤ nI (dg_ m1 k) - nI (dg_ m2 k)
        · rw [if_pos z, gp_pos g1 g2 z]
        · rw [if_neg z, Int32.zero_sub, gp_neg g1 g2 z]
      have gl := gp_lt g1 g2
      have ml := most_lt (s := dg_ m1) (t := dg_ m2) (dg_lt m1) (dg_lt m2) k
      have em : (if nI (most_ (dg_ m1) (dg_ m2) k) < nI (gp_ (dg_ m1 k) (dg_ m2 k)) then nI (gp_ (dg_ m1 k) (dg_ m2 k)) else nI (most_ (dg_ m1) (dg_ m2) k)) = nI (most_ (dg_ m1) (dg_ m2) (k + 1)) := by
        show _ = nI (if _ then _ else _)
        by_cases z : most_ (dg_ m1) (dg_ m2) k < gp_ (dg_ m1 k) (dg_ m2 k)
        · rw [if_pos z, if_pos (nI_lt z (by omega))]
        · rw [if_neg z, if_neg (nI_nlt (by omega) (by omega))]
      rw [eg, em, nI_add]
      unfold f5_distance_6_L65
      dsimp only [cd_lt]
      have es : sum_ (dg_ m1) (dg_ m2) k + gp_ (dg_ m1 k) (dg_ m2 k) = sum_ (dg_ m1) (dg_ m2) (k + 1) := rfl
      have ih := dist_L h hB h1 h2 f (k + 1) (by omega) (by omega)
      rw [es, nI_1]
      by_cases z : gp_ (dg_ m1 k) (dg_ m2 k) = 0
      · rw [z, if_pos (show nI 0 ≤ 0 by decide)]
        have ey : nI (many_ (dg_ m1) (dg_ m2) k) + 0 = nI (many_ (dg_ m1) (dg_ m2) (k + 1)) := by
          show _ = nI (_ + (if 0 < gp_ (dg_ m1 k) (dg_ m2 k) then 1 else 0))
          rw [z, if_neg (by decide)]
          exact nI_add _ 0
        rw [ey]
        exact ih
      · rw [if_neg (nI_nle (by omega) (by omega))]
        have ey : nI (many_ (dg_ m1) (dg_ m2) k) + 1 = nI (many_ (dg_ m1) (dg_ m2) (k + 1)) := by
          show _ = nI (_ + (if 0 < gp_ (dg_ m1 k) (dg_ m2 k) then 1 else 0))
          rw [if_pos (by omega)]
          exact nI_1 _
        rw [ey]
        exact ih
theorem dist6 (h : CR M nc fo ln nb vl) (hB : BR nc fo ln nb vl) {s t : Nat → Nat} {w : Nat} (hw : w ≤ 6) (hs : ∀ k, k < w → s k < 128) (ht : ∀ k, k < w → t k < 128) : f5_distance_6 (lN (rw_ s w)) (lN (rw_ t w)) M = some (nI (dist_ (vl 4) w s t)) := by
  unfold f5_distance_6
  have e := dist_L h hB (rw_lt63 hs hw) (rw_lt63 ht hw) cd_fu 0 (by omega) (by unfold cd_fu; omega)
  have e0 : f5_distance_6_L12 cd_fu (lN (rw_ s w)) (lN (rw_ t w)) 0 0 0 0 M = some (nI (dist_ (vl 4) 6 (dg_ (rw_ s w)) (dg_ (rw_ t w)))) := e
  rw [e0]
  have a1 : ∀ k, k < w → dg_ (rw_ s w) k = s k := fun k hk => dg_rw hs hk
  have a2 : ∀ k, k < w → dg_ (rw_ t w) k = t k := fun k hk => dg_rw ht hk
  have a3 : ∀ k, w ≤ k → dg_ (rw_ s w) k = 0 := fun k hk => dg_big (rw_lt hs) hk
  have a4 : ∀ k, w ≤ k → dg_ (rw_ t w) k = 0 := fun k hk => dg_big (rw_lt ht) hk
  unfold dist_
  rw [sum_ext a1 a2 a3 a4, most_ext a1 a2 a3 a4, many_ext a1 a2 a3 a4, show min 6 w = w by omega]
theorem apart_L (h : MR N nc fo ln nb vl) (hB : BR nc fo ln nb vl) {w n : Nat} (hw : w ≤ 6) (hwN : N.1 15 11 = nI w) {sm : Nat → Nat → Nat} {pa : Nat → Nat} (hL : ML N w n sm pa) (hb : BL w n sm pa) {i j : Nat} (hi : i < n) (hj : j < n) {s t : Nat → Nat} (es : ∀ k, k < w → s k = sm i k) (et : ∀ k, k < w → t k = sm j k) (ls : ∀ k, s k < 128) (lt : ∀ k, t k < 128) : ∀ (f k : Nat), k ≤ w → w - k < f → f11_apartOf_15_L11 f (nI i) (nI j) (nI (sum_ s t k)) (nI (most_ s t k)) (nI (many_ s t k)) (nI k) N = some (nI (dist_ (vl 4) w s t))
  | 0, k, hk, hf => by omega
  | f + 1, k, hk, hf => by
    have hv := hB.2.2.2.2.2.2
    rw [f11_apartOf_15_L11]
    dsimp only [cd_lt]
    rw [hwN]
    by_cases q : w ≤ k
    · have hk6 : k = w := by omega
      rw [if_pos (nI_le q (by omega)), if_pos (show cd_in 4 10 = true by decide), if_pos (show cd_in 4 10 = true by decide), show Int32.toNatClampNeg 4 = 4 from rfl, h.2.2.2.2 4 (by decide), hk6]
      unfold dist_
      by_cases e0 : vl 4 = 0
      · rw [e0, if_pos (show nI 0 = 0 from rfl), if_pos rfl]
      · rw [if_neg (nI_ne0 (by omega) (by omega)), if_neg e0]
        by_cases e1 : vl 4 = 1
        · rw [e1, if_pos (show nI 1 = 1 from rfl), if_pos rfl]
        · rw [if_neg (show ¬ nI (vl 4) = 1 from fun z => e1 ((nI_eq (b := 1) (by omega) (by decide)).mp z)), if_neg e1]
    · rw [if_neg (nI_ge (by omega) (by omega)), sample15 hL hb hw hi (by omega), sample15 hL hb hw hj (by omega), ← es k (by omega), ← et k (by omega)]
      simp only [Option.bind_some]
      have g1 := ls k
      have g2 := lt k
      have gl := gp_lt g1 g2
      have ml := most_lt (s := s) (t := t) ls lt k
      have ih := apart_L h hB hw hwN hL hb hi hj es et ls lt f (k + 1) (by omega) (by omega)
      have key : f11_apartOf_15_L50 (f11_apartOf_15_L11 f) (nI i) (nI j) (nI (sum_ s t k)) (nI (most_ s t k)) (nI (many_ s t k)) (nI k) (nI (gp_ (s k) (t k))) N = some (nI (dist_ (vl 4) w s t)) := by
        unfold f11_apartOf_15_L50 f11_apartOf_15_L71 f11_apartOf_15_L85
        dsimp only [cd_lt]
        rw [nI_add, show sum_ s t k + gp_ (s k) (t k) = sum_ s t (k + 1) from rfl, nI_1]
        have em : most_ s t (k + 1) = if most_ s t k < gp_ (s k) (t k) then gp_ (s k) (t k) else most_ s t k := rfl
        have ey : many_ s t (k + 1) = many_ s t k + (if 0 < gp_ (s k) (t k) then 1 else 0) := rfl
        have y0 : nI (many_ s t k) + 0 = nI (many_ s t k) := nI_add _ 0
        by_cases z : gp_ (s k) (t k) = 0
        · have y1 : (if nI (gp_ (s k) (t k)) ≤ 0 then (0 : Nat) else 1) = 0 := by rw [z]; decide
          rw [em, ey, z, if_neg (by omega), if_neg (by decide)] at ih
          rw [z, if_pos (nI_le (by omega) (by omega)), if_pos (show nI 0 ≤ 0 by decide), y0]
          exact ih
        · rw [ey, if_pos (by omega)] at ih
          by_cases v : most_ s t k < gp_ (s k) (t k)
          · rw [em, if_pos v] at ih
            rw [if_neg (nI_ge v (by omega)), if_neg (nI_nle (by omega) (by omega)), nI_1]
            exact ih
          · rw [em, if_neg v] at ih
            rw [if_pos (nI_le (by omega) (by omega)), if_neg (nI_nle (by omega) (by omega)), nI_1]
            exact ih
      by_cases z : 0 ≤ nI (s k) - nI (t k)
      · rw [if_pos z, gp_pos g1 g2 z]; exact key
      · rw [if_neg z, gp_neg g1 g2 z]; exact key
end apB
theorem dist_congr {s t s' t' : Nat → Nat} {m : Nat} : ∀ {w : Nat}, (∀ k, k < w → s k = s' k) → (∀ k, k < w → t k = t' k) → dist_ m w s t = dist_ m w s' t' := by
  intro w hs ht
  have e1 : ∀ k, k ≤ w → sum_ s t k = sum_ s' t' k ∧ most_ s t k = most_ s' t' k ∧ many_ s t k = many_ s' t' k := by
    intro k
    induction k with
    | zero => intro _; exact ⟨rfl, rfl, rfl⟩
    | succ k ih =>
      intro hk
      obtain ⟨i1, i2, i3⟩ := ih (by omega)
      have a := hs k (by omega)
      have b := ht k (by omega)
      refine ⟨?_, ?_, ?_⟩
      · show sum_ s t k + gp_ (s k) (t k) = sum_ s' t' k + gp_ (s' k) (t' k)
        rw [i1, a, b]
      · show (if most_ s t k < gp_ (s k) (t k) then gp_ (s k) (t k) else most_ s t k) = (if most_ s' t' k < gp_ (s' k) (t' k) then gp_ (s' k) (t' k) else most_ s' t' k)
        rw [i2, a, b]
      · show many_ s t k + (if 0 < gp_ (s k) (t k) then 1 else 0) = many_ s' t' k + (if 0 < gp_ (s' k) (t' k) then 1 else 0)
        rw [i3, a, b]
  obtain ⟨i1, i2, i3⟩ := e1 w (Nat.le_refl _)
  unfold dist_
  rw [i1, i2, i3]
theorem apart15 {N : cd_M} {nc fo : Nat} {ln : Nat → Nat} {nb : Nat → Nat → Nat} {vl : Nat → Nat} (h : MR N nc fo ln nb vl) (hB : BR nc fo ln nb vl) {w n : Nat} (hw : w ≤ 6) (hwN : N.1 15 11 = nI w) {sm : Nat → Nat → Nat} {pa : Nat → Nat} (hL : ML N w n sm pa) (hb : BL w n sm pa) {i j : Nat} (hi : i < n) (hj : j < n) : f11_apartOf_15 (nI i) (nI j) N = some (nI (dist_ (vl 4) w (sm i) (sm j))) := by
  have A := apart_L h hB hw hwN hL hb hi hj (s := fun k => if k < w then sm i k else 0) (t := fun k => if k < w then sm j k else 0) (fun k hk => by rw [if_pos hk]) (fun k hk => by rw [if_pos hk])
    (fun k => by
      by_cases q : k < w
      · rw [if_pos q]; have := hb.2.1 i k hi q; omega
      · rw [if_neg q]; decide)
    (fun k => by
      by_cases q : k < w
      · rw [if_pos q]; have := hb.2.1 j k hj q; omega
      · rw [if_neg q]; decide) cd_fu 0 (by omega) (by unfold cd_fu; omega)
  rw [dist_congr (s' := sm i) (t' := sm j) (fun k hk => by rw [if_pos hk]) (fun k hk => by rw [if_pos hk])] at A
  exact A
theorem o_apart : cl_o_apart Rel := by
  intro a1 a2
  refine op1_ (w2 := f11_apart_15_w) (by decide) (fun M => w_f11_apart_15 (by decide) cf_refl) ?_
  intro M N h
  have h' := Rel2_t (v := 0) h
  unfold f10_apart_0 f11_apart_15
  dsimp only [cd_lt]
  generalize cd_wI N 15 0 0 = N0 at h'
  have hk := h'
  obtain ⟨t, b, w, nf, fl, nc, fo, ln, nb, vl, n, sm, pa, u, x, hn, hs, hp, hT, hF, hR, ⟨d1, d2, d3⟩, ⟨e1, e2, e3⟩, -⟩ := h'
  have hw := hF.2.2.1
  have no : ∃ v, some (-1 : Int32) = some v ∧ cw (some ((-1 : Int32), N0)) (fun q => q.1 = v ∧ Rel2 M q.2) := ⟨_, rfl, cw_some.mpr ⟨rfl, hk⟩⟩
  by_cases hi : inr_ a1 n
  · rw [if_neg (fun q => (has7 d1 d3).mp q hi), if_neg (fun q => (isF15 d2 d3).mp q hi)]
    by_cases hj : inr_ a2 n
    · rw [if_neg (fun q => (has7 d1 d3).mp q hj), if_neg (fun q => (isF15 d2 d3).mp q hj)]
      obtain ⟨i, hi, rfl⟩ := hi
      obtain ⟨j, hj, rfl⟩ := hj
      rw [row7 hw d1 d3 hi, row7 hw d1 d3 hj, apart15 hR.2.1 hR.2.2 hw hF.2.1.1 d2 d3 hi hj]
      simp only [Option.bind_some]
      rw [dist6 hR.1 hR.2.2 hw (BL_ok d3 hi) (BL_ok d3 hj)]
      exact ⟨_, rfl, cw_some.mpr ⟨rfl, hk⟩⟩
    · rw [if_pos ((has7 d1 d3).mpr hj), if_pos ((isF15 d2 d3).mpr hj)]
      exact no
  · rw [if_pos ((has7 d1 d3).mpr hi), if_pos ((isF15 d2 d3).mpr hi)]
    exact no
