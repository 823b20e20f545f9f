/-! noise -/
/-- not by unfolding in the kernel (an if's test would be computed) -/
theorem cd_lt_p {α β : Type} {v : α} {k : α → β} : cd_lt v k = k v := id rfl
theorem bind_p {α β : Type} {v : α} {k : α → Option β} : (some v).bind k = k v := id rfl
def nv_ (s q m : Nat) : Nat := if s + q % (2 * m + 1) < m then 0 else if 99 < s + q % (2 * m + 1) - m then 99 else s + q % (2 * m + 1) - m
theorem nv_le {s q m : Nat} : nv_ s q m ≤ 99 := by
  unfold nv_
  by_cases h : s + q % (2 * m + 1) < m
  · rw [if_pos h]; decide
  · rw [if_neg h]
    by_cases h2 : 99 < s + q % (2 * m + 1) - m
    · rw [if_pos h2]; exact Nat.le_refl _
    · rw [if_neg h2]; omega
/-- one sample disturbed -/
def nst_ (nx : Int32 → Int32) (m i k : Nat) (σ : (Nat → Nat → Nat) × Int32 × Nat) : (Nat → Nat → Nat) × Int32 × Nat := (sp_ σ.1 i k (nv_ (σ.1 i k) ((nx σ.2.1).toBitVec.toNat / 256) m), nx σ.2.1, σ.2.2 + (if nv_ (σ.1 i k) ((nx σ.2.1).toBitVec.toNat / 256) m = σ.1 i k then 0 else 1))
def ni_ (nx : Int32 → Int32) (m i : Nat) : Nat → Nat → (Nat → Nat → Nat) × Int32 × Nat → (Nat → Nat → Nat) × Int32 × Nat
  | 0, _, σ => σ
  | r + 1, k, σ => ni_ nx m i r (k + 1) (nst_ nx m i k σ)
def nr_ (nx : Int32 → Int32) (m w : Nat) : Nat → Nat → (Nat → Nat → Nat) × Int32 × Nat → (Nat → Nat → Nat) × Int32 × Nat
  | 0, _, σ => σ
  | r + 1, i, σ => nr_ nx m w r (i + 1) (ni_ nx m i w 0 σ)
theorem nq_ (x : Int32) {m : Nat} (hm : m ≤ 9) : ((x.toUInt32 >>> ((8 : Int32).toUInt32 &&& Int32.toUInt32 31)).toInt32) - ((x.toUInt32 >>> ((8 : Int32).toUInt32 &&& Int32.toUInt32 31)).toInt32) / nI (2 * m + 1) * nI (2 * m + 1) = nI (x.toBitVec.toNat / 256 % (2 * m + 1)) := by
  obtain ⟨X, hX, rfl⟩ := wb_of32 x
  rw [pk_ushrN hX 8 8 (by decide), pk_tn hX, show (2 : Nat) ^ 8 = 256 from rfl, pk_rem (by omega) (by omega) (by omega)]
section nzA
variable {M N : cd_M} {w n : Nat} {pa : Nat → Nat}
theorem dst_L35 {nx : Int32 → Int32} (hnx : ∀ x, 1664525 * x + 1013904223 = nx x) {m i : Nat} (hm1 : 1 ≤ m) (hm : m ≤ 9) (hw : w ≤ 6) (hi : i < n) {r23 : Int32 → Int32 → Int32 → Int32 → Int32 → Int32 → cd_M → Option (Int32 × cd_M)} {Q : Int32 × cd_M → Prop} : ∀ (r f k : Nat) (σ : (Nat → Nat → Nat) × Int32 × Nat) (M : cd_M), k + r = w → r < f → CL M w n σ.1 pa → BL w n σ.1 pa →
    (∀ M1 : cd_M, CL M1 w n (ni_ nx m i r k σ).1 pa → BL w n (ni_ nx m i r k σ).1 pa → cw (r23 (nI m) (nI w) (nI (2 * m + 1)) (ni_ nx m i r k σ).2.1 (nI (ni_ nx m i r k σ).2.2) (nI (i + 1)) M1) Q) → cw (f4_disturb_7_L35 r23 f (nI m) (nI w) (nI (2 * m + 1)) σ.2.1 (nI σ.2.2) (nI i) (nI k) M) Q := by
  intro r
  induction r with
  | zero =>
    intro f k σ M hk hf hL hb H
    obtain ⟨f, rfl⟩ := Nat.exists_eq_succ_of_ne_zero (show f ≠ 0 by omega)
    rw [f4_disturb_7_L35, if_pos (nI_le (by omega) (by omega))]
    dsimp only [cd_lt]
    rw [nI_1]
    exact H M hL hb
  | succ r ih =>
    intro f k σ M hk hf hL hb H
    obtain ⟨f, rfl⟩ := Nat.exists_eq_succ_of_ne_zero (show f ≠ 0 by omega)
    rw [f4_disturb_7_L35, if_neg (nI_ge (by omega) (by omega))]
    dsimp only [cd_lt]
    rw [sample7 hw hL hb hi (by omega)]
    rw [Option.bind_some]
    rw [if_neg (nI_ne0 (by omega) (by omega))]
    simp only [cw_bind]
    have hs := hb.2.1 i k hi (by omega)
    show cw (f4_putSample_7 _ _ _ M) _
    have ex := hnx σ.2.1
    rw [ex, nq_ _ hm, nI_add]
    generalize hq : (nx σ.2.1).toBitVec.toNat / 256 = q
    have hr := Nat.mod_lt q (show 0 < 2 * m + 1 by omega)
    have ev : (if 0 < (if nI (σ.1 i k + q % (2 * m + 1)) - nI m < 99 then nI (σ.1 i k + q % (2 * m + 1)) - nI m else 99) then (if nI (σ.1 i k + q % (2 * m + 1)) - nI m < 99 then nI (σ.1 i k + q % (2 * m + 1)) - nI m else 99) else 0) = nI (nv_ (σ.1 i k) q m) := by
      unfold nv_
      by_cases c1 : σ.1 i k + q % (2 * m + 1) < m
      · have ng := pk_sneg (a := σ.1 i k + q % (2 * m + 1)) (b := m) (by omega) c1
        have ng2 : nI (σ.1 i k + q % (2 * m + 1)) - nI m < 99 := by
          rw [Int32.lt_iff_toInt_lt] at ng ⊢
          have : (0 : Int32).toInt = 0 := rfl
          have : (99 : Int32).toInt = 99 := rfl
          omega
        rw [if_pos c1, if_pos ng2, if_neg (fun z => absurd ng (Int32.not_lt.mpr (Int32.le_of_lt z)))]
        rfl
      · rw [if_neg c1, pk_sub (by omega)]
        have ha : σ.1 i k + q % (2 * m + 1) - m < 1000 := by omega
        generalize σ.1 i k + q % (2 * m + 1) - m = a at *
        by_cases c2 : 99 < a
        · rw [if_pos c2, if_neg (show ¬ nI a < 99 from nI_nlt (b := 99) (by omega) (by omega)), if_pos (by decide)]
          rfl
        · rw [if_neg c2]
          by_cases c3 : a = 99
          · rw [c3]; rfl
          · rw [if_pos (show nI a < 99 from nI_lt (b := 99) (by omega) (by omega))]
            by_cases c4 : a = 0
            · rw [c4]; rfl
            · rw [if_pos (show (0 : Int32) < nI a from nI_lt (a := 0) (by omega) (by omega))]
    rw [ev]
    refine cw_mono (put7 hw hL hb hi (by omega) (v := nv_ (σ.1 i k) q m) nv_le) (fun M1 h1 => ?_)
    have hb1 : BL w n (sp_ σ.1 i k (nv_ (σ.1 i k) q m)) pa := BL_sp hb nv_le
    have hv := nv_le (s := σ.1 i k) (q := q) (m := m)
    have es : nst_ nx m i k σ = (sp_ σ.1 i k (nv_ (σ.1 i k) q m), nx σ.2.1, σ.2.2 + (if nv_ (σ.1 i k) q m = σ.1 i k then 0 else 1)) := by unfold nst_; rw [hq]
    unfold f4_disturb_7_L113
    dsimp only [cd_lt]
    rw [nI_1]
    have H2 : ∀ M1 : cd_M, CL M1 w n (ni_ nx m i r (k + 1) (nst_ nx m i k σ)).1 pa → BL w n (ni_ nx m i r (k + 1) (nst_ nx m i k σ)).1 pa → cw (r23 (nI m) (nI w) (nI (2 * m + 1)) (ni_ nx m i r (k + 1) (nst_ nx m i k σ)).2.1 (nI (ni_ nx m i r (k + 1) (nst_ nx m i k σ)).2.2) (nI (i + 1)) M1) Q := H
    rw [es] at H2
    by_cases c : nv_ (σ.1 i k) q m = σ.1 i k
    · rw [if_pos (by rw [c])]
      rw [if_pos c] at H2
      rw [show nI σ.2.2 + 0 = nI (σ.2.2 + 0) from nI_add _ 0]
      exact ih f (k + 1) (sp_ σ.1 i k (nv_ (σ.1 i k) q m), nx σ.2.1, σ.2.2 + 0) M1 (by omega) (by omega) h1 hb1 H2
    · rw [if_neg (fun z => c ((nI_eq (by omega) (by omega)).mp z)), nI_1]
      rw [if_neg c] at H2
      exact ih f (k + 1) (sp_ σ.1 i k (nv_ (σ.1 i k) q m), nx σ.2.1, σ.2.2 + 1) M1 (by omega) (by omega) h1 hb1 H2
theorem dst_L23 {nx : Int32 → Int32} (hnx : ∀ x, 1664525 * x + 1013904223 = nx x) {m : Nat} (hm1 : 1 ≤ m) (hm : m ≤ 9) (hw : w ≤ 6) : ∀ (r f i : Nat) (σ : (Nat → Nat → Nat) × Int32 × Nat) (M : cd_M), i + r = n → r < f → CL M w n σ.1 pa → BL w n σ.1 pa → cw (f4_disturb_7_L23 f (nI m) (nI w) (nI (2 * m + 1)) σ.2.1 (nI σ.2.2) (nI i) M) (fun v => v.1 = nI (nr_ nx m w r i σ).2.2 ∧ CL v.2 w n (nr_ nx m w r i σ).1 pa ∧ BL w n (nr_ nx m w r i σ).1 pa)
  | r, 0, i, σ, M, hk, hf, hL, hb => by omega
  | 0, f + 1, i, σ, M, hk, hf, hL, hb => by
    have h9 := hb.1
    rw [f4_disturb_7_L23, hL.1, if_pos (nI_le (by omega) (by omega))]
    exact cw_some.mpr ⟨rfl, hL, hb⟩
  | r + 1, f + 1, i, σ, M, hk, hf, hL, hb => by
    have h9 := hb.1
    rw [f4_disturb_7_L23, hL.1, if_neg (nI_ge (by omega) (by omega))]
    refine dst_L35 hnx hm1 hm hw (i := i) (by omega) w cd_fu 0 σ M (by omega) (by unfold cd_fu; omega) hL hb (fun M1 h1 b1 => ?_)
    exact dst_L23 hnx hm1 hm hw r f (i + 1) (ni_ nx m i w 0 σ) M1 (by omega) (by omega) h1 b1
theorem noi_L117 {m i k v f c : Nat} {x s0 : Int32} {sm : Nat → Nat → Nat} (hw : w ≤ 6) (hi : i < n) (hk : k < w) {r38 : Int32 → Int32 → Int32 → Int32 → cd_M → Option (Int32 × cd_M)} {Q : Int32 × cd_M → Prop} (hN : N.1 15 11 = nI w) (hL : ML N w n sm pa) (hb : BL w n sm pa) (hv : v ≤ 99) (h0 : s0 = nI v)
    (H : ∀ (c' : Nat) (N1 : cd_M), c' = c + (if v = sm i k then 0 else 1) → N1.1 15 11 = nI w → ML N1 w n (sp_ sm i k v) pa → BL w n (sp_ sm i k v) pa → cw (f11_noise_15_L50 r38 f (nI m) x (nI c') (nI i) (nI (k + 1)) N1) Q) : cw (f11_noise_15_L117 r38 (f11_noise_15_L50 r38 f) (nI m) x (nI c) (nI i) (nI k) (nI (sm i k)) s0 N) Q := by
  subst h0
  have h9 := hb.1
  have hs := hb.2.1 i k hi hk
  have e : (7 : Int32) * nI i + nI k = nI (7 * i + k) := by rw [show (7 : Int32) = nI 7 from rfl, pk_mul, nI_add]
  unfold f11_noise_15_L117 f11_noise_15_L148
  dsimp only [cd_lt]
  rw [e, if_pos (by rw [ci_nI (by omega)]; omega), nI_clamp (by omega), nI_1]
  have m1 := put15 hL hb hw hi (k := k) (v := v) hk
  have hb1 : BL w n (sp_ sm i k v) pa := BL_sp hb hv
  have hN1 : (cd_wI N 64 (7 * i + k) (nI v)).1 15 11 = nI w := by rw [cd_wI_at, if_neg (by omega)]; exact hN
  by_cases z : v = sm i k
  · rw [if_pos (by rw [z])]
    have := H (c + 0) _ (by rw [if_pos z]) hN1 m1 hb1
    rw [show nI c + 0 = nI (c + 0) from nI_add _ 0]
    exact this
  · rw [if_neg (fun y => z ((nI_eq (by omega) (by omega)).mp y)), nI_1]
    exact H (c + 1) _ (by rw [if_neg z]) hN1 m1 hb1
theorem noi_L50 {nx : Int32 → Int32} (hnx : ∀ x, 1664525 * x + 1013904223 = nx x) {m i : Nat} (hm1 : 1 ≤ m) (hm : m ≤ 9) (hw : w ≤ 6) (hi : i < n) {r38 : Int32 → Int32 → Int32 → Int32 → cd_M → Option (Int32 × cd_M)} {Q : Int32 × cd_M → Prop} : ∀ (r f k : Nat) (σ : (Nat → Nat → Nat) × Int32 × Nat) (N : cd_M), k + r = w → r < f → N.1 15 11 = nI w → ML N w n σ.1 pa → BL w n σ.1 pa →
    (∀ N1 : cd_M, N1.1 15 11 = nI w → ML N1 w n (ni_ nx m i r k σ).1 pa → BL w n (ni_ nx m i r k σ).1 pa → cw (r38 (nI m) (ni_ nx m i r k σ).2.1 (nI (ni_ nx m i r k σ).2.2) (nI (i + 1)) N1) Q) → cw (f11_noise_15_L50 r38 f (nI m) σ.2.1 (nI σ.2.2) (nI i) (nI k) N) Q := by
  intro r
  induction r with
  | zero =>
    intro f k σ N hk hf hN hL hb H
    obtain ⟨f, rfl⟩ := Nat.exists_eq_succ_of_ne_zero (show f ≠ 0 by omega)
    rw [f11_noise_15_L50, hN, if_pos (nI_le (by omega) (by omega))]
    simp only [cd_lt_p]
    rw [nI_1]
    exact H N hN hL hb
  | succ r ih =>
    intro f k σ N hk hf hN hL hb H
    obtain ⟨f, rfl⟩ := Nat.exists_eq_succ_of_ne_zero (show f ≠ 0 by omega)
    have h9 := hb.1
    have e21 : (2 : Int32) * nI m + 1 = nI (2 * m + 1) := by rw [show (2 : Int32) = nI 2 from rfl, pk_mul, nI_1]
    rw [f11_noise_15_L50, hN, if_neg (nI_ge (by omega) (by omega))]
    simp only [cd_lt_p]
    rw [sample15 hL hb hw hi (by omega), e21]
    simp only [bind_p]
    rw [if_neg (nI_ne0 (by omega) (by omega))]
    have hs := hb.2.1 i k hi (by omega)
    have ex := hnx σ.2.1
    rw [ex, nq_ _ hm, nI_add]
    have H2 : ∀ N1 : cd_M, N1.1 15 11 = nI w → ML N1 w n (ni_ nx m i r (k + 1) (nst_ nx m i k σ)).1 pa → BL w n (ni_ nx m i r (k + 1) (nst_ nx m i k σ)).1 pa → cw (r38 (nI m) (ni_ nx m i r (k + 1) (nst_ nx m i k σ)).2.1 (nI (ni_ nx m i r (k + 1) (nst_ nx m i k σ)).2.2) (nI (i + 1)) N1) Q := H
    generalize hq : (nx σ.2.1).toBitVec.toNat / 256 = q
    have es : nst_ nx m i k σ = (sp_ σ.1 i k (nv_ (σ.1 i k) q m), nx σ.2.1, σ.2.2 + (if nv_ (σ.1 i k) q m = σ.1 i k then 0 else 1)) := by unfold nst_; rw [hq]
    rw [es] at H2
    have hr := Nat.mod_lt q (show 0 < 2 * m + 1 by omega)
    have hv := nv_le (s := σ.1 i k) (q := q) (m := m)
    have key := fun (s0 : Int32) (h0 : s0 = nI (nv_ (σ.1 i k) q m)) => noi_L117 (r38 := r38) (f := f) (m := m) (x := nx σ.2.1) (c := σ.2.2) hw hi (k := k) (by omega) hN hL hb hv h0 (fun c' N1 hc hN1 m1 hb1 => ih f (k + 1) (sp_ σ.1 i k (nv_ (σ.1 i k) q m), nx σ.2.1, c') N1 (by omega) (by omega) hN1 m1 hb1 (by rw [hc]; exact H2))
    by_cases c1 : σ.1 i k + q % (2 * m + 1) < m
    · have ng := pk_sneg (a := σ.1 i k + q % (2 * m + 1)) (b := m) (by omega) c1
      rw [if_neg (fun z => absurd ng (Int32.not_lt.mpr z))]
      exact key 0 (by unfold nv_; rw [if_pos c1]; rfl)
    · rw [pk_sub (by omega), if_pos (nI_pos' (by omega))]
      by_cases c2 : 99 < σ.1 i k + q % (2 * m + 1) - m
      · rw [if_neg (show ¬ nI (σ.1 i k + q % (2 * m + 1) - m) ≤ 99 from nI_ge (a := 99) c2 (by omega))]
        exact key 99 (by unfold nv_; rw [if_neg c1, if_pos c2]; rfl)
      · rw [if_pos (show nI (σ.1 i k + q % (2 * m + 1) - m) ≤ 99 from nI_le (b := 99) (by omega) (by omega))]
        exact key _ (by unfold nv_; rw [if_neg c1, if_neg c2])
theorem noi_L38 {nx : Int32 → Int32} (hnx : ∀ x, 1664525 * x + 1013904223 = nx x) {m : Nat} (hm1 : 1 ≤ m) (hm : m ≤ 9) (hw : w ≤ 6) : ∀ (r f i : Nat) (σ : (Nat → Nat → Nat) × Int32 × Nat) (N : cd_M), i + r = n → r < f → N.1 15 11 = nI w → ML N w n σ.1 pa → BL w n σ.1 pa → cw (f11_noise_15_L38 f (nI m) σ.2.1 (nI σ.2.2) (nI i) N) (fun v => v.1 = nI (nr_ nx m w r i σ).2.2 ∧ ML v.2 w n (nr_ nx m w r i σ).1 pa)
  | r, 0, i, σ, N, hk, hf, hN, hL, hb => by omega
  | 0, f + 1, i, σ, N, hk, hf, hN, hL, hb => by
    have h9 := hb.1
    rw [f11_noise_15_L38, hL.1, if_pos (nI_le (by omega) (by omega))]
    exact cw_some.mpr ⟨rfl, hL⟩
  | r + 1, f + 1, i, σ, N, hk, hf, hN, hL, hb => by
    have h9 := hb.1
    rw [f11_noise_15_L38, hL.1, if_neg (nI_ge (by omega) (by omega))]
    refine noi_L50 hnx hm1 hm hw (i := i) (by omega) w cd_fu 0 σ N (by omega) (by unfold cd_fu; omega) hN hL hb (fun N1 hN1 h1 b1 => ?_)
    exact noi_L38 hnx hm1 hm hw r f (i + 1) (ni_ nx m i w 0 σ) N1 (by omega) (by omega) hN1 h1 b1
end nzA
theorem o_noise : cl_o_noise Rel := by
  intro a1 a2
  obtain ⟨nx, hnx⟩ : ∃ nx : Int32 → Int32, ∀ x, 1664525 * x + 1013904223 = nx x := ⟨fun x => 1664525 * x + 1013904223, fun x => rfl⟩
  refine op2_ (w1 := f10_noise_0_w) (w2 := f11_noise_15_w) (by decide) (by decide) (fun M => w_f10_noise_0 (by decide) cf_refl) (fun M => w_f11_noise_15 (by decide) cf_refl) ?_
  intro M N h
  have h' := Rel2_t (v := 0) h
  unfold f10_noise_0 f11_noise_15
  dsimp only [cd_lt]
  generalize cd_wI N 15 0 0 = N0 at h'
  have hk := h'
  obtain ⟨t, b, w, nf, fl, nc, fo, ln, nb, vl, n, sm, pa, u, x, hn, hs, hp, hT, hF, hR, ⟨d1, d2, d3⟩, ⟨e1, e2, e3⟩, -⟩ := h'
  have hw := hF.2.2.1
  have h9 := d3.1
  have no : ∃ v, cw (some ((-1 : Int32), M)) (fun r => r.1 = v ∧ cw (some ((-1 : Int32), N0)) (fun q => q.1 = v ∧ Rel2 r.2 q.2)) := ⟨_, cw_some.mpr ⟨rfl, cw_some.mpr ⟨rfl, hk⟩⟩⟩
  unfold f4_size_7
  rw [d1.1, d2.1]
  have wi : f11_within a2.toInt64 1 9 N0 = 0 ↔ ¬ ((1 : Int32) ≤ a2 ∧ a2 ≤ 9) := wi_32 (b := 1) (c := 9)
  by_cases hc : (1 : Int32) ≤ a2 ∧ a2 ≤ 9
  · rw [if_neg (show ¬ a2 < 1 from Int32.not_lt.mpr hc.1), if_pos hc.2, if_neg (fun q => wi.mp q hc)]
    have h0 : ¬ a2 < 0 := by
      have := hc.1
      rw [Int32.le_iff_toInt_le] at this
      rw [Int32.lt_iff_toInt_lt]
      have : (0 : Int32).toInt = 0 := rfl
      have : (1 : Int32).toInt = 1 := rfl
      omega
    obtain ⟨m, hm, rfl⟩ := nI_of h0
    have hm1 : 1 ≤ m := (nI_leI (a := 1) (by decide) hm).mp hc.1
    have hm9 : m ≤ 9 := (nI_leI (b := 9) hm (by decide)).mp hc.2
    by_cases q : n = 0
    · subst q
      rw [if_pos (show nI 0 = 0 from rfl), if_pos (show nI 0 = 0 from rfl)]
      exact no
    · rw [if_neg (nI_ne0 (by omega) (by omega)), if_neg (nI_ne0 (by omega) (by omega))]
      refine ⟨nI (nr_ nx m w n 0 (sm, a1, 0)).2.2, ?_⟩
      simp only [cw_bind]
      refine cw_mono (begin0 d1 d3 e1 e3) (fun M1 h1 => ?_)
      obtain ⟨⟨k1, k2, k3⟩, kf1⟩ := h1
      have cF := CF_f kf1 (by decide) hF.1
      unfold f1_width_5
      rw [cF.1]
      unfold f4_disturb_7
      dsimp only [cd_lt]
      have e21 : (2 : Int32) * nI m + 1 = nI (2 * m + 1) := by rw [show (2 : Int32) = nI 2 from rfl, pk_mul, nI_1]
      rw [e21, if_pos (show (0 : Int32) < nI (2 * m + 1) from nI_lt (a := 0) (by omega) (by omega))]
      refine cw_mono (cw_cp (dst_L23 hnx hm1 hm9 hw n cd_fu 0 (sm, a1, 0) M1 (by omega) (by unfold cd_fu; omega) k1 d3) (w_f4_disturb_7_L23 (ws := f4_disturb_7_L23_w) (by decide) _ _ _ _ _ _ _ _ cf_refl)) (fun r2 h2 => ?_)
      obtain ⟨⟨q1, k4, bL⟩, kf2⟩ := h2
      refine cw_some.mpr ⟨q1, ?_⟩
      refine cw_mono (keeps15 hw d2 d3 e2 e3) (fun N1 g1 => ?_)
      obtain ⟨⟨m1, m2⟩, mf1⟩ := g1
      have mF := MF_f mf1 (by decide) hF.2.1
      refine cw_mono (cw_cp (noi_L38 hnx hm1 hm9 hw n cd_fu 0 (sm, a1, 0) N1 (by omega) (by unfold cd_fu; omega) mF.1 m1 d3) (w_f11_noise_15_L38 (ws := f11_noise_15_L38_w) (by decide) _ _ _ _ _ _ cf_refl)) (fun r3 h3 => ?_)
      obtain ⟨⟨q2, m4⟩, mf2⟩ := h3
      refine ⟨q2, ?_⟩
      have z2 : cf_ (f11_noise_15_L38_w ++ f11_keeps_15_w) N0 r3.2 := cf_trans (cf_le (by decide) mf1) (cf_le (by decide) mf2)
      have z1 : cf_ (f4_disturb_7_L23_w ++ f10_beginAct_0_w) M r2.2 := cf_trans (cf_le (by decide) kf1) (cf_le (by decide) kf2)
      exact Rel_act hT hF hR z1 z2 (by decide) ⟨k4, m4, bL⟩ ⟨CH_f kf2 (by decide) k2, MH_f mf2 (by decide) m2, BH_push d3 e3⟩ ⟨(kf2 0 11 (by decide)).1.trans k3.1, fun c hc => ((kf2 35 c (na_cov (by decide) c)).1).trans (k3.2 c hc)⟩
  · rw [if_pos (wi.mpr hc)]
    by_cases q : nI n = 0
    · rw [if_pos q]; exact no
    · rw [if_neg q]
      by_cases q1 : a2 < 1
      · rw [if_pos q1]; exact no
      · rw [if_neg q1, if_neg (fun z => hc ⟨Int32.not_lt.mp q1, z⟩)]; exact no
