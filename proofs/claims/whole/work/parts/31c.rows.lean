/-! field codes: samples and parity in one number -/
theorem dg_pd {m k v j : Nat} (hv : v < 128) : dg_ (pd_ m k v) j = if j = k then v else dg_ m j := by
  have pk : 0 < 128 ^ k := Nat.pow_pos (by decide)
  have hl : m % 128 ^ k < 128 ^ k := Nat.mod_lt _ pk
  have e1 : 128 ^ (k + 1) = 128 ^ k * 128 := Nat.pow_succ 128 k
  unfold pd_
  by_cases h : j < k
  · rw [if_neg (by omega), dg_add (by omega), dg_add h]
    have := dg_add (m := m % 128 ^ k) (q := m / 128 ^ k) h
    rw [Nat.mul_comm, Nat.add_comm, Nat.div_add_mod] at this
    exact this.symm
  · by_cases h2 : j = k
    · rw [if_pos h2, h2, dg_add (by omega), dg_top hl, Nat.mod_eq_of_lt hv]
    · rw [if_neg h2]
      have hlow : m % 128 ^ k + v * 128 ^ k < 128 ^ (k + 1) := by
        have : v * 128 ^ k ≤ 127 * 128 ^ k := Nat.mul_le_mul_right _ (by omega)
        omega
      unfold dg_
      have e2 : 128 ^ j = 128 ^ (k + 1) * 128 ^ (j - (k + 1)) := by
        rw [← Nat.pow_add]
        congr 1
        omega
      rw [e2, ← Nat.div_div_eq_div_mul, Nat.add_mul_div_right _ _ (Nat.pow_pos (by decide)), Nat.div_eq_of_lt hlow, Nat.zero_add, Nat.div_div_eq_div_mul]
theorem pd_lt {m k v w : Nat} (hv : v < 128) (hm : m < 128 ^ w) (hk : k < w) : pd_ m k v < 128 ^ w := by
  have pk : 0 < 128 ^ k := Nat.pow_pos (by decide)
  have hl : m % 128 ^ k < 128 ^ k := Nat.mod_lt _ pk
  have e1 : 128 ^ (k + 1) = 128 ^ k * 128 := Nat.pow_succ 128 k
  have hlow : m % 128 ^ k + v * 128 ^ k < 128 ^ (k + 1) := by
    have : v * 128 ^ k ≤ 127 * 128 ^ k := Nat.mul_le_mul_right _ (by omega)
    omega
  have e2 : 128 ^ w = 128 ^ (w - (k + 1)) * 128 ^ (k + 1) := by
    rw [← Nat.pow_add]
    congr 1
    omega
  have hq : m / 128 ^ (k + 1) < 128 ^ (w - (k + 1)) := Nat.div_lt_of_lt_mul (by rw [Nat.mul_comm, ← e2]; exact hm)
  have h3 : (m / 128 ^ (k + 1) + 1) * 128 ^ (k + 1) ≤ 128 ^ (w - (k + 1)) * 128 ^ (k + 1) := Nat.mul_le_mul_right _ hq
  rw [← e2, Nat.add_mul, Nat.one_mul] at h3
  unfold pd_
  omega
/-- samples s below w, parity p -/
def fd_ (s : Nat → Nat) (w p : Nat) : Nat := rw_ s w + p * 128 ^ 6
theorem rw_lt6 {s : Nat → Nat} {w : Nat} (hs : ∀ k, k < w → s k < 128) (hw : w ≤ 6) : rw_ s w < 128 ^ 6 := Nat.lt_of_lt_of_le (rw_lt hs) (Nat.pow_le_pow_right (by decide) hw)
theorem fd_lt {s : Nat → Nat} {w p : Nat} (hs : ∀ k, k < w → s k < 128) (hw : w ≤ 6) (hp : p < 2) : fd_ s w p < 128 ^ 7 := by
  have h := rw_lt6 hs hw
  unfold fd_
  have e : (128 : Nat) ^ 7 = 128 * 128 ^ 6 := by decide
  have : p * 128 ^ 6 ≤ 1 * 128 ^ 6 := Nat.mul_le_mul_right _ (by omega)
  omega
theorem fd_lt63 {s : Nat → Nat} {w p : Nat} (hs : ∀ k, k < w → s k < 128) (hw : w ≤ 6) (hp : p < 2) : fd_ s w p < 2 ^ 63 := Nat.lt_trans (fd_lt hs hw hp) (by decide)
theorem rw_lt63 {s : Nat → Nat} {w : Nat} (hs : ∀ k, k < w → s k < 128) (hw : w ≤ 6) : rw_ s w < 2 ^ 63 := Nat.lt_trans (rw_lt6 hs hw) (by decide)
theorem dg_rwb {s : Nat → Nat} {w k : Nat} (hs : ∀ k, k < w → s k < 128) : dg_ (rw_ s w) k = if k < w then s k else 0 := by
  by_cases h : k < w
  · rw [if_pos h, dg_rw hs h]
  · rw [if_neg h, dg_big (rw_lt hs) (by omega)]
theorem dg_fd {s : Nat → Nat} {w p k : Nat} (hs : ∀ k, k < w → s k < 128) (hw : w ≤ 6) (hp : p < 2) (hk : k < 7) : dg_ (fd_ s w p) k = if k = 6 then p else if k < w then s k else 0 := by
  unfold fd_
  by_cases h : k = 6
  · rw [if_pos h, h, dg_top (rw_lt6 hs hw), Nat.mod_eq_of_lt (by omega)]
  · rw [if_neg h, dg_add (by omega), dg_rwb hs]
theorem fd_congr {s t : Nat → Nat} {w p : Nat} (h : ∀ k, k < w → s k = t k) : fd_ s w p = fd_ t w p := by
  unfold fd_
  rw [rw_congr h]
theorem pd_fd {s : Nat → Nat} {w p k v : Nat} (hs : ∀ k, k < w → s k < 128) (hw : w ≤ 6) (hp : p < 2) (hk : k < w) (hv : v < 128) : pd_ (fd_ s w p) k v = fd_ (fun j => if j = k then v else s j) w p := by
  have hs2 : ∀ j, j < w → (fun j => if j = k then v else s j) j < 128 := by
    intro j hj
    show (if j = k then v else s j) < 128
    by_cases h : j = k
    · rw [if_pos h]; exact hv
    · rw [if_neg h]; exact hs j hj
  refine dg_ext (w := 7) (pd_lt hv (fd_lt hs hw hp) (by omega)) (fd_lt hs2 hw hp) (fun j hj => ?_)
  rw [dg_pd hv, dg_fd hs hw hp hj, dg_fd hs2 hw hp hj]
  by_cases h : j = k
  · rw [if_pos h, if_neg (by omega), if_pos (by omega)]
    show v = if j = k then v else s j
    rw [if_pos h]
  · rw [if_neg h]
    show (if j = 6 then p else if j < w then s j else 0) = if j = 6 then p else if j < w then (if j = k then v else s j) else 0
    rw [if_neg h]
theorem pd_rw {s : Nat → Nat} {w k v : Nat} (hs : ∀ k, k < w → s k < 128) (hw : w ≤ 6) (hk : k < w) (hv : v < 128) : pd_ (rw_ s w) k v = rw_ (fun j => if j = k then v else s j) w := by
  have h := pd_fd (p := 0) hs hw (by omega) hk hv
  unfold fd_ at h
  rw [Nat.zero_mul, Nat.add_zero, Nat.add_zero] at h
  exact h
theorem fd_ext {s t : Nat → Nat} {w p q : Nat} (hs : ∀ k, k < w → s k < 128) (ht : ∀ k, k < w → t k < 128) (hw : w ≤ 6) (hp : p < 2) (hq : q < 2) : fd_ s w p = fd_ t w q ↔ p = q ∧ ∀ k, k < w → s k = t k := by
  constructor
  · intro h
    constructor
    · have h1 := dg_fd (k := 6) hs hw hp (by omega)
      have h2 := dg_fd (k := 6) ht hw hq (by omega)
      rw [h] at h1
      rw [if_pos rfl] at h1 h2
      exact h1.symm.trans h2
    · intro k hk
      have h1 := dg_fd (k := k) hs hw hp (by omega)
      have h2 := dg_fd (k := k) ht hw hq (by omega)
      rw [h] at h1
      rw [if_neg (by omega), if_pos hk] at h1 h2
      rw [← h1, ← h2]
  · rintro ⟨h1, h2⟩
    rw [h1, fd_congr h2]
theorem rw_ext2 {s t : Nat → Nat} {w : Nat} (hs : ∀ k, k < w → s k < 128) (ht : ∀ k, k < w → t k < 128) : rw_ s w = rw_ t w ↔ ∀ k, k < w → s k = t k := ⟨rw_ext hs ht, rw_congr⟩
/-- row and parity out of a field code -/
theorem fd_row {s : Nat → Nat} {w p : Nat} (hs : ∀ k, k < w → s k < 128) (hw : w ≤ 6) (hp : p < 2) : lN (fd_ s w p) &&& (4398046511103 : Int64) = lN (rw_ s w) := by
  have e : (4398046511103 : Int64) = lN (2 ^ 42 - 1) := rfl
  rw [e, wb_mask (Nat.lt_trans (fd_lt63 hs hw hp) (by decide)) (by decide)]
  unfold fd_
  have e2 : (128 : Nat) ^ 6 = 2 ^ 42 := by decide
  rw [e2, Nat.add_mul_mod_self_right, Nat.mod_eq_of_lt (by rw [← e2]; exact rw_lt6 hs hw)]
theorem fd_par {s : Nat → Nat} {w p : Nat} (hs : ∀ k, k < w → s k < 128) (hw : w ≤ 6) (hp : p < 2) : (((lN (fd_ s w p)).toUInt64 >>> ((42 : Int32).toInt64.toUInt64 &&& Int64.toUInt64 63)).toInt64).toInt32 = nI p := by
  have e : (42 : Int32) = nI 42 := rfl
  rw [e, wb_shr (Nat.lt_trans (fd_lt63 hs hw hp) (by decide)) (by decide), lN_i]
  unfold fd_
  have e2 : (128 : Nat) ^ 6 = 2 ^ 42 := by decide
  rw [← e2, Nat.add_mul_div_right _ _ (by decide), Nat.div_eq_of_lt (rw_lt6 hs hw), Nat.zero_add]
/-- a row and a parity into a field code -/
theorem fd_make {s : Nat → Nat} {w p : Nat} (hs : ∀ k, k < w → s k < 128) (hw : w ≤ 6) (hp : p < 2) : lN (rw_ s w) ||| ((nI p).toInt64 <<< ((42 : Int32).toInt64 &&& 63)) = lN (fd_ s w p) := by
  have e : (42 : Int32) = nI 42 := rfl
  rw [e, nI_l (n := p) (by omega), wb_shl _ (by decide)]
  have e2 : (128 : Nat) ^ 6 = 2 ^ 42 := by decide
  have h := fd_lt63 hs hw hp
  unfold fd_ at h ⊢
  rw [e2] at h ⊢
  exact g_or' (k := 42) rfl (by rw [← e2]; exact rw_lt6 hs hw) (Nat.lt_trans h (by decide))
/-! numbers -/
theorem ci_nI {n N : Nat} (h : n < 2 ^ 31) : (cd_in (nI n) N = true) = (n < N) := by
  unfold cd_in
  rw [decide_eq_true_eq, nI_clamp h]
  have := nI_pos h
  simp only [this, false_or, eq_iff_iff]
  omega
/-- in the range below n -/
def inr_ (a : Int32) (n : Nat) : Prop := ∃ j, j < n ∧ a = nI j
theorem inr_iff {a : Int32} {n : Nat} (hn : n < 2 ^ 31) : inr_ a n ↔ 0 ≤ a ∧ a < nI n := by
  constructor
  · rintro ⟨j, hj, rfl⟩
    exact ⟨nI_pos' (by omega), nI_lt hj hn⟩
  · rintro ⟨h0, h1⟩
    rcases pk_ix a hn with h | h | ⟨j, hj, h⟩
    · exact absurd h (Int32.not_lt.mpr h0)
    · exact absurd h1 (Int32.not_lt.mpr h)
    · exact ⟨j, hj, h⟩
theorem has_iff {a b : Int32} {n : Nat} (hb : b = nI n) (hn : n < 2 ^ 31) : ((if a < 0 then (0 : Int32) else (if b ≤ a then 0 else 1)) = 0) ↔ ¬ inr_ a n := by
  rw [inr_iff hn, hb]
  by_cases h : a < 0
  · rw [if_pos h]
    exact ⟨fun _ q => absurd h (Int32.not_lt.mpr q.1), fun _ => rfl⟩
  · rw [if_neg h]
    by_cases h2 : nI n ≤ a
    · rw [if_pos h2]
      exact ⟨fun _ q => absurd q.2 (Int32.not_lt.mpr h2), fun _ => rfl⟩
    · rw [if_neg h2]
      exact ⟨fun q => absurd q (by decide), fun q => absurd ⟨Int32.not_lt.mp h, Int32.not_le.mp h2⟩ q⟩
theorem wi_iff {x y z : Int64} {M : cd_M} : f11_within x y z M = 0 ↔ ¬ (y ≤ x ∧ x ≤ z) := by
  unfold f11_within
  by_cases h : lg_cmp x y < 0
  · rw [if_pos h]
    exact ⟨fun _ q => absurd ((lg_cmp_lt x y).mp h) (Int64.not_lt.mpr q.1), fun _ => rfl⟩
  · rw [if_neg h]
    have h1 : y ≤ x := Int64.not_lt.mp (fun q => h ((lg_cmp_lt x y).mpr q))
    by_cases h2 : 0 < lg_cmp x z
    · rw [if_pos h2]
      exact ⟨fun _ q => absurd ((lg_cmp_gt x z).mp h2) (Int64.not_lt.mpr q.2), fun _ => rfl⟩
    · rw [if_neg h2]
      exact ⟨fun q => absurd q (by decide), fun q => absurd ⟨h1, Int64.not_lt.mp (fun r => h2 ((lg_cmp_gt x z).mpr r))⟩ q⟩
theorem wi_32 {a b c : Int32} {M : cd_M} : f11_within a.toInt64 b.toInt64 c.toInt64 M = 0 ↔ ¬ (b ≤ a ∧ a ≤ c) := by
  rw [wi_iff]
  simp only [Int64.le_iff_toInt_le, Int32.le_iff_toInt_le, Int32.toInt_toInt64]
theorem wi_in {a : Int32} {n : Nat} {M : cd_M} (hn : n < 2 ^ 31) : f11_within a.toInt64 0 (nI n - 1).toInt64 M = 0 ↔ ¬ inr_ a n := by
  have e : (0 : Int64) = (0 : Int32).toInt64 := rfl
  rw [e, wi_32, inr_iff hn]
  apply not_congr
  apply and_congr Iff.rfl
  by_cases h : n = 0
  · subst h
    have h1 : nI 0 - 1 = -1 := rfl
    rw [h1]
    simp only [Int32.le_iff_toInt_le, Int32.lt_iff_toInt_lt]
    show _ ≤ (-1 : Int) ↔ _ < (0 : Int)
    omega
  · obtain ⟨m, rfl⟩ := Nat.exists_eq_succ_of_ne_zero h
    rw [show nI (Nat.succ m) = nI (m + 1) from rfl, nI_pred]
    simp only [Int32.le_iff_toInt_le, Int32.lt_iff_toInt_lt]
    rw [nI_toInt (by omega), nI_toInt (by omega)]
    omega
