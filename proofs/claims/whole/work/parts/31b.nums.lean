/-! numbers: rows of samples as one number -/
/-- samples below place w as one number, seven bits each -/
def rw_ (s : Nat → Nat) : Nat → Nat
  | 0 => 0
  | w + 1 => rw_ s w + s w * 128 ^ w
theorem rw_lt {s : Nat → Nat} : ∀ {w : Nat}, (∀ k, k < w → s k < 128) → rw_ s w < 128 ^ w
  | 0, _ => Nat.one_pos
  | w + 1, h => by
    have h1 := rw_lt (s := s) (w := w) (fun k hk => h k (by omega))
    have h2 := h w (by omega)
    show rw_ s w + s w * 128 ^ w < 128 ^ (w + 1)
    have e : 128 ^ (w + 1) = 128 * 128 ^ w := by rw [Nat.pow_succ, Nat.mul_comm]
    have h3 : s w * 128 ^ w ≤ 127 * 128 ^ w := Nat.mul_le_mul_right _ (by omega)
    omega
theorem rw_congr {s t : Nat → Nat} : ∀ {w : Nat}, (∀ k, k < w → s k = t k) → rw_ s w = rw_ t w
  | 0, _ => rfl
  | w + 1, h => by
    show rw_ s w + s w * 128 ^ w = rw_ t w + t w * 128 ^ w
    rw [rw_congr (fun k hk => h k (by omega)), h w (by omega)]
/-- the digit k of m -/
def dg_ (m k : Nat) : Nat := m / 128 ^ k % 128
theorem dg_lt (m k : Nat) : dg_ m k < 128 := Nat.mod_lt _ (by decide)
theorem dg_add {m k w q : Nat} (hk : k < w) : dg_ (m + q * 128 ^ w) k = dg_ m k := by
  unfold dg_
  have e : q * 128 ^ w = (q * 128 ^ (w - k - 1)) * 128 * 128 ^ k := by
    rw [Nat.mul_assoc, Nat.mul_assoc, Nat.mul_comm 128, ← Nat.pow_succ, ← Nat.pow_add]
    congr 2
    omega
  rw [e, Nat.add_mul_div_right _ _ (Nat.pow_pos (by decide)), Nat.add_mul_mod_self_right]
theorem dg_top {m w q : Nat} (hm : m < 128 ^ w) : dg_ (m + q * 128 ^ w) w = q % 128 := by
  unfold dg_
  rw [Nat.add_mul_div_right _ _ (Nat.pow_pos (by decide)), Nat.div_eq_of_lt hm, Nat.zero_add]
theorem dg_big {m w k : Nat} (hm : m < 128 ^ w) (h : w ≤ k) : dg_ m k = 0 := by
  unfold dg_
  rw [Nat.div_eq_of_lt (Nat.lt_of_lt_of_le hm (Nat.pow_le_pow_right (by decide) h))]
theorem dg_rw {s : Nat → Nat} {k : Nat} : ∀ {w : Nat}, (∀ k, k < w → s k < 128) → k < w → dg_ (rw_ s w) k = s k
  | 0, _, h => by omega
  | w + 1, h, hk => by
    have hl := rw_lt (s := s) (w := w) (fun k hk => h k (by omega))
    show dg_ (rw_ s w + s w * 128 ^ w) k = s k
    by_cases e : k = w
    · rw [e, dg_top hl, Nat.mod_eq_of_lt (h w (by omega))]
    · rw [dg_add (by omega), dg_rw (fun k hk => h k (by omega)) (by omega)]
/-- digits decide -/
theorem dg_ext {m n : Nat} : ∀ {w : Nat}, m < 128 ^ w → n < 128 ^ w → (∀ k, k < w → dg_ m k = dg_ n k) → m = n
  | 0, hm, hn, _ => by have := hm; have := hn; simp only [Nat.pow_zero] at *; omega
  | w + 1, hm, hn, h => by
    have pw : 0 < 128 ^ w := Nat.pow_pos (by decide)
    have e1 : 128 ^ (w + 1) = 128 ^ w * 128 := Nat.pow_succ 128 w
    have a1 := Nat.div_add_mod m (128 ^ w)
    have a2 := Nat.div_add_mod n (128 ^ w)
    have q1 : m / 128 ^ w < 128 := Nat.div_lt_of_lt_mul (by rw [← e1]; exact hm)
    have q2 : n / 128 ^ w < 128 := Nat.div_lt_of_lt_mul (by rw [← e1]; exact hn)
    have t : m / 128 ^ w = n / 128 ^ w := by
      have := h w (by omega)
      unfold dg_ at this
      rwa [Nat.mod_eq_of_lt q1, Nat.mod_eq_of_lt q2] at this
    have r : m % 128 ^ w = n % 128 ^ w := by
      refine dg_ext (w := w) (Nat.mod_lt _ pw) (Nat.mod_lt _ pw) (fun k hk => ?_)
      have x1 := dg_add (m := m % 128 ^ w) (q := m / 128 ^ w) hk
      have x2 := dg_add (m := n % 128 ^ w) (q := n / 128 ^ w) hk
      rw [Nat.mul_comm, Nat.add_comm, a1] at x1
      rw [Nat.mul_comm, Nat.add_comm, a2] at x2
      rw [← x1, ← x2]
      exact h k (by omega)
    rw [← a1, ← a2, t, r]
theorem rw_ext {s t : Nat → Nat} {w : Nat} (hs : ∀ k, k < w → s k < 128) (ht : ∀ k, k < w → t k < 128) (h : rw_ s w = rw_ t w) : ∀ k, k < w → s k = t k := by
  intro k hk
  rw [← dg_rw hs hk, ← dg_rw ht hk, h]
theorem p128 (k : Nat) : 128 ^ k = 2 ^ (7 * k) := by rw [Nat.pow_mul]
/-- what sampleOf gives -/
theorem sm_of {m k : Nat} (hm : m < 2 ^ 63) (hk : k < 9) (M : cd_M) : f10_sampleOf (lN m) (nI k) M = nI (dg_ m k) := by
  unfold f10_sampleOf
  have e : (7 : Int32) * nI k = nI (7 * k) := pk_mul 7 k
  rw [e, wb_shr (by omega) (by omega)]
  have e2 : (127 : Int64) = lN (2 ^ 7 - 1) := rfl
  have hd : m / 2 ^ (7 * k) < 2 ^ 64 := Nat.lt_of_le_of_lt (Nat.div_le_self _ _) (by omega)
  rw [e2, wb_mask hd (by omega), lN_i]
  unfold dg_
  rw [p128]
/-- the number with digit k put anew -/
def pd_ (m k v : Nat) : Nat := m % 128 ^ k + v * 128 ^ k + m / 128 ^ (k + 1) * 128 ^ (k + 1)
theorem pd_nat {m k v : Nat} (hv : v < 128) (hm : m < 2 ^ 63) (hk : k < 9) : (m &&& (2 ^ 64 - 1 - 127 * 2 ^ (7 * k))) ||| (v * 2 ^ (7 * k)) = pd_ m k v := by
  have hmask : ∀ i, (2 ^ 64 - 1 - 127 * 2 ^ (7 * k)).testBit i = (decide (i < 64) && !(decide (7 * k ≤ i) && decide (i < 7 * k + 7))) := by
    intro i
    have e : 2 ^ 64 - 1 - 127 * 2 ^ (7 * k) = 2 ^ 64 - (127 * 2 ^ (7 * k) + 1) := by omega
    have hb : 127 * 2 ^ (7 * k) < 2 ^ 64 := by
      have : 2 ^ (7 * k) ≤ 2 ^ 56 := Nat.pow_le_pow_right (by decide) (by omega)
      omega
    rw [e, Nat.testBit_two_pow_sub_succ hb]
    congr 1
    have e7 : 127 * 2 ^ (7 * k) = 2 ^ (7 * k) * (2 ^ 7 - 1) := by rw [Nat.mul_comm]
    rw [e7, Nat.testBit_two_pow_mul, Nat.testBit_two_pow_sub_one]
    by_cases h : 7 * k ≤ i
    · simp only [h, decide_true, Bool.true_and, ge_iff_le]
      congr 2
      simp only [eq_iff_iff]
      omega
    · simp [h]
  apply Nat.eq_of_testBit_eq
  intro i
  rw [Nat.testBit_or, Nat.testBit_and, hmask]
  have ev : v * 2 ^ (7 * k) = 2 ^ (7 * k) * v := Nat.mul_comm _ _
  rw [ev, Nat.testBit_two_pow_mul]
  unfold pd_
  have e1 : 128 ^ k = 2 ^ (7 * k) := p128 k
  have e2 : 128 ^ (k + 1) = 2 ^ (7 * k + 7) := by rw [p128]; rfl
  rw [e1, e2]
  have hlow : m % 2 ^ (7 * k) + v * 2 ^ (7 * k) < 2 ^ (7 * k + 7) := by
    have h1 := Nat.mod_lt m (y := 2 ^ (7 * k)) (Nat.pow_pos (by decide))
    have h2 : 2 ^ (7 * k + 7) = 2 ^ (7 * k) * 128 := by rw [Nat.pow_add]
    have h3 : v * 2 ^ (7 * k) ≤ 127 * 2 ^ (7 * k) := Nat.mul_le_mul_right _ (by omega)
    omega
  rw [Nat.add_comm (m % 2 ^ (7 * k) + v * 2 ^ (7 * k)), Nat.mul_comm (m / 2 ^ (7 * k + 7)), Nat.testBit_two_pow_mul_add _ hlow]
  rw [Nat.add_comm (m % 2 ^ (7 * k)), Nat.mul_comm v, Nat.testBit_two_pow_mul_add _ (Nat.mod_lt m (Nat.pow_pos (by decide)))]
  by_cases h1 : i < 7 * k
  · have h2 : i < 7 * k + 7 := by omega
    rw [if_pos h2, if_pos h1, Nat.testBit_mod_two_pow]
    have hi : i < 64 := by omega
    have h3 : ¬ 7 * k ≤ i := by omega
    simp [h1, hi, h3]
  · by_cases h2 : i < 7 * k + 7
    · rw [if_pos h2, if_neg h1]
      have h3 : 7 * k ≤ i := by omega
      simp [h2, h3]
    · rw [if_neg h2, Nat.testBit_div_two_pow]
      have h3 : 7 * k ≤ i := by omega
      have hv2 : v.testBit (i - 7 * k) = false := Nat.testBit_lt_two_pow (Nat.lt_of_lt_of_le hv (Nat.pow_le_pow_right (n := 2) (i := 7) (by decide) (by omega)))
      by_cases h6 : i < 64
      · simp [h2, h3, hv2, h6]
        congr 1
        omega
      · have hm2 : m.testBit i = false := Nat.testBit_lt_two_pow (Nat.lt_of_lt_of_le (show m < 2 ^ 64 by omega) (Nat.pow_le_pow_right (by decide) (by omega)))
        have e9 : 7 * k + 7 + (i - (7 * k + 7)) = i := by omega
        simp [h2, h3, hv2, h6, hm2]
        rw [show i - (7 * k + 7) + (7 * k + 7) = i by omega, hm2]
theorem ws_of {m k v : Nat} (hv : v < 128) (hm : m < 2 ^ 63) (hk : k < 8) (M : cd_M) : f10_withSample (lN m) (nI k) (nI v) M = lN (pd_ m k v) := by
  have e : (7 : Int32) * nI k = nI (7 * k) := pk_mul 7 k
  show ((lN m &&& (((127 : Int64) <<< (((7 : Int32) * nI k).toInt64 &&& 63) : Int64) ^^^ ((-1) : Int64) : Int64) : Int64) ||| (((nI v).toInt64 : Int64) <<< (((7 : Int32) * nI k).toInt64 &&& 63) : Int64)) = _
  have hp : 2 ^ (7 * k) ≤ 2 ^ 49 := Nat.pow_le_pow_right (by decide) (by omega)
  have hp0 : 0 < 2 ^ (7 * k) := Nat.pow_pos (by decide)
  have e127 : (127 : Int64) = lN 127 := rfl
  rw [e, nI_l (n := v) (by omega), e127, wb_shl _ (by omega), wb_shl _ (by omega)]
  have hmm : lN (127 * 2 ^ (7 * k)) ^^^ (-1) = lN (2 ^ 64 - 1 - 127 * 2 ^ (7 * k)) := by
    apply Int64.toBitVec_inj.mp
    rw [Int64.toBitVec_xor, wb_tb, wb_tb]
    have e1 : (-1 : Int64).toBitVec = BitVec.allOnes 64 := rfl
    rw [e1, BitVec.xor_allOnes]
    apply BitVec.eq_of_toNat_eq
    rw [BitVec.toNat_not, BitVec.toNat_ofNat, BitVec.toNat_ofNat, Nat.mod_eq_of_lt (by omega), Nat.mod_eq_of_lt (by omega)]
  rw [hmm, wb_and (by omega) (by omega)]
  have hv3 : v * 2 ^ (7 * k) ≤ 127 * 2 ^ (7 * k) := Nat.mul_le_mul_right _ (by omega)
  have hand : m &&& (2 ^ 64 - 1 - 127 * 2 ^ (7 * k)) ≤ m := Nat.and_le_left
  rw [wb_or (by omega) (by omega), pd_nat hv hm (by omega)]
