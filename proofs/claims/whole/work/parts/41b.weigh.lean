/-! the class: what the states weigh -/
section wsA
variable {M : cd_M} {w n : Nat} {sm : Nat → Nat → Nat} {pa : Nat → Nat} {nc fo : Nat} {ln : Nat → Nat} {nb : Nat → Nat → Nat} {vl : Nat → Nat}
theorem nin2 {i n : Nat} (hi : i < 2) (hn : n ≤ 90) : ¬ inr_ (nI i - 2) n := by
  rintro ⟨j, hj, e⟩
  have z := pk_sneg (a := i) (b := 2) (by omega) hi
  have e2 : nI i - nI 2 = nI j := e
  rw [e2] at z
  exact nI_pos (by omega) z
theorem freshC (hw : w ≤ 6) (h : CL M w n sm pa) (hb : BL w n sm pa) (hR : CR M nc fo ln nb vl) (hB : BR nc fo ln nb vl) {i : Nat} (hi : i < n) : f5_costOfFresh_6_7 (nI i) M = some (nI (frs_ w sm pa vl i)) := by
  unfold f5_costOfFresh_6_7 frs_
  by_cases q : 2 ≤ i
  · have e2 : nI i - 2 = nI (i - 2) := pk_sub (b := 2) q
    have hd := dist_le (m := vl 4) (w := w) (s := sm i) (t := sm (i - 2)) (fun k hk => hb.2.1 i k hi hk) (fun k hk => hb.2.1 (i - 2) k (by omega) hk)
    have hv := hB.2.2.2.2.2.1 0 (by decide)
    have p1 := hb.2.2 i hi
    have p2 := hb.2.2 (i - 2) (by omega)
    rw [e2, if_neg (has7' h hb (by omega)), parity7 hw h hb hi, parity7 hw h hb (i := i - 2) (by omega), bind_p, bind_p, row7 hw h hb hi, row7 hw h hb (i := i - 2) (by omega), bind_p, bind_p, dist6 hR hB hw (BL_ok hb hi) (BL_ok hb (by omega)), bind_p, if_pos (show cd_in 0 5 = true by decide), if_pos (show cd_in 2 5 = true by decide), show Int32.toNatClampNeg 0 = 0 from rfl, show Int32.toNatClampNeg 2 = 2 from rfl, hR.2.2.2.2 0 (by decide), hR.2.2.2.2 2 (by decide)]
    by_cases y : pa i = pa (i - 2)
    · rw [if_pos (by rw [y])]
      by_cases z : dist_ (vl 4) w (sm i) (sm (i - 2)) ≤ vl 0
      · rw [if_neg (nI_nlt z (by omega)), if_pos ⟨q, y, z⟩]
      · rw [if_pos (nI_lt (by omega) (by omega)), if_neg (fun u => z u.2.2)]
        rfl
    · rw [if_neg (fun u => y ((nI_eq (by omega) (by omega)).mp u)), if_neg (fun u => y u.2.1)]
      rfl
  · rw [if_pos ((has7 h hb).mpr (nin2 (by omega) hb.1)), if_neg (fun u => q u.1)]
    rfl
theorem repC (hw : w ≤ 6) (h : CL M w n sm pa) (hb : BL w n sm pa) (hR : CR M nc fo ln nb vl) (hB : BR nc fo ln nb vl) {i : Nat} (hi : i < n) : f5_costOfRepeat_6_7 (nI i) M = some (nI (rep_ w sm vl i)) := by
  unfold f5_costOfRepeat_6_7 rep_
  by_cases q : 2 ≤ i
  · have e2 : nI i - 2 = nI (i - 2) := pk_sub (b := 2) q
    have hd := dist_le (m := vl 4) (w := w) (s := sm i) (t := sm (i - 2)) (fun k hk => hb.2.1 i k hi hk) (fun k hk => hb.2.1 (i - 2) k (by omega) hk)
    have hv := hB.2.2.2.2.2.1 0 (by decide)
    rw [e2, if_neg (has7' h hb (by omega)), row7 hw h hb hi, row7 hw h hb (i := i - 2) (by omega), bind_p, bind_p, dist6 hR hB hw (BL_ok hb hi) (BL_ok hb (by omega)), bind_p, if_pos (show cd_in 0 5 = true by decide), show Int32.toNatClampNeg 0 = 0 from rfl, hR.2.2.2.2 0 (by decide)]
    by_cases z : dist_ (vl 4) w (sm i) (sm (i - 2)) ≤ vl 0
    · rw [if_neg (nI_nlt z (by omega)), if_neg (fun u => u.2 z)]
      rfl
    · rw [if_pos (nI_lt (by omega) (by omega)), show (999 : Int32) = nI 999 from rfl, if_neg (nI_nlt (by omega) (by omega)), if_pos (show 2 ≤ i ∧ ¬ dist_ (vl 4) w (sm i) (sm (i - 2)) ≤ vl 0 from ⟨q, z⟩), if_neg (by omega)]
  · rw [if_pos ((has7 h hb).mpr (nin2 (by omega) hb.1)), if_neg (fun u => q u.1)]
    rfl
end wsA
section wsB
variable {L : Nat} {nu : Nat → Nat} {S : Nat} {tb : Nat → Nat}
/-- a table that has all states -/
def TBa (L : Nat) (nu : Nat → Nat) (S : Nat) (tb : Nat → Nat) : Prop := TB L nu S (25 * L) tb ∧ S ≤ 90 ∧ okc_ L nu
theorem TBa_ix (h : TBa L nu S tb) {st : Nat} (v : vld_ L nu st) : ix_ nu st < S ∧ tb (ix_ nu st) = st := h.1.2.1 st v (by have := v.1; omega)
theorem TBa_lt (h : TBa L nu S tb) {a b : Nat} (va : vld_ L nu a) (vb : vld_ L nu b) : ix_ nu a < ix_ nu b ↔ a < b := by
  have ha := TBa_ix h va
  have hb := TBa_ix h vb
  constructor
  · intro z
    have := h.1.2.2 _ _ z hb.1
    rw [ha.2, hb.2] at this
    exact this
  · intro z
    rcases Nat.lt_trichotomy (ix_ nu a) (ix_ nu b) with y | y | y
    · exact y
    · rw [y] at ha
      rw [ha.2] at hb
      omega
    · have := h.1.2.2 _ _ y ha.1
      rw [ha.2, hb.2] at this
      omega
theorem TBa_0 (h : TBa L nu S tb) : 0 < S ∧ tb 0 = 0 := by
  have := TBa_ix h (vld_0 h.2.2)
  exact ⟨by have := this.1; omega, this.2⟩
theorem has10 {M : cd_M} (h : CS M L nu S tb) (hS : S ≤ 90) {a : Int32} : f6_has_10 a M = 0 ↔ ¬ inr_ a S := by
  unfold f6_has_10
  exact has_iff h.1 (by omega)
theorem seen10 {M : cd_M} (h : CS M L nu S tb) (hS : S ≤ 90) {s : Nat} (hs : s < S) : f6_seen_10 (nI s) M = some (nI (tb s % 5)) := by
  unfold f6_seen_10
  rw [if_neg (fun z => (has10 h hS).mp z ⟨s, hs, rfl⟩), if_pos (by rw [ci_nI (by omega)]; omega), nI_clamp (by omega), (h.2 s hs).2.2.1]
theorem next10 {M : cd_M} (h : CS M L nu S tb) (hS : S ≤ 90) {s : Nat} (hs : s < S) : f6_next_10 (nI s) M = some (nI (ix_ nu (ons_ L nu (tb s)))) := by
  unfold f6_next_10
  rw [if_neg (fun z => (has10 h hS).mp z ⟨s, hs, rfl⟩), if_pos (by rw [ci_nI (by omega)]; omega), nI_clamp (by omega), (h.2 s hs).2.2.2]
theorem place10 {M : cd_M} (h : CS M L nu S tb) (hS : S ≤ 90) {s : Nat} (hs : s < S) : f6_place_10 (nI s) M = some (nI (tb s / 25)) := by
  unfold f6_place_10
  rw [if_neg (fun z => (has10 h hS).mp z ⟨s, hs, rfl⟩), if_pos (by rw [ci_nI (by omega)]; omega), nI_clamp (by omega), (h.2 s hs).1]
theorem step10 {M : cd_M} (h : CS M L nu S tb) (hS : S ≤ 90) {s : Nat} (hs : s < S) : f6_step_10 (nI s) M = some (nI (tb s / 5 % 5)) := by
  unfold f6_step_10
  rw [if_neg (fun z => (has10 h hS).mp z ⟨s, hs, rfl⟩), if_pos (by rw [ci_nI (by omega)]; omega), nI_clamp (by omega), (h.2 s hs).2.1]
theorem place10e {M : cd_M} (h : CS M L nu S tb) (hS : S ≤ 90) (a : Int32) : ∃ v, f6_place_10 a M = some v := by
  by_cases q : inr_ a S
  · obtain ⟨s, hs, rfl⟩ := q
    exact ⟨_, place10 h hS hs⟩
  · unfold f6_place_10
    rw [if_pos ((has10 h hS).mpr q)]
    exact ⟨_, rfl⟩
theorem step10e {M : cd_M} (h : CS M L nu S tb) (hS : S ≤ 90) (a : Int32) : ∃ v, f6_step_10 a M = some v := by
  by_cases q : inr_ a S
  · obtain ⟨s, hs, rfl⟩ := q
    exact ⟨_, step10 h hS hs⟩
  · unfold f6_step_10
    rw [if_pos ((has10 h hS).mpr q)]
    exact ⟨_, rfl⟩
/-! bits of the goings -/
theorem tp64 {j : Nat} (hj : j < 64) : ((1 : Int64) <<< ((nI j).toInt64 &&& 63)).toBitVec = BitVec.twoPow 64 j := by
  have e : (1 : Int64) = lN 1 := rfl
  rw [e, wb_shl 1 hj, wb_tb]
  apply BitVec.eq_of_toNat_eq
  rw [BitVec.toNat_ofNat, BitVec.toNat_twoPow, Nat.one_mul]
theorem or_bit {x : Int64} {j k : Nat} (hj : j < 64) (hk : k < 64) : (x ||| ((1 : Int64) <<< ((nI j).toInt64 &&& 63))).toBitVec.getLsbD k = (x.toBitVec.getLsbD k || decide (j = k)) := by
  rw [Int64.toBitVec_or, tp64 hj, BitVec.getLsbD_or, BitVec.getLsbD_twoPow]
  simp [hj]
def GB (M : cd_M) (i s : Nat) (o : Nat → Bool) : Prop := ∀ q j, q < 2 → j < 64 → (M.2 33 (2 * i + q)).toBitVec.getLsbD j = (decide (64 * q + j < s) && o (64 * q + j))
theorem GB_skip {M : cd_M} {i s : Nat} {o : Nat → Bool} (h : GB M i s o) (ho : o s = false) : GB M i (s + 1) o := by
  intro q j hq hj
  rw [h q j hq hj]
  by_cases z : 64 * q + j = s
  · rw [z, ho, Bool.and_false, Bool.and_false]
  · congr 1
    simp only [decide_eq_decide]
    omega
theorem GB_set {M : cd_M} {i s : Nat} {o : Nat → Bool} (h : GB M i s o) (hs : s < 128) (ho : o s = true) : GB (cd_wL M 33 (2 * i + s / 64) (M.2 33 (2 * i + s / 64) ||| ((1 : Int64) <<< ((nI (s % 64)).toInt64 &&& 63)))) i (s + 1) o := by
  intro q j hq hj
  rw [cd_wL_at]
  by_cases y : q = s / 64
  · rw [if_pos ⟨rfl, by omega⟩, ← y, or_bit (by omega) hj, h q j hq hj]
    by_cases z : 64 * q + j = s
    · rw [z, ho, Bool.and_true, Bool.and_true]
      have : s % 64 = j := by omega
      simp [this]
    · have : ¬ s % 64 = j := by omega
      simp only [this, decide_false, Bool.or_false]
      congr 1
      simp only [decide_eq_decide]
      omega
  · rw [if_neg (by omega), h q j hq hj]
    congr 1
    simp only [decide_eq_decide]
    omega
end wsB
section wsC
variable {n : Nat} {pa fr rp : Nat → Nat} {c L : Nat} {nu : Nat → Nat} {ed S : Nat} {tb : Nat → Nat}
/-- whether the field behind i goes on from a state -/
def of_ (n : Nat) (pa fr rp : Nat → Nat) (L : Nat) (nu : Nat → Nat) (ed i st : Nat) : Bool := decide (i + 1 < n) && on_ n pa fr rp L nu ed i st
/-- what the class knows of the field behind i -/
def WL (M : cd_M) (n : Nat) (pa fr rp : Nat → Nat) (L : Nat) (nu : Nat → Nat) (ed S : Nat) (tb : Nat → Nat) (i : Nat) : Prop := i + 1 < n → (∀ j, j < S → M.1 32 j = nI (W_ n pa fr rp L nu ed (i + 1) (tb j))) ∧ M.1 34 (i + 1) = nI (ix_ nu (en_ n pa fr rp L nu ed (i + 1)))
theorem betterC {M : cd_M} {i s : Nat} (hB : BP n pa c L nu ed fr rp) (hT : TBa L nu S tb) (hi : i + 1 < n) (hs : s < S) (hW : WL M n pa fr rp L nu ed S tb i) (hp : pa (i + 1) ≠ pa i) : f0_isBetterOn_9 (nI (ix_ nu (ons_ L nu (tb s)))) (nI (bye_ n pa fr rp L nu ed (i + 1))) (nI i + 1) M = some (if on_ n pa fr rp L nu ed i (tb s) = true then 1 else 0) := by
  have h9 := hB.1
  have v := (hT.1.1 s hs).1
  have vo := vld_ons hT.2.2 v
  obtain ⟨x1, x2⟩ := TBa_ix hT vo
  obtain ⟨e1, e2⟩ := hW hi
  have hS := hT.2.1
  have ve := (ent_iff.mp (en_spec (n := n) (pa := pa) (fr := fr) (rp := rp) (ed := ed) hT.2.2 (i + 1)).1).1
  have lt := TBa_lt hT vo ve
  obtain ⟨y1, y2⟩ := TBa_ix hT ve
  have w1 := W_le (n := n) (pa := pa) (L := L) (nu := nu) hB.2.2.2.2 hB.1 (i + 1) (ons_ L nu (tb s))
  have w2 := bye_le (n := n) (pa := pa) (L := L) (nu := nu) hB.2.2.2.2 hB.1 (i + 1)
  have ex := e1 _ x1
  rw [x2] at ex
  unfold f0_isBetterOn_9
  rw [if_neg (nI_pos (by omega)), show (90 : Int32) = nI 90 from rfl, if_pos (nI_lt (by omega) (by omega)), if_pos (by rw [ci_nI (by omega)]; omega), nI_clamp (by omega), ex]
  simp only [cd_lt_p]
  unfold f0_entry_9
  rw [nI_1, if_neg (nI_pos (by omega)), show (90 : Int32) = nI 90 from rfl, if_neg (nI_ge (by omega) (by omega)), if_pos (show cd_in (nI (i + 1)) 90 = true by rw [ci_nI (by omega)]; omega), nI_clamp (by omega), e2, bind_p]
  unfold on_
  simp only [decide_eq_true_eq]
  by_cases q1 : W_ n pa fr rp L nu ed (i + 1) (ons_ L nu (tb s)) < bye_ n pa fr rp L nu ed (i + 1)
  · rw [if_pos (nI_lt q1 (by omega)), if_pos ⟨hp, Or.inl q1⟩]
  · rw [if_neg (nI_nlt (by omega) (by omega))]
    by_cases q2 : W_ n pa fr rp L nu ed (i + 1) (ons_ L nu (tb s)) = bye_ n pa fr rp L nu ed (i + 1)
    · rw [if_pos (by rw [q2])]
      by_cases q3 : ons_ L nu (tb s) < en_ n pa fr rp L nu ed (i + 1)
      · have := lt.mpr q3
        rw [if_neg (nI_ge this (by omega)), if_pos ⟨hp, Or.inr ⟨q2, q3⟩⟩]
      · have : ¬ ix_ nu (ons_ L nu (tb s)) < ix_ nu (en_ n pa fr rp L nu ed (i + 1)) := fun z => q3 (lt.mp z)
        rw [if_pos (nI_le (by omega) (by omega)), if_neg (fun z => z.2.elim q1 (fun u => q3 u.2))]
    · rw [if_neg (fun z => q2 ((nI_eq (by omega) (by omega)).mp z)), if_neg (fun z => z.2.elim q1 (fun u => q2 u.1))]
theorem W_of {i : Nat} (hi : i < n) (st : Nat) : W_ n pa fr rp L nu ed i st = (if of_ n pa fr rp L nu ed i st = true then W_ n pa fr rp L nu ed (i + 1) (ons_ L nu st) else (if i + 1 < n then bye_ n pa fr rp L nu ed (i + 1) else 0)) + 128 * ca_ fr rp i st := by
  unfold of_
  by_cases q : i + 1 < n
  · rw [W_on q, if_pos q, decide_eq_true q, Bool.true_and, Nat.add_comm]
  · rw [decide_eq_false q, Bool.false_and, if_neg (by decide), if_neg q, show i = n - 1 by omega, W_last (by omega)]
    omega
theorem ws_118 {M0 : cd_M} {i : Nat} (hB : BP n pa c L nu ed fr rp) (hT : TBa L nu S tb) (hC : CS M0 L nu S tb) (hi : i < n) (hW : WL M0 n pa fr rp L nu ed S tb i) : ∀ (r fu s : Nat) (M : cd_M), s + r = S → r < fu → cf_ [(31, none), (33, none)] M0 M → (∀ j, j < s → M.1 31 j = nI (W_ n pa fr rp L nu ed i (tb j))) → GB M i s (fun j => of_ n pa fr rp L nu ed i (tb j)) → (∀ x, ¬ (x = 2 * i ∨ x = 2 * i + 1) → M.2 33 x = M0.2 33 x) →
    cw (f0_weighStates_9_7_6_L118 fu (nI i) (nI (if i + 1 < n ∧ pa (i + 1) ≠ pa i then 1 else 0)) (nI (128 * fr i)) (nI (128 * rp i)) (nI (if i + 1 < n then bye_ n pa fr rp L nu ed (i + 1) else 0)) (nI s) M) (fun M1 => cf_ [(31, none), (33, none)] M0 M1 ∧ (∀ j, j < S → M1.1 31 j = nI (W_ n pa fr rp L nu ed i (tb j))) ∧ GB M1 i S (fun j => of_ n pa fr rp L nu ed i (tb j)) ∧ ∀ x, ¬ (x = 2 * i ∨ x = 2 * i + 1) → M1.2 33 x = M0.2 33 x) := by
  intro r
  have h9 := hB.1
  have hS := hT.2.1
  induction r with
  | zero =>
    intro fu s M hs hfu hf hn hG hx
    obtain ⟨fu, rfl⟩ := Nat.exists_eq_succ_of_ne_zero (show fu ≠ 0 by omega)
    have cs : CS M L nu S tb := CS_f hf (by decide) hC
    have es : s = S := by omega
    subst es
    rw [f0_weighStates_9_7_6_L118]
    unfold f6_size_10
    rw [cs.1, if_pos (nI_le (by omega) (by omega))]
    exact cw_some.mpr ⟨hf, hn, hG, hx⟩
  | succ r ih =>
    intro fu s M hs hfu hf hn hG hx
    obtain ⟨fu, rfl⟩ := Nat.exists_eq_succ_of_ne_zero (show fu ≠ 0 by omega)
    have cs : CS M L nu S tb := CS_f hf (by decide) hC
    have hsS : s < S := by omega
    have v := (hT.1.1 s hsS).1
    have wl : WL M n pa fr rp L nu ed S tb i := fun h => ⟨fun j hj => (hf 32 j (na_cov (by decide) j)).1.trans ((hW h).1 j hj), (hf 34 _ (na_cov (by decide) _)).1.trans (hW h).2⟩
    have fin : ∀ (M2 : cd_M) (x : Nat), cf_ [(31, none), (33, none)] M0 M2 → (∀ j, j < s → M2.1 31 j = nI (W_ n pa fr rp L nu ed i (tb j))) → GB M2 i (s + 1) (fun j => of_ n pa fr rp L nu ed i (tb j)) → (∀ x, ¬ (x = 2 * i ∨ x = 2 * i + 1) → M2.2 33 x = M0.2 33 x) → W_ n pa fr rp L nu ed i (tb s) = x + 128 * ca_ fr rp i (tb s) →
        cw (f0_weighStates_9_7_6_L200 (f0_weighStates_9_7_6_L118 fu) (nI i) (nI (if i + 1 < n ∧ pa (i + 1) ≠ pa i then 1 else 0)) (nI (128 * fr i)) (nI (128 * rp i)) (nI (if i + 1 < n then bye_ n pa fr rp L nu ed (i + 1) else 0)) (nI s) (nI x) M2) (fun M1 => cf_ [(31, none), (33, none)] M0 M1 ∧ (∀ j, j < S → M1.1 31 j = nI (W_ n pa fr rp L nu ed i (tb j))) ∧ GB M1 i S (fun j => of_ n pa fr rp L nu ed i (tb j)) ∧ ∀ x, ¬ (x = 2 * i ∨ x = 2 * i + 1) → M1.2 33 x = M0.2 33 x) := by
      intro M2 x hf2 hn2 hG2 hx2 hxW
      have cs2 : CS M2 L nu S tb := CS_f hf2 (by decide) hC
      have go : ∀ y : Int32, nI x + y = nI (W_ n pa fr rp L nu ed i (tb s)) → cw (f0_weighStates_9_7_6_L228 (f0_weighStates_9_7_6_L118 fu) (nI i) (nI (if i + 1 < n ∧ pa (i + 1) ≠ pa i then 1 else 0)) (nI (128 * fr i)) (nI (128 * rp i)) (nI (if i + 1 < n then bye_ n pa fr rp L nu ed (i + 1) else 0)) (nI s) y (nI x) (nI s) M2) (fun M1 => cf_ [(31, none), (33, none)] M0 M1 ∧ (∀ j, j < S → M1.1 31 j = nI (W_ n pa fr rp L nu ed i (tb j))) ∧ GB M1 i S (fun j => of_ n pa fr rp L nu ed i (tb j)) ∧ ∀ x, ¬ (x = 2 * i ∨ x = 2 * i + 1) → M1.2 33 x = M0.2 33 x) := by
        intro y hy
        unfold f0_weighStates_9_7_6_L228
        rw [if_pos (by rw [ci_nI (by omega)]; omega), nI_clamp (by omega), hy]
        simp only [cd_lt_p]
        rw [nI_1]
        refine ih fu (s + 1) _ (by omega) (by omega) (cf_wcI (cf_cov_iff.mpr (Or.inl (by simp))) hf2) (fun j hj => ?_) (fun q j hq hj => hG2 q j hq hj) (fun x hx => hx2 x hx)
        rw [cd_wI_at]
        by_cases z : j = s
        · rw [if_pos ⟨rfl, z⟩, z]
        · rw [if_neg (by omega)]; exact hn2 j (by omega)
      unfold f0_weighStates_9_7_6_L200
      rw [seen10 cs2 hS hsS, bind_p, show (2 : Int32) = nI 2 from rfl]
      unfold ca_ at hxW
      by_cases q : tb s % 5 < 2
      · rw [if_neg (nI_ge q (by omega))]
        rw [if_pos q] at hxW
        exact go _ (by rw [nI_add, hxW])
      · rw [if_pos (nI_le (by omega) (by omega))]
        rw [if_neg q] at hxW
        exact go _ (by rw [nI_add, hxW])
    have hWo := W_of (pa := pa) (fr := fr) (rp := rp) (L := L) (nu := nu) (ed := ed) hi (tb s)
    have skip : of_ n pa fr rp L nu ed i (tb s) = false → cw (f0_weighStates_9_7_6_L200 (f0_weighStates_9_7_6_L118 fu) (nI i) (nI (if i + 1 < n ∧ pa (i + 1) ≠ pa i then 1 else 0)) (nI (128 * fr i)) (nI (128 * rp i)) (nI (if i + 1 < n then bye_ n pa fr rp L nu ed (i + 1) else 0)) (nI s) (nI (if i + 1 < n then bye_ n pa fr rp L nu ed (i + 1) else 0)) M) (fun M1 => cf_ [(31, none), (33, none)] M0 M1 ∧ (∀ j, j < S → M1.1 31 j = nI (W_ n pa fr rp L nu ed i (tb j))) ∧ GB M1 i S (fun j => of_ n pa fr rp L nu ed i (tb j)) ∧ ∀ x, ¬ (x = 2 * i ∨ x = 2 * i + 1) → M1.2 33 x = M0.2 33 x) := fun z => fin M _ hf hn (GB_skip hG z) hx (by rw [hWo, z, if_neg (by decide)])
    rw [f0_weighStates_9_7_6_L118]
    unfold f6_size_10
    rw [cs.1, if_neg (nI_ge (by omega) (by omega))]
    by_cases t : i + 1 < n ∧ pa (i + 1) ≠ pa i
    · rw [if_pos t] at *
      rw [if_neg (show ¬ nI 1 = 0 by decide), next10 cs hS hsS, bind_p]
      have bt := betterC hB hT t.1 hsS wl t.2
      rw [if_pos t.1] at *
      rw [bt, bind_p]
      have eo : of_ n pa fr rp L nu ed i (tb s) = on_ n pa fr rp L nu ed i (tb s) := by unfold of_; rw [decide_eq_true t.1, Bool.true_and]
      by_cases z : on_ n pa fr rp L nu ed i (tb s) = true
      · have vo := vld_ons hT.2.2 v
        obtain ⟨x1, x2⟩ := TBa_ix hT vo
        have ex := (wl t.1).1 _ x1
        rw [x2] at ex
        rw [if_pos z, if_neg (by decide), bind_p, if_pos (by rw [ci_nI (by omega)]; omega), nI_clamp (by omega), ex]
        simp only [cd_lt_p]
        have e6 : (2 : Int32) * nI i + (nI s >>> ((6 : Int32) &&& 31)) = nI (2 * i + s / 64) := by
          rw [pk_shrN (by omega) _ 6 (by decide), show (2 : Int32) = nI 2 from rfl, pk_mul, nI_add]
        have e63 : nI s &&& 63 = nI (s % 64) := pk_andN (by omega) 6 (by decide)
        have cin : cd_in (nI (2 * i + s / 64)) 180 = true := by rw [ci_nI (by omega)]; omega
        rw [e6, e63, if_pos cin, if_pos cin, nI_clamp (by omega)]
        refine fin _ _ ?_ (fun j hj => hn j hj) (GB_set hG (by omega) (eo.trans z)) (fun x hx' => ?_) (by rw [hWo, eo, if_pos z])
        · exact cf_wcL (cf_cov_iff.mpr (Or.inl (by simp))) hf
        · rw [cd_wL_at, if_neg (by omega)]; exact hx x hx'
      · rw [if_neg z, if_pos rfl]
        refine skip ?_
        rw [eo]
        cases u : on_ n pa fr rp L nu ed i (tb s) with
        | true => exact absurd u z
        | false => rfl
    · rw [if_neg t] at *
      rw [if_pos (show nI 0 = 0 from rfl)]
      refine skip ?_
      unfold of_ on_
      by_cases u : i + 1 < n
      · rw [decide_eq_true u, Bool.true_and, decide_eq_false (fun z => t ⟨u, z.1⟩)]
      · rw [decide_eq_false u, Bool.false_and]
end wsC
