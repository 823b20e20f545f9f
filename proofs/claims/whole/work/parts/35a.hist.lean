/-! the acts' memory: keep and give back -/
def pu_ (u : Nat) : Nat := if u = 12 then 12 else u + 1
def ph_ {α : Type} (u : Nat) (h : Nat → α) (v : α) : Nat → α := fun j => if j + 1 = pu_ u then v else h (j + (if u = 12 then 1 else 0))
theorem cpOK {sp dp n n0 n1 : Nat} (h0 : sp + n ≤ n0) (h1 : dp + n ≤ n1) (b0 : n0 < 2 ^ 31) (b1 : n1 < 2 ^ 31) : cd_cpOK (nI sp) (nI dp) (nI n) n0 n1 := by
  refine ⟨nI_pos (by omega), nI_pos (by omega), nI_pos (by omega), ?_, ?_⟩
  · rw [nI_clamp (by omega), nI_clamp (by omega)]; exact h0
  · rw [nI_clamp (by omega), nI_clamp (by omega)]; exact h1
theorem cd_cL_at {M : cd_M} {k0 k1 sp dp n x i : Nat} : (cd_cL M k0 k1 sp dp n).2 x i = if x = k1 ∧ dp ≤ i ∧ i < dp + n then M.2 k0 (sp + (i - dp)) else M.2 x i := by
  show (if x = k1 then va_cpy (M.2 k0) (M.2 x) sp dp n else M.2 x) i = _
  by_cases h : x = k1
  · rw [if_pos h]
    show (if dp ≤ i ∧ i < dp + n then M.2 k0 (sp + (i - dp)) else M.2 x i) = _
    by_cases h2 : dp ≤ i ∧ i < dp + n
    · rw [if_pos h2, if_pos ⟨h, h2⟩]
    · rw [if_neg h2, if_neg (fun q => h2 q.2)]
  · rw [if_neg h, if_neg (fun q => h q.1)]
theorem cd_cI_at {M : cd_M} {k0 k1 sp dp n x i : Nat} : (cd_cI M k0 k1 sp dp n).1 x i = if x = k1 ∧ dp ≤ i ∧ i < dp + n then M.1 k0 (sp + (i - dp)) else M.1 x i := by
  show (if x = k1 then va_cpy (M.1 k0) (M.1 x) sp dp n else M.1 x) i = _
  by_cases h : x = k1
  · rw [if_pos h]
    show (if dp ≤ i ∧ i < dp + n then M.1 k0 (sp + (i - dp)) else M.1 x i) = _
    by_cases h2 : dp ≤ i ∧ i < dp + n
    · rw [if_pos h2, if_pos ⟨h, h2⟩]
    · rw [if_neg h2, if_neg (fun q => h2 q.2)]
  · rw [if_neg h, if_neg (fun q => h q.1)]
section hiA
variable {M N : cd_M} {w n u x : Nat} {sm : Nat → Nat → Nat} {pa : Nat → Nat} {hn : Nat → Nat} {hs : Nat → Nat → Nat → Nat} {hp : Nat → Nat → Nat}
theorem keep8 (h : CL M w n sm pa) (hb : BL w n sm pa) (hH : CH M w u x hn hs hp) (hB : BH w u hn hs hp) : cw (f3_keep_8_7 M) (fun M1 => CH M1 w (pu_ u) ((x + 1) % 12) (ph_ u hn n) (ph_ u hs sm) (ph_ u hp pa)) := by
  have hn90 := hb.1
  have hu := hB.1
  have hx := hH.2.2.1
  have h12 : (12 : Int32) = nI 12 := rfl
  have h90 : nI x * 90 = nI (90 * x) := by rw [show (90 : Int32) = nI 90 from rfl, pk_mul, Nat.mul_comm]
  have tail : ∀ M2 : cd_M, M2.1 8 3 = nI u → (∀ j, M2.1 30 j = if j = x then nI n else M.1 30 j) → (∀ i, M2.2 29 i = if 90 * x ≤ i ∧ i < 90 * x + n then M.2 28 (i - 90 * x) else M.2 29 i) → cw (f3_keep_8_7_L58 (nI ((x + 1) % 12)) M2) (fun M1 => CH M1 w (pu_ u) ((x + 1) % 12) (ph_ u hn n) (ph_ u hs sm) (ph_ u hp pa)) := by
    intro M2 k3 k30 k29
    unfold f3_keep_8_7_L58
    dsimp only [cd_lt]
    apply cw_some.mpr
    have e3 : (cd_wI M2 8 2 (nI ((x + 1) % 12))).1 8 3 + 1 = nI (u + 1) := by rw [cd_wI_at, if_neg (by decide), k3, nI_1]
    rw [e3, h12]
    have eN : (if nI 12 < nI (u + 1) then nI 12 else nI (u + 1)) = nI (pu_ u) := by
      unfold pu_
      by_cases q : u = 12
      · subst q; rfl
      · rw [if_neg q, if_neg (nI_nlt (by omega) (by omega))]
    rw [eN]
    refine ⟨?_, ?_, by omega, ?_⟩
    · rw [cd_wI_at, if_pos ⟨rfl, rfl⟩]
    · rw [cd_wI_at, if_neg (by decide), cd_wI_at, if_pos ⟨rfl, rfl⟩]
    · intro j hj
      have r30 : ∀ i, (cd_wI (cd_wI M2 8 2 (nI ((x + 1) % 12))) 8 3 (nI (pu_ u))).1 30 i = M2.1 30 i := fun i => by rw [cd_wI_at, if_neg (by omega), cd_wI_at, if_neg (by omega)]
      have r29 : ∀ i, (cd_wI (cd_wI M2 8 2 (nI ((x + 1) % 12))) 8 3 (nI (pu_ u))).2 29 i = M2.2 29 i := fun i => rfl
      rw [r30, k30]
      by_cases q : j + 1 = pu_ u
      · have ej : ((x + 1) % 12 + 12 - pu_ u + j) % 12 = x := by
          unfold pu_ at q ⊢
          by_cases z : u = 12
          · rw [if_pos z] at q ⊢; omega
          · rw [if_neg z] at q ⊢; omega
        have p1 : ph_ u hn n j = n := by unfold ph_; rw [if_pos q]
        have p2 : ph_ u hs sm j = sm := by unfold ph_; rw [if_pos q]
        have p3 : ph_ u hp pa j = pa := by unfold ph_; rw [if_pos q]
        rw [ej, p1, p2, p3, if_pos rfl]
        refine ⟨rfl, fun i hi => ?_⟩
        rw [r29, k29, if_pos (by omega), show 90 * x + i - 90 * x = i by omega]
        exact h.2 i hi
      · have hlt : j + (if u = 12 then 1 else 0) < u := by
          unfold pu_ at q hj
          by_cases z : u = 12
          · rw [if_pos z] at q hj ⊢; omega
          · rw [if_neg z] at q hj ⊢; omega
        have ej : ((x + 1) % 12 + 12 - pu_ u + j) % 12 = (x + 12 - u + (j + (if u = 12 then 1 else 0))) % 12 := by
          unfold pu_
          by_cases z : u = 12
          · rw [if_pos z, if_pos z]; omega
          · rw [if_neg z, if_neg z]; omega
        have ne : (x + 12 - u + (j + (if u = 12 then 1 else 0))) % 12 ≠ x := by
          by_cases z : u = 12
          · rw [if_pos z] at hlt ⊢; omega
          · rw [if_neg z] at hlt ⊢; omega
        have p1 : ph_ u hn n j = hn (j + (if u = 12 then 1 else 0)) := by unfold ph_; rw [if_neg q]
        have p2 : ph_ u hs sm j = hs (j + (if u = 12 then 1 else 0)) := by unfold ph_; rw [if_neg q]
        have p3 : ph_ u hp pa j = hp (j + (if u = 12 then 1 else 0)) := by unfold ph_; rw [if_neg q]
        generalize j + (if u = 12 then 1 else 0) = j2 at *
        rw [ej, p1, p2, p3, if_neg ne]
        have k := hH.2.2.2 j2 hlt
        refine ⟨k.1, fun i hi => ?_⟩
        have hb2 := (hB.2 j2 hlt).1
        rw [r29, k29, if_neg (by omega)]
        exact k.2 i hi
  unfold f3_keep_8_7
  dsimp only [cd_lt]
  rw [hH.2.1, h.1, h90, if_pos (show cd_cpOK 0 (nI (90 * x)) (nI n) 90 1080 from cpOK (sp := 0) (by omega) (by omega) (by omega) (by omega)), show Int32.toNatClampNeg 0 = 0 from rfl, nI_clamp (n := 90 * x) (by omega), nI_clamp (n := n) (by omega)]
  have c82 : (cd_cL M 28 29 0 (90 * x) n).1 8 2 = nI x := hH.2.1
  have c71 : (cd_cL M 28 29 0 (90 * x) n).1 7 1 = nI n := h.1
  rw [c82, if_pos (by rw [ci_nI (by omega)]; omega), nI_clamp (by omega), c71]
  have d82 : (cd_wI (cd_cL M 28 29 0 (90 * x) n) 30 x (nI n)).1 8 2 = nI x := by rw [cd_wI_at, if_neg (by omega)]; exact c82
  rw [d82, nI_1, h12]
  have t := tail (cd_wI (cd_cL M 28 29 0 (90 * x) n) 30 x (nI n)) (by rw [cd_wI_at, if_neg (by omega)]; exact hH.1)
    (fun j => by
      rw [cd_wI_at]
      by_cases q : j = x
      · rw [if_pos ⟨rfl, q⟩, if_pos q]
      · rw [if_neg (fun z => q z.2), if_neg q]; rfl)
    (fun i => by
      show (cd_cL M 28 29 0 (90 * x) n).2 29 i = _
      rw [cd_cL_at]
      by_cases q : 90 * x ≤ i ∧ i < 90 * x + n
      · rw [if_pos ⟨rfl, q⟩, if_pos q, Nat.zero_add]
      · rw [if_neg (fun z => q z.2), if_neg q])
  by_cases q : 12 ≤ x + 1
  · rw [if_pos (nI_le q (by omega))]
    have : (x + 1) % 12 = 0 := by omega
    rw [this] at t ⊢
    exact t
  · rw [if_neg (nI_ge (by omega) (by decide))]
    have : (x + 1) % 12 = x + 1 := by omega
    rw [this] at t ⊢
    exact t
theorem forget_L : ∀ (f k : Nat) (M : cd_M), k ≤ 4 → 4 - k < f → cw (f0_forget_9_L2 f (nI k) M) (fun M1 => ∀ c, c < 4 → M1.1 35 c = if k ≤ c then 0 else M.1 35 c)
  | 0, k, M, hk, hf => by omega
  | f + 1, k, M, hk, hf => by
    rw [f0_forget_9_L2]
    by_cases q : 4 ≤ k
    · rw [show (4 : Int32) = nI 4 from rfl, if_pos (nI_le q (by omega))]
      exact cw_some.mpr (fun c hc => by rw [if_neg (by omega)])
    · rw [show (4 : Int32) = nI 4 from rfl, if_neg (nI_ge (by omega) (by omega)), if_pos (by rw [ci_nI (by omega)]; omega), nI_clamp (by omega)]
      dsimp only [cd_lt]
      rw [nI_1]
      refine cw_mono (forget_L f (k + 1) _ (by omega) (by omega)) (fun M1 h c hc => ?_)
      rw [h c hc, cd_wI_at]
      by_cases z : k + 1 ≤ c
      · rw [if_pos z, if_pos (by omega)]
      · rw [if_neg z]
        by_cases y : c = k
        · rw [if_pos ⟨rfl, y⟩, if_pos (by omega)]
          rfl
        · rw [if_neg (fun v => y v.2), if_neg (by omega)]
theorem forget0 : cw (f10_forgetPaths_0 M) clr_ := by
  unfold f10_forgetPaths_0 f0_forget_9
  dsimp only [cd_lt]
  simp only [cw_bind, cw_some]
  refine cw_mono (cw_cp (forget_L cd_fu 0 _ (by omega) (by unfold cd_fu; omega)) (w_f0_forget_9_L2 (ws := f0_forget_9_L2_w) (M0 := cd_wI M 0 11 0) (by decide) _ _ _ cf_refl)) (fun M1 h => ⟨?_, fun c hc => ?_⟩)
  · rw [(h.2 0 11 (by decide)).1, cd_wI_at, if_pos ⟨rfl, rfl⟩]
  · rw [h.1 c hc, if_pos (by omega)]
theorem begin0 (h : CL M w n sm pa) (hb : BL w n sm pa) (hH : CH M w u x hn hs hp) (hB : BH w u hn hs hp) : cw (f10_beginAct_0 M) (fun M1 => (CL M1 w n sm pa ∧ CH M1 w (pu_ u) ((x + 1) % 12) (ph_ u hn n) (ph_ u hs sm) (ph_ u hp pa) ∧ clr_ M1) ∧ cf_ f10_beginAct_0_w M M1) := by
  refine cw_cp ?_ (w_f10_beginAct_0 (by decide) cf_refl)
  unfold f10_beginAct_0
  simp only [cw_bind, cw_some]
  refine cw_mono (cw_cp (keep8 h hb hH hB) (w_f3_keep_8_7 (ws := f3_keep_8_7_w) (by decide) cf_refl)) (fun M1 h1 => ?_)
  refine cw_mono (cw_cp forget0 (w_f10_forgetPaths_0 (ws := f10_forgetPaths_0_w) (by decide) cf_refl)) (fun M2 h2 => ?_)
  exact ⟨CL_f h2.2 (by decide) (CL_f h1.2 (by decide) h), CH_f h2.2 (by decide) h1.1, h2.1⟩
theorem BH_push (hb : BL w n sm pa) (hB : BH w u hn hs hp) : BH w (pu_ u) (ph_ u hn n) (ph_ u hs sm) (ph_ u hp pa) := by
  have hu := hB.1
  refine ⟨by unfold pu_; by_cases q : u = 12; rw [if_pos q]; omega; rw [if_neg q]; omega, fun j hj => ?_⟩
  unfold ph_
  by_cases q : j + 1 = pu_ u
  · rw [if_pos q, if_pos q, if_pos q]; exact hb
  · rw [if_neg q, if_neg q, if_neg q]
    apply hB.2
    unfold pu_ at q hj
    by_cases z : u = 12
    · rw [if_pos z] at q hj ⊢; omega
    · rw [if_neg z] at q hj ⊢; omega
end hiA
