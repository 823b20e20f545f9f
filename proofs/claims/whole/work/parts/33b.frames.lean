/-! what a frame leaves as it is -/
def na_ (ws : List (Nat × Option Nat)) (x : Nat) : Bool := ws.all (fun q => !Nat.beq q.1 x)
theorem na_cov {ws : List (Nat × Option Nat)} {x : Nat} (h : na_ ws x = true) (i : Nat) : cf_cov ws x i = false := by
  cases e : cf_cov ws x i with
  | false => rfl
  | true =>
    have h2 := List.all_eq_true.mp h
    have : ∃ j, (x, j) ∈ ws := by
      rcases cf_cov_iff.mp e with q | q
      · exact ⟨_, q⟩
      · exact ⟨_, q⟩
    obtain ⟨j, hj⟩ := this
    have h3 := h2 _ hj
    simp only [Bool.not_eq_true'] at h3
    rw [Nat.beq_refl] at h3
    cases h3
theorem nf_cov {ws : List (Nat × Option Nat)} {x i : Nat} (h : (!cf_cov ws x i) = true) : cf_cov ws x i = false := by
  cases e : cf_cov ws x i with
  | false => rfl
  | true => rw [e] at h; cases h
def kCT (ws : List (Nat × Option Nat)) : Bool := !cf_cov ws 2 1 && na_ ws 17
theorem CT_f {ws : List (Nat × Option Nat)} {M M1 : cd_M} {t : Nat} {b : Nat → Nat} (hf : cf_ ws M M1) (h : kCT ws = true) (q : CT M t b) : CT M1 t b := by
  unfold kCT at h
  simp only [Bool.and_eq_true] at h
  exact CT_c (hf _ _ (nf_cov h.1)).1 (fun i => (hf _ _ (na_cov h.2 i)).1) q
def kMT (ws : List (Nat × Option Nat)) : Bool := !cf_cov ws 15 2 && na_ ws 57
theorem MT_f {ws : List (Nat × Option Nat)} {M M1 : cd_M} {t : Nat} {b : Nat → Nat} (hf : cf_ ws M M1) (h : kMT ws = true) (q : MT M t b) : MT M1 t b := by
  unfold kMT at h
  simp only [Bool.and_eq_true] at h
  exact MT_c (hf _ _ (nf_cov h.1)).1 (fun i => (hf _ _ (na_cov h.2 i)).1) q
def kCF (ws : List (Nat × Option Nat)) : Bool := !cf_cov ws 5 2 && !cf_cov ws 5 3 && na_ ws 23 && na_ ws 24
theorem CF_f {ws : List (Nat × Option Nat)} {M M1 : cd_M} {w : Nat} {nf : Nat} {fl : Nat → Nat → Nat → Nat} (hf : cf_ ws M M1) (h : kCF ws = true) (q : CF M w nf fl) : CF M1 w nf fl := by
  unfold kCF at h
  simp only [Bool.and_eq_true] at h
  exact CF_c (hf _ _ (nf_cov h.1.1.1)).1 (hf _ _ (nf_cov h.1.1.2)).1 (fun i => (hf _ _ (na_cov h.1.2 i)).2) (fun i => (hf _ _ (na_cov h.2 i)).2) q
def kMF (ws : List (Nat × Option Nat)) : Bool := !cf_cov ws 15 11 && !cf_cov ws 15 12 && na_ ws 58
theorem MF_f {ws : List (Nat × Option Nat)} {M M1 : cd_M} {w : Nat} {nf : Nat} {fl : Nat → Nat → Nat → Nat} (hf : cf_ ws M M1) (h : kMF ws = true) (q : MF M w nf fl) : MF M1 w nf fl := by
  unfold kMF at h
  simp only [Bool.and_eq_true] at h
  exact MF_c (hf _ _ (nf_cov h.1.1)).1 (hf _ _ (nf_cov h.1.2)).1 (fun i => (hf _ _ (na_cov h.2 i)).1) q
def kCR (ws : List (Nat × Option Nat)) : Bool := !cf_cov ws 6 3 && !cf_cov ws 0 10 && na_ ws 25 && na_ ws 26 && na_ ws 27
theorem CR_f {ws : List (Nat × Option Nat)} {M M1 : cd_M} {nc fo : Nat} {ln : Nat → Nat} {nb : Nat → Nat → Nat} {vl : Nat → Nat} (hf : cf_ ws M M1) (h : kCR ws = true) (q : CR M nc fo ln nb vl) : CR M1 nc fo ln nb vl := by
  unfold kCR at h
  simp only [Bool.and_eq_true] at h
  exact CR_c (hf _ _ (nf_cov h.1.1.1.1)).1 (hf _ _ (nf_cov h.1.1.1.2)).1 (fun i => (hf _ _ (na_cov h.1.1.2 i)).1) (fun i => (hf _ _ (na_cov h.1.2 i)).1) (fun i => (hf _ _ (na_cov h.2 i)).1) q
def kMR (ws : List (Nat × Option Nat)) : Bool := !cf_cov ws 15 17 && !cf_cov ws 15 23 && na_ ws 60 && na_ ws 61 && na_ ws 62
theorem MR_f {ws : List (Nat × Option Nat)} {M M1 : cd_M} {nc fo : Nat} {ln : Nat → Nat} {nb : Nat → Nat → Nat} {vl : Nat → Nat} (hf : cf_ ws M M1) (h : kMR ws = true) (q : MR M nc fo ln nb vl) : MR M1 nc fo ln nb vl := by
  unfold kMR at h
  simp only [Bool.and_eq_true] at h
  exact MR_c (hf _ _ (nf_cov h.1.1.1.1)).1 (hf _ _ (nf_cov h.1.1.1.2)).1 (fun i => (hf _ _ (na_cov h.1.1.2 i)).1) (fun i => (hf _ _ (na_cov h.1.2 i)).1) (fun i => (hf _ _ (na_cov h.2 i)).1) q
def kCL (ws : List (Nat × Option Nat)) : Bool := !cf_cov ws 7 1 && na_ ws 28
theorem CL_f {ws : List (Nat × Option Nat)} {M M1 : cd_M} {w : Nat} {n : Nat} {sm : Nat → Nat → Nat} {pa : Nat → Nat} (hf : cf_ ws M M1) (h : kCL ws = true) (q : CL M w n sm pa) : CL M1 w n sm pa := by
  unfold kCL at h
  simp only [Bool.and_eq_true] at h
  exact CL_c (hf _ _ (nf_cov h.1)).1 (fun i => (hf _ _ (na_cov h.2 i)).2) q
def kML (ws : List (Nat × Option Nat)) : Bool := !cf_cov ws 15 24 && na_ ws 64
theorem ML_f {ws : List (Nat × Option Nat)} {M M1 : cd_M} {w : Nat} {n : Nat} {sm : Nat → Nat → Nat} {pa : Nat → Nat} (hf : cf_ ws M M1) (h : kML ws = true) (q : ML M w n sm pa) : ML M1 w n sm pa := by
  unfold kML at h
  simp only [Bool.and_eq_true] at h
  exact ML_c (hf _ _ (nf_cov h.1)).1 (fun i => (hf _ _ (na_cov h.2 i)).1) q
def kCH (ws : List (Nat × Option Nat)) : Bool := !cf_cov ws 8 3 && !cf_cov ws 8 2 && na_ ws 30 && na_ ws 29
theorem CH_f {ws : List (Nat × Option Nat)} {M M1 : cd_M} {w : Nat} {u x : Nat} {hn : Nat → Nat} {hs : Nat → Nat → Nat → Nat} {hp : Nat → Nat → Nat} (hf : cf_ ws M M1) (h : kCH ws = true) (q : CH M w u x hn hs hp) : CH M1 w u x hn hs hp := by
  unfold kCH at h
  simp only [Bool.and_eq_true] at h
  exact CH_c (hf _ _ (nf_cov h.1.1.1)).1 (hf _ _ (nf_cov h.1.1.2)).1 (fun i => (hf _ _ (na_cov h.1.2 i)).1) (fun i => (hf _ _ (na_cov h.2 i)).2) q
def kMH (ws : List (Nat × Option Nat)) : Bool := !cf_cov ws 15 26 && na_ ws 65 && na_ ws 66
theorem MH_f {ws : List (Nat × Option Nat)} {M M1 : cd_M} {w : Nat} {u : Nat} {hn : Nat → Nat} {hs : Nat → Nat → Nat → Nat} {hp : Nat → Nat → Nat} (hf : cf_ ws M M1) (h : kMH ws = true) (q : MH M w u hn hs hp) : MH M1 w u hn hs hp := by
  unfold kMH at h
  simp only [Bool.and_eq_true] at h
  exact MH_c (hf _ _ (nf_cov h.1.1)).1 (fun i => (hf _ _ (na_cov h.1.2 i)).1) (fun i => (hf _ _ (na_cov h.2 i)).1) q
def kCM (ws : List (Nat × Option Nat)) : Bool := na_ ws 35 && na_ ws 36 && na_ ws 37 && na_ ws 38
theorem CM_f {ws : List (Nat × Option Nat)} {M M1 : cd_M} {w : Nat} {nc n : Nat} {ln : Nat → Nat} {nb : Nat → Nat → Nat} {vl : Nat → Nat} {sm : Nat → Nat → Nat} {pa : Nat → Nat} (hf : cf_ ws M M1) (h : kCM ws = true) (q : CM M w nc ln nb vl n sm pa) : CM M1 w nc ln nb vl n sm pa := by
  unfold kCM at h
  simp only [Bool.and_eq_true] at h
  exact CM_c (fun i => (hf _ _ (na_cov h.1.1.1 i)).1) (fun i => (hf _ _ (na_cov h.1.1.2 i)).1) (fun i => (hf _ _ (na_cov h.1.2 i)).1) (fun i => (hf _ _ (na_cov h.2 i)).1) q
def kCX (ws : List (Nat × Option Nat)) : Bool := !cf_cov ws 0 11 && (na_ ws 11 && na_ ws 12 && na_ ws 13) && ws.all (fun q => !(Nat.ble 43 q.1 && Nat.ble q.1 55))
theorem CX_f {ws : List (Nat × Option Nat)} {M M1 : cd_M} {w n L : Nat} {sm : Nat → Nat → Nat} {pa vl nu : Nat → Nat} (hf : cf_ ws M M1) (h : kCX ws = true) (q : CX M w n sm pa vl L nu) : CX M1 w n sm pa vl L nu := by
  unfold kCX at h
  simp only [Bool.and_eq_true] at h
  obtain ⟨⟨h1, ⟨h2, h3⟩, h4⟩, h5⟩ := h
  refine CX_c (fun x i z => hf x i ?_) q
  rcases z with ⟨rfl, rfl⟩ | rfl | rfl | rfl | z
  · exact nf_cov h1
  · exact na_cov h2 i
  · exact na_cov h3 i
  · exact na_cov h4 i
  · apply na_cov
    unfold na_
    rw [List.all_eq_true] at h5 ⊢
    intro p hp
    have := h5 p hp
    simp only [Bool.not_eq_true', Bool.and_eq_false_iff, Nat.ble_eq] at this ⊢
    cases y : Nat.beq p.1 x with
    | false => rfl
    | true =>
      exfalso
      have y1 := Nat.eq_of_beq_eq_true y
      rcases this with u | u
      · rw [y1] at u
        have : Nat.ble 43 x = true := Nat.ble_eq.mpr z.1
        rw [this] at u
        cases u
      · rw [y1] at u
        have : Nat.ble x 55 = true := Nat.ble_eq.mpr z.2
        rw [this] at u
        cases u
