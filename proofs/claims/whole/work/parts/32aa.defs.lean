/-! what the class keeps of the path: definitions -/
def bn_ (b : Bool) : Nat := if b = true then 1 else 0
abbrev SS (w n : Nat) (sm : Nat → Nat → Nat) (pa vl : Nat → Nat) (L : Nat) (nu : Nat → Nat) : Nat → Nat := sts_ n pa (frs_ w sm pa vl) (rep_ w sm vl) L nu (vl 1)
abbrev EE (w n : Nat) (sm : Nat → Nat → Nat) (pa vl : Nat → Nat) (L : Nat) (nu : Nat → Nat) : Nat → Bool := edt_ n pa (frs_ w sm pa vl) (rep_ w sm vl) L nu (vl 1)
abbrev CO (w n : Nat) (sm : Nat → Nat → Nat) (pa vl : Nat → Nat) (L : Nat) (nu : Nat → Nat) : Nat → Nat := cst_ n pa (frs_ w sm pa vl) (rep_ w sm vl) L nu (vl 1)
/-- dropped -/
def dr_ (ss : Nat → Nat) (i : Nat) : Bool := decide (2 ≤ ss i % 5)
def TK (M : cd_M) (ss : Nat → Nat) (ee : Nat → Bool) (cc : Nat → Nat) (k : Nat) : Prop := M.1 11 6 = nI k ∧ M.1 11 7 = nI (cnt_ ee k) ∧ M.1 11 8 = nI (cnt_ (dr_ ss) k) ∧ M.1 11 9 = nI (sig_ cc k) ∧ (∀ i, i < k → M.1 43 i = nI (ss i / 25) ∧ M.1 44 i = nI (ss i / 5 % 5) ∧ M.1 45 i = nI (ss i % 5) ∧ M.1 46 i = nI (bn_ (ee i)) ∧ M.1 47 i = nI (cc i)) ∧ ∀ i, i < k → ee i = true → M.1 48 (cnt_ ee i) = nI i
/-- the k-th below b for which P holds, or b -/
def sel_ (P : Nat → Bool) (k : Nat) : Nat → Nat
  | 0 => 0
  | b + 1 => if sel_ P k b < b then sel_ P k b else if P b = true ∧ cnt_ P b = k then b else b + 1
/-- where a group begins -/
def fi_ (ss : Nat → Nat) (i : Nat) : Bool := decide (ss i % 5 = 0)
/-! mates -/
section grD
variable (w n : Nat) (sm : Nat → Nat → Nat) (pa vl : Nat → Nat) (P : Nat → Bool)
def gs_ (g : Nat) : Nat := sel_ P g n
def orp_ (g : Nat) : Bool := decide (gs_ n P (g + 1) = gs_ n P g + 1)
def can_ (g : Nat) : Bool := decide (g + 1 < cnt_ P n ∧ orp_ n P g = true ∧ orp_ n P (g + 1) = true ∧ pa (gs_ n P g) ≠ pa (gs_ n P (g + 1)) ∧ dist_ (vl 4) w (sm (gs_ n P g)) (sm (gs_ n P (g + 1))) ≤ vl 3)
def mt_ : Nat → Bool
  | 0 => can_ w n sm pa vl P 0
  | g + 1 => !mt_ g && can_ w n sm pa vl P (g + 1)
def sec_ (g : Nat) : Bool := match g with
  | 0 => false
  | g + 1 => mt_ w n sm pa vl P g
def nsc_ (g : Nat) : Bool := !sec_ w n sm pa vl P g
/-- with which it is mated -/
def mo_ (g : Nat) : Int32 := if mt_ w n sm pa vl P g = true then nI (g + 1) else if sec_ w n sm pa vl P g = true then nI (g - 1) else -1
def pt_ (g : Nat) : Nat := if orp_ n P g = true then (if mt_ w n sm pa vl P g = true then gs_ n P (g + 1) else gs_ n P g) else gs_ n P g + 1
/-- the field of parity p for the frame of group g -/
def ff_ (g p : Nat) : Nat := if pa (gs_ n P g) = p then gs_ n P g else pt_ w n sm pa vl P g
/-- of found frame x -/
def fx_ (x p : Nat) : Nat := ff_ w n sm pa vl P (sel_ (nsc_ w n sm pa vl P) x (cnt_ P n)) p
end grD
/-- groups without mates: what stays while these are sought -/
def GB0 (M : cd_M) (n : Nat) (P : Nat → Bool) : Prop := M.1 12 6 = nI (cnt_ P n) ∧ (∀ i, i < n → M.1 49 i = nI (cnt_ P (i + 1) - 1)) ∧ ∀ g, g < cnt_ P n → M.1 50 g = nI (gs_ n P g) ∧ M.1 51 g = nI (gs_ n P (g + 1) - gs_ n P g)
/-- groups, mates and frames, all laid -/
def GR (M : cd_M) (w n : Nat) (sm : Nat → Nat → Nat) (pa vl : Nat → Nat) (P : Nat → Bool) : Prop := GB0 M n P ∧ M.1 12 7 = nI (cnt_ (orp_ n P) (cnt_ P n)) ∧ M.1 12 8 = nI (cnt_ (mt_ w n sm pa vl P) (cnt_ P n)) ∧ (∀ g, g < cnt_ P n → M.1 52 g = mo_ w n sm pa vl P g ∧ M.1 53 g = nI (cnt_ (nsc_ w n sm pa vl P) (g + 1) - 1)) ∧ M.1 13 3 = nI (cnt_ (nsc_ w n sm pa vl P) (cnt_ P n)) ∧ ∀ x, x < cnt_ (nsc_ w n sm pa vl P) (cnt_ P n) → M.2 54 x = lN (rw_ (sm (fx_ w n sm pa vl P x 0)) w) ∧ M.2 55 x = lN (rw_ (sm (fx_ w n sm pa vl P x 1)) w)
