/-! what the path is, over plain numbers -/
def gp_ (a b : Nat) : Nat := if a ≤ b then b - a else a - b
def sum_ (s t : Nat → Nat) : Nat → Nat
  | 0 => 0
  | w + 1 => sum_ s t w + gp_ (s w) (t w)
def most_ (s t : Nat → Nat) : Nat → Nat
  | 0 => 0
  | w + 1 => if most_ s t w < gp_ (s w) (t w) then gp_ (s w) (t w) else most_ s t w
def many_ (s t : Nat → Nat) : Nat → Nat
  | 0 => 0
  | w + 1 => many_ s t w + (if 0 < gp_ (s w) (t w) then 1 else 0)
/-- how far two rows are apart, by the measure -/
def dist_ (m w : Nat) (s t : Nat → Nat) : Nat := if m = 0 then sum_ s t w else if m = 1 then most_ s t w else many_ s t w
section spA
variable (w : Nat) (sm : Nat → Nat → Nat) (pa vl : Nat → Nat)
def frs_ (i : Nat) : Nat := if 2 ≤ i ∧ pa i = pa (i - 2) ∧ dist_ (vl 4) w (sm i) (sm (i - 2)) ≤ vl 0 then vl 2 else 0
def rep_ (i : Nat) : Nat := if 2 ≤ i ∧ ¬ dist_ (vl 4) w (sm i) (sm (i - 2)) ≤ vl 0 then (if 999 < dist_ (vl 4) w (sm i) (sm (i - 2)) then 999 else dist_ (vl 4) w (sm i) (sm (i - 2))) else 0
end spA
/-- states: 25 place + 5 step + seen -/
abbrev vld_ (L : Nat) (nu : Nat → Nat) (st : Nat) : Prop := st / 25 < L ∧ st / 5 % 5 < nu (st / 25) ∧ st % 5 ≤ st / 5 % 5
def ons_ (L : Nat) (nu : Nat → Nat) (st : Nat) : Nat := if st / 5 % 5 + 1 < nu (st / 25) then st + 6 else 25 * ((st / 25 + 1) % L)
def ent_ (L : Nat) (nu : Nat → Nat) (st : Nat) : Bool := decide (vld_ L nu st ∧ st % 5 = 0)
/-- the first of the least ones below b (0 is one) -/
def fst_ (P : Nat → Bool) (V : Nat → Nat) : Nat → Nat
  | 0 => 0
  | b + 1 => if P b = true ∧ V b < V (fst_ P V b) then b else fst_ P V b
section spB
variable (n : Nat) (pa fr rp : Nat → Nat) (L : Nat) (nu : Nat → Nat) (ed : Nat)
/-- what a field costs by a state -/
def ca_ (f st : Nat) : Nat := if st % 5 < 2 then fr f else rp f
/-- the weight of a field, g ahead of the last, and of all behind it -/
def wt_ : Nat → Nat → Nat
  | 0 => fun st => 128 * ca_ fr rp (n - 1) st
  | g + 1 => fun st => 128 * ca_ fr rp (n - 1 - (g + 1)) st +
      (if pa (n - 1 - g) ≠ pa (n - 1 - (g + 1)) ∧ wt_ g (ons_ L nu st) < wt_ g (fst_ (ent_ L nu) (wt_ g) 150) + 128 * ed + 1 then wt_ g (ons_ L nu st) else wt_ g (fst_ (ent_ L nu) (wt_ g) 150) + 128 * ed + 1)
/-- by field -/
def W_ (f : Nat) : Nat → Nat := wt_ n pa fr rp L nu ed (n - 1 - f)
def en_ (f : Nat) : Nat := fst_ (ent_ L nu) (W_ n pa fr rp L nu ed f) 150
def bye_ (f : Nat) : Nat := W_ n pa fr rp L nu ed f (en_ n pa fr rp L nu ed f) + 128 * ed + 1
/-- whether field f + 1 goes on from st -/
def on_ (f st : Nat) : Bool := decide (pa (f + 1) ≠ pa f ∧ (W_ n pa fr rp L nu ed (f + 1) (ons_ L nu st) < bye_ n pa fr rp L nu ed (f + 1) ∨ W_ n pa fr rp L nu ed (f + 1) (ons_ L nu st) = bye_ n pa fr rp L nu ed (f + 1) ∧ ons_ L nu st < en_ n pa fr rp L nu ed (f + 1)))
/-- the path -/
def sts_ : Nat → Nat
  | 0 => en_ n pa fr rp L nu ed 0
  | f + 1 => if on_ n pa fr rp L nu ed f (sts_ f) = true then ons_ L nu (sts_ f) else en_ n pa fr rp L nu ed (f + 1)
def edt_ (f : Nat) : Bool := match f with
  | 0 => false
  | f + 1 => !on_ n pa fr rp L nu ed f (sts_ n pa fr rp L nu ed f)
def cst_ (f : Nat) : Nat := ca_ fr rp f (sts_ n pa fr rp L nu ed f) + (if edt_ n pa fr rp L nu ed f = true then ed else 0)
end spB
/-- sums and counts -/
def sig_ (c : Nat → Nat) : Nat → Nat
  | 0 => 0
  | k + 1 => sig_ c k + c k
def cnt_ (P : Nat → Bool) : Nat → Nat
  | 0 => 0
  | k + 1 => cnt_ P k + (if P k = true then 1 else 0)
/-- the first below b, or b -/
def fnd_ (P : Nat → Bool) : Nat → Nat
  | 0 => 0
  | b + 1 => if fnd_ P b < b then fnd_ P b else if P b = true then b else b + 1
