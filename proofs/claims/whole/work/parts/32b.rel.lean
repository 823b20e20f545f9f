/-! how the memory holds the plain state: C.. of the class, M.. of the reference -/
/-- byte j of a word of the tape -/
def cby_ (w : Int32) (j : Nat) : Int32 := (w.toUInt32 >>> ((nI (24 - 8 * j)).toUInt32 &&& Int32.toUInt32 31)).toInt32 &&& 255
def CT (M : cd_M) (t : Nat) (b : Nat → Nat) : Prop := M.1 2 1 = nI t ∧ t ≤ 225 ∧ ∀ i, i < 4 * t → b i < 256 ∧ cby_ (M.1 17 (i / 4)) (i % 4) = nI (b i)
def MT (N : cd_M) (t : Nat) (b : Nat → Nat) : Prop := N.1 15 2 = nI (4 * t) ∧ ∀ i, i < 4 * t → N.1 57 i &&& 255 = nI (b i)
def CF (M : cd_M) (w nf : Nat) (fl : Nat → Nat → Nat → Nat) : Prop := M.1 5 2 = nI w ∧ M.1 5 3 = nI nf ∧ ∀ f, f < nf → M.2 23 f = lN (rw_ (fl f 0) w) ∧ M.2 24 f = lN (rw_ (fl f 1) w)
def MF (N : cd_M) (w nf : Nat) (fl : Nat → Nat → Nat → Nat) : Prop := N.1 15 11 = nI w ∧ N.1 15 12 = nI nf ∧ ∀ f p k, f < nf → p < 2 → k < w → N.1 58 (6 * (2 * f + p) + k) = nI (fl f p k)
def BF (w nf : Nat) (fl : Nat → Nat → Nat → Nat) : Prop := w ≤ 6 ∧ nf ≤ 20 ∧ ∀ f p k, f < nf → p < 2 → k < w → fl f p k ≤ 99
def CR (M : cd_M) (nc fo : Nat) (ln : Nat → Nat) (nb : Nat → Nat → Nat) (vl : Nat → Nat) : Prop := M.1 6 3 = nI nc ∧ M.1 0 10 = nI fo ∧ (∀ c, c < nc → M.1 26 c = nI (ln c)) ∧ (∀ c i, c < nc → i < ln c → M.1 25 (6 * c + i) = nI (nb c i)) ∧ ∀ v, v < 5 → M.1 27 v = nI (vl v)
def MR (N : cd_M) (nc fo : Nat) (ln : Nat → Nat) (nb : Nat → Nat → Nat) (vl : Nat → Nat) : Prop := N.1 15 17 = nI nc ∧ N.1 15 23 = nI fo ∧ (∀ c, c < nc → N.1 60 c = nI (ln c)) ∧ (∀ c i, c < nc → i < ln c → N.1 61 (6 * c + i) = nI (nb c i)) ∧ ∀ v, v < 5 → N.1 62 v = nI (vl v)
def BR (nc fo : Nat) (ln : Nat → Nat) (nb : Nat → Nat → Nat) (vl : Nat → Nat) : Prop := 1 ≤ nc ∧ nc ≤ 4 ∧ fo < nc ∧ (∀ c, c < nc → 1 ≤ ln c ∧ ln c ≤ 6) ∧ (∀ c i, c < nc → i < ln c → 2 ≤ nb c i ∧ nb c i ≤ 5) ∧ (∀ v, v < 5 → vl v ≤ 999) ∧ vl 4 ≤ 2
def CL (M : cd_M) (w n : Nat) (sm : Nat → Nat → Nat) (pa : Nat → Nat) : Prop := M.1 7 1 = nI n ∧ ∀ i, i < n → M.2 28 i = lN (fd_ (sm i) w (pa i))
def ML (N : cd_M) (w n : Nat) (sm : Nat → Nat → Nat) (pa : Nat → Nat) : Prop := N.1 15 24 = nI n ∧ (∀ i k, i < n → k < w → N.1 64 (7 * i + k) = nI (sm i k)) ∧ ∀ i, i < n → N.1 64 (7 * i + 6) = nI (pa i)
def BL (w n : Nat) (sm : Nat → Nat → Nat) (pa : Nat → Nat) : Prop := n ≤ 90 ∧ (∀ i k, i < n → k < w → sm i k ≤ 99) ∧ ∀ i, i < n → pa i < 2
def CH (M : cd_M) (w u x : Nat) (hn : Nat → Nat) (hs : Nat → Nat → Nat → Nat) (hp : Nat → Nat → Nat) : Prop := M.1 8 3 = nI u ∧ M.1 8 2 = nI x ∧ x < 12 ∧ ∀ j, j < u → M.1 30 ((x + 12 - u + j) % 12) = nI (hn j) ∧ ∀ i, i < hn j → M.2 29 (90 * ((x + 12 - u + j) % 12) + i) = lN (fd_ (hs j i) w (hp j i))
def MH (N : cd_M) (w u : Nat) (hn : Nat → Nat) (hs : Nat → Nat → Nat → Nat) (hp : Nat → Nat → Nat) : Prop := N.1 15 26 = nI u ∧ ∀ j, j < u → N.1 65 j = nI (hn j) ∧ ∀ i, i < hn j → (∀ k, k < w → N.1 66 (630 * j + (7 * i + k)) = nI (hs j i k)) ∧ N.1 66 (630 * j + (7 * i + 6)) = nI (hp j i)
def BH (w u : Nat) (hn : Nat → Nat) (hs : Nat → Nat → Nat → Nat) (hp : Nat → Nat → Nat) : Prop := u ≤ 12 ∧ ∀ j, j < u → BL w (hn j) (hs j) (hp j)
/-- nothing is known of the path -/
def clr_ (M : cd_M) : Prop := M.1 0 11 = 0 ∧ ∀ c, c < 4 → M.1 35 c = 0
/-- what the class keeps of the cadences that it measured -/
def CM (M : cd_M) (w : Nat) (nc : Nat) (ln : Nat → Nat) (nb : Nat → Nat → Nat) (vl : Nat → Nat) (n : Nat) (sm : Nat → Nat → Nat) (pa : Nat → Nat) : Prop := ∀ c, c < nc → M.1 35 c = 0 ∨
  (M.1 36 c = nI (sig_ (cst_ n pa (frs_ w sm pa vl) (rep_ w sm vl) (ln c) (nb c) (vl 1)) n) ∧ (0 < n → M.1 37 c = nI (sts_ n pa (frs_ w sm pa vl) (rep_ w sm vl) (ln c) (nb c) (vl 1) 0 / 25) ∧ M.1 38 c = nI (sts_ n pa (frs_ w sm pa vl) (rep_ w sm vl) (ln c) (nb c) (vl 1) 0 / 5 % 5)))
/-- nothing is known of the path by the cadence in force, or all of it -/
def CX (M : cd_M) (w n : Nat) (sm : Nat → Nat → Nat) (pa vl : Nat → Nat) (L : Nat) (nu : Nat → Nat) : Prop := M.1 0 11 = 0 ∨ (M.1 0 11 = 1 ∧ TK M (SS w n sm pa vl L nu) (EE w n sm pa vl L nu) (CO w n sm pa vl L nu) n ∧ GR M w n sm pa vl (fi_ (SS w n sm pa vl L nu)))
/-- all of it, the class in M, the reference in N -/
def Rel2 (M N : cd_M) : Prop := ∃ (t : Nat) (b : Nat → Nat) (w nf : Nat) (fl : Nat → Nat → Nat → Nat) (nc fo : Nat) (ln : Nat → Nat) (nb : Nat → Nat → Nat) (vl : Nat → Nat) (n : Nat) (sm : Nat → Nat → Nat) (pa : Nat → Nat) (u x : Nat) (hn : Nat → Nat) (hs : Nat → Nat → Nat → Nat) (hp : Nat → Nat → Nat),
  (CT M t b ∧ MT N t b) ∧ (CF M w nf fl ∧ MF N w nf fl ∧ BF w nf fl) ∧ (CR M nc fo ln nb vl ∧ MR N nc fo ln nb vl ∧ BR nc fo ln nb vl) ∧ (CL M w n sm pa ∧ ML N w n sm pa ∧ BL w n sm pa) ∧ (CH M w u x hn hs hp ∧ MH N w u hn hs hp ∧ BH w u hn hs hp) ∧ CM M w nc ln nb vl n sm pa ∧ CX M w n sm pa vl (ln fo) (nb fo)
def Rel (M : cd_M) : Prop := Rel2 M M
