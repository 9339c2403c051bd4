/-! what stands between the two: one invariant -/
abbrev dD : Type := Nat → Nat → Nat
/-- a district that can be: D 0: odds, arm, minute, kinds, people, things; D 1 .. 3 of a kind: step, spot, weight; D 4 .. 6 of a person: name, home, reach; D 7 .. 12 of a thing: owner, kind, worth, lost, scratched (0: not, else its minute and 1), found -/
def dV (D : dD) : Prop := (D 0 0 ≤ 16 ∧ D 0 1 ≤ 59 ∧ D 0 2 ≤ 9999 ∧ D 0 3 ≤ 5 ∧ D 0 4 ≤ 7 ∧ D 0 5 ≤ 8) ∧ (∀ k, k < D 0 3 → 1 ≤ D 1 k ∧ D 1 k ≤ 9 ∧ D 2 k ≤ 9 ∧ 1 ≤ D 3 k ∧ D 3 k ≤ 9) ∧ (∀ p, p < D 0 4 → D 4 p < 2 ^ 45 ∧ D 5 p ≤ 59 ∧ D 6 p < 1024) ∧ ∀ t, t < D 0 5 → D 7 t < D 0 4 ∧ D 8 t < D 0 3 ∧ 1 ≤ D 9 t ∧ D 9 t ≤ 9 ∧ D 10 t ≤ 9999 ∧ D 11 t ≤ 10000 ∧ D 12 t ≤ 10100
/-- the district, in the class at place P -/
def dC (s : fu_S) (P : Nat) (D : dD) : Prop := (s.1 P 0 = Int32.ofNat (D 0 0) ∧ s.1 P 1 = Int32.ofNat (D 0 1) ∧ s.1 P 2 = Int32.ofNat (D 0 2) ∧ s.1 P 3 = Int32.ofNat (D 0 3) ∧ s.1 P 4 = Int32.ofNat (D 0 4) ∧ s.1 P 5 = Int32.ofNat (D 0 5)) ∧
  (∀ k, k < D 0 3 → s.1 (P + 1) k = Int32.ofNat (D 1 k) ∧ s.1 (P + 2) k = Int32.ofNat (D 2 k) ∧ s.1 (P + 3) k = Int32.ofNat (D 3 k)) ∧
  (∀ p, p < D 0 4 → s.2 (P + 4) p = Int64.ofNat (D 4 p) ∧ s.1 (P + 5) p = Int32.ofNat (D 5 p) ∧ s.1 (P + 6) p = Int32.ofNat (D 6 p)) ∧
  ∀ t, t < D 0 5 → s.1 (P + 7) t = Int32.ofNat (D 7 t) ∧ s.1 (P + 8) t = Int32.ofNat (D 8 t) ∧ s.1 (P + 9) t = Int32.ofNat (D 9 t) ∧ s.1 (P + 10) t = Int32.ofNat (D 10 t) ∧ s.1 (P + 11) t = (if D 11 t = 0 then -1 else Int32.ofNat (D 11 t - 1)) ∧ (D 11 t ≠ 0 → s.1 (P + 12) t = Int32.ofNat (D 12 t))
/-- the district, in the reference's block b -/
def dR (s : fu_S) (b : Nat) (D : dD) : Prop := (s.1 122 (355 * b) = Int32.ofNat (D 0 3) ∧ s.1 122 (355 * b + 1) = Int32.ofNat (D 0 4) ∧ s.1 122 (355 * b + 2) = Int32.ofNat (D 0 5) ∧ s.1 122 (355 * b + 3) = Int32.ofNat (D 0 0) ∧ s.1 122 (355 * b + 4) = Int32.ofNat (D 0 1) ∧ s.1 122 (355 * b + 5) = Int32.ofNat (D 0 2)) ∧
  (∀ k, k < D 0 3 → s.1 122 (355 * b + 6 + k) = Int32.ofNat (D 1 k) ∧ s.1 122 (355 * b + 11 + k) = Int32.ofNat (D 2 k) ∧ s.1 122 (355 * b + 16 + k) = Int32.ofNat (D 3 k)) ∧
  (∀ p, p < D 0 4 → s.2 124 (7 * b + p) = Int64.ofNat (D 4 p) ∧ s.1 122 (355 * b + 21 + p) = Int32.ofNat (D 5 p) ∧ s.1 122 (355 * b + 28 + p) = Int32.ofNat (D 6 p)) ∧
  ∀ t, t < D 0 5 → s.1 122 (355 * b + 35 + t) = Int32.ofNat (D 7 t) ∧ s.1 122 (355 * b + 43 + t) = Int32.ofNat (D 8 t) ∧ s.1 122 (355 * b + 51 + t) = Int32.ofNat (D 9 t) ∧ s.1 122 (355 * b + 59 + t) = Int32.ofNat (D 10 t) ∧ s.1 122 (355 * b + 67 + t) = Int32.ofNat (D 11 t) ∧ (D 11 t ≠ 0 → s.1 122 (355 * b + 75 + t) = Int32.ofNat (D 12 t))
/-- what a step says, in the class's line and in the reference's nine cells (kinds 0 wait, 1 lose, 2 scratch, 3 any, 4 when, 5 loop, 6 stop) -/
def dS (s1 : fu_S) (P : Nat) (s2 : fu_S) (w : Nat) (D : dD) (l : Nat) : Prop :=
  (s1.1 (P + 1) l = 112 ∧ s2.1 122 w = 0 ∧ ∃ n, 1 ≤ n ∧ n ≤ 99 ∧ s1.1 (P + 2) l = Int32.ofNat n ∧ s2.1 122 (w + 1) = Int32.ofNat n) ∨
  (s1.1 (P + 1) l = 111 ∧ s2.1 122 w = 1 ∧ ∃ p k, p < D 0 4 ∧ k < D 0 3 ∧ s1.1 (P + 2) l = Int32.ofNat p ∧ s2.1 122 (w + 1) = Int32.ofNat p ∧ s1.1 (P + 3) l = Int32.ofNat k ∧ s2.1 122 (w + 2) = Int32.ofNat k) ∨
  (s1.1 (P + 1) l = 113 ∧ s2.1 122 w = 2 ∧ ∃ p t, p < D 0 4 ∧ t < 8 ∧ s1.1 (P + 2) l = Int32.ofNat p ∧ s2.1 122 (w + 1) = Int32.ofNat p ∧ s1.1 (P + 3) l = Int32.ofNat t ∧ s2.1 122 (w + 2) = Int32.ofNat t) ∨
  (s1.1 (P + 1) l = 114 ∧ s2.1 122 w = 3 ∧ s1.1 (P + 2) l = 0 ∧ s1.1 (P + 3) l = 0) ∨
  (s1.1 (P + 1) l = 121 ∧ s2.1 122 w = 6)
/-- a when's test, a loop's count -/
def dT (s1 : fu_S) (P : Nat) (s2 : fu_S) (w : Nat) (l : Nat) : Prop :=
  (s1.1 (P + 1) l = 119 ∧ s2.1 122 w = 5 ∧ ∃ n, 1 ≤ n ∧ n ≤ 99 ∧ s1.1 (P + 2) l = Int32.ofNat n ∧ s2.1 122 (w + 1) = Int32.ofNat n) ∨
  (s1.1 (P + 1) l = 115 ∧ s2.1 122 w = 4 ∧ ((s1.1 (P + 2) l = 116 ∧ s2.1 122 (w + 5) = 0 ∧ ∃ t, t < 8 ∧ s1.1 (P + 3) l = Int32.ofNat t ∧ s2.1 122 (w + 1) = Int32.ofNat t) ∨
    (s1.1 (P + 2) l = 117 ∧ s2.1 122 (w + 5) = 1 ∧ ∃ t, t < 8 ∧ s1.1 (P + 3) l = Int32.ofNat t ∧ s2.1 122 (w + 1) = Int32.ofNat t) ∨
    (s2.1 122 (w + 5) = 2 ∧ (s1.1 (P + 2) l = 60 ∨ s1.1 (P + 2) l = 62 ∨ s1.1 (P + 2) l = 61) ∧ s2.1 122 (w + 7) = s1.1 (P + 2) l ∧ ∃ n, n ≤ 9999 ∧ s1.1 (P + 3) l = Int32.ofNat n ∧ s2.1 122 (w + 6) = Int32.ofNat n)))
/-- the steps lo .. hi of the reference's block b stand in the class's lines l .. e of the plan at P; g: how deep they may still go; f: fuel -/
def dW (s1 : fu_S) (P : Nat) (s2 : fu_S) (b : Nat) (D : dD) : Nat → Nat → Nat → Nat → Nat → Nat → Prop
  | 0, _, _, _, _, _ => False
  | f + 1, g, lo, hi, l, e => (lo = hi ∧ l = e) ∨ (lo < hi ∧ l < e ∧
    ((dS s1 P s2 (355 * b + 85 + 9 * lo) D l ∧ s2.1 122 (355 * b + 85 + 9 * lo + 8) = Int32.ofNat (lo + 1) ∧ dW s1 P s2 b D f g (lo + 1) hi (l + 1) e) ∨
     (dT s1 P s2 (355 * b + 85 + 9 * lo) l ∧ 0 < g ∧ ∃ n m, lo < n ∧ n ≤ hi ∧ l < m ∧ m < e ∧ s2.1 122 (355 * b + 85 + 9 * lo + 8) = Int32.ofNat n ∧ s1.1 (P + 4) l = Int32.ofNat m ∧ s1.1 (P + 1) m = 120 ∧ s1.1 (P + 4) m = Int32.ofNat l ∧ dW s1 P s2 b D f (g - 1) (lo + 1) n (l + 1) m ∧ dW s1 P s2 b D f g n hi (m + 1) e)))
/-- the days -/
def dQ (s1 : fu_S) (P : Nat) (s2 : fu_S) (b : Nat) (D : dD) : Prop := ∃ n m, n ≤ 60 ∧ m ≤ 30 ∧ s1.1 P 4 = Int32.ofNat n ∧ s1.1 P 5 = Int32.ofNat m ∧ s2.1 122 (355 * b + 84) = Int32.ofNat m ∧ (fu_tb (s1.1 P 6) = decide (s2.1 122 (355 * b + 83) ≠ 0)) ∧ dW s1 P s2 b D 100 3 0 m 0 n
/-- the trays -/
def dTr (s1 s2 : fu_S) : Prop := ∀ t, t < 4 → (s1.1 4 t = -1 ∧ s2.1 119 t = -1) ∨ ∃ n so, n ≤ 60 ∧ so < 4 ∧ s1.1 4 t = Int32.ofNat n ∧ s2.1 119 t = Int32.ofNat n ∧ s1.1 3 t = Int32.ofNat so ∧ s2.1 118 t = Int32.ofNat so ∧ ∀ p, p < n → s1.2 2 (60 * t + p) = s2.2 120 (60 * t + p)
/-- the tape, what the latest text was faulted for -/
def dTp (s1 s2 : fu_S) : Prop := (∃ n, n ≤ 900 ∧ s1.1 5 2 = Int32.ofNat n ∧ s2.1 117 8 = Int32.ofNat n ∧ ∀ i, i < n → s1.1 7 i = s2.1 121 i ∧ fu_by (s1.1 7 i) = s1.1 7 i) ∧ s1.1 5 8 = s2.1 117 10 ∧ s1.1 5 9 = s2.1 117 11
/-- the words' codes; nobody is left behind the last thing -/
def dWd (s : fu_S) : Prop := (∀ x ∈ ini_ll, x.1 = 6 → s.2 x.1 x.2.1 = x.2.2) ∧ ∀ i, 1024 ≤ i → i < 1152 → s.1 113 i = 0
/-- what was lived -/
def dLv (s1 s2 : fu_S) : Prop := fu_tb (s1.1 106 8) = fu_tb (s2.1 117 31) ∧ (fu_tb (s1.1 106 8) = true → s1.1 106 3 = s2.1 127 0 ∧ s1.1 106 4 = s2.1 127 1 ∧ s1.1 106 5 = s2.1 127 2 ∧ s1.1 106 6 = s2.1 127 3 ∧ s1.1 106 7 = s2.1 127 4)
/-- a district with its days, in the class at P and Q, in the reference's block b -/
def dB (s1 : fu_S) (P Q : Nat) (s2 : fu_S) (b : Nat) : Prop := ∃ D, dV D ∧ dC s1 P D ∧ dR s2 b D ∧ dQ s1 Q s2 b D
/-- all but status -/
def dJ (s1 s2 : fu_S) : Prop := (s1.2 0 16 = s2.2 117 2 ∧ s1.2 0 17 = s2.2 117 3) ∧ dTr s1 s2 ∧ dTp s1 s2 ∧ dWd s1 ∧ dLv s1 s2 ∧ dB s1 11 24 s2 0 ∧ ∃ m, m ≤ 3 ∧ s1.1 0 14 = Int32.ofNat m ∧ s2.1 117 23 = Int32.ofNat m ∧ ∀ j, j < m → dB s1 (51 + 13 * j) (91 + 5 * j) s2 (j + 1)
/-- the invariant -/
def dI (s1 s2 : fu_S) : Prop := s1.1 0 15 = s2.1 117 0 ∧ dJ s1 s2
