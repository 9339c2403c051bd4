/-! the small machine's steps over a heap of numbers, one by one -/
section FUS
variable {α : Type} {sh : Nat → Option fu_K} {C : Nat → List Value → fu_S → Option (Option Value × fu_S)} {rt : Option FieldType} {code : List am_I} {pc n p q x' : Nat} {ls st : List Value} {s : fu_S} {v : Value} {a : Nat} {rf : Nat → Option Nat} {N : Nat} {f : Nat → Nat}
theorem fu_getI {x0 : Nat} (hat : am_at code pc = some (.getfield x0, n, p, q, v)) (hs : sh a = some (.inl (p, rf))) (hr : rf q = none) (ht : fu_ty p q = 0) : am_X (fu_ho sh) C rt code pc ls (.ref a :: st) s = am_X (fu_ho sh) C rt code (pc + n) ls (.int (s.1 a q) :: st) (s) :=
  am_X_step hat (c' := (pc + n, ls, .int (s.1 a q) :: st, s)) (by simp [am_step, fu_ho, hs, hr, ht])
theorem fu_getB {x0 : Nat} (hat : am_at code pc = some (.getfield x0, n, p, q, v)) (hs : sh a = some (.inl (p, rf))) (hr : rf q = none) (ht : fu_ty p q = 1) : am_X (fu_ho sh) C rt code pc ls (.ref a :: st) s = am_X (fu_ho sh) C rt code (pc + n) ls (.int (fu_b (fu_tb (s.1 a q))) :: st) (s) :=
  am_X_step hat (c' := (pc + n, ls, .int (fu_b (fu_tb (s.1 a q))) :: st, s)) (by simp [am_step, fu_ho, hs, hr, ht])
theorem fu_getL {x0 : Nat} (hat : am_at code pc = some (.getfield x0, n, p, q, v)) (hs : sh a = some (.inl (p, rf))) (hr : rf q = none) (ht : fu_ty p q = 2) : am_X (fu_ho sh) C rt code pc ls (.ref a :: st) s = am_X (fu_ho sh) C rt code (pc + n) ls (.long (s.2 a q) :: st) (s) :=
  am_X_step hat (c' := (pc + n, ls, .long (s.2 a q) :: st, s)) (by simp [am_step, fu_ho, hs, hr, ht])
theorem fu_getR {x0 : Nat} (hat : am_at code pc = some (.getfield x0, n, p, q, v)) {b : Nat} (hs : sh a = some (.inl (p, rf))) (hr : rf q = some b) (ht : fu_ty p q = 3) : am_X (fu_ho sh) C rt code pc ls (.ref a :: st) s = am_X (fu_ho sh) C rt code (pc + n) ls (.ref b :: st) (s) :=
  am_X_step hat (c' := (pc + n, ls, .ref b :: st, s)) (by simp [am_step, fu_ho, hs, hr, ht])
theorem fu_putI {x0 : Nat} (hat : am_at code pc = some (.putfield x0, n, p, q, v)) {x : Int32} (hs : sh a = some (.inl (p, rf))) (hr : rf q = none) (ht : fu_ty p q = 0) : am_X (fu_ho sh) C rt code pc ls (.int x :: .ref a :: st) s = am_X (fu_ho sh) C rt code (pc + n) ls (st) (fu_pi s a q x) :=
  am_X_step hat (c' := (pc + n, ls, st, fu_pi s a q x)) (by simp [am_step, fu_ho, hs, hr, ht])
theorem fu_putL {x0 : Nat} (hat : am_at code pc = some (.putfield x0, n, p, q, v)) {x : Int64} (hs : sh a = some (.inl (p, rf))) (hr : rf q = none) (ht : fu_ty p q = 2) : am_X (fu_ho sh) C rt code pc ls (.long x :: .ref a :: st) s = am_X (fu_ho sh) C rt code (pc + n) ls (st) (fu_pl s a q x) :=
  am_X_step hat (c' := (pc + n, ls, st, fu_pl s a q x)) (by simp [am_step, fu_ho, hs, hr, ht])
theorem fu_b01 (b : Bool) : fu_b b = 0 ∨ fu_b b = 1 := by cases b <;> simp [fu_b]
theorem fu_putB {x0 : Nat} (hat : am_at code pc = some (.putfield x0, n, p, q, v)) (b : Bool) (hs : sh a = some (.inl (p, rf))) (hr : rf q = none) (ht : fu_ty p q = 1) : am_X (fu_ho sh) C rt code pc ls (.int (fu_b b) :: .ref a :: st) s = am_X (fu_ho sh) C rt code (pc + n) ls (st) (fu_pi s a q (fu_b b)) :=
  am_X_step hat (c' := (pc + n, ls, st, fu_pi s a q (fu_b b))) (by simp [am_step, fu_ho, hs, hr, ht, fu_b01])
theorem fu_ldI (hat : am_at code pc = some (.iaload, n, p, q, v)) (hs : sh a = some (.inr (0, N, f))) {i : Int32} (hin : am_in i N = true) : am_X (fu_ho sh) C rt code pc ls (.int i :: .ref a :: st) s = am_X (fu_ho sh) C rt code (pc + n) ls (.int (s.1 a i.toNatClampNeg) :: st) (s) :=
  am_X_step hat (c' := (pc + n, ls, .int (s.1 a i.toNatClampNeg) :: st, s)) (by simp [am_step, fu_ho, hs, hin])
theorem fu_ldL (hat : am_at code pc = some (.laload, n, p, q, v)) (hs : sh a = some (.inr (1, N, f))) {i : Int32} (hin : am_in i N = true) : am_X (fu_ho sh) C rt code pc ls (.int i :: .ref a :: st) s = am_X (fu_ho sh) C rt code (pc + n) ls (.long (s.2 a i.toNatClampNeg) :: st) (s) :=
  am_X_step hat (c' := (pc + n, ls, .long (s.2 a i.toNatClampNeg) :: st, s)) (by simp [am_step, fu_ho, hs, hin])
theorem fu_ldB (hat : am_at code pc = some (.baload, n, p, q, v)) (hs : sh a = some (.inr (2, N, f))) {i : Int32} (hin : am_in i N = true) : am_X (fu_ho sh) C rt code pc ls (.int i :: .ref a :: st) s = am_X (fu_ho sh) C rt code (pc + n) ls (.int (s.1 a i.toNatClampNeg) :: st) (s) :=
  am_X_step hat (c' := (pc + n, ls, .int (s.1 a i.toNatClampNeg) :: st, s)) (by simp [am_step, fu_ho, hs, hin])
theorem fu_ldR3 (hat : am_at code pc = some (.aaload, n, p, q, v)) (hs : sh a = some (.inr (3, N, f))) {i : Int32} (hin : am_in i N = true) : am_X (fu_ho sh) C rt code pc ls (.int i :: .ref a :: st) s = am_X (fu_ho sh) C rt code (pc + n) ls (.ref (f i.toNatClampNeg) :: st) (s) :=
  am_X_step hat (c' := (pc + n, ls, .ref (f i.toNatClampNeg) :: st, s)) (by simp [am_step, fu_ho, hs, hin])
theorem fu_ldR4 (hat : am_at code pc = some (.aaload, n, p, q, v)) (hs : sh a = some (.inr (4, N, f))) {i : Int32} (hin : am_in i N = true) : am_X (fu_ho sh) C rt code pc ls (.int i :: .ref a :: st) s = am_X (fu_ho sh) C rt code (pc + n) ls (.ref (f i.toNatClampNeg) :: st) (s) :=
  am_X_step hat (c' := (pc + n, ls, .ref (f i.toNatClampNeg) :: st, s)) (by simp [am_step, fu_ho, hs, hin])
theorem fu_stI (hat : am_at code pc = some (.iastore, n, p, q, v)) {x : Int32} (hs : sh a = some (.inr (0, N, f))) {i : Int32} (hin : am_in i N = true) : am_X (fu_ho sh) C rt code pc ls (.int x :: .int i :: .ref a :: st) s = am_X (fu_ho sh) C rt code (pc + n) ls (st) (fu_pi s a i.toNatClampNeg x) :=
  am_X_step hat (c' := (pc + n, ls, st, fu_pi s a i.toNatClampNeg x)) (by simp [am_step, fu_ho, hs, hin])
theorem fu_stL (hat : am_at code pc = some (.lastore, n, p, q, v)) {x : Int64} (hs : sh a = some (.inr (1, N, f))) {i : Int32} (hin : am_in i N = true) : am_X (fu_ho sh) C rt code pc ls (.long x :: .int i :: .ref a :: st) s = am_X (fu_ho sh) C rt code (pc + n) ls (st) (fu_pl s a i.toNatClampNeg x) :=
  am_X_step hat (c' := (pc + n, ls, st, fu_pl s a i.toNatClampNeg x)) (by simp [am_step, fu_ho, hs, hin])
theorem fu_stB (hat : am_at code pc = some (.bastore, n, p, q, v)) {x : Int32} (hs : sh a = some (.inr (2, N, f))) {i : Int32} (hin : am_in i N = true) : am_X (fu_ho sh) C rt code pc ls (.int x :: .int i :: .ref a :: st) s = am_X (fu_ho sh) C rt code (pc + n) ls (st) (fu_pi s a i.toNatClampNeg (fu_by x)) :=
  am_X_step hat (c' := (pc + n, ls, st, fu_pi s a i.toNatClampNeg (fu_by x))) (by simp [am_step, fu_ho, hs, hin])
theorem fu_div (hat : am_at code pc = some (.idiv, n, p, q, v)) {x y : Int32} (hy : ¬ y = 0) : am_X (fu_ho sh) C rt code pc ls (.int y :: .int x :: st) s = am_X (fu_ho sh) C rt code (pc + n) ls (.int (x / y) :: st) (s) :=
  am_X_step hat (c' := (pc + n, ls, .int (x / y) :: st, s)) (by simp [am_step, hy])
theorem fu_rem (hat : am_at code pc = some (.irem, n, p, q, v)) {x y : Int32} (hy : ¬ y = 0) : am_X (fu_ho sh) C rt code pc ls (.int y :: .int x :: st) s = am_X (fu_ho sh) C rt code (pc + n) ls (.int (x - x / y * y) :: st) (s) :=
  am_X_step hat (c' := (pc + n, ls, .int (x - x / y * y) :: st, s)) (by simp [am_step, hy])
theorem fu_ldiv (hat : am_at code pc = some (.ldiv, n, p, q, v)) {x y : Int64} (hy : ¬ y = 0) : am_X (fu_ho sh) C rt code pc ls (.long y :: .long x :: st) s = am_X (fu_ho sh) C rt code (pc + n) ls (.long (x / y) :: st) (s) :=
  am_X_step hat (c' := (pc + n, ls, .long (x / y) :: st, s)) (by simp [am_step, hy])
theorem fu_lrem (hat : am_at code pc = some (.lrem, n, p, q, v)) {x y : Int64} (hy : ¬ y = 0) : am_X (fu_ho sh) C rt code pc ls (.long y :: .long x :: st) s = am_X (fu_ho sh) C rt code (pc + n) ls (.long (x - x / y * y) :: st) (s) :=
  am_X_step hat (c' := (pc + n, ls, .long (x - x / y * y) :: st, s)) (by simp [am_step, hy])
theorem fu_if_eq_t {f0 : Int} (hat : am_at code pc = some (.ifCond .eq f0, n, p, q, v)) {x : Int32} (hc : x = 0) : am_X (fu_ho sh) C rt code pc ls (.int x :: st) s = am_X (fu_ho sh) C rt code (p) ls (st) (s) :=
  am_X_step hat (c' := (p, ls, st, s)) (by simp only [am_step, if_pos hc])
theorem fu_if_eq_f {f0 : Int} (hat : am_at code pc = some (.ifCond .eq f0, n, p, q, v)) {x : Int32} (hc : ¬ x = 0) : am_X (fu_ho sh) C rt code pc ls (.int x :: st) s = am_X (fu_ho sh) C rt code (pc + n) ls (st) (s) :=
  am_X_step hat (c' := (pc + n, ls, st, s)) (by simp only [am_step, if_neg hc])
theorem fu_if_ne_t {f0 : Int} (hat : am_at code pc = some (.ifCond .ne f0, n, p, q, v)) {x : Int32} (hc : x = 0) : am_X (fu_ho sh) C rt code pc ls (.int x :: st) s = am_X (fu_ho sh) C rt code (pc + n) ls (st) (s) :=
  am_X_step hat (c' := (pc + n, ls, st, s)) (by simp only [am_step, if_pos hc])
theorem fu_if_ne_f {f0 : Int} (hat : am_at code pc = some (.ifCond .ne f0, n, p, q, v)) {x : Int32} (hc : ¬ x = 0) : am_X (fu_ho sh) C rt code pc ls (.int x :: st) s = am_X (fu_ho sh) C rt code (p) ls (st) (s) :=
  am_X_step hat (c' := (p, ls, st, s)) (by simp only [am_step, if_neg hc])
theorem fu_if_lt_t {f0 : Int} (hat : am_at code pc = some (.ifCond .lt f0, n, p, q, v)) {x : Int32} (hc : x < 0) : am_X (fu_ho sh) C rt code pc ls (.int x :: st) s = am_X (fu_ho sh) C rt code (p) ls (st) (s) :=
  am_X_step hat (c' := (p, ls, st, s)) (by simp only [am_step, if_pos hc])
theorem fu_if_lt_f {f0 : Int} (hat : am_at code pc = some (.ifCond .lt f0, n, p, q, v)) {x : Int32} (hc : ¬ x < 0) : am_X (fu_ho sh) C rt code pc ls (.int x :: st) s = am_X (fu_ho sh) C rt code (pc + n) ls (st) (s) :=
  am_X_step hat (c' := (pc + n, ls, st, s)) (by simp only [am_step, if_neg hc])
theorem fu_if_ge_t {f0 : Int} (hat : am_at code pc = some (.ifCond .ge f0, n, p, q, v)) {x : Int32} (hc : x < 0) : am_X (fu_ho sh) C rt code pc ls (.int x :: st) s = am_X (fu_ho sh) C rt code (pc + n) ls (st) (s) :=
  am_X_step hat (c' := (pc + n, ls, st, s)) (by simp only [am_step, if_pos hc])
theorem fu_if_ge_f {f0 : Int} (hat : am_at code pc = some (.ifCond .ge f0, n, p, q, v)) {x : Int32} (hc : ¬ x < 0) : am_X (fu_ho sh) C rt code pc ls (.int x :: st) s = am_X (fu_ho sh) C rt code (p) ls (st) (s) :=
  am_X_step hat (c' := (p, ls, st, s)) (by simp only [am_step, if_neg hc])
theorem fu_if_gt_t {f0 : Int} (hat : am_at code pc = some (.ifCond .gt f0, n, p, q, v)) {x : Int32} (hc : x ≤ 0) : am_X (fu_ho sh) C rt code pc ls (.int x :: st) s = am_X (fu_ho sh) C rt code (pc + n) ls (st) (s) :=
  am_X_step hat (c' := (pc + n, ls, st, s)) (by simp only [am_step, if_pos hc])
theorem fu_if_gt_f {f0 : Int} (hat : am_at code pc = some (.ifCond .gt f0, n, p, q, v)) {x : Int32} (hc : ¬ x ≤ 0) : am_X (fu_ho sh) C rt code pc ls (.int x :: st) s = am_X (fu_ho sh) C rt code (p) ls (st) (s) :=
  am_X_step hat (c' := (p, ls, st, s)) (by simp only [am_step, if_neg hc])
theorem fu_if_le_t {f0 : Int} (hat : am_at code pc = some (.ifCond .le f0, n, p, q, v)) {x : Int32} (hc : x ≤ 0) : am_X (fu_ho sh) C rt code pc ls (.int x :: st) s = am_X (fu_ho sh) C rt code (p) ls (st) (s) :=
  am_X_step hat (c' := (p, ls, st, s)) (by simp only [am_step, if_pos hc])
theorem fu_if_le_f {f0 : Int} (hat : am_at code pc = some (.ifCond .le f0, n, p, q, v)) {x : Int32} (hc : ¬ x ≤ 0) : am_X (fu_ho sh) C rt code pc ls (.int x :: st) s = am_X (fu_ho sh) C rt code (pc + n) ls (st) (s) :=
  am_X_step hat (c' := (pc + n, ls, st, s)) (by simp only [am_step, if_neg hc])
theorem fu_ic_eq_t {f0 : Int} (hat : am_at code pc = some (.if_icmp .eq f0, n, p, q, v)) {x y : Int32} (hc : x = y) : am_X (fu_ho sh) C rt code pc ls (.int y :: .int x :: st) s = am_X (fu_ho sh) C rt code (p) ls (st) (s) :=
  am_X_step hat (c' := (p, ls, st, s)) (by simp only [am_step, if_pos hc])
theorem fu_ic_eq_f {f0 : Int} (hat : am_at code pc = some (.if_icmp .eq f0, n, p, q, v)) {x y : Int32} (hc : ¬ x = y) : am_X (fu_ho sh) C rt code pc ls (.int y :: .int x :: st) s = am_X (fu_ho sh) C rt code (pc + n) ls (st) (s) :=
  am_X_step hat (c' := (pc + n, ls, st, s)) (by simp only [am_step, if_neg hc])
theorem fu_ic_ne_t {f0 : Int} (hat : am_at code pc = some (.if_icmp .ne f0, n, p, q, v)) {x y : Int32} (hc : x = y) : am_X (fu_ho sh) C rt code pc ls (.int y :: .int x :: st) s = am_X (fu_ho sh) C rt code (pc + n) ls (st) (s) :=
  am_X_step hat (c' := (pc + n, ls, st, s)) (by simp only [am_step, if_pos hc])
theorem fu_ic_ne_f {f0 : Int} (hat : am_at code pc = some (.if_icmp .ne f0, n, p, q, v)) {x y : Int32} (hc : ¬ x = y) : am_X (fu_ho sh) C rt code pc ls (.int y :: .int x :: st) s = am_X (fu_ho sh) C rt code (p) ls (st) (s) :=
  am_X_step hat (c' := (p, ls, st, s)) (by simp only [am_step, if_neg hc])
theorem fu_ic_lt_t {f0 : Int} (hat : am_at code pc = some (.if_icmp .lt f0, n, p, q, v)) {x y : Int32} (hc : x < y) : am_X (fu_ho sh) C rt code pc ls (.int y :: .int x :: st) s = am_X (fu_ho sh) C rt code (p) ls (st) (s) :=
  am_X_step hat (c' := (p, ls, st, s)) (by simp only [am_step, if_pos hc])
theorem fu_ic_lt_f {f0 : Int} (hat : am_at code pc = some (.if_icmp .lt f0, n, p, q, v)) {x y : Int32} (hc : ¬ x < y) : am_X (fu_ho sh) C rt code pc ls (.int y :: .int x :: st) s = am_X (fu_ho sh) C rt code (pc + n) ls (st) (s) :=
  am_X_step hat (c' := (pc + n, ls, st, s)) (by simp only [am_step, if_neg hc])
theorem fu_ic_ge_t {f0 : Int} (hat : am_at code pc = some (.if_icmp .ge f0, n, p, q, v)) {x y : Int32} (hc : x < y) : am_X (fu_ho sh) C rt code pc ls (.int y :: .int x :: st) s = am_X (fu_ho sh) C rt code (pc + n) ls (st) (s) :=
  am_X_step hat (c' := (pc + n, ls, st, s)) (by simp only [am_step, if_pos hc])
theorem fu_ic_ge_f {f0 : Int} (hat : am_at code pc = some (.if_icmp .ge f0, n, p, q, v)) {x y : Int32} (hc : ¬ x < y) : am_X (fu_ho sh) C rt code pc ls (.int y :: .int x :: st) s = am_X (fu_ho sh) C rt code (p) ls (st) (s) :=
  am_X_step hat (c' := (p, ls, st, s)) (by simp only [am_step, if_neg hc])
theorem fu_ic_gt_t {f0 : Int} (hat : am_at code pc = some (.if_icmp .gt f0, n, p, q, v)) {x y : Int32} (hc : x ≤ y) : am_X (fu_ho sh) C rt code pc ls (.int y :: .int x :: st) s = am_X (fu_ho sh) C rt code (pc + n) ls (st) (s) :=
  am_X_step hat (c' := (pc + n, ls, st, s)) (by simp only [am_step, if_pos hc])
theorem fu_ic_gt_f {f0 : Int} (hat : am_at code pc = some (.if_icmp .gt f0, n, p, q, v)) {x y : Int32} (hc : ¬ x ≤ y) : am_X (fu_ho sh) C rt code pc ls (.int y :: .int x :: st) s = am_X (fu_ho sh) C rt code (p) ls (st) (s) :=
  am_X_step hat (c' := (p, ls, st, s)) (by simp only [am_step, if_neg hc])
theorem fu_ic_le_t {f0 : Int} (hat : am_at code pc = some (.if_icmp .le f0, n, p, q, v)) {x y : Int32} (hc : x ≤ y) : am_X (fu_ho sh) C rt code pc ls (.int y :: .int x :: st) s = am_X (fu_ho sh) C rt code (p) ls (st) (s) :=
  am_X_step hat (c' := (p, ls, st, s)) (by simp only [am_step, if_pos hc])
theorem fu_ic_le_f {f0 : Int} (hat : am_at code pc = some (.if_icmp .le f0, n, p, q, v)) {x y : Int32} (hc : ¬ x ≤ y) : am_X (fu_ho sh) C rt code pc ls (.int y :: .int x :: st) s = am_X (fu_ho sh) C rt code (pc + n) ls (st) (s) :=
  am_X_step hat (c' := (pc + n, ls, st, s)) (by simp only [am_step, if_neg hc])
theorem fu_ib_eq_t {b : Bool} {f0 : Int} (hat : am_at code pc = some (.ifCond .eq f0, n, p, q, v)) (hc : b = true) : am_X (fu_ho sh) C rt code pc ls (.int (fu_b b) :: st) s = am_X (fu_ho sh) C rt code (pc + n) ls st s := by
  subst hc
  exact am_X_step hat (c' := (pc + n, ls, st, s)) (by simp [am_step, fu_b])
theorem fu_ib_eq_f {b : Bool} {f0 : Int} (hat : am_at code pc = some (.ifCond .eq f0, n, p, q, v)) (hc : ¬ b = true) : am_X (fu_ho sh) C rt code pc ls (.int (fu_b b) :: st) s = am_X (fu_ho sh) C rt code (p) ls st s := by
  rw [Bool.not_eq_true] at hc; subst hc
  exact am_X_step hat (c' := (p, ls, st, s)) (by simp [am_step, fu_b])
theorem fu_ib_ne_t {b : Bool} {f0 : Int} (hat : am_at code pc = some (.ifCond .ne f0, n, p, q, v)) (hc : b = true) : am_X (fu_ho sh) C rt code pc ls (.int (fu_b b) :: st) s = am_X (fu_ho sh) C rt code (p) ls st s := by
  subst hc
  exact am_X_step hat (c' := (p, ls, st, s)) (by simp [am_step, fu_b])
theorem fu_ib_ne_f {b : Bool} {f0 : Int} (hat : am_at code pc = some (.ifCond .ne f0, n, p, q, v)) (hc : ¬ b = true) : am_X (fu_ho sh) C rt code pc ls (.int (fu_b b) :: st) s = am_X (fu_ho sh) C rt code (pc + n) ls st s := by
  rw [Bool.not_eq_true] at hc; subst hc
  exact am_X_step hat (c' := (pc + n, ls, st, s)) (by simp [am_step, fu_b])
theorem fu_lc0 (x y : Int64) : lg_cmp x y = 0 ↔ x = y := by
  unfold lg_cmp
  by_cases h1 : x > y
  · have : ¬ x = y := fun e => by subst e; exact absurd h1 (Int64.lt_irrefl)
    simp [h1, this]
  · by_cases h2 : x = y <;> simp [h1, h2]
theorem fu_lcl (x y : Int64) : lg_cmp x y < 0 ↔ x < y := by
  unfold lg_cmp
  rw [Int64.lt_iff_toInt_lt]
  by_cases h1 : x > y
  · have h1' := Int64.lt_iff_toInt_lt.mp h1
    simp only [if_pos h1]
    constructor
    · intro h; exact absurd h (by decide)
    · intro h; omega
  · have h1' : ¬ y.toInt < x.toInt := fun z => h1 (Int64.lt_iff_toInt_lt.mpr z)
    simp only [if_neg h1]
    by_cases h2 : x = y
    · subst h2
      simp only [if_true]
      constructor
      · intro h; exact absurd h (by decide)
      · intro h; omega
    · simp only [if_neg h2]
      have h2' : ¬ x.toInt = y.toInt := fun z => h2 (Int64.toInt_inj.mp z)
      constructor
      · intro _; omega
      · intro _; decide
theorem fu_lcg (x y : Int64) : lg_cmp x y ≤ 0 ↔ x ≤ y := by
  rw [Int32.le_iff_lt_or_eq, fu_lcl, fu_lc0, Int64.le_iff_lt_or_eq]
theorem fu_lc_eq_t {x y : Int64} {f0 : Int} {p1 q1 : Nat} {v1 : Value} (hat1 : am_at code pc = some (.lcmp, 1, p1, q1, v1)) (hat : am_at code (pc + 1) = some (.ifCond .eq f0, n, p, q, v)) (hc : x = y) : am_X (fu_ho sh) C rt code pc ls (.long y :: .long x :: st) s = am_X (fu_ho sh) C rt code (p) ls st s :=
  (am_X_step hat1 (c' := (pc + 1, ls, .int (lg_cmp x y) :: st, s)) rfl).trans (fu_if_eq_t hat ((fu_lc0 x y).mpr hc))
theorem fu_lc_eq_f {x y : Int64} {f0 : Int} {p1 q1 : Nat} {v1 : Value} (hat1 : am_at code pc = some (.lcmp, 1, p1, q1, v1)) (hat : am_at code (pc + 1) = some (.ifCond .eq f0, n, p, q, v)) (hc : ¬ x = y) : am_X (fu_ho sh) C rt code pc ls (.long y :: .long x :: st) s = am_X (fu_ho sh) C rt code (pc + 1 + n) ls st s :=
  (am_X_step hat1 (c' := (pc + 1, ls, .int (lg_cmp x y) :: st, s)) rfl).trans (fu_if_eq_f hat (fun z => hc ((fu_lc0 x y).mp z)))
theorem fu_lc_ne_t {x y : Int64} {f0 : Int} {p1 q1 : Nat} {v1 : Value} (hat1 : am_at code pc = some (.lcmp, 1, p1, q1, v1)) (hat : am_at code (pc + 1) = some (.ifCond .ne f0, n, p, q, v)) (hc : x = y) : am_X (fu_ho sh) C rt code pc ls (.long y :: .long x :: st) s = am_X (fu_ho sh) C rt code (pc + 1 + n) ls st s :=
  (am_X_step hat1 (c' := (pc + 1, ls, .int (lg_cmp x y) :: st, s)) rfl).trans (fu_if_ne_t hat ((fu_lc0 x y).mpr hc))
theorem fu_lc_ne_f {x y : Int64} {f0 : Int} {p1 q1 : Nat} {v1 : Value} (hat1 : am_at code pc = some (.lcmp, 1, p1, q1, v1)) (hat : am_at code (pc + 1) = some (.ifCond .ne f0, n, p, q, v)) (hc : ¬ x = y) : am_X (fu_ho sh) C rt code pc ls (.long y :: .long x :: st) s = am_X (fu_ho sh) C rt code (p) ls st s :=
  (am_X_step hat1 (c' := (pc + 1, ls, .int (lg_cmp x y) :: st, s)) rfl).trans (fu_if_ne_f hat (fun z => hc ((fu_lc0 x y).mp z)))
theorem fu_lc_lt_t {x y : Int64} {f0 : Int} {p1 q1 : Nat} {v1 : Value} (hat1 : am_at code pc = some (.lcmp, 1, p1, q1, v1)) (hat : am_at code (pc + 1) = some (.ifCond .lt f0, n, p, q, v)) (hc : x < y) : am_X (fu_ho sh) C rt code pc ls (.long y :: .long x :: st) s = am_X (fu_ho sh) C rt code (p) ls st s :=
  (am_X_step hat1 (c' := (pc + 1, ls, .int (lg_cmp x y) :: st, s)) rfl).trans (fu_if_lt_t hat ((fu_lcl x y).mpr hc))
theorem fu_lc_lt_f {x y : Int64} {f0 : Int} {p1 q1 : Nat} {v1 : Value} (hat1 : am_at code pc = some (.lcmp, 1, p1, q1, v1)) (hat : am_at code (pc + 1) = some (.ifCond .lt f0, n, p, q, v)) (hc : ¬ x < y) : am_X (fu_ho sh) C rt code pc ls (.long y :: .long x :: st) s = am_X (fu_ho sh) C rt code (pc + 1 + n) ls st s :=
  (am_X_step hat1 (c' := (pc + 1, ls, .int (lg_cmp x y) :: st, s)) rfl).trans (fu_if_lt_f hat (fun z => hc ((fu_lcl x y).mp z)))
theorem fu_lc_ge_t {x y : Int64} {f0 : Int} {p1 q1 : Nat} {v1 : Value} (hat1 : am_at code pc = some (.lcmp, 1, p1, q1, v1)) (hat : am_at code (pc + 1) = some (.ifCond .ge f0, n, p, q, v)) (hc : x < y) : am_X (fu_ho sh) C rt code pc ls (.long y :: .long x :: st) s = am_X (fu_ho sh) C rt code (pc + 1 + n) ls st s :=
  (am_X_step hat1 (c' := (pc + 1, ls, .int (lg_cmp x y) :: st, s)) rfl).trans (fu_if_ge_t hat ((fu_lcl x y).mpr hc))
theorem fu_lc_ge_f {x y : Int64} {f0 : Int} {p1 q1 : Nat} {v1 : Value} (hat1 : am_at code pc = some (.lcmp, 1, p1, q1, v1)) (hat : am_at code (pc + 1) = some (.ifCond .ge f0, n, p, q, v)) (hc : ¬ x < y) : am_X (fu_ho sh) C rt code pc ls (.long y :: .long x :: st) s = am_X (fu_ho sh) C rt code (p) ls st s :=
  (am_X_step hat1 (c' := (pc + 1, ls, .int (lg_cmp x y) :: st, s)) rfl).trans (fu_if_ge_f hat (fun z => hc ((fu_lcl x y).mp z)))
theorem fu_lc_gt_t {x y : Int64} {f0 : Int} {p1 q1 : Nat} {v1 : Value} (hat1 : am_at code pc = some (.lcmp, 1, p1, q1, v1)) (hat : am_at code (pc + 1) = some (.ifCond .gt f0, n, p, q, v)) (hc : x ≤ y) : am_X (fu_ho sh) C rt code pc ls (.long y :: .long x :: st) s = am_X (fu_ho sh) C rt code (pc + 1 + n) ls st s :=
  (am_X_step hat1 (c' := (pc + 1, ls, .int (lg_cmp x y) :: st, s)) rfl).trans (fu_if_gt_t hat ((fu_lcg x y).mpr hc))
theorem fu_lc_gt_f {x y : Int64} {f0 : Int} {p1 q1 : Nat} {v1 : Value} (hat1 : am_at code pc = some (.lcmp, 1, p1, q1, v1)) (hat : am_at code (pc + 1) = some (.ifCond .gt f0, n, p, q, v)) (hc : ¬ x ≤ y) : am_X (fu_ho sh) C rt code pc ls (.long y :: .long x :: st) s = am_X (fu_ho sh) C rt code (p) ls st s :=
  (am_X_step hat1 (c' := (pc + 1, ls, .int (lg_cmp x y) :: st, s)) rfl).trans (fu_if_gt_f hat (fun z => hc ((fu_lcg x y).mp z)))
theorem fu_lc_le_t {x y : Int64} {f0 : Int} {p1 q1 : Nat} {v1 : Value} (hat1 : am_at code pc = some (.lcmp, 1, p1, q1, v1)) (hat : am_at code (pc + 1) = some (.ifCond .le f0, n, p, q, v)) (hc : x ≤ y) : am_X (fu_ho sh) C rt code pc ls (.long y :: .long x :: st) s = am_X (fu_ho sh) C rt code (p) ls st s :=
  (am_X_step hat1 (c' := (pc + 1, ls, .int (lg_cmp x y) :: st, s)) rfl).trans (fu_if_le_t hat ((fu_lcg x y).mpr hc))
theorem fu_lc_le_f {x y : Int64} {f0 : Int} {p1 q1 : Nat} {v1 : Value} (hat1 : am_at code pc = some (.lcmp, 1, p1, q1, v1)) (hat : am_at code (pc + 1) = some (.ifCond .le f0, n, p, q, v)) (hc : ¬ x ≤ y) : am_X (fu_ho sh) C rt code pc ls (.long y :: .long x :: st) s = am_X (fu_ho sh) C rt code (pc + 1 + n) ls st s :=
  (am_X_step hat1 (c' := (pc + 1, ls, .int (lg_cmp x y) :: st, s)) rfl).trans (fu_if_le_f hat (fun z => hc ((fu_lcg x y).mp z)))
def fu_tsw (pc : Nat) (d lo hi : Int) (offs : Array Int) (k : Int) : Option Nat := if k < lo ∨ hi < k then some ((pc : Int) + d).toNat else (offs[(k - lo).toNat]?).map fun o => ((pc : Int) + o).toNat
theorem fu_tsw_at {d lo hi : Int} {offs : Array Int} {x k : Int32} {t : Nat} (hat : am_at code pc = some (.tableswitch d lo hi offs, n, p, q, v)) (hx : x = k) (hk : fu_tsw pc d lo hi offs k.toInt = some t) : am_X (fu_ho sh) C rt code pc ls (.int x :: st) s = am_X (fu_ho sh) C rt code t ls st s := by
  subst hx
  refine am_X_step hat (c' := (t, ls, st, s)) ?_
  unfold fu_tsw at hk
  simp only [am_step]
  split at hk
  · rename_i h
    cases hk
    rw [if_pos h]
  · rename_i h
    rw [if_neg h]
    cases ho : offs[(x.toInt - lo).toNat]? with
    | none => rw [ho] at hk; cases hk
    | some o => rw [ho] at hk; cases hk; rfl
/-- keys that have a place of their own -/
def fu_tswk (d lo hi : Int) (offs : Array Int) (keys : List Int) : Bool := decide (offs.size = (hi - lo + 1).toNat) && (List.range offs.size).all fun j => decide (offs[j]? = some d) || keys.contains (lo + (j : Int))
theorem fu_tsw_d {d lo hi : Int} {offs : Array Int} {x : Int32} {t : Nat} (keys : List Int) (hat : am_at code pc = some (.tableswitch d lo hi offs, n, p, q, v)) (hk : fu_tswk d lo hi offs keys = true) (hx : ∀ k ∈ keys, ¬ x.toInt = k) (ht : ((pc : Int) + d).toNat = t) : am_X (fu_ho sh) C rt code pc ls (.int x :: st) s = am_X (fu_ho sh) C rt code t ls st s := by
  refine am_X_step hat (c' := (t, ls, st, s)) ?_
  simp only [am_step]
  simp only [fu_tswk, Bool.and_eq_true, decide_eq_true_eq, List.all_eq_true, List.mem_range, Bool.or_eq_true, List.contains_eq_mem] at hk
  obtain ⟨h1, h2⟩ := hk
  split
  · rw [ht]
  · rename_i h
    have h3 : (x.toInt - lo).toNat < offs.size := by omega
    rcases h2 _ h3 with h4 | h4
    · rw [h4]; simp only [ht]
    · refine absurd ?_ (hx _ h4)
      omega
theorem fu_lsw_at {d : Int} {ps : Array (Int × Int)} {x k : Int32} {t : Nat} (hat : am_at code pc = some (.lookupswitch d ps, n, p, q, v)) (hx : x = k) (hk : ((pc : Int) + Op.lookupswitch.offset ps.toList d k.toInt).toNat = t) : am_X (fu_ho sh) C rt code pc ls (.int x :: st) s = am_X (fu_ho sh) C rt code t ls st s := by
  subst hx
  exact am_X_step hat (c' := (t, ls, st, s)) (by simp only [am_step, hk])
theorem fu_lsw_off : ∀ {l : List (Int × Int)} {d k : Int}, (∀ a ∈ l.map Prod.fst, ¬ k = a) → Op.lookupswitch.offset l d k = d
  | [], _, _, _ => rfl
  | (a, o) :: r, d, k, h => by
    rw [Op.lookupswitch.offset_cons, if_neg (fun e => h a (by simp) e.symm)]
    exact fu_lsw_off (fun b hb => h b (by simp at hb ⊢; exact .inr hb))
theorem fu_lsw_d {d : Int} {ps : Array (Int × Int)} {x : Int32} {t : Nat} (keys : List Int) (hat : am_at code pc = some (.lookupswitch d ps, n, p, q, v)) (hk : ps.toList.map Prod.fst = keys) (hx : ∀ k ∈ keys, ¬ x.toInt = k) (ht : ((pc : Int) + d).toNat = t) : am_X (fu_ho sh) C rt code pc ls (.int x :: st) s = am_X (fu_ho sh) C rt code t ls st s :=
  am_X_step hat (c' := (t, ls, st, s)) (by simp only [am_step]; rw [fu_lsw_off (by rw [hk]; exact hx), ht])
theorem fu_ne {x k : Int32} (h : ¬ x = k) {z : Int} (hz : k.toInt = z) : ¬ x.toInt = z := fun e => h (Int32.toInt_inj.mp (e.trans hz.symm))
theorem fu_all {x : Int} : ∀ k ∈ ([] : List Int), ¬ x = k := fun _ h => by cases h
theorem fu_allc {x k : Int} {t : List Int} (h : ¬ x = k) (r : ∀ k ∈ t, ¬ x = k) : ∀ j ∈ k :: t, ¬ x = j := fun j hj => by
  rcases List.mem_cons.mp hj with rfl | hj
  · exact h
  · exact r j hj
end FUS
section FUC
variable {α η : Type} {ho : Nat → Nat → Nat → List Value → η → Option (List Value × η)} {C : Nat → List Value → η → Option (Option Value × η)} {rt : Option FieldType} {code : List am_I} {pc n p q x' : Nat} {ls st st' as r : List Value} {s s' : η} {v : Value} {a : Nat} {x : Option α} {w : α → Option Value} {t : α → η} {z : List Value × η}
theorem fu_prim (hat : am_at code pc = some (.invokestatic x', n, p, q, v)) (hp : Nat.ble 1000 p = true) (hr : Nat.ble (am_sz st) 16 = true) (hh : ho p 0 0 st s = some (st', s')) : am_X ho C rt code pc ls st s = am_X ho C rt code (pc + n) ls st' s' := by
  rw [am_X_eq]
  have h1 : am_one ho C rt code pc ls st s = some (.inr (pc + n, ls, st', s')) := by
    simp only [am_one, hat, hp, cond_true, if_pos (Nat.le_of_ble_eq_true hr), hh]
  rw [h1]
theorem fu_cS {w : Option Value} (hat : am_at code pc = some (.invokestatic x', n, p, q, v)) (hp : Nat.ble 1000 p = false) (hq : Nat.ble q st.length = true) (ht : (st.take q).reverse = as) (hd : st.drop q = r) (hr : Nat.ble (am_sz r) 8 = true) (hc : C p as s = some (w, s')) : am_X ho C rt code pc ls st s = am_X ho C rt code (pc + n) ls (w.toList ++ r) s' := by
  rw [am_X_eq]
  have h1 : am_one ho C rt code pc ls st s = some (.inr (pc + n, ls, w.toList ++ r, s')) := by
    simp only [am_one, hat, hp, cond_false, ht, hd, hc]
    rw [if_pos ⟨Nat.le_of_ble_eq_true hq, Nat.le_of_ble_eq_true hr⟩]
  rw [h1]
theorem fu_cV {w : Option Value} (hat : am_at code pc = some (.invokevirtual x', n, p, q, v)) (hp : Nat.ble 1000 p = false) (ht : (st.take q).reverse = as) (hd : st.drop q = .ref a :: r) (hr : Nat.ble (am_sz r) 8 = true) (h16 : ho 16 p 0 [.ref a] s = some z) (hc : C p (.ref a :: as) s = some (w, s')) : am_X ho C rt code pc ls st s = am_X ho C rt code (pc + n) ls (w.toList ++ r) s' := by
  rw [am_X_eq]
  have h1 : am_one ho C rt code pc ls st s = some (.inr (pc + n, ls, w.toList ++ r, s')) := by
    simp only [am_one, hat, hp, cond_false, ht, hd, hc, h16]
    rw [if_pos (Nat.le_of_ble_eq_true hr)]
  rw [h1]
theorem fu_cSJ (hat : am_at code pc = some (.invokestatic x', n, p, q, v)) (hp : Nat.ble 1000 p = false) (hq : Nat.ble q st.length = true) (ht : (st.take q).reverse = as) (hd : st.drop q = r) (hr : Nat.ble (am_sz r) 8 = true) (hj : fu_J x (fun u => some (w u, t u)) (C p as s)) : fu_J x (fun u => am_X ho C rt code (pc + n) ls ((w u).toList ++ r) (t u)) (am_X ho C rt code pc ls st s) := fun u e y hy => by
  rw [fu_cS hat hp hq ht hd hr (hj u e _ rfl)]; exact hy
theorem fu_cVJ (hat : am_at code pc = some (.invokevirtual x', n, p, q, v)) (hp : Nat.ble 1000 p = false) (ht : (st.take q).reverse = as) (hd : st.drop q = .ref a :: r) (hr : Nat.ble (am_sz r) 8 = true) (h16 : ho 16 p 0 [.ref a] s = some z) (hj : fu_J x (fun u => some (w u, t u)) (C p (.ref a :: as) s)) : fu_J x (fun u => am_X ho C rt code (pc + n) ls ((w u).toList ++ r) (t u)) (am_X ho C rt code pc ls st s) := fun u e y hy => by
  rw [fu_cV hat hp ht hd hr h16 (hj u e _ rfl)]; exact hy
end FUC
theorem fu_recv {sh : Nat → Option fu_K} {a c p o nL : Nat} {rf : Nat → Option Nat} {y : MethodName} {rt : Option FieldType} {code : List am_I} {s : fu_S} (hs : sh a = some (.inl (c, rf))) (hm : am_m p = some (y, nL, rt, code, o)) (ho : Nat.beq (am_oc c) o = true) : fu_ho sh 16 p 0 [.ref a] s = some ([], s) := by
  simp only [fu_ho, hm, hs, ho, cond_true]
theorem fu_cpI {sh : Nat → Option fu_K} {a0 a n0 n1 : Nat} {f0 f1 : Nat → Nat} {sp dp n : Int32} {r : List Value} {s : fu_S} (h0 : sh a0 = some (.inr (0, n0, f0))) (h1 : sh a = some (.inr (0, n1, f1))) (hc : ¬ sp < 0 ∧ ¬ dp < 0 ∧ ¬ n < 0 ∧ sp.toNatClampNeg + n.toNatClampNeg ≤ n0 ∧ dp.toNatClampNeg + n.toNatClampNeg ≤ n1) : fu_ho sh 1004 0 0 (.int n :: .int dp :: .ref a :: .int sp :: .ref a0 :: r) s = some (r, fu_ci s a0 sp.toNatClampNeg a dp.toNatClampNeg n.toNatClampNeg) := by
  simp only [fu_ho, h0, h1]
  rw [if_pos hc]
theorem fu_cpL {sh : Nat → Option fu_K} {a0 a n0 n1 : Nat} {f0 f1 : Nat → Nat} {sp dp n : Int32} {r : List Value} {s : fu_S} (h0 : sh a0 = some (.inr (1, n0, f0))) (h1 : sh a = some (.inr (1, n1, f1))) (hc : ¬ sp < 0 ∧ ¬ dp < 0 ∧ ¬ n < 0 ∧ sp.toNatClampNeg + n.toNatClampNeg ≤ n0 ∧ dp.toNatClampNeg + n.toNatClampNeg ≤ n1) : fu_ho sh 1004 0 0 (.int n :: .int dp :: .ref a :: .int sp :: .ref a0 :: r) s = some (r, fu_cl s a0 sp.toNatClampNeg a dp.toNatClampNeg n.toNatClampNeg) := by
  simp only [fu_ho, h0, h1]
  rw [if_pos hc]
