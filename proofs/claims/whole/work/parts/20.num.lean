/-! small numbers, as ints and longs -/
section NUM
variable {a b n N : Nat}
theorem i_tn (h : a < 2147483648) : (Int32.ofNat a).toNatClampNeg = a := Int32.toNatClampNeg_ofNat_of_lt (by omega)
theorem i_ti (h : a < 2147483648) : (Int32.ofNat a).toInt = a := Int32.toInt_ofNat_of_lt (by omega)
theorem i_lit : (OfNat.ofNat n : Int32) = Int32.ofNat (OfNat.ofNat n) := rfl
theorem i_litL : (OfNat.ofNat n : Int64) = Int64.ofNat (OfNat.ofNat n) := rfl
theorem i_lt (ha : a < 2147483648) (hb : b < 2147483648) : (Int32.ofNat a < Int32.ofNat b) ↔ a < b := Int32.ofNat_lt_iff_lt (by omega) (by omega)
theorem i_le (ha : a < 2147483648) (hb : b < 2147483648) : (Int32.ofNat a ≤ Int32.ofNat b) ↔ a ≤ b := by
  rw [Int32.le_iff_toInt_le, i_ti ha, i_ti hb]; omega
theorem i_eq (ha : a < 2147483648) (hb : b < 2147483648) : (Int32.ofNat a = Int32.ofNat b) ↔ a = b := by
  rw [← Int32.toInt_inj, i_ti ha, i_ti hb]; omega
theorem i_ltl (ha : a < 2147483648) (hn : (OfNat.ofNat n : Nat) < 2147483648) : (Int32.ofNat a < (no_index (OfNat.ofNat n) : Int32)) ↔ a < OfNat.ofNat n := i_lt ha hn
theorem i_lel (ha : a < 2147483648) (hn : (OfNat.ofNat n : Nat) < 2147483648) : (Int32.ofNat a ≤ (no_index (OfNat.ofNat n) : Int32)) ↔ a ≤ OfNat.ofNat n := i_le ha hn
theorem i_eql (ha : a < 2147483648) (hn : (OfNat.ofNat n : Nat) < 2147483648) : (Int32.ofNat a = (no_index (OfNat.ofNat n) : Int32)) ↔ a = OfNat.ofNat n := i_eq ha hn
theorem i_lt0 (ha : a < 2147483648) : (Int32.ofNat a < 0) ↔ False := by
  rw [show (0 : Int32) = Int32.ofNat 0 from rfl, i_lt ha (by omega)]; simp
theorem i_le0 (ha : a < 2147483648) : (Int32.ofNat a ≤ 0) ↔ a = 0 := by
  rw [show (0 : Int32) = Int32.ofNat 0 from rfl, i_le ha (by omega)]; simp
theorem i_eq0 (ha : a < 2147483648) : (Int32.ofNat a = 0) ↔ a = 0 := by
  rw [show (0 : Int32) = Int32.ofNat 0 from rfl, i_eq ha (by omega)]
theorem i_n1 (ha : a < 2147483648) : (Int32.ofNat a = (-1 : Int32)) ↔ False := by
  rw [← Int32.toInt_inj, i_ti ha, show (-1 : Int32).toInt = -1 from rfl]
  simp only [iff_false]; omega
theorem i_add : Int32.ofNat a + Int32.ofNat b = Int32.ofNat (a + b) := (Int32.ofNat_add a b).symm
theorem i_addl : Int32.ofNat a + (no_index (OfNat.ofNat n) : Int32) = Int32.ofNat (a + OfNat.ofNat n) := i_add
theorem i_addr : (no_index (OfNat.ofNat n) : Int32) + Int32.ofNat a = Int32.ofNat (OfNat.ofNat n + a) := i_add
theorem i_mul : Int32.ofNat a * Int32.ofNat b = Int32.ofNat (a * b) := (Int32.ofNat_mul a b).symm
theorem i_mulr : (no_index (OfNat.ofNat n) : Int32) * Int32.ofNat a = Int32.ofNat (OfNat.ofNat n * a) := i_mul
theorem i_mull : Int32.ofNat a * (no_index (OfNat.ofNat n) : Int32) = Int32.ofNat (a * OfNat.ofNat n) := i_mul
theorem i_sub (h : b ≤ a) : Int32.ofNat a - Int32.ofNat b = Int32.ofNat (a - b) := (Int32.ofNat_sub a b h).symm
theorem i_subl (h : (OfNat.ofNat n : Nat) ≤ a) : Int32.ofNat a - (no_index (OfNat.ofNat n) : Int32) = Int32.ofNat (a - OfNat.ofNat n) := i_sub h
theorem i_subr (h : a ≤ (OfNat.ofNat n : Nat)) : (no_index (OfNat.ofNat n) : Int32) - Int32.ofNat a = Int32.ofNat (OfNat.ofNat n - a) := i_sub h
theorem i_in (ha : a < 2147483648) : am_in (Int32.ofNat a) N = decide (a < N) := by
  have h1 : ¬ Int32.ofNat a < 0 := by rw [i_ltl ha (by omega)]; omega
  unfold am_in
  simp only [h1, i_tn ha, false_or, Nat.not_le]
theorem i_divq (ha : a < 2147483648) (hb : 0 < b) (hb2 : b < 2147483648) : Int32.ofNat a / Int32.ofNat b = Int32.ofNat (a / b) := by
  have h1 : a / b < 2147483648 := Nat.lt_of_le_of_lt (Nat.div_le_self a b) ha
  apply Int32.toInt_inj.mp
  rw [i_ti h1, Int32.toInt_div, i_ti ha, i_ti hb2]
  rw [show ((a : Int).tdiv (b : Int)) = ((a / b : Nat) : Int) from rfl]
  generalize a / b = c at h1
  rw [Int.bmod_eq_of_le] <;> omega
theorem i_rem (ha : a < 2147483648) (hb : 0 < b) (hb2 : b < 2147483648) : Int32.ofNat a - Int32.ofNat a / Int32.ofNat b * Int32.ofNat b = Int32.ofNat (a % b) := by
  rw [i_divq ha hb hb2, i_mul, i_sub (Nat.div_mul_le_self a b)]
  congr 1
  have := Nat.div_add_mod a b
  rw [Nat.mul_comm] at this
  omega
theorem i_reml (ha : a < 2147483648) (hb : 0 < (OfNat.ofNat n : Nat)) (hb2 : (OfNat.ofNat n : Nat) < 2147483648) : Int32.ofNat a - Int32.ofNat a / (no_index (OfNat.ofNat n) : Int32) * (no_index (OfNat.ofNat n) : Int32) = Int32.ofNat (a % OfNat.ofNat n) := i_rem ha hb hb2
theorem i_rem10 (ha : a < 2147483648) : Int32.ofNat a - Int32.ofNat a / 10 * 10 = Int32.ofNat (a % 10) := i_rem (b := 10) ha (by omega) (by omega)
theorem i_or : Int32.ofNat a ||| Int32.ofNat b = Int32.ofNat (a ||| b) := by
  apply Int32.toBitVec.inj
  show BitVec.ofNat 32 a ||| BitVec.ofNat 32 b = BitVec.ofNat 32 (a ||| b)
  rw [BitVec.ofNat_or]
theorem i_and : Int32.ofNat a &&& Int32.ofNat b = Int32.ofNat (a &&& b) := by
  apply Int32.toBitVec.inj
  show BitVec.ofNat 32 a &&& BitVec.ofNat 32 b = BitVec.ofNat 32 (a &&& b)
  rw [BitVec.ofNat_and]
theorem i_xor : Int32.ofNat a ^^^ Int32.ofNat b = Int32.ofNat (a ^^^ b) := by
  apply Int32.toBitVec.inj
  show BitVec.ofNat 32 a ^^^ BitVec.ofNat 32 b = BitVec.ofNat 32 (a ^^^ b)
  rw [BitVec.ofNat_xor]
theorem i_m31 (h : a < 32) : Int32.ofNat a &&& 31 = Int32.ofNat a := by
  have : ∀ a, a < 32 → Int32.ofNat a &&& 31 = Int32.ofNat a := by decide
  exact this a h
theorem i_shl (h : a < 31) : (1 : Int32) <<< (Int32.ofNat a &&& 31) = Int32.ofNat (2 ^ a) := by
  have : ∀ a, a < 31 → (1 : Int32) <<< (Int32.ofNat a &&& 31) = Int32.ofNat (2 ^ a) := by decide +kernel
  exact this a h
theorem i_shr (ha : a < 2147483648) (hb : b < 31) : Int32.ofNat a >>> (Int32.ofNat b &&& 31) = Int32.ofNat (a >>> b) := by
  rw [i_m31 (by omega)]
  apply Int32.toBitVec.inj
  have h1 : (Int32.ofNat a >>> Int32.ofNat b).toBitVec = (BitVec.ofNat 32 a).sshiftRight' ((BitVec.ofNat 32 b).smod 32) := rfl
  rw [h1]
  have h2 : ∀ b, b < 31 → (BitVec.ofNat 32 b).smod 32 = BitVec.ofNat 32 b := by decide
  rw [h2 b hb, BitVec.sshiftRight_eq']
  have h3 : (BitVec.ofNat 32 b).toNat = b := by rw [BitVec.toNat_ofNat]; omega
  rw [h3, BitVec.sshiftRight_eq_of_msb_false]
  · apply BitVec.eq_of_toNat_eq
    show (BitVec.ofNat 32 a >>> b).toNat = (BitVec.ofNat 32 (a >>> b)).toNat
    rw [BitVec.toNat_ushiftRight, BitVec.toNat_ofNat, BitVec.toNat_ofNat]
    have h4 : a >>> b ≤ a := by rw [Nat.shiftRight_eq_div_pow]; exact Nat.div_le_self _ _
    rw [Nat.mod_eq_of_lt (by omega), Nat.mod_eq_of_lt (by omega)]
  · rw [BitVec.msb_eq_false_iff_two_mul_lt, BitVec.toNat_ofNat]
    omega
/-- whether a bit is in a set -/
theorem i_bit (ha : a < 2147483648) (hb : b < 31) : ((Int32.ofNat a >>> (Int32.ofNat b &&& 31)) &&& (1 : Int32)) = Int32.ofNat (if a.testBit b then 1 else 0) := by
  rw [i_shr ha hb, i_lit, i_and, Nat.and_one_is_mod, Nat.testBit, Nat.shiftRight_eq_div_pow, Nat.one_and_eq_mod_two]
  congr 1
  have : a / 2 ^ b % 2 = 0 ∨ a / 2 ^ b % 2 = 1 := by omega
  rcases this with h | h <;> simp [h]
theorem i_bit0 (ha : a < 2147483648) (hb : b < 31) : (((Int32.ofNat a >>> (Int32.ofNat b &&& 31)) &&& (1 : Int32)) = 0) ↔ a.testBit b = false := by
  rw [i_bit ha hb]
  cases a.testBit b <;> decide
theorem i_bit1 (ha : a < 2147483648) (hb : b < 31) : (((Int32.ofNat a >>> (Int32.ofNat b &&& 31)) &&& (1 : Int32)) = 1) ↔ a.testBit b = true := by
  rw [i_bit ha hb]
  cases a.testBit b <;> decide
end NUM
/-- a set out of what is in it -/
def d_set (p : Nat → Bool) : Nat → Nat
  | 0 => 0
  | n + 1 => d_set p n ||| (if p n then 2 ^ n else 0)
theorem d_set_lt (p : Nat → Bool) : ∀ n, d_set p n < 2 ^ n
  | 0 => by simp [d_set]
  | n + 1 => by
    have h := d_set_lt p n
    rw [d_set]
    apply Nat.or_lt_two_pow
    · rw [Nat.pow_succ]; omega
    · split
      · exact Nat.pow_lt_pow_right (by omega) (by omega)
      · exact Nat.two_pow_pos _
theorem d_set_bit (p : Nat → Bool) : ∀ n k, (d_set p n).testBit k = (decide (k < n) && p k)
  | 0, k => by simp [d_set]
  | n + 1, k => by
    rw [d_set, Nat.testBit_or, d_set_bit p n k]
    by_cases h : k = n
    · subst h
      cases hp : p k <;> simp
    · have h1 : (if p n then 2 ^ n else 0).testBit k = false := by
        split
        · rw [Nat.testBit_two_pow]; simp; omega
        · simp
      rw [h1, Bool.or_false]
      have : (k < n + 1) ↔ (k < n) := by omega
      simp only [this]
theorem d_set_congr {p q : Nat → Bool} : ∀ {n}, (∀ k, k < n → p k = q k) → d_set p n = d_set q n
  | 0, _ => rfl
  | n + 1, h => by
    rw [d_set, d_set, d_set_congr (fun k hk => h k (by omega)), h n (by omega)]
/-- a loop that counts up from 0: σ k is what stands when k rounds are done -/
theorem lp_up {σ ρ : Type} {l : Nat → σ → Nat → Option ρ} {N : Nat} (S : Nat → σ) {r : ρ} (hs : ∀ n k, k < N → l (n + 1) (S k) k = l n (S (k + 1)) (k + 1)) (he : ∀ n, l (n + 1) (S N) N = some r) : ∀ {f k : Nat}, k ≤ N → N - k < f → l f (S k) k = some r
  | 0, _, _, h => absurd h (by omega)
  | f + 1, k, hk, hf => by
    by_cases h : k = N
    · subst h; exact he f
    · rw [hs f k (by omega)]
      exact lp_up S hs he (by omega) (by omega)
