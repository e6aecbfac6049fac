/-! NUMBERS AND BITS: an int that is a small number n is E n; a set of pages is a number below 256 -/
def E (n : Nat) : Int32 := Int32.ofNat n
theorem E_toInt {n : Nat} (h : n < 2147483648) : (E n).toInt = (n : Int) := Int32.toInt_ofNat_of_lt h
theorem E_nn {n : Nat} (h : n < 2147483648) : (E n).toNatClampNeg = n := by
  show (E n).toInt.toNat = n
  rw [E_toInt h]
  rfl
theorem E_add (a b : Nat) : E a + E b = E (a + b) := (Int32.ofNat_add a b).symm
theorem E_mul (a b : Nat) : E a * E b = E (a * b) := (Int32.ofNat_mul a b).symm
theorem E_le {a b : Nat} (ha : a < 2147483648) (hb : b < 2147483648) : E a ≤ E b ↔ a ≤ b := by
  rw [Int32.le_iff_toInt_le, E_toInt ha, E_toInt hb]
  omega
theorem E_lt {a b : Nat} (ha : a < 2147483648) (hb : b < 2147483648) : E a < E b ↔ a < b := by
  rw [Int32.lt_iff_toInt_lt, E_toInt ha, E_toInt hb]
  omega
theorem E_inj {a b : Nat} (ha : a < 2147483648) (hb : b < 2147483648) : E a = E b ↔ a = b := by
  refine ⟨fun h => ?_, fun h => by rw [h]⟩
  have h1 := E_toInt ha
  rw [h, E_toInt hb] at h1
  omega
theorem E_0 : (0 : Int32) = E 0 := rfl
theorem E_1 : (1 : Int32) = E 1 := rfl
theorem E_nonneg {a : Nat} (ha : a < 2147483648) : 0 ≤ E a := by
  rw [E_0, E_le (by decide) ha]
  exact Nat.zero_le _
theorem E_sub {a b : Nat} (h : b ≤ a) : E a - E b = E (a - b) := by
  have : E a = E (a - b) + E b := by rw [E_add, Nat.sub_add_cancel h]
  rw [this]
  simp
/-- an int in a range is a number -/
theorem E_of {x : Int32} {n : Nat} (h0 : 0 ≤ x) (h1 : x < E n) (hn : n < 2147483648) : ∃ k, k < n ∧ x = E k := by
  have a0 := Int32.le_iff_toInt_le.mp h0
  have a1 := Int32.lt_iff_toInt_lt.mp h1
  rw [E_toInt hn] at a1
  have a2 : (0 : Int32).toInt = 0 := rfl
  rw [a2] at a0
  refine ⟨x.toInt.toNat, by omega, Int32.toInt_inj.mp ?_⟩
  rw [E_toInt (by omega)]
  omega
theorem E_bit : ∀ n, n < 256 → ∀ p, p < 8 → (E n >>> (E p &&& 31)) &&& 1 = if n.testBit p then 1 else 0 := by decide +kernel
theorem E_or1 : ∀ n, n < 256 → ∀ p, p < 8 → E n ||| ((1 : Int32) <<< (E p &&& 31)) = E (n ||| 1 <<< p) := by decide +kernel
def clr (n p : Nat) : Nat := if n.testBit p then n - 2 ^ p else n
theorem E_clr : ∀ n, n < 256 → ∀ p, p < 8 → E n &&& (((1 : Int32) <<< (E p &&& 31)) ^^^ (-1)) = E (clr n p) := by decide +kernel
theorem E_shl1 : ∀ p, p < 9 → (1 : Int32) <<< (E p &&& 31) = E (2 ^ p) := by decide +kernel
theorem E_whole : ∀ p, p < 9 → ((1 : Int32) <<< (E p &&& 31)) - 1 = E (2 ^ p - 1) := by decide +kernel
theorem E_shr : ∀ n, n < 256 → ∀ p, p < 9 → (E n >>> (E p &&& 31) = 0 ↔ n < 2 ^ p) := by decide +kernel
theorem E_and : ∀ n, n < 256 → ∀ k, k < 256 → E n &&& (E k ^^^ (-1)) = E (n &&& (255 ^^^ k)) := by
  intro n hn k hk
  have h : ∀ (m : Nat), m < 256 → E m = Int32.ofNat m := fun _ _ => rfl
  have key : ∀ a : Fin 256, ∀ b : Fin 256, E a.1 &&& (E b.1 ^^^ (-1)) = E (a.1 &&& (255 ^^^ b.1)) := by decide +kernel
  exact key ⟨n, hn⟩ ⟨k, hk⟩
def pcn (n : Nat) : Nat := (n.testBit 0).toNat + (n.testBit 1).toNat + (n.testBit 2).toNat + (n.testBit 3).toNat + (n.testBit 4).toNat + (n.testBit 5).toNat + (n.testBit 6).toNat + (n.testBit 7).toNat
theorem pcn_le : ∀ n, n < 256 → pcn n ≤ 8 := by decide +kernel
theorem clr_lt : ∀ n, n < 256 → ∀ p, p < 8 → clr n p < 256 := by decide +kernel
theorem clr_bit : ∀ n, n < 256 → ∀ p, p < 8 → ∀ q, q < 8 → (clr n p).testBit q = (n.testBit q && !(q == p)) := by decide +kernel
theorem or_lt : ∀ n, n < 256 → ∀ p, p < 8 → n ||| 1 <<< p < 256 := by decide +kernel
theorem or_bit : ∀ n, n < 256 → ∀ p, p < 8 → ∀ q, q < 8 → (n ||| 1 <<< p).testBit q = (n.testBit q || q == p) := by decide +kernel
