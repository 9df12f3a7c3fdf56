/-! bits of houses -/
def bitN (P : Nat → Bool) : Nat → Nat
  | 0 => 0
  | h + 1 => bitN P h ||| (if P h then 2 ^ h else 0)
theorem bitN_lt (P : Nat → Bool) : ∀ H, bitN P H < 2 ^ H
  | 0 => by simp [bitN]
  | H + 1 => by
    rw [bitN]
    have h1 := bitN_lt P H
    have h2 : 2 ^ H < 2 ^ (H + 1) := Nat.pow_lt_pow_right (by omega) (by omega)
    apply Nat.or_lt_two_pow
    · omega
    · split
      · exact h2
      · exact Nat.two_pow_pos _
theorem bitN_test (P : Nat → Bool) (k : Nat) : ∀ H, (bitN P H).testBit k = (decide (k < H) && P k)
  | 0 => by simp [bitN]
  | H + 1 => by
    rw [bitN, Nat.testBit_or, bitN_test P k H]
    by_cases hp : P H
    · rw [if_pos hp, Nat.testBit_two_pow]
      rcases Nat.lt_trichotomy k H with h | h | h
      · have h2 : k < H + 1 := by omega
        have h3 : ¬ H = k := by omega
        simp [h, h2, h3]
      · subst h; simp [hp]
      · have h1 : ¬ k < H := by omega
        have h2 : ¬ k < H + 1 := by omega
        have h3 : ¬ H = k := by omega
        simp [h1, h2, h3]
    · rw [if_neg hp]
      rcases Nat.lt_trichotomy k H with h | h | h
      · have h2 : k < H + 1 := by omega
        simp [h, h2]
      · subst h; simp [hp]
      · have h1 : ¬ k < H := by omega
        have h2 : ¬ k < H + 1 := by omega
        simp [h1, h2]
theorem bitN_cong {P Q : Nat → Bool} : ∀ {H : Nat}, (∀ k, k < H → P k = Q k) → bitN P H = bitN Q H
  | 0, _ => rfl
  | H + 1, h => by rw [bitN, bitN, bitN_cong (fun k hk => h k (by omega)), h H (by omega)]
theorem bitN_more {P : Nat → Bool} {m : Nat} : ∀ {n : Nat}, m ≤ n → (∀ k, m ≤ k → k < n → P k = false) → bitN P n = bitN P m
  | n, hmn, h => by
    induction n with
    | zero => have : m = 0 := by omega
              subst this; rfl
    | succ n ih =>
      rcases Nat.eq_or_lt_of_le hmn with e | e
      · rw [e]
      · rw [bitN, ih (by omega) (fun k h1 h2 => h k h1 (by omega)), h n (by omega) (by omega)]
        simp
theorem sh_amt : ∀ n, n < 32 → ((nI n &&& 31).toBitVec.smod 32).toNat = n := by decide +kernel
theorem sh_one : ∀ k, k < 31 → (1 : Int32) <<< (nI k &&& 31) = nI (2 ^ k) := by decide +kernel
theorem bit_or (a b : Nat) : nI a ||| nI b = nI (a ||| b) := fa_or a b
theorem or_bit {P : Nat → Bool} {k : Nat} (hk : k < 31) (hp : P k = true) : nI (bitN P k) ||| ((1 : Int32) <<< (nI k &&& 31)) = nI (bitN P (k + 1)) := by
  rw [sh_one k hk, bit_or, bitN, if_pos hp]
theorem or_no {P : Nat → Bool} {k : Nat} (hp : P k = false) : nI (bitN P k) = nI (bitN P (k + 1)) := by
  rw [bitN, if_neg (by simp [hp]), Nat.or_zero]
theorem bit_shr {b k : Nat} (hb : b < 2 ^ 31) (hk : k < 31) : (nI b >>> (nI k &&& 31)) &&& 1 = nI (b / 2 ^ k % 2) := by
  rw [pk_shrN hb _ k (sh_amt k (by omega))]
  have h1 : b / 2 ^ k < 2 ^ 32 := Nat.lt_of_le_of_lt (Nat.div_le_self _ _) (by omega)
  exact pk_andN h1 1 (by decide)
theorem bit_zero {b k : Nat} (hb : b < 2 ^ 31) (hk : k < 31) : (nI b >>> (nI k &&& 31)) &&& 1 = 0 ↔ b.testBit k = false := by
  rw [bit_shr hb hk, Nat.testBit_eq_decide_div_mod_eq]
  have h2 : b / 2 ^ k % 2 < 2 := Nat.mod_lt _ (by omega)
  rcases Nat.eq_zero_or_pos (b / 2 ^ k % 2) with h | h
  · rw [h]; simp [nI]
  · have : b / 2 ^ k % 2 = 1 := by omega
    rw [this]; simp [nI]
theorem bit_one {b k : Nat} (hb : b < 2 ^ 31) (hk : k < 31) : (nI b >>> (nI k &&& 31)) &&& 1 = 1 ↔ b.testBit k = true := by
  rw [bit_shr hb hk, Nat.testBit_eq_decide_div_mod_eq]
  have h2 : b / 2 ^ k % 2 < 2 := Nat.mod_lt _ (by omega)
  rcases Nat.eq_zero_or_pos (b / 2 ^ k % 2) with h | h
  · rw [h]; simp [nI]
  · have : b / 2 ^ k % 2 = 1 := by omega
    rw [this]; simp [nI]
/-- how many bits, the lowest -/
def popc (b : Nat) : Nat := fb_ct (fun k => b.testBit k) 10
def lowb (b : Nat) : Nat := fa_first (fun k => b.testBit k) 10
theorem popc_tab : ∀ b, b < 1024 → (b = 0 ∨ (b &&& (b - 1) < b ∧ popc (b &&& (b - 1)) + 1 = popc b)) := by decide +kernel
theorem popc_0 : popc 0 = 0 := by decide +kernel
theorem popc_pos : ∀ b, b < 1024 → (popc b = 0 ↔ b = 0) := by decide +kernel
theorem popc_le (b : Nat) : popc b ≤ 10 := fb_ct_le _ _
theorem lowb_tab : ∀ b, b < 1024 → (b = 0 ∨ (lowb b < 10 ∧ b.testBit (lowb b) = true)) := by decide +kernel
theorem lowb_no (b k : Nat) (h : k < lowb b) : b.testBit k = false := fa_first_no _ _ k h
theorem lowb_le (b : Nat) : lowb b ≤ 10 := fa_first_le _ _
