/-! PURE: sets of at most seven people as numbers below 128; numbers in nibbles; pairs as bits -/
def clr (L p : Nat) : Nat := if L.testBit p then L - 2 ^ p else L
def dif (L M : Nat) : Nat := L &&& (127 ^^^ M)
def low (s : Nat) : Nat := if s.testBit 0 then 0 else if s.testBit 1 then 1 else if s.testBit 2 then 2 else if s.testBit 3 then 3 else if s.testBit 4 then 4 else if s.testBit 5 then 5 else 6
def pop (s : Nat) : Nat := (s.testBit 0).toNat + (s.testBit 1).toNat + (s.testBit 2).toNat + (s.testBit 3).toNat + (s.testBit 4).toNat + (s.testBit 5).toNat + (s.testBit 6).toNat
def bI (b : Bool) : Int32 := if b then 1 else 0
theorem k_isIn : ∀ L, L < 128 → ∀ p, p < 7 → fX3_isIn (nI L) (nI p) = some (bI (L.testBit p)) := by decide +kernel
theorem k_has : ∀ L, L < 128 → ∀ p, p < 7 → fX4_has (nI L) (nI p) = some (bI (L.testBit p)) := by decide +kernel
theorem k_bit : ∀ p, p < 16 → fX3_bit (nI p) = some (nI (2 ^ p)) := by decide +kernel
theorem k_shl1 : ∀ p, p < 16 → (1 : Int32) <<< (nI p &&& 31) = nI (2 ^ p) := by decide +kernel
theorem k_without : ∀ L, L < 128 → ∀ p, p < 7 → fX3_without (nI L) (nI p) = some (nI (clr L p)) := by decide +kernel
theorem k_clr : ∀ L, L < 128 → ∀ p, p < 7 → nI L &&& ((1 : Int32) <<< (nI p &&& 31) ^^^ (-1)) = nI (clr L p) := by decide +kernel
theorem k_leastOf : ∀ s, s < 128 → fX3_leastOf (nI s) = some (if s = 0 then (-9) else nI (low s)) := by decide +kernel
theorem k_least : ∀ s, s < 128 → ¬ s = 0 → fX4_least (nI s) = some (nI (low s)) := by decide +kernel
theorem k_bitCount : ∀ s, s < 128 → fJ6_bitCount_0f7a4 (nI s) = some (nI (pop s)) := by decide +kernel
theorem k_many : ∀ s, s < 128 → fX4_many (nI s) = some (nI (pop s)) := by decide +kernel
theorem clr_lt : ∀ L, L < 128 → ∀ p, p < 7 → clr L p < 128 := by decide +kernel
theorem clr_bit : ∀ L, L < 128 → ∀ p, p < 7 → ∀ q, q < 7 → (clr L p).testBit q = (L.testBit q && !(q == p)) := by decide +kernel
theorem clr_comm : ∀ L, L < 128 → ∀ p, p < 7 → ∀ q, q < 7 → clr (clr L p) q = clr (clr L q) p := by decide +kernel
theorem low_lt (s : Nat) : low s < 7 := by unfold low; (repeat' split) <;> omega
theorem low_bit : ∀ s, s < 128 → ¬ s = 0 → s.testBit (low s) = true := by decide +kernel
theorem clr_pop : ∀ L, L < 128 → ∀ p, p < 7 → L.testBit p = true → pop (clr L p) + 1 = pop L := by decide +kernel
theorem pop_le (s : Nat) : pop s ≤ 7 := by
  unfold pop
  have h := fun k => Bool.toNat_le (s.testBit k)
  have := h 0; have := h 1; have := h 2; have := h 3; have := h 4; have := h 5; have := h 6
  omega
theorem pop_zero : ∀ s, s < 128 → pop s = 0 → s = 0 := by decide +kernel
theorem dif_lt : ∀ L, L < 128 → ∀ M, M < 128 → dif L M < 128 := by
  intro L hL M hM
  exact Nat.lt_of_le_of_lt Nat.and_le_left hL
theorem dif_bit {L M : Nat} (hM : M < 128) {q : Nat} (hq : q < 7) : (dif L M).testBit q = (L.testBit q && !M.testBit q) := by
  unfold dif
  rw [Nat.testBit_and, Nat.testBit_xor]
  have : Nat.testBit 127 q = true := by
    have : ∀ q, q < 7 → Nat.testBit 127 q = true := by decide
    exact this q hq
  rw [this]; cases M.testBit q <;> simp
theorem set_ext {L M : Nat} (hL : L < 128) (hM : M < 128) (h : ∀ p, p < 7 → L.testBit p = M.testBit p) : L = M := by
  apply Nat.eq_of_testBit_eq
  intro i
  rcases Nat.lt_or_ge i 7 with hi | hi
  · exact h i hi
  · rw [Nat.testBit_lt_two_pow (Nat.lt_of_lt_of_le hL (Nat.pow_le_pow_right (n := 2) (by decide) hi)), Nat.testBit_lt_two_pow (Nat.lt_of_lt_of_le hM (Nat.pow_le_pow_right (n := 2) (by decide) hi))]
/-- a number by its bits -/
def ofB (f : Nat → Bool) : Nat → Nat
  | 0 => 0
  | k + 1 => ofB f k ||| (if f k then 2 ^ k else 0)
theorem ofB_bit (f : Nat → Bool) : ∀ (k p : Nat), (ofB f k).testBit p = (decide (p < k) && f p)
  | 0, p => by simp [ofB]
  | k + 1, p => by
    rw [ofB, Nat.testBit_or, ofB_bit f k p]
    by_cases hf : f k = true
    · rw [if_pos hf, Nat.testBit_two_pow]
      by_cases hp : p = k
      · subst hp; simp [hf]
      · have : ¬ k = p := fun z => hp z.symm
        rcases Nat.lt_or_ge p k with h | h
        · simp [h, this, Nat.lt_succ_of_lt h]
        · have h1 : ¬ p < k := by omega
          have h2 : ¬ p < k + 1 := by omega
          simp [h1, h2, this]
    · rw [if_neg hf, Nat.zero_testBit, Bool.or_false]
      by_cases hp : p = k
      · subst hp; simp at hf; simp [hf]
      · rcases Nat.lt_or_ge p k with h | h
        · simp [h, Nat.lt_succ_of_lt h]
        · have h1 : ¬ p < k := by omega
          have h2 : ¬ p < k + 1 := by omega
          simp [h1, h2]
theorem ofB_lt (f : Nat → Bool) : ∀ k, ofB f k < 2 ^ k
  | 0 => by simp [ofB]
  | k + 1 => by
    rw [ofB]
    apply Nat.or_lt_two_pow
    · exact Nat.lt_trans (ofB_lt f k) (Nat.pow_lt_pow_right (by decide) (Nat.lt_succ_self k))
    · split
      · exact Nat.pow_lt_pow_right (by decide) (Nat.lt_succ_self k)
      · exact Nat.two_pow_pos _
theorem ofB_lt7 (f : Nat → Bool) {k : Nat} (h : k ≤ 7) : ofB f k < 128 := Nat.lt_of_lt_of_le (ofB_lt f k) (Nat.pow_le_pow_right (n := 2) (by decide) h)
theorem ofB_congr {f g : Nat → Bool} : ∀ {k : Nat}, (∀ p, p < k → f p = g p) → ofB f k = ofB g k
  | 0, _ => rfl
  | k + 1, h => by rw [ofB, ofB, ofB_congr (fun p hp => h p (Nat.lt_succ_of_lt hp)), h k (Nat.lt_succ_self k)]
theorem orI (a b : Nat) : nI a ||| nI b = nI (a ||| b) := by
  apply Int32.toBitVec_inj.mp
  rw [Int32.toBitVec_or]
  show BitVec.ofNat 32 a ||| BitVec.ofNat 32 b = BitVec.ofNat 32 (a ||| b)
  exact (BitVec.ofNat_or).symm
theorem andI (a b : Nat) : nI a &&& nI b = nI (a &&& b) := by
  apply Int32.toBitVec_inj.mp
  rw [Int32.toBitVec_and]
  show BitVec.ofNat 32 a &&& BitVec.ofNat 32 b = BitVec.ofNat 32 (a &&& b)
  exact (BitVec.ofNat_and).symm
theorem k_notand : ∀ L, L < 128 → ∀ M, M < 128 → nI L &&& (nI M ^^^ (-1)) = nI (dif L M) := by decide +kernel
theorem ck_nI {α : Type} {i n : Nat} {k : Option α} (h : i < n) (hn : n < 2 ^ 31) : ck (nI i) n k = k := by
  unfold ck; rw [if_neg (nI_in h hn)]
theorem clamp {i : Nat} (h : i < 2 ^ 31) : Int32.toNatClampNeg (nI i) = i := nI_clamp h
theorem in_ok (a lo hi : Int32) : fX4_in (Int32.toInt64 a) (Int32.toInt64 lo) (Int32.toInt64 hi) = some (if lo ≤ a ∧ a ≤ hi then 1 else 0) := by
  unfold fX4_in
  simp only [show (lg_cmp a.toInt64 lo.toInt64 < 0) = (a < lo) from propext ((lg_cmp_lt _ _).trans (fa_wide_lt a lo)), show (0 < lg_cmp a.toInt64 hi.toInt64) = (hi < a) from propext ((lg_cmp_gt _ _).trans (fa_wide_lt hi a))]
  by_cases h1 : a < lo
  · rw [if_pos h1, if_neg (fun z => absurd h1 (by rw [fa_lt]; have := z.1; rw [fa_le] at this; omega))]
  · rw [if_neg h1]
    by_cases h2 : hi < a
    · rw [if_pos h2, if_neg (fun z => absurd h2 (by rw [fa_lt]; have := z.2; rw [fa_le] at this; omega))]
    · rw [if_neg h2, if_pos]
      rw [fa_lt] at h1 h2
      exact ⟨by rw [fa_le]; omega, by rw [fa_le]; omega⟩
theorem in0 (a hi : Int32) : fX4_in (Int32.toInt64 a) 0 (Int32.toInt64 hi) = some (if 0 ≤ a ∧ a ≤ hi then 1 else 0) := in_ok a 0 hi
/-- a person's number: below n, or refused by both -/
theorem who (n : Nat) (hn : n ≤ 7) (a : Int32) : (∃ p, p < n ∧ a = nI p ∧ fX1_has (nI n) a = some 1 ∧ fX4_noPerson (nI n) a = some 0) ∨ (fX1_has (nI n) a = some 0 ∧ fX4_noPerson (nI n) a = some 1) := by
  have hm : (nI n - 1).toInt = (n : Int) - 1 := by
    have : ∀ n, n < 8 → (nI n - 1).toInt = (n : Int) - 1 := by decide +kernel
    exact this n (by omega)
  have hN : (nI n).toInt = (n : Int) := nI_toInt (by omega)
  unfold fX1_has fX4_noPerson
  rw [in0, Option.bind_some]
  rcases pk_ix a (n := n) (by omega) with h | h | ⟨p, hp, rfl⟩
  · refine Or.inr ⟨by rw [if_pos h], ?_⟩
    rw [if_neg (c := 0 ≤ a ∧ a ≤ nI n - 1)]
    · rfl
    · rintro ⟨z, -⟩
      rw [fa_lt] at h; rw [fa_le] at z; omega
  · have h0 : ¬ a < 0 := by rw [fa_le, hN] at h; rw [fa_lt]; show ¬ a.toInt < 0; omega
    refine Or.inr ⟨by rw [if_neg h0, if_pos h], ?_⟩
    rw [if_neg (c := 0 ≤ a ∧ a ≤ nI n - 1)]
    · rfl
    · rintro ⟨-, z⟩
      rw [fa_le, hm] at z; rw [fa_le, hN] at h; omega
  · refine Or.inl ⟨p, hp, rfl, ?_, ?_⟩
    · rw [if_neg (nI_pos (by omega)), if_neg (nI_ge hp (by omega))]
    · rw [if_pos (c := 0 ≤ nI p ∧ nI p ≤ nI n - 1)]
      · rfl
      · refine ⟨nI_pos' (by omega), ?_⟩
        rw [fa_le, hm, nI_toInt (by omega)]; omega
/-- numbers of 0 .. hi, or refused -/
theorem k_nIe {a b : Nat} (ha : a < 2 ^ 31) (hb : b < 2 ^ 31) : (nI a = nI b) = (a = b) := propext (nI_eq ha hb)
theorem k_nIl {a b : Nat} (ha : a < 2 ^ 31) (hb : b < 2 ^ 31) : (nI a ≤ nI b) = (a ≤ b) := propext (nI_leI ha hb)
theorem k_nIt {a b : Nat} (ha : a < 2 ^ 31) (hb : b < 2 ^ 31) : (nI a < nI b) = (a < b) := propext (nI_ltI ha hb)
theorem bI0 (b : Bool) : (bI b = 0) = (b = false) := by cases b <;> decide
