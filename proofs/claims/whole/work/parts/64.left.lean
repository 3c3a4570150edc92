/-! PURE: whether a pair is left -/
theorem ct_sm (q : Nat → Bool) : ∀ k, fb_ct q (7 * k) = fb_sm (fun j => fb_ct (fun i => q (7 * j + i)) 7) k
  | 0 => rfl
  | k + 1 => by rw [show 7 * (k + 1) = 7 * k + 7 by omega, fb_ct_split, ct_sm q k, fb_sm_succ]
theorem sm_lt {f g : Nat → Nat} {n : Nat} (h : ∀ k, k < n → f k ≤ g k) {i : Nat} (hi : i < n) (hl : f i < g i) : fb_sm f n < fb_sm g n := by
  induction n with
  | zero => omega
  | succ n ih =>
    rw [fb_sm_succ, fb_sm_succ]
    have h1 := h n (by omega)
    rcases Nat.lt_or_ge i n with q | q
    · have := ih (fun k hk => h k (by omega)) q; omega
    · have e : i = n := by omega
      subst e
      have := fb_sm_le (n := i) (f := f) (g := g) (fun k hk => h k (by omega))
      omega
def rq (n j i : Nat) : Bool := decide (i < n) && !decide (i = j)
theorem rq_ct : ∀ n, n < 8 → ∀ j, j < 7 → j < n → fb_ct (rq n j) 7 = n - 1 := by decide +kernel
theorem rq_ct2 : ∀ n, n < 8 → ∀ j, j < n → ∀ i, i < n → ¬ i = j → fb_ct (fun i' => rq n j i' && !decide (i' = i)) 7 < n - 1 := by decide +kernel
theorem rq_sm : ∀ n, n < 8 → fb_sm (fun j => if j < n then n - 1 else 0) 7 = n * (n - 1) := by decide +kernel
def lo (n F i : Nat) : Nat := dif (clr (2 ^ n - 1) i) (rowF F i)
theorem p1_lt : ∀ n, n < 8 → 2 ^ n - 1 < 128 := by decide
theorem lo_lt {n F i : Nat} (hn : n ≤ 7) (hi : i < 7) : lo n F i < 128 := dif_lt _ (clr_lt _ (p1_lt n (by omega)) i hi) _ (rowF_lt F i)
theorem lo_bit {n F i j : Nat} (hn : n ≤ 7) (hi : i < 7) (hj : j < 7) : (lo n F i).testBit j = (decide (j < n) && !(j == i) && !F.testBit (7 * j + i)) := by
  unfold lo
  rw [dif_bit (rowF_lt F i) hj, clr_bit _ (p1_lt n (by omega)) i hi j hj, Nat.testBit_two_pow_sub_one, rowF_bit F i hj]
theorem bit_ne0 {s j : Nat} (h : s.testBit j = true) : ¬ s = 0 := fun z => by rw [z, Nat.zero_testBit] at h; cases h
theorem ne0_bit {s : Nat} (h7 : s < 128) (h : ¬ s = 0) : ∃ j, j < 7 ∧ s.testBit j = true := ⟨low s, low_lt s, low_bit s h7 h⟩
def anyLeft (n F : Nat) : Bool := anyB (fun i => !(lo n F i == 0)) n
theorem left_count {n F : Nat} (hn : n ≤ 7) (hF : FOk n F) : decide (fb_ct (fun i => F.testBit i) 64 < n * (n - 1)) = anyLeft n F := by
  have h49 : fb_ct (fun i => F.testBit i) 64 = fb_ct (fun i => F.testBit i) (7 * 7) := by
    rw [show (64 : Nat) = 7 * 7 + 15 from rfl, fb_ct_split]
    have : fb_ct (fun k => F.testBit (7 * 7 + k)) 15 = 0 := fb_ct_zero.mpr (fun k _ => Nat.testBit_lt_two_pow (Nat.lt_of_lt_of_le hF.1 (Nat.pow_le_pow_right (n := 2) (by decide) (by omega))))
    omega
  have hle : ∀ j, j < 7 → fb_ct (fun i => F.testBit (7 * j + i)) 7 ≤ (if j < n then n - 1 else 0) := by
    intro j hj
    by_cases c : j < n
    · rw [if_pos c, ← rq_ct n (by omega) j hj c]
      apply fb_ct_sub
      intro i hi hb
      have := hF.2 i j hi hj hb
      unfold rq; simp [this.1, this.2.2]
    · rw [if_neg c]
      have : fb_ct (fun i => F.testBit (7 * j + i)) 7 = 0 := fb_ct_zero.mpr (fun i hi => by
        cases hz : F.testBit (7 * j + i) with
        | false => rfl
        | true => exact absurd (hF.2 i j hi hj hz).2.1 c)
      omega
  rw [h49, ct_sm, ← rq_sm n (by omega), Bool.eq_iff_iff, decide_eq_true_eq]
  unfold anyLeft
  rw [anyB_iff]
  constructor
  · intro hlt
    rcases Classical.em (∃ q, q < n ∧ (!(lo n F q == 0)) = true) with h | h
    · exact h
    · exfalso
      have : fb_sm (fun j => if j < n then n - 1 else 0) 7 ≤ fb_sm (fun j => fb_ct (fun i => F.testBit (7 * j + i)) 7) 7 := by
        apply fb_sm_le
        intro j hj
        by_cases c : j < n
        · rw [if_pos c, ← rq_ct n (by omega) j hj c]
          apply fb_ct_sub
          intro i hi hb
          unfold rq at hb
          simp only [Bool.and_eq_true, decide_eq_true_eq, Bool.not_eq_true', decide_eq_false_iff_not] at hb
          cases hz : F.testBit (7 * j + i) with
          | true => rfl
          | false =>
            exfalso
            apply h
            refine ⟨i, hb.1, ?_⟩
            have hbit : (lo n F i).testBit j = true := by
              rw [lo_bit hn hi hj, hz]
              have : ¬ j = i := fun e => hb.2 e.symm
              simp [c, this]
            have := bit_ne0 hbit
            simp [this]
        · rw [if_neg c]; exact Nat.zero_le _
      omega
  · rintro ⟨i, hin, h⟩
    simp only [Bool.not_eq_true', beq_eq_false_iff_ne, ne_eq] at h
    obtain ⟨j, hj, hb⟩ := ne0_bit (lo_lt hn (by omega)) h
    rw [lo_bit hn (by omega) hj] at hb
    simp only [Bool.and_eq_true, decide_eq_true_eq, Bool.not_eq_true', beq_eq_false_iff_ne, ne_eq] at hb
    refine sm_lt (fun k hk => hle k hk) hj ?_
    rw [if_pos hb.1.1]
    refine Nat.lt_of_le_of_lt ?_ (rq_ct2 n (by omega) j hb.1.1 i hin (fun e => hb.1.2 e.symm))
    apply fb_ct_sub
    intro i' hi' hb'
    have := hF.2 i' j hi' hj hb'
    have hne : ¬ i' = i := fun e => by
      rw [e] at hb'; have := hb.2; rw [hb'] at this; cases this
    unfold rq; simp [this.1, this.2.2, hne]
theorem k_nn : ∀ n, n < 8 → nI n * (nI n - 1) = nI (n * (n - 1)) := by decide +kernel
theorem nn_lt : ∀ n, n < 8 → n * (n - 1) < 64 := by decide +kernel
theorem x_pairLeft {n F : Nat} (hn : n ≤ 7) (hF : FOk n F) : fX1_hasPairLeft (nI n) (lN F) = some (bI (anyLeft n F)) := by
  have hc := fb_ct_le (fun i => F.testBit i) 64
  have hnn := nn_lt n (by omega)
  unfold fX1_hasPairLeft
  rw [long_count hF.1, Option.bind_some, k_nn n (by omega), ← left_count hn hF]
  simp only [k_nIl (show n * (n - 1) < 2 ^ 31 by omega) (show fb_ct (fun i => F.testBit i) 64 < 2 ^ 31 by omega)]
  by_cases c : n * (n - 1) ≤ fb_ct (fun i => F.testBit i) 64
  · rw [if_pos c, decide_eq_false (by omega)]; rfl
  · rw [if_neg c, decide_eq_true (by omega)]; rfl
theorem k_p1 : ∀ n, n < 8 → ((1 : Int32) <<< (nI n &&& 31)) - 1 = nI (2 ^ n - 1) := by decide +kernel
theorem m_leftOf {rf : Nat → Int32} {n F i : Nat} (hn : n ≤ 7) (hi : i < n) (h : rf i = nI (rowF F i)) : fX4_leftOf (nI n) rf (nI i) = some (nI (lo n F i)) := by
  unfold fX4_leftOf
  rw [ck_nI (by omega) (by decide), clamp (by omega), h, k_p1 n (by omega), k_clr _ (p1_lt n (by omega)) i (by omega), k_notand _ (clr_lt _ (p1_lt n (by omega)) i (by omega)) _ (rowF_lt F i)]
  rfl
theorem m_isLeft4 {rf : Nat → Int32} {n F : Nat} (hn : n ≤ 7) (h : ∀ i, i < n → rf i = nI (rowF F i)) :
    ∀ (k f i : Nat), i + k = n → k < f → fX4_isLeft_4 (nI n) rf f (bI (anyB (fun i => !(lo n F i == 0)) i)) (nI i) = some (bI (anyLeft n F)) := by
  intro k
  induction k with
  | zero =>
    intro f i hi hf
    obtain ⟨f, rfl⟩ : ∃ f', f = f' + 1 := ⟨f - 1, by omega⟩
    have : i = n := by omega
    subst this
    rw [fX4_isLeft_4, if_pos (by rw [k_nIl (by omega) (by omega)]; omega)]
    unfold zk anyLeft
    cases anyB (fun k => !(lo i F k == 0)) i <;> rfl
  | succ k ih =>
    intro f i hi hf
    obtain ⟨f, rfl⟩ : ∃ f', f = f' + 1 := ⟨f - 1, by omega⟩
    have ih1 := ih f (i + 1) (by omega) (by omega)
    have hlo := lo_lt (F := F) (i := i) hn (by omega)
    rw [anyB] at ih1
    rw [fX4_isLeft_4, if_neg (by rw [k_nIl (by omega) (by omega)]; omega), m_leftOf hn (by omega) (h i (by omega)), Option.bind_some, nI_1]
    have h0 : (nI (lo n F i) = 0) = (lo n F i = 0) := k_nIe (b := 0) (by omega) (by decide)
    cases ha : anyB (fun i => !(lo n F i == 0)) i with
    | true =>
      rw [if_neg (c := bI true = 0) (by decide)]
      rw [ha, Bool.true_or] at ih1
      exact ih1
    | false =>
      rw [if_pos (c := bI false = 0) rfl]
      rw [ha, Bool.false_or] at ih1
      by_cases c : lo n F i = 0
      · rw [if_pos (h0.mpr c)]
        have : (!(lo n F i == 0)) = false := by simp [c]
        rw [this] at ih1; exact ih1
      · rw [if_neg (fun z => c (h0.mp z))]
        have : (!(lo n F i == 0)) = true := by simp [c]
        rw [this] at ih1; exact ih1
theorem m_isLeft {rf : Nat → Int32} {n F : Nat} (hn : n ≤ 7) (h : ∀ i, i < n → rf i = nI (rowF F i)) : fX4_isLeft (nI n) rf = some (bI (anyLeft n F)) := m_isLeft4 hn h n 9 0 (by omega) (by omega)
theorem full_iff : ∀ n, n < 8 → ∀ i, i < n → ∀ r, r < 128 → r &&& clr (2 ^ n - 1) i = r → (pop r < n - 1 ↔ ¬ dif (clr (2 ^ n - 1) i) r = 0) := by decide +kernel
theorem row_sub {n F i : Nat} (hn : n ≤ 7) (hF : FOk n F) (hi : i < n) : rowF F i &&& clr (2 ^ n - 1) i = rowF F i := by
  rw [sub_iff (rowF_lt F i)]
  intro j hj hb
  rw [rowF_bit F i hj] at hb
  have := hF.2 i j (by omega) hj hb
  rw [clr_bit _ (p1_lt n (by omega)) i (by omega) j hj, Nat.testBit_two_pow_sub_one]
  have hne : ¬ j = i := fun e => this.2.2 e.symm
  simp [this.2.1, hne]
