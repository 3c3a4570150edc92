/-! PURE: fractions in least terms -/
theorem mod_half {r b : Nat} (hr : 0 < r) (h : r < b) : 2 * (b % r) < b := by
  have h1 := Nat.mod_lt b hr
  have h2 : b = r * (b / r) + b % r := (Nat.div_add_mod b r).symm
  have h3 : 1 ≤ b / r := (Nat.one_le_div_iff hr).mpr (Nat.le_of_lt h)
  have h4 : r * 1 ≤ r * (b / r) := Nat.mul_le_mul_left r h3
  omega
theorem x_gcd : ∀ (k s a b f : Nat), b < 2 ^ k → s + 2 * k + 1 ≤ 100 → 2 * k + 1 < f → a < 2 ^ 31 → b < 2 ^ 31 → fX3_commonDivisor_7 f (nI a) (nI b) (nI s) = some (nI (Nat.gcd a b)) := by
  have e100 : (100 : Int32) = nI 100 := rfl
  have done : ∀ (s a f : Nat), s < 100 → fX3_commonDivisor_7 (f + 1) (nI a) (nI 0) (nI s) = some (nI a) := by
    intro s a f hs
    rw [fX3_commonDivisor_7, e100, if_neg (by rw [k_nIl (by omega) (by omega)]; omega), if_pos (show nI 0 = 0 from rfl)]
  have stp : ∀ (s a b f : Nat), s < 100 → 0 < b → b < 2 ^ 31 → a < 2 ^ 31 → fX3_commonDivisor_7 (f + 1) (nI a) (nI b) (nI s) = fX3_commonDivisor_7 f (nI b) (nI (a % b)) (nI (s + 1)) := by
    intro s a b f hs hb hb2 ha
    have hne := nI_ne0 hb hb2
    rw [fX3_commonDivisor_7, e100, if_neg (by rw [k_nIl (by omega) (by omega)]; omega), if_neg hne]
    unfold dv
    rw [if_neg hne, pk_rem ha hb hb2, nI_1]
  intro k
  induction k with
  | zero =>
    intro s a b f hb hs hf ha hb2
    have : b = 0 := by omega
    subst this
    obtain ⟨f, rfl⟩ : ∃ f', f = f' + 1 := ⟨f - 1, by omega⟩
    rw [done s a f (by omega), Nat.gcd_zero_right]
  | succ k ih =>
    intro s a b f hb hs hf ha hb2
    rcases Nat.eq_zero_or_pos b with h0 | h0
    · subst h0
      obtain ⟨f, rfl⟩ : ∃ f', f = f' + 1 := ⟨f - 1, by omega⟩
      rw [done s a f (by omega), Nat.gcd_zero_right]
    · obtain ⟨f, rfl⟩ : ∃ f', f = f' + 1 := ⟨f - 1, by omega⟩
      have hr := Nat.mod_lt a h0
      rw [stp s a b f (by omega) h0 hb2 ha]
      have hg : Nat.gcd a b = Nat.gcd b (a % b) := by rw [Nat.gcd_comm, Nat.gcd_rec, Nat.gcd_comm]
      rcases Nat.eq_zero_or_pos (a % b) with h1 | h1
      · obtain ⟨f, rfl⟩ : ∃ f', f = f' + 1 := ⟨f - 1, by omega⟩
        rw [h1, done (s + 1) b f (by omega), hg, h1, Nat.gcd_zero_right]
      · obtain ⟨f, rfl⟩ : ∃ f', f = f' + 1 := ⟨f - 1, by omega⟩
        have hh := mod_half h1 hr
        have hg2 : Nat.gcd b (a % b) = Nat.gcd (a % b) (b % (a % b)) := by rw [Nat.gcd_comm, Nat.gcd_rec, Nat.gcd_comm]
        rw [stp (s + 1) b (a % b) f (by omega) h1 (by omega) hb2, hg, hg2]
        exact ih (s + 2) (a % b) (b % (a % b)) f (by rw [Nat.pow_succ] at hb; omega) (by omega) (by omega) (by omega) (by omega)
theorem lN_ne0 {b : Nat} (h : 0 < b) (hb : b < 2 ^ 63) : ¬ lN b = 0 := by
  intro z
  have := (pk_lEQ (a := b) (b := 0) hb (by decide)).mp z
  omega
theorem m_gcd : ∀ (k a b f : Nat), b < 2 ^ k → 2 * k + 1 < f → a < 2 ^ 63 → b < 2 ^ 63 → fX4_divisor_17 f (lN a) (lN b) = some (lN (Nat.gcd a b)) := by
  have done : ∀ (a f : Nat), fX4_divisor_17 (f + 1) (lN a) (lN 0) = some (lN a) := by
    intro a f
    rw [fX4_divisor_17, if_pos ((lg_cmp_eq (lN 0) 0).mpr rfl)]
  have stp : ∀ (a b f : Nat), 0 < b → b < 2 ^ 63 → a < 2 ^ 63 → fX4_divisor_17 (f + 1) (lN a) (lN b) = fX4_divisor_17 f (lN b) (lN (a % b)) := by
    intro a b f hb hb2 ha
    have hne := lN_ne0 hb hb2
    rw [fX4_divisor_17, if_neg (fun z => hne ((lg_cmp_eq _ _).mp z))]
    unfold dvL
    rw [if_neg hne, pk_lRem ha hb hb2]
  intro k
  induction k with
  | zero =>
    intro a b f hb hf ha hb2
    have : b = 0 := by omega
    subst this
    obtain ⟨f, rfl⟩ : ∃ f', f = f' + 1 := ⟨f - 1, by omega⟩
    rw [done a f, Nat.gcd_zero_right]
  | succ k ih =>
    intro a b f hb hf ha hb2
    rcases Nat.eq_zero_or_pos b with h0 | h0
    · subst h0
      obtain ⟨f, rfl⟩ : ∃ f', f = f' + 1 := ⟨f - 1, by omega⟩
      rw [done a f, Nat.gcd_zero_right]
    · obtain ⟨f, rfl⟩ : ∃ f', f = f' + 1 := ⟨f - 1, by omega⟩
      have hr := Nat.mod_lt a h0
      rw [stp a b f h0 hb2 ha]
      have hg : Nat.gcd a b = Nat.gcd b (a % b) := by rw [Nat.gcd_comm, Nat.gcd_rec, Nat.gcd_comm]
      rcases Nat.eq_zero_or_pos (a % b) with h1 | h1
      · obtain ⟨f, rfl⟩ : ∃ f', f = f' + 1 := ⟨f - 1, by omega⟩
        rw [h1, done b f, hg, h1, Nat.gcd_zero_right]
      · obtain ⟨f, rfl⟩ : ∃ f', f = f' + 1 := ⟨f - 1, by omega⟩
        have hh := mod_half h1 hr
        have hg2 : Nat.gcd b (a % b) = Nat.gcd (a % b) (b % (a % b)) := by rw [Nat.gcd_comm, Nat.gcd_rec, Nat.gcd_comm]
        rw [stp b (a % b) f h1 (by omega) hb2, hg, hg2]
        exact ih (a % b) (b % (a % b)) f (by rw [Nat.pow_succ] at hb; omega) (by omega) (by omega) (by omega)
