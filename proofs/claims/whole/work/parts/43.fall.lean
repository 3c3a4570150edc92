/-! PURE: the fall, one by one and all at once -/
section Abs
variable (mm : Nat → Nat)
def fallL : Nat → Nat → List Nat
  | 0, _ => []
  | k + 1, L => if mm L = 0 then [] else low (mm L) :: fallL k (clr L (low (mm L)))
def leftL : Nat → Nat → Nat
  | 0, L => L
  | k + 1, L => if mm L = 0 then L else leftL k (clr L (low (mm L)))
def leftA : Nat → Nat → Nat
  | 0, L => L
  | k + 1, L => if mm L = 0 then L else leftA k (dif L (mm L))
def MOk : Prop := (∀ L, L < 128 → mm L < 128) ∧ (∀ L, L < 128 → ∀ p, p < 7 → (mm L).testBit p = true → L.testBit p = true) ∧ (∀ L, L < 128 → ∀ p, p < 7 → ∀ q, q < 7 → p ≠ q → (mm L).testBit p = true → (mm (clr L q)).testBit p = true)
end Abs
theorem low7 (s : Nat) : low s < 7 := low_lt s
theorem mm_low {mm : Nat → Nat} (h : MOk mm) {L : Nat} (hL : L < 128) (h0 : ¬ mm L = 0) : (mm L).testBit (low (mm L)) = true ∧ L.testBit (low (mm L)) = true := by
  have h1 := low_bit (mm L) (h.1 L hL) h0
  exact ⟨h1, h.2.1 L hL _ (low7 _) h1⟩
theorem mm_0 {mm : Nat → Nat} (h : MOk mm) : mm 0 = 0 := by
  rcases Nat.eq_zero_or_pos (mm 0) with z | z
  · exact z
  · have := (mm_low h (L := 0) (by decide) (by omega)).2
    rw [Nat.zero_testBit] at this; cases this
theorem fallL_st {mm : Nat → Nat} (h : MOk mm) : ∀ k L, L < 128 → pop L ≤ k → fallL mm k L = fallL mm (k + 1) L
  | 0, L, hL, hp => by
    have : L = 0 := pop_zero L hL (by omega)
    subst this
    rw [fallL, fallL, if_pos (mm_0 h)]
  | k + 1, L, hL, hp => by
    rw [fallL, fallL]
    by_cases h0 : mm L = 0
    · rw [if_pos h0, if_pos h0]
    · rw [if_neg h0, if_neg h0]
      have hb := (mm_low h hL h0).2
      have := clr_pop L hL _ (low7 (mm L)) hb
      rw [fallL_st h k _ (clr_lt L hL _ (low7 _)) (by omega)]
theorem leftL_st {mm : Nat → Nat} (h : MOk mm) : ∀ k L, L < 128 → pop L ≤ k → leftL mm k L = leftL mm (k + 1) L
  | 0, L, hL, hp => by
    have : L = 0 := pop_zero L hL (by omega)
    subst this
    rw [leftL, leftL, if_pos (mm_0 h)]
  | k + 1, L, hL, hp => by
    rw [leftL, leftL]
    by_cases h0 : mm L = 0
    · rw [if_pos h0, if_pos h0]
    · rw [if_neg h0, if_neg h0]
      have hb := (mm_low h hL h0).2
      have := clr_pop L hL _ (low7 (mm L)) hb
      rw [leftL_st h k _ (clr_lt L hL _ (low7 _)) (by omega)]
theorem fallL_7 {mm : Nat → Nat} (h : MOk mm) {L : Nat} (hL : L < 128) : ∀ (j k : Nat), pop L ≤ k → fallL mm (k + j) L = fallL mm k L
  | 0, _, _ => rfl
  | j + 1, k, hk => by rw [← Nat.add_assoc, ← fallL_st h (k + j) L hL (by omega), fallL_7 h hL j k hk]
theorem leftL_7 {mm : Nat → Nat} (h : MOk mm) {L : Nat} (hL : L < 128) : ∀ (j k : Nat), pop L ≤ k → leftL mm (k + j) L = leftL mm k L
  | 0, _, _ => rfl
  | j + 1, k, hk => by rw [← Nat.add_assoc, ← leftL_st h (k + j) L hL (by omega), leftL_7 h hL j k hk]
theorem pop_clr_le {L p : Nat} (hL : L < 128) (hp : p < 7) : pop (clr L p) ≤ pop L := by
  cases hb : L.testBit p with
  | true => have := clr_pop L hL p hp hb; omega
  | false => unfold clr; rw [hb]; simp
/-- in which order two that may be taken are taken changes nothing -/
theorem conf {mm : Nat → Nat} (h : MOk mm) : ∀ k L, L < 128 → pop L ≤ k → ∀ p, p < 7 → (mm L).testBit p = true → leftL mm k L = leftL mm k (clr L p)
  | 0, L, hL, hp, p, _, hb => by
    have : L = 0 := pop_zero L hL (by omega)
    subst this
    rw [mm_0 h, Nat.zero_testBit] at hb; cases hb
  | k + 1, L, hL, hpk, p, hp, hb => by
    have h0 : ¬ mm L = 0 := fun z => by rw [z, Nat.zero_testBit] at hb; cases hb
    have hm := mm_low h hL h0
    have hcm := clr_lt L hL _ (low7 (mm L))
    have hcp := clr_lt L hL p hp
    have hpm := clr_pop L hL _ (low7 (mm L)) hm.2
    have hpp := clr_pop L hL p hp (h.2.1 L hL p hp hb)
    rw [leftL, if_neg h0]
    by_cases he : p = low (mm L)
    · rw [← he]
      rw [← he] at hpm hcm
      exact leftL_st h k _ hcm (by omega)
    · rw [conf h k _ hcm (by omega) p hp (h.2.2 L hL p hp _ (low7 _) he hb), ← leftL_st h k _ hcp (by omega), conf h k _ hcp (by omega) _ (low7 (mm L)) (h.2.2 L hL _ (low7 _) p hp (fun z => he z.symm) hm.1), clr_comm L hL _ (low7 _) p hp]
def rem (L T : Nat) : Nat → Nat
  | 0 => L
  | j + 1 => if T.testBit j then clr (rem L T j) j else rem L T j
theorem rem_lt {L T : Nat} (hL : L < 128) : ∀ j, j ≤ 7 → rem L T j < 128
  | 0, _ => hL
  | j + 1, hj => by
    rw [rem]; split
    · exact clr_lt _ (rem_lt hL j (by omega)) j (by omega)
    · exact rem_lt hL j (by omega)
theorem rem_bit {L T : Nat} (hL : L < 128) : ∀ j, j ≤ 7 → ∀ p, p < 7 → (rem L T j).testBit p = (L.testBit p && !(decide (p < j) && T.testBit p))
  | 0, _, p, _ => by simp [rem]
  | j + 1, hj, p, hp => by
    have ih := rem_bit hL j (by omega) p hp (T := T)
    rw [rem]
    cases hT : T.testBit j with
    | true =>
      rw [if_pos rfl, clr_bit _ (rem_lt hL j (by omega)) j (by omega) p hp, ih]
      by_cases hpj : p = j
      · subst hpj; simp [hT]
      · have h1 : (p == j) = false := by simp [hpj]
        have h2 : decide (p < j + 1) = decide (p < j) := by
          rw [decide_eq_decide]; omega
        rw [h1, h2]; simp
    | false =>
      rw [if_neg (by simp), ih]
      by_cases hpj : p = j
      · subst hpj; simp [hT]
      · have h2 : decide (p < j + 1) = decide (p < j) := by
          rw [decide_eq_decide]; omega
        rw [h2]
theorem rem_7 {L T : Nat} (hL : L < 128) (hT : T < 128) : rem L T 7 = dif L T := by
  apply set_ext (rem_lt hL 7 (by omega)) (dif_lt L hL T hT)
  intro p hp
  rw [rem_bit hL 7 (by omega) p hp, dif_bit hT hp]
  simp [hp]
theorem pop_rem {L T : Nat} (hL : L < 128) : ∀ j, j ≤ 7 → pop (rem L T j) ≤ pop L
  | 0, _ => Nat.le_refl _
  | j + 1, hj => by
    rw [rem]; split
    · exact Nat.le_trans (pop_clr_le (rem_lt hL j (by omega)) (by omega)) (pop_rem hL j (by omega))
    · exact pop_rem hL j (by omega)
theorem conf_all {mm : Nat → Nat} (h : MOk mm) {k L : Nat} (hL : L < 128) (hk : pop L ≤ k) : ∀ j, j ≤ 7 → leftL mm k L = leftL mm k (rem L (mm L) j) ∧ ∀ p, p < 7 → j ≤ p → (mm L).testBit p = true → (mm (rem L (mm L) j)).testBit p = true
  | 0, _ => ⟨rfl, fun p _ _ hb => hb⟩
  | j + 1, hj => by
    obtain ⟨h1, h2⟩ := conf_all h hL hk j (by omega)
    have hr := rem_lt (T := mm L) hL j (by omega)
    have hp := pop_rem (T := mm L) hL j (by omega)
    rw [rem]
    cases hT : (mm L).testBit j with
    | true =>
      rw [if_pos rfl]
      refine ⟨h1.trans (conf h k _ hr (by omega) j (by omega) (h2 j (by omega) (Nat.le_refl j) hT)), fun p hp7 hjp hb => ?_⟩
      exact h.2.2 _ hr p hp7 j (by omega) (by omega) (h2 p hp7 (by omega) hb)
    | false =>
      rw [if_neg (by simp)]
      exact ⟨h1, fun p hp7 hjp hb => h2 p hp7 (by omega) hb⟩
theorem dif_pop : ∀ L, L < 128 → ∀ T, T < 128 → ¬ T = 0 → T &&& L = T → pop (dif L T) < pop L := by decide +kernel
theorem left_eq {mm : Nat → Nat} (h : MOk mm) : ∀ k L, L < 128 → pop L ≤ k → leftA mm k L = leftL mm k L
  | 0, L, _, _ => rfl
  | k + 1, L, hL, hk => by
    rw [leftA]
    by_cases h0 : mm L = 0
    · rw [if_pos h0, leftL, if_pos h0]
    · rw [if_neg h0]
      have hd := dif_lt L hL _ (h.1 L hL)
      have hsub : mm L &&& L = mm L := by
        apply set_ext (Nat.lt_of_le_of_lt Nat.and_le_right hL) (h.1 L hL)
        intro p hp
        rw [Nat.testBit_and]
        cases hb : (mm L).testBit p with
        | false => rfl
        | true => rw [h.2.1 L hL p hp hb]; rfl
      have hp := dif_pop L hL _ (h.1 L hL) h0 hsub
      rw [left_eq h k _ hd (by omega), leftL_st h k _ hd (by omega), (conf_all h hL hk 7 (Nat.le_refl 7)).1, rem_7 hL (h.1 L hL)]
/-! 'may' is such a rule -/
theorem mxg_le {K E L g : Nat} : ∀ k, (∀ p, p < k → L.testBit p = true → gr K E p ≤ g) → mxg K E L k ≤ g
  | 0, _ => Nat.zero_le _
  | k + 1, h => by
    rw [mxg]; split
    · rename_i hc; exact h k (Nat.lt_succ_self k) hc.1
    · exact mxg_le k (fun p hp => h p (Nat.lt_succ_of_lt hp))
theorem may_bit {n K E F L p : Nat} : (may n K E F L).testBit p = true ↔ p < n ∧ L.testBit p = true ∧ gr K E p = mxg K E L n ∧ hid K F L p = false := by
  unfold may
  rw [ofB_bit]
  unfold mayP
  simp [and_assoc]
theorem hid_mono {K F L q p : Nat} (hL : L < 128) (hq : q < 7) (h : hid K F L p = false) : hid K F (clr L q) p = false := by
  unfold hid at h ⊢
  simp only [Bool.and_eq_false_iff, Bool.not_eq_false', beq_iff_eq] at h ⊢
  rcases h with h | h
  · left
    apply set_ext (hidM_lt (clr_lt L hL q hq)) (by decide)
    intro r hr
    have hz : (hidM F L p).testBit r = false := by rw [h, Nat.zero_testBit]
    unfold hidM at hz ⊢
    rw [Nat.testBit_and] at hz
    rw [Nat.testBit_and, clr_bit L hL q hq r hr, Nat.zero_testBit]
    cases ha : (F / 2 ^ (7 * p)).testBit r with
    | false => rfl
    | true => rw [ha, Bool.true_and] at hz; rw [hz]; rfl
  · exact Or.inr h
theorem may_ok {n : Nat} (hn : n ≤ 7) (K E F : Nat) : MOk (may n K E F) := by
  refine ⟨fun L _ => may_lt hn K E F L, fun L _ p _ h => (may_bit.mp h).2.1, fun L hL p hp q hq hpq h => ?_⟩
  obtain ⟨h1, h2, h3, h4⟩ := may_bit.mp h
  have hb : (clr L q).testBit p = true := by rw [clr_bit L hL q hq p hp, h2]; simp [hpq]
  refine may_bit.mpr ⟨h1, hb, ?_, hid_mono hL hq h4⟩
  apply Nat.le_antisymm
  · exact mxg_ge K E (clr L q) n p h1 hb
  · rw [h3]
    apply mxg_le
    intro r hr hbr
    have hr7 : r < 7 := by omega
    rw [clr_bit L hL q hq r hr7] at hbr
    exact mxg_ge K E L n r hr (by cases hz : L.testBit r with
      | true => rfl
      | false => rw [hz] at hbr; cases hbr)
