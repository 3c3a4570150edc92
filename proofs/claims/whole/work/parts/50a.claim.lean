/-! PURE: claim, did -/
theorem nibs_ext {a b : Nat} (ha : a < 2 ^ 28) (hb : b < 2 ^ 28) (h : ∀ q, q < 7 → nib a q = nib b q) : a = b := by
  apply Nat.eq_of_testBit_eq
  intro i
  rcases Nat.lt_or_ge i 28 with hi | hi
  · have h1 := h (i / 4) (by omega)
    have h2 := nib_bit a (i / 4) (i % 4)
    have h3 := nib_bit b (i / 4) (i % 4)
    rw [h1, h3, show 4 * (i / 4) + i % 4 = i by omega] at h2
    have : decide (i % 4 < 4) = true := decide_eq_true (by omega)
    rw [this] at h2
    simpa using h2.symm
  · rw [Nat.testBit_lt_two_pow (Nat.lt_of_lt_of_le ha (Nat.pow_le_pow_right (n := 2) (by decide) hi)), Nat.testBit_lt_two_pow (Nat.lt_of_lt_of_le hb (Nat.pow_le_pow_right (n := 2) (by decide) hi))]
theorem setN_setN {E p a b : Nat} (hE : E < 2 ^ 28) (hp : p < 7) (ha : a < 16) (hb : b < 16) : setN (setN E p a) p b = setN E p b := by
  apply nibs_ext (setN_lt (setN_lt hE hp ha) hp hb) (setN_lt hE hp hb)
  intro q hq
  rw [nib_setN hp hb hq, nib_setN hp hb hq, nib_setN hp ha hq]
  by_cases h : q = p
  · rw [if_pos h, if_pos h]
  · rw [if_neg h, if_neg h, if_neg h]
theorem m_late {kq t row : Nat → Int32} {n K E F L D p : Nat} {day rs : Int32} (hn : n ≤ 7) (hk : KindR kq n K) (hF : FOk n F) (hL : L < 128) (ht : PageR t E F L D day) (hp : p < 7) :
    ∃ w, fX4_lateness (nI n) rs kq t row (nI p) = some (wor (posL (fallL (may n K E F) 7 L) p), w) := by
  obtain ⟨o, l1, l2⟩ := m_lay (rs := rs) (row := row) hn hk hF hL ht
  unfold fX4_lateness
  rw [l1]
  simp only [Option.bind_some]
  rw [m_place hn hL l2 hp]
  simp only [Option.bind_some]
  cases h : posL (fallL (may n K E F) 7 L) p with
  | none => exact ⟨_, rfl⟩
  | some i =>
    have := pos_lt7 hn hL h
    simp only [plc, Nat.zero_add]
    rw [if_neg (k_m9 i (by omega))]
    exact ⟨_, rfl⟩
theorem claim_lock {kq page : Nat → Int32} {n K E F L D p : Nat} {day dd dy th : Int32} (hn : n ≤ 7) (hK : K < 2 ^ 28) (hE : E < 2 ^ 28) (hF : FOk n F) (hL : L < 128) (hpop : pop L ≤ n) (hk : KindR kq n K) (hq : PageR page E F L D day) (hp : p < 7) :
    ∀ (k f g d E' : Nat) (b v rs : Int32) (t row : Nat → Int32), d + k = 10 → k < f → k < g → (∀ x, x < 16 → setN E' p x = setN E p x) →
    ∃ r s w, fX3_claim_48 (nI p) f b v (nI d) (nI n) (nI K) (nI E') (lN F) (nI L) dd dy = some (r, s) ∧ fX4_claim_41 (nI n) kq page (nI p) g b v (nI d) th rs t row = some (r, w) := by
  have e10 : (10 : Int32) = nI 10 := rfl
  intro k
  induction k with
  | zero =>
    intro f g d E' b v rs t row hd hf hg _
    obtain ⟨f, rfl⟩ : ∃ f', f = f' + 1 := ⟨f - 1, by omega⟩
    obtain ⟨g, rfl⟩ : ∃ f', g = f' + 1 := ⟨g - 1, by omega⟩
    have hle : nI 10 ≤ nI d := by rw [k_nIl (by omega) (by omega)]; omega
    rw [fX3_claim_48, fX4_claim_41, e10, if_pos hle, if_pos hle]
    exact ⟨_, _, _, rfl, rfl⟩
  | succ k ih =>
    intro f g d E' b v rs t row hd hf hg hE'
    obtain ⟨f, rfl⟩ : ∃ f', f = f' + 1 := ⟨f - 1, by omega⟩
    obtain ⟨g, rfl⟩ : ∃ f', g = f' + 1 := ⟨g - 1, by omega⟩
    have hle : ¬ nI 10 ≤ nI d := by rw [k_nIl (by omega) (by omega)]; omega
    have hEd := setN_lt (d := d) hE hp (by omega)
    obtain ⟨t', b1, b2⟩ := m_begin page t
    have hpg := PageR_E (d := d) (PageR_congr hq b2) hp (by omega)
    obtain ⟨w, l1⟩ := m_late (rs := rs) (row := row) hn hk hF hL hpg hp
    rw [fX3_claim_48, fX4_claim_41, e10, if_neg hle, if_neg hle, x_setDeed hp (by omega), hE' d (by omega), b1]
    simp only [Option.bind_some]
    rw [x_worth hn hK hEd hF.1 hL hpop hp, add0, ck_nI (by omega) (by decide), clamp (by omega), l1]
    unfold fX4_claim_81
    simp only [Option.bind_some, nI_1]
    have hnx : ∀ x, x < 16 → setN (setN E p d) p x = setN E p x := fun x hx => setN_setN hE hp (by omega) hx
    by_cases hc : wor (posL (fallL (may n K (setN E p d) F) 7 L) p) ≤ v
    · simp only [if_pos hc]
      exact ih f g (d + 1) _ _ _ _ _ _ (by omega) (by omega) (by omega) hnx
    · simp only [if_neg hc]
      exact ih f g (d + 1) _ _ _ _ _ _ (by omega) (by omega) (by omega) hnx
theorem wor_pos {n K E F L p : Nat} (hn : n ≤ 7) (hL : L < 128) : ¬ wor (posL (fallL (may n K E F) 7 L) p) ≤ (-1) ∧ ¬ wor (posL (fallL (may n K E F) 7 L) p) ≤ (-9) := by
  cases h : posL (fallL (may n K E F) 7 L) p with
  | none => exact ⟨by decide, by decide⟩
  | some i =>
    have hi := pos_lt7 hn hL h
    have : ∀ i, i < 7 → ¬ nI i ≤ (-1) ∧ ¬ nI i ≤ (-9) := by decide
    exact this i hi
