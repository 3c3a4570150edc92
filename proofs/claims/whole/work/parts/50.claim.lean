/-! PURE: claim, did -/
theorem nibs_ext {a b : Nat} (ha : a < 2 ^ 28) (hb : b < 2 ^ 28) (h : ∀ q, q < 7 → nib a q = nib b q) : a = b := by
  apply Nat.eq_of_testBit_eq
  intro i
  rcases Nat.lt_or_ge i 28 with hi | hi
  · have h1 := h (i / 4) (by omega)
    have h2 := nib_bit a (i / 4) (i % 4)
    have h3 := nib_bit b (i / 4) (i % 4)
    rw [h1, h3, show 4 * (i / 4) + i % 4 = i by omega] at h2
    have : decide (i % 4 < 4) = true := decide_eq_true (by omega)
    rw [this] at h2
    simpa using h2.symm
  · rw [Nat.testBit_lt_two_pow (Nat.lt_of_lt_of_le ha (Nat.pow_le_pow_right (n := 2) (by decide) hi)), Nat.testBit_lt_two_pow (Nat.lt_of_lt_of_le hb (Nat.pow_le_pow_right (n := 2) (by decide) hi))]
theorem setN_setN {E p a b : Nat} (hE : E < 2 ^ 28) (hp : p < 7) (ha : a < 16) (hb : b < 16) : setN (setN E p a) p b = setN E p b := by
  apply nibs_ext (setN_lt (setN_lt hE hp ha) hp hb) (setN_lt hE hp hb)
  intro q hq
  rw [nib_setN hp hb hq, nib_setN hp hb hq, nib_setN hp ha hq]
  by_cases h : q = p
  · rw [if_pos h, if_pos h]
  · rw [if_neg h, if_neg h, if_neg h]
theorem m_late {kq t row : Nat → Int32} {n K E F L D p : Nat} {day rs : Int32} (hn : n ≤ 7) (hk : KindR kq n K) (hF : FOk n F) (hL : L < 128) (ht : PageR t E F L D day) (hp : p < 7) :
    ∃ w, fX4_lateness (nI n) rs kq t row (nI p) = some (wor (posL (fallL (may n K E F) 7 L) p), w) := by
  obtain ⟨o, l1, l2⟩ := m_lay (rs := rs) (row := row) hn hk hF hL ht
  unfold fX4_lateness
  rw [l1]
  simp only [Option.bind_some]
  rw [m_place hn hL l2 hp]
  simp only [Option.bind_some]
  cases h : posL (fallL (may n K E F) 7 L) p with
  | none => exact ⟨_, rfl⟩
  | some i =>
    have := pos_lt7 hn hL h
    simp only [plc, Nat.zero_add]
    rw [if_neg (k_m9 i (by omega))]
    exact ⟨_, rfl⟩
theorem wor_pos {n K E F L p : Nat} (hn : n ≤ 7) (hL : L < 128) : ¬ wor (posL (fallL (may n K E F) 7 L) p) ≤ (-1) ∧ ¬ wor (posL (fallL (may n K E F) 7 L) p) ≤ (-9) := by
  cases h : posL (fallL (may n K E F) 7 L) p with
  | none => exact ⟨by decide, by decide⟩
  | some i =>
    have hi := pos_lt7 hn hL h
    have : ∀ i, i < 7 → ¬ nI i ≤ (-1) ∧ ¬ nI i ≤ (-9) := by decide
    exact this i hi
theorem claim_lock {kq page : Nat → Int32} {n K E F L D p : Nat} {day dd dy th : Int32} (hn : n ≤ 7) (hK : K < 2 ^ 28) (hE : E < 2 ^ 28) (hF : FOk n F) (hL : L < 128) (hpop : pop L ≤ n) (hk : KindR kq n K) (hq : PageR page E F L D day) (hp : p < 7) :
    ∀ (k f g d E' : Nat) (b v b2 v2 rs : Int32) (t row : Nat → Int32), d + k = 10 → k < f → k < g → ((b = b2 ∧ v = v2) ∨ (v = -1 ∧ v2 = -9 ∧ 0 < k)) → (∀ x, x < 16 → setN E' p x = setN E p x) →
    ∃ r s w, fX3_claim_48 (nI p) f b v (nI d) (nI n) (nI K) (nI E') (lN F) (nI L) dd dy = some (r, s) ∧ fX4_claim_41 (nI n) kq page (nI p) g b2 v2 (nI d) th rs t row = some (r, w) := by
  have e10 : (10 : Int32) = nI 10 := rfl
  intro k
  induction k with
  | zero =>
    intro f g d E' b v b2 v2 rs t row hd hf hg hbv _
    obtain ⟨f, rfl⟩ : ∃ f', f = f' + 1 := ⟨f - 1, by omega⟩
    obtain ⟨g, rfl⟩ : ∃ f', g = f' + 1 := ⟨g - 1, by omega⟩
    have hle : nI 10 ≤ nI d := by rw [k_nIl (by omega) (by omega)]; omega
    rcases hbv with ⟨rfl, rfl⟩ | ⟨_, _, hz⟩
    · rw [fX3_claim_48, fX4_claim_41, e10, if_pos hle, if_pos hle]
      exact ⟨_, _, _, rfl, rfl⟩
    · omega
  | succ k ih =>
    intro f g d E' b v b2 v2 rs t row hd hf hg hbv hE'
    obtain ⟨f, rfl⟩ : ∃ f', f = f' + 1 := ⟨f - 1, by omega⟩
    obtain ⟨g, rfl⟩ : ∃ f', g = f' + 1 := ⟨g - 1, by omega⟩
    have hle : ¬ nI 10 ≤ nI d := by rw [k_nIl (by omega) (by omega)]; omega
    have hEd := setN_lt (d := d) hE hp (by omega)
    obtain ⟨t', b1, b2⟩ := m_begin page t
    have hpg := PageR_E (d := d) (PageR_congr hq b2) hp (by omega)
    obtain ⟨w, l1⟩ := m_late (rs := rs) (row := row) hn hk hF hL hpg hp
    rw [fX3_claim_48, fX4_claim_41, e10, if_neg hle, if_neg hle, x_setDeed hp (by omega), hE' d (by omega), b1]
    simp only [Option.bind_some]
    rw [x_worth hn hK hEd hF.1 hL hpop hp, add0, ck_nI (by omega) (by decide), clamp (by omega), l1]
    unfold fX4_claim_81
    simp only [Option.bind_some, nI_1]
    have hnx : ∀ x, x < 16 → setN (setN E p d) p x = setN E p x := fun x hx => setN_setN hE hp (by omega) hx
    rcases hbv with ⟨rfl, rfl⟩ | ⟨rfl, rfl, _⟩
    · by_cases hc : wor (posL (fallL (may n K (setN E p d) F) 7 L) p) ≤ v
      · simp only [if_pos hc]
        exact ih f g (d + 1) _ _ _ _ _ _ _ _ (by omega) (by omega) (by omega) (Or.inl ⟨rfl, rfl⟩) hnx
      · simp only [if_neg hc]
        exact ih f g (d + 1) _ _ _ _ _ _ _ _ (by omega) (by omega) (by omega) (Or.inl ⟨rfl, rfl⟩) hnx
    · have hw := wor_pos (n := n) (K := K) (E := setN E p d) (F := F) (p := p) hn hL
      simp only [if_neg hw.1, if_neg hw.2]
      exact ih f g (d + 1) _ _ _ _ _ _ _ _ (by omega) (by omega) (by omega) (Or.inl ⟨rfl, rfl⟩) hnx
theorem op_claim {S : XS} {T : MS} (a : Int32) (h : Rel S T) : Op (gX_claim S a) (gM_claim T a) := by
  obtain ⟨kept, seenC, seed, len, bytes, now, trial, first, count, seen, oneH, otherH, ring, slots⟩ := S
  obtain ⟨thrown, text, textSize, place, people, kind, readPeople, readDeed, readKind, readFeeds, page, mtrial, book, acts, mkept, isKept, mseen, seenOne, seenTwo, mseed, row, rowSize, feedMany, feedRow, restMany, restFirst, value, gains, weight⟩ := T
  obtain ⟨n, K, E, F, L, D, day, ⟨ok, e, ep, hk, hq⟩, h2, h3, h4, h5, h6⟩ := h
  obtain rfl : now = enc n K E F L D day := e
  obtain rfl : people = nI n := ep
  have hk : KindR kind n K := hk
  have hq : PageR page E F L D day := hq
  obtain ⟨hn, hK, hE, hF, hL, hD, hLD⟩ := id ok
  have hL' := lt128 hn hL
  have hD' := lt128 hn hD
  unfold gX_claim gM_claim fX3_claim fX4_claim
  dsimp only [xs_keptSlots, xs_seenCount, xs_seed, xs_length, xs_bytes, xs_now, xs_trial, xs_first, xs_count, xs_seen, xs_oneHas, xs_otherHas, xs_ring, xs_slots, ms_thrown, ms_text, ms_textSize, ms_place, ms_people, ms_kind, ms_readPeople, ms_readDeed, ms_readKind, ms_readFeeds, ms_page, ms_trial, ms_book, ms_acts, ms_kept, ms_isKept, ms_seen, ms_seenOne, ms_seenTwo, ms_seed, ms_row, ms_rowSize, ms_feedMany, ms_feedRow, ms_restMany, ms_restFirst, ms_value, ms_gains, ms_weight, enc]
  rcases who n hn a with ⟨p, hpn, rfl, w1, w2⟩ | ⟨w1, w2⟩
  · have hp7 : p < 7 := by omega
    have hpop := pop_n n (by omega) L hL' hL
    rw [w1, w2, Option.bind_some, Option.bind_some, if_neg (by decide), if_pos rfl, k14, c14, hq.2.2.1, k_isIn _ hL' p hp7, k_has _ hL' p hp7, Option.bind_some, Option.bind_some]
    cases hb : L.testBit p with
    | false =>
      rw [if_pos (c := bI false = 0) rfl, if_pos (c := bI false = 0) rfl]
      exact ⟨_, _, _, rfl, rfl, n, K, E, F, L, D, day, ⟨ok, rfl, rfl, hk, hq⟩, h2, h3, h4, h5, h6⟩
    | true =>
      rw [if_neg (c := bI true = 0) (by decide), if_neg (c := bI true = 0) (by decide)]
      unfold fX1_copy
      rw [Option.bind_some]
      obtain ⟨r, s, w', k1, k2⟩ := claim_lock (dd := nI D) (dy := day) (th := 0) hn hK hE hF hL' hpop hk hq hp7 10 12 12 0 E 0 (-1) (-9) (-9) rowSize mtrial row (by omega) (by omega) (by omega) (Or.inr ⟨rfl, rfl, by omega⟩) (fun x hx => rfl)
      have k1 : fX3_claim_48 (nI p) 12 0 (-1) 0 (nI n) (nI K) (nI E) (lN F) (nI L) (nI D) day = some (r, s) := k1
      have k2 : fX4_claim_41 (nI n) kind page (nI p) 12 (-9) (-9) 0 0 rowSize mtrial row = some (r, w') := k2
      rw [k1, k2]
      exact ⟨_, _, _, rfl, rfl, n, K, E, F, L, D, day, ⟨ok, rfl, rfl, hk, hq⟩, h2, h3, h4, h5, h6⟩
  · rw [w1, w2, Option.bind_some, Option.bind_some, if_pos rfl, if_neg (by decide)]
    exact ⟨_, _, _, rfl, rfl, n, K, E, F, L, D, day, ⟨ok, rfl, rfl, hk, hq⟩, h2, h3, h4, h5, h6⟩
