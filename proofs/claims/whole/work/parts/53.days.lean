/-! PURE: days -/
theorem draw (x : Int64) : ∃ q, q < 12 ∧ Int64.toInt32 (j_lushr x 33) - Int64.toInt32 (j_lushr x 33) / 12 * 12 = nI q ∧ Int64.toInt32 (j_lushr x 33 - j_lushr x 33 / 12 * 12) = nI q := by
  obtain ⟨N, hN, rfl⟩ := wb_of x
  have hz : j_lushr (lN N) 33 = lN (N / 2 ^ 33) := wb_shr (k := 33) hN (by decide)
  have hm : N / 2 ^ 33 < 2 ^ 31 := by omega
  have e12 : (12 : Int32) = nI 12 := rfl
  have f12 : (12 : Int64) = lN 12 := rfl
  refine ⟨N / 2 ^ 33 % 12, Nat.mod_lt _ (by decide), ?_, ?_⟩
  · rw [hz, lN_i, e12, pk_rem hm (by decide) (by decide)]
  · rw [hz, f12, pk_lRem (by omega) (by decide) (by decide), lN_i]
theorem clr_no : ∀ L, L < 128 → ∀ p, p < 7 → L.testBit p = false → clr L p = L := by
  intro L _ p _ h; unfold clr; rw [h]; rfl
theorem or_has : ∀ D, D < 128 → ∀ p, p < 7 → D.testBit p = true → D ||| 2 ^ p = D := by decide +kernel
theorem days_lock {kq : Nat → Int32} {n K E F m : Nat} {th : Int32} (hk : KindR kq n K) (hm : m ≤ 30) :
    ∀ (k f g i L D : Nat) (day x : Int32) (sd : Int64) (t : Nat → Int32), COk n K E F L D → PageR t E F L D day → i + k = m → k < f → k < g →
    ∃ r s' o w, fX3_days_29 (nI m) f x (nI i) sd (nI n) (nI K) (nI E) (lN F) (nI L) (nI D) day = some (r, s', o) ∧ fX4_days_28 (nI n) kq (nI m) g x (nI i) th sd t = some (r, th, s', w) := by
  intro k
  induction k with
  | zero =>
    intro f g i L D day x sd t ok ht hi hf hg
    obtain ⟨f, rfl⟩ : ∃ f', f = f' + 1 := ⟨f - 1, by omega⟩
    obtain ⟨g, rfl⟩ : ∃ f', g = f' + 1 := ⟨g - 1, by omega⟩
    have hle : nI m ≤ nI i := by rw [k_nIl (by omega) (by omega)]; omega
    rw [fX3_days_29, fX4_days_28, if_pos hle, if_pos hle]
    exact ⟨_, _, _, _, rfl, rfl⟩
  | succ k ih =>
    intro f g i L D day x sd t ok ht hi hf hg
    obtain ⟨f, rfl⟩ : ∃ f', f = f' + 1 := ⟨f - 1, by omega⟩
    obtain ⟨g, rfl⟩ : ∃ f', g = f' + 1 := ⟨g - 1, by omega⟩
    have hle : ¬ nI m ≤ nI i := by rw [k_nIl (by omega) (by omega)]; omega
    obtain ⟨hn, hK, hE, hF, hL, hD, hLD⟩ := id ok
    have hL' := lt128 hn hL
    have hD' := lt128 hn hD
    obtain ⟨q, hq12, d1, d2⟩ := draw (sd * 6364136223846793005 + 1442695040888963407)
    rw [fX3_days_29, fX4_days_28, if_neg hle, if_neg hle, d1, d2, nI_1]
    have h7 : (nI q < 7) = (q < 7) := k_nIt (b := 7) (by omega) (by decide)
    by_cases c : q < 7
    · rw [if_pos (h7.mpr c), if_pos (h7.mpr c), (who_lt hn c).1, (who_lt hn c).2, Option.bind_some, Option.bind_some]
      by_cases cn : q < n
      · rw [if_pos (c := q < n) cn, if_pos (c := q < n) cn, if_neg (show ¬ (1 : Int32) = 0 by decide), if_pos (c := (0 : Int32) = 0) rfl, x_bury hL' c, Option.bind_some, k15, c15, ht.2.2.2.1, k_has D hD' q c, Option.bind_some]
        cases hb : D.testBit q with
        | false =>
          obtain ⟨t', g1, g2⟩ := m_goDie ht hL' c
          rw [if_pos (c := bI false = 0) rfl, g1, Option.bind_some]
          exact ih f g (i + 1) (clr L q) (D ||| 2 ^ q) day x _ t' ⟨hn, hK, hE, hF, clr_n n (by omega) L hL' hL q c, set_n n (by omega) D hD' hD q cn, die_and hL' c hLD⟩ g2 (by omega) (by omega) (by omega)
        | true =>
          have hLq : L.testBit q = false := by
            have hz : (L &&& D).testBit q = false := by rw [hLD, Nat.zero_testBit]
            rw [Nat.testBit_and, hb, Bool.and_true] at hz; exact hz
          rw [if_neg (c := bI true = 0) (by decide), clr_no L hL' q c hLq, or_has D hD' q c hb]
          exact ih f g (i + 1) L D day x _ t ok ht (by omega) (by omega) (by omega)
      · rw [if_neg (c := q < n) cn, if_neg (c := q < n) cn, if_pos (c := (0 : Int32) = 0) rfl, if_neg (show ¬ (1 : Int32) = 0 by decide)]
        exact ih f g (i + 1) L D day x _ t ok ht (by omega) (by omega) (by omega)
    · obtain ⟨t', g1, g2⟩ := m_goDay ok hk ht
      rw [if_neg (fun z => c (h7.mp z)), if_neg (fun z => c (h7.mp z)), x_passDay ok, g1, Option.bind_some, Option.bind_some]
      by_cases h0 : may n K E F L = 0
      · rw [if_pos h0] at g2
        rw [if_pos h0, if_pos h0]
        rw [if_pos (c := (-9 : Int32) = -9) rfl, if_pos (c := (-9 : Int32) = -9) rfl]
        exact ih f g (i + 1) _ D (day + 1) _ _ t' (by have := day_ok ok; rw [if_pos h0] at this; exact this) g2 (by omega) (by omega) (by omega)
      · have hlow := low7 (may n K E F L)
        have h9 := k_m9 (low (may n K E F L)) (by omega)
        rw [if_neg h0] at g2
        rw [if_neg h0, if_neg h0]
        rw [if_neg h9, if_neg h9]
        exact ih f g (i + 1) _ D (day + 1) _ _ t' (by have := day_ok ok; rw [if_neg h0] at this; exact this) g2 (by omega) (by omega) (by omega)
theorem op_days {S : XS} {T : MS} (a : Int32) (h : Rel S T) : Op (gX_days S a) (gM_days T a) := by
  obtain ⟨kept, seenC, seed, len, bytes, now, trial, first, count, seen, oneH, otherH, ring, slots⟩ := S
  obtain ⟨thrown, text, textSize, place, people, kind, readPeople, readDeed, readKind, readFeeds, page, mtrial, book, acts, mkept, isKept, mseen, seenOne, seenTwo, mseed, row, rowSize, feedMany, feedRow, restMany, restFirst, value, gains, weight⟩ := T
  obtain ⟨n, K, E, F, L, D, day, ⟨ok, e, ep, hk, hq⟩, h2, h3, h4, h5, h6⟩ := h
  obtain rfl : now = enc n K E F L D day := e
  obtain rfl : people = nI n := ep
  have hk : KindR kind n K := hk
  have hq : PageR page E F L D day := hq
  obtain ⟨hn, hK, hE, hF, hL, hD, hLD⟩ := id ok
  have hL' := lt128 hn hL
  have hD' := lt128 hn hD
  obtain rfl : seed = mseed := h6
  have f1 : (1 : Int64) = Int32.toInt64 1 := by decide
  have f30 : (30 : Int64) = Int32.toInt64 30 := by decide
  have z1 : (1 : Int32).toInt = 1 := by decide
  unfold gX_days gM_days fX3_days fX4_days
  dsimp only [xs_keptSlots, xs_seenCount, xs_seed, xs_length, xs_bytes, xs_now, xs_trial, xs_first, xs_count, xs_seen, xs_oneHas, xs_otherHas, xs_ring, xs_slots, ms_thrown, ms_text, ms_textSize, ms_place, ms_people, ms_kind, ms_readPeople, ms_readDeed, ms_readKind, ms_readFeeds, ms_page, ms_trial, ms_book, ms_acts, ms_kept, ms_isKept, ms_seen, ms_seenOne, ms_seenTwo, ms_seed, ms_row, ms_rowSize, ms_feedMany, ms_feedRow, ms_restMany, ms_restFirst, ms_value, ms_gains, ms_weight, enc]
  rw [f1, f30, in_ok, Option.bind_some]
  by_cases c1 : a < 1
  · rw [if_pos c1, if_neg (c := 1 ≤ a ∧ a ≤ 30) (fun z => by have := z.1; rw [fa_le] at this; rw [fa_lt] at c1; omega), if_pos rfl]
    exact ⟨_, _, _, rfl, rfl, n, K, E, F, L, D, day, ⟨ok, rfl, rfl, hk, hq⟩, h2, h3, h4, h5, rfl⟩
  · rw [if_neg c1]
    by_cases c2 : a ≤ 30
    · have h1 : (1 : Int32) ≤ a := by rw [fa_lt] at c1; rw [fa_le]; omega
      have h0 : ¬ a < 0 := by rw [fa_lt] at c1 ⊢; have z0 : (0 : Int32).toInt = 0 := by decide
                              omega
      obtain ⟨m, hm, rfl⟩ := nI_of2 (n := 30) (by decide) h0 c2
      obtain ⟨t', b1, b2⟩ := m_begin page mtrial
      rw [if_pos c2, if_pos (c := 1 ≤ nI m ∧ nI m ≤ 30) ⟨h1, c2⟩, if_neg (show ¬ (1 : Int32) = 0 by decide), b1, Option.bind_some]
      unfold fX1_copy
      rw [Option.bind_some]
      obtain ⟨r, s', o, w, k1, k2⟩ := days_lock (th := 0) hk hm m 32 32 0 L D day 0 seed t' ok (PageR_congr hq b2) (by omega) (by omega) (by omega)
      have k1 : fX3_days_29 (nI m) 32 0 0 seed (nI n) (nI K) (nI E) (lN F) (nI L) (nI D) day = some (r, s', o) := k1
      have k2 : fX4_days_28 (nI n) kind (nI m) 32 0 0 0 seed t' = some (r, 0, s', w) := k2
      rw [k1, k2]
      exact ⟨_, _, _, rfl, rfl, n, K, E, F, L, D, day, ⟨ok, rfl, rfl, hk, hq⟩, h2, h3, h4, h5, rfl⟩
    · rw [if_neg c2, if_neg (c := 1 ≤ a ∧ a ≤ 30) (fun z => c2 z.2), if_pos rfl]
      exact ⟨_, _, _, rfl, rfl, n, K, E, F, L, D, day, ⟨ok, rfl, rfl, hk, hq⟩, h2, h3, h4, h5, rfl⟩
