/-! PURE: acts and slots -/
theorem x_remember {f c : Nat} (hf : f < 14) (hc : c ≤ 14) (s1 s2 s3 : Int32) (s4 : Int64) (s5 s6 s7 : Int32) (ring : Nat → St) : fX0_remember (nI f) (nI c) s1 s2 s3 s4 s5 s6 s7 ring = some (if 14 ≤ c then (nI ((f + 1) % 14), nI c, va_up ring ((f + c) % 14) (s1, s2, s3, s4, s5, s6, s7)) else (nI f, nI (c + 1), va_up ring ((f + c) % 14) (s1, s2, s3, s4, s5, s6, s7))) := by
  have h14 : (14 : Int32) = nI 14 := rfl
  have hm : (f + c) % 14 < 14 := Nat.mod_lt _ (by decide)
  unfold fX0_remember
  rw [nI_add, nI_1, nI_1, h14, pk_rem (by omega) (by decide) (by decide), pk_rem (by omega) (by decide) (by decide), ck_nI hm (by decide), clamp (by omega)]
  simp only [k_nIl (show 14 < 2 ^ 31 by decide) (show c < 2 ^ 31 by omega)]
  unfold fX1_copy
  simp only [Option.bind_some]
  by_cases h : 14 ≤ c
  · rw [if_pos h, if_pos h]
  · rw [if_neg h, if_neg h]
theorem m_note_51 {page : Nat → Int32} {c : Nat} (hc : c ≤ 13) : ∀ (f i : Nat) (bk : Nat → Int32), i ≤ 17 → 17 < f + i → ∃ bk', fX4_note_51 page f (nI i) (nI c) bk = some (nI (c + 1), bk') ∧ (∀ j, i ≤ j → j < 17 → bk' (17 * c + j) = page j) ∧ ∀ x, (x < 17 * c + i ∨ 17 * c + 17 ≤ x) → bk' x = bk x := by
  have e17 : (17 : Int32) = nI 17 := rfl
  intro f
  induction f with
  | zero => intro i bk h1 h2; omega
  | succ f ih =>
    intro i bk hi hf
    rw [fX4_note_51, e17]
    rcases Nat.lt_or_ge i 17 with h | h
    · rw [if_neg (by rw [k_nIl (by omega) (by omega)]; omega), ck_nI h (by decide), pk_mul, nI_add, ck_nI (by omega) (by decide), clamp (by omega), clamp (by omega), nI_1]
      obtain ⟨bk', h1, h2, h3⟩ := ih (i + 1) (upd bk (17 * c + i) (page i)) (by omega) (by omega)
      refine ⟨bk', h1, fun j hj hj2 => ?_, fun x hx => ?_⟩
      · by_cases hji : j = i
        · subst hji; rw [h3 _ (by omega), pk_us]
        · exact h2 j (by omega) hj2
      · rw [h3 x (by omega), pk_un (by omega)]
    · rw [if_pos (by rw [k_nIl (by omega) (by omega)]; omega), nI_1]
      exact ⟨bk, rfl, fun j h1 h2 => by omega, fun x _ => rfl⟩
theorem m_note_11 {page : Nat → Int32} {a : Int32} : ∀ (f i : Nat) (bk : Nat → Int32), i ≤ 221 → 221 < f + i → ∃ bk', fX4_note_11 page f (nI i) a bk = fX4_note_51 page 20 0 (a - 1) bk' ∧ ∀ x, bk' x = if i ≤ x ∧ x < 221 then bk (x + 17) else bk x := by
  have e221 : (221 : Int32) = nI 221 := rfl
  have e17 : (17 : Int32) = nI 17 := rfl
  intro f
  induction f with
  | zero => intro i bk h1 h2; omega
  | succ f ih =>
    intro i bk hi hf
    rw [fX4_note_11, e221, e17]
    rcases Nat.lt_or_ge i 221 with h | h
    · rw [if_neg (by rw [k_nIl (by omega) (by omega)]; omega), nI_add, ck_nI (by omega) (by decide), ck_nI (by omega) (by decide), clamp (by omega), clamp (by omega), nI_1]
      obtain ⟨bk', h1, h2⟩ := ih (i + 1) (upd bk i (bk (i + 17))) (by omega) (by omega)
      refine ⟨bk', h1, fun x => ?_⟩
      rw [h2 x]
      by_cases c1 : i + 1 ≤ x ∧ x < 221
      · rw [if_pos c1, if_pos ⟨by omega, c1.2⟩, pk_un (by omega)]
      · rw [if_neg c1]
        by_cases c2 : x = i
        · subst c2; rw [pk_us, if_pos ⟨by omega, h⟩]
        · rw [pk_un c2, if_neg (by omega)]
    · rw [if_pos (by rw [k_nIl (by omega) (by omega)]; omega)]
      exact ⟨bk, rfl, fun x => by rw [if_neg (by omega)]⟩
/-- an act is remembered by both -/
theorem note_both {n K E F L D : Nat} {day first count acts : Int32} {ring : Nat → St} {page book : Nat → Int32} (h : R2 n K first count ring acts book) (ok : COk n K E F L D) (hq : PageR page E F L D day) :
    ∃ first' count' ring' book', fX0_remember first count (nI n) (nI K) (nI E) (lN F) (nI L) (nI D) day ring = some (first', count', ring') ∧ fX4_note acts page book = some (count', book') ∧ R2 n K first' count' ring' count' book' := by
  obtain ⟨f, c, hs, hf, hc, rfl, rfl, rfl, hr⟩ := h
  rw [x_remember hf hc]
  unfold fX4_note
  simp only [show (nI c = 14) = (c = 14) from k_nIe (b := 14) (by omega) (by decide)]
  by_cases c14' : c = 14
  · subst c14'
    rw [if_pos (Nat.le_refl 14), if_pos rfl]
    obtain ⟨bk', b1, b2⟩ := m_note_11 (page := page) (a := nI 14) 223 0 book (by omega) (by omega)
    obtain ⟨bk2, d1, d2, d3⟩ := m_note_51 (page := page) (c := 13) (by omega) 20 0 bk' (by omega) (by omega)
    have e13 : nI 14 - 1 = nI 13 := by decide
    rw [show (0 : Int32) = nI 0 from rfl, b1, e13]
    refine ⟨_, _, _, bk2, rfl, d1, (f + 1) % 14, 14, fun k => if k < 13 then hs (k + 1) else (E, F, L, D, day), Nat.mod_lt _ (by decide), by omega, rfl, rfl, rfl, fun k hk => ?_⟩
    dsimp only
    rcases Nat.lt_or_ge k 13 with hk13 | hk13
    · have := hr (k + 1) (by omega)
      rw [if_pos hk13, show ((f + 1) % 14 + k) % 14 = (f + (k + 1)) % 14 by omega, va_up_ne _ _ (by omega)]
      refine ⟨this.1, this.2.1, PageR_congr this.2.2 (fun j hj => ?_)⟩
      rw [d3 _ (by omega), b2, if_pos (by omega)]
      exact congrArg book (by omega)
    · have hk' : k = 13 := by omega
      subst hk'
      rw [if_neg (by omega), show ((f + 1) % 14 + 13) % 14 = (f + 14) % 14 by omega, va_up_self]
      exact ⟨ok, rfl, PageR_congr hq (fun j hj => d2 j (by omega) hj)⟩
  · rw [if_neg (by omega), if_neg c14']
    obtain ⟨bk2, d1, d2, d3⟩ := m_note_51 (page := page) (c := c) (by omega) 20 0 book (by omega) (by omega)
    refine ⟨_, _, _, bk2, rfl, d1, f, c + 1, fun k => if k < c then hs k else (E, F, L, D, day), hf, by omega, rfl, rfl, rfl, fun k hk => ?_⟩
    dsimp only
    rcases Nat.lt_or_ge k c with hkc | hkc
    · have := hr k hkc
      rw [if_pos hkc, va_up_ne _ _ (by omega)]
      exact ⟨this.1, this.2.1, PageR_congr this.2.2 (fun j hj => d3 _ (by omega))⟩
    · have hk' : k = c := by omega
      subst hk'
      rw [if_neg (by omega), va_up_self]
      exact ⟨ok, rfl, PageR_congr hq (fun j hj => d2 j (by omega) hj)⟩
theorem clr_n : ∀ n, n < 8 → ∀ L, L < 128 → L < 2 ^ n → ∀ p, p < 7 → clr L p < 2 ^ n := by decide +kernel
theorem set_n : ∀ n, n < 8 → ∀ L, L < 128 → L < 2 ^ n → ∀ p, p < n → L ||| 2 ^ p < 2 ^ n := by decide +kernel
theorem and_clr {L D p : Nat} (hL : L < 128) (hp : p < 7) (h : L &&& D = 0) : clr L p &&& D = 0 := by
  apply set_ext (Nat.lt_of_le_of_lt Nat.and_le_left (clr_lt L hL p hp)) (by decide)
  intro q hq
  have hz : (L &&& D).testBit q = false := by rw [h, Nat.zero_testBit]
  rw [Nat.testBit_and] at hz
  rw [Nat.testBit_and, clr_bit L hL p hp q hq, Nat.zero_testBit]
  cases ha : L.testBit q with
  | false => rfl
  | true => rw [ha, Bool.true_and] at hz; rw [hz]; simp
theorem or_lt7 {a b : Nat} (ha : a < 128) (hb : b < 128) : a ||| b < 128 := Nat.or_lt_two_pow (n := 7) ha hb
theorem p2_lt : ∀ p, p < 7 → 2 ^ p < 128 := by decide
theorem bit_or {L p q : Nat} : (L ||| 2 ^ p).testBit q = (L.testBit q || decide (p = q)) := by rw [Nat.testBit_or, Nat.testBit_two_pow]
theorem op_take {S : XS} {T : MS} (a : Int32) (h : Rel S T) : Op (gX_take S a) (gM_take T a) := by
  obtain ⟨kept, seenC, seed, len, bytes, now, trial, first, count, seen, oneH, otherH, ring, slots⟩ := S
  obtain ⟨thrown, text, textSize, place, people, kind, readPeople, readDeed, readKind, readFeeds, page, mtrial, book, acts, mkept, isKept, mseen, seenOne, seenTwo, mseed, row, rowSize, feedMany, feedRow, restMany, restFirst, value, gains, weight⟩ := T
  obtain ⟨n, K, E, F, L, D, day, ⟨ok, e, ep, hk, hq⟩, h2, h3, h4, h5, h6⟩ := h
  obtain rfl : now = enc n K E F L D day := e
  obtain rfl : people = nI n := ep
  have hk : KindR kind n K := hk
  have hq : PageR page E F L D day := hq
  obtain ⟨hn, hK, hE, hF, hL, hD, hLD⟩ := id ok
  have hL' := lt128 hn hL
  have hD' := lt128 hn hD
  unfold gX_take gM_take fX3_take fX4_take
  dsimp only [xs_keptSlots, xs_seenCount, xs_seed, xs_length, xs_bytes, xs_now, xs_trial, xs_first, xs_count, xs_seen, xs_oneHas, xs_otherHas, xs_ring, xs_slots, ms_thrown, ms_text, ms_textSize, ms_place, ms_people, ms_kind, ms_readPeople, ms_readDeed, ms_readKind, ms_readFeeds, ms_page, ms_trial, ms_book, ms_acts, ms_kept, ms_isKept, ms_seen, ms_seenOne, ms_seenTwo, ms_seed, ms_row, ms_rowSize, ms_feedMany, ms_feedRow, ms_restMany, ms_restFirst, ms_value, ms_gains, ms_weight, enc]
  rcases who n hn a with ⟨p, hpn, rfl, w1, w2⟩ | ⟨w1, w2⟩
  · have hp7 : p < 7 := by omega
    have hmay := may_lt hn K E F L
    rw [w1, w2]
    simp only [Option.bind_some]
    rw [if_neg (by decide), if_pos trivial, x_may hn hK hE hF.1 hL', m_may hn hk hq hF hL']
    simp only [Option.bind_some]
    rw [k_isIn _ hmay p hp7, k_has _ hmay p hp7]
    simp only [Option.bind_some, bI0]
    cases hb : (may n K E F L).testBit p with
    | false =>
      rw [if_pos rfl, if_pos rfl]
      exact ⟨_, _, _, rfl, rfl, n, K, E, F, L, D, day, ⟨ok, rfl, rfl, hk, hq⟩, h2, h3, h4, h5, h6⟩
    | true =>
      rw [if_neg (by simp), if_neg (by simp)]
      obtain ⟨f', c', r', bk', n1, n2, n3⟩ := note_both h2 ok hq
      have hq14 := hq.2.2.1
      have hcl := clr_lt L hL' p hp7
      rw [n1, n2]
      simp only [Option.bind_some, k14, c14, pk_us, hq14]
      rw [k_without L hL' p hp7, k_clr L hL' p hp7]
      simp only [Option.bind_some]
      rw [k_bitCount _ hcl, k_many _ hcl]
      exact ⟨_, _, _, rfl, rfl, n, K, E, F, clr L p, D, day, ⟨⟨hn, hK, hE, hF, clr_n n (by omega) L hL' hL p hp7, hD, and_clr hL' hp7 hLD⟩, rfl, rfl, hk, PageR_L hq⟩, n3, h3, h4, h5, h6⟩
  · rw [w1, w2]
    simp only [Option.bind_some]
    rw [if_pos trivial, if_neg (by decide)]
    exact ⟨_, _, _, rfl, rfl, n, K, E, F, L, D, day, ⟨ok, rfl, rfl, hk, hq⟩, h2, h3, h4, h5, h6⟩
theorem op_free {S : XS} {T : MS} (a : Int32) (h : Rel S T) : Op (gX_free S a) (gM_free T a) := by
  obtain ⟨kept, seenC, seed, len, bytes, now, trial, first, count, seen, oneH, otherH, ring, slots⟩ := S
  obtain ⟨thrown, text, textSize, place, people, kind, readPeople, readDeed, readKind, readFeeds, page, mtrial, book, acts, mkept, isKept, mseen, seenOne, seenTwo, mseed, row, rowSize, feedMany, feedRow, restMany, restFirst, value, gains, weight⟩ := T
  obtain ⟨n, K, E, F, L, D, day, ⟨ok, e, ep, hk, hq⟩, h2, h3, h4, h5, h6⟩ := h
  obtain rfl : now = enc n K E F L D day := e
  obtain rfl : people = nI n := ep
  have hk : KindR kind n K := hk
  have hq : PageR page E F L D day := hq
  obtain ⟨hn, hK, hE, hF, hL, hD, hLD⟩ := id ok
  have hL' := lt128 hn hL
  have hD' := lt128 hn hD
  unfold gX_free gM_free fX3_free fX4_free
  dsimp only [xs_keptSlots, xs_seenCount, xs_seed, xs_length, xs_bytes, xs_now, xs_trial, xs_first, xs_count, xs_seen, xs_oneHas, xs_otherHas, xs_ring, xs_slots, ms_thrown, ms_text, ms_textSize, ms_place, ms_people, ms_kind, ms_readPeople, ms_readDeed, ms_readKind, ms_readFeeds, ms_page, ms_trial, ms_book, ms_acts, ms_kept, ms_isKept, ms_seen, ms_seenOne, ms_seenTwo, ms_seed, ms_row, ms_rowSize, ms_feedMany, ms_feedRow, ms_restMany, ms_restFirst, ms_value, ms_gains, ms_weight, enc]
  rcases who n hn a with ⟨p, hpn, rfl, w1, w2⟩ | ⟨w1, w2⟩
  · have hp7 : p < 7 := by omega
    have hq14 := hq.2.2.1
    have hq15 := hq.2.2.2.1
    rw [w1, w2]
    simp only [Option.bind_some]
    rw [if_neg (by decide), if_pos trivial, k14, k15, c14, c15, hq14, hq15, orI, k_isIn _ (or_lt7 hL' hD') p hp7, k_has _ (or_lt7 hL' hD') p hp7]
    simp only [Option.bind_some, bI0]
    cases hb : (L ||| D).testBit p with
    | true =>
      rw [if_neg (by simp), if_neg (by simp)]
      exact ⟨_, _, _, rfl, rfl, n, K, E, F, L, D, day, ⟨ok, rfl, rfl, hk, hq⟩, h2, h3, h4, h5, h6⟩
    | false =>
      rw [if_pos rfl, if_pos rfl]
      obtain ⟨f', c', r', bk', n1, n2, n3⟩ := note_both h2 ok hq
      have hcl := or_lt7 hL' (p2_lt p hp7)
      rw [n1, n2]
      simp only [Option.bind_some, k14, pk_us]
      rw [k_bit p (by omega), k_shl1 p (by omega)]
      simp only [Option.bind_some]
      rw [orI, k_bitCount _ hcl, k_many _ hcl]
      have hnew : (L ||| 2 ^ p) &&& D = 0 := by
        apply set_ext (Nat.lt_of_le_of_lt Nat.and_le_right hD') (by decide)
        intro q hq'
        have hz : (L &&& D).testBit q = false := by rw [hLD, Nat.zero_testBit]
        rw [Nat.testBit_and] at hz
        rw [Nat.testBit_and, bit_or, Nat.zero_testBit]
        by_cases hpq : p = q
        · subst hpq
          rw [Nat.testBit_or, Bool.or_eq_false_iff] at hb
          rw [hb.2]; simp
        · simp only [hpq, decide_false, Bool.or_false]; exact hz
      exact ⟨_, _, _, rfl, rfl, n, K, E, F, L ||| 2 ^ p, D, day, ⟨⟨hn, hK, hE, hF, set_n n (by omega) L hL' hL p hpn, hD, hnew⟩, rfl, rfl, hk, PageR_L hq⟩, n3, h3, h4, h5, h6⟩
  · rw [w1, w2]
    simp only [Option.bind_some]
    rw [if_pos trivial, if_neg (by decide)]
    exact ⟨_, _, _, rfl, rfl, n, K, E, F, L, D, day, ⟨ok, rfl, rfl, hk, hq⟩, h2, h3, h4, h5, h6⟩
theorem die_and {L D p : Nat} (hL : L < 128) (hp : p < 7) (hLD : L &&& D = 0) : clr L p &&& (D ||| 2 ^ p) = 0 := by
  apply set_ext (Nat.lt_of_le_of_lt Nat.and_le_left (clr_lt L hL p hp)) (by decide)
  intro q hq
  have hz : (L &&& D).testBit q = false := by rw [hLD, Nat.zero_testBit]
  rw [Nat.testBit_and] at hz
  rw [Nat.testBit_and, bit_or, clr_bit L hL p hp q hq, Nat.zero_testBit]
  by_cases hpq : p = q
  · subst hpq; simp
  · have h1 : (q == p) = false := by simp; exact fun z => hpq z.symm
    rw [h1]; simp only [hpq, decide_false, Bool.or_false, Bool.not_false, Bool.and_true]; exact hz
theorem m_goDie {q : Nat → Int32} {E F L D p : Nat} {day : Int32} (hq : PageR q E F L D day) (hL : L < 128) (hp : p < 7) : ∃ q', fX4_goDie q (nI p) = some q' ∧ PageR q' E F (clr L p) (D ||| 2 ^ p) day := by
  unfold fX4_goDie
  have h14 := hq.2.2.1
  have h15 := hq.2.2.2.1
  rw [k15, k15, k14, k14, c14, c15, h15, k_shl1 p (by omega), orI, pk_un (show (14 : Nat) ≠ 15 by decide), h14, ← k_shl1 p (by omega), k_clr L hL p hp]
  exact ⟨_, rfl, PageR_L (PageR_D hq)⟩
theorem x_bury {L D p : Nat} (hL : L < 128) (hp : p < 7) : fX1_bury (nI L) (nI D) (nI p) = some (nI (clr L p), nI (D ||| 2 ^ p)) := by
  unfold fX1_bury
  rw [k_without L hL p hp, k_bit p (by omega)]
  simp only [Option.bind_some]
  rw [orI]
theorem op_die {S : XS} {T : MS} (a : Int32) (h : Rel S T) : Op (gX_die S a) (gM_die T a) := by
  obtain ⟨kept, seenC, seed, len, bytes, now, trial, first, count, seen, oneH, otherH, ring, slots⟩ := S
  obtain ⟨thrown, text, textSize, place, people, kind, readPeople, readDeed, readKind, readFeeds, page, mtrial, book, acts, mkept, isKept, mseen, seenOne, seenTwo, mseed, row, rowSize, feedMany, feedRow, restMany, restFirst, value, gains, weight⟩ := T
  obtain ⟨n, K, E, F, L, D, day, ⟨ok, e, ep, hk, hq⟩, h2, h3, h4, h5, h6⟩ := h
  obtain rfl : now = enc n K E F L D day := e
  obtain rfl : people = nI n := ep
  have hk : KindR kind n K := hk
  have hq : PageR page E F L D day := hq
  obtain ⟨hn, hK, hE, hF, hL, hD, hLD⟩ := id ok
  have hL' := lt128 hn hL
  have hD' := lt128 hn hD
  unfold gX_die gM_die fX3_die fX4_die
  dsimp only [xs_keptSlots, xs_seenCount, xs_seed, xs_length, xs_bytes, xs_now, xs_trial, xs_first, xs_count, xs_seen, xs_oneHas, xs_otherHas, xs_ring, xs_slots, ms_thrown, ms_text, ms_textSize, ms_place, ms_people, ms_kind, ms_readPeople, ms_readDeed, ms_readKind, ms_readFeeds, ms_page, ms_trial, ms_book, ms_acts, ms_kept, ms_isKept, ms_seen, ms_seenOne, ms_seenTwo, ms_seed, ms_row, ms_rowSize, ms_feedMany, ms_feedRow, ms_restMany, ms_restFirst, ms_value, ms_gains, ms_weight, enc]
  rcases who n hn a with ⟨p, hpn, rfl, w1, w2⟩ | ⟨w1, w2⟩
  · have hp7 : p < 7 := by omega
    have hq15 := hq.2.2.2.1
    rw [w1, w2]
    simp only [Option.bind_some]
    rw [if_neg (by decide), if_pos trivial, k15, c15, hq15, k_isIn _ hD' p hp7, k_has _ hD' p hp7]
    simp only [Option.bind_some, bI0]
    cases hb : D.testBit p with
    | true =>
      rw [if_neg (by simp), if_neg (by simp)]
      exact ⟨_, _, _, rfl, rfl, n, K, E, F, L, D, day, ⟨ok, rfl, rfl, hk, hq⟩, h2, h3, h4, h5, h6⟩
    | false =>
      rw [if_pos rfl, if_pos rfl]
      obtain ⟨f', c', r', bk', n1, n2, n3⟩ := note_both h2 ok hq
      obtain ⟨q', g1, g2⟩ := m_goDie hq hL' hp7
      have hcl := clr_lt L hL' p hp7
      have g14 := g2.2.2.1
      rw [n1, n2, x_bury hL' hp7, g1]
      simp only [Option.bind_some, k14, c14, g14]
      rw [k_bitCount _ hcl, k_many _ hcl]
      exact ⟨_, _, _, rfl, rfl, n, K, E, F, clr L p, D ||| 2 ^ p, day, ⟨⟨hn, hK, hE, hF, clr_n n (by omega) L hL' hL p hp7, set_n n (by omega) D hD' hD p hpn, die_and hL' hp7 hLD⟩, rfl, rfl, hk, g2⟩, n3, h3, h4, h5, h6⟩
  · rw [w1, w2]
    simp only [Option.bind_some]
    rw [if_pos trivial, if_neg (by decide)]
    exact ⟨_, _, _, rfl, rfl, n, K, E, F, L, D, day, ⟨ok, rfl, rfl, hk, hq⟩, h2, h3, h4, h5, h6⟩
theorem PageR_w {q : Nat → Int32} {E F L D : Nat} {day : Int32} (h : PageR q E F L D day) : PageR (upd (upd q 14 (nI L)) 16 (day + 1)) E F L D (day + 1) := PageR_day (PageR_L h)
theorem m_goDay {kq q : Nat → Int32} {n K E F L D : Nat} {day : Int32} (ok : COk n K E F L D) (hk : KindR kq n K) (hq : PageR q E F L D day) :
    ∃ q', fX4_goDay (nI n) kq q = some (if may n K E F L = 0 then (-9) else nI (low (may n K E F L)), q') ∧ PageR q' E F (if may n K E F L = 0 then L else clr L (low (may n K E F L))) D (day + 1) := by
  obtain ⟨hn, hK, hE, hF, hL, hD, hLD⟩ := ok
  have hL' := lt128 hn hL
  have hmay := may_lt hn K E F L
  have h14 := hq.2.2.1
  have h16 := hq.2.2.2.2
  unfold fX4_goDay
  rw [m_may hn hk hq hF hL', Option.bind_some]
  simp only [show (nI (may n K E F L) = 0) = (may n K E F L = 0) from k_nIe (b := 0) (by omega) (by decide)]
  have hand : nI L &&& (-1 : Int32) = nI L := by
    have : ∀ L, L < 128 → nI L &&& (-1 : Int32) = nI L := by decide +kernel
    exact this L hL'
  by_cases h0 : may n K E F L = 0
  · simp only [if_pos h0]
    unfold fX4_goDay_19 fX4_goDay_40
    rw [if_pos rfl, k14, k14, k16, k16, c14, c16, h14, hand, pk_un (show (16 : Nat) ≠ 14 by decide), h16]
    exact ⟨_, rfl, PageR_w hq⟩
  · have hlow := low7 (may n K E F L)
    simp only [if_neg h0]
    rw [k_least _ hmay h0, Option.bind_some]
    unfold fX4_goDay_19 fX4_goDay_40
    rw [if_neg (k_m9 _ (by omega)), k14, k14, k16, k16, c14, c16, h14, k_clr L hL' _ hlow, pk_un (show (16 : Nat) ≠ 14 by decide), h16]
    exact ⟨_, rfl, PageR_day (PageR_L hq)⟩
theorem x_passDay {n K E F L D : Nat} {day : Int32} (ok : COk n K E F L D) : fX1_passDay (nI n) (nI K) (nI E) (lN F) (nI L) day = some (if may n K E F L = 0 then (-9) else nI (low (may n K E F L)), nI (if may n K E F L = 0 then L else clr L (low (may n K E F L))), day + 1) := by
  obtain ⟨hn, hK, hE, hF, hL, hD, hLD⟩ := ok
  have hL' := lt128 hn hL
  have hmay := may_lt hn K E F L
  unfold fX1_passDay fX1_passDay_30
  rw [x_may hn hK hE hF.1 hL', Option.bind_some, k_leastOf _ hmay, Option.bind_some]
  by_cases h0 : may n K E F L = 0
  · simp only [if_pos h0]; rw [if_pos trivial]
  · have hlow := low7 (may n K E F L)
    simp only [if_neg h0]
    rw [if_neg (k_m9 _ (by omega)), k_without L hL' _ hlow, Option.bind_some]
theorem day_ok {n K E F L D : Nat} (ok : COk n K E F L D) : COk n K E F (if may n K E F L = 0 then L else clr L (low (may n K E F L))) D := by
  obtain ⟨hn, hK, hE, hF, hL, hD, hLD⟩ := id ok
  have hL' := lt128 hn hL
  split
  · exact ok
  · exact ⟨hn, hK, hE, hF, clr_n n (by omega) L hL' hL _ (low7 _), hD, and_clr hL' (low7 _) hLD⟩
theorem op_day {S : XS} {T : MS} (h : Rel S T) : Op (gX_day S) (gM_day T) := by
  obtain ⟨kept, seenC, seed, len, bytes, now, trial, first, count, seen, oneH, otherH, ring, slots⟩ := S
  obtain ⟨thrown, text, textSize, place, people, kind, readPeople, readDeed, readKind, readFeeds, page, mtrial, book, acts, mkept, isKept, mseen, seenOne, seenTwo, mseed, row, rowSize, feedMany, feedRow, restMany, restFirst, value, gains, weight⟩ := T
  obtain ⟨n, K, E, F, L, D, day, ⟨ok, e, ep, hk, hq⟩, h2, h3, h4, h5, h6⟩ := h
  obtain rfl : now = enc n K E F L D day := e
  obtain rfl : people = nI n := ep
  have hk : KindR kind n K := hk
  have hq : PageR page E F L D day := hq
  obtain ⟨hn, hK, hE, hF, hL, hD, hLD⟩ := id ok
  have hL' := lt128 hn hL
  have hD' := lt128 hn hD
  unfold gX_day gM_day fX3_day fX4_day
  dsimp only [xs_keptSlots, xs_seenCount, xs_seed, xs_length, xs_bytes, xs_now, xs_trial, xs_first, xs_count, xs_seen, xs_oneHas, xs_otherHas, xs_ring, xs_slots, ms_thrown, ms_text, ms_textSize, ms_place, ms_people, ms_kind, ms_readPeople, ms_readDeed, ms_readKind, ms_readFeeds, ms_page, ms_trial, ms_book, ms_acts, ms_kept, ms_isKept, ms_seen, ms_seenOne, ms_seenTwo, ms_seed, ms_row, ms_rowSize, ms_feedMany, ms_feedRow, ms_restMany, ms_restFirst, ms_value, ms_gains, ms_weight, enc]
  obtain ⟨f', c', r', bk', n1, n2, n3⟩ := note_both h2 ok hq
  obtain ⟨q', g1, g2⟩ := m_goDay ok hk hq
  rw [n1, n2, x_passDay ok, g1]
  exact ⟨_, _, _, rfl, rfl, n, K, E, F, _, D, day + 1, ⟨day_ok ok, rfl, rfl, hk, g2⟩, n3, h3, h4, h5, h6⟩
