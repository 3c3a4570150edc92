/-! PURE: feed, grade, undo, keep, again -/
theorem mul7 {i j i' j' : Nat} (hi : i < 7) (hi' : i' < 7) : (7 * j + i = 7 * j' + i') = (i = i' ∧ j = j') := by
  apply propext; constructor
  · intro h; omega
  · rintro ⟨rfl, rfl⟩; rfl
theorem xor_row {F i j i' : Nat} (hi : i < 7) (hj : j < 7) (hi' : i' < 7) : rowF (F ^^^ 2 ^ (7 * j + i)) i' = if i' = i then rowF F i ^^^ 2 ^ j else rowF F i' := by
  have hx : rowF F i ^^^ 2 ^ j < 128 := Nat.xor_lt_two_pow (n := 7) (rowF_lt F i) (p2_lt j hj)
  apply set_ext (rowF_lt _ _) (by split; exact hx; exact rowF_lt _ _)
  intro q hq
  rw [rowF_bit _ _ hq, Nat.testBit_xor, Nat.testBit_two_pow]
  by_cases h : i' = i
  · subst h
    rw [if_pos rfl, Nat.testBit_xor, Nat.testBit_two_pow, rowF_bit _ _ hq]
    congr 1
    rw [decide_eq_decide]; omega
  · rw [if_neg h, rowF_bit _ _ hq]
    have : decide (7 * j + i = 7 * q + i') = false := by rw [decide_eq_false_iff_not]; omega
    rw [this, Bool.xor_false]
theorem PageR_F {q : Nat → Int32} {E F L D i : Nat} {F' : Nat} {day : Int32} (h : PageR q E F L D day) (hi : i < 7) (hr : ∀ i', i' < 7 → ¬ i' = i → rowF F' i' = rowF F i') : PageR (upd q (7 + i) (nI (rowF F' i))) E F' L D day := by
  refine ⟨fun p hp => (pk_un (by omega)).trans (h.1 p hp), fun i' hi' => ?_, (pk_un (by omega)).trans h.2.2.1, (pk_un (by omega)).trans h.2.2.2.1, (pk_un (by omega)).trans h.2.2.2.2⟩
  by_cases e : i' = i
  · subst e; exact pk_us
  · rw [pk_un (by omega), h.2.1 i' hi', hr i' hi' e]
theorem FOk_xor {n F i j : Nat} (hF : FOk n F) (hi : i < n) (hj : j < n) (hn : n ≤ 7) (hij : ¬ i = j) : FOk n (F ^^^ 2 ^ (7 * j + i)) := by
  refine ⟨Nat.xor_lt_two_pow hF.1 (Nat.pow_lt_pow_right (by decide) (by omega)), fun i' j' hi' hj' hb => ?_⟩
  rw [Nat.testBit_xor, Nat.testBit_two_pow] at hb
  by_cases e : 7 * j + i = 7 * j' + i'
  · have : i = i' ∧ j = j' := by omega
    obtain ⟨rfl, rfl⟩ := this
    exact ⟨hi, hj, hij⟩
  · rw [decide_eq_false e, Bool.xor_false] at hb
    exact hF.2 i' j' hi' hj' hb
theorem k_shr1 : ∀ r, r < 128 → ∀ j, j < 7 → (nI r >>> (nI j &&& 31)) &&& 1 = bI (r.testBit j) := by decide +kernel
theorem op_feed {S : XS} {T : MS} (a b : Int32) (h : Rel S T) : Op (gX_feed S a b) (gM_feed T a b) := by
  obtain ⟨kept, seenC, seed, len, bytes, now, trial, first, count, seen, oneH, otherH, ring, slots⟩ := S
  obtain ⟨thrown, text, textSize, place, people, kind, readPeople, readDeed, readKind, readFeeds, page, mtrial, book, acts, mkept, isKept, mseen, seenOne, seenTwo, mseed, row, rowSize, feedMany, feedRow, restMany, restFirst, value, gains, weight⟩ := T
  obtain ⟨n, K, E, F, L, D, day, ⟨ok, e, ep, hk, hq⟩, h2, h3, h4, h5, h6⟩ := h
  obtain rfl : now = enc n K E F L D day := e
  obtain rfl : people = nI n := ep
  have hk : KindR kind n K := hk
  have hq : PageR page E F L D day := hq
  obtain ⟨hn, hK, hE, hF, hL, hD, hLD⟩ := id ok
  have hL' := lt128 hn hL
  have hD' := lt128 hn hD
  unfold gX_feed gM_feed fX3_feed fX4_feed
  dsimp only [xs_keptSlots, xs_seenCount, xs_seed, xs_length, xs_bytes, xs_now, xs_trial, xs_first, xs_count, xs_seen, xs_oneHas, xs_otherHas, xs_ring, xs_slots, ms_thrown, ms_text, ms_textSize, ms_place, ms_people, ms_kind, ms_readPeople, ms_readDeed, ms_readKind, ms_readFeeds, ms_page, ms_trial, ms_book, ms_acts, ms_kept, ms_isKept, ms_seen, ms_seenOne, ms_seenTwo, ms_seed, ms_row, ms_rowSize, ms_feedMany, ms_feedRow, ms_restMany, ms_restFirst, ms_value, ms_gains, ms_weight, enc]
  rcases who n hn a with ⟨p, hpn, rfl, w1, w2⟩ | ⟨w1, w2⟩
  · have hp7 : p < 7 := by omega
    rw [w1, w2]
    simp only [Option.bind_some]
    rw [if_neg (by decide), if_pos trivial]
    rcases who n hn b with ⟨q, hqn, rfl, v1, v2⟩ | ⟨v1, v2⟩
    · have hq7 : q < 7 := by omega
      rw [v1, v2]
      simp only [Option.bind_some]
      rw [if_neg (by decide), if_pos trivial]
      simp only [k_nIe (show p < 2 ^ 31 by omega) (show q < 2 ^ 31 by omega)]
      by_cases c : p = q
      · rw [if_pos c, if_pos c]
        exact ⟨_, _, _, rfl, rfl, n, K, E, F, L, D, day, ⟨ok, rfl, rfl, hk, hq⟩, h2, h3, h4, h5, h6⟩
      · rw [if_neg c, if_neg c]
        obtain ⟨f', c', r', bk', n1, n2, n3⟩ := note_both h2 ok hq
        have hrow := hq.2.1 p hp7
        have hx := xor_row (F := F) (i' := p) hp7 hq7 hp7
        rw [if_pos rfl] at hx
        have hrl : rowF F p ^^^ 2 ^ q < 128 := Nat.xor_lt_two_pow (n := 7) (rowF_lt F p) (p2_lt q hq7)
        have hbit : (rowF F p ^^^ 2 ^ q).testBit q = (F ^^^ 2 ^ (7 * q + p)).testBit (7 * q + p) := by rw [← hx, rowF_bit _ _ hq7]
        rw [n1, n2, k_pair p hp7 q hq7]
        simp only [Option.bind_some]
        rw [fb_xorL, x_feeds hp7 hq7, add7, ck_nI (by omega) (by decide), ck_nI (by omega) (by decide), ck_nI (by omega) (by decide), clamp (by omega)]
        simp only [Option.bind_some, bI0, pk_us, hrow]
        rw [k_shl1 q (by omega), fb_xorI, k_shr1 _ hrl q hq7, hbit]
        have hR : R1 n K E (F ^^^ 2 ^ (7 * q + p)) L D day (enc n K E (F ^^^ 2 ^ (7 * q + p)) L D day) (nI n) kind (upd page (7 + p) (nI (rowF F p ^^^ 2 ^ q))) := by
          refine ⟨⟨hn, hK, hE, FOk_xor hF hpn hqn hn c, hL, hD, hLD⟩, rfl, rfl, hk, ?_⟩
          rw [← hx]
          exact PageR_F hq hp7 (fun i' h1 h2 => by rw [xor_row hp7 hq7 h1, if_neg h2])
        cases hb : (F ^^^ 2 ^ (7 * q + p)).testBit (7 * q + p) with
        | false =>
          rw [if_pos rfl]
          exact ⟨_, _, _, rfl, rfl, n, K, E, _, L, D, day, hR, n3, h3, h4, h5, h6⟩
        | true =>
          rw [if_neg (by simp)]
          exact ⟨_, _, _, rfl, rfl, n, K, E, _, L, D, day, hR, n3, h3, h4, h5, h6⟩
    · rw [v1, v2]
      simp only [Option.bind_some]
      rw [if_pos trivial, if_neg (by decide)]
      exact ⟨_, _, _, rfl, rfl, n, K, E, F, L, D, day, ⟨ok, rfl, rfl, hk, hq⟩, h2, h3, h4, h5, h6⟩
  · rw [w1, w2]
    simp only [Option.bind_some]
    rw [if_pos trivial, if_neg (by decide)]
    exact ⟨_, _, _, rfl, rfl, n, K, E, F, L, D, day, ⟨ok, rfl, rfl, hk, hq⟩, h2, h3, h4, h5, h6⟩
def msk (p : Nat) : Nat := 4294967295 - 15 * 2 ^ (4 * p)
def setN (E p d : Nat) : Nat := (E &&& msk p) ||| (d * 2 ^ (4 * p))
theorem k_msk : ∀ p, p < 7 → ((15 : Int32) <<< ((4 * nI p) &&& 31)) ^^^ (-1) = nI (msk p) := by decide +kernel
theorem k_shd : ∀ p, p < 7 → ∀ d, d < 16 → nI d <<< ((4 * nI p) &&& 31) = nI (d * 2 ^ (4 * p)) := by decide +kernel
theorem x_setDeed {E p d : Nat} (hp : p < 7) (hd : d < 16) : fX1_setDeed (nI E) (nI p) (nI d) = some (nI (setN E p d)) := by
  unfold fX1_setDeed
  rw [k_msk p hp, k_shd p hp d hd, andI, orI]; rfl
theorem shd_lt : ∀ p, p < 7 → ∀ d, d < 16 → d * 2 ^ (4 * p) < 2 ^ 28 := by decide +kernel
theorem setN_lt {E p d : Nat} (hE : E < 2 ^ 28) (hp : p < 7) (hd : d < 16) : setN E p d < 2 ^ 28 :=
  Nat.or_lt_two_pow (Nat.lt_of_le_of_lt Nat.and_le_left hE) (shd_lt p hp d hd)
theorem nib_bit (E q i : Nat) : (nib E q).testBit i = (decide (i < 4) && E.testBit (4 * q + i)) := by
  unfold nib
  rw [show (16 : Nat) = 2 ^ 4 from rfl, Nat.testBit_mod_two_pow, Nat.testBit_div_two_pow, Nat.add_comm]
theorem msk_bit : ∀ p, p < 7 → ∀ q, q < 7 → ∀ i, i < 4 → (msk p).testBit (4 * q + i) = !(q == p) := by decide +kernel
theorem shd_bit : ∀ p, p < 7 → ∀ d, d < 16 → ∀ q, q < 7 → ∀ i, i < 4 → (d * 2 ^ (4 * p)).testBit (4 * q + i) = ((q == p) && d.testBit i) := by decide +kernel
theorem nib_ext {a b : Nat} (ha : a < 16) (hb : b < 16) (h : ∀ i, i < 4 → a.testBit i = b.testBit i) : a = b := by
  apply Nat.eq_of_testBit_eq
  intro i
  rcases Nat.lt_or_ge i 4 with hi | hi
  · exact h i hi
  · rw [Nat.testBit_lt_two_pow (Nat.lt_of_lt_of_le ha (Nat.pow_le_pow_right (n := 2) (by decide) hi)), Nat.testBit_lt_two_pow (Nat.lt_of_lt_of_le hb (Nat.pow_le_pow_right (n := 2) (by decide) hi))]
theorem nib_setN {E p d q : Nat} (hp : p < 7) (hd : d < 16) (hq : q < 7) : nib (setN E p d) q = if q = p then d else nib E q := by
  apply nib_ext (nib_lt _ _) (by split; exact hd; exact nib_lt _ _)
  intro i hi
  rw [nib_bit]
  unfold setN
  rw [Nat.testBit_or, Nat.testBit_and, msk_bit p hp q hq i hi, shd_bit p hp d hd q hq i hi]
  by_cases h : q = p
  · subst h; simp [hi]
  · have : (q == p) = false := by simp [h]
    rw [this, if_neg h, nib_bit]; simp
theorem PageR_E {q : Nat → Int32} {E F L D p d : Nat} {day : Int32} (h : PageR q E F L D day) (hp : p < 7) (hd : d < 16) : PageR (upd q p (nI d)) (setN E p d) F L D day := by
  refine ⟨fun r hr => ?_, fun i' hi' => (pk_un (by omega)).trans (h.2.1 i' hi'), (pk_un (by omega)).trans h.2.2.1, (pk_un (by omega)).trans h.2.2.2.1, (pk_un (by omega)).trans h.2.2.2.2⟩
  rw [nib_setN hp hd hr]
  by_cases e : r = p
  · subst e; rw [pk_us, if_pos rfl]
  · rw [pk_un e, if_neg e, h.1 r hr]
theorem op_grade {S : XS} {T : MS} (a b : Int32) (h : Rel S T) : Op (gX_grade S a b) (gM_grade T a b) := by
  obtain ⟨kept, seenC, seed, len, bytes, now, trial, first, count, seen, oneH, otherH, ring, slots⟩ := S
  obtain ⟨thrown, text, textSize, place, people, kind, readPeople, readDeed, readKind, readFeeds, page, mtrial, book, acts, mkept, isKept, mseen, seenOne, seenTwo, mseed, row, rowSize, feedMany, feedRow, restMany, restFirst, value, gains, weight⟩ := T
  obtain ⟨n, K, E, F, L, D, day, ⟨ok, e, ep, hk, hq⟩, h2, h3, h4, h5, h6⟩ := h
  obtain rfl : now = enc n K E F L D day := e
  obtain rfl : people = nI n := ep
  have hk : KindR kind n K := hk
  have hq : PageR page E F L D day := hq
  obtain ⟨hn, hK, hE, hF, hL, hD, hLD⟩ := id ok
  have hL' := lt128 hn hL
  have hD' := lt128 hn hD
  unfold gX_grade gM_grade fX3_grade fX4_grade
  dsimp only [xs_keptSlots, xs_seenCount, xs_seed, xs_length, xs_bytes, xs_now, xs_trial, xs_first, xs_count, xs_seen, xs_oneHas, xs_otherHas, xs_ring, xs_slots, ms_thrown, ms_text, ms_textSize, ms_place, ms_people, ms_kind, ms_readPeople, ms_readDeed, ms_readKind, ms_readFeeds, ms_page, ms_trial, ms_book, ms_acts, ms_kept, ms_isKept, ms_seen, ms_seenOne, ms_seenTwo, ms_seed, ms_row, ms_rowSize, ms_feedMany, ms_feedRow, ms_restMany, ms_restFirst, ms_value, ms_gains, ms_weight, enc]
  rcases who n hn a with ⟨p, hpn, rfl, w1, w2⟩ | ⟨w1, w2⟩
  · have hp7 : p < 7 := by omega
    have e9 : (9 : Int64) = Int32.toInt64 9 := by decide
    rw [w1, w2]
    simp only [Option.bind_some]
    rw [if_neg (by decide), if_pos trivial, e9, in0]
    simp only [Option.bind_some]
    by_cases c1 : b < 0
    · rw [if_pos c1, if_neg (c := 0 ≤ b ∧ b ≤ 9) (fun z => by have := z.1; rw [fa_le] at this; rw [fa_lt] at c1; omega), if_pos rfl]
      exact ⟨_, _, _, rfl, rfl, n, K, E, F, L, D, day, ⟨ok, rfl, rfl, hk, hq⟩, h2, h3, h4, h5, h6⟩
    · rw [if_neg c1]
      by_cases c2 : b < 10
      · have h0 : (0 : Int32) ≤ b := by rw [fa_lt] at c1; rw [fa_le]; omega
        have h9 : b ≤ 9 := by
          rw [fa_lt] at c2; rw [fa_le]
          have e10 : (10 : Int32).toInt = 10 := by decide
          have e9 : (9 : Int32).toInt = 9 := by decide
          omega
        rw [if_pos c2, if_pos (c := 0 ≤ b ∧ b ≤ 9) ⟨h0, h9⟩, if_neg (by decide)]
        obtain ⟨d, hd, rfl⟩ := nI_of2 (n := 9) (by decide) c1 h9
        have hnl := nib_lt E p
        have hck : ∀ {α : Type} (x : Option α), ck (nI p) 17 x = x := fun x => ck_nI (by omega) (by decide)
        simp only [x_deed hE hp7, add0, hck]
        rw [clamp (by omega), hq.1 p hp7]
        simp only [Option.bind_some, k_nIe (show d < 2 ^ 31 by omega) (show nib E p < 2 ^ 31 by omega), k_nIe (show nib E p < 2 ^ 31 by omega) (show d < 2 ^ 31 by omega)]
        by_cases c3 : nib E p = d
        · rw [if_pos c3, if_pos c3.symm]
          exact ⟨_, _, _, rfl, rfl, n, K, E, F, L, D, day, ⟨ok, rfl, rfl, hk, hq⟩, h2, h3, h4, h5, h6⟩
        · rw [if_neg c3, if_neg (fun z => c3 z.symm)]
          obtain ⟨f', c', r', bk', n1, n2, n3⟩ := note_both h2 ok hq
          rw [n1, n2, x_setDeed hp7 (by omega)]
          exact ⟨_, _, _, rfl, rfl, n, K, setN E p d, F, L, D, day, ⟨⟨hn, hK, setN_lt hE hp7 (by omega), hF, hL, hD, hLD⟩, rfl, rfl, hk, PageR_E hq hp7 (by omega)⟩, n3, h3, h4, h5, h6⟩
      · rw [if_neg c2, if_neg (c := 0 ≤ b ∧ b ≤ 9) (fun z => c2 (by
          have := z.2; rw [fa_le] at this; rw [fa_lt]
          have e10 : (10 : Int32).toInt = 10 := by decide
          have e9 : (9 : Int32).toInt = 9 := by decide
          omega)), if_pos rfl]
        exact ⟨_, _, _, rfl, rfl, n, K, E, F, L, D, day, ⟨ok, rfl, rfl, hk, hq⟩, h2, h3, h4, h5, h6⟩
  · rw [w1, w2]
    simp only [Option.bind_some]
    rw [if_pos trivial, if_neg (by decide)]
    exact ⟨_, _, _, rfl, rfl, n, K, E, F, L, D, day, ⟨ok, rfl, rfl, hk, hq⟩, h2, h3, h4, h5, h6⟩
theorem m_undo_27 {book : Nat → Int32} {c : Nat} {th : Int32} (hc : c ≤ 13) : ∀ (f i : Nat) (pg : Nat → Int32), i ≤ 17 → 17 < f + i → (∀ j, j < i → pg j = book (17 * c + j)) → ∃ pg', fX4_undo_27 book f (nI i) th (nI c) pg = some (nI c, th, nI c, pg') ∧ ∀ j, j < 17 → pg' j = book (17 * c + j) := by
  have e17 : (17 : Int32) = nI 17 := rfl
  intro f
  induction f with
  | zero => intro i pg h1 h2; omega
  | succ f ih =>
    intro i pg hi hf hp
    rw [fX4_undo_27, e17]
    rcases Nat.lt_or_ge i 17 with h | h
    · rw [if_neg (by rw [k_nIl (by omega) (by omega)]; omega), pk_mul, nI_add, ck_nI (by omega) (by decide), ck_nI h (by decide), clamp (by omega), clamp (by omega), nI_1]
      refine ih (i + 1) _ (by omega) (by omega) (fun j hj => ?_)
      by_cases hji : j = i
      · subst hji; exact pk_us
      · exact (pk_un hji).trans (hp j (by omega))
    · rw [if_pos (by rw [k_nIl (by omega) (by omega)]; omega)]
      exact ⟨pg, rfl, fun j hj => hp j (by omega)⟩
theorem op_undo {S : XS} {T : MS} (h : Rel S T) : Op (gX_undo S) (gM_undo T) := by
  obtain ⟨kept, seenC, seed, len, bytes, now, trial, first, count, seen, oneH, otherH, ring, slots⟩ := S
  obtain ⟨thrown, text, textSize, place, people, kind, readPeople, readDeed, readKind, readFeeds, page, mtrial, book, acts, mkept, isKept, mseen, seenOne, seenTwo, mseed, row, rowSize, feedMany, feedRow, restMany, restFirst, value, gains, weight⟩ := T
  obtain ⟨n, K, E, F, L, D, day, ⟨ok, e, ep, hk, hq⟩, h2, h3, h4, h5, h6⟩ := h
  obtain rfl : now = enc n K E F L D day := e
  obtain rfl : people = nI n := ep
  have hk : KindR kind n K := hk
  have hq : PageR page E F L D day := hq
  obtain ⟨hn, hK, hE, hF, hL, hD, hLD⟩ := id ok
  have hL' := lt128 hn hL
  have hD' := lt128 hn hD
  obtain ⟨f, c, hs, hf, hc, e1, e2, e3, hr⟩ := id h2
  obtain rfl : first = nI f := e1
  obtain rfl : count = nI c := e2
  obtain rfl : acts = nI c := e3
  have hr : ∀ k, k < c → SR n K (hs k) (ring ((f + k) % 14)) (fun j => book (17 * k + j)) := hr
  unfold gX_undo gM_undo fX3_undo fX4_undo fX0_takeBackInto
  dsimp only [xs_keptSlots, xs_seenCount, xs_seed, xs_length, xs_bytes, xs_now, xs_trial, xs_first, xs_count, xs_seen, xs_oneHas, xs_otherHas, xs_ring, xs_slots, ms_thrown, ms_text, ms_textSize, ms_place, ms_people, ms_kind, ms_readPeople, ms_readDeed, ms_readKind, ms_readFeeds, ms_page, ms_trial, ms_book, ms_acts, ms_kept, ms_isKept, ms_seen, ms_seenOne, ms_seenTwo, ms_seed, ms_row, ms_rowSize, ms_feedMany, ms_feedRow, ms_restMany, ms_restFirst, ms_value, ms_gains, ms_weight, enc]
  simp only [show (nI c = 0) = (c = 0) from k_nIe (b := 0) (by omega) (by decide)]
  by_cases h0 : c = 0
  · rw [if_pos h0, if_pos h0]
    exact ⟨_, _, _, rfl, rfl, n, K, E, F, L, D, day, ⟨ok, rfl, rfl, hk, hq⟩, h2, h3, h4, h5, h6⟩
  · obtain ⟨c, rfl⟩ : ∃ c', c = c' + 1 := ⟨c - 1, by omega⟩
    have e14 : (14 : Int32) = nI 14 := rfl
    have hm : (f + c) % 14 < 14 := Nat.mod_lt _ (by decide)
    obtain ⟨s1, s2, s3⟩ := hr c (by omega)
    obtain ⟨pg', g1, g2⟩ := m_undo_27 (book := book) (c := c) (th := 0) (by omega) 20 0 page (by omega) (by omega) (fun j hj => by omega)
    rw [if_neg h0, if_neg h0, nI_pred, nI_add, e14, pk_rem (by omega) (by decide) (by decide), ck_nI hm (by decide), clamp (by omega)]
    unfold fX1_copy
    simp only [Option.bind_some]
    have g1 : fX4_undo_27 book 20 0 0 (nI c) page = some (nI c, 0, nI c, pg') := g1
    rw [if_neg (show ¬ (1 : Int32) = 0 by decide), g1, s2]
    exact ⟨_, _, _, rfl, rfl, n, K, (hs c).1, (hs c).2.1, (hs c).2.2.1, (hs c).2.2.2.1, (hs c).2.2.2.2, ⟨s1, rfl, rfl, hk, PageR_congr s3 g2⟩, ⟨f, c, hs, hf, by omega, rfl, rfl, rfl, fun k hk => hr k (by omega)⟩, h3, h4, h5, h6⟩
theorem m_keep_26 {page isk : Nat → Int32} {s : Nat} {th : Int32} (hs : s < 2) : ∀ (f i : Nat) (kp : Nat → Int32), i ≤ 17 → 17 < f + i → ∃ kp', fX4_keep_26 page (nI s) f (nI i) th kp isk = some (page 16, th, kp', isk) ∧ (∀ j, i ≤ j → j < 17 → kp' (17 * s + j) = page j) ∧ ∀ x, (x < 17 * s + i ∨ 17 * s + 17 ≤ x) → kp' x = kp x := by
  have e17 : (17 : Int32) = nI 17 := rfl
  intro f
  induction f with
  | zero => intro i kp h1 h2; omega
  | succ f ih =>
    intro i kp hi hf
    rw [fX4_keep_26, e17]
    rcases Nat.lt_or_ge i 17 with h | h
    · rw [if_neg (by rw [k_nIl (by omega) (by omega)]; omega), ck_nI h (by decide), pk_mul, nI_add, ck_nI (by omega) (by decide), clamp (by omega), clamp (by omega), nI_1]
      obtain ⟨kp', h1, h2, h3⟩ := ih (i + 1) (upd kp (17 * s + i) (page i)) (by omega) (by omega)
      refine ⟨kp', h1, fun j hj hj2 => ?_, fun x hx => ?_⟩
      · by_cases hji : j = i
        · subst hji; rw [h3 _ (by omega), pk_us]
        · exact h2 j (by omega) hj2
      · rw [h3 x (by omega), pk_un (by omega)]
    · rw [if_pos (by rw [k_nIl (by omega) (by omega)]; omega), k16, c16]
      exact ⟨kp, rfl, fun j h1 h2 => by omega, fun x _ => rfl⟩
/-- a slot's number: 0 or 1, or refused -/
theorem slot01 (a : Int32) : (∃ s, s < 2 ∧ a = nI s ∧ ¬ a < 0 ∧ a < 2 ∧ fX4_in (Int32.toInt64 a) 0 1 = some 1) ∨ (fX4_in (Int32.toInt64 a) 0 1 = some 0 ∧ (a < 0 ∨ (¬ a < 0 ∧ ¬ a < 2))) := by
  have e1 : (1 : Int64) = Int32.toInt64 1 := by decide
  rw [e1, in0]
  have z0 : (0 : Int32).toInt = 0 := by decide
  have z1 : (1 : Int32).toInt = 1 := by decide
  have z2 : (2 : Int32).toInt = 2 := by decide
  by_cases c1 : a < 0
  · refine Or.inr ⟨?_, Or.inl c1⟩
    rw [if_neg (fun z => by have := z.1; rw [fa_le] at this; rw [fa_lt] at c1; omega)]
  · by_cases c2 : a < 2
    · have h1 : a ≤ 1 := by rw [fa_lt] at c2; rw [fa_le]; omega
      obtain ⟨s, hs, rfl⟩ := nI_of2 (n := 1) (by decide) c1 h1
      refine Or.inl ⟨s, by omega, rfl, c1, c2, ?_⟩
      rw [if_pos ⟨nI_pos' (by omega), h1⟩]
    · refine Or.inr ⟨?_, Or.inr ⟨c1, c2⟩⟩
      rw [if_neg (fun z => by have := z.2; rw [fa_le] at this; rw [fa_lt] at c2; omega)]
theorem kb_set : ∀ kb, kb < 4 → ∀ s, s < 2 → kb ||| 2 ^ s < 4 := by decide
theorem op_keep {S : XS} {T : MS} (a : Int32) (h : Rel S T) : Op (gX_keep S a) (gM_keep T a) := by
  obtain ⟨kept, seenC, seed, len, bytes, now, trial, first, count, seen, oneH, otherH, ring, slots⟩ := S
  obtain ⟨thrown, text, textSize, place, people, kind, readPeople, readDeed, readKind, readFeeds, page, mtrial, book, acts, mkept, isKept, mseen, seenOne, seenTwo, mseed, row, rowSize, feedMany, feedRow, restMany, restFirst, value, gains, weight⟩ := T
  obtain ⟨n, K, E, F, L, D, day, ⟨ok, e, ep, hk, hq⟩, h2, h3, h4, h5, h6⟩ := h
  obtain rfl : now = enc n K E F L D day := e
  obtain rfl : people = nI n := ep
  have hk : KindR kind n K := hk
  have hq : PageR page E F L D day := hq
  obtain ⟨hn, hK, hE, hF, hL, hD, hLD⟩ := id ok
  have hL' := lt128 hn hL
  have hD' := lt128 hn hD
  obtain ⟨kb, hkb, e1, hsl⟩ := id h3
  obtain rfl : kept = nI kb := e1
  have hsl : ∀ s, s < 2 → isKept s = bI (kb.testBit s) ∧ (kb.testBit s = true → ∃ h : Hs, SR n K h (slots s) (fun j => mkept (17 * s + j))) := hsl
  unfold gX_keep gM_keep fX3_keep fX4_keep
  dsimp only [xs_keptSlots, xs_seenCount, xs_seed, xs_length, xs_bytes, xs_now, xs_trial, xs_first, xs_count, xs_seen, xs_oneHas, xs_otherHas, xs_ring, xs_slots, ms_thrown, ms_text, ms_textSize, ms_place, ms_people, ms_kind, ms_readPeople, ms_readDeed, ms_readKind, ms_readFeeds, ms_page, ms_trial, ms_book, ms_acts, ms_kept, ms_isKept, ms_seen, ms_seenOne, ms_seenTwo, ms_seed, ms_row, ms_rowSize, ms_feedMany, ms_feedRow, ms_restMany, ms_restFirst, ms_value, ms_gains, ms_weight, enc]
  rcases slot01 a with ⟨s, hs, rfl, a1, a2, a3⟩ | ⟨a3, a1⟩
  · obtain ⟨kp', g1, g2, g3⟩ := m_keep_26 (page := page) (isk := upd isKept s (vp_nar .boolean 1)) (th := 0) hs 20 0 mkept (by omega) (by omega)
    rw [if_neg a1, if_pos a2, a3, ck_nI hs (by decide), ck_nI hs (by decide), k_bit s (by omega), clamp (by omega)]
    unfold fX1_copy
    simp only [Option.bind_some]
    have g1 : fX4_keep_26 page (nI s) 20 0 0 mkept (upd isKept s (vp_nar .boolean 1)) = some (page 16, 0, kp', upd isKept s (vp_nar .boolean 1)) := g1
    rw [if_neg (by decide), g1, hq.2.2.2.2, orI]
    refine ⟨_, _, _, rfl, rfl, n, K, E, F, L, D, day, ⟨ok, rfl, rfl, hk, hq⟩, h2, ⟨kb ||| 2 ^ s, kb_set kb hkb s hs, rfl, fun s' hs' => ?_⟩, h4, h5, h6⟩
    show upd isKept s (vp_nar .boolean 1) s' = _ ∧ (_ → ∃ h : Hs, SR n K h (va_up slots s (enc n K E F L D day) s') (fun j => kp' (17 * s' + j)))
    by_cases e : s' = s
    · subst e
      rw [pk_us, va_up_self, bit_or]
      refine ⟨by simp [bI]; rfl, fun _ => ⟨(E, F, L, D, day), ok, rfl, PageR_congr hq (fun j hj => g2 j (by omega) hj)⟩⟩
    · rw [pk_un e, va_up_ne _ _ e, bit_or, decide_eq_false (fun z => e z.symm), Bool.or_false]
      refine ⟨(hsl s' hs').1, fun hb => ?_⟩
      obtain ⟨h', s1, s2, s3⟩ := (hsl s' hs').2 hb
      exact ⟨h', s1, s2, PageR_congr s3 (fun j hj => g3 _ (by omega))⟩
  · rw [a3]
    simp only [Option.bind_some]
    rw [if_pos trivial]
    rcases a1 with a1 | ⟨a1, a2⟩
    · rw [if_pos a1]
      exact ⟨_, _, _, rfl, rfl, n, K, E, F, L, D, day, ⟨ok, rfl, rfl, hk, hq⟩, h2, h3, h4, h5, h6⟩
    · rw [if_neg a1, if_neg a2]
      exact ⟨_, _, _, rfl, rfl, n, K, E, F, L, D, day, ⟨ok, rfl, rfl, hk, hq⟩, h2, h3, h4, h5, h6⟩
theorem m_again_31 {kp : Nat → Int32} {s : Nat} {th ac : Int32} (hs : s < 2) : ∀ (f i : Nat) (pg : Nat → Int32), i ≤ 17 → 17 < f + i → (∀ j, j < i → pg j = kp (17 * s + j)) → ∃ pg', fX4_again_31 kp (nI s) f (nI i) th ac pg = some (pg' 16, th, 0, pg') ∧ ∀ j, j < 17 → pg' j = kp (17 * s + j) := by
  have e17 : (17 : Int32) = nI 17 := rfl
  intro f
  induction f with
  | zero => intro i pg h1 h2; omega
  | succ f ih =>
    intro i pg hi hf hp
    rw [fX4_again_31, e17]
    rcases Nat.lt_or_ge i 17 with h | h
    · rw [if_neg (by rw [k_nIl (by omega) (by omega)]; omega), pk_mul, nI_add, ck_nI (by omega) (by decide), ck_nI h (by decide), clamp (by omega), clamp (by omega), nI_1]
      refine ih (i + 1) _ (by omega) (by omega) (fun j hj => ?_)
      by_cases hji : j = i
      · subst hji; exact pk_us
      · exact (pk_un hji).trans (hp j (by omega))
    · rw [if_pos (by rw [k_nIl (by omega) (by omega)]; omega), k16, c16]
      exact ⟨pg, rfl, fun j hj => hp j (by omega)⟩
theorem k_isIn2 : ∀ kb, kb < 4 → ∀ s, s < 2 → fX3_isIn (nI kb) (nI s) = some (bI (kb.testBit s)) := by decide +kernel
theorem op_again {S : XS} {T : MS} (a : Int32) (h : Rel S T) : Op (gX_again S a) (gM_again T a) := by
  obtain ⟨kept, seenC, seed, len, bytes, now, trial, first, count, seen, oneH, otherH, ring, slots⟩ := S
  obtain ⟨thrown, text, textSize, place, people, kind, readPeople, readDeed, readKind, readFeeds, page, mtrial, book, acts, mkept, isKept, mseen, seenOne, seenTwo, mseed, row, rowSize, feedMany, feedRow, restMany, restFirst, value, gains, weight⟩ := T
  obtain ⟨n, K, E, F, L, D, day, ⟨ok, e, ep, hk, hq⟩, h2, h3, h4, h5, h6⟩ := h
  obtain rfl : now = enc n K E F L D day := e
  obtain rfl : people = nI n := ep
  have hk : KindR kind n K := hk
  have hq : PageR page E F L D day := hq
  obtain ⟨hn, hK, hE, hF, hL, hD, hLD⟩ := id ok
  have hL' := lt128 hn hL
  have hD' := lt128 hn hD
  obtain ⟨f, c, hh, hf, hc, e1, e2, e3, hr⟩ := id h2
  obtain rfl : first = nI f := e1
  obtain ⟨kb, hkb, e1, hsl⟩ := id h3
  obtain rfl : kept = nI kb := e1
  have hsl : ∀ s, s < 2 → isKept s = bI (kb.testBit s) ∧ (kb.testBit s = true → ∃ h : Hs, SR n K h (slots s) (fun j => mkept (17 * s + j))) := hsl
  unfold gX_again gM_again fX3_again fX4_again
  dsimp only [xs_keptSlots, xs_seenCount, xs_seed, xs_length, xs_bytes, xs_now, xs_trial, xs_first, xs_count, xs_seen, xs_oneHas, xs_otherHas, xs_ring, xs_slots, ms_thrown, ms_text, ms_textSize, ms_place, ms_people, ms_kind, ms_readPeople, ms_readDeed, ms_readKind, ms_readFeeds, ms_page, ms_trial, ms_book, ms_acts, ms_kept, ms_isKept, ms_seen, ms_seenOne, ms_seenTwo, ms_seed, ms_row, ms_rowSize, ms_feedMany, ms_feedRow, ms_restMany, ms_restFirst, ms_value, ms_gains, ms_weight, enc]
  rcases slot01 a with ⟨s, hs, rfl, a1, a2, a3⟩ | ⟨a3, a1⟩
  · rw [if_neg a1, if_pos a2, a3, k_isIn2 kb hkb s hs, ck_nI hs (by decide), ck_nI hs (by decide), clamp (by omega)]
    simp only [Option.bind_some]
    rw [if_neg (show ¬ (1 : Int32) = 0 by decide)]
    simp only [(hsl s hs).1, bI0]
    cases hb : kb.testBit s with
    | false =>
      rw [if_pos rfl, if_pos rfl]
      exact ⟨_, _, _, rfl, rfl, n, K, E, F, L, D, day, ⟨ok, rfl, rfl, hk, hq⟩, h2, h3, h4, h5, h6⟩
    | true =>
      rw [if_neg (by simp), if_neg (by simp)]
      obtain ⟨h', s1, s2, s3⟩ := (hsl s hs).2 hb
      obtain ⟨pg', g1, g2⟩ := m_again_31 (kp := mkept) (th := 0) (ac := acts) hs 20 0 page (by omega) (by omega) (fun j hj => by omega)
      have hpg := PageR_congr s3 g2
      unfold fX1_copy
      simp only [Option.bind_some]
      have g1 : fX4_again_31 mkept (nI s) 20 0 0 acts page = some (pg' 16, 0, 0, pg') := g1
      rw [g1, hpg.2.2.2.2, s2]
      exact ⟨_, _, _, rfl, rfl, n, K, h'.1, h'.2.1, h'.2.2.1, h'.2.2.2.1, h'.2.2.2.2, ⟨s1, rfl, rfl, hk, hpg⟩, ⟨f, 0, hh, hf, by omega, rfl, rfl, rfl, fun k hk => by omega⟩, h3, h4, h5, h6⟩
  · rw [a3]
    simp only [Option.bind_some]
    rw [if_pos trivial]
    rcases a1 with a1 | ⟨a1, a2⟩
    · rw [if_pos a1]
      exact ⟨_, _, _, rfl, rfl, n, K, E, F, L, D, day, ⟨ok, rfl, rfl, hk, hq⟩, h2, h3, h4, h5, h6⟩
    · rw [if_neg a1, if_neg a2]
      exact ⟨_, _, _, rfl, rfl, n, K, E, F, L, D, day, ⟨ok, rfl, rfl, hk, hq⟩, h2, h3, h4, h5, h6⟩
