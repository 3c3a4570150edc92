/-! PURE: did -/
/-- one thing seen, in a fall -/
def soB (n : Nat) (l : List Nat) (a b : Nat) : Bool := if a < n ∧ b < n then (match posL l a, posL l b with | none, _ => false | some _, none => true | some i, some j => decide (i < j)) else true
theorem who_lt {n a : Nat} (hn : n ≤ 7) (ha : a < 7) : fX1_has (nI n) (nI a) = some (if a < n then 1 else 0) ∧ fX4_noPerson (nI n) (nI a) = some (if a < n then 0 else 1) := by
  rcases who n hn (nI a) with ⟨p, hp, e, h1, h2⟩ | ⟨h1, h2⟩
  · have : a = p := (nI_eq (by omega) (by omega)).mp e
    subst this
    rw [if_pos hp, if_pos hp]; exact ⟨h1, h2⟩
  · have : ¬ a < n := by
      intro z
      unfold fX1_has at h1
      rw [if_neg (nI_pos (by omega)), if_neg (nI_ge z (by omega))] at h1
      exact absurd (Option.some.inj h1) (by decide)
    rw [if_neg this, if_neg this]; exact ⟨h1, h2⟩
theorem x_isSo {n K E F L a b : Nat} (hn : n ≤ 7) (hK : K < 2 ^ 28) (hE : E < 2 ^ 28) (hF : F < 2 ^ 49) (hL : L < 128) (hpop : pop L ≤ n) (ha : a < 7) (hb : b < 7) : fX3_isSo (nI n) (nI K) (nI E) (lN F) (nI L) (nI a) (nI b) = some (bI (soB n (fallL (may n K E F) 7 L) a b)) := by
  have h10 : ¬ (1 : Int32) = 0 := by decide
  unfold fX3_isSo soB
  rw [(who_lt hn ha).1, (who_lt hn hb).1, x_place hn hK hE hF hL hpop ha, x_place hn hK hE hF hL hpop hb]
  simp only [Option.bind_some]
  by_cases c1 : a < n
  · by_cases c2 : b < n
    · rw [if_pos (c := a < n ∧ b < n) ⟨c1, c2⟩, if_pos (c := a < n) c1, if_pos (c := b < n) c2, if_neg h10, if_neg h10]
      cases h1 : posL (fallL (may n K E F) 7 L) a with
      | none => rfl
      | some i =>
        have hi := pos_lt7 hn hL h1
        simp only [plc, Nat.zero_add]
        rw [if_neg (k_m9 i (by omega))]
        cases h2 : posL (fallL (may n K E F) 7 L) b with
        | none => rfl
        | some j =>
          have hj := pos_lt7 hn hL h2
          simp only
          rw [if_neg (k_m9 j (by omega))]
          simp only [k_nIl (show j < 2 ^ 31 by omega) (show i < 2 ^ 31 by omega)]
          by_cases c3 : j ≤ i
          · rw [if_pos c3, decide_eq_false (by omega)]; rfl
          · rw [if_neg c3, decide_eq_true (by omega)]; rfl
    · rw [if_neg (c := a < n ∧ b < n) (fun z => c2 z.2), if_pos (c := a < n) c1, if_neg (c := b < n) c2, if_neg h10, if_pos rfl]; rfl
  · rw [if_neg (c := a < n ∧ b < n) (fun z => c1 z.1), if_neg (c := a < n) c1, if_pos rfl]; rfl
theorem seen_lock {kq seen one two : Nat → Int32} {n K E F L D m : Nat} {day : Int32} {sa sb : Nat → Nat} {o : Int32 × (Nat → Int32) × (Nat → Int32)} (hn : n ≤ 7) (hK : K < 2 ^ 28) (hE : E < 2 ^ 28) (hF : FOk n F) (hL : L < 128) (hpop : pop L ≤ n) (hm : m ≤ 6) (hs : ∀ k, k < m → sa k < 7 ∧ sb k < 7 ∧ seen k = nI (10 * sa k + sb k) ∧ one k = nI (sa k) ∧ two k = nI (sb k)) (ho : FallR kq n K E F L D day o) :
    ∀ (j f g k : Nat), k + j = m → j < f → j < g → ∃ b : Bool, fX3_allSeenIsSo_2 (nI m) (nI n) (nI K) (nI E) (lN F) (nI L) seen f (nI k) = some (bI b) ∧ fX4_isSeen_4 (nI n) (nI m) o.1 one two o.2.2 g 1 (nI k) = some (bI b) := by
  intro j
  induction j with
  | zero =>
    intro f g k hk hf hg
    obtain ⟨f, rfl⟩ : ∃ f', f = f' + 1 := ⟨f - 1, by omega⟩
    obtain ⟨g, rfl⟩ : ∃ f', g = f' + 1 := ⟨g - 1, by omega⟩
    have hle : nI m ≤ nI k := by rw [k_nIl (by omega) (by omega)]; omega
    rw [fX3_allSeenIsSo_2, fX4_isSeen_4, if_pos hle, if_pos hle]
    exact ⟨true, rfl, rfl⟩
  | succ j ih =>
    intro f g k hk hf hg
    obtain ⟨f, rfl⟩ : ∃ f', f = f' + 1 := ⟨f - 1, by omega⟩
    obtain ⟨g, rfl⟩ : ∃ f', g = f' + 1 := ⟨g - 1, by omega⟩
    have hle : ¬ nI m ≤ nI k := by rw [k_nIl (by omega) (by omega)]; omega
    obtain ⟨ha, hb, e1, e2, e3⟩ := hs k (by omega)
    have hck : ∀ {α : Type} (x : Option α), ck (nI k) 6 x = x := fun x => ck_nI (by omega) (by decide)
    have e10 : (10 : Int32) = nI 10 := rfl
    rw [fX3_allSeenIsSo_2, fX4_isSeen_4, if_neg hle, if_neg hle, if_neg (show ¬ (1 : Int32) = 0 by decide)]
    simp only [hck]
    rw [clamp (by omega), e1, e2, e3, e10, pk_rem (by omega) (by decide) (by decide), pk_div (by omega) (by decide) (by decide), show (10 * sa k + sb k) / 10 = sa k by omega, show (10 * sa k + sb k) % 10 = sb k by omega, x_isSo hn hK hE hF.1 hL hpop ha hb, m_place hn hL ho ha, m_place hn hL ho hb, (who_lt hn ha).2, (who_lt hn hb).2]
    simp only [Option.bind_some, bI0, nI_1]
    obtain ⟨bb, i1, i2⟩ := ih f g (k + 1) (by omega) (by omega) (by omega)
    have m0 : fX4_isSeen_4 (nI n) (nI m) o.1 one two o.2.2 g 0 (nI (k + 1)) = some (bI false) := by
      obtain ⟨g, rfl⟩ : ∃ f', g = f' + 1 := ⟨g - 1, by omega⟩
      rw [fX4_isSeen_4]
      by_cases hh : nI m ≤ nI (k + 1)
      · rw [if_pos hh]; rfl
      · rw [if_neg hh, if_pos rfl]; rfl
    unfold fX4_isSeen_69 fX4_isSeen_70
    simp only [nI_1]
    unfold soB
    by_cases c1 : sa k < n
    · by_cases c2 : sb k < n
      · rw [if_pos (c := sa k < n ∧ sb k < n) ⟨c1, c2⟩, if_pos (c := sa k < n) c1, if_pos (c := sb k < n) c2, if_pos (c := (0 : Int32) = 0) rfl, if_pos (c := (0 : Int32) = 0) rfl, if_neg (show ¬ (1 : Int32) = 0 by decide)]
        cases h1 : posL (fallL (may n K E F) 7 L) (sa k) with
        | none => exact ⟨false, rfl, m0⟩
        | some i =>
          have hi := pos_lt7 hn hL h1
          simp only [plc, Nat.zero_add]
          rw [if_neg (k_m9 i (by omega))]
          cases h2 : posL (fallL (may n K E F) 7 L) (sb k) with
          | none => exact ⟨bb, i1, i2⟩
          | some j' =>
            have hj := pos_lt7 hn hL h2
            simp only
            rw [if_neg (k_m9 j' (by omega))]
            simp only [k_nIl (show j' < 2 ^ 31 by omega) (show i < 2 ^ 31 by omega)]
            by_cases c3 : j' ≤ i
            · rw [if_pos c3, if_pos (decide_eq_false (by omega))]; exact ⟨false, rfl, m0⟩
            · rw [if_neg c3, if_neg (by simp; omega)]; exact ⟨bb, i1, i2⟩
      · rw [if_neg (c := sa k < n ∧ sb k < n) (fun z => c2 z.2), if_pos (c := sa k < n) c1, if_neg (c := sb k < n) c2, if_pos (c := (0 : Int32) = 0) rfl, if_neg (show ¬ (1 : Int32) = 0 by decide), if_pos trivial]
        exact ⟨bb, i1, i2⟩
    · rw [if_neg (c := sa k < n ∧ sb k < n) (fun z => c1 z.1), if_neg (c := sa k < n) c1, if_neg (show ¬ (1 : Int32) = 0 by decide), if_pos trivial]
      exact ⟨bb, i1, i2⟩
theorem did_lock {kq page seen one two : Nat → Int32} {n K E F L D p m : Nat} {day dd dy th : Int32} {sa sb : Nat → Nat} (hn : n ≤ 7) (hK : K < 2 ^ 28) (hE : E < 2 ^ 28) (hF : FOk n F) (hL : L < 128) (hpop : pop L ≤ n) (hk : KindR kq n K) (hq : PageR page E F L D day) (hp : p < 7) (hm : m ≤ 6) (hs : ∀ k, k < m → sa k < 7 ∧ sb k < 7 ∧ seen k = nI (10 * sa k + sb k) ∧ one k = nI (sa k) ∧ two k = nI (sb k)) :
    ∀ (k f g d E' : Nat) (v rs : Int32) (t row : Nat → Int32), d + k = 10 → k < f → k < g → (∀ x, x < 16 → setN E' p x = setN E p x) →
    ∃ r s w, fX3_did_28 (nI m) seen (nI p) f v (nI d) (nI n) (nI K) (nI E') (lN F) (nI L) dd dy = some (r, s) ∧ fX4_did_19 (nI n) (nI m) kq page one two (nI p) g v (nI d) th rs t row = some (r, w) := by
  have e10 : (10 : Int32) = nI 10 := rfl
  intro k
  induction k with
  | zero =>
    intro f g d E' v rs t row hd hf hg _
    obtain ⟨f, rfl⟩ : ∃ f', f = f' + 1 := ⟨f - 1, by omega⟩
    obtain ⟨g, rfl⟩ : ∃ f', g = f' + 1 := ⟨g - 1, by omega⟩
    have hle : nI 10 ≤ nI d := by rw [k_nIl (by omega) (by omega)]; omega
    rw [fX3_did_28, fX4_did_19, e10, if_pos hle, if_pos hle]
    exact ⟨_, _, _, rfl, rfl⟩
  | succ k ih =>
    intro f g d E' v rs t row hd hf hg hE'
    obtain ⟨f, rfl⟩ : ∃ f', f = f' + 1 := ⟨f - 1, by omega⟩
    obtain ⟨g, rfl⟩ : ∃ f', g = f' + 1 := ⟨g - 1, by omega⟩
    have hle : ¬ nI 10 ≤ nI d := by rw [k_nIl (by omega) (by omega)]; omega
    have hEd := setN_lt (d := d) hE hp (by omega)
    obtain ⟨t', b1, b2⟩ := m_begin page t
    have hpg := PageR_E (d := d) (PageR_congr hq b2) hp (by omega)
    obtain ⟨o, l1, l2⟩ := m_lay (rs := rs) (row := row) hn hk hF hL hpg
    obtain ⟨b, s1, s2⟩ := seen_lock hn hK hEd hF hL hpop hm hs l2 m 8 8 0 (by omega) (by omega) (by omega)
    have s1 : fX3_allSeenIsSo (nI m) (nI n) (nI K) (nI (setN E p d)) (lN F) (nI L) seen = some (bI b) := s1
    have s2 : fX4_isSeen (nI n) (nI m) o.1 one two o.2.2 = some (bI b) := s2
    have hor : v ||| 0 = v := by
      apply Int32.toBitVec_inj.mp; rw [Int32.toBitVec_or]; exact BitVec.or_zero
    rw [fX3_did_28, fX4_did_19, e10, if_neg hle, if_neg hle, x_setDeed hp (by omega), hE' d (by omega), b1]
    simp only [Option.bind_some]
    rw [s1, add0, ck_nI (by omega) (by decide), clamp (by omega), l1]
    simp only [Option.bind_some]
    rw [s2]
    simp only [Option.bind_some, bI0, nI_1]
    rw [k_bit d (by omega), k_shl1 d (by omega), hor]
    simp only [Option.bind_some]
    have hnx : ∀ x, x < 16 → setN (setN E p d) p x = setN E p x := fun x hx => setN_setN hE hp (by omega) hx
    cases b with
    | false =>
      rw [if_pos rfl, if_pos rfl]
      exact ih f g (d + 1) _ _ _ _ _ (by omega) (by omega) (by omega) hnx
    | true =>
      rw [if_neg (by simp), if_neg (by simp)]
      exact ih f g (d + 1) _ _ _ _ _ (by omega) (by omega) (by omega) hnx
theorem op_did {S : XS} {T : MS} (a : Int32) (h : Rel S T) : Op (gX_did S a) (gM_did T a) := by
  obtain ⟨kept, seenC, seed, len, bytes, now, trial, first, count, seen, oneH, otherH, ring, slots⟩ := S
  obtain ⟨thrown, text, textSize, place, people, kind, readPeople, readDeed, readKind, readFeeds, page, mtrial, book, acts, mkept, isKept, mseen, seenOne, seenTwo, mseed, row, rowSize, feedMany, feedRow, restMany, restFirst, value, gains, weight⟩ := T
  obtain ⟨n, K, E, F, L, D, day, ⟨ok, e, ep, hk, hq⟩, h2, h3, h4, h5, h6⟩ := h
  obtain rfl : now = enc n K E F L D day := e
  obtain rfl : people = nI n := ep
  have hk : KindR kind n K := hk
  have hq : PageR page E F L D day := hq
  obtain ⟨hn, hK, hE, hF, hL, hD, hLD⟩ := id ok
  have hL' := lt128 hn hL
  have hD' := lt128 hn hD
  obtain ⟨m, sa, sb, hm6, e1, e2, e3⟩ := id h4
  obtain rfl : seenC = nI m := e1
  obtain rfl : mseen = nI m := e2
  unfold gX_did gM_did fX3_did fX4_did
  dsimp only [xs_keptSlots, xs_seenCount, xs_seed, xs_length, xs_bytes, xs_now, xs_trial, xs_first, xs_count, xs_seen, xs_oneHas, xs_otherHas, xs_ring, xs_slots, ms_thrown, ms_text, ms_textSize, ms_place, ms_people, ms_kind, ms_readPeople, ms_readDeed, ms_readKind, ms_readFeeds, ms_page, ms_trial, ms_book, ms_acts, ms_kept, ms_isKept, ms_seen, ms_seenOne, ms_seenTwo, ms_seed, ms_row, ms_rowSize, ms_feedMany, ms_feedRow, ms_restMany, ms_restFirst, ms_value, ms_gains, ms_weight, enc]
  rcases who n hn a with ⟨p, hpn, rfl, w1, w2⟩ | ⟨w1, w2⟩
  · have hp7 : p < 7 := by omega
    have hpop := pop_n n (by omega) L hL' hL
    rw [w1, w2]
    simp only [Option.bind_some]
    rw [if_neg (by decide), if_pos trivial]
    unfold fX1_copy
    simp only [Option.bind_some]
    obtain ⟨r, s, w', k1, k2⟩ := did_lock (dd := nI D) (dy := day) (th := 0) hn hK hE hF hL' hpop hk hq hp7 hm6 e3 10 12 12 0 E 0 rowSize mtrial row (by omega) (by omega) (by omega) (fun x hx => rfl)
    have k1 : fX3_did_28 (nI m) seen (nI p) 12 0 0 (nI n) (nI K) (nI E) (lN F) (nI L) (nI D) day = some (r, s) := k1
    have k2 : fX4_did_19 (nI n) (nI m) kind page seenOne seenTwo (nI p) 12 0 0 0 rowSize mtrial row = some (r, w') := k2
    rw [k1, k2]
    exact ⟨_, _, _, rfl, rfl, n, K, E, F, L, D, day, ⟨ok, rfl, rfl, hk, hq⟩, h2, h3, h4, h5, h6⟩
  · rw [w1, w2]
    simp only [Option.bind_some]
    rw [if_pos trivial, if_neg (by decide)]
    exact ⟨_, _, _, rfl, rfl, n, K, E, F, L, D, day, ⟨ok, rfl, rfl, hk, hq⟩, h2, h3, h4, h5, h6⟩
