/-! PURE: giveUp -/
theorem sub_dif : ∀ g, g < 128 → ∀ O, O < 128 → (g &&& O = g ↔ dif g O = 0) := by decide +kernel
theorem giveUp_lock {kq page : Nat → Int32} {n K E F L D p O : Nat} {day th : Int32} (ok : COk n K E F L D) (hk : KindR kq n K) (hq : PageR page E F L D day) (hp : p < 7) (hO : O < 128) :
    ∀ (k f h g : Nat) (bo rs : Int32) (t row : Nat → Int32), g + k = O + 1 → k < f → k < h → (bo = -9 ∨ ∃ b, b < 128 ∧ bo = nI b) →
    ∃ r w, fX3_giveUp_48 (nI n) (nI K) (nI E) (lN F) (nI L) (nI p) f (nI O) bo (nI g) = some r ∧ fX4_giveUp_52 (nI n) kq page (nI p) h (nI O) bo (nI g) th rs t row = some (r, w) := by
  obtain ⟨hn, hK, hE, hF, hL, hD, hLD⟩ := ok
  have hL' := lt128 hn hL
  intro k
  induction k with
  | zero =>
    intro f h g bo rs t row hg hf hh _
    obtain ⟨f, rfl⟩ : ∃ f', f = f' + 1 := ⟨f - 1, by omega⟩
    obtain ⟨h, rfl⟩ : ∃ f', h = f' + 1 := ⟨h - 1, by omega⟩
    have hlt : nI O < nI g := by rw [k_nIt (by omega) (by omega)]; omega
    rw [fX3_giveUp_48, fX4_giveUp_52, if_pos hlt, if_pos hlt]
    exact ⟨_, _, rfl, rfl⟩
  | succ k ih =>
    intro f h g bo rs t row hg hf hh hb
    obtain ⟨f, rfl⟩ : ∃ f', f = f' + 1 := ⟨f - 1, by omega⟩
    obtain ⟨h, rfl⟩ : ∃ f', h = f' + 1 := ⟨h - 1, by omega⟩
    have hlt : ¬ nI O < nI g := by rw [k_nIt (by omega) (by omega)]; omega
    have hg128 : g < 128 := by omega
    have hdl := dif_lt L hL' g hg128
    have hdn : dif L g < 2 ^ n := Nat.lt_of_le_of_lt Nat.and_le_left hL
    have hpop := pop_n n (by omega) _ hdl hdn
    have hgO := dif_lt g hg128 O hO
    have cX : (nI g &&& nI O = nI g) = (g &&& O = g) := by rw [andI]; exact k_nIe (Nat.lt_of_le_of_lt Nat.and_le_left (by omega)) (by omega)
    have cM : (nI g &&& (nI O ^^^ (-1)) = 0) = (g &&& O = g) := by
      rw [k_notand g hg128 O hO]
      exact (k_nIe (b := 0) (by omega) (by decide)).trans (propext (sub_dif g hg128 O hO)).symm
    -- what follows when this set is looked at
    have key : ∀ (rs : Int32) (t row : Nat → Int32), ∃ r w, fX3_giveUp_77 (nI n) (nI K) (nI E) (lN F) (nI L) (nI p) (fun x2 x3 x4 => fX3_giveUp_48 (nI n) (nI K) (nI E) (lN F) (nI L) (nI p) f x2 x3 x4) (nI O) bo (nI g) 1 = some r ∧ (if nI g &&& (nI O ^^^ (-1)) = 0 then fX4_giveUp_85 (nI n) kq page (nI p) (fun x2 x3 x4 s_thrown s_rowSize q_trial q_row => fX4_giveUp_52 (nI n) kq page (nI p) h x2 x3 x4 s_thrown s_rowSize q_trial q_row) (nI O) bo (nI g) th rs t row else fX4_giveUp_52 (nI n) kq page (nI p) h (nI O) bo (nI g + 1) th rs t row) = some (r, w) := by
      intro rs t row
      unfold fX3_giveUp_77
      by_cases c : g &&& O = g
      · rw [if_pos (cX.mpr c), if_pos (cM.mpr c), if_neg (show ¬ (1 : Int32) = 0 by decide)]
        obtain ⟨t', b1, b2⟩ := m_begin page t
        have hpg := PageR_congr hq b2
        obtain ⟨o, l1, l2⟩ := m_lay (rs := rs) (row := row) hn hk hF hdl (PageR_L (L' := dif L g) hpg)
        unfold fX4_giveUp_85
        rw [k_notand L hL' g hg128, x_taken hn hK hE hF.1 hdl hpop hp, Option.bind_some, b1, Option.bind_some, k14, k14, c14, hpg.2.2.1, k_notand L hL' g hg128, l1, Option.bind_some, m_place hn hdl l2 hp, Option.bind_some, nI_1]
        cases hpos : posL (fallL (may n K E F) 7 (dif L g)) p with
        | none =>
          rw [decide_eq_false (posL_none.mp hpos), if_pos (c := bI false = 0) rfl, if_pos (c := plc 0 none = -9) rfl]
          exact ih f h (g + 1) bo _ _ _ (by omega) (by omega) (by omega) hb
        | some i =>
          have hi := pos_lt7 hn hdl hpos
          have hin : p ∈ fallL (may n K E F) 7 (dif L g) := by
            rcases Classical.em (p ∈ fallL (may n K E F) 7 (dif L g)) with z | z
            · exact z
            · rw [posL_none.mpr z] at hpos; cases hpos
          have hp9 : ¬ plc 0 (some i) = -9 := by
            show ¬ nI (0 + i) = -9
            exact k_m9 _ (by omega)
          rw [decide_eq_true hin, if_neg (c := bI true = 0) (by decide), if_neg hp9]
          exact ih f h (g + 1) (nI g) _ _ _ (by omega) (by omega) (by omega) (Or.inr ⟨g, hg128, rfl⟩)
      · rw [if_neg (fun z => c (cX.mp z)), if_neg (fun z => c (cM.mp z)), nI_1]
        exact ih f h (g + 1) bo _ _ _ (by omega) (by omega) (by omega) hb
    rw [fX3_giveUp_48, fX4_giveUp_52, if_neg hlt, if_neg hlt]
    unfold fX3_giveUp_72
    rcases hb with rfl | ⟨b, hb128, rfl⟩
    · rw [if_pos (c := (-9 : Int32) = -9) rfl, if_pos (c := (-9 : Int32) = -9) rfl]
      exact key rs t row
    · have hb9 := k_m9 b hb128
      have hpg := pop_le g
      have hpb := pop_le b
      rw [if_neg hb9, if_neg hb9, k_bitCount g hg128, k_bitCount b hb128, Option.bind_some, Option.bind_some, k_many g hg128, k_many b hb128, Option.bind_some, Option.bind_some]
      by_cases c : nI (pop b) ≤ nI (pop g)
      · rw [if_pos c, if_pos c]
        have nx := ih f h (g + 1) (nI b) rs t row (by omega) (by omega) (by omega) (Or.inr ⟨b, hb128, rfl⟩)
        have hX : fX3_giveUp_77 (nI n) (nI K) (nI E) (lN F) (nI L) (nI p) (fun x2 x3 x4 => fX3_giveUp_48 (nI n) (nI K) (nI E) (lN F) (nI L) (nI p) f x2 x3 x4) (nI O) (nI b) (nI g) 0 = fX3_giveUp_48 (nI n) (nI K) (nI E) (lN F) (nI L) (nI p) f (nI O) (nI b) (nI (g + 1)) := by
          unfold fX3_giveUp_77
          rw [if_pos (c := (0 : Int32) = 0) rfl, nI_1, ite_self]
        rw [hX, nI_1, ite_self]
        exact nx
      · rw [if_neg c, if_neg c]
        exact key rs t row
theorem op_giveUp {S : XS} {T : MS} (a : Int32) (h : Rel S T) : Op (gX_giveUp S a) (gM_giveUp T a) := by
  obtain ⟨kept, seenC, seed, len, bytes, now, trial, first, count, seen, oneH, otherH, ring, slots⟩ := S
  obtain ⟨thrown, text, textSize, place, people, kind, readPeople, readDeed, readKind, readFeeds, page, mtrial, book, acts, mkept, isKept, mseen, seenOne, seenTwo, mseed, row, rowSize, feedMany, feedRow, restMany, restFirst, value, gains, weight⟩ := T
  obtain ⟨n, K, E, F, L, D, day, ⟨ok, e, ep, hk, hq⟩, h2, h3, h4, h5, h6⟩ := h
  obtain rfl : now = enc n K E F L D day := e
  obtain rfl : people = nI n := ep
  have hk : KindR kind n K := hk
  have hq : PageR page E F L D day := hq
  obtain ⟨hn, hK, hE, hF, hL, hD, hLD⟩ := id ok
  have hL' := lt128 hn hL
  have hD' := lt128 hn hD
  unfold gX_giveUp gM_giveUp fX3_giveUp fX4_giveUp
  dsimp only [xs_keptSlots, xs_seenCount, xs_seed, xs_length, xs_bytes, xs_now, xs_trial, xs_first, xs_count, xs_seen, xs_oneHas, xs_otherHas, xs_ring, xs_slots, ms_thrown, ms_text, ms_textSize, ms_place, ms_people, ms_kind, ms_readPeople, ms_readDeed, ms_readKind, ms_readFeeds, ms_page, ms_trial, ms_book, ms_acts, ms_kept, ms_isKept, ms_seen, ms_seenOne, ms_seenTwo, ms_seed, ms_row, ms_rowSize, ms_feedMany, ms_feedRow, ms_restMany, ms_restFirst, ms_value, ms_gains, ms_weight, enc]
  rcases who n hn a with ⟨p, hpn, rfl, w1, w2⟩ | ⟨w1, w2⟩
  · have hp7 : p < 7 := by omega
    rw [w1, w2, Option.bind_some, Option.bind_some, if_neg (by decide), if_pos rfl, k14, k14, c14, hq.2.2.1, k_isIn _ hL' p hp7, k_has _ hL' p hp7, Option.bind_some, Option.bind_some]
    cases hb : L.testBit p with
    | false =>
      rw [if_pos (c := bI false = 0) rfl, if_pos (c := bI false = 0) rfl]
      exact ⟨_, _, _, rfl, rfl, n, K, E, F, L, D, day, ⟨ok, rfl, rfl, hk, hq⟩, h2, h3, h4, h5, h6⟩
    | true =>
      have hO := clr_lt L hL' p hp7
      rw [if_neg (c := bI true = 0) (by decide), if_neg (c := bI true = 0) (by decide), k_without L hL' p hp7, Option.bind_some, k_clr L hL' p hp7]
      obtain ⟨r, w', k1, k2⟩ := giveUp_lock (th := 0) ok hk hq hp7 hO (clr L p + 1) 130 130 0 (-9) rowSize mtrial row (by omega) (by omega) (by omega) (Or.inl rfl)
      have k1 : fX3_giveUp_48 (nI n) (nI K) (nI E) (lN F) (nI L) (nI p) 130 (nI (clr L p)) (-9) 0 = some r := k1
      have k2 : fX4_giveUp_52 (nI n) kind page (nI p) 130 (nI (clr L p)) (-9) 0 0 rowSize mtrial row = some (r, w') := k2
      rw [k1, k2]
      exact ⟨_, _, _, rfl, rfl, n, K, E, F, L, D, day, ⟨ok, rfl, rfl, hk, hq⟩, h2, h3, h4, h5, h6⟩
  · rw [w1, w2, Option.bind_some, Option.bind_some, if_pos rfl, if_neg (by decide)]
    exact ⟨_, _, _, rfl, rfl, n, K, E, F, L, D, day, ⟨ok, rfl, rfl, hk, hq⟩, h2, h3, h4, h5, h6⟩
