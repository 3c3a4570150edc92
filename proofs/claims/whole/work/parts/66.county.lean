/-! PURE: fault, county, and a new object -/
theorem op_fault {S : XS} {T : MS} (h : Rel S T) : Op (gX_fault S) (gM_fault T) := by
  obtain ⟨n, K, E, F, L, D, day, h1, h2, h3, h4, ⟨t, ht, e1, e2, e3⟩, h6⟩ := id h
  have hT : TX t (xs_bytes S) (ms_text T) := ⟨ht, e3⟩
  obtain ⟨r, pl, n', K', E', F', rd', rk', rf', x, m, hr⟩ := read_both hT (t1 := (xs_trial S).1) (t2 := (xs_trial S).2.1) (t3 := (xs_trial S).2.2.1) (t4 := (xs_trial S).2.2.2.1) (t5 := (xs_trial S).2.2.2.2.1) (t6 := (xs_trial S).2.2.2.2.2.1) (t7 := (xs_trial S).2.2.2.2.2.2) (pl0 := ms_place T) (rp0 := ms_readPeople T) (rd0 := ms_readDeed T) (rk0 := ms_readKind T) (rf0 := ms_readFeeds T)
  rw [← e1] at x
  rw [← e2] at m
  unfold gX_fault gM_fault fX3_fault fX4_fault
  rw [x, m]
  exact ⟨_, _, _, rfl, rfl, h⟩
theorem m_c27 {th pl pe rp ac : Int32} {kd rd rk rf ik : Nat → Int32} : ∀ (k f z : Nat) (pg : Nat → Int32), z + k = 17 → k < f → (∀ j, j < z → pg j = 0) → ∃ pg', fX4_county_27 f (nI z) th pl pe rp ac kd rd rk rf pg ik = fX4_county_48 20 0 th pl pe rp ac kd rd rk rf pg' ik ∧ ∀ j, j < 17 → pg' j = 0 := by
  have e17 : (17 : Int32) = nI 17 := rfl
  intro k
  induction k with
  | zero =>
    intro f z pg hz hf h0
    obtain ⟨f, rfl⟩ : ∃ f', f = f' + 1 := ⟨f - 1, by omega⟩
    rw [fX4_county_27, e17, if_pos (by rw [k_nIl (by omega) (by omega)]; omega)]
    exact ⟨pg, rfl, fun j hj => h0 j (by omega)⟩
  | succ k ih =>
    intro f z pg hz hf h0
    obtain ⟨f, rfl⟩ : ∃ f', f = f' + 1 := ⟨f - 1, by omega⟩
    rw [fX4_county_27, e17, if_neg (by rw [k_nIl (by omega) (by omega)]; omega), ck_nI (by omega) (by decide), clamp (by omega), nI_1]
    refine ih f (z + 1) _ (by omega) (by omega) (fun j hj => ?_)
    by_cases e : j = z
    · subst e; exact pk_us
    · rw [pk_un e]; exact h0 j (by omega)
theorem m_c48 {th pl rp ac : Int32} {rd rk rf ik : Nat → Int32} {n : Nat} (hn : n ≤ 7) : ∀ (k f i : Nat) (kd pg : Nat → Int32), i + k = n → k < f → ∃ kd' pg', fX4_county_48 f (nI i) th pl (nI n) rp ac kd rd rk rf pg ik = some (nI n, th, pl, nI n, rp, 0, kd', rd, rk, rf, upd pg' 14 (nI (2 ^ n - 1)), upd (upd ik 0 (vp_nar .boolean 0)) 1 (vp_nar .boolean 0)) ∧ (∀ p, kd' p = if i ≤ p ∧ p < n then rk p else kd p) ∧ ∀ j, pg' j = if i ≤ j ∧ j < n then rd j else if 7 + i ≤ j ∧ j < 7 + n then rf (j - 7) else pg j := by
  have c0 : Int32.toNatClampNeg 0 = 0 := by decide
  have c1 : Int32.toNatClampNeg 1 = 1 := by decide
  intro k
  induction k with
  | zero =>
    intro f i kd pg hi hf
    obtain ⟨f, rfl⟩ : ∃ f', f = f' + 1 := ⟨f - 1, by omega⟩
    rw [fX4_county_48, if_pos (by rw [k_nIl (by omega) (by omega)]; omega), k14, c14, c0, c1, k_p1 n (by omega)]
    refine ⟨kd, pg, rfl, fun p => ?_, fun j => ?_⟩
    · rw [if_neg (by omega)]
    · rw [if_neg (by omega), if_neg (by omega)]
  | succ k ih =>
    intro f i kd pg hi hf
    obtain ⟨f, rfl⟩ : ∃ f', f = f' + 1 := ⟨f - 1, by omega⟩
    rw [fX4_county_48, if_neg (by rw [k_nIl (by omega) (by omega)]; omega), add0, add7, ck_nI (by omega) (by decide), ck_nI (by omega) (by decide), ck_nI (by omega) (by decide), ck_nI (by omega) (by decide), ck_nI (by omega) (by decide), ck_nI (by omega) (by decide), clamp (show i < 2 ^ 31 by omega), clamp (show 7 + i < 2 ^ 31 by omega), nI_1]
    obtain ⟨kd', pg', h1, h2, h3⟩ := ih f (i + 1) (upd kd i (rk i)) (upd (upd pg i (rd i)) (7 + i) (rf i)) (by omega) (by omega)
    refine ⟨kd', pg', h1, fun p => ?_, fun j => ?_⟩
    · rw [h2]
      by_cases a : i + 1 ≤ p ∧ p < n
      · rw [if_pos a, if_pos ⟨by omega, a.2⟩]
      · rw [if_neg a]
        by_cases e : p = i
        · subst e; rw [pk_us, if_pos ⟨Nat.le_refl _, by omega⟩]
        · rw [pk_un e, if_neg (by omega)]
    · rw [h3]
      by_cases a : i + 1 ≤ j ∧ j < n
      · rw [if_pos a, if_pos ⟨by omega, a.2⟩]
      · rw [if_neg a]
        by_cases b : 7 + (i + 1) ≤ j ∧ j < 7 + n
        · rw [if_pos b, if_neg (by omega), if_pos ⟨by omega, b.2⟩]
        · rw [if_neg b]
          by_cases e : j = 7 + i
          · subst e
            rw [pk_us, if_neg (by omega), if_pos ⟨Nat.le_refl _, by omega⟩, show 7 + i - 7 = i by omega]
          · rw [pk_un e]
            by_cases e2 : j = i
            · subst e2; rw [pk_us, if_pos ⟨Nat.le_refl _, by omega⟩]
            · rw [pk_un e2, if_neg (by omega), if_neg (by omega)]
theorem nib_0 {E n p : Nat} (hE : E < 2 ^ (4 * n)) (h : n ≤ p) : nib E p = 0 := by
  unfold nib
  rw [Nat.div_eq_of_lt (Nat.lt_of_lt_of_le hE (Nat.pow_le_pow_right (n := 2) (by decide) (by omega)))]
theorem op_county {S : XS} {T : MS} (h : Rel S T) : Op (gX_county S) (gM_county T) := by
  obtain ⟨kept, seenC, seed, len, bytes, now, trial, first, count, seen, oneH, otherH, ring, slots⟩ := S
  obtain ⟨thrown, text, textSize, place, people, kind, readPeople, readDeed, readKind, readFeeds, page, mtrial, book, acts, mkept, isKept, mseen, seenOne, seenTwo, mseed, row, rowSize, feedMany, feedRow, restMany, restFirst, value, gains, weight⟩ := T
  obtain ⟨n, K, E, F, L, D, day, ⟨ok, e, ep, hk, hq⟩, h2, h3, h4, h5, h6⟩ := h
  obtain rfl : now = enc n K E F L D day := e
  obtain rfl : people = nI n := ep
  have hk : KindR kind n K := hk
  have hq : PageR page E F L D day := hq
  obtain ⟨f, c, hh, hf, hc, e1, e2, e3, hr⟩ := id h2
  obtain rfl : first = nI f := e1
  obtain ⟨t, ht, t1, t2, t3⟩ := id h5
  obtain rfl : len = nI t := t1
  obtain rfl : textSize = nI t := t2
  have hT : TX t bytes text := ⟨ht, t3⟩
  obtain ⟨s1, s2, s3, s4, s5, s6, s7⟩ := trial
  obtain ⟨r, pl, n', K', E', F', rd', rk', rf', x, m, hrd⟩ := read_both hT (t1 := s1) (t2 := s2) (t3 := s3) (t4 := s4) (t5 := s5) (t6 := s6) (t7 := s7) (pl0 := place) (rp0 := readPeople) (rd0 := readDeed) (rk0 := readKind) (rf0 := readFeeds)
  obtain ⟨r1, r2, r3, r4, r5⟩ := hrd
  unfold gX_county gM_county fX3_county fX4_county
  dsimp only [xs_keptSlots, xs_seenCount, xs_seed, xs_length, xs_bytes, xs_now, xs_trial, xs_first, xs_count, xs_seen, xs_oneHas, xs_otherHas, xs_ring, xs_slots, ms_thrown, ms_text, ms_textSize, ms_place, ms_people, ms_kind, ms_readPeople, ms_readDeed, ms_readKind, ms_readFeeds, ms_page, ms_trial, ms_book, ms_acts, ms_kept, ms_isKept, ms_seen, ms_seenOne, ms_seenTwo, ms_seed, ms_row, ms_rowSize, ms_feedMany, ms_feedRow, ms_restMany, ms_restFirst, ms_value, ms_gains, ms_weight, enc]
  rw [x, m, Option.bind_some, Option.bind_some]
  by_cases c : r = -9
  · obtain ⟨pg1, g1, g2⟩ := m_c27 (th := 0) (pl := pl) (pe := nI n') (rp := nI n') (ac := acts) (kd := kind) (rd := rd') (rk := rk') (rf := rf') (ik := isKept) 17 20 0 page (by omega) (by omega) (fun j hj => by omega)
    obtain ⟨kd2, pg2, g3, g4, g5⟩ := m_c48 (th := 0) (pl := pl) (rp := nI n') (ac := acts) (rd := rd') (rk := rk') (rf := rf') (ik := isKept) r1 n' 20 0 kind pg1 (by omega) (by omega)
    have g1 : fX4_county_27 20 0 0 pl (nI n') (nI n') acts kind rd' rk' rf' page isKept = _ := g1
    have g3 : fX4_county_48 20 0 0 pl (nI n') (nI n') acts kind rd' rk' rf' pg1 isKept = _ := g3
    unfold fX1_copy
    rw [if_pos c, if_pos c, Option.bind_some, g1, g3, Option.bind_some]
    have b28 : ∀ x, x < 2 ^ (4 * n') → x < 2 ^ 28 := fun x hx => Nat.lt_of_lt_of_le hx (Nat.pow_le_pow_right (n := 2) (by decide) (by omega))
    have h2p : 0 < 2 ^ n' := Nat.two_pow_pos n'
    refine ⟨_, _, _, rfl, rfl, n', K', E', F', 2 ^ n' - 1, 0, 0, ⟨⟨r1, b28 _ r2, b28 _ r3, r4, by omega, h2p, Nat.and_zero _⟩, rfl, rfl, ?_, ?_⟩, ⟨f, 0, hh, hf, by omega, rfl, rfl, rfl, fun k hk => by omega⟩, ⟨0, by decide, rfl, fun s hs => ?_⟩, h4, h5, h6⟩
    · intro p hp
      show kd2 p = _
      rw [g4, if_pos ⟨Nat.zero_le _, hp⟩]; exact (r5 p hp).2.1
    · show PageR (upd pg2 14 (nI (2 ^ n' - 1))) E' F' (2 ^ n' - 1) 0 0
      refine ⟨fun p hp => ?_, fun i hi => ?_, pk_us, ?_, ?_⟩
      · rw [pk_un (by omega), g5]
        by_cases a : p < n'
        · rw [if_pos ⟨Nat.zero_le _, a⟩]; exact (r5 p a).1
        · rw [if_neg (by omega), if_neg (by omega), g2 p (by omega), nib_0 r3 (by omega)]; rfl
      · rw [pk_un (by omega), g5, if_neg (by omega)]
        by_cases a : i < n'
        · rw [if_pos ⟨by omega, by omega⟩, show 7 + i - 7 = i by omega]; exact (r5 i a).2.2
        · rw [if_neg (by omega), g2 _ (by omega), row_0 r4 hi (by omega)]; rfl
      · rw [pk_un (by decide), g5, if_neg (by omega), if_neg (by omega), g2 _ (by decide)]; rfl
      · rw [pk_un (by decide), g5, if_neg (by omega), if_neg (by omega), g2 _ (by decide)]
    · show upd (upd isKept 0 (vp_nar .boolean 0)) 1 (vp_nar .boolean 0) s = _ ∧ _
      rw [Nat.zero_testBit]
      refine ⟨?_, fun z => by cases z⟩
      have hv : vp_nar .boolean 0 = 0 := by decide
      by_cases e1 : s = 1
      · subst e1; rw [pk_us, hv]; rfl
      · have e0 : s = 0 := by omega
        subst e0
        rw [pk_un (by decide), pk_us, hv]; rfl
  · rw [if_neg c, if_neg c]
    exact ⟨_, _, _, rfl, rfl, n, K, E, F, L, D, day, ⟨ok, rfl, rfl, hk, hq⟩, h2, h3, h4, h5, h6⟩
theorem rel_0 : Rel z_X z_M := by
  have z : ∀ p, nib 0 p = 0 := fun p => by unfold nib; rw [Nat.zero_div]
  have hF : FOk 0 0 := ⟨by decide, fun i j _ _ hb => by rw [Nat.zero_testBit] at hb; cases hb⟩
  refine ⟨0, 0, 0, 0, 0, 0, 0, ⟨⟨by omega, by decide, by decide, hF, by decide, by decide, rfl⟩, rfl, rfl, fun p hp => by omega, fun p _ => ?_, fun i hi => ?_, rfl, rfl, rfl⟩, ⟨0, 0, fun _ => (0, 0, 0, 0, 0), by omega, by omega, rfl, rfl, rfl, fun k hk => by omega⟩, ⟨0, by decide, rfl, fun s hs => ⟨?_, fun q => ?_⟩⟩, ⟨0, fun _ => 0, fun _ => 0, by omega, rfl, rfl, fun k hk => by omega⟩, ⟨0, by omega, rfl, rfl, fun k hk => by omega⟩, rfl⟩
  · rw [z]; rfl
  · rw [row_0 hF hi (Nat.zero_le _)]; rfl
  · rw [Nat.zero_testBit]; rfl
  · rw [Nat.zero_testBit] at q; cases q
