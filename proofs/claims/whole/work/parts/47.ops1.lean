/-! PURE: about, person, see -/
theorem x_hids_4 {n K F L : Nat} (hn : n ≤ 7) (hK : K < 2 ^ 28) (hF : F < 2 ^ 49) (hL : L < 128) : ∀ (f k : Nat), k ≤ n → n < f + k → fX1_hiddenOnes_4 (nI n) (nI K) (lN F) (nI L) f (nI (ofB (hid K F L) k)) (nI k) = some (nI (ofB (hid K F L) n)) := by
  intro f
  induction f with
  | zero => intro k h1 h2; omega
  | succ f ih =>
    intro k hkn hf
    rw [fX1_hiddenOnes_4]
    rcases Nat.lt_or_ge k n with hlt | hge
    · have ih1 := ih (k + 1) (by omega) (by omega)
      rw [if_neg (by rw [k_nIl (by omega) (by omega)]; omega), x_hidden hK hF hL (by omega), Option.bind_some, k_bit k (by omega), Option.bind_some, nI_1, orI]
      rw [ofB] at ih1
      simp only [bI0]
      cases hh : hid K F L k with
      | false => rw [if_pos rfl]; rw [hh] at ih1; simpa using ih1
      | true => rw [if_neg (by simp)]; rw [hh] at ih1; simpa using ih1
    · have : k = n := by omega
      subst this
      rw [if_pos (by rw [k_nIl (by omega) (by omega)]; omega)]
theorem m_about_9 {kq q : Nat → Int32} {n K E F L D : Nat} {day ts ac se a th : Int32} (hn : n ≤ 7) (hk : KindR kq n K) (hq : PageR q E F L D day) (hF : FOk n F) (hL : L < 128) :
    ∀ (f k : Nat), k ≤ n → n < f + k → fX4_about_9 ts (nI n) ac se kq q a f (nI (ofB (hid K F L) k)) (nI k) th = fX4_about_9 ts (nI n) ac se kq q a 1 (nI (ofB (hid K F L) n)) (nI n) th := by
  have hor : ∀ a, nI a ||| 0 = nI a := fun a => by rw [show (0 : Int32) = nI 0 from rfl, orI, Nat.or_zero]
  intro f
  induction f with
  | zero => intro k h1 h2; omega
  | succ f ih =>
    intro k hkn hf
    rcases Nat.lt_or_ge k n with hlt | hge
    · have ih1 := ih (k + 1) (by omega) (by omega)
      rw [← ih1]
      conv => lhs; rw [fX4_about_9]
      rw [if_neg (by rw [k_nIl (by omega) (by omega)]; omega), m_hidden hn hk hq hF hL hlt, Option.bind_some, k_shl1 k (by omega), nI_1, orI, hor, ofB]
      simp only [bI0]
      cases hh : hid K F L k with
      | false => rw [if_pos rfl]; simp
      | true => rw [if_neg (by simp)]; simp
    · have : k = n := by omega
      subst this
      have hle : nI k ≤ nI k := by rw [k_nIl (by omega) (by omega)]; omega
      rw [fX4_about_9, fX4_about_9, if_pos hle, if_pos hle]
theorem op_about {S : XS} {T : MS} (a : Int32) (h : Rel S T) : Op (gX_about S a) (gM_about T a) := by
  obtain ⟨n, K, E, F, L, D, day, ⟨⟨hn, hK, hE, hF, hL, hD, hLD⟩, e, ep, hk, hq⟩, ⟨f, c, hh, hf14, hc14, e1, e2, e3, -⟩, -, ⟨m, sa, sb, hm6, s1, s2, -⟩, ⟨t, ht, t1, t2, -⟩, -⟩ := id h
  have hL' := lt128 hn hL
  have key : ∃ r w, gX_about S a = some (r, S) ∧ fX4_about (ms_thrown T) (ms_textSize T) (ms_people T) (ms_acts T) (ms_seen T) (ms_kind T) (ms_page T) a = some (r, w) := by
    have hm := m_about_9 (ts := nI t) (ac := nI c) (se := nI m) (a := a) (th := 0) hn hk hq hF hL' 9 0 (by omega) (by omega)
    have hm2 : fX4_about (ms_thrown T) (ms_textSize T) (ms_people T) (ms_acts T) (ms_seen T) (ms_kind T) (ms_page T) a = fX4_about_9 (nI t) (nI n) (nI c) (nI m) (ms_kind T) (ms_page T) a 1 (nI (ofB (hid K F L) n)) (nI n) 0 := by
      unfold fX4_about; rw [ep, e3, s2, t2]; exact hm
    rw [hm2, fX4_about_9, if_pos (by rw [k_nIl (by omega) (by omega)]; omega)]
    have hhid := x_hids_4 hn hK hF.1 hL' 9 0 (by omega) (by omega)
    unfold gX_about fX3_about
    rw [e2, s1, t1]
    simp only [e]
    rw [x_may hn hK hE hF.1 hL', show fX1_hiddenOnes (nI n) (nI K) (lN F) (nI L) = some (nI (ofB (hid K F L) n)) from hhid, m_may hn hk hq hF hL', k14, k15, k16, c14, c15, c16, hq.2.2.1, hq.2.2.2.1, hq.2.2.2.2]
    simp only [Option.bind_some]
    by_cases c0 : a = 0
    · rw [if_pos c0, if_pos c0]; exact ⟨_, _, rfl, rfl⟩
    rw [if_neg c0, if_neg c0]
    by_cases c1 : a = 1
    · rw [if_pos c1, if_pos c1]; exact ⟨_, _, rfl, rfl⟩
    rw [if_neg c1, if_neg c1]
    by_cases c2 : a = 2
    · rw [if_pos c2, if_pos c2]; exact ⟨_, _, rfl, rfl⟩
    rw [if_neg c2, if_neg c2]
    by_cases c3 : a = 3
    · rw [if_pos c3, if_pos c3]; exact ⟨_, _, rfl, rfl⟩
    rw [if_neg c3, if_neg c3]
    by_cases c4 : a = 4
    · rw [if_pos c4, if_pos c4]; exact ⟨_, _, rfl, rfl⟩
    rw [if_neg c4, if_neg c4]
    by_cases c5 : a = 5
    · rw [if_pos c5, if_pos c5]; exact ⟨_, _, rfl, rfl⟩
    rw [if_neg c5, if_neg c5]
    by_cases c6 : a = 6
    · rw [if_pos c6, if_pos c6]; exact ⟨_, _, rfl, rfl⟩
    rw [if_neg c6, if_neg c6]
    by_cases c7 : a = 7
    · rw [if_pos c7, if_pos c7]; exact ⟨_, _, rfl, rfl⟩
    rw [if_neg c7, if_neg c7]
    by_cases c8 : a = 8
    · rw [if_pos c8, if_pos c8]; exact ⟨_, _, rfl, rfl⟩
    rw [if_neg c8, if_neg c8]; exact ⟨_, _, rfl, rfl⟩
  obtain ⟨r, w, hx, hm⟩ := key
  unfold gM_about
  rw [hm]
  exact ⟨_, _, _, hx, rfl, h⟩
theorem k_pair : ∀ i, i < 7 → ∀ j, j < 7 → fX3_pair (nI i) (nI j) = some (lN (2 ^ (7 * j + i))) := by decide +kernel
theorem x_feeds {F i j : Nat} (hi : i < 7) (hj : j < 7) : fX1_feeds (lN F) (nI i) (nI j) = some (bI (F.testBit (7 * j + i))) := by
  unfold fX1_feeds
  rw [k_pair i hi j hj, Option.bind_some]
  have : (lg_cmp (lN F &&& lN (2 ^ (7 * j + i))) 0 = 0) = (F.testBit (7 * j + i) = false) := propext ((lg_cmp_eq _ _).trans (fb_bitL (by omega)))
  simp only [this]
  cases F.testBit (7 * j + i) <;> rfl
theorem x_whom_4 {n F p : Nat} (hn : n ≤ 7) (hp : p < 7) : ∀ (f k : Nat), k ≤ n → n < f + k → fX1_whomFeeds_4 (nI n) (lN F) (nI p) f (nI (ofB (fun j => F.testBit (7 * j + p)) k)) (nI k) = some (nI (ofB (fun j => F.testBit (7 * j + p)) n)) := by
  intro f
  induction f with
  | zero => intro k h1 h2; omega
  | succ f ih =>
    intro k hkn hf
    rw [fX1_whomFeeds_4]
    rcases Nat.lt_or_ge k n with hlt | hge
    · have ih1 := ih (k + 1) (by omega) (by omega)
      rw [if_neg (by rw [k_nIl (by omega) (by omega)]; omega), x_feeds hp (by omega), Option.bind_some, k_bit k (by omega), Option.bind_some, nI_1, orI]
      rw [ofB] at ih1
      simp only [bI0]
      cases hh : F.testBit (7 * k + p) with
      | false => rw [if_pos rfl]; rw [hh] at ih1; simpa using ih1
      | true => rw [if_neg (by simp)]; rw [hh] at ih1; simpa using ih1
    · have : k = n := by omega
      subst this
      rw [if_pos (by rw [k_nIl (by omega) (by omega)]; omega)]
theorem ofB_row {n F p : Nat} (hn : n ≤ 7) (hF : FOk n F) (hp : p < 7) : ofB (fun j => F.testBit (7 * j + p)) n = rowF F p := by
  unfold rowF
  apply set_ext (ofB_lt7 _ hn) (ofB_lt7 _ (Nat.le_refl 7))
  intro j hj
  rw [ofB_bit, ofB_bit]
  by_cases hjn : j < n
  · simp [hjn, hj]
  · have : F.testBit (7 * j + p) = false := by
      cases hz : F.testBit (7 * j + p) with
      | false => rfl
      | true => exact absurd (hF.2 p j hp hj hz).2.1 hjn
    rw [this]; simp
theorem x_whom {n F p : Nat} (hn : n ≤ 7) (hF : FOk n F) (hp : p < 7) : fX1_whomFeeds (nI n) (lN F) (nI p) = some (nI (rowF F p)) := by
  have := x_whom_4 (F := F) hn hp 9 0 (by omega) (by omega)
  rw [ofB_row hn hF hp] at this
  exact this
theorem add0 (p : Nat) : (0 : Int32) + nI p = nI p := by rw [show (0 : Int32) = nI 0 from rfl, nI_add, Nat.zero_add]
theorem add7 (p : Nat) : (7 : Int32) + nI p = nI (7 + p) := nI_add 7 p
theorem op_person {S : XS} {T : MS} (a b : Int32) (h : Rel S T) : Op (gX_person S a b) (gM_person T a b) := by
  obtain ⟨n, K, E, F, L, D, day, ⟨⟨hn, hK, hE, hF, hL, hD, hLD⟩, e, ep, hk, hq⟩, -⟩ := id h
  have key : ∃ r w, gX_person S a b = some (r, S) ∧ fX4_person (ms_thrown T) (ms_people T) (ms_kind T) (ms_page T) a b = some (r, w) := by
    unfold gX_person fX3_person fX4_person
    rw [ep]
    simp only [e]
    rcases who n hn a with ⟨p, hpn, rfl, w1, w2⟩ | ⟨w1, w2⟩
    · have hp7 : p < 7 := by omega
      rw [w1, w2, Option.bind_some, Option.bind_some, if_neg (by decide), if_pos rfl, x_deed hE hp7, x_kind hK hp7, x_grade hK hE hp7, x_whom hn hF hp7, add0, add7, ck_nI (i := p) (by omega) (by decide), ck_nI (i := p) (by omega) (by decide), ck_nI (i := 7 + p) (by omega) (by decide), clamp (by omega), clamp (by omega), hq.1 p hp7, hk p hpn, hq.2.1 p hp7, m_grade hn hk hq.1 hpn]
      simp only [Option.bind_some]
      by_cases c0 : b = 0
      · rw [if_pos c0, if_pos c0]; exact ⟨_, _, rfl, rfl⟩
      rw [if_neg c0, if_neg c0]
      by_cases c1 : b = 1
      · rw [if_pos c1, if_pos c1]; exact ⟨_, _, rfl, rfl⟩
      rw [if_neg c1, if_neg c1]
      by_cases c2 : b = 2
      · rw [if_pos c2, if_pos c2]; exact ⟨_, _, rfl, rfl⟩
      rw [if_neg c2, if_neg c2]
      by_cases c3 : b = 3
      · rw [if_pos c3, if_pos c3]; exact ⟨_, _, rfl, rfl⟩
      rw [if_neg c3, if_neg c3]; exact ⟨_, _, rfl, rfl⟩
    · rw [w1, w2, Option.bind_some, Option.bind_some, if_pos rfl, if_neg (by decide)]
      exact ⟨_, _, rfl, rfl⟩
  obtain ⟨r, w, hx, hm⟩ := key
  unfold gM_person
  rw [hm]
  exact ⟨_, _, _, hx, rfl, h⟩
theorem op_see {S : XS} {T : MS} (a b : Int32) (h : Rel S T) : Op (gX_see S a b) (gM_see T a b) := by
  obtain ⟨n, K, E, F, L, D, day, h1, h2, h3, ⟨m, sa, sb, hm6, s1, s2, s3⟩, h5, h6⟩ := id h
  obtain ⟨⟨hn, hK, hE, hF, hL, hD, hLD⟩, e, ep, hk, hq⟩ := id h1
  have key : (∃ r, fX3_see (xs_seenCount S) (xs_now S).1 (xs_seen S) a b = some (r, xs_seenCount S, xs_seen S) ∧ fX4_see (ms_thrown T) (ms_people T) (ms_seen T) (ms_seenOne T) (ms_seenTwo T) a b = some (r, 0, ms_seen T, ms_seenOne T, ms_seenTwo T)) ∨ (∃ p q, p < 7 ∧ q < 7 ∧ m < 6 ∧ fX3_see (xs_seenCount S) (xs_now S).1 (xs_seen S) a b = some (nI (m + 1), nI (m + 1), upd (xs_seen S) m (nI (10 * p + q))) ∧ fX4_see (ms_thrown T) (ms_people T) (ms_seen T) (ms_seenOne T) (ms_seenTwo T) a b = some (nI (m + 1), 0, nI (m + 1), upd (ms_seenOne T) m (nI p), upd (ms_seenTwo T) m (nI q))) := by
    unfold fX3_see fX4_see
    rw [ep, e, s1, s2]
    show (∃ r, ((fX1_has (nI n) a).bind _) = _ ∧ _) ∨ (∃ p q, _ ∧ _ ∧ _ ∧ ((fX1_has (nI n) a).bind _) = _ ∧ _)
    rcases who n hn a with ⟨p, hpn, rfl, w1, w2⟩ | ⟨w1, w2⟩
    · rw [w1, w2]
      simp only [Option.bind_some]
      rw [if_neg (by decide), if_pos trivial]
      rcases who n hn b with ⟨q, hqn, rfl, v1, v2⟩ | ⟨v1, v2⟩
      · rw [v1, v2]
        simp only [Option.bind_some]
        rw [if_neg (by decide), if_pos trivial]
        simp only [k_nIe (show p < 2 ^ 31 by omega) (show q < 2 ^ 31 by omega), show (nI m < 6) = (m < 6) from k_nIt (b := 6) (by omega) (by decide), show (nI m = 6) = (m = 6) from k_nIe (b := 6) (by omega) (by decide)]
        by_cases c : p = q
        · rw [if_pos c, if_pos c]; exact Or.inl ⟨_, rfl, rfl⟩
        · rw [if_neg c, if_neg c]
          by_cases c6 : m < 6
          · rw [if_pos c6, if_neg (by omega), ck_nI c6 (by decide), ck_nI c6 (by decide), ck_nI c6 (by decide), clamp (by omega), nI_1, show (10 : Int32) * nI p + nI q = nI (10 * p + q) by rw [show (10 : Int32) = nI 10 from rfl, pk_mul, nI_add]]
            exact Or.inr ⟨p, q, by omega, by omega, c6, rfl, rfl⟩
          · rw [if_neg c6, if_pos (by omega)]; exact Or.inl ⟨_, rfl, rfl⟩
      · rw [v1, v2]
        simp only [Option.bind_some]
        rw [if_pos trivial, if_neg (by decide)]
        exact Or.inl ⟨_, rfl, rfl⟩
    · rw [w1, w2]
      simp only [Option.bind_some]
      rw [if_pos trivial, if_neg (by decide)]
      exact Or.inl ⟨_, rfl, rfl⟩
  unfold gX_see gM_see
  rcases key with ⟨r, k1, k2⟩ | ⟨p, q, hp, hq7, c6, k1, k2⟩
  · rw [k1, k2]
    exact ⟨_, _, _, rfl, rfl, h⟩
  · rw [k1, k2]
    refine ⟨_, _, _, rfl, rfl, n, K, E, F, L, D, day, h1, h2, h3, ⟨m + 1, va_up sa m p, va_up sb m q, by omega, rfl, rfl, fun k hk => ?_⟩, h5, h6⟩
    show va_up sa m p k < 7 ∧ va_up sb m q k < 7 ∧ upd _ m _ k = _ ∧ upd _ m _ k = _ ∧ upd _ m _ k = _
    by_cases hkm : k = m
    · subst hkm
      rw [va_up_self, va_up_self, pk_us, pk_us, pk_us]
      exact ⟨hp, hq7, rfl, rfl, rfl⟩
    · rw [va_up_ne _ _ hkm, va_up_ne _ _ hkm, pk_un hkm, pk_un hkm, pk_un hkm]
      exact s3 k (by omega)
