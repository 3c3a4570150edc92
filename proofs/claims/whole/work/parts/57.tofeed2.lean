/-! PURE: toFeed, the call -/
theorem nI_m9 {k : Nat} (h : k < 2 ^ 31) : ¬ nI k = -9 := fun z => absurd (nI_pos' h) (by rw [z]; decide)
theorem v_toFeed {kq page t row : Nat → Int32} {n K E F L D : Nat} {day th rs fm fr t1 t2 t3 t5 t6 t7 : Int32} {t4 : Int64} (ok : COk n K E F L D) (hk : KindR kq n K) (hq : PageR page E F L D day) (a b : Int32) :
    ∃ r w w', fX3_toFeed (nI n) (nI K) (nI E) (lN F) (nI L) (nI D) day t1 t2 t3 t4 t5 t6 t7 a b = some (r, w) ∧ fX4_toFeed th (nI n) rs fm fr kq page t row a b = some (r, w') := by
  obtain ⟨hn, hK, hE, hF, hL, hD, hLD⟩ := ok
  have hL' := lt128 hn hL
  have hpop := pop_n n (by omega) L hL' hL
  have h10 : ¬ (1 : Int32) = 0 := by decide
  unfold fX3_toFeed fX4_toFeed fX3_onePair fX3_twoPairs fX4_findFeed
  rcases who n hn a with ⟨p, hpn, rfl, w1, w2⟩ | ⟨w1, w2⟩
  · have hp7 : p < 7 := by omega
    rw [w1, w2, Option.bind_some, Option.bind_some, if_neg h10, if_pos (c := (0 : Int32) = 0) rfl]
    rcases slot01 b with ⟨s, hs, rfl, b1, b2, b3⟩ | ⟨b3, hh⟩
    · have hb1 : nI s ≤ 1 := (k_nIl (a := s) (b := 1) (by omega) (by decide)).mpr (by omega)
      obtain ⟨⟨rs1, t1', row1⟩, l1⟩ := m_safe0 (rs := rs) (t := t) (row := row) hn hk hF hL' hq hp7
      rw [b3, Option.bind_some, if_neg h10, if_neg b1, if_pos hb1, x_taken hn hK hE hF.1 hL' hpop hp7, Option.bind_some, l1, Option.bind_some]
      by_cases hin : p ∈ fallL (may n K E F) 7 L
      · have hbit := (fallL_mem (may_ok hn K E F) 7 L hL' p hin).2
        unfold fX1_copy
        rw [decide_eq_true hin, if_neg (c := bI true = 0) (by decide), Option.bind_some, if_pos (c := bI (!true) = 0) rfl]
        obtain ⟨w3, x1⟩ := x_one hn hK hE hF hL' hpop hp7 hbit (10 * n) 72 0 (lN F) (by omega) (by omega)
        obtain ⟨rs2, t2', row2, m1⟩ := m_one (K := K) hn hk hF hL' hq hp7 67 70 0 rs1 t1' row1 (by omega) (by omega)
        have x1 : fX3_onePair_2 (nI n) (lN F) (nI n) (nI K) (nI E) (nI L) (nI p) 72 0 (lN F) = some (opt9 (fstP (s1 n K E F L p) (10 * n) 0), w3) := x1
        have m1 : fX4_findFeed_36 (nI n) kq page (nI p) 70 0 rs1 (-9) (-9) t1' row1 = (match fstP (s1 n K E F L p) 67 0 with | none => fX4_findFeed_88 (nI n) kq page (nI p) 6702 0 rs2 (-9) (-9) t2' row2 | some y => some (rs2, 1, nI y, t2', row2)) := m1
        rw [one_eq hn] at x1
        rw [x1, m1, Option.bind_some]
        cases hf1 : fstP (s1 n K E F L p) 67 0 with
        | some y =>
          have hy := (fstP_some hf1).2.1
          have hy9 : ¬ opt9 (some y) = -9 := k_m9 y (by omega)
          rw [if_neg hy9]
          by_cases c : nI s = 0
          · rw [if_pos c]
            exact ⟨_, _, _, rfl, by rw [Option.bind_some, if_pos c]⟩
          · rw [if_neg c]
            exact ⟨_, _, _, rfl, by rw [Option.bind_some, if_neg c]; rfl⟩
        | none =>
          obtain ⟨w4, x2⟩ := x_two13 hn hK hE hF hL' hpop hp7 hbit (10 * n) 72 0 w3 (by omega) (by omega)
          obtain ⟨rs3, t3', row3, m2⟩ := m_two (K := K) hn hk hF hL' hq hp7 6700 6702 0 rs2 t2' row2 (by omega) (by omega)
          have x2 : fX3_twoPairs_13 (nI n) (lN F) (nI n) (nI K) (nI E) (nI L) (nI p) 72 (nI (10 * n)) 0 w3 = some (opt9 (fst2 n K E F L p (10 * n) 0), w4) := x2
          have m2 : fX4_findFeed_88 (nI n) kq page (nI p) 6702 0 rs2 (-9) (-9) t2' row2 = (match fstP (sQ n K E F L p) 6700 0 with | none => some (rs3, -9, -9, t3', row3) | some y => some (rs3, 2, nI y, t3', row3)) := m2
          have e10 : (10 : Int32) * nI n = nI (10 * n) := pk_mul 10 n
          rw [two_eq hn] at x2
          dsimp only
          rw [m2, if_pos (c := opt9 none = -9) rfl, e10, x2, Option.bind_some]
          cases hf2 : fstP (sQ n K E F L p) 6700 0 with
          | none =>
            by_cases c : nI s = 0
            · rw [if_pos c, if_pos (c := opt9 none = -9) rfl]
              exact ⟨_, _, _, rfl, by rw [Option.bind_some, if_pos c]; rfl⟩
            · rw [if_neg c]
              exact ⟨_, _, _, rfl, by rw [Option.bind_some, if_neg c]; rfl⟩
          | some z =>
            have hz := (fstP_some hf2).2.1
            have hz9 : ¬ opt9 (some z) = -9 := nI_m9 (by omega)
            by_cases c : nI s = 0
            · rw [if_pos c, if_neg hz9]
              exact ⟨_, _, _, rfl, by rw [Option.bind_some, if_pos c]⟩
            · rw [if_neg c]
              exact ⟨_, _, _, rfl, by rw [Option.bind_some, if_neg c]; rfl⟩
      · rw [decide_eq_false hin, if_pos (c := bI false = 0) rfl, if_neg (c := bI (!false) = 0) (by decide), m_36 (by decide), Option.bind_some, ite_self]
        exact ⟨_, _, _, rfl, rfl⟩
    · rw [b3, Option.bind_some, if_pos (c := (0 : Int32) = 0) rfl]
      rcases hh with hh | ⟨h1, h2⟩
      · rw [if_pos hh]; exact ⟨_, _, _, rfl, rfl⟩
      · have hb1 : ¬ b ≤ 1 := fun z => h2 (by
          rw [fa_le] at z; rw [fa_lt]
          have z1 : (1 : Int32).toInt = 1 := by decide
          have z2 : (2 : Int32).toInt = 2 := by decide
          omega)
        rw [if_neg h1, if_neg hb1]; exact ⟨_, _, _, rfl, rfl⟩
  · rw [w1, w2, Option.bind_some, Option.bind_some, if_pos (c := (0 : Int32) = 0) rfl, if_neg h10]
    exact ⟨_, _, _, rfl, rfl⟩
theorem op_toFeed {S : XS} {T : MS} (a b : Int32) (h : Rel S T) : Op (gX_toFeed S a b) (gM_toFeed T a b) := by
  obtain ⟨n, K, E, F, L, D, day, ⟨ok, e, ep, hk, hq⟩, -⟩ := id h
  obtain ⟨r, w, w', hx, hm⟩ := v_toFeed (th := ms_thrown T) (rs := ms_rowSize T) (fm := ms_feedMany T) (fr := ms_feedRow T) (t := ms_trial T) (row := ms_row T) (t1 := (xs_trial S).1) (t2 := (xs_trial S).2.1) (t3 := (xs_trial S).2.2.1) (t4 := (xs_trial S).2.2.2.1) (t5 := (xs_trial S).2.2.2.2.1) (t6 := (xs_trial S).2.2.2.2.2.1) (t7 := (xs_trial S).2.2.2.2.2.2) ok hk hq a b
  rw [← ep] at hm
  have hx : fX3_toFeed (xs_now S).1 (xs_now S).2.1 (xs_now S).2.2.1 (xs_now S).2.2.2.1 (xs_now S).2.2.2.2.1 (xs_now S).2.2.2.2.2.1 (xs_now S).2.2.2.2.2.2 (xs_trial S).1 (xs_trial S).2.1 (xs_trial S).2.2.1 (xs_trial S).2.2.2.1 (xs_trial S).2.2.2.2.1 (xs_trial S).2.2.2.2.2.1 (xs_trial S).2.2.2.2.2.2 a b = some (r, w) := by rw [e]; exact hx
  unfold gX_toFeed gM_toFeed
  rw [hx, hm]
  exact ⟨_, _, _, rfl, rfl, h⟩
