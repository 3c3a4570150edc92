/-! PURE: rests, the call -/
section Rests2
variable {kq page : Nat → Int32} {n K E F L D p o : Nat} {day : Int32}
theorem rests_in (hn : n ≤ 7) (hL : L < 128) (hp : p < n) (ho : o < n) {one other g : Nat → Int32} (hi : IX n K E F L p o (n + 1) 0 one other) (hm : IM n K E F L p o (n + 1) 0 g) {a : Nat} (ha : a ≤ n) {tp tk td tl tdd tdy rs : Int32} {tf : Int64} {t row : Nat → Int32}
    (k88 : Int32 → Int32 → Int32 → Int32 → Int32 → Int32 → Int64 → Int32 → Int32 → Int32 → (Nat → Int32) → (Nat → Int32) → Option (Int32 × Int32 × Int32 × Int32 × Int64 × Int32 × Int32 × Int32 × (Nat → Int32) × (Nat → Int32)))
    (k19 : Int32 → Int32 → Int32 → Int32 → (Nat → Int32) → (Nat → Int32) → (Nat → Int32) → Option (Int32 × Int32 × Int32 × (Nat → Int32) × (Nat → Int32) × (Nat → Int32))) :
    ∀ (k f f2 b : Nat) (c1 c2 : Int32), b + k = n + 1 → k < f → k < f2 → ∃ c1' c2', fX3_rests_103 (nI n) k88 f c1 c2 (nI a) (nI b) tp tk td tf tl tdd tdy one other = k88 c1' c2' (nI (a + 1)) tp tk td tf tl tdd tdy one other ∧ fX4_findRests_30 (nI n) (nI p) (nI o) k19 f2 (nI a) (nI b) rs c1 c2 t row g = k19 (nI (a + 1)) rs c1' c2' t row g := by
  intro k
  induction k with
  | zero =>
    intro f f2 b c1 c2 hb hf hf2
    obtain ⟨f, rfl⟩ : ∃ f', f = f' + 1 := ⟨f - 1, by omega⟩
    obtain ⟨f2, rfl⟩ : ∃ f', f2 = f' + 1 := ⟨f2 - 1, by omega⟩
    have hlt : nI n < nI b := by rw [k_nIt (by omega) (by omega)]; omega
    rw [fX3_rests_103, fX4_findRests_30, if_pos hlt, if_pos hlt, nI_1]
    exact ⟨c1, c2, rfl, rfl⟩
  | succ k ih =>
    intro f f2 b c1 c2 hb hf hf2
    obtain ⟨f, rfl⟩ : ∃ f', f = f' + 1 := ⟨f - 1, by omega⟩
    obtain ⟨f2, rfl⟩ : ∃ f', f2 = f' + 1 := ⟨f2 - 1, by omega⟩
    have hlt : ¬ nI n < nI b := by rw [k_nIt (by omega) (by omega)]; omega
    obtain ⟨v, v1, v2⟩ := rest_both hn hL hp ho hi hm ha (b := b) (by omega)
    rw [fX3_rests_103, fX4_findRests_30, if_neg hlt, if_neg hlt, v1, v2, Option.bind_some, Option.bind_some]
    unfold fX4_findRests_73
    rw [nI_1]
    cases v with
    | false =>
      rw [if_pos (c := bI false = 0) rfl, if_pos (c := bI false = 0) rfl]
      exact ih f f2 (b + 1) c1 c2 (by omega) (by omega) (by omega)
    | true =>
      rw [if_neg (c := bI true = 0) (by decide), if_neg (c := bI true = 0) (by decide)]
      by_cases c : c1 = 0
      · rw [if_pos c, if_pos c]
        exact ih f f2 (b + 1) _ _ (by omega) (by omega) (by omega)
      · rw [if_neg c, if_neg c]
        exact ih f f2 (b + 1) _ _ (by omega) (by omega) (by omega)
theorem rests_out (hn : n ≤ 7) (hL : L < 128) (hp : p < n) (ho : o < n) {one other g : Nat → Int32} (hi : IX n K E F L p o (n + 1) 0 one other) (hm : IM n K E F L p o (n + 1) 0 g) {tp tk td tl tdd tdy rs a3 : Int32} {tf : Int64} {t row : Nat → Int32} :
    ∀ (k f f2 a : Nat) (c1 c2 : Int32), a + k = n + 1 → k < f → k < f2 → ∃ c1' c2', fX3_rests_88 (nI n) a3 f c1 c2 (nI a) tp tk td tf tl tdd tdy one other = (if a3 = 0 then some (c1', tp, tk, td, tf, tl, tdd, tdy, one, other) else some (c2', tp, tk, td, tf, tl, tdd, tdy, one, other)) ∧ fX4_findRests_19 (nI n) (nI p) (nI o) f2 (nI a) rs c1 c2 t row g = some (rs, c1', c2', t, row, g) := by
  intro k
  induction k with
  | zero =>
    intro f f2 a c1 c2 ha hf hf2
    obtain ⟨f, rfl⟩ : ∃ f', f = f' + 1 := ⟨f - 1, by omega⟩
    obtain ⟨f2, rfl⟩ : ∃ f', f2 = f' + 1 := ⟨f2 - 1, by omega⟩
    have hlt : nI n < nI a := by rw [k_nIt (by omega) (by omega)]; omega
    rw [fX3_rests_88, fX4_findRests_19, if_pos hlt, if_pos hlt]
    exact ⟨c1, c2, rfl, rfl⟩
  | succ k ih =>
    intro f f2 a c1 c2 ha hf hf2
    obtain ⟨f, rfl⟩ : ∃ f', f = f' + 1 := ⟨f - 1, by omega⟩
    obtain ⟨f2, rfl⟩ : ∃ f', f2 = f' + 1 := ⟨f2 - 1, by omega⟩
    have hlt : ¬ nI n < nI a := by rw [k_nIt (by omega) (by omega)]; omega
    rw [fX3_rests_88, fX4_findRests_19, if_neg hlt, if_neg hlt]
    obtain ⟨c1', c2', h1, h2⟩ := rests_in (tp := tp) (tk := tk) (td := td) (tl := tl) (tdd := tdd) (tdy := tdy) (rs := rs) (tf := tf) (t := t) (row := row) hn hL hp ho hi hm (a := a) (by omega)
      (fun x4 x5 x6 s_trial_people s_trial_kinds s_trial_deeds s_trial_feeding s_trial_large s_trial_dead s_trial_dayNumber q_oneHas q_otherHas => fX3_rests_88 (nI n) a3 f x4 x5 x6 s_trial_people s_trial_kinds s_trial_deeds s_trial_feeding s_trial_large s_trial_dead s_trial_dayNumber q_oneHas q_otherHas)
      (fun x3 s_rowSize s_restMany s_restFirst q_trial q_row q_gains => fX4_findRests_19 (nI n) (nI p) (nI o) f2 x3 s_rowSize s_restMany s_restFirst q_trial q_row q_gains) (n + 1) 10 10 0 c1 c2 (by omega) (by omega) (by omega)
    have h1 : fX3_rests_103 (nI n) (fun x4 x5 x6 s_trial_people s_trial_kinds s_trial_deeds s_trial_feeding s_trial_large s_trial_dead s_trial_dayNumber q_oneHas q_otherHas => fX3_rests_88 (nI n) a3 f x4 x5 x6 s_trial_people s_trial_kinds s_trial_deeds s_trial_feeding s_trial_large s_trial_dead s_trial_dayNumber q_oneHas q_otherHas) 10 c1 c2 (nI a) 0 tp tk td tf tl tdd tdy one other = _ := h1
    have h2 : fX4_findRests_30 (nI n) (nI p) (nI o) (fun x3 s_rowSize s_restMany s_restFirst q_trial q_row q_gains => fX4_findRests_19 (nI n) (nI p) (nI o) f2 x3 s_rowSize s_restMany s_restFirst q_trial q_row q_gains) 10 (nI a) 0 rs c1 c2 t row g = _ := h2
    rw [h1, h2]
    exact ih f f2 (a + 1) c1' c2' (by omega) (by omega) (by omega)
theorem v_rests {t row g one other : Nat → Int32} {th rs rm rf t1 t2 t3 t5 t6 t7 : Int32} {t4 : Int64} (ok : COk n K E F L D) (hk : KindR kq n K) (hq : PageR page E F L D day) (a b c : Int32) :
    ∃ r w w', fX3_rests (nI n) (nI K) (nI E) (lN F) (nI L) (nI D) day t1 t2 t3 t4 t5 t6 t7 one other a b c = some (r, w) ∧ fX4_rests th (nI n) rs rm rf kq page t row g a b c = some (r, w') := by
  obtain ⟨hn, hK, hE, hF, hL, hD, hLD⟩ := ok
  have hL' := lt128 hn hL
  have hpop := pop_n n (by omega) L hL' hL
  have h10 : ¬ (1 : Int32) = 0 := by decide
  unfold fX3_rests fX4_rests
  rcases who n hn a with ⟨p, hpn, rfl, w1, w2⟩ | ⟨w1, w2⟩
  · rw [w1, w2, Option.bind_some, Option.bind_some, if_neg h10, if_pos (c := (0 : Int32) = 0) rfl]
    rcases who n hn b with ⟨o, hon, rfl, u1, u2⟩ | ⟨u1, u2⟩
    · rw [u1, u2, Option.bind_some, Option.bind_some, if_neg h10, if_pos (c := (0 : Int32) = 0) rfl]
      by_cases c0 : nI p = nI o
      · rw [if_pos c0, if_pos c0]; exact ⟨_, _, _, rfl, rfl⟩
      · rw [if_neg c0, if_neg c0]
        rcases slot01 c with ⟨s, hs, rfl, b1, b2, b3⟩ | ⟨b3, hh⟩
        · have hb1 : nI s ≤ 1 := (k_nIl (a := s) (b := 1) (by omega) (by decide)).mpr (by omega)
          rw [b3, Option.bind_some, if_neg h10, if_neg b1, if_pos hb1, k14, k14, c14, hq.2.2.1, k_isIn _ hL' p (by omega), k_isIn _ hL' o (by omega), k_has _ hL' p (by omega), k_has _ hL' o (by omega), Option.bind_some, Option.bind_some, Option.bind_some, Option.bind_some]
          cases hbp : L.testBit p with
          | false =>
            rw [if_pos (c := bI false = 0) rfl, if_pos (c := bI false = 0) rfl]; exact ⟨_, _, _, rfl, rfl⟩
          | true =>
            rw [if_neg (c := bI true = 0) (by decide), if_neg (c := bI true = 0) (by decide)]
            cases hbo : L.testBit o with
            | false =>
              rw [if_pos (c := bI false = 0) rfl, if_pos (c := bI false = 0) rfl]; exact ⟨_, _, _, rfl, rfl⟩
            | true =>
              rw [if_neg (c := bI true = 0) (by decide), if_neg (c := bI true = 0) (by decide)]
              obtain ⟨ft', one', other', x1, x2⟩ := x_w13 (dd := nI D) (dy := day) hn hK hE hF hL' hpop hpn hon (n + 1) 10 0 (lN F) one other (by omega) (by omega) (fun a' b' _ _ hlt => by omega)
              have x1 : fX3_weighChoices_13 (nI n) (lN F) (nI p) (nI o) 10 0 (nI n) (nI K) (nI E) (lN F) (nI L) (nI D) day one other = _ := x1
              obtain ⟨rs', t', row', g', m1, m2⟩ := m_lg2 (K := K) hn hk hF hL' hq hpn hon (n + 1) 10 0 rs t row g (by omega) (by omega) (fun a' b' _ _ hlt => by omega)
              have m1 : fX4_layGains_2 (nI n) kq page (nI p) (nI o) 10 0 rs t row g = _ := m1
              obtain ⟨r1, r2, y1, y2⟩ := rests_out (tp := nI n) (tk := nI K) (td := nI E) (tl := nI L) (tdd := nI D) (tdy := day) (rs := rs') (a3 := nI s) (tf := ft') (t := t') (row := row') hn hL' hpn hon x2 m2 (n + 1) 10 10 0 0 (-9) (by omega) (by omega) (by omega)
              have y1 : fX3_rests_88 (nI n) (nI s) 10 0 (-9) 0 (nI n) (nI K) (nI E) ft' (nI L) (nI D) day one' other' = _ := y1
              have y2 : fX4_findRests_19 (nI n) (nI p) (nI o) 10 0 rs' 0 (-9) t' row' g' = _ := y2
              unfold fX3_weighChoices fX1_copy fX4_findRests fX4_layGains
              rw [Option.bind_some, x1, m1, Option.bind_some, Option.bind_some, y1, y2, Option.bind_some]
              by_cases c : nI s = 0
              · rw [if_pos c, if_pos c]; exact ⟨_, _, _, rfl, rfl⟩
              · rw [if_neg c, if_neg c]; exact ⟨_, _, _, rfl, rfl⟩
        · rw [b3, Option.bind_some, if_pos (c := (0 : Int32) = 0) rfl]
          rcases hh with hh | ⟨h1, h2⟩
          · rw [if_pos hh]; exact ⟨_, _, _, rfl, rfl⟩
          · have hb1 : ¬ c ≤ 1 := fun z => h2 (by
              rw [fa_le] at z; rw [fa_lt]
              have z1 : (1 : Int32).toInt = 1 := by decide
              have z2 : (2 : Int32).toInt = 2 := by decide
              omega)
            rw [if_neg h1, if_neg hb1]; exact ⟨_, _, _, rfl, rfl⟩
    · rw [u1, u2, Option.bind_some, Option.bind_some, if_pos (c := (0 : Int32) = 0) rfl, if_neg h10]
      exact ⟨_, _, _, rfl, rfl⟩
  · rw [w1, w2, Option.bind_some, Option.bind_some, if_pos (c := (0 : Int32) = 0) rfl, if_neg h10]
    exact ⟨_, _, _, rfl, rfl⟩
end Rests2
theorem op_rests {S : XS} {T : MS} (a b c : Int32) (h : Rel S T) : Op (gX_rests S a b c) (gM_rests T a b c) := by
  obtain ⟨n, K, E, F, L, D, day, ⟨ok, e, ep, hk, hq⟩, -⟩ := id h
  obtain ⟨r, w, w', hx, hm⟩ := v_rests (th := ms_thrown T) (rs := ms_rowSize T) (rm := ms_restMany T) (rf := ms_restFirst T) (t := ms_trial T) (row := ms_row T) (g := ms_gains T) (one := xs_oneHas S) (other := xs_otherHas S) (t1 := (xs_trial S).1) (t2 := (xs_trial S).2.1) (t3 := (xs_trial S).2.2.1) (t4 := (xs_trial S).2.2.2.1) (t5 := (xs_trial S).2.2.2.2.1) (t6 := (xs_trial S).2.2.2.2.2.1) (t7 := (xs_trial S).2.2.2.2.2.2) ok hk hq a b c
  rw [← ep] at hm
  have hx : fX3_rests (xs_now S).1 (xs_now S).2.1 (xs_now S).2.2.1 (xs_now S).2.2.2.1 (xs_now S).2.2.2.2.1 (xs_now S).2.2.2.2.2.1 (xs_now S).2.2.2.2.2.2 (xs_trial S).1 (xs_trial S).2.1 (xs_trial S).2.2.1 (xs_trial S).2.2.2.1 (xs_trial S).2.2.2.2.1 (xs_trial S).2.2.2.2.2.1 (xs_trial S).2.2.2.2.2.2 (xs_oneHas S) (xs_otherHas S) a b c = some (r, w) := by rw [e]; exact hx
  unfold gX_rests gM_rests
  rw [hx, hm]
  exact ⟨_, _, _, rfl, rfl, h⟩
