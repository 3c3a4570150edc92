/-! PURE: class and reference hold the same -/
def COk (n K E F L D : Nat) : Prop := n ≤ 7 ∧ K < 2 ^ 28 ∧ E < 2 ^ 28 ∧ FOk n F ∧ L < 2 ^ n ∧ D < 2 ^ n ∧ L &&& D = 0
abbrev enc (n K E F L D : Nat) (day : Int32) : St := (nI n, nI K, nI E, lN F, nI L, nI D, day)
def R1 (n K E F L D : Nat) (day : Int32) (now : St) (people : Int32) (kind page : Nat → Int32) : Prop :=
  COk n K E F L D ∧ now = enc n K E F L D day ∧ people = nI n ∧ KindR kind n K ∧ PageR page E F L D day
abbrev Hs : Type := Nat × Nat × Nat × Nat × Int32
/-- a standing that was kept: in the class's form and in the reference's -/
def SR (n K : Nat) (h : Hs) (s : St) (q : Nat → Int32) : Prop := COk n K h.1 h.2.1 h.2.2.1 h.2.2.2.1 ∧ s = enc n K h.1 h.2.1 h.2.2.1 h.2.2.2.1 h.2.2.2.2 ∧ PageR q h.1 h.2.1 h.2.2.1 h.2.2.2.1 h.2.2.2.2
def R2 (n K : Nat) (first count : Int32) (ring : Nat → St) (acts : Int32) (book : Nat → Int32) : Prop :=
  ∃ (f c : Nat) (h : Nat → Hs), f < 14 ∧ c ≤ 14 ∧ first = nI f ∧ count = nI c ∧ acts = nI c ∧ ∀ k, k < c → SR n K (h k) (ring ((f + k) % 14)) (fun j => book (17 * k + j))
def R3 (n K : Nat) (keptSlots : Int32) (slots : Nat → St) (isKept kept : Nat → Int32) : Prop :=
  ∃ kb : Nat, kb < 4 ∧ keptSlots = nI kb ∧ ∀ s, s < 2 → isKept s = bI (kb.testBit s) ∧ (kb.testBit s = true → ∃ h : Hs, SR n K h (slots s) (fun j => kept (17 * s + j)))
def R4 (seenCount : Int32) (seen : Nat → Int32) (mseen : Int32) (one two : Nat → Int32) : Prop :=
  ∃ (m : Nat) (a b : Nat → Nat), m ≤ 6 ∧ seenCount = nI m ∧ mseen = nI m ∧ ∀ k, k < m → a k < 7 ∧ b k < 7 ∧ seen k = nI (10 * a k + b k) ∧ one k = nI (a k) ∧ two k = nI (b k)
def R5 (length : Int32) (bytes : Nat → Int32) (textSize : Int32) (text : Nat → Int32) : Prop :=
  ∃ t : Nat, t ≤ 48 ∧ length = nI t ∧ textSize = nI t ∧ ∀ k, k < t → bytes k = text k ∧ ∃ b, b < 256 ∧ text k = nI b
def Rel (S : XS) (T : MS) : Prop := ∃ (n K E F L D : Nat) (day : Int32), R1 n K E F L D day (xs_now S) (ms_people T) (ms_kind T) (ms_page T) ∧ R2 n K (xs_first S) (xs_count S) (xs_ring S) (ms_acts T) (ms_book T) ∧ R3 n K (xs_keptSlots S) (xs_slots S) (ms_isKept T) (ms_kept T) ∧ R4 (xs_seenCount S) (xs_seen S) (ms_seen T) (ms_seenOne T) (ms_seenTwo T) ∧ R5 (xs_length S) (xs_bytes S) (ms_textSize T) (ms_text T) ∧ xs_seed S = ms_seed T
def Op {α : Type} (x : Option (α × XS)) (m : Option (α × MS)) : Prop := ∃ r S' T', x = some (r, S') ∧ m = some (r, T') ∧ Rel S' T'
theorem op_seed {S : XS} {T : MS} (v : Int64) (h : Rel S T) : Op (gX_seed S v) (gM_seed T v) := by
  obtain ⟨n, K, E, F, L, D, day, h1, h2, h3, h4, h5, h6⟩ := h
  have : gM_seed T v = some (ms_seed T, _) := rfl
  rw [← h6] at this
  exact ⟨_, _, _, rfl, this, n, K, E, F, L, D, day, h1, h2, h3, h4, h5, rfl⟩
theorem op_wipe {S : XS} {T : MS} (h : Rel S T) : Op (gX_wipe S) (gM_wipe T) := by
  obtain ⟨n, K, E, F, L, D, day, h1, h2, h3, h4, ⟨t, ht, e1, e2, e3⟩, h6⟩ := h
  have hx : gX_wipe S = some (xs_length S, _) := rfl
  have hm : gM_wipe T = some (ms_textSize T, _) := rfl
  rw [e1] at hx; rw [e2] at hm
  exact ⟨_, _, _, hx, hm, n, K, E, F, L, D, day, h1, h2, h3, h4, ⟨0, by omega, rfl, rfl, fun k hk => by omega⟩, h6⟩
theorem op_unsee {S : XS} {T : MS} (h : Rel S T) : Op (gX_unsee S) (gM_unsee T) := by
  obtain ⟨n, K, E, F, L, D, day, h1, h2, h3, ⟨m, a, b, hm6, e1, e2, e3⟩, h5, h6⟩ := h
  have hx : gX_unsee S = some (xs_seenCount S, _) := rfl
  have hm : gM_unsee T = some (ms_seen T, _) := rfl
  rw [e1] at hx; rw [e2] at hm
  exact ⟨_, _, _, hx, hm, n, K, E, F, L, D, day, h1, h2, h3, ⟨0, a, b, by omega, rfl, rfl, fun k hk => by omega⟩, h5, h6⟩
theorem op_write {S : XS} {T : MS} (a : Int32) (h : Rel S T) : Op (gX_write S a) (gM_write T a) := by
  obtain ⟨n, K, E, F, L, D, day, h1, h2, h3, h4, ⟨t, ht, e1, e2, e3⟩, h6⟩ := id h
  have e255 : (255 : Int64) = Int32.toInt64 255 := by decide
  unfold gX_write gM_write fX3_write fX4_write
  rw [e1, e2, e255, in0, Option.bind_some]
  by_cases c1 : a < 0
  · rw [if_pos c1, if_neg (c := 0 ≤ a ∧ a ≤ 255) (fun z => by have := z.1; rw [fa_le] at this; rw [fa_lt] at c1; omega), if_pos rfl]
    refine ⟨_, _, _, rfl, rfl, n, K, E, F, L, D, day, h1, h2, h3, h4, ⟨t, ht, rfl, rfl, e3⟩, h6⟩
  · rw [if_neg c1]
    by_cases c2 : a ≤ 255
    · have h0 : (0 : Int32) ≤ a := by rw [fa_lt] at c1; rw [fa_le]; omega
      rw [if_pos c2, if_pos (c := 0 ≤ a ∧ a ≤ 255) ⟨h0, c2⟩, if_neg (by decide)]
      obtain ⟨b, hb, rfl⟩ := nI_of2 (n := 255) (by decide) c1 c2
      unfold fX2_append
      simp only [show (nI t < 48) = (t < 48) from k_nIt (b := 48) (by omega) (by decide), show (nI t = 48) = (t = 48) from k_nIe (b := 48) (by omega) (by decide)]
      by_cases c3 : t < 48
      · rw [if_pos c3, if_neg (by omega), ck_nI c3 (by decide), ck_nI c3 (by decide), Option.bind_some, if_neg (show ¬ (1 : Int32) = 0 by decide), clamp (by omega), nI_1]
        refine ⟨_, _, _, rfl, rfl, n, K, E, F, L, D, day, h1, h2, h3, h4, ⟨t + 1, by omega, rfl, rfl, fun k hk => ?_⟩, h6⟩
        by_cases hkt : k = t
        · subst hkt
          exact ⟨by show upd _ k _ k = upd _ k _ k; rw [pk_us, pk_us], b, by omega, pk_us⟩
        · have := e3 k (by omega)
          refine ⟨?_, ?_⟩
          · show upd _ t _ k = upd _ t _ k
            rw [pk_un hkt, pk_un hkt]; exact this.1
          · obtain ⟨b', hb', hh⟩ := this.2
            exact ⟨b', hb', (pk_un hkt).trans hh⟩
      · have h48 : t = 48 := by omega
        rw [if_neg c3, if_pos h48, Option.bind_some, if_pos rfl]
        exact ⟨_, _, _, rfl, rfl, n, K, E, F, L, D, day, h1, h2, h3, h4, ⟨t, ht, rfl, rfl, e3⟩, h6⟩
    · rw [if_neg c2, if_neg (c := 0 ≤ a ∧ a ≤ 255) (fun z => c2 z.2), if_pos rfl]
      exact ⟨_, _, _, rfl, rfl, n, K, E, F, L, D, day, h1, h2, h3, h4, ⟨t, ht, rfl, rfl, e3⟩, h6⟩
theorem m_fall17 {row : Nat → Int32} {l : List Nat} {th : Int32} {t : Nat → Int32} (hl : l.length ≤ 7) (hr : ∀ i, i < l.length → row i = nI (l.getD i 0)) :
    ∀ (k f i : Nat) (v : Int32), i + k = l.length → k < f → fX4_fall_17 f v (nI i) th (nI l.length) t row = some (rowV v (l.drop i), th, nI l.length, t, row) := by
  intro k
  induction k with
  | zero =>
    intro f i v hik hf
    obtain ⟨f, rfl⟩ : ∃ f', f = f' + 1 := ⟨f - 1, by omega⟩
    rw [fX4_fall_17, if_pos (by rw [k_nIl (by omega) (by omega)]; omega), List.drop_eq_nil_of_le (by omega)]
    rfl
  | succ k ih =>
    intro f i v hik hf
    obtain ⟨f, rfl⟩ : ∃ f', f = f' + 1 := ⟨f - 1, by omega⟩
    have hil : i < l.length := by omega
    have hget : l.getD i 0 = l[i] := by simp [hil]
    rw [fX4_fall_17, if_neg (by rw [k_nIl (by omega) (by omega)]; omega), ck_nI (by omega) (by decide), clamp (by omega), hr i hil, hget, nI_1, ih f (i + 1) _ (by omega) (by omega), List.drop_eq_getElem_cons hil]
    rfl
theorem v_fall {kq q t row : Nat → Int32} {n K E F L D : Nat} {day th rs : Int32} (ok : COk n K E F L D) (hk : KindR kq n K) (hq : PageR q E F L D day) :
    ∃ w, fX4_fall th (nI n) rs kq q t row = some (rowV 0 (fallL (may n K E F) 7 L), w) := by
  obtain ⟨hn, hK, hE, hF, hL, hD, hLD⟩ := ok
  have hL' := lt128 hn hL
  obtain ⟨t', b1, b2⟩ := m_begin q t
  obtain ⟨o, l1, l2, l3, l4⟩ := m_lay (rs := rs) (row := row) hn hk hF hL' (PageR_congr hq b2)
  have hlen := fallL_len (may_ok hn K E F) 7 L hL'
  have hpl := pop_le L
  have hm := m_fall17 (th := 0) (t := o.2.1) (by omega) l4 (fallL (may n K E F) 7 L).length 9 0 0 (by omega) (by omega)
  rw [List.drop_zero] at hm
  unfold fX4_fall
  rw [b1, Option.bind_some, l1, Option.bind_some, l2]
  exact ⟨_, hm⟩
theorem op_fall {S : XS} {T : MS} (h : Rel S T) : Op (gX_fall S) (gM_fall T) := by
  obtain ⟨n, K, E, F, L, D, day, ⟨ok, e, ep, hk, hq⟩, -⟩ := id h
  obtain ⟨w, hm⟩ := v_fall (th := ms_thrown T) (rs := ms_rowSize T) (t := ms_trial T) (row := ms_row T) ok hk hq
  rw [← ep] at hm
  obtain ⟨hn, hK, hE, hF, hL, hD, hLD⟩ := ok
  have hL' := lt128 hn hL
  have hx : gX_fall S = some (rowV 0 (fallL (may n K E F) 7 L), S) := by
    unfold gX_fall fX3_fall
    simp only [e]
    rw [x_row hn hK hE hF.1 hL' (pop_n n (by omega) L hL' hL)]; rfl
  unfold gM_fall
  rw [hm]
  exact ⟨_, _, _, hx, rfl, h⟩
theorem op_last {S : XS} {T : MS} (h : Rel S T) : Op (gX_last S) (gM_last T) := by
  obtain ⟨n, K, E, F, L, D, day, ⟨⟨hn, hK, hE, hF, hL, hD, hLD⟩, e, ep, hk, hq⟩, -⟩ := id h
  have hL' := lt128 hn hL
  obtain ⟨t', b1, b2⟩ := m_begin (ms_page T) (ms_trial T)
  obtain ⟨o, l1, l2, l3, l4⟩ := m_lay (rs := ms_rowSize T) (row := ms_row T) hn hk hF hL' (PageR_congr hq b2)
  have hx : gX_last S = some (nI (leftL (may n K E F) 7 L), S) := by
    unfold gX_last fX3_last
    simp only [e]
    rw [x_left hn hK hE hF.1 hL' (pop_n n (by omega) L hL' hL)]; rfl
  have hm : ∃ w, fX4_last (ms_thrown T) (ms_people T) (ms_rowSize T) (ms_kind T) (ms_page T) (ms_trial T) (ms_row T) = some (nI (leftL (may n K E F) 7 L), w) := by
    unfold fX4_last
    rw [ep, b1, Option.bind_some, l1, Option.bind_some, k14, c14, l3.2.2.1]
    exact ⟨_, rfl⟩
  obtain ⟨w, hm⟩ := hm
  unfold gM_last
  rw [hm]
  exact ⟨_, _, _, hx, rfl, h⟩
theorem op_place {S : XS} {T : MS} (a : Int32) (h : Rel S T) : Op (gX_place S a) (gM_place T a) := by
  obtain ⟨n, K, E, F, L, D, day, ⟨⟨hn, hK, hE, hF, hL, hD, hLD⟩, e, ep, hk, hq⟩, -⟩ := id h
  have hL' := lt128 hn hL
  have hm : ∃ r w, gX_place S a = some (r, S) ∧ fX4_place (ms_thrown T) (ms_people T) (ms_rowSize T) (ms_kind T) (ms_page T) (ms_trial T) (ms_row T) a = some (r, w) := by
    unfold gX_place fX3_place fX4_place
    rw [ep]
    simp only [e]
    rcases who n hn a with ⟨p, hpn, rfl, w1, w2⟩ | ⟨w1, w2⟩
    · obtain ⟨t', b1, b2⟩ := m_begin (ms_page T) (ms_trial T)
      obtain ⟨o, l1, l2⟩ := m_lay (rs := ms_rowSize T) (row := ms_row T) hn hk hF hL' (PageR_congr hq b2)
      rw [w1, w2, Option.bind_some, Option.bind_some, if_neg (by decide), if_pos rfl, x_place hn hK hE hF.1 hL' (pop_n n (by omega) L hL' hL) (by omega), b1]
      simp only [Option.bind_some]
      rw [l1]
      simp only [Option.bind_some]
      rw [m_place hn hL' l2 (by omega)]
      exact ⟨_, _, rfl, rfl⟩
    · rw [w1, w2, Option.bind_some, Option.bind_some, if_pos rfl, if_neg (by decide)]
      exact ⟨_, _, rfl, rfl⟩
  obtain ⟨r, w, hx, hm⟩ := hm
  unfold gM_place
  rw [hm]
  exact ⟨_, _, _, hx, rfl, h⟩
