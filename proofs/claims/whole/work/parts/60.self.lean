/-! PURE: rests: a page in which one feeds itself counts as if it did not -/
def SF (n G F : Nat) : Prop := FOk n F ∧ ∀ i j, i < 7 → j < 7 → ¬ i = j → G.testBit (7 * j + i) = F.testBit (7 * j + i)
theorem anyB_congr {f g : Nat → Bool} : ∀ {k : Nat}, (∀ q, q < k → f q = g q) → anyB f k = anyB g k
  | 0, _ => rfl
  | k + 1, h => by rw [anyB, anyB, anyB_congr (fun q hq => h q (Nat.lt_succ_of_lt hq)), h k (Nat.lt_succ_self k)]
theorem mg_hidden {kq q : Nat → Int32} {n K E G F L D p : Nat} {day : Int32} (hn : n ≤ 7) (hk : KindR kq n K) (hq : PageR q E G L D day) (hF : SF n G F) (hL : L < 128) (hp : p < n) : fX4_isHidden (nI n) kq q (nI p) = some (bI (hid K F L p)) := by
  have h := m_hidden_5 hn hk hq hL hp 9 0 (by omega) (by omega)
  have e : anyB (fun q => !(q == p) && L.testBit q && G.testBit (7 * p + q)) n = anyB (fun q => !(q == p) && L.testBit q && F.testBit (7 * p + q)) n := by
    apply anyB_congr
    intro q hqn
    by_cases c : q = p
    · subst c; simp
    · rw [hF.2 q p (by omega) (by omega) c]
  rw [e, any_hid hF.1 hL (by omega)] at h
  exact h
theorem mg_may_55 {kq q : Nat → Int32} {n K E G F L D g : Nat} {day : Int32} (hn : n ≤ 7) (hk : KindR kq n K) (hq : PageR q E G L D day) (hF : SF n G F) (hL : L < 128) (hg : g < 18) :
    ∀ (f k : Nat), k ≤ n → n < f + k → fX4_mayOf_55 (nI n) kq q f (nI g) (nI (ofB (mayP K E F L g) k)) (nI k) = some (nI (ofB (mayP K E F L g) n)) := by
  have h14 : Int32.toNatClampNeg 14 = 14 := by decide
  have hck : ∀ (x : Option Int32), ck 14 17 x = x := fun x => ck_nI (i := 14) (by decide) (by decide)
  have hor : ∀ a, nI a ||| 0 = nI a := fun a => by rw [show (0 : Int32) = nI 0 from rfl, orI, Nat.or_zero]
  intro f
  induction f with
  | zero => intro k h1 h2; omega
  | succ f ih =>
    intro k hkn hf
    rw [fX4_mayOf_55]
    have hgr := gr_lt K E k
    rcases Nat.lt_or_ge k n with hlt | hge
    · rw [if_neg (by rw [k_nIl (by omega) (by omega)]; omega)]
      have ih1 := ih (k + 1) (by omega) (by omega)
      have hnext : nI k + 1 = nI (k + 1) := nI_1 k
      rw [hnext, hck, h14, hq.2.2.1, k_has L hL k (by omega), Option.bind_some, m_grade hn hk hq.1 hlt, Option.bind_some, mg_hidden hn hk hq hF hL hlt, Option.bind_some, k_shl1 k (by omega), orI, hor]
      simp only [bI0, k_nIe (show gr K E k < 2 ^ 31 by omega) (show g < 2 ^ 31 by omega)]
      rw [ofB] at ih1
      cases hb : L.testBit k with
      | false =>
        rw [if_pos rfl]
        have hp : mayP K E F L g k = false := by unfold mayP; rw [hb]; rfl
        rw [hp] at ih1; simpa using ih1
      | true =>
        rw [if_neg (by simp)]
        by_cases heq : gr K E k = g
        · rw [if_pos heq]
          cases hh : hid K F L k with
          | true =>
            rw [if_neg (by simp)]
            have hp : mayP K E F L g k = false := by unfold mayP; rw [hh]; simp
            rw [hp] at ih1; simpa using ih1
          | false =>
            rw [if_pos rfl]
            have hp : mayP K E F L g k = true := by unfold mayP; rw [hh, hb, heq]; simp
            rw [hp] at ih1; simpa using ih1
        · rw [if_neg heq]
          have hp : mayP K E F L g k = false := by
            unfold mayP
            have : (gr K E k == g) = false := by simp [heq]
            rw [this]; simp
          rw [hp] at ih1; simpa using ih1
    · have : k = n := by omega
      subst this
      rw [if_pos (by rw [k_nIl (by omega) (by omega)]; omega)]
theorem mg_may_4 {kq q : Nat → Int32} {n K E G F L D : Nat} {day : Int32} (hn : n ≤ 7) (hk : KindR kq n K) (hq : PageR q E G L D day) (hF : SF n G F) (hL : L < 128) :
    ∀ (f k : Nat), k ≤ n → n < f + k → fX4_mayOf_4 (nI n) kq q f (nI (mxg K E L k)) (nI k) = some (nI (may n K E F L)) := by
  have h14 : Int32.toNatClampNeg 14 = 14 := by decide
  have hck : ∀ (x : Option Int32), ck 14 17 x = x := fun x => ck_nI (i := 14) (by decide) (by decide)
  intro f
  induction f with
  | zero => intro k h1 h2; omega
  | succ f ih =>
    intro k hkn hf
    rw [fX4_mayOf_4]
    have hgr := gr_lt K E k
    have hmx := mxg_lt K E L k
    rcases Nat.lt_or_ge k n with hlt | hge
    · rw [if_neg (by rw [k_nIl (by omega) (by omega)]; omega)]
      have ih1 := ih (k + 1) (by omega) (by omega)
      have hnext : nI k + 1 = nI (k + 1) := nI_1 k
      rw [hnext, hck, h14, hq.2.2.1, k_has L hL k (by omega), Option.bind_some, m_grade hn hk hq.1 hlt, Option.bind_some, Option.bind_some]
      simp only [bI0, k_nIl (show gr K E k < 2 ^ 31 by omega) (show mxg K E L k < 2 ^ 31 by omega)]
      rw [mxg] at ih1
      cases hb : L.testBit k with
      | false =>
        rw [if_pos rfl]
        rw [if_neg (by rw [hb]; simp)] at ih1; exact ih1
      | true =>
        rw [if_neg (by simp)]
        by_cases hle : gr K E k ≤ mxg K E L k
        · rw [if_pos hle]
          rw [if_neg (fun z => by omega)] at ih1; exact ih1
        · rw [if_neg hle]
          rw [if_pos ⟨hb, by omega⟩] at ih1; exact ih1
    · have : k = n := by omega
      subst this
      rw [if_pos (by rw [k_nIl (by omega) (by omega)]; omega)]
      exact mg_may_55 hn hk hq hF hL hmx 9 0 (by omega) (by omega)
theorem mg_may {kq q : Nat → Int32} {n K E G F L D : Nat} {day : Int32} (hn : n ≤ 7) (hk : KindR kq n K) (hq : PageR q E G L D day) (hF : SF n G F) (hL : L < 128) : fX4_mayOf (nI n) kq q = some (nI (may n K E F L)) :=
  mg_may_4 hn hk hq hF hL 9 0 (by omega) (by omega)

theorem mg_lay_14 {kq : Nat → Int32} {n K E G F : Nat} (hn : n ≤ 7) (hk : KindR kq n K) (hF : SF n G F) : ∀ (k f r L D : Nat) (day : Int32) (t row : Nat → Int32), L < 128 → pop L ≤ k → k < f → r + k ≤ 7 → PageR t E G L D day →
    ∃ t' row', fX4_layFall_14 (nI n) kq f (nI (may n K E F L)) (nI r) t row = some (nI (r + (fallL (may n K E F) k L).length), t', row') ∧ PageR t' E G (leftL (may n K E F) k L) D day ∧ (∀ i, i < (fallL (may n K E F) k L).length → row' (r + i) = nI ((fallL (may n K E F) k L).getD i 0)) ∧ ∀ j, j < r → row' j = row j := by
  intro k
  induction k with
  | zero =>
    intro f r L D day t row hL hp hf hr ht
    have hz : L = 0 := pop_zero L hL (by omega)
    subst hz
    obtain ⟨f, rfl⟩ : ∃ f', f = f' + 1 := ⟨f - 1, by omega⟩
    rw [fX4_layFall_14, mm_0 (may_ok hn K E F)]
    rw [if_pos (show nI 0 = 0 from rfl)]
    exact ⟨t, row, rfl, ht, fun i hi => by simp [fallL] at hi, fun j _ => rfl⟩
  | succ k ih =>
    intro f r L D day t row hL hp hf hr ht
    obtain ⟨f, rfl⟩ : ∃ f', f = f' + 1 := ⟨f - 1, by omega⟩
    have hmay := may_lt hn K E F L
    have h0e : (nI (may n K E F L) = 0) = (may n K E F L = 0) := k_nIe (b := 0) (by omega) (by decide)
    rw [fX4_layFall_14, fallL, leftL]
    simp only [h0e]
    by_cases h0 : may n K E F L = 0
    · rw [if_pos h0, if_pos h0, if_pos h0]
      exact ⟨t, row, rfl, ht, fun i hi => by simp at hi, fun j _ => rfl⟩
    · have hlow := low7 (may n K E F L)
      have hb := (mm_low (may_ok hn K E F) hL h0).2
      have hpp := clr_pop L hL _ hlow hb
      have hcl := clr_lt L hL _ hlow
      rw [if_neg h0, if_neg h0, if_neg h0, k_least _ hmay h0, Option.bind_some, ck_nI (by omega) (by decide), ck_nI (by omega) (by decide), k14, k14, clamp (by omega), c14, pk_us, ht.2.2.1, k_clr L hL _ hlow]
      have ht' := PageR_L (L' := clr L (low (may n K E F L))) ht
      rw [mg_may hn hk ht' hF hcl, Option.bind_some, nI_1]
      obtain ⟨t2, row2, e1, e2, e3, e4⟩ := ih f (r + 1) (clr L (low (may n K E F L))) D day (upd t 14 (nI (clr L (low (may n K E F L))))) (upd row r (nI (low (may n K E F L)))) hcl (by omega) (by omega) (by omega) ht'
      refine ⟨t2, row2, ?_, e2, ?_, fun j hj => (e4 j (by omega)).trans (pk_un (by omega))⟩
      · rw [e1]; simp only [List.length_cons]
        rw [show r + 1 + (fallL (may n K E F) k (clr L (low (may n K E F L)))).length = r + ((fallL (may n K E F) k (clr L (low (may n K E F L)))).length + 1) by omega]
      · intro i hi
        cases i with
        | zero => rw [Nat.add_zero, e4 r (by omega), pk_us]; rfl
        | succ i =>
          simp only [List.length_cons] at hi
          rw [show r + (i + 1) = r + 1 + i by omega, e3 i (by omega)]; rfl
theorem mg_lay {kq : Nat → Int32} {n K E G F L D : Nat} {day rs : Int32} {t row : Nat → Int32} (hn : n ≤ 7) (hk : KindR kq n K) (hF : SF n G F) (hL : L < 128) (ht : PageR t E G L D day) :
    ∃ o, fX4_layFall (nI n) rs kq t row = some o ∧ o.1 = nI (fallL (may n K E F) 7 L).length ∧ ∀ i, i < (fallL (may n K E F) 7 L).length → o.2.2 i = nI ((fallL (may n K E F) 7 L).getD i 0) := by
  unfold fX4_layFall
  rw [mg_may hn hk ht hF hL, Option.bind_some]
  obtain ⟨t', row', e1, e2, e3, -⟩ := mg_lay_14 hn hk hF 7 9 0 L D day t row hL (pop_le L) (by omega) (by omega) ht
  refine ⟨_, e1, by simp, fun i hi => ?_⟩
  have := e3 i hi
  rw [Nat.zero_add] at this; exact this
theorem mg_place {n K E F L p : Nat} {o : Int32 × (Nat → Int32) × (Nat → Int32)} (hn : n ≤ 7) (hL : L < 128) (h1 : o.1 = nI (fallL (may n K E F) 7 L).length) (h2 : ∀ i, i < (fallL (may n K E F) 7 L).length → o.2.2 i = nI ((fallL (may n K E F) 7 L).getD i 0)) (hp : p < 7) :
    fX4_placeOf o.1 o.2.2 (nI p) = some (plc 0 (posL (fallL (may n K E F) 7 L) p)) := by
  have hlen := fallL_len (may_ok hn K E F) 7 L hL
  have hpl := pop_le L
  unfold fX4_placeOf
  rw [h1]
  have := m_place_5 (row := o.2.2) hp (by omega) (fun w hw => (fallL_mem (may_ok hn K E F) 7 L hL w hw).1) (fallL_nodup (may_ok hn K E F) 7 L hL) h2 (fallL (may n K E F) 7 L).length 9 0 (-9) (by omega) (by omega)
  rw [List.drop_zero] at this
  rw [show (0 : Int32) = nI 0 from rfl, this]
  cases posL (fallL (may n K E F) 7 L) p <;> rfl
