/-! PURE: who may be taken: the class in one pass, the reference in two -/
def mxg (K E L : Nat) : Nat → Nat
  | 0 => 0
  | k + 1 => if L.testBit k = true ∧ mxg K E L k < gr K E k then gr K E k else mxg K E L k
theorem mxg_lt (K E L : Nat) : ∀ k, mxg K E L k < 18
  | 0 => by rw [mxg]; omega
  | k + 1 => by
    rw [mxg]; split
    · exact gr_lt K E k
    · exact mxg_lt K E L k
theorem mxg_ge (K E L : Nat) : ∀ k p, p < k → L.testBit p = true → gr K E p ≤ mxg K E L k
  | 0, p, h, _ => absurd h (Nat.not_lt_zero p)
  | k + 1, p, h, hb => by
    rw [mxg]
    rcases Nat.lt_or_ge p k with h1 | h1
    · have := mxg_ge K E L k p h1 hb
      split <;> omega
    · have : p = k := by omega
      subst this
      split
      · omega
      · rename_i hn
        by_cases h2 : mxg K E L p < gr K E p
        · exact absurd ⟨hb, h2⟩ hn
        · omega
/-- of the first k, those at large whose grade is g, and who are not hidden -/
def mayP (K E F L g p : Nat) : Bool := L.testBit p && gr K E p == g && !hid K F L p
def may (n K E F L : Nat) : Nat := ofB (mayP K E F L (mxg K E L n)) n
theorem may_lt {n : Nat} (hn : n ≤ 7) (K E F L : Nat) : may n K E F L < 128 := ofB_lt7 _ hn
theorem may_0 {K E F L g : Nat} : ∀ {k : Nat}, (∀ p, p < k → L.testBit p = true → gr K E p < g) → ofB (mayP K E F L g) k = 0
  | 0, _ => rfl
  | k + 1, h => by
    rw [ofB, may_0 (fun p hp => h p (Nat.lt_succ_of_lt hp))]
    have : mayP K E F L g k = false := by
      unfold mayP
      cases hb : L.testBit k with
      | false => rfl
      | true =>
        have := h k (Nat.lt_succ_self k) hb
        have : (gr K E k == g) = false := by simp; omega
        rw [this]; rfl
    rw [this]; simp
theorem x_may_7 {n K E F L : Nat} (hn : n ≤ 7) (hK : K < 2 ^ 28) (hE : E < 2 ^ 28) (hF : F < 2 ^ 49) (hL : L < 128) :
    ∀ (f k : Nat), k ≤ n → n < f + k → fX1_mayBeTaken_7 (nI n) (nI K) (nI E) (lN F) (nI L) f (nI (ofB (mayP K E F L (mxg K E L k)) k)) (nI (mxg K E L k)) (nI k) = some (nI (may n K E F L)) := by
  intro f
  induction f with
  | zero => intro k h1 h2; omega
  | succ f ih =>
    intro k hkn hf
    rw [fX1_mayBeTaken_7]
    have hmx := mxg_lt K E L k
    have hgr := gr_lt K E k
    rcases Nat.lt_or_ge k n with hlt | hge
    · rw [if_neg (by rw [k_nIl (by omega) (by omega)]; omega)]
      have ih1 := ih (k + 1) (by omega) (by omega)
      have hnext : nI k + 1 = nI (k + 1) := nI_1 k
      rw [k_isIn L hL k (by omega), Option.bind_some, x_grade hK hE (by omega), Option.bind_some]
      unfold fX1_mayBeTaken_44
      rw [hnext, x_hidden hK hF hL (by omega), Option.bind_some, k_bit k (by omega), Option.bind_some, orI]
      simp only [bI0, k_nIl (show gr K E k < 2 ^ 31 by omega) (show mxg K E L k < 2 ^ 31 by omega), k_nIe (show gr K E k < 2 ^ 31 by omega) (show mxg K E L k < 2 ^ 31 by omega)]
      rw [mxg, ofB] at ih1
      cases hb : L.testBit k with
      | false =>
        rw [if_pos rfl]
        have hc : ¬ (L.testBit k = true ∧ mxg K E L k < gr K E k) := by rw [hb]; simp
        rw [if_neg hc] at ih1
        have hp : mayP K E F L (mxg K E L k) k = false := by unfold mayP; rw [hb]; rfl
        rw [hp] at ih1
        simpa using ih1
      | true =>
        rw [if_neg (by simp)]
        by_cases hle : gr K E k ≤ mxg K E L k
        · rw [if_pos hle]
          have hc : ¬ (L.testBit k = true ∧ mxg K E L k < gr K E k) := fun z => by omega
          rw [if_neg hc] at ih1
          by_cases heq : gr K E k = mxg K E L k
          · rw [if_pos heq]
            cases hh : hid K F L k with
            | true =>
              rw [if_neg (by simp)]
              have hp : mayP K E F L (mxg K E L k) k = false := by unfold mayP; rw [hh]; simp
              rw [hp] at ih1
              simpa using ih1
            | false =>
              rw [if_pos rfl]
              have hp : mayP K E F L (mxg K E L k) k = true := by unfold mayP; rw [hh, hb, heq]; simp
              rw [hp] at ih1
              simpa using ih1
          · rw [if_neg heq]
            have hp : mayP K E F L (mxg K E L k) k = false := by
              unfold mayP
              have : (gr K E k == mxg K E L k) = false := by simp [heq]
              rw [this]; simp
            rw [hp] at ih1
            simpa using ih1
        · rw [if_neg hle, if_pos trivial, Option.bind_some, Option.bind_some]
          simp only [bI0]
          have hc : L.testBit k = true ∧ mxg K E L k < gr K E k := ⟨hb, by omega⟩
          rw [if_pos hc] at ih1
          have h0 : ofB (mayP K E F L (gr K E k)) k = 0 := may_0 (fun p hp hbp => Nat.lt_of_le_of_lt (mxg_ge K E L k p hp hbp) (by omega))
          rw [h0] at ih1
          have hz : (0 : Int32) = nI 0 := rfl
          cases hh : hid K F L k with
          | true =>
            rw [if_neg (by simp)]
            have hp : mayP K E F L (gr K E k) k = false := by unfold mayP; rw [hh]; simp
            rw [hp] at ih1
            simpa [hz] using ih1
          | false =>
            rw [if_pos rfl, hz, orI]
            have hp : mayP K E F L (gr K E k) k = true := by unfold mayP; rw [hh, hb]; simp
            rw [hp] at ih1
            simpa using ih1
    · have : k = n := by omega
      subst this
      rw [if_pos (by rw [k_nIl (by omega) (by omega)]; omega)]
      rfl
theorem x_may {n K E F L : Nat} (hn : n ≤ 7) (hK : K < 2 ^ 28) (hE : E < 2 ^ 28) (hF : F < 2 ^ 49) (hL : L < 128) : fX1_mayBeTaken (nI n) (nI K) (nI E) (lN F) (nI L) = some (nI (may n K E F L)) :=
  x_may_7 hn hK hE hF hL 9 0 (by omega) (by omega)
theorem m_may_55 {kq q : Nat → Int32} {n K E F L D g : Nat} {day : Int32} (hn : n ≤ 7) (hk : KindR kq n K) (hq : PageR q E F L D day) (hF : FOk n F) (hL : L < 128) (hg : g < 18) :
    ∀ (f k : Nat), k ≤ n → n < f + k → fX4_mayOf_55 (nI n) kq q f (nI g) (nI (ofB (mayP K E F L g) k)) (nI k) = some (nI (ofB (mayP K E F L g) n)) := by
  have h14 : Int32.toNatClampNeg 14 = 14 := by decide
  have hck : ∀ (x : Option Int32), ck 14 17 x = x := fun x => ck_nI (i := 14) (by decide) (by decide)
  have hor : ∀ a, nI a ||| 0 = nI a := fun a => by rw [show (0 : Int32) = nI 0 from rfl, orI, Nat.or_zero]
  intro f
  induction f with
  | zero => intro k h1 h2; omega
  | succ f ih =>
    intro k hkn hf
    rw [fX4_mayOf_55]
    have hgr := gr_lt K E k
    rcases Nat.lt_or_ge k n with hlt | hge
    · rw [if_neg (by rw [k_nIl (by omega) (by omega)]; omega)]
      have ih1 := ih (k + 1) (by omega) (by omega)
      have hnext : nI k + 1 = nI (k + 1) := nI_1 k
      rw [hnext, hck, h14, hq.2.2.1, k_has L hL k (by omega), Option.bind_some, m_grade hn hk hq.1 hlt, Option.bind_some, m_hidden hn hk hq hF hL hlt, Option.bind_some, k_shl1 k (by omega), orI, hor]
      simp only [bI0, k_nIe (show gr K E k < 2 ^ 31 by omega) (show g < 2 ^ 31 by omega)]
      rw [ofB] at ih1
      cases hb : L.testBit k with
      | false =>
        rw [if_pos rfl]
        have hp : mayP K E F L g k = false := by unfold mayP; rw [hb]; rfl
        rw [hp] at ih1; simpa using ih1
      | true =>
        rw [if_neg (by simp)]
        by_cases heq : gr K E k = g
        · rw [if_pos heq]
          cases hh : hid K F L k with
          | true =>
            rw [if_neg (by simp)]
            have hp : mayP K E F L g k = false := by unfold mayP; rw [hh]; simp
            rw [hp] at ih1; simpa using ih1
          | false =>
            rw [if_pos rfl]
            have hp : mayP K E F L g k = true := by unfold mayP; rw [hh, hb, heq]; simp
            rw [hp] at ih1; simpa using ih1
        · rw [if_neg heq]
          have hp : mayP K E F L g k = false := by
            unfold mayP
            have : (gr K E k == g) = false := by simp [heq]
            rw [this]; simp
          rw [hp] at ih1; simpa using ih1
    · have : k = n := by omega
      subst this
      rw [if_pos (by rw [k_nIl (by omega) (by omega)]; omega)]
theorem m_may_4 {kq q : Nat → Int32} {n K E F L D : Nat} {day : Int32} (hn : n ≤ 7) (hk : KindR kq n K) (hq : PageR q E F L D day) (hF : FOk n F) (hL : L < 128) :
    ∀ (f k : Nat), k ≤ n → n < f + k → fX4_mayOf_4 (nI n) kq q f (nI (mxg K E L k)) (nI k) = some (nI (may n K E F L)) := by
  have h14 : Int32.toNatClampNeg 14 = 14 := by decide
  have hck : ∀ (x : Option Int32), ck 14 17 x = x := fun x => ck_nI (i := 14) (by decide) (by decide)
  intro f
  induction f with
  | zero => intro k h1 h2; omega
  | succ f ih =>
    intro k hkn hf
    rw [fX4_mayOf_4]
    have hgr := gr_lt K E k
    have hmx := mxg_lt K E L k
    rcases Nat.lt_or_ge k n with hlt | hge
    · rw [if_neg (by rw [k_nIl (by omega) (by omega)]; omega)]
      have ih1 := ih (k + 1) (by omega) (by omega)
      have hnext : nI k + 1 = nI (k + 1) := nI_1 k
      rw [hnext, hck, h14, hq.2.2.1, k_has L hL k (by omega), Option.bind_some, m_grade hn hk hq.1 hlt, Option.bind_some, Option.bind_some]
      simp only [bI0, k_nIl (show gr K E k < 2 ^ 31 by omega) (show mxg K E L k < 2 ^ 31 by omega)]
      rw [mxg] at ih1
      cases hb : L.testBit k with
      | false =>
        rw [if_pos rfl]
        rw [if_neg (by rw [hb]; simp)] at ih1; exact ih1
      | true =>
        rw [if_neg (by simp)]
        by_cases hle : gr K E k ≤ mxg K E L k
        · rw [if_pos hle]
          rw [if_neg (fun z => by omega)] at ih1; exact ih1
        · rw [if_neg hle]
          rw [if_pos ⟨hb, by omega⟩] at ih1; exact ih1
    · have : k = n := by omega
      subst this
      rw [if_pos (by rw [k_nIl (by omega) (by omega)]; omega)]
      exact m_may_55 hn hk hq hF hL hmx 9 0 (by omega) (by omega)
theorem m_may {kq q : Nat → Int32} {n K E F L D : Nat} {day : Int32} (hn : n ≤ 7) (hk : KindR kq n K) (hq : PageR q E F L D day) (hF : FOk n F) (hL : L < 128) : fX4_mayOf (nI n) kq q = some (nI (may n K E F L)) :=
  m_may_4 hn hk hq hF hL 9 0 (by omega) (by omega)
