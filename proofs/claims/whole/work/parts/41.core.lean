/-! PURE: deeds and kinds in nibbles, who feeds whom as bits, grades, who is hidden, who may be taken -/
def nib (K p : Nat) : Nat := K / 2 ^ (4 * p) % 16
theorem nib_lt (K p : Nat) : nib K p < 16 := Nat.mod_lt _ (by decide)
theorem k_sh4 : ∀ p, p < 8 → (((4 * nI p).toUInt32 &&& Int32.toUInt32 31).toBitVec % 32).toNat = 4 * p := by decide +kernel
theorem k_nib {K p : Nat} (hK : K < 2 ^ 28) (hp : p < 7) : j_ushr (nI K) (4 * nI p) &&& 15 = nI (nib K p) := by
  show (((nI K).toUInt32 >>> ((4 * nI p).toUInt32 &&& Int32.toUInt32 31)).toInt32 &&& 15) = _
  rw [pk_ushrN (by omega) (4 * nI p) (4 * p) (k_sh4 p (by omega)), pk_andN (Nat.lt_of_le_of_lt (Nat.div_le_self _ _) (by omega)) (m := 15) 4 (by decide)]
  rfl
theorem x_kind {K p : Nat} (hK : K < 2 ^ 28) (hp : p < 7) : fX1_kindOf (nI K) (nI p) = some (nI (nib K p)) := by unfold fX1_kindOf; rw [k_nib hK hp]
theorem x_deed {K p : Nat} (hK : K < 2 ^ 28) (hp : p < 7) : fX1_deedOf (nI K) (nI p) = some (nI (nib K p)) := by unfold fX1_deedOf; rw [k_nib hK hp]
def gr (K E p : Nat) : Nat := if nib K p = 3 then 0 else if nib K p = 2 then nib E p + 2 else nib E p
theorem gr_lt (K E p : Nat) : gr K E p < 18 := by
  have := nib_lt E p
  unfold gr; split
  · omega
  · split <;> omega
theorem x_grade {K E p : Nat} (hK : K < 2 ^ 28) (hE : E < 2 ^ 28) (hp : p < 7) : fX1_gradeOf (nI K) (nI E) (nI p) = some (nI (gr K E p)) := by
  have hk := nib_lt K p
  have h3 : (nI (nib K p) = 3) = (nib K p = 3) := k_nIe (b := 3) (by omega) (by decide)
  have h2 : (nI (nib K p) = 2) = (nib K p = 2) := k_nIe (b := 2) (by omega) (by decide)
  unfold fX1_gradeOf
  rw [x_kind hK hp, Option.bind_some, x_deed hE hp, Option.bind_some]
  simp only [h3, h2]
  unfold gr
  by_cases c3 : nib K p = 3
  · rw [if_pos c3, if_pos c3]; rfl
  · rw [if_neg c3, if_neg c3]
    by_cases c2 : nib K p = 2
    · rw [if_pos c2, if_pos c2]; exact congrArg some (nI_add _ 2)
    · rw [if_neg c2, if_neg c2]; exact congrArg some (nI_add _ 0)
/-- what the reference holds of a county's page -/
def rowF (F i : Nat) : Nat := ofB (fun j => F.testBit (7 * j + i)) 7
def PageR (q : Nat → Int32) (E F L D : Nat) (day : Int32) : Prop := (∀ p, p < 7 → q p = nI (nib E p)) ∧ (∀ i, i < 7 → q (7 + i) = nI (rowF F i)) ∧ q 14 = nI L ∧ q 15 = nI D ∧ q 16 = day
def KindR (q : Nat → Int32) (n K : Nat) : Prop := ∀ p, p < n → q p = nI (nib K p)
theorem rowF_lt (F i : Nat) : rowF F i < 128 := ofB_lt7 _ (Nat.le_refl 7)
theorem rowF_bit (F i : Nat) {j : Nat} (hj : j < 7) : (rowF F i).testBit j = F.testBit (7 * j + i) := by
  unfold rowF; rw [ofB_bit]; simp [hj]
theorem m_grade {kq q : Nat → Int32} {n K E p : Nat} (hn : n ≤ 7) (hk : KindR kq n K) (hq : ∀ p, p < 7 → q p = nI (nib E p)) (hp : p < n) : fX4_gradeOf kq q (nI p) = some (nI (gr K E p)) := by
  have hkk := nib_lt K p
  have h3 : (nI (nib K p) = 3) = (nib K p = 3) := k_nIe (b := 3) (by omega) (by decide)
  have h2 : (nI (nib K p) = 2) = (nib K p = 2) := k_nIe (b := 2) (by omega) (by decide)
  have h0 : (0 : Int32) + nI p = nI p := by rw [show (0 : Int32) = nI 0 from rfl, nI_add, Nat.zero_add]
  unfold fX4_gradeOf
  rw [h0, ck_nI (by omega) (by decide), ck_nI (by omega) (by decide), ck_nI (by omega) (by decide), ck_nI (by omega) (by decide), clamp (by omega), hk p hp, hq p (by omega)]
  simp only [h3, h2]
  unfold gr
  by_cases c3 : nib K p = 3
  · rw [if_pos c3, if_pos c3]; rfl
  · rw [if_neg c3, if_neg c3]
    by_cases c2 : nib K p = 2
    · rw [if_pos c2, if_pos c2]; exact congrArg some (nI_add _ 2)
    · rw [if_neg c2, if_neg c2]
/-- who hides p: those at large that feed it -/
def hidM (F L p : Nat) : Nat := F / 2 ^ (7 * p) &&& L
def hid (K F L p : Nat) : Bool := !(hidM F L p == 0) && !(nib K p == 1)
theorem hidM_lt {F L p : Nat} (hL : L < 128) : hidM F L p < 128 := Nat.lt_of_le_of_lt Nat.and_le_right hL
theorem x_hidden {K F L p : Nat} (hK : K < 2 ^ 28) (hF : F < 2 ^ 49) (hL : L < 128) (hp : p < 7) : fX1_isHidden (nI K) (lN F) (nI p) (nI L) = some (bI (hid K F L p)) := by
  have hk := nib_lt K p
  have h1 : (nI (nib K p) = 1) = (nib K p = 1) := k_nIe (b := 1) (by omega) (by decide)
  have hm : (7 : Int32) * nI p = nI (7 * p) := pk_mul 7 p
  have hh : (nI (hidM F L p) = 0) = (hidM F L p = 0) := k_nIe (b := 0) (by have := hidM_lt (F := F) (p := p) hL; omega) (by decide)
  unfold fX1_isHidden
  rw [hm]
  rw [show j_lushr (lN F) (nI (7 * p)) = lN (F / 2 ^ (7 * p)) from wb_shr (by omega) (by omega), lN_i, andI]
  rw [show F / 2 ^ (7 * p) &&& L = hidM F L p from rfl, x_kind hK hp, Option.bind_some]
  simp only [hh, h1]
  unfold hid
  by_cases c : hidM F L p = 0
  · rw [if_pos c]; simp [c, bI]
  · rw [if_neg c]
    by_cases c1 : nib K p = 1
    · rw [if_pos c1]; simp [c1, bI]
    · rw [if_neg c1]; simp [c, c1, bI]
def anyB (f : Nat → Bool) : Nat → Bool
  | 0 => false
  | k + 1 => anyB f k || f k
theorem anyB_iff (f : Nat → Bool) : ∀ k, anyB f k = true ↔ ∃ q, q < k ∧ f q = true
  | 0 => by simp [anyB]
  | k + 1 => by
    rw [anyB, Bool.or_eq_true, anyB_iff f k]
    constructor
    · rintro (⟨q, h1, h2⟩ | h)
      · exact ⟨q, by omega, h2⟩
      · exact ⟨k, by omega, h⟩
    · rintro ⟨q, h1, h2⟩
      rcases Nat.lt_or_ge q k with h | h
      · exact Or.inl ⟨q, h, h2⟩
      · have : q = k := by omega
        subst this; exact Or.inr h2
/-- no one feeds itself, and all that is fed or feeds is of the county -/
def FOk (n F : Nat) : Prop := F < 2 ^ 49 ∧ ∀ i j, i < 7 → j < 7 → F.testBit (7 * j + i) = true → i < n ∧ j < n ∧ i ≠ j
theorem any_hid {n F L p : Nat} (hF : FOk n F) (hL : L < 128) (hp : p < 7) : anyB (fun q => !(q == p) && L.testBit q && F.testBit (7 * p + q)) n = !(hidM F L p == 0) := by
  have hb : ∀ q, q < 7 → (hidM F L p).testBit q = (F.testBit (7 * p + q) && L.testBit q) := by
    intro q hq; unfold hidM; rw [Nat.testBit_and, Nat.testBit_div_two_pow]; rw [Nat.add_comm]
  rw [Bool.eq_iff_iff, anyB_iff]
  constructor
  · rintro ⟨q, hq, h⟩
    simp only [Bool.and_eq_true] at h
    simp only [Bool.not_eq_true', beq_eq_false_iff_ne, ne_eq]
    intro z
    have hq7 : q < 7 := by
      rcases Nat.lt_or_ge q 7 with h7 | h7
      · exact h7
      · have := h.1.2
        rw [Nat.testBit_lt_two_pow (Nat.lt_of_lt_of_le hL (Nat.pow_le_pow_right (n := 2) (by decide) h7))] at this
        cases this
    have := hb q hq7
    rw [z, Nat.zero_testBit, h.1.2, h.2] at this
    cases this
  · intro h
    simp only [Bool.not_eq_true', beq_eq_false_iff_ne, ne_eq] at h
    rcases Classical.em (∃ q, q < 7 ∧ (hidM F L p).testBit q = true) with ⟨q, hq, hz⟩ | hno
    · rw [hb q hq, Bool.and_eq_true] at hz
      have hf := hF.2 q p hq hp hz.1
      exact ⟨q, hf.1, by simp [hz.1, hz.2, hf.2.2]⟩
    · exfalso
      apply h
      apply set_ext (hidM_lt hL) (by decide)
      intro q hq
      rw [Nat.zero_testBit]
      cases hz : (hidM F L p).testBit q with
      | false => rfl
      | true => exact absurd ⟨q, hq, hz⟩ hno
theorem m_hidden_5 {kq q : Nat → Int32} {n K E F L D p : Nat} {day : Int32} (hn : n ≤ 7) (hk : KindR kq n K) (hq : PageR q E F L D day) (hL : L < 128) (hp : p < n) :
    ∀ (f k : Nat), k ≤ n → n < f + k → fX4_isHidden_5 (nI n) kq q (nI p) f (bI (anyB (fun q => !(q == p) && L.testBit q && F.testBit (7 * p + q)) k)) (nI k) = some (bI (anyB (fun q => !(q == p) && L.testBit q && F.testBit (7 * p + q)) n && !(nib K p == 1))) := by
  have h7 : ∀ k, (7 : Int32) + nI k = nI (7 + k) := fun k => nI_add 7 k
  have hkk := nib_lt K p
  have h1 : (nI (nib K p) = 1) = (nib K p = 1) := k_nIe (b := 1) (by omega) (by decide)
  have h14 : Int32.toNatClampNeg 14 = 14 := by decide
  have hck : ∀ (x : Option Int32), ck 14 17 x = x := fun x => ck_nI (i := 14) (by decide) (by decide)
  intro f
  induction f with
  | zero => intro k h1 h2; omega
  | succ f ih =>
    intro k hkn hf
    rw [fX4_isHidden_5]
    rcases Nat.lt_or_ge k n with hlt | hge
    · rw [if_neg (by rw [k_nIl (by omega) (by omega)]; omega)]
      have hnext : nI k + 1 = nI (k + 1) := nI_1 k
      have ih1 := ih (k + 1) (by omega) (by omega)
      rw [hnext, h7, hck, h14, hq.2.2.1, k_has L hL k (by omega), Option.bind_some, ck_nI (i := 7 + k) (by omega) (by decide), clamp (by omega), hq.2.1 k (by omega), k_has _ (rowF_lt F k) p (by omega), Option.bind_some, rowF_bit F k (by omega)]
      simp only [bI0, k_nIe (show k < 2 ^ 31 by omega) (show p < 2 ^ 31 by omega)]
      rw [anyB] at ih1
      cases ha : anyB (fun q => !(q == p) && L.testBit q && F.testBit (7 * p + q)) k with
      | true => rw [if_neg (by simp)]; rw [ha] at ih1; exact ih1
      | false =>
        rw [if_pos rfl]
        rw [ha, Bool.false_or] at ih1
        by_cases c1 : k = p
        · rw [if_pos c1]; simp only [c1, beq_self_eq_true, Bool.not_true, Bool.false_and] at ih1 ⊢; exact ih1
        · rw [if_neg c1]
          have hb : (k == p) = false := by simp [c1]
          rw [hb, Bool.not_false, Bool.true_and] at ih1
          cases c2 : L.testBit k with
          | false => rw [if_pos rfl]; rw [c2] at ih1; exact ih1
          | true =>
            rw [if_neg (by simp)]
            rw [c2, Bool.true_and] at ih1
            cases c3 : F.testBit (7 * p + k) with
            | false => rw [if_pos rfl]; rw [c3] at ih1; exact ih1
            | true => rw [if_neg (by simp)]; rw [c3] at ih1; exact ih1
    · have : k = n := by omega
      subst this
      rw [if_pos (by rw [k_nIl (by omega) (by omega)]; omega), ck_nI (by omega) (by decide), clamp (by omega), hk p hp]
      simp only [bI0, h1]
      cases ha : anyB (fun q => !(q == p) && L.testBit q && F.testBit (7 * p + q)) k with
      | false => rfl
      | true =>
        rw [if_neg (by simp)]
        by_cases c1 : nib K p = 1
        · rw [if_pos c1]; simp [c1, bI]
        · rw [if_neg c1]; simp [c1, bI]
theorem m_hidden {kq q : Nat → Int32} {n K E F L D p : Nat} {day : Int32} (hn : n ≤ 7) (hk : KindR kq n K) (hq : PageR q E F L D day) (hF : FOk n F) (hL : L < 128) (hp : p < n) : fX4_isHidden (nI n) kq q (nI p) = some (bI (hid K F L p)) := by
  have h := m_hidden_5 hn hk hq hL hp 9 0 (by omega) (by omega)
  rw [any_hid hF hL (by omega)] at h
  exact h
