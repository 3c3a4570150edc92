/-! PURE: the class's fall -/
def posL : List Nat → Nat → Option Nat
  | [], _ => none
  | w :: ws, p => if w = p then some 0 else (posL ws p).map (· + 1)
def plc (s : Nat) : Option Nat → Int32
  | none => -9
  | some i => nI (s + i)
def wor : Option Nat → Int32
  | none => 9
  | some i => nI i
def rowV : Int32 → List Nat → Int32
  | v, [] => v
  | v, w :: ws => rowV (10 * v + nI w + 1) ws
theorem fallL_mem {mm : Nat → Nat} (h : MOk mm) : ∀ k L, L < 128 → ∀ w, w ∈ fallL mm k L → w < 7 ∧ L.testBit w = true
  | 0, L, _, w, hw => by simp [fallL] at hw
  | k + 1, L, hL, w, hw => by
    rw [fallL] at hw
    by_cases h0 : mm L = 0
    · rw [if_pos h0] at hw; simp at hw
    · rw [if_neg h0] at hw
      rcases List.mem_cons.mp hw with rfl | hw
      · exact ⟨low7 _, (mm_low h hL h0).2⟩
      · obtain ⟨h1, h2⟩ := fallL_mem h k _ (clr_lt L hL _ (low7 _)) w hw
        rw [clr_bit L hL _ (low7 _) w h1] at h2
        exact ⟨h1, by cases hz : L.testBit w with
          | true => rfl
          | false => rw [hz] at h2; cases h2⟩
theorem fallL_nodup {mm : Nat → Nat} (h : MOk mm) : ∀ k L, L < 128 → (fallL mm k L).Nodup
  | 0, L, _ => by simp [fallL]
  | k + 1, L, hL => by
    rw [fallL]
    by_cases h0 : mm L = 0
    · rw [if_pos h0]; exact List.nodup_nil
    · rw [if_neg h0]
      refine List.nodup_cons.mpr ⟨fun z => ?_, fallL_nodup h k _ (clr_lt L hL _ (low7 _))⟩
      have := (fallL_mem h k _ (clr_lt L hL _ (low7 _)) _ z).2
      rw [clr_bit L hL _ (low7 _) _ (low7 _)] at this
      simp at this
theorem fallL_len {mm : Nat → Nat} (h : MOk mm) : ∀ k L, L < 128 → (fallL mm k L).length + pop (leftL mm k L) = pop L
  | 0, L, _ => by simp [fallL, leftL]
  | k + 1, L, hL => by
    rw [fallL, leftL]
    by_cases h0 : mm L = 0
    · rw [if_pos h0, if_pos h0]; simp
    · rw [if_neg h0, if_neg h0]
      have h1 := fallL_len h k _ (clr_lt L hL _ (low7 (mm L)))
      have h2 := clr_pop L hL _ (low7 (mm L)) (mm_low h hL h0).2
      simp only [List.length_cons]; omega
theorem leftL_lt {mm : Nat → Nat} : ∀ k L, L < 128 → leftL mm k L < 128
  | 0, L, hL => hL
  | k + 1, L, hL => by
    rw [leftL]; split
    · exact hL
    · exact leftL_lt k _ (clr_lt L hL _ (low7 _))
theorem leftL_bit {mm : Nat → Nat} (h : MOk mm) : ∀ k L, L < 128 → ∀ p, p < 7 → (leftL mm k L).testBit p = (L.testBit p && !(decide (p ∈ fallL mm k L)))
  | 0, L, _, p, _ => by simp [leftL, fallL]
  | k + 1, L, hL, p, hp => by
    rw [leftL, fallL]
    by_cases h0 : mm L = 0
    · rw [if_pos h0, if_pos h0]; simp
    · rw [if_neg h0, if_neg h0, leftL_bit h k _ (clr_lt L hL _ (low7 _)) p hp, clr_bit L hL _ (low7 _) p hp]
      by_cases he : p = low (mm L)
      · subst he; simp
      · have h1 : (p == low (mm L)) = false := by simp [he]
        rw [h1]; simp [he]
theorem posL_none {p : Nat} : ∀ {l : List Nat}, posL l p = none ↔ p ∉ l
  | [] => by simp [posL]
  | w :: ws => by
    rw [posL]
    by_cases h : w = p
    · subst h; simp
    · rw [if_neg h, Option.map_eq_none_iff, posL_none]
      simp only [List.mem_cons, not_or]
      exact ⟨fun z => ⟨fun q => h q.symm, z⟩, fun z => z.2⟩
theorem posL_lt {p i : Nat} : ∀ {l : List Nat}, posL l p = some i → i < l.length
  | [], h => by simp [posL] at h
  | w :: ws, h => by
    rw [posL] at h
    by_cases hw : w = p
    · rw [if_pos hw] at h; cases h; simp
    · rw [if_neg hw] at h
      obtain ⟨j, h1, h2⟩ := Option.map_eq_some_iff.mp h
      have := posL_lt h1
      subst h2; simp; omega
theorem k_m9 : ∀ k, k < 128 → ¬ nI k = -9 := by decide +kernel
section Cty
variable {n K E F : Nat} (hn : n ≤ 7) (hK : K < 2 ^ 28) (hE : E < 2 ^ 28) (hF : F < 2 ^ 49)
theorem x_left_4 (hn : n ≤ 7) (hK : K < 2 ^ 28) (hE : E < 2 ^ 28) (hF : F < 2 ^ 49) : ∀ (f k s L : Nat), L < 128 → s + k = n → k < f → fX1_leftBehind_4 (nI n) (nI K) (nI E) (lN F) f (nI L) (nI s) = some (nI (leftA (may n K E F) k L)) := by
  intro f
  induction f with
  | zero => intro k s L _ _ h; omega
  | succ f ih =>
    intro k s L hL hsk hkf
    rw [fX1_leftBehind_4]
    have hmay := may_lt hn K E F L
    cases k with
    | zero => rw [if_pos (by rw [k_nIl (by omega) (by omega)]; omega)]; rfl
    | succ k =>
      rw [if_neg (by rw [k_nIl (by omega) (by omega)]; omega), x_may hn hK hE hF hL, Option.bind_some, leftA]
      simp only [show (nI (may n K E F L) = 0) = (may n K E F L = 0) from k_nIe (b := 0) (by omega) (by decide)]
      by_cases h0 : may n K E F L = 0
      · rw [if_pos h0, if_pos h0]
      · rw [if_neg h0, if_neg h0, k_notand L hL _ hmay, nI_1]
        exact ih k (s + 1) _ (dif_lt L hL _ hmay) (by omega) (by omega)
theorem x_left (hn : n ≤ 7) (hK : K < 2 ^ 28) (hE : E < 2 ^ 28) (hF : F < 2 ^ 49) {L : Nat} (hL : L < 128) (hp : pop L ≤ n) : fX1_leftBehind (nI n) (nI K) (nI E) (lN F) (nI L) = some (nI (leftL (may n K E F) 7 L)) := by
  have h1 := x_left_4 hn hK hE hF 9 n 0 L hL (by omega) (by omega)
  rw [left_eq (may_ok hn K E F) n L hL hp] at h1
  rw [show (7 : Nat) = n + (7 - n) by omega, leftL_7 (may_ok hn K E F) hL (7 - n) n hp]
  exact h1
theorem x_row_9 (hn : n ≤ 7) (hK : K < 2 ^ 28) (hE : E < 2 ^ 28) (hF : F < 2 ^ 49) : ∀ (f k s L : Nat) (v : Int32), L < 128 → s + k = n → k < f → fX1_fallRow_9 (nI n) (nI K) (nI E) (lN F) f v (nI L) (nI s) = some (rowV v (fallL (may n K E F) k L)) := by
  intro f
  induction f with
  | zero => intro k s L v _ _ h; omega
  | succ f ih =>
    intro k s L v hL hsk hkf
    rw [fX1_fallRow_9]
    have hmay := may_lt hn K E F L
    cases k with
    | zero => rw [if_pos (by rw [k_nIl (by omega) (by omega)]; omega)]; rfl
    | succ k =>
      rw [if_neg (by rw [k_nIl (by omega) (by omega)]; omega), x_may hn hK hE hF hL, Option.bind_some, k_leastOf _ hmay, Option.bind_some, fallL]
      by_cases h0 : may n K E F L = 0
      · rw [if_pos h0, if_pos h0, if_pos rfl]; rfl
      · have hlow := low7 (may n K E F L)
        rw [if_neg h0, if_neg h0, if_neg (k_m9 _ (by omega)), k_without L hL _ hlow, Option.bind_some, nI_1, ih k (s + 1) _ _ (clr_lt L hL _ hlow) (by omega) (by omega)]
        rfl
theorem x_row (hn : n ≤ 7) (hK : K < 2 ^ 28) (hE : E < 2 ^ 28) (hF : F < 2 ^ 49) {L : Nat} (hL : L < 128) (hp : pop L ≤ n) : fX1_fallRow (nI n) (nI K) (nI E) (lN F) (nI L) = some (rowV 0 (fallL (may n K E F) 7 L)) := by
  have h1 := x_row_9 hn hK hE hF 9 n 0 L 0 hL (by omega) (by omega)
  rw [show (7 : Nat) = n + (7 - n) by omega, fallL_7 (may_ok hn K E F) hL (7 - n) n hp]
  exact h1
theorem x_place_7 (hn : n ≤ 7) (hK : K < 2 ^ 28) (hE : E < 2 ^ 28) (hF : F < 2 ^ 49) {p : Nat} (hp : p < 7) : ∀ (f k s L : Nat), L < 128 → s + k = n → k < f → fX1_placeOf_7 (nI n) (nI K) (nI E) (lN F) (nI p) f (nI L) (nI s) = some (plc s (posL (fallL (may n K E F) k L) p)) := by
  intro f
  induction f with
  | zero => intro k s L _ _ h; omega
  | succ f ih =>
    intro k s L hL hsk hkf
    rw [fX1_placeOf_7]
    have hmay := may_lt hn K E F L
    cases k with
    | zero => rw [if_pos (by rw [k_nIl (by omega) (by omega)]; omega)]; rfl
    | succ k =>
      rw [if_neg (by rw [k_nIl (by omega) (by omega)]; omega), x_may hn hK hE hF hL, Option.bind_some, k_leastOf _ hmay, Option.bind_some, fallL]
      by_cases h0 : may n K E F L = 0
      · rw [if_pos h0, if_pos h0, if_pos rfl]; rfl
      · have hlow := low7 (may n K E F L)
        rw [if_neg h0, if_neg h0, if_neg (k_m9 _ (by omega)), posL]
        unfold fX1_placeOf_38
        simp only [k_nIe (show low (may n K E F L) < 2 ^ 31 by omega) (show p < 2 ^ 31 by omega)]
        by_cases he : low (may n K E F L) = p
        · rw [if_pos he, if_pos he, if_neg (k_m9 _ (by omega))]; rfl
        · rw [if_neg he, if_neg he, k_without L hL _ hlow, Option.bind_some, nI_1, ih k (s + 1) _ (clr_lt L hL _ hlow) (by omega) (by omega)]
          cases posL (fallL (may n K E F) k (clr L (low (may n K E F L)))) p with
          | none => rfl
          | some i =>
            simp only [Option.map_some, plc]
            congr 2; omega
theorem x_place (hn : n ≤ 7) (hK : K < 2 ^ 28) (hE : E < 2 ^ 28) (hF : F < 2 ^ 49) {L p : Nat} (hL : L < 128) (hpop : pop L ≤ n) (hp : p < 7) : fX1_placeOf (nI n) (nI K) (nI E) (lN F) (nI L) (nI p) = some (plc 0 (posL (fallL (may n K E F) 7 L) p)) := by
  have h1 := x_place_7 hn hK hE hF hp 9 n 0 L hL (by omega) (by omega)
  rw [show (7 : Nat) = n + (7 - n) by omega, fallL_7 (may_ok hn K E F) hL (7 - n) n hpop]
  exact h1
theorem pos_lt7 {n K E F L p i : Nat} (hn : n ≤ 7) (hL : L < 128) (h : posL (fallL (may n K E F) 7 L) p = some i) : i < 7 := by
  have h1 := posL_lt h
  have h2 := fallL_len (may_ok hn K E F) 7 L hL
  have h3 := pop_le L
  omega
theorem x_worth (hn : n ≤ 7) (hK : K < 2 ^ 28) (hE : E < 2 ^ 28) (hF : F < 2 ^ 49) {L p : Nat} (hL : L < 128) (hpop : pop L ≤ n) (hp : p < 7) : fX1_worthOf (nI n) (nI K) (nI E) (lN F) (nI L) (nI p) = some (wor (posL (fallL (may n K E F) 7 L) p)) := by
  unfold fX1_worthOf
  rw [x_place hn hK hE hF hL hpop hp, Option.bind_some]
  cases h : posL (fallL (may n K E F) 7 L) p with
  | none => rfl
  | some i =>
    have := pos_lt7 hn hL h
    simp only [plc, Nat.zero_add]
    rw [if_neg (k_m9 i (by omega))]; rfl
theorem x_taken (hn : n ≤ 7) (hK : K < 2 ^ 28) (hE : E < 2 ^ 28) (hF : F < 2 ^ 49) {L p : Nat} (hL : L < 128) (hpop : pop L ≤ n) (hp : p < 7) : fX1_isTaken (nI n) (nI K) (nI E) (lN F) (nI p) (nI L) = some (bI (decide (p ∈ fallL (may n K E F) 7 L))) := by
  have hlt := leftL_lt (mm := may n K E F) 7 L hL
  unfold fX1_isTaken
  rw [x_left hn hK hE hF hL hpop, Option.bind_some, k_notand L hL _ hlt, k_isIn _ (dif_lt L hL _ hlt) p hp, Option.bind_some, dif_bit hlt hp, leftL_bit (may_ok hn K E F) 7 L hL p hp]
  have : (L.testBit p && !(L.testBit p && !decide (p ∈ fallL (may n K E F) 7 L))) = decide (p ∈ fallL (may n K E F) 7 L) := by
    by_cases hm : p ∈ fallL (may n K E F) 7 L
    · rw [(fallL_mem (may_ok hn K E F) 7 L hL p hm).2]; simp [hm]
    · simp [hm]
  rw [this]
  unfold zk
  cases decide (p ∈ fallL (may n K E F) 7 L) <;> rfl
theorem x_count (hn : n ≤ 7) (hK : K < 2 ^ 28) (hE : E < 2 ^ 28) (hF : F < 2 ^ 49) {L : Nat} (hL : L < 128) (hpop : pop L ≤ n) : fX1_countTaken (nI n) (nI K) (nI E) (lN F) (nI L) = some (nI (fallL (may n K E F) 7 L).length) := by
  have hlt := leftL_lt (mm := may n K E F) 7 L hL
  have hlen := fallL_len (may_ok hn K E F) 7 L hL
  unfold fX1_countTaken
  rw [k_bitCount L hL, Option.bind_some, x_left hn hK hE hF hL hpop, Option.bind_some, k_bitCount _ hlt, Option.bind_some, pk_sub (by omega)]
  congr 2; omega
end Cty
theorem pop_n : ∀ n, n < 8 → ∀ L, L < 128 → L < 2 ^ n → pop L ≤ n := by decide +kernel
theorem lt128 {n L : Nat} (hn : n ≤ 7) (hL : L < 2 ^ n) : L < 128 := Nat.lt_of_lt_of_le hL (Nat.pow_le_pow_right (n := 2) (by decide) hn)
