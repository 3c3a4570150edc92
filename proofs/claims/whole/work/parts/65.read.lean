/-! PURE: a county is read -/
def TX (t : Nat) (bytes text : Nat → Int32) : Prop := t ≤ 48 ∧ ∀ k, k < t → bytes k = text k ∧ ∃ b, b < 256 ∧ text k = nI b
def RdR (n K E F : Nat) (rd rk rf : Nat → Int32) : Prop := n ≤ 7 ∧ K < 2 ^ (4 * n) ∧ E < 2 ^ (4 * n) ∧ FOk n F ∧ ∀ i, i < n → rd i = nI (nib E i) ∧ rk i = nI (nib K i) ∧ rf i = nI (rowF F i)
theorem x_byte {t at' : Nat} {bytes text : Nat → Int32} (h : TX t bytes text) (ha : at' < 100) : fX2_byteAt (nI t) bytes (nI at') = some (if at' < t then text at' else -9) := by
  have h48 := h.1
  unfold fX2_byteAt
  rw [if_neg (nI_pos (by omega))]
  simp only [k_nIl (show t < 2 ^ 31 by omega) (show at' < 2 ^ 31 by omega), show ((48 : Int32) ≤ nI at') = (48 ≤ at') from k_nIl (a := 48) (by decide) (by omega)]
  by_cases c : at' < t
  · rw [if_neg (by omega), if_neg (by omega), ck_nI (by omega) (by decide), clamp (by omega), (h.2 at' c).1, if_pos c]
  · rw [if_pos (by omega), if_neg c]
theorem k_dig : ∀ b, b < 256 → (nI b < 48) = (b < 48) ∧ (57 < nI b) = (57 < b) := by decide +kernel
theorem k_in9 : ∀ b, b < 256 → fX4_in (Int32.toInt64 (nI b - 48)) 0 (Int32.toInt64 9) = some (bI (decide (48 ≤ b) && decide (b ≤ 57))) := by decide +kernel
theorem k_in3 : ∀ b, b < 256 → fX4_in (Int32.toInt64 (nI b - 48)) 0 (Int32.toInt64 3) = some (bI (decide (48 ≤ b) && decide (b ≤ 51))) := by decide +kernel
theorem k_inn : ∀ n, n < 8 → ∀ b, b < 256 → fX4_in (Int32.toInt64 (nI b - 48)) 0 (Int32.toInt64 (nI n - 1)) = some (bI (decide (48 ≤ b) && decide (b < 48 + n))) := by decide +kernel
theorem k_in_9 : ∀ n, n < 8 → fX4_in (Int32.toInt64 (-9)) 0 (Int32.toInt64 (nI n - 1)) = some 0 := by decide +kernel
theorem k_has9 : ∀ n, n < 8 → fX1_has (nI n) (-9) = some 0 := by decide +kernel
/-- a figure is there, or not -/
theorem x_fig {t at' : Nat} {bytes text : Nat → Int32} (h : TX t bytes text) (ha : at' < 100) :
    (at' < t ∧ ∃ d, d < 10 ∧ text at' = nI (48 + d) ∧ fX2_figureAt (nI t) bytes (nI at') = some (nI d)) ∨ (fX2_figureAt (nI t) bytes (nI at') = some (-9) ∧ (t ≤ at' ∨ (at' < t ∧ ∃ b, b < 256 ∧ text at' = nI b ∧ (b < 48 ∨ 57 < b)))) := by
  unfold fX2_figureAt
  rw [x_byte h ha, Option.bind_some]
  by_cases c : at' < t
  · obtain ⟨b, hb, e⟩ := (h.2 at' c).2
    obtain ⟨d1, d2⟩ := k_dig b hb
    rw [if_pos c, e]
    by_cases c1 : b < 48
    · rw [if_pos (d1.mpr c1)]; exact Or.inr ⟨rfl, Or.inr ⟨c, b, hb, rfl, Or.inl c1⟩⟩
    · rw [if_neg (fun z => c1 (d1.mp z))]
      by_cases c2 : 57 < b
      · rw [if_pos (d2.mpr c2)]; exact Or.inr ⟨rfl, Or.inr ⟨c, b, hb, rfl, Or.inr c2⟩⟩
      · rw [if_neg (fun z => c2 (d2.mp z))]
        refine Or.inl ⟨c, b - 48, by omega, by rw [show 48 + (b - 48) = b by omega], ?_⟩
        rw [show (48 : Int32) = nI 48 from rfl, pk_sub (by omega)]
  · rw [if_neg c]
    exact Or.inr ⟨by decide, Or.inl (by omega)⟩
theorem m_fig_no {t at' : Nat} {text : Nat → Int32} (h48 : t ≤ 48) (hle : at' ≤ t) (m : Int32) (hb : t ≤ at' ∨ (at' < t ∧ fX4_in (Int32.toInt64 (text at' - 48)) 0 (Int32.toInt64 m) = some 0)) : fX4_figure (nI t) (nI at') text m = some (-9, nI at') := by
  unfold fX4_figure
  have he : (nI at' = nI t) = (at' = t) := k_nIe (by omega) (by omega)
  rcases hb with hb | ⟨hb, hi⟩
  · rw [if_pos (he.mpr (by omega))]
  · rw [if_neg (fun z => by have := he.mp z; omega), ck_nI (by omega) (by decide), clamp (by omega), hi, Option.bind_some, if_pos (c := (0 : Int32) = 0) rfl]
theorem m_fig_yes {t at' d : Nat} {text : Nat → Int32} (h48 : t ≤ 48) (hlt : at' < t) (he' : text at' = nI (48 + d)) (m : Int32) (hi : fX4_in (Int32.toInt64 (text at' - 48)) 0 (Int32.toInt64 m) = some 1) : fX4_figure (nI t) (nI at') text m = some (nI d, nI (at' + 1)) := by
  unfold fX4_figure
  have he : (nI at' = nI t) = (at' = t) := k_nIe (by omega) (by omega)
  rw [if_neg (fun z => by have := he.mp z; omega), ck_nI (by omega) (by decide), clamp (by omega), hi, Option.bind_some, if_neg (show ¬ (1 : Int32) = 0 by decide), nI_1, nI_pred, ck_nI (by omega) (by decide), clamp (by omega), he', show (48 : Int32) = nI 48 from rfl, pk_sub (by omega), show 48 + d - 48 = d by omega]
theorem nib_or {K n d q : Nat} (hK : K < 2 ^ (4 * n)) (hn : n < 7) (hd : d < 16) (hq : q < 7) : nib (K ||| d * 2 ^ (4 * n)) q = if q = n then d else nib K q := by
  apply nib_ext (nib_lt _ _) (by split; exact hd; exact nib_lt _ _)
  intro i hi
  rw [nib_bit, Nat.testBit_or, shd_bit n hn d hd q hq i hi]
  by_cases c : q = n
  · subst c
    rw [Nat.testBit_lt_two_pow (Nat.lt_of_lt_of_le hK (Nat.pow_le_pow_right (n := 2) (by decide) (by omega)))]
    simp [hi]
  · have : (q == n) = false := by simp [c]
    rw [this, if_neg c, nib_bit]; simp
theorem or_nib_lt {K n d : Nat} (hK : K < 2 ^ (4 * n)) (hd : d < 16) : K ||| d * 2 ^ (4 * n) < 2 ^ (4 * (n + 1)) := by
  have e : 2 ^ (4 * (n + 1)) = 16 * 2 ^ (4 * n) := by rw [show 4 * (n + 1) = 4 + 4 * n by omega, Nat.pow_add]
  apply Nat.or_lt_two_pow
  · rw [e]; omega
  · rw [e]; exact Nat.mul_lt_mul_of_pos_right hd (Nat.two_pow_pos _)
theorem k_lrg : ∀ n, n < 7 → (2 ^ n - 1) ||| 2 ^ n = 2 ^ (n + 1) - 1 := by decide
theorem x_add {n K E k d : Nat} (hn : n < 7) (hk : k < 16) (hd : d < 16) : fX1_add (nI n) (nI K) (nI E) (nI (2 ^ n - 1)) (nI d) (nI k) = some (nI (n + 1), nI (K ||| k * 2 ^ (4 * n)), nI (E ||| d * 2 ^ (4 * n)), nI (2 ^ (n + 1) - 1)) := by
  unfold fX1_add
  rw [k_bit n (by omega), Option.bind_some, k_shd n hn k hk, k_shd n hn d hd, orI, orI, orI, k_lrg n hn, nI_1]
theorem FOk_up {n F : Nat} (hF : FOk n F) : FOk (n + 1) F := ⟨hF.1, fun i j hi hj hb => by have := hF.2 i j hi hj hb; exact ⟨by omega, by omega, this.2.2⟩⟩
theorem row_0 {n F i : Nat} (hF : FOk n F) (hi : i < 7) (h : n ≤ i) : rowF F i = 0 := by
  apply set_ext (rowF_lt F i) (by decide)
  intro j hj
  rw [rowF_bit F i hj, Nat.zero_testBit]
  cases hz : F.testBit (7 * j + i) with
  | false => rfl
  | true => have := (hF.2 i j hi hj hz).1; omega
theorem RdR_add {n K E F k d : Nat} {rd rk rf : Nat → Int32} (h : RdR n K E F rd rk rf) (hn : n < 7) (hk : k < 16) (hd : d < 16) : RdR (n + 1) (K ||| k * 2 ^ (4 * n)) (E ||| d * 2 ^ (4 * n)) F (upd rd n (nI d)) (upd rk n (nI k)) (upd rf n 0) := by
  obtain ⟨h1, h2, h3, h4, h5⟩ := h
  refine ⟨by omega, or_nib_lt h2 hk, or_nib_lt h3 hd, FOk_up h4, fun i hi => ?_⟩
  rw [nib_or h2 hn hk (by omega), nib_or h3 hn hd (by omega)]
  by_cases c : i = n
  · subst c
    rw [if_pos rfl, if_pos rfl, pk_us, pk_us, pk_us, row_0 h4 (by omega) (Nat.le_refl _)]
    exact ⟨rfl, rfl, rfl⟩
  · rw [if_neg c, if_neg c, pk_un c, pk_un c, pk_un c]
    exact h5 i (by omega)
theorem RdR_pair {n K E F i j : Nat} {rd rk rf : Nat → Int32} (h : RdR n K E F rd rk rf) (hi : i < n) (hj : j < n) (hij : ¬ i = j) : RdR n K E (F ||| 2 ^ (7 * j + i)) rd rk (upd rf i (nI (rowF F i ||| 2 ^ j))) := by
  obtain ⟨h1, h2, h3, h4, h5⟩ := h
  refine ⟨h1, h2, h3, FOk_or h4 hi hj h1 hij, fun i' hi' => ?_⟩
  rw [or_row (by omega) (by omega) (by omega)]
  by_cases c : i' = i
  · subst c
    rw [if_pos rfl, pk_us]
    exact ⟨(h5 i' hi').1, (h5 i' hi').2.1, rfl⟩
  · rw [if_neg c, pk_un c]; exact h5 i' hi'
section Read
variable {t n K E F : Nat} {bytes text rd rk rf : Nat → Int32}
/-- what a part of the text comes to: a fault at w, or a county that has grown -/
def PartR (t at' n K E F : Nat) (rd rk rf : Nat → Int32) (x : Option (Int32 × Int32 × Int32 × Int32 × Int64 × Int32)) (m : Option (Int32 × Int32 × Int32 × (Nat → Int32) × (Nat → Int32) × (Nat → Int32))) : Prop :=
  (∃ w, w < 100 ∧ x = some (nI w, nI n, nI K, nI E, lN F, nI (2 ^ n - 1)) ∧ m = some (0, nI w, nI n, rd, rk, rf)) ∨
  (at' + 3 ≤ t ∧ ∃ n' K' E' F' rd' rk' rf', x = some (-9, nI n', nI K', nI E', lN F', nI (2 ^ n' - 1)) ∧ m = some (1, nI (at' + 3), nI n', rd', rk', rf') ∧ RdR n' K' E' F' rd' rk' rf')
theorem person_both (h : TX t bytes text) (hr : RdR n K E F rd rk rf) (hn : n < 7) {at' : Nat} (hat : at' < t) :
    PartR t at' n K E F rd rk rf ((fX2_readPerson (nI t) bytes (nI n) (nI K) (nI E) (nI (2 ^ n - 1)) (nI (at' + 1))).bind fun o13 => some (o13.1, o13.2.1, o13.2.2.1, o13.2.2.2.1, lN F, o13.2.2.2.2))
      ((fX4_readPerson (nI t) (nI (at' + 1)) (nI n) text rd rk rf).bind fun o10 => zk o10.1 (some (o10.1, o10.2.1, o10.2.2.1, o10.2.2.2.1, o10.2.2.2.2.1, o10.2.2.2.2.2))) := by
  have h48 := h.1
  unfold fX2_readPerson fX4_readPerson fX4_readPerson_23
  rcases x_fig h (at' := at' + 1) (by omega) with ⟨hlt, d, hd, e, x1⟩ | ⟨x1, hb⟩
  · have m1 := m_fig_yes h48 hlt e 9 (by
      rw [e, k_in9 _ (by omega), decide_eq_true (by omega), decide_eq_true (by omega)]; rfl)
    rw [x1, m1, Option.bind_some, Option.bind_some, if_neg (k_m9 d (by omega)), if_neg (c := nI d = -9) (k_m9 d (by omega)), nI_1]
    rcases x_fig h (at' := at' + 1 + 1) (by omega) with ⟨hlt2, k, hk, e2, x2⟩ | ⟨x2, hb2⟩
    · have h4 : (nI k < 4) = (k < 4) := k_nIt (b := 4) (by omega) (by decide)
      rw [x2, Option.bind_some, if_neg (k_m9 k (by omega))]
      by_cases c : k < 4
      · have m2 := m_fig_yes h48 hlt2 e2 3 (by
          rw [e2, k_in3 _ (by omega), decide_eq_true (by omega), decide_eq_true (by omega)]; rfl)
        rw [m2, Option.bind_some, if_pos (h4.mpr c), x_add hn (by omega) (by omega), Option.bind_some, Option.bind_some, if_neg (c := nI k = -9) (k_m9 k (by omega)), ck_nI hn (by decide), ck_nI hn (by decide), ck_nI hn (by decide), clamp (by omega), nI_1, Option.bind_some]
        exact Or.inr ⟨by omega, _, _, _, _, _, _, _, rfl, rfl, RdR_add hr hn (by omega) (by omega)⟩
      · have m2 := m_fig_no (t := t) (at' := at' + 1 + 1) (text := text) h48 (by omega) 3 (Or.inr ⟨hlt2, by
          rw [e2, k_in3 _ (by omega), decide_eq_false (show ¬ 48 + k ≤ 51 by omega), Bool.and_false]; rfl⟩)
        rw [m2, Option.bind_some, if_neg (fun z => c (h4.mp z)), Option.bind_some, if_pos (c := (-9 : Int32) = -9) rfl, Option.bind_some]
        exact Or.inl ⟨at' + 1 + 1, by omega, rfl, rfl⟩
    · have m2 := m_fig_no (t := t) (at' := at' + 1 + 1) (text := text) h48 (by omega) 3 (by
        rcases hb2 with z | ⟨z, b, hb, e2, hbb⟩
        · exact Or.inl z
        · refine Or.inr ⟨z, ?_⟩
          rw [e2, k_in3 b hb]
          rcases hbb with q | q
          · rw [decide_eq_false (by omega)]; rfl
          · rw [decide_eq_false (show ¬ b ≤ 51 by omega), Bool.and_false]; rfl)
      rw [x2, Option.bind_some, if_pos (c := (-9 : Int32) = -9) rfl, m2, Option.bind_some, Option.bind_some, if_pos (c := (-9 : Int32) = -9) rfl, Option.bind_some]
      exact Or.inl ⟨at' + 1 + 1, by omega, rfl, rfl⟩
  · have m1 := m_fig_no (t := t) (at' := at' + 1) (text := text) h48 (by omega) 9 (by
      rcases hb with z | ⟨z, b, hb, e2, hbb⟩
      · exact Or.inl z
      · refine Or.inr ⟨z, ?_⟩
        rw [e2, k_in9 b hb]
        rcases hbb with q | q
        · rw [decide_eq_false (by omega)]; rfl
        · rw [decide_eq_false (show ¬ b ≤ 57 by omega), Bool.and_false]; rfl)
    rw [x1, m1, Option.bind_some, Option.bind_some, if_pos (c := (-9 : Int32) = -9) rfl, if_pos (c := (-9 : Int32) = -9) rfl, if_pos (c := (-9 : Int32) = -9) rfl, Option.bind_some, Option.bind_some]
    exact Or.inl ⟨at' + 1, by omega, rfl, rfl⟩
/-- a person's figure in a pair: of the county, or refused by both -/
theorem pfig (h : TX t bytes text) (hn : n ≤ 7) {at' : Nat} (ha : at' < 100) :
    (at' < t ∧ ∃ i, i < n ∧ text at' - 48 = nI i ∧ fX2_figureAt (nI t) bytes (nI at') = some (nI i) ∧ fX1_has (nI n) (nI i) = some 1 ∧ fX4_in (Int32.toInt64 (nI i)) 0 (Int32.toInt64 (nI n - 1)) = some 1) ∨
    (∃ v, fX2_figureAt (nI t) bytes (nI at') = some v ∧ fX1_has (nI n) v = some 0 ∧ (t ≤ at' ∨ (at' < t ∧ fX4_in (Int32.toInt64 (text at' - 48)) 0 (Int32.toInt64 (nI n - 1)) = some 0))) := by
  rcases x_fig h ha with ⟨hlt, d, hd, e, x1⟩ | ⟨x1, hb⟩
  · have es : text at' - 48 = nI d := by rw [e, show (48 : Int32) = nI 48 from rfl, pk_sub (by omega), show 48 + d - 48 = d by omega]
    have hi := k_inn n (by omega) (48 + d) (by omega)
    rw [← e] at hi
    have hh := (has_any (a := d) hn (by omega)).1
    by_cases c : d < n
    · rw [if_pos c] at hh
      rw [decide_eq_true (by omega), decide_eq_true (by omega)] at hi
      exact Or.inl ⟨hlt, d, c, es, x1, hh, by rw [← es]; exact hi⟩
    · rw [if_neg c] at hh
      rw [decide_eq_false (show ¬ 48 + d < 48 + n by omega), Bool.and_false] at hi
      exact Or.inr ⟨_, x1, hh, Or.inr ⟨hlt, hi⟩⟩
  · refine Or.inr ⟨_, x1, k_has9 n (by omega), ?_⟩
    rcases hb with z | ⟨z, b, hb, e2, hbb⟩
    · exact Or.inl z
    · refine Or.inr ⟨z, ?_⟩
      rw [e2, k_inn n (by omega) b hb]
      rcases hbb with q | q
      · rw [decide_eq_false (by omega)]; rfl
      · rw [decide_eq_false (show ¬ b < 48 + n by omega), Bool.and_false]; rfl
theorem pair_both (h : TX t bytes text) (hr : RdR n K E F rd rk rf) {at' : Nat} (hat : at' < t) :
    PartR t at' n K E F rd rk rf ((fX2_readPair (nI t) bytes (nI n) (lN F) (nI (at' + 1))).bind fun o10 => some (o10.1, nI n, nI K, nI E, o10.2, nI (2 ^ n - 1)))
      ((fX4_readPair (nI t) (nI (at' + 1)) (nI n) text rf).bind fun o7 => zk o7.1 (some (o7.1, o7.2.1, nI n, rd, rk, o7.2.2))) := by
  obtain ⟨hn, hK, hE, hF, hrr⟩ := id hr
  have h48 := h.1
  have h10 : ¬ (1 : Int32) = 0 := by decide
  unfold fX2_readPair fX4_readPair
  have hle : (nI t ≤ nI (at' + 1)) = (t ≤ at' + 1) := k_nIl (by omega) (by omega)
  have hle2 : (nI t ≤ nI (at' + 1 + 1)) = (t ≤ at' + 1 + 1) := k_nIl (by omega) (by omega)
  have fail1 : ∀ v, fX4_in (Int32.toInt64 v) 0 (Int32.toInt64 (nI n - 1)) = some 0 → fX4_readPair_28 (nI t) (nI n) text v (nI (at' + 1)) rf = some (0, nI (at' + 1), rf) := by
    intro v hv
    unfold fX4_readPair_28
    rw [hv, Option.bind_some, if_pos (c := (0 : Int32) = 0) rfl]
  rcases pfig h hn (at' := at' + 1) (by omega) with ⟨hlt, i, hi, es, x1, hh, hin⟩ | ⟨v, x1, hh, hb⟩
  · have hfull := full_iff n (by omega) i hi (rowF F i) (rowF_lt F i) (row_sub hn hF hi)
    have hpr := pop_le (rowF F i)
    have hlo := lo_lt (F := F) (i := i) hn (by omega)
    have hlt1 : (nI (pop (rowF F i)) < nI n - 1) = (¬ lo n F i = 0) := by
      rw [show (1 : Int32) = nI 1 from rfl, pk_sub (by omega), k_nIt (by omega) (by omega)]
      exact propext hfull
    have h0 : (nI (lo n F i) = 0) = (lo n F i = 0) := k_nIe (b := 0) (by omega) (by decide)
    rw [x1, Option.bind_some, hh, Option.bind_some, if_neg h10, x_whom hn hF (by omega), Option.bind_some, k_bitCount _ (rowF_lt F i), Option.bind_some, if_neg (c := nI t ≤ nI (at' + 1)) (fun z => by have := hle.mp z; omega), ck_nI (by omega) (by decide), clamp (by omega), es]
    unfold fX4_readPair_28
    rw [hin, Option.bind_some, if_neg h10, m_leftOf hn hi (hrr i hi).2.2, Option.bind_some]
    by_cases c : lo n F i = 0
    · rw [if_neg (fun z => (hlt1.mp z) c), if_pos (h0.mpr c), Option.bind_some, Option.bind_some]
      exact Or.inl ⟨at' + 1, by omega, rfl, rfl⟩
    · rw [if_pos (hlt1.mpr c), if_neg (fun z => c (h0.mp z)), nI_1]
      unfold fX4_readPair_93
      rcases pfig h hn (at' := at' + 1 + 1) (by omega) with ⟨hlt2, j, hj, es2, x2, hh2, hin2⟩ | ⟨v, x2, hh2, hb2⟩
      · have hee : (nI i = nI j) = (i = j) := k_nIe (by omega) (by omega)
        rw [x2, Option.bind_some, hh2, Option.bind_some, if_neg h10, if_neg (c := nI t ≤ nI (at' + 1 + 1)) (fun z => by have := hle2.mp z; omega), ck_nI (by omega) (by decide), clamp (by omega), es2, hin2, Option.bind_some, if_neg h10, m_leftOf hn hi (hrr i hi).2.2, Option.bind_some, k_has _ hlo j (by omega), Option.bind_some, lo_bit hn (by omega) (by omega), x_feeds (by omega) (by omega), Option.bind_some]
        by_cases c1 : i = j
        · have hz : (decide (j < n) && !(j == i) && !F.testBit (7 * j + i)) = false := by simp [c1]
          rw [if_pos (hee.mpr c1), hz, if_pos (c := bI false = 0) rfl, Option.bind_some, Option.bind_some]
          exact Or.inl ⟨at' + 1 + 1, by omega, rfl, rfl⟩
        · rw [if_neg (fun z => c1 (hee.mp z))]
          cases hfb : F.testBit (7 * j + i) with
          | true =>
            have hz : (decide (j < n) && !(j == i) && !true) = false := by simp
            rw [if_neg (c := bI true = 0) (by decide), hz, if_pos (c := bI false = 0) rfl, Option.bind_some, Option.bind_some]
            exact Or.inl ⟨at' + 1 + 1, by omega, rfl, rfl⟩
          | false =>
            have hz : (decide (j < n) && !(j == i) && !false) = true := by
              have : ¬ j = i := fun z => c1 z.symm
              simp [hj, this]
            rw [if_pos (c := bI false = 0) rfl, hz, if_neg (c := bI true = 0) (by decide), k_pair i (by omega) j (by omega), Option.bind_some, ck_nI (by omega) (by decide), ck_nI (by omega) (by decide), clamp (by omega), (hrr i hi).2.2, k_shl1 j (by omega), orI, fb_orL, nI_1, Option.bind_some, Option.bind_some]
            exact Or.inr ⟨by omega, _, _, _, _, _, _, _, rfl, rfl, RdR_pair hr hi hj c1⟩
      · rw [x2, Option.bind_some, hh2, Option.bind_some, if_pos (c := (0 : Int32) = 0) rfl, Option.bind_some]
        refine Or.inl ⟨at' + 1 + 1, by omega, rfl, ?_⟩
        rcases hb2 with z | ⟨z, hz⟩
        · rw [if_pos (hle2.mpr z), k_in_9 n (by omega), Option.bind_some, if_pos (c := (0 : Int32) = 0) rfl]; rfl
        · rw [if_neg (c := nI t ≤ nI (at' + 1 + 1)) (fun q => by have := hle2.mp q; omega), ck_nI (by omega) (by decide), clamp (by omega), hz, Option.bind_some, if_pos (c := (0 : Int32) = 0) rfl]; rfl
  · rw [x1, Option.bind_some, hh, Option.bind_some, if_pos (c := (0 : Int32) = 0) rfl, Option.bind_some]
    refine Or.inl ⟨at' + 1, by omega, rfl, ?_⟩
    rcases hb with z | ⟨z, hz⟩
    · rw [if_pos (hle.mpr z), fail1 _ (k_in_9 n (by omega))]; rfl
    · rw [if_neg (c := nI t ≤ nI (at' + 1)) (fun q => by have := hle.mp q; omega), ck_nI (by omega) (by decide), clamp (by omega), fail1 _ hz]; rfl
theorem part_both (h : TX t bytes text) (hr : RdR n K E F rd rk rf) {at' : Nat} (hat : at' < t) :
    PartR t at' n K E F rd rk rf (fX2_readPart (nI t) bytes (nI n) (nI K) (nI E) (lN F) (nI (2 ^ n - 1)) (nI at')) (fX4_readPart (nI t) (nI at') (nI n) text rd rk rf) := by
  obtain ⟨hn, hK, hE, hF, hrr⟩ := id hr
  have h48 := h.1
  have h7 : ((7 : Int32) ≤ nI n) = (7 ≤ n) := k_nIl (a := 7) (by decide) (by omega)
  -- no person: a pair, or nothing
  have rest : PartR t at' n K E F rd rk rf (fX2_readPart_28 (nI t) bytes (nI at') (nI n) (nI K) (nI E) (lN F) (nI (2 ^ n - 1))) (fX4_readPart_40 (nI t) text (text at') (nI (at' + 1)) (nI n) rd rk rf) := by
    unfold fX2_readPart_28 fX4_readPart_40 fX4_readPart_58
    rw [x_byte h (by omega), Option.bind_some, if_pos hat, nI_pred, nI_1]
    by_cases c : text at' = 70
    · rw [if_pos c, if_pos c, x_pairLeft hn hF, m_isLeft hn (fun i hi => (hrr i hi).2.2), Option.bind_some, Option.bind_some]
      cases anyLeft n F with
      | false =>
        rw [if_pos (c := bI false = 0) rfl, if_pos (c := bI false = 0) rfl]
        exact Or.inl ⟨at', by omega, rfl, rfl⟩
      | true =>
        rw [if_neg (c := bI true = 0) (by decide), if_neg (c := bI true = 0) (by decide)]
        exact pair_both h hr hat
    · rw [if_neg c, if_neg c]
      exact Or.inl ⟨at', by omega, rfl, rfl⟩
  unfold fX2_readPart fX4_readPart
  rw [x_byte h (by omega), Option.bind_some, if_pos hat, ck_nI (by omega) (by decide), clamp (by omega), nI_1]
  by_cases c : text at' = 80
  · rw [if_pos c, if_pos c]
    by_cases c7 : 7 ≤ n
    · rw [if_pos (h7.mpr c7), if_pos (h7.mpr c7)]; exact rest
    · rw [if_neg (fun z => c7 (h7.mp z)), if_neg (fun z => c7 (h7.mp z))]
      exact person_both h hr (by omega) hat
  · rw [if_neg c, if_neg c]; exact rest
theorem read_lock (h : TX t bytes text) {dead day : Int32} : ∀ (k f g at' n K E F : Nat) (rd rk rf : Nat → Int32), at' ≤ t → t ≤ at' + 3 * k → k < f → k < g → RdR n K E F rd rk rf →
    ∃ r pl n' K' E' F' rd' rk' rf', fX2_readInto_18 (nI t) bytes f (nI at') (nI n) (nI K) (nI E) (lN F) (nI (2 ^ n - 1)) dead day = some (r, nI n', nI K', nI E', lN F', nI (2 ^ n' - 1), dead, day) ∧ fX4_readCounty_35 (nI t) text g (nI at') (nI n) rd rk rf = some (r, pl, nI n', rd', rk', rf') ∧ RdR n' K' E' F' rd' rk' rf' := by
  have h48 := h.1
  intro k
  induction k with
  | zero =>
    intro f g at' n K E F rd rk rf ha hk hf hg hr
    obtain ⟨f, rfl⟩ : ∃ f', f = f' + 1 := ⟨f - 1, by omega⟩
    obtain ⟨g, rfl⟩ : ∃ f', g = f' + 1 := ⟨g - 1, by omega⟩
    have hle : nI t ≤ nI at' := by rw [k_nIl (by omega) (by omega)]; omega
    rw [fX2_readInto_18, fX4_readCounty_35, if_pos hle, if_pos hle]
    exact ⟨_, _, _, _, _, _, _, _, _, rfl, rfl, hr⟩
  | succ k ih =>
    intro f g at' n K E F rd rk rf ha hk hf hg hr
    obtain ⟨f, rfl⟩ : ∃ f', f = f' + 1 := ⟨f - 1, by omega⟩
    obtain ⟨g, rfl⟩ : ∃ f', g = f' + 1 := ⟨g - 1, by omega⟩
    rw [fX2_readInto_18, fX4_readCounty_35]
    rcases Nat.lt_or_ge at' t with hat | hat
    · have hle : ¬ nI t ≤ nI at' := by rw [k_nIl (by omega) (by omega)]; omega
      rw [if_neg hle, if_neg hle]
      rcases part_both h hr hat with ⟨w, hw, x1, m1⟩ | ⟨h3, n', K', E', F', rd', rk', rf', x1, m1, hr'⟩
      · rw [x1, m1, Option.bind_some, Option.bind_some, if_neg (c := nI w = -9) (k_m9 w (by omega)), if_pos (c := (0 : Int32) = 0) rfl]
        exact ⟨_, _, _, _, _, _, _, _, _, rfl, rfl, hr⟩
      · rw [x1, m1, Option.bind_some, Option.bind_some, if_pos (c := (-9 : Int32) = -9) rfl, if_neg (show ¬ (1 : Int32) = 0 by decide), show nI at' + 3 = nI (at' + 3) from nI_add at' 3]
        exact ih f g (at' + 3) n' K' E' F' rd' rk' rf' h3 (by omega) (by omega) (by omega) hr'
    · have hle : nI t ≤ nI at' := by rw [k_nIl (by omega) (by omega)]; omega
      rw [if_pos hle, if_pos hle]
      exact ⟨_, _, _, _, _, _, _, _, _, rfl, rfl, hr⟩
theorem read_both (h : TX t bytes text) {t1 t2 t3 t5 t6 t7 pl0 rp0 : Int32} {t4 : Int64} {rd0 rk0 rf0 : Nat → Int32} :
    ∃ r pl n' K' E' F' rd' rk' rf', fX2_readInto (nI t) bytes t1 t2 t3 t4 t5 t6 t7 = some (r, nI n', nI K', nI E', lN F', nI (2 ^ n' - 1), 0, 0) ∧ fX4_readCounty (nI t) pl0 rp0 text rd0 rk0 rf0 = some (r, pl, nI n', rd', rk', rf') ∧ RdR n' K' E' F' rd' rk' rf' := by
  have h48 := h.1
  have hr0 : RdR 0 0 0 0 rd0 rk0 rf0 := ⟨by omega, by decide, by decide, ⟨by decide, fun i j _ _ hb => by rw [Nat.zero_testBit] at hb; cases hb⟩, fun i hi => by omega⟩
  have hb := x_byte h (at' := 0) (by omega)
  have hb : fX2_byteAt (nI t) bytes 0 = some (if 0 < t then text 0 else -9) := hb
  have ht0 : (nI t = 0) = (t = 0) := k_nIe (b := 0) (by omega) (by decide)
  have c0 : Int32.toNatClampNeg 0 = 0 := by decide
  have hck : ∀ (x : Option (Int32 × Int32 × Int32 × (Nat → Int32) × (Nat → Int32) × (Nat → Int32))), ck 0 48 x = x := fun x => ck_nI (i := 0) (by decide) (by decide)
  unfold fX2_readInto fX1_clear fX4_readCounty
  rw [Option.bind_some, hb, Option.bind_some, hck, c0]
  by_cases z : t = 0
  · rw [if_pos (ht0.mpr z), if_neg (c := 0 < t) (by omega), if_neg (show ¬ (-9 : Int32) = 65 by decide)]
    exact ⟨_, _, 0, 0, 0, 0, _, _, _, rfl, rfl, hr0⟩
  · rw [if_neg (fun q => z (ht0.mp q)), if_pos (c := 0 < t) (by omega)]
    by_cases c : text 0 = 65
    · rw [if_pos c, if_pos c]
      exact read_lock h (dead := 0) (day := 0) 16 20 50 1 0 0 0 0 rd0 rk0 rf0 (by omega) (by omega) (by omega) (by omega) hr0
    · rw [if_neg c, if_neg c]
      exact ⟨_, _, 0, 0, 0, 0, _, _, _, rfl, rfl, hr0⟩
end Read
