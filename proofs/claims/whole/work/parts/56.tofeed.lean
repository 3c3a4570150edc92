/-! PURE: toFeed -/
def gB (f : Nat) : Nat := 2 ^ (7 * (f % 10) + f / 10)
def nwP (n F f : Nat) : Bool := decide (f / 10 < n) && decide (f % 10 < n) && !decide (f / 10 = f % 10) && !F.testBit (7 * (f % 10) + f / 10)
theorem has_any {n a : Nat} (hn : n ≤ 7) (ha : a < 2 ^ 31) : fX1_has (nI n) (nI a) = some (if a < n then 1 else 0) ∧ fX4_noPerson (nI n) (nI a) = some (if a < n then 0 else 1) := by
  rcases who n hn (nI a) with ⟨p, hp, e, h1, h2⟩ | ⟨h1, h2⟩
  · have : a = p := (nI_eq ha (by omega)).mp e
    subst this
    rw [if_pos hp, if_pos hp]; exact ⟨h1, h2⟩
  · have : ¬ a < n := by
      intro z
      unfold fX1_has at h1
      rw [if_neg (nI_pos ha), if_neg (nI_ge z (by omega))] at h1
      exact absurd (Option.some.inj h1) (by decide)
    rw [if_neg this, if_neg this]; exact ⟨h1, h2⟩
theorem nw_of {n F f : Nat} (h : nwP n F f = true) : f / 10 < n ∧ f % 10 < n ∧ ¬ f / 10 = f % 10 := by
  unfold nwP at h
  simp only [Bool.and_eq_true, decide_eq_true_eq, Bool.not_eq_true', decide_eq_false_iff_not] at h
  exact ⟨h.1.1.1, h.1.1.2, h.1.2⟩
theorem x_newPair {n F f : Nat} (hn : n ≤ 7) (hf : f < 100) : fX3_newPair (nI n) (lN F) (nI f) = some (if nwP n F f then lN (gB f) else 0) := by
  have e10 : (10 : Int32) = nI 10 := rfl
  have h0 : ¬ (1 : Int32) = 0 := by decide
  unfold fX3_newPair fX3_newPair_53 fX3_newPair_54
  rw [e10, pk_rem (by omega) (by decide) (by decide), pk_div (by omega) (by decide) (by decide), (has_any hn (show f / 10 < 2 ^ 31 by omega)).1, (has_any hn (show f % 10 < 2 ^ 31 by omega)).1]
  by_cases c1 : f / 10 < n
  · rw [if_pos (c := f / 10 < n) c1, Option.bind_some, if_neg h0]
    by_cases c2 : f % 10 < n
    · rw [if_pos (c := f % 10 < n) c2, Option.bind_some, if_neg h0]
      have hee : (nI (f / 10) = nI (f % 10)) = (f / 10 = f % 10) := k_nIe (by omega) (by omega)
      by_cases c3 : f / 10 = f % 10
      · have hz : nwP n F f = false := by unfold nwP; simp [c3]
        rw [if_pos (hee.mpr c3), hz]; rfl
      · rw [if_neg (fun z => c3 (hee.mp z)), x_feeds (by omega) (by omega), Option.bind_some]
        cases hb : F.testBit (7 * (f % 10) + f / 10) with
        | true =>
          have hz : nwP n F f = false := by unfold nwP; rw [hb]; simp
          rw [hz, if_neg (c := bI true = 0) (by decide)]; rfl
        | false =>
          have hz : nwP n F f = true := by unfold nwP; rw [hb]; simp [c1, c2, c3]
          rw [hz, if_pos (c := bI false = 0) rfl, if_neg h0, k_pair _ (by omega) _ (by omega)]; rfl
    · have hz : nwP n F f = false := by unfold nwP; simp [c2]
      rw [if_neg (c := f % 10 < n) c2, hz]; rfl
  · have hz : nwP n F f = false := by unfold nwP; simp [c1]
    rw [if_neg (c := f / 10 < n) c1, hz]; rfl
theorem m_isPair {page : Nat → Int32} {n E F L D f : Nat} {day : Int32} (hn : n ≤ 7) (hq : PageR page E F L D day) (hf : f < 100) : fX4_isPair (nI n) page (nI f) = some (bI (nwP n F f)) := by
  have e10 : (10 : Int32) = nI 10 := rfl
  have h0 : ¬ (1 : Int32) = 0 := by decide
  unfold fX4_isPair
  rw [e10, pk_rem (by omega) (by decide) (by decide), pk_div (by omega) (by decide) (by decide), (has_any hn (show f / 10 < 2 ^ 31 by omega)).2, (has_any hn (show f % 10 < 2 ^ 31 by omega)).2]
  by_cases c1 : f / 10 < n
  · rw [if_pos (c := f / 10 < n) c1, Option.bind_some, if_pos (c := (0 : Int32) = 0) rfl]
    by_cases c2 : f % 10 < n
    · rw [if_pos (c := f % 10 < n) c2, Option.bind_some, if_pos (c := (0 : Int32) = 0) rfl]
      have hee : (nI (f / 10) = nI (f % 10)) = (f / 10 = f % 10) := k_nIe (by omega) (by omega)
      by_cases c3 : f / 10 = f % 10
      · have hz : nwP n F f = false := by unfold nwP; simp [c3]
        rw [if_pos (hee.mpr c3), hz]; rfl
      · rw [if_neg (fun z => c3 (hee.mp z)), add7, ck_nI (by omega) (by decide), clamp (by omega), hq.2.1 _ (by omega), k_has _ (rowF_lt _ _) _ (by omega), Option.bind_some, rowF_bit _ _ (by omega)]
        cases hb : F.testBit (7 * (f % 10) + f / 10) with
        | true =>
          have hz : nwP n F f = false := by unfold nwP; rw [hb]; simp
          rw [hz, if_neg (c := bI true = 0) (by decide)]; rfl
        | false =>
          have hz : nwP n F f = true := by unfold nwP; rw [hb]; simp [c1, c2, c3]
          rw [hz, if_pos (c := bI false = 0) rfl]; rfl
    · have hz : nwP n F f = false := by unfold nwP; simp [c2]
      rw [if_neg (c := f % 10 < n) c2, Option.bind_some, if_neg h0, hz]; rfl
  · have hz : nwP n F f = false := by unfold nwP; simp [c1]
    rw [if_neg (c := f / 10 < n) c1, Option.bind_some, if_neg h0, hz]; rfl
theorem x_saves {n K E F L p g : Nat} {tf : Int64} (hn : n ≤ 7) (hK : K < 2 ^ 28) (hE : E < 2 ^ 28) (hg : F ||| g < 2 ^ 49) (hL : L < 128) (hpop : pop L ≤ n) (hp : p < 7) (hb : L.testBit p = true) :
    fX3_savesByFeeding (lN F) (nI n) (nI K) (nI E) tf (nI L) (nI p) (lN g) = some (bI (!decide (p ∈ fallL (may n K E (F ||| g)) 7 L)), lN (F ||| g)) := by
  have hlt := leftL_lt (mm := may n K E (F ||| g)) 7 L hL
  unfold fX3_savesByFeeding
  rw [fb_orL, x_left hn hK hE hg hL hpop, Option.bind_some, k_isIn _ hlt p hp, Option.bind_some, leftL_bit (may_ok hn K E (F ||| g)) 7 L hL p hp, hb, Bool.true_and]
  unfold zk
  cases decide (p ∈ fallL (may n K E (F ||| g)) 7 L) <;> rfl
theorem or_row {F i j i' : Nat} (hi : i < 7) (hj : j < 7) (hi' : i' < 7) : rowF (F ||| 2 ^ (7 * j + i)) i' = if i' = i then rowF F i ||| 2 ^ j else rowF F i' := by
  have hx : rowF F i ||| 2 ^ j < 128 := Nat.or_lt_two_pow (n := 7) (rowF_lt F i) (p2_lt j hj)
  apply set_ext (rowF_lt _ _) (by split; exact hx; exact rowF_lt _ _)
  intro q hq
  rw [rowF_bit _ _ hq, Nat.testBit_or, Nat.testBit_two_pow]
  by_cases h : i' = i
  · subst h
    rw [if_pos rfl, Nat.testBit_or, Nat.testBit_two_pow, rowF_bit _ _ hq]
    congr 1
    rw [decide_eq_decide]; omega
  · rw [if_neg h, rowF_bit _ _ hq]
    have : decide (7 * j + i = 7 * q + i') = false := by rw [decide_eq_false_iff_not]; omega
    rw [this, Bool.or_false]
theorem FOk_or {n F i j : Nat} (hF : FOk n F) (hi : i < n) (hj : j < n) (hn : n ≤ 7) (hij : ¬ i = j) : FOk n (F ||| 2 ^ (7 * j + i)) := by
  refine ⟨Nat.or_lt_two_pow hF.1 (Nat.pow_lt_pow_right (by decide) (by omega)), fun i' j' hi' hj' hb => ?_⟩
  rw [Nat.testBit_or, Nat.testBit_two_pow] at hb
  by_cases e : 7 * j + i = 7 * j' + i'
  · have : i = i' ∧ j = j' := by omega
    obtain ⟨rfl, rfl⟩ := this
    exact ⟨hi, hj, hij⟩
  · rw [decide_eq_false e, Bool.or_false] at hb
    exact hF.2 i' j' hi' hj' hb
theorem FOk_g {n F F' f : Nat} (hn : n ≤ 7) (hF : FOk n F) (h : nwP n F' f = true) : FOk n (F ||| gB f) := by
  obtain ⟨h1, h2, h3⟩ := nw_of h
  exact FOk_or hF h1 h2 hn h3
theorem PageR_g {q : Nat → Int32} {E F L D f n F' : Nat} {day : Int32} (h : PageR q E F L D day) (hn : n ≤ 7) (hw : nwP n F' f = true) (hf : f < 100) :
    PageR (upd q (Int32.toNatClampNeg (7 + nI f / 10)) ((q (Int32.toNatClampNeg (7 + nI f / 10))) ||| ((1 : Int32) <<< ((nI f - nI f / 10 * 10) &&& 31)))) E (F ||| gB f) L D day := by
  obtain ⟨h1, h2, h3⟩ := nw_of hw
  have e10 : (10 : Int32) = nI 10 := rfl
  rw [e10, pk_rem (by omega) (by decide) (by decide), pk_div (by omega) (by decide) (by decide), add7, clamp (by omega), h.2.1 (f / 10) (by omega), k_shl1 _ (by omega), orI]
  have e := or_row (F := F) (i := f / 10) (j := f % 10) (i' := f / 10) (by omega) (by omega) (by omega)
  rw [if_pos rfl] at e
  rw [← e]
  exact PageR_F (F' := F ||| gB f) h (by omega) (fun i' hi' hne => by
    have := or_row (F := F) (i := f / 10) (j := f % 10) (i' := i') (by omega) (by omega) hi'
    rw [if_neg hne] at this; exact this)
theorem ckp {α : Type} {f : Nat} (hf : f < 100) (x : Option α) : ck (7 + nI f / 10) 17 x = x := by
  have e10 : (10 : Int32) = nI 10 := rfl
  rw [e10, pk_div (by omega) (by decide) (by decide), add7, ck_nI (by omega) (by decide)]
theorem m_safe58 {kq t row : Nat → Int32} {n K E F L D p : Nat} {day rs : Int32} (hn : n ≤ 7) (hk : KindR kq n K) (hF : FOk n F) (hL : L < 128) (ht : PageR t E F L D day) (hp : p < 7) :
    ∃ w, fX4_isSafe_58 (nI n) kq (nI p) rs t row = some (bI (!decide (p ∈ fallL (may n K E F) 7 L)), w) := by
  obtain ⟨o, l1, l2⟩ := m_lay (rs := rs) (row := row) hn hk hF hL ht
  unfold fX4_isSafe_58
  rw [l1, Option.bind_some, m_place hn hL l2 hp, Option.bind_some]
  cases h : posL (fallL (may n K E F) 7 L) p with
  | none =>
    rw [decide_eq_false (posL_none.mp h), if_pos (c := plc 0 none = -9) rfl]
    exact ⟨_, rfl⟩
  | some i =>
    have hi := pos_lt7 hn hL h
    have hin : p ∈ fallL (may n K E F) 7 L := by
      rcases Classical.em (p ∈ fallL (may n K E F) 7 L) with z | z
      · exact z
      · rw [posL_none.mpr z] at h; cases h
    have hp9 : ¬ plc 0 (some i) = -9 := by
      show ¬ nI (0 + i) = -9
      exact k_m9 _ (by omega)
    rw [decide_eq_true hin, if_neg hp9]
    exact ⟨_, rfl⟩
section Feed
variable {kq page : Nat → Int32} {n K E F L D p : Nat} {day : Int32}
def s1 (n K E F L p f : Nat) : Bool := nwP n F f && !decide (p ∈ fallL (may n K E (F ||| gB f)) 7 L)
def s2 (n K E F L p a b : Nat) : Bool := nwP n F a && (nwP n F b && !decide (p ∈ fallL (may n K E (F ||| gB a ||| gB b)) 7 L))
def sQ (n K E F L p z : Nat) : Bool := !decide (z / 100 = z % 100) && s2 n K E F L p (z / 100) (z % 100)
theorem m_safe0 {t row : Nat → Int32} {rs : Int32} (hn : n ≤ 7) (hk : KindR kq n K) (hF : FOk n F) (hL : L < 128) (hq : PageR page E F L D day) (hp : p < 7) :
    ∃ w, fX4_isSafe (nI n) rs kq page t row (nI p) (-9) (-9) = some (bI (!decide (p ∈ fallL (may n K E F) 7 L)), w) := by
  obtain ⟨t', b1, b2⟩ := m_begin page t
  unfold fX4_isSafe fX4_isSafe_31
  rw [b1, Option.bind_some, if_pos (c := (-9 : Int32) = -9) rfl, if_pos (c := (-9 : Int32) = -9) rfl]
  exact m_safe58 hn hk hF hL (PageR_congr hq b2) hp
theorem m_safe1 {t row : Nat → Int32} {rs : Int32} {f : Nat} (hn : n ≤ 7) (hk : KindR kq n K) (hF : FOk n F) (hL : L < 128) (hq : PageR page E F L D day) (hp : p < 7) (hf : f < 100) (hw : nwP n F f = true) :
    ∃ w, fX4_isSafe (nI n) rs kq page t row (nI p) (nI f) (-9) = some (bI (!decide (p ∈ fallL (may n K E (F ||| gB f)) 7 L)), w) := by
  obtain ⟨t', b1, b2⟩ := m_begin page t
  unfold fX4_isSafe fX4_isSafe_31
  rw [b1, Option.bind_some, if_neg (k_m9 f (by omega)), ckp hf, ckp hf, if_pos (c := (-9 : Int32) = -9) rfl]
  exact m_safe58 hn hk (FOk_g hn hF hw) hL (PageR_g (PageR_congr hq b2) hn hw hf) hp
theorem m_safe2 {t row : Nat → Int32} {rs : Int32} {a b : Nat} (hn : n ≤ 7) (hk : KindR kq n K) (hF : FOk n F) (hL : L < 128) (hq : PageR page E F L D day) (hp : p < 7) (ha : a < 100) (hb : b < 100) (hwa : nwP n F a = true) (hwb : nwP n F b = true) :
    ∃ w, fX4_isSafe (nI n) rs kq page t row (nI p) (nI a) (nI b) = some (bI (!decide (p ∈ fallL (may n K E (F ||| gB a ||| gB b)) 7 L)), w) := by
  obtain ⟨t', b1, b2⟩ := m_begin page t
  unfold fX4_isSafe fX4_isSafe_31
  rw [b1, Option.bind_some, if_neg (k_m9 a (by omega)), ckp ha, ckp ha, if_neg (k_m9 b (by omega)), ckp hb, ckp hb]
  exact m_safe58 hn hk (FOk_g hn (FOk_g hn hF hwa) hwb) hL (PageR_g (PageR_g (PageR_congr hq b2) hn hwa ha) hn hwb hb) hp
def fstP (P : Nat → Bool) : Nat → Nat → Option Nat
  | 0, _ => none
  | k + 1, x => if P x then some x else fstP P k (x + 1)
theorem fstP_some {P : Nat → Bool} : ∀ {k x y : Nat}, fstP P k x = some y → x ≤ y ∧ y < x + k ∧ P y = true ∧ ∀ z, x ≤ z → z < y → P z = false
  | 0, x, y, h => by simp [fstP] at h
  | k + 1, x, y, h => by
    rw [fstP] at h
    by_cases c : P x = true
    · rw [if_pos c] at h
      cases h
      exact ⟨Nat.le_refl _, by omega, c, fun z h1 h2 => by omega⟩
    · rw [if_neg c] at h
      obtain ⟨h1, h2, h3, h4⟩ := fstP_some h
      refine ⟨by omega, by omega, h3, fun z z1 z2 => ?_⟩
      by_cases e : z = x
      · subst e; simpa using c
      · exact h4 z (by omega) z2
theorem fstP_none {P : Nat → Bool} : ∀ {k x : Nat}, fstP P k x = none → ∀ z, x ≤ z → z < x + k → P z = false
  | 0, x, _, z, h1, h2 => by omega
  | k + 1, x, h, z, h1, h2 => by
    rw [fstP] at h
    by_cases c : P x = true
    · rw [if_pos c] at h; cases h
    · rw [if_neg c] at h
      by_cases e : z = x
      · subst e; simpa using c
      · exact fstP_none h z (by omega) (by omega)
def opt9 : Option Nat → Int32
  | none => -9
  | some x => nI x
theorem gB_lt {n F f : Nat} (hn : n ≤ 7) (h : nwP n F f = true) : gB f < 2 ^ 49 := by
  obtain ⟨h1, h2, h3⟩ := nw_of h
  exact Nat.pow_lt_pow_right (by decide) (by omega)
theorem gB_pos (f : Nat) : 0 < gB f := Nat.two_pow_pos _
theorem x_one (hn : n ≤ 7) (hK : K < 2 ^ 28) (hE : E < 2 ^ 28) (hF : FOk n F) (hL : L < 128) (hpop : pop L ≤ n) (hp : p < 7) (hb : L.testBit p = true) :
    ∀ (k f x : Nat) (tf : Int64), x + k = 10 * n → k < f → ∃ w, fX3_onePair_2 (nI n) (lN F) (nI n) (nI K) (nI E) (nI L) (nI p) f (nI x) tf = some (opt9 (fstP (s1 n K E F L p) k x), w) := by
  intro k
  induction k with
  | zero =>
    intro f x tf hx hf
    obtain ⟨f, rfl⟩ : ∃ f', f = f' + 1 := ⟨f - 1, by omega⟩
    rw [fX3_onePair_2, show (10 : Int32) = nI 10 from rfl, pk_mul, if_pos (by rw [k_nIl (by omega) (by omega)]; omega)]
    exact ⟨_, rfl⟩
  | succ k ih =>
    intro f x tf hx hf
    obtain ⟨f, rfl⟩ : ∃ f', f = f' + 1 := ⟨f - 1, by omega⟩
    have hx100 : x < 100 := by omega
    rw [fX3_onePair_2, show (10 : Int32) = nI 10 from rfl, pk_mul, if_neg (by rw [k_nIl (by omega) (by omega)]; omega), x_newPair hn hx100, Option.bind_some, nI_1, fstP]
    by_cases c : nwP n F x = true
    · have hs : s1 n K E F L p x = !decide (p ∈ fallL (may n K E (F ||| gB x)) 7 L) := by unfold s1; rw [c, Bool.true_and]
      rw [if_pos c, if_neg (fun z => lN_ne0 (gB_pos x) (Nat.lt_trans (gB_lt hn c) (by decide)) ((lg_cmp_eq _ _).mp z)), x_saves hn hK hE (FOk_g hn hF c).1 hL hpop hp hb, Option.bind_some, hs]
      cases hd : decide (p ∈ fallL (may n K E (F ||| gB x)) 7 L) with
      | true =>
        rw [if_pos (c := bI (!true) = 0) rfl, if_neg (c := (!true) = true) (by decide)]
        exact ih f (x + 1) _ (by omega) (by omega)
      | false =>
        rw [if_neg (c := bI (!false) = 0) (by decide), if_pos (c := (!false) = true) rfl]
        exact ⟨_, rfl⟩
    · have hs : ¬ s1 n K E F L p x = true := by unfold s1; simp [c]
      rw [if_neg c, if_pos ((lg_cmp_eq _ _).mpr rfl), if_neg hs]
      exact ih f (x + 1) _ (by omega) (by omega)
theorem m_88 {m : Int32} (hm : ¬ m = -9) (f : Nat) (x r rs : Int32) (t row : Nat → Int32) : fX4_findFeed_88 (nI n) kq page (nI p) (f + 1) x rs m r t row = some (rs, m, r, t, row) := by
  rw [fX4_findFeed_88, if_neg hm, ite_self]
theorem m_36 {m : Int32} (hm : ¬ m = -9) (f : Nat) (x r rs : Int32) (t row : Nat → Int32) : fX4_findFeed_36 (nI n) kq page (nI p) (f + 1) x rs m r t row = some (rs, m, r, t, row) := by
  rw [fX4_findFeed_36, if_neg hm, ite_self, m_88 hm]
theorem m_one (hn : n ≤ 7) (hk : KindR kq n K) (hF : FOk n F) (hL : L < 128) (hq : PageR page E F L D day) (hp : p < 7) :
    ∀ (k f x : Nat) (rs : Int32) (t row : Nat → Int32), x + k = 67 → k + 1 < f → ∃ rs' t' row', fX4_findFeed_36 (nI n) kq page (nI p) f (nI x) rs (-9) (-9) t row = (match fstP (s1 n K E F L p) k x with | none => fX4_findFeed_88 (nI n) kq page (nI p) 6702 0 rs' (-9) (-9) t' row' | some y => some (rs', 1, nI y, t', row')) := by
  have e67 : (67 : Int32) = nI 67 := rfl
  intro k
  induction k with
  | zero =>
    intro f x rs t row hx hf
    obtain ⟨f, rfl⟩ : ∃ f', f = f' + 1 := ⟨f - 1, by omega⟩
    rw [fX4_findFeed_36, e67, if_pos (by rw [k_nIl (by omega) (by omega)]; omega)]
    exact ⟨rs, t, row, rfl⟩
  | succ k ih =>
    intro f x rs t row hx hf
    obtain ⟨f, rfl⟩ : ∃ f', f = f' + 1 := ⟨f - 1, by omega⟩
    have hx100 : x < 100 := by omega
    rw [fX4_findFeed_36, e67, if_neg (by rw [k_nIl (by omega) (by omega)]; omega), if_pos (c := (-9 : Int32) = -9) rfl, m_isPair hn hq hx100, Option.bind_some, nI_1, fstP]
    by_cases c : nwP n F x = true
    · have hs : s1 n K E F L p x = !decide (p ∈ fallL (may n K E (F ||| gB x)) 7 L) := by unfold s1; rw [c, Bool.true_and]
      obtain ⟨⟨rs', t', row'⟩, l1⟩ := m_safe1 (rs := rs) (t := t) (row := row) hn hk hF hL hq hp hx100 c
      rw [c, if_neg (c := bI true = 0) (by decide), l1, Option.bind_some, hs]
      cases hd : decide (p ∈ fallL (may n K E (F ||| gB x)) 7 L) with
      | true =>
        rw [if_pos (c := bI (!true) = 0) rfl, if_neg (c := (!true) = true) (by decide)]
        exact ih f (x + 1) rs' t' row' (by omega) (by omega)
      | false =>
        obtain ⟨f, rfl⟩ : ∃ f', f = f' + 1 := ⟨f - 1, by omega⟩
        rw [if_neg (c := bI (!false) = 0) (by decide), if_pos (c := (!false) = true) rfl, m_36 (by decide)]
        exact ⟨rs', t', row', rfl⟩
    · have hs : ¬ s1 n K E F L p x = true := by unfold s1; simp [c]
      have hc : nwP n F x = false := by simpa using c
      rw [hc, if_pos (c := bI false = 0) rfl, if_neg hs]
      exact ih f (x + 1) rs t row (by omega) (by omega)
theorem x_two30 (hn : n ≤ 7) (hK : K < 2 ^ 28) (hE : E < 2 ^ 28) (hF : FOk n F) (hL : L < 128) (hpop : pop L ≤ n) (hp : p < 7) (hb : L.testBit p = true) (k13 : Int32 → Int32 → Int64 → Option (Int32 × Int64)) {a : Nat} (ha : a < 10 * n) :
    ∀ (k f b : Nat) (tf : Int64), b + k = 10 * n → k < f → ∃ w, fX3_twoPairs_30 (nI n) (lN F) (nI n) (nI K) (nI E) (nI L) (nI p) k13 f (nI (10 * n)) (nI a) (if nwP n F a then lN (gB a) else 0) (nI b) tf = (match fstP (s2 n K E F L p a) k b with | none => k13 (nI (10 * n)) (nI (a + 1)) w | some y => some (nI (100 * a + y), w)) := by
  intro k
  induction k with
  | zero =>
    intro f b tf hx hf
    obtain ⟨f, rfl⟩ : ∃ f', f = f' + 1 := ⟨f - 1, by omega⟩
    rw [fX3_twoPairs_30, if_pos (c := nI (10 * n) ≤ nI b) (by rw [k_nIl (by omega) (by omega)]; omega), ite_self, nI_1]
    exact ⟨tf, rfl⟩
  | succ k ih =>
    intro f b tf hx hf
    obtain ⟨f, rfl⟩ : ∃ f', f = f' + 1 := ⟨f - 1, by omega⟩
    have hb100 : b < 100 := by omega
    by_cases ca : nwP n F a = true
    · have ih1 := fun tf' => ih f (b + 1) tf' (by omega) (by omega)
      rw [if_pos ca] at ih1 ⊢
      rw [fX3_twoPairs_30, if_neg (fun z => lN_ne0 (gB_pos a) (Nat.lt_trans (gB_lt hn ca) (by decide)) ((lg_cmp_eq _ _).mp z)), if_neg (c := nI (10 * n) ≤ nI b) (by rw [k_nIl (by omega) (by omega)]; omega), x_newPair hn hb100, Option.bind_some, nI_1 b, fstP]
      by_cases c : nwP n F b = true
      · have hs : s2 n K E F L p a b = !decide (p ∈ fallL (may n K E (F ||| gB a ||| gB b)) 7 L) := by unfold s2; rw [ca, c, Bool.true_and, Bool.true_and]
        have hg := (FOk_g hn (FOk_g hn hF ca) c).1
        rw [Nat.or_assoc] at hg
        rw [if_pos c, if_neg (fun z => lN_ne0 (gB_pos b) (Nat.lt_trans (gB_lt hn c) (by decide)) ((lg_cmp_eq _ _).mp z)), fb_orL, x_saves hn hK hE hg hL hpop hp hb, Option.bind_some, hs, Nat.or_assoc F (gB a) (gB b)]
        cases hd : decide (p ∈ fallL (may n K E (F ||| (gB a ||| gB b))) 7 L) with
        | true =>
          rw [if_pos (c := bI (!true) = 0) rfl, if_neg (c := (!true) = true) (by decide)]
          exact ih1 _
        | false =>
          rw [if_neg (c := bI (!false) = 0) (by decide), if_pos (c := (!false) = true) rfl, show (100 : Int32) = nI 100 from rfl, pk_mul, nI_add]
          exact ⟨_, rfl⟩
      · have hs : ¬ s2 n K E F L p a b = true := by unfold s2; simp [c]
        rw [if_neg c, if_pos ((lg_cmp_eq _ _).mpr rfl), if_neg hs]
        exact ih1 _
    · have hno : ∀ (j y : Nat), fstP (s2 n K E F L p a) j y = none := by
        intro j
        induction j with
        | zero => intro y; rfl
        | succ j ih2 => intro y; rw [fstP, if_neg (by unfold s2; simp [ca]), ih2]
      rw [if_neg ca, fX3_twoPairs_30, if_pos ((lg_cmp_eq _ _).mpr rfl), nI_1, hno]
      exact ⟨tf, rfl⟩
def fst2 (n K E F L p : Nat) : Nat → Nat → Option Nat
  | 0, _ => none
  | k + 1, a => match fstP (s2 n K E F L p a) (10 * n - (a + 1)) (a + 1) with
    | some y => some (100 * a + y)
    | none => fst2 n K E F L p k (a + 1)
theorem x_two13 (hn : n ≤ 7) (hK : K < 2 ^ 28) (hE : E < 2 ^ 28) (hF : FOk n F) (hL : L < 128) (hpop : pop L ≤ n) (hp : p < 7) (hb : L.testBit p = true) :
    ∀ (k f a : Nat) (tf : Int64), a + k = 10 * n → k < f → ∃ w, fX3_twoPairs_13 (nI n) (lN F) (nI n) (nI K) (nI E) (nI L) (nI p) f (nI (10 * n)) (nI a) tf = some (opt9 (fst2 n K E F L p k a), w) := by
  intro k
  induction k with
  | zero =>
    intro f a tf hx hf
    obtain ⟨f, rfl⟩ : ∃ f', f = f' + 1 := ⟨f - 1, by omega⟩
    rw [fX3_twoPairs_13, if_pos (c := nI (10 * n) ≤ nI a) (by rw [k_nIl (by omega) (by omega)]; omega)]
    exact ⟨tf, rfl⟩
  | succ k ih =>
    intro f a tf hx hf
    obtain ⟨f, rfl⟩ : ∃ f', f = f' + 1 := ⟨f - 1, by omega⟩
    rw [fX3_twoPairs_13, if_neg (c := nI (10 * n) ≤ nI a) (by rw [k_nIl (by omega) (by omega)]; omega), x_newPair hn (by omega), Option.bind_some, nI_1]
    obtain ⟨w, h1⟩ := x_two30 hn hK hE hF hL hpop hp hb (fun x2 x3 s_trial_feeding => fX3_twoPairs_13 (nI n) (lN F) (nI n) (nI K) (nI E) (nI L) (nI p) f x2 x3 s_trial_feeding) (a := a) (by omega) (10 * n - (a + 1)) 72 (a + 1) tf (by omega) (by omega)
    rw [h1, fst2]
    cases hh : fstP (s2 n K E F L p a) (10 * n - (a + 1)) (a + 1) with
    | none => exact ih f (a + 1) w (by omega) (by omega)
    | some y => exact ⟨w, rfl⟩
theorem m_two (hn : n ≤ 7) (hk : KindR kq n K) (hF : FOk n F) (hL : L < 128) (hq : PageR page E F L D day) (hp : p < 7) :
    ∀ (k f x : Nat) (rs : Int32) (t row : Nat → Int32), x + k = 6700 → k + 1 < f → ∃ rs' t' row', fX4_findFeed_88 (nI n) kq page (nI p) f (nI x) rs (-9) (-9) t row = (match fstP (sQ n K E F L p) k x with | none => some (rs', -9, -9, t', row') | some y => some (rs', 2, nI y, t', row')) := by
  have e67 : (6700 : Int32) = nI 6700 := rfl
  have e100 : (100 : Int32) = nI 100 := rfl
  intro k
  induction k with
  | zero =>
    intro f x rs t row hx hf
    obtain ⟨f, rfl⟩ : ∃ f', f = f' + 1 := ⟨f - 1, by omega⟩
    rw [fX4_findFeed_88, e67, if_pos (by rw [k_nIl (by omega) (by omega)]; omega)]
    exact ⟨rs, t, row, rfl⟩
  | succ k ih =>
    intro f x rs t row hx hf
    obtain ⟨f, rfl⟩ : ∃ f', f = f' + 1 := ⟨f - 1, by omega⟩
    have ha : x / 100 < 100 := by omega
    have hb : x % 100 < 100 := by omega
    have hee : (nI (x / 100) = nI (x % 100)) = (x / 100 = x % 100) := k_nIe (by omega) (by omega)
    rw [fX4_findFeed_88, e67, if_neg (by rw [k_nIl (by omega) (by omega)]; omega), if_pos (c := (-9 : Int32) = -9) rfl, e100, pk_rem (by omega) (by decide) (by decide), pk_div (by omega) (by decide) (by decide), m_isPair hn hq ha, m_isPair hn hq hb, nI_1, fstP]
    by_cases c0 : x / 100 = x % 100
    · have hs : ¬ sQ n K E F L p x = true := by unfold sQ; simp [c0]
      rw [if_pos (hee.mpr c0), if_neg hs]
      exact ih f (x + 1) rs t row (by omega) (by omega)
    · rw [if_neg (fun z => c0 (hee.mp z)), Option.bind_some]
      by_cases ca : nwP n F (x / 100) = true
      · rw [ca, if_neg (c := bI true = 0) (by decide), Option.bind_some]
        by_cases cb : nwP n F (x % 100) = true
        · have hs : sQ n K E F L p x = !decide (p ∈ fallL (may n K E (F ||| gB (x / 100) ||| gB (x % 100))) 7 L) := by unfold sQ s2; rw [ca, cb, decide_eq_false c0]; simp
          obtain ⟨⟨rs', t', row'⟩, l1⟩ := m_safe2 (rs := rs) (t := t) (row := row) hn hk hF hL hq hp ha hb ca cb
          rw [cb, if_neg (c := bI true = 0) (by decide), l1, Option.bind_some, hs]
          cases hd : decide (p ∈ fallL (may n K E (F ||| gB (x / 100) ||| gB (x % 100))) 7 L) with
          | true =>
            rw [if_pos (c := bI (!true) = 0) rfl, if_neg (c := (!true) = true) (by decide)]
            exact ih f (x + 1) rs' t' row' (by omega) (by omega)
          | false =>
            obtain ⟨f, rfl⟩ : ∃ f', f = f' + 1 := ⟨f - 1, by omega⟩
            rw [if_neg (c := bI (!false) = 0) (by decide), if_pos (c := (!false) = true) rfl, m_88 (by decide)]
            exact ⟨rs', t', row', rfl⟩
        · have hs : ¬ sQ n K E F L p x = true := by unfold sQ s2; simp [cb]
          have hc : nwP n F (x % 100) = false := by simpa using cb
          rw [hc, if_pos (c := bI false = 0) rfl, if_neg hs]
          exact ih f (x + 1) rs t row (by omega) (by omega)
      · have hs : ¬ sQ n K E F L p x = true := by unfold sQ s2; simp [ca]
        have hc : nwP n F (x / 100) = false := by simpa using ca
        rw [hc, if_pos (c := bI false = 0) rfl, if_neg hs]
        exact ih f (x + 1) rs t row (by omega) (by omega)
theorem s2_sym (a b : Nat) : s2 n K E F L p a b = s2 n K E F L p b a := by
  unfold s2
  rw [Nat.or_assoc, Nat.or_comm (gB a) (gB b), ← Nat.or_assoc]
  cases nwP n F a <;> cases nwP n F b <;> rfl
theorem s2_lt {a b : Nat} (hn : n ≤ 7) (h : s2 n K E F L p a b = true) : a < 67 ∧ b < 67 ∧ a < 10 * n ∧ b < 10 * n := by
  unfold s2 at h
  simp only [Bool.and_eq_true] at h
  obtain ⟨h1, h2, -⟩ := nw_of h.1
  obtain ⟨h3, h4, -⟩ := nw_of h.2.1
  omega
theorem fst2_some : ∀ {k a r : Nat}, fst2 n K E F L p k a = some r → ∃ c d, a ≤ c ∧ c < d ∧ r = 100 * c + d ∧ s2 n K E F L p c d = true ∧ ∀ c' d', a ≤ c' → c' < d' → d' < 10 * n → (c' < c ∨ (c' = c ∧ d' < d)) → s2 n K E F L p c' d' = false
  | 0, a, r, h => by simp [fst2] at h
  | k + 1, a, r, h => by
    rw [fst2] at h
    cases hh : fstP (s2 n K E F L p a) (10 * n - (a + 1)) (a + 1) with
    | some y =>
      rw [hh] at h
      cases h
      obtain ⟨h1, h2, h3, h4⟩ := fstP_some hh
      refine ⟨a, y, Nat.le_refl _, by omega, rfl, h3, fun c' d' e1 e2 e3 e4 => ?_⟩
      have : c' = a := by omega
      subst this
      exact h4 d' (by omega) (by omega)
    | none =>
      rw [hh] at h
      have hno := fstP_none hh
      obtain ⟨c, d, h1, h2, h3, h4, h5⟩ := fst2_some h
      refine ⟨c, d, by omega, h2, h3, h4, fun c' d' e1 e2 e3 e4 => ?_⟩
      by_cases e : c' = a
      · subst e; exact hno d' (by omega) (by omega)
      · exact h5 c' d' (by omega) e2 e3 e4
theorem fst2_none : ∀ {k a : Nat}, fst2 n K E F L p k a = none → ∀ c d, a ≤ c → c < a + k → c < d → d < 10 * n → s2 n K E F L p c d = false
  | 0, a, _, c, d, h1, h2, _, _ => by omega
  | k + 1, a, h, c, d, h1, h2, h3, h4 => by
    rw [fst2] at h
    cases hh : fstP (s2 n K E F L p a) (10 * n - (a + 1)) (a + 1) with
    | some y => rw [hh] at h; cases h
    | none =>
      rw [hh] at h
      by_cases e : c = a
      · subst e; exact fstP_none hh d (by omega) (by omega)
      · exact fst2_none h c d (by omega) (by omega) h3 h4
theorem two_eq (hn : n ≤ 7) : fst2 n K E F L p (10 * n) 0 = fstP (sQ n K E F L p) 6700 0 := by
  have sq : ∀ c d, s2 n K E F L p c d = true → ¬ c = d → sQ n K E F L p (100 * c + d) = true ∧ 100 * c + d < 6700 := by
    intro c d h hne
    obtain ⟨h1, h2, -, -⟩ := s2_lt hn h
    unfold sQ
    rw [show (100 * c + d) / 100 = c by omega, show (100 * c + d) % 100 = d by omega, h, decide_eq_false hne]
    exact ⟨rfl, by omega⟩
  have qs : ∀ z, sQ n K E F L p z = true → s2 n K E F L p (z / 100) (z % 100) = true ∧ ¬ z / 100 = z % 100 := by
    intro z h
    unfold sQ at h
    simp only [Bool.and_eq_true, Bool.not_eq_true', decide_eq_false_iff_not] at h
    exact ⟨h.2, h.1⟩
  cases hx : fst2 n K E F L p (10 * n) 0 with
  | none =>
    have hno := fst2_none hx
    cases hm : fstP (sQ n K E F L p) 6700 0 with
    | none => rfl
    | some y =>
      obtain ⟨-, -, h3, -⟩ := fstP_some hm
      obtain ⟨h5, h6⟩ := qs y h3
      obtain ⟨-, -, g1, g2⟩ := s2_lt hn h5
      exfalso
      rcases Nat.lt_or_ge (y / 100) (y % 100) with g | g
      · rw [hno _ _ (Nat.zero_le _) (by omega) g g2] at h5; cases h5
      · rw [s2_sym, hno _ _ (Nat.zero_le _) (by omega) (by omega) g1] at h5; cases h5
  | some r =>
    obtain ⟨c, d, h1, h2, h3, h4, h5⟩ := fst2_some hx
    obtain ⟨q1, q2⟩ := sq c d h4 (by omega)
    cases hm : fstP (sQ n K E F L p) 6700 0 with
    | none => rw [fstP_none hm (100 * c + d) (Nat.zero_le _) (by omega)] at q1; cases q1
    | some y =>
      obtain ⟨-, -, m3, m4⟩ := fstP_some hm
      obtain ⟨g5, g6⟩ := qs y m3
      obtain ⟨-, -, g1, g2⟩ := s2_lt hn g5
      have hle : y ≤ 100 * c + d := by
        rcases Nat.lt_or_ge (100 * c + d) y with z | z
        · rw [m4 _ (Nat.zero_le _) z] at q1; cases q1
        · exact z
      have hcd := s2_lt hn h4
      rcases Nat.lt_or_ge (y / 100) (y % 100) with g | g
      · have : ¬ (y / 100 < c ∨ (y / 100 = c ∧ y % 100 < d)) := fun z => by
          rw [h5 _ _ (Nat.zero_le _) g g2 z] at g5; cases g5
        have : y = 100 * c + d := by omega
        rw [this, h3]
      · exfalso
        rw [s2_sym] at g5
        obtain ⟨w1, w2⟩ := sq _ _ g5 (fun z => g6 z.symm)
        rw [m4 _ (Nat.zero_le _) (by omega)] at w1; cases w1
theorem one_eq (hn : n ≤ 7) : fstP (s1 n K E F L p) (10 * n) 0 = fstP (s1 n K E F L p) 67 0 := by
  have lt : ∀ z, s1 n K E F L p z = true → z < 67 ∧ z < 10 * n := by
    intro z h
    unfold s1 at h
    simp only [Bool.and_eq_true] at h
    obtain ⟨h1, h2, -⟩ := nw_of h.1
    omega
  cases hx : fstP (s1 n K E F L p) (10 * n) 0 with
  | none =>
    cases hm : fstP (s1 n K E F L p) 67 0 with
    | none => rfl
    | some y =>
      obtain ⟨-, -, h3, -⟩ := fstP_some hm
      rw [fstP_none hx y (Nat.zero_le _) (by have := lt y h3; omega)] at h3; cases h3
  | some x =>
    obtain ⟨-, -, h3, h4⟩ := fstP_some hx
    cases hm : fstP (s1 n K E F L p) 67 0 with
    | none => rw [fstP_none hm x (Nat.zero_le _) (by have := lt x h3; omega)] at h3; cases h3
    | some y =>
      obtain ⟨-, -, g3, g4⟩ := fstP_some hm
      rcases Nat.lt_trichotomy x y with z | z | z
      · rw [g4 x (Nat.zero_le _) z] at h3; cases h3
      · rw [z]
      · rw [h4 y (Nat.zero_le _) z] at g3; cases g3
end Feed
