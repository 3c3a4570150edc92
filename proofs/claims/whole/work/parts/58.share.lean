/-! PURE: share -/
def fac : Nat → Nat
  | 0 => 1
  | k + 1 => (k + 1) * fac k
theorem k_fac : ∀ k, k < 8 → fX3_factorial (nI k) = some (nI (fac k)) ∧ fX4_ways (nI k) = some (nI (fac k)) := by decide +kernel
theorem fac_b : ∀ k, k < 8 → 0 < fac k ∧ fac k < 2 ^ 13 := by decide +kernel
theorem fac_2 : ∀ m, m < 7 → ∀ c, c < 7 → c ≤ m → fac c * fac (m - c) ≤ 720 := by decide +kernel
theorem sub_iff {z O : Nat} (hz : z < 128) : z &&& O = z ↔ ∀ q, q < 7 → z.testBit q = true → O.testBit q = true := by
  constructor
  · intro h q _ hb
    rw [← h, Nat.testBit_and, Bool.and_eq_true] at hb
    exact hb.2
  · intro h
    apply set_ext (Nat.lt_of_le_of_lt Nat.and_le_left hz) hz
    intro q hq
    rw [Nat.testBit_and]
    cases hb : z.testBit q with
    | false => rfl
    | true => rw [h q hq hb]; rfl
theorem sub_clr {z L p : Nat} (hz : z < 128) (hL : L < 128) (hp : p < 7) : z &&& clr L p = z ↔ (z &&& L = z ∧ z.testBit p = false) := by
  rw [sub_iff hz, sub_iff hz]
  constructor
  · intro h
    refine ⟨fun q hq hb => ?_, ?_⟩
    · have := h q hq hb
      rw [clr_bit L hL p hp q hq, Bool.and_eq_true] at this
      exact this.1
    · cases hb : z.testBit p with
      | false => rfl
      | true =>
        have := h p hp hb
        rw [clr_bit L hL p hp p hp] at this
        simp at this
  · rintro ⟨h1, h2⟩ q hq hb
    rw [clr_bit L hL p hp q hq, h1 q hq hb]
    have : ¬ q = p := fun e => by rw [e, h2] at hb; cases hb
    simp [this]
theorem pop_sub : ∀ z, z < 128 → ∀ O, O < 128 → z &&& O = z → pop z ≤ pop O := by decide +kernel
theorem bit_sub : ∀ L, L < 128 → ∀ p, p < 7 → L.testBit p = true → 2 ^ p &&& L = 2 ^ p := by decide +kernel
theorem or_sub {z L p : Nat} (hL : L < 128) (hp : p < 7) (hb : L.testBit p = true) (h : z &&& L = z) : (z ||| 2 ^ p) &&& L = z ||| 2 ^ p := by
  rw [Nat.and_or_distrib_right, h, bit_sub L hL p hp hb]
def tmS (m : Nat) (cnt : Nat → Nat) (p z : Nat) : Int32 := nI (fac (pop z)) * nI (fac (m - pop z)) * (nI (cnt (z ||| 2 ^ p)) - nI (cnt z))
def smS (O : Nat) (tm : Nat → Int32) : Nat → Int32
  | 0 => 0
  | k + 1 => if k &&& O = k then smS O tm k + tm k else smS O tm k
theorem smS_bd {O : Nat} {tm : Nat → Int32} (h : ∀ k, k < 128 → k &&& O = k → -5040 ≤ (tm k).toInt ∧ (tm k).toInt ≤ 5040) : ∀ k : Nat, k ≤ 128 → -((k : Int) * 5040) ≤ (smS O tm k).toInt ∧ (smS O tm k).toInt ≤ (k : Int) * 5040
  | 0, _ => by rw [smS]; decide
  | k + 1, hk => by
    have ih := smS_bd h k (by omega)
    rw [smS]
    by_cases c : k &&& O = k
    · have := h k (by omega) c
      rw [if_pos c, fb_addI (by omega) (by omega)]
      omega
    · rw [if_neg c]; omega
theorem smS_ext {O : Nat} {tm : Nat → Int32} : ∀ j, smS O tm (O + 1 + j) = smS O tm (O + 1)
  | 0 => rfl
  | j + 1 => by
    rw [← Nat.add_assoc, smS, if_neg, smS_ext j]
    intro z
    have : (O + 1 + j) &&& O ≤ O := Nat.and_le_right
    omega
theorem tmS_bd {m p z : Nat} {cnt : Nat → Nat} (hm : m < 7) (hz : pop z ≤ m) (hc : ∀ s, cnt s ≤ 7) : -5040 ≤ (tmS m cnt p z).toInt ∧ (tmS m cnt p z).toInt ≤ 5040 := by
  have hA := fac_2 m hm (pop z) (by omega) hz
  have h1 := hc (z ||| 2 ^ p)
  have h2 := hc z
  unfold tmS
  rw [pk_mul]
  generalize fac (pop z) * fac (m - pop z) = A at hA
  have hs := pk_sub_toInt (a := cnt (z ||| 2 ^ p)) (b := cnt z) (by omega) (by omega)
  have hAI : (nI A).toInt = (A : Int) := nI_toInt (by omega)
  have hd : (nI (cnt (z ||| 2 ^ p)) - nI (cnt z)).toInt = -7 ∨ (nI (cnt (z ||| 2 ^ p)) - nI (cnt z)).toInt = -6 ∨ (nI (cnt (z ||| 2 ^ p)) - nI (cnt z)).toInt = -5 ∨ (nI (cnt (z ||| 2 ^ p)) - nI (cnt z)).toInt = -4 ∨ (nI (cnt (z ||| 2 ^ p)) - nI (cnt z)).toInt = -3 ∨ (nI (cnt (z ||| 2 ^ p)) - nI (cnt z)).toInt = -2 ∨ (nI (cnt (z ||| 2 ^ p)) - nI (cnt z)).toInt = -1 ∨ (nI (cnt (z ||| 2 ^ p)) - nI (cnt z)).toInt = 0 ∨ (nI (cnt (z ||| 2 ^ p)) - nI (cnt z)).toInt = 1 ∨ (nI (cnt (z ||| 2 ^ p)) - nI (cnt z)).toInt = 2 ∨ (nI (cnt (z ||| 2 ^ p)) - nI (cnt z)).toInt = 3 ∨ (nI (cnt (z ||| 2 ^ p)) - nI (cnt z)).toInt = 4 ∨ (nI (cnt (z ||| 2 ^ p)) - nI (cnt z)).toInt = 5 ∨ (nI (cnt (z ||| 2 ^ p)) - nI (cnt z)).toInt = 6 ∨ (nI (cnt (z ||| 2 ^ p)) - nI (cnt z)).toInt = 7 := by omega
  generalize nI (cnt (z ||| 2 ^ p)) - nI (cnt z) = d at hs hd
  have key : -5040 ≤ (nI A).toInt * d.toInt ∧ (nI A).toInt * d.toInt ≤ 5040 := by
    rw [hAI]
    rcases hd with h | h | h | h | h | h | h | h | h | h | h | h | h | h | h <;> rw [h] <;> omega
  rw [fb_mulI (by omega) (by omega)]
  exact key
theorem as_signed (u : Int32) (h1 : -1000000 ≤ u.toInt) (h2 : u.toInt ≤ 1000000) : ∃ a, a < 2 ^ 31 ∧ (u = nI a ∨ (0 < a ∧ u = -nI a)) := by
  rcases Classical.em (u.toInt < 0) with h | h
  · refine ⟨(-u.toInt).toNat, by omega, Or.inr ⟨by omega, ?_⟩⟩
    apply Int32.toInt_inj.mp
    rw [sb_negT (by omega)]; omega
  · refine ⟨u.toInt.toNat, by omega, Or.inl ?_⟩
    apply Int32.toInt_inj.mp
    rw [nI_toInt (by omega)]; omega
theorem fall_le {mm : Nat → Nat} : ∀ k L, (fallL mm k L).length ≤ k
  | 0, _ => by simp [fallL]
  | k + 1, L => by
    rw [fallL]; split
    · simp
    · rw [List.length_cons]; exact Nat.succ_le_succ (fall_le k _)
section Share
variable {kq page : Nat → Int32} {n K E F L D p : Nat} {day a2 : Int32}
def cn (n K E F z : Nat) : Nat := (fallL (may n K E F) 7 z).length
theorem x_share58 (hn : n ≤ 7) (hK : K < 2 ^ 28) (hE : E < 2 ^ 28) (hF : F < 2 ^ 49) {O m : Nat} (hO : O < 2 ^ n) (hm : m = pop O) (hm6 : m < 7) (hp : p < n) :
    ∀ (k f z : Nat), z + k = O + 1 → k < f → fX3_share_58 (nI n) (nI K) (nI E) (lN F) (nI p) a2 f (nI O) (nI m) (smS O (tmS m (cn n K E F) p) z) (nI z) = fX3_inLeastTerms (smS O (tmS m (cn n K E F) p) (O + 1)) (nI (fac (m + 1))) a2 := by
  have hO7 := lt128 hn hO
  intro k
  induction k with
  | zero =>
    intro f z hz hf
    obtain ⟨f, rfl⟩ : ∃ f', f = f' + 1 := ⟨f - 1, by omega⟩
    have : z = O + 1 := by omega
    subst this
    rw [fX3_share_58, if_pos (by rw [k_nIt (by omega) (by omega)]; omega), nI_1, (k_fac (m + 1) (by omega)).1, Option.bind_some]
    cases fX3_inLeastTerms (smS O (tmS m (cn n K E F) p) (O + 1)) (nI (fac (m + 1))) a2 <;> rfl
  | succ k ih =>
    intro f z hz hf
    obtain ⟨f, rfl⟩ : ∃ f', f = f' + 1 := ⟨f - 1, by omega⟩
    have hz7 : z < 128 := by omega
    have cX : (nI z &&& nI O = nI z) = (z &&& O = z) := by rw [andI]; exact k_nIe (Nat.lt_of_le_of_lt Nat.and_le_left (by omega)) (by omega)
    have ih1 := ih f (z + 1) (by omega) (by omega)
    rw [smS] at ih1
    rw [fX3_share_58, if_neg (by rw [k_nIt (by omega) (by omega)]; omega), nI_1]
    by_cases c : z &&& O = z
    · have hzn : z < 2 ^ n := by omega
      have hzp := set_n n (by omega) z hz7 hzn p hp
      have hzp7 := lt128 hn hzp
      have hpz := pop_sub z hz7 O hO7 c
      rw [if_pos c] at ih1
      rw [if_pos (cX.mpr c), k_bitCount z hz7, Option.bind_some, (k_fac (pop z) (by omega)).1, Option.bind_some, pk_sub (by omega), (k_fac (m - pop z) (by omega)).1, Option.bind_some, k_bit p (by omega), Option.bind_some, orI, x_count hn hK hE hF hzp7 (pop_n n (by omega) _ hzp7 hzp), Option.bind_some, x_count hn hK hE hF hz7 (pop_n n (by omega) _ hz7 hzn), Option.bind_some]
      exact ih1
    · rw [if_neg c] at ih1
      rw [if_neg (fun q => c (cX.mp q))]
      exact ih1
theorem m_share87 (hn : n ≤ 7) {O m : Nat} (hL : L < 2 ^ n) (hO : O = clr L p) (hm : m = pop O) (hp : p < n) (hb : L.testBit p = true) {v : Nat → Int32} (hv : ∀ s, s ≤ L → s &&& L = s → v s = nI (cn n K E F s)) {th rs : Int32} {t row : Nat → Int32} :
    ∀ (k f z : Nat), z + k = L + 1 → k < f → fX4_share_87 (nI p) a2 f (nI L) (nI (m + 1)) (smS O (tmS m (cn n K E F) p) z) (nI z) th rs t row v = fX4_share_173 a2 (nI (m + 1)) (smS O (tmS m (cn n K E F) p) (L + 1)) th rs t row v := by
  have hL7 := lt128 hn hL
  have hp7 : p < 7 := by omega
  have hO7 : O < 128 := by rw [hO]; exact clr_lt L hL7 p hp7
  have hmL : m + 1 = pop L := by rw [hm, hO]; exact clr_pop L hL7 p hp7 hb
  have hpL := pop_le L
  intro k
  induction k with
  | zero =>
    intro f z hz hf
    obtain ⟨f, rfl⟩ : ∃ f', f = f' + 1 := ⟨f - 1, by omega⟩
    have : z = L + 1 := by omega
    subst this
    rw [fX4_share_87, if_pos (by rw [k_nIt (by omega) (by omega)]; omega)]
  | succ k ih =>
    intro f z hz hf
    obtain ⟨f, rfl⟩ : ∃ f', f = f' + 1 := ⟨f - 1, by omega⟩
    have hz7 : z < 128 := by omega
    have hdl := dif_lt z hz7 L hL7
    have cM : (nI z &&& (nI L ^^^ (-1)) = 0) = (z &&& L = z) := by
      rw [k_notand z hz7 L hL7]
      exact (k_nIe (b := 0) (by omega) (by decide)).trans (propext (sub_dif z hz7 L hL7)).symm
    have ih1 := ih f (z + 1) (by omega) (by omega)
    rw [smS] at ih1
    rw [fX4_share_87, if_neg (by rw [k_nIt (by omega) (by omega)]; omega), k_has L hL7 p hp7, hb, Option.bind_some, if_neg (c := bI true = 0) (by decide), nI_1 z]
    have hsc := sub_clr (z := z) hz7 hL7 hp7
    rw [← hO] at hsc
    by_cases c : z &&& L = z
    · rw [if_pos (cM.mpr c), k_has z hz7 p hp7, Option.bind_some]
      cases hzb : z.testBit p with
      | true =>
        have hno : ¬ z &&& O = z := fun q => by rw [(hsc.mp q).2] at hzb; cases hzb
        rw [if_neg hno] at ih1
        rw [if_neg (c := bI true = 0) (by decide)]
        exact ih1
      | false =>
        have hyes : z &&& O = z := hsc.mpr ⟨c, hzb⟩
        have hpz := pop_sub z hz7 O hO7 hyes
        have hor := or_sub hL7 hp7 hb c
        have horL : z ||| 2 ^ p ≤ L := by rw [← hor]; exact Nat.and_le_right
        have hzL : z ≤ L := by rw [← c]; exact Nat.and_le_right
        rw [if_pos hyes] at ih1
        rw [if_pos (c := bI false = 0) rfl, k_many z hz7, Option.bind_some, (k_fac (pop z) (by omega)).2, Option.bind_some, nI_pred, pk_sub (by omega), (k_fac (m - pop z) (by omega)).2, Option.bind_some, k_shl1 p (by omega), orI, ck_nI (by omega) (by decide), ck_nI (by omega) (by decide), clamp (by omega), clamp (by omega), hv _ horL hor, hv _ hzL c]
        exact ih1
    · have hno : ¬ z &&& O = z := fun q => c (hsc.mp q).1
      rw [if_neg hno] at ih1
      rw [if_neg (fun q => c (cM.mp q))]
      exact ih1
theorem m_share32 (hn : n ≤ 7) (hk : KindR kq n K) (hF : FOk n F) (hL : L < 128) (hq : PageR page E F L D day) {x4 th : Int32} {pI : Int32} :
    ∀ (k f z : Nat) (rs : Int32) (t row v : Nat → Int32), z + k = L + 1 → k < f → (∀ s, s < z → s &&& L = s → v s = nI (cn n K E F s)) → ∃ rs' t' row' v', fX4_share_32 (nI n) kq page pI a2 f (nI L) x4 (nI z) th rs t row v = fX4_share_87 pI a2 130 (nI L) x4 0 0 th rs' t' row' v' ∧ ∀ s, s ≤ L → s &&& L = s → v' s = nI (cn n K E F s) := by
  intro k
  induction k with
  | zero =>
    intro f z rs t row v hz hf hv
    obtain ⟨f, rfl⟩ : ∃ f', f = f' + 1 := ⟨f - 1, by omega⟩
    rw [fX4_share_32, if_pos (by rw [k_nIt (by omega) (by omega)]; omega)]
    exact ⟨rs, t, row, v, rfl, fun s hs => hv s (by omega)⟩
  | succ k ih =>
    intro f z rs t row v hz hf hv
    obtain ⟨f, rfl⟩ : ∃ f', f = f' + 1 := ⟨f - 1, by omega⟩
    have hz7 : z < 128 := by omega
    have hdl := dif_lt z hz7 L hL
    have cM : (nI z &&& (nI L ^^^ (-1)) = 0) = (z &&& L = z) := by
      rw [k_notand z hz7 L hL]
      exact (k_nIe (b := 0) (by omega) (by decide)).trans (propext (sub_dif z hz7 L hL)).symm
    rw [fX4_share_32, if_neg (by rw [k_nIt (by omega) (by omega)]; omega), nI_1]
    by_cases c : z &&& L = z
    · obtain ⟨t', b1, b2⟩ := m_begin page t
      obtain ⟨o, l1, l2⟩ := m_lay (rs := rs) (row := row) hn hk hF hz7 (PageR_L (L' := z) (PageR_congr hq b2))
      rw [if_pos (cM.mpr c), b1, Option.bind_some, k14, c14, l1, Option.bind_some, ck_nI hz7 (by decide), clamp (by omega)]
      refine ih f (z + 1) _ _ _ _ (by omega) (by omega) (fun s hs hsL => ?_)
      by_cases e : s = z
      · subst e; rw [pk_us]; exact l2.1
      · rw [pk_un e]; exact hv s (by omega) hsL
    · rw [if_neg (fun q => c (cM.mp q))]
      refine ih f (z + 1) _ _ _ _ (by omega) (by omega) (fun s hs hsL => ?_)
      by_cases e : s = z
      · subst e; exact absurd hsL c
      · exact hv s (by omega) hsL
theorem fr0 : ∀ k, k < 8 → ((fX4_divisor (Int32.toInt64 0) (Int32.toInt64 (nI (fac k)))).bind fun o1 => dvL o1 (some (Int64.toInt32 ((Int32.toInt64 (nI (fac k))) / o1)))) = some 1 ∧ ((fX4_divisor (Int32.toInt64 0) (Int32.toInt64 (nI (fac k)))).bind fun o1 => dvL o1 (some (Int64.toInt32 ((Int32.toInt64 0) / o1)))) = some 0 := by decide +kernel
theorem frac_0 {k : Nat} (hk : k < 8) (a2 : Int32) : fX4_fraction (Int32.toInt64 0) (Int32.toInt64 (nI (fac k))) a2 = some (if a2 = 0 then 1 else 0) := by
  unfold fX4_fraction
  by_cases c : a2 = 0
  · simp only [if_pos c]; exact (fr0 k hk).1
  · simp only [if_neg c]; exact (fr0 k hk).2
theorem least_0 (a2 : Int32) : fX3_inLeastTerms 0 1 a2 = some (if a2 = 0 then 1 else 0) := by
  have h : fX3_commonDivisor (if (0 : Int32) ≤ 0 then 0 else 0 - 0) 1 = some 1 := by decide +kernel
  unfold fX3_inLeastTerms
  rw [h, Option.bind_some]
  by_cases c : a2 = 0
  · rw [if_pos c, if_pos c]; decide +kernel
  · rw [if_neg c, if_neg c]; decide +kernel
theorem v_share {t row v : Nat → Int32} {th rs : Int32} (ok : COk n K E F L D) (hk : KindR kq n K) (hq : PageR page E F L D day) (a b : Int32) :
    ∃ r w, fX3_share (nI n) (nI K) (nI E) (lN F) (nI L) a b = some r ∧ fX4_share th (nI n) rs kq page t row v a b = some (r, w) := by
  obtain ⟨hn, hK, hE, hF, hL, hD, hLD⟩ := ok
  have hL' := lt128 hn hL
  have hpL := pop_le L
  have h10 : ¬ (1 : Int32) = 0 := by decide
  unfold fX3_share fX4_share
  rcases who n hn a with ⟨p, hpn, rfl, w1, w2⟩ | ⟨w1, w2⟩
  · have hp7 : p < 7 := by omega
    obtain ⟨rs', t', row', v', m1, m2⟩ := m_share32 (a2 := b) (x4 := nI (pop L)) (th := 0) (pI := nI p) hn hk hF hL' hq (L + 1) 130 0 rs t row v (by omega) (by omega) (fun s hs => by omega)
    have m1 : fX4_share_32 (nI n) kq page (nI p) b 130 (nI L) (nI (pop L)) 0 0 rs t row v = fX4_share_87 (nI p) b 130 (nI L) (nI (pop L)) 0 0 0 rs' t' row' v' := m1
    rw [w1, w2, Option.bind_some, Option.bind_some, if_neg h10, if_pos (c := (0 : Int32) = 0) rfl, k14, c14, hq.2.2.1, k_many L hL', Option.bind_some, m1, k_isIn _ hL' p hp7, Option.bind_some]
    cases hb : L.testBit p with
    | false =>
      have hm : fX4_share_87 (nI p) b 130 (nI L) (nI (pop L)) 0 0 0 rs' t' row' v' = fX4_share_173 b (nI (pop L)) 0 0 rs' t' row' v' := by
        rw [show (130 : Nat) = 129 + 1 from rfl, fX4_share_87, if_neg (c := nI L < 0) (nI_pos (by omega)), k_has L hL' p hp7, hb, Option.bind_some, if_pos (c := bI false = 0) rfl]
      rw [hm]
      unfold fX4_share_173
      rw [if_pos (c := bI false = 0) rfl, least_0, Option.bind_some, (k_fac (pop L) (by omega)).2, Option.bind_some, frac_0 (by omega), Option.bind_some]
      exact ⟨_, _, rfl, rfl⟩
    | true =>
      have hO7 := clr_lt L hL' p hp7
      have hOn := clr_n n (by omega) L hL' hL p hp7
      have hmL := clr_pop L hL' p hp7 hb
      have hx := x_share58 (a2 := b) (m := pop (clr L p)) hn hK hE hF.1 hOn rfl (by omega) hpn (clr L p + 1) 130 0 (by omega) (by omega)
      have hx : fX3_share_58 (nI n) (nI K) (nI E) (lN F) (nI p) b 130 (nI (clr L p)) (nI (pop (clr L p))) 0 0 = fX3_inLeastTerms (smS (clr L p) (tmS (pop (clr L p)) (cn n K E F) p) (clr L p + 1)) (nI (fac (pop (clr L p) + 1))) b := hx
      have hm := m_share87 (a2 := b) (m := pop (clr L p)) (th := 0) (rs := rs') (t := t') (row := row') hn hL rfl rfl hpn hb m2 (L + 1) 130 0 (by omega) (by omega)
      have hm : fX4_share_87 (nI p) b 130 (nI L) (nI (pop (clr L p) + 1)) 0 0 0 rs' t' row' v' = fX4_share_173 b (nI (pop (clr L p) + 1)) (smS (clr L p) (tmS (pop (clr L p)) (cn n K E F) p) (L + 1)) 0 rs' t' row' v' := hm
      have hOL : clr L p < L + 1 := by
        have : clr L p ≤ L := by
          unfold clr; split <;> first | exact Nat.sub_le _ _ | exact Nat.le_refl _
        omega
      have hext := smS_ext (O := clr L p) (tm := tmS (pop (clr L p)) (cn n K E F) p) (L - clr L p)
      rw [show clr L p + 1 + (L - clr L p) = L + 1 by omega] at hext
      have hbd := smS_bd (O := clr L p) (tm := tmS (pop (clr L p)) (cn n K E F) p) (fun z hz hs => by
        have hpz := pop_sub z hz _ hO7 hs
        have hcn : ∀ s, cn n K E F s ≤ 7 := fun s => fall_le 7 s
        exact tmS_bd (by omega) hpz hcn) (clr L p + 1) (by omega)
      obtain ⟨A, hA, hu⟩ := as_signed _ (by omega : -1000000 ≤ (smS (clr L p) (tmS (pop (clr L p)) (cn n K E F) p) (clr L p + 1)).toInt) (by omega)
      have hfb := fac_b (pop (clr L p) + 1) (by omega)
      obtain ⟨r, r1, r2⟩ := frac_both hA hfb.1 hfb.2 hu b
      rw [if_neg (c := bI true = 0) (by decide), k_without L hL' p hp7, Option.bind_some, k_bitCount _ hO7, Option.bind_some, hx, r1, ← hmL, hm, hext]
      unfold fX4_share_173
      rw [(k_fac (pop (clr L p) + 1) (by omega)).2, Option.bind_some, r2, Option.bind_some]
      exact ⟨_, _, rfl, rfl⟩
  · rw [w1, w2, Option.bind_some, Option.bind_some, if_pos (c := (0 : Int32) = 0) rfl, if_neg h10]
    exact ⟨_, _, rfl, rfl⟩
end Share
theorem op_share {S : XS} {T : MS} (a b : Int32) (h : Rel S T) : Op (gX_share S a b) (gM_share T a b) := by
  obtain ⟨n, K, E, F, L, D, day, ⟨ok, e, ep, hk, hq⟩, -⟩ := id h
  obtain ⟨r, w, hx, hm⟩ := v_share (th := ms_thrown T) (rs := ms_rowSize T) (t := ms_trial T) (row := ms_row T) (v := ms_value T) ok hk hq a b
  rw [← ep] at hm
  have hx : fX3_share (xs_now S).1 (xs_now S).2.1 (xs_now S).2.2.1 (xs_now S).2.2.2.1 (xs_now S).2.2.2.2.1 a b = some r := by rw [e]; exact hx
  unfold gX_share gM_share
  rw [hx, hm]
  exact ⟨_, _, _, rfl, rfl, h⟩
