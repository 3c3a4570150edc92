/-! PURE: rests -/
def chN (p a : Nat) : Nat := if a = 0 ∨ a = p + 1 then 0 else 2 ^ (7 * (a - 1) + p)
def gN (p a : Nat) : Nat := if a = 0 then 0 else 2 ^ (7 * (a - 1) + p)
def cst (a : Nat) : Nat := if a = 0 then 0 else 1
theorem k_chosen : ∀ p, p < 7 → ∀ a, a < 8 → fX3_chosen (nI p) (nI a) = some (lN (chN p a)) := by decide +kernel
theorem k_open : ∀ p, p < 7 → ∀ a, a < 8 → fX3_isOpen (nI p) (nI a) = some (bI (!decide (a = p + 1))) := by decide +kernel
theorem k_cost : ∀ a, a < 8 → fX3_cost (nI a) = some (nI (cst a)) := by decide +kernel
theorem PageR_or {q : Nat → Int32} {E F L D i j : Nat} {day : Int32} (h : PageR q E F L D day) (hi : i < 7) (hj : j < 7) : PageR (upd q (7 + i) (q (7 + i) ||| nI (2 ^ j))) E (F ||| 2 ^ (7 * j + i)) L D day := by
  have e := or_row (F := F) (i := i) (j := j) (i' := i) hi hj hi
  rw [if_pos rfl] at e
  rw [h.2.1 i hi, orI, ← e]
  exact PageR_F (F' := F ||| 2 ^ (7 * j + i)) h hi (fun i' hi' hne => by
    have := or_row (F := F) (i := i) (j := j) (i' := i') hi hj hi'
    rw [if_neg hne] at this; exact this)
theorem FOk_ch {n F p a : Nat} (hn : n ≤ 7) (hF : FOk n F) (hp : p < n) (ha : a ≤ n) : FOk n (F ||| chN p a) := by
  unfold chN
  by_cases c : a = 0 ∨ a = p + 1
  · rw [if_pos c, Nat.or_zero]; exact hF
  · rw [if_neg c]
    exact FOk_or hF hp (by omega) hn (by omega)
theorem gN_bit {p a i j : Nat} (hp : p < 7) (hi : i < 7) (hij : ¬ i = j) : (gN p a).testBit (7 * j + i) = (chN p a).testBit (7 * j + i) := by
  unfold gN chN
  by_cases c : a = 0
  · rw [if_pos c, if_pos (Or.inl c)]
  · rw [if_neg c]
    by_cases c2 : a = p + 1
    · rw [if_pos (Or.inr c2), Nat.testBit_two_pow, Nat.zero_testBit, decide_eq_false_iff_not]
      omega
    · rw [if_neg (by omega)]
theorem SF_ch {n F p o a b : Nat} (hn : n ≤ 7) (hF : FOk n F) (hp : p < n) (ho : o < n) (ha : a ≤ n) (hb : b ≤ n) : SF n (F ||| gN p a ||| gN o b) (F ||| chN p a ||| chN o b) := by
  refine ⟨FOk_ch hn (FOk_ch hn hF hp ha) ho hb, fun i j hi hj hij => ?_⟩
  rw [Nat.testBit_or, Nat.testBit_or, Nat.testBit_or, Nat.testBit_or, gN_bit (by omega) hi hij, gN_bit (by omega) hi hij]
def allR (f : Nat → Bool) : Nat → Nat → Bool
  | 0, _ => true
  | r + 1, k => f k && allR f r (k + 1)
theorem allR_congr {f g : Nat → Bool} : ∀ {r k : Nat}, (∀ q, f q = g q) → allR f r k = allR g r k
  | 0, _, _ => rfl
  | r + 1, k, h => by rw [allR, allR, h k, allR_congr h]
section Rests
variable {kq page : Nat → Int32} {n K E F L D p o : Nat} {day : Int32}
def FF (F p o a b : Nat) : Nat := F ||| chN p a ||| chN o b
def V1 (n K E F L p o a b : Nat) : Int32 := wor (posL (fallL (may n K E (FF F p o a b)) 7 L) p) - nI (cst a)
def V2 (n K E F L p o a b : Nat) : Int32 := wor (posL (fallL (may n K E (FF F p o a b)) 7 L) o) - nI (cst b)
def O1 (n K E F L p o a b : Nat) : Int32 := if a = p + 1 then -9 else V1 n K E F L p o a b
def O2 (n K E F L p o a b : Nat) : Int32 := if b = o + 1 then -9 else V2 n K E F L p o a b
theorem k_wor : ∀ i, i < 7 → ∀ c, c < 2 → (¬ nI i - nI c ≤ -9) ∧ (-9 : Int32) ≤ nI i - nI c ∧ (¬ 9 - nI c ≤ -9) ∧ (-9 : Int32) ≤ 9 - nI c := by decide +kernel
theorem cst_lt (a : Nat) : cst a < 2 := by unfold cst; split <;> omega
theorem wor_b (hn : n ≤ 7) (hL : L < 128) (G x a : Nat) : (¬ wor (posL (fallL (may n K E G) 7 L) x) - nI (cst a) ≤ -9) ∧ (-9 : Int32) ≤ wor (posL (fallL (may n K E G) 7 L) x) - nI (cst a) := by
  cases h : posL (fallL (may n K E G) 7 L) x with
  | none => exact (k_wor 0 (by decide) (cst a) (cst_lt a)).2.2
  | some i =>
    have := k_wor i (pos_lt7 hn hL h) (cst a) (cst_lt a)
    exact ⟨this.1, this.2.1⟩
def IX (n K E F L p o a b : Nat) (one other : Nat → Int32) : Prop := ∀ a' b', a' ≤ n → b' ≤ n → (a' < a ∨ (a' = a ∧ b' < b)) → one (8 * a' + b') = O1 n K E F L p o a' b' ∧ other (8 * a' + b') = O2 n K E F L p o a' b'
def IM (n K E F L p o a b : Nat) (g : Nat → Int32) : Prop := ∀ a' b', a' ≤ n → b' ≤ n → (a' < a ∨ (a' = a ∧ b' < b)) → g (2 * (8 * a' + b')) = V1 n K E F L p o a' b' ∧ g (2 * (8 * a' + b') + 1) = V2 n K E F L p o a' b'
theorem IX_step {a b : Nat} {one other : Nat → Int32} (hn : n ≤ 7) (hb : b ≤ n) (h : IX n K E F L p o a b one other) : IX n K E F L p o a (b + 1) (upd one (8 * a + b) (O1 n K E F L p o a b)) (upd other (8 * a + b) (O2 n K E F L p o a b)) := by
  intro a' b' ha' hb' hlt
  by_cases e : a' = a ∧ b' = b
  · obtain ⟨rfl, rfl⟩ := e
    exact ⟨pk_us, pk_us⟩
  · rw [pk_un (by omega), pk_un (by omega)]
    exact h a' b' ha' hb' (by omega)
theorem IM_step {a b : Nat} {g : Nat → Int32} (hn : n ≤ 7) (hb : b ≤ n) (h : IM n K E F L p o a b g) : IM n K E F L p o a (b + 1) (upd (upd g (2 * (8 * a + b)) (V1 n K E F L p o a b)) (2 * (8 * a + b) + 1) (V2 n K E F L p o a b)) := by
  intro a' b' ha' hb' hlt
  by_cases e : a' = a ∧ b' = b
  · obtain ⟨rfl, rfl⟩ := e
    exact ⟨(pk_un (by omega)).trans pk_us, pk_us⟩
  · rw [pk_un (by omega), pk_un (by omega), pk_un (by omega), pk_un (by omega)]
    exact h a' b' ha' hb' (by omega)
theorem x_w107 (hn : n ≤ 7) (hK : K < 2 ^ 28) (hE : E < 2 ^ 28) (hF : FOk n F) (hL : L < 128) (hpop : pop L ≤ n) (hp : p < n) (ho : o < n) {a b : Nat} (ha : a ≤ n) (hb : b ≤ n) {dd dy y0 : Int32} {one other : Nat → Int32}
    (k27 : Int32 → Int32 → Int32 → Int32 → Int32 → Int64 → Int32 → Int32 → Int32 → (Nat → Int32) → (Nat → Int32) → Option (Int32 × Int32 × Int32 × Int64 × Int32 × Int32 × Int32 × (Nat → Int32) × (Nat → Int32))) :
    fX3_weighChoices_107 (nI o) k27 (nI a) (nI b) (nI (8 * a + b)) y0 (nI (8 * a + b)) (nI n) (nI K) (nI E) (lN (FF F p o a b)) (nI L) dd dy one other = k27 (nI a) (nI (b + 1)) (nI n) (nI K) (nI E) (lN (FF F p o a b)) (nI L) dd dy (upd one (8 * a + b) y0) (upd other (8 * a + b) (O2 n K E F L p o a b)) := by
  have hFF : FOk n (FF F p o a b) := FOk_ch hn (FOk_ch hn hF hp ha) ho hb
  unfold fX3_weighChoices_107 fX3_weighChoices_142
  rw [ck_nI (by omega) (by decide), k_open o (by omega) b (by omega), Option.bind_some, clamp (by omega), nI_1]
  unfold O2
  by_cases c : b = o + 1
  · rw [decide_eq_true c, if_pos (c := bI (!true) = 0) rfl, ck_nI (by omega) (by decide), if_pos c]
  · rw [decide_eq_false c, if_neg (c := bI (!false) = 0) (by decide), x_worth hn hK hE hFF.1 hL hpop (by omega), Option.bind_some, k_cost b (by omega), Option.bind_some, ck_nI (by omega) (by decide), if_neg c]
    rfl
theorem x_w27 (hn : n ≤ 7) (hK : K < 2 ^ 28) (hE : E < 2 ^ 28) (hF : FOk n F) (hL : L < 128) (hpop : pop L ≤ n) (hp : p < n) (ho : o < n) {a : Nat} (ha : a ≤ n) {dd dy : Int32}
    (k13 : Int32 → Int32 → Int32 → Int32 → Int64 → Int32 → Int32 → Int32 → (Nat → Int32) → (Nat → Int32) → Option (Int32 × Int32 × Int32 × Int64 × Int32 × Int32 × Int32 × (Nat → Int32) × (Nat → Int32))) :
    ∀ (k f b : Nat) (ft : Int64) (one other : Nat → Int32), b + k = n + 1 → k < f → IX n K E F L p o a b one other → ∃ ft' one' other', fX3_weighChoices_27 (nI n) (lN F) (nI p) (nI o) k13 f (nI a) (nI b) (nI n) (nI K) (nI E) ft (nI L) dd dy one other = k13 (nI (a + 1)) (nI n) (nI K) (nI E) ft' (nI L) dd dy one' other' ∧ IX n K E F L p o (a + 1) 0 one' other' := by
  intro k
  induction k with
  | zero =>
    intro f b ft one other hb hf hi
    obtain ⟨f, rfl⟩ : ∃ f', f = f' + 1 := ⟨f - 1, by omega⟩
    rw [fX3_weighChoices_27, if_pos (by rw [k_nIt (by omega) (by omega)]; omega), nI_1]
    exact ⟨ft, one, other, rfl, fun a' b' ha' hb' hlt => hi a' b' ha' hb' (by omega)⟩
  | succ k ih =>
    intro f b ft one other hb hf hi
    obtain ⟨f, rfl⟩ : ∃ f', f = f' + 1 := ⟨f - 1, by omega⟩
    have hbn : b ≤ n := by omega
    have hFF : FOk n (FF F p o a b) := FOk_ch hn (FOk_ch hn hF hp ha) ho hbn
    have e8 : (8 : Int32) * nI a + nI b = nI (8 * a + b) := by rw [show (8 : Int32) = nI 8 from rfl, pk_mul, nI_add]
    have nx := ih f (b + 1) (lN (FF F p o a b)) _ _ (by omega) (by omega) (IX_step hn hbn hi)
    rw [fX3_weighChoices_27, if_neg (by rw [k_nIt (by omega) (by omega)]; omega), k_chosen p (by omega) a (by omega), Option.bind_some, k_chosen o (by omega) b (by omega), Option.bind_some, k_open p (by omega) a (by omega), Option.bind_some, e8, fb_orL, fb_orL, show F ||| chN p a ||| chN o b = FF F p o a b from rfl]
    by_cases c : a = p + 1
    · have hO : O1 n K E F L p o a b = -9 := if_pos c
      rw [hO] at nx
      rw [decide_eq_true c, if_pos (c := bI (!true) = 0) rfl, x_w107 hn hK hE hF hL hpop hp ho ha hbn]
      exact nx
    · have hO : O1 n K E F L p o a b = wor (posL (fallL (may n K E (FF F p o a b)) 7 L) p) - nI (cst a) := if_neg c
      rw [hO] at nx
      rw [decide_eq_false c, if_neg (c := bI (!false) = 0) (by decide), x_worth hn hK hE hFF.1 hL hpop (by omega), Option.bind_some, k_cost a (by omega), Option.bind_some, x_w107 hn hK hE hF hL hpop hp ho ha hbn]
      exact nx
theorem x_w13 (hn : n ≤ 7) (hK : K < 2 ^ 28) (hE : E < 2 ^ 28) (hF : FOk n F) (hL : L < 128) (hpop : pop L ≤ n) (hp : p < n) (ho : o < n) {dd dy : Int32} :
    ∀ (k f a : Nat) (ft : Int64) (one other : Nat → Int32), a + k = n + 1 → k < f → IX n K E F L p o a 0 one other → ∃ ft' one' other', fX3_weighChoices_13 (nI n) (lN F) (nI p) (nI o) f (nI a) (nI n) (nI K) (nI E) ft (nI L) dd dy one other = some (nI n, nI K, nI E, ft', nI L, dd, dy, one', other') ∧ IX n K E F L p o (n + 1) 0 one' other' := by
  intro k
  induction k with
  | zero =>
    intro f a ft one other ha hf hi
    obtain ⟨f, rfl⟩ : ∃ f', f = f' + 1 := ⟨f - 1, by omega⟩
    have : a = n + 1 := by omega
    subst this
    rw [fX3_weighChoices_13, if_pos (by rw [k_nIt (by omega) (by omega)]; omega)]
    exact ⟨ft, one, other, rfl, hi⟩
  | succ k ih =>
    intro f a ft one other ha hf hi
    obtain ⟨f, rfl⟩ : ∃ f', f = f' + 1 := ⟨f - 1, by omega⟩
    rw [fX3_weighChoices_13, if_neg (by rw [k_nIt (by omega) (by omega)]; omega)]
    obtain ⟨ft', one', other', h1, h2⟩ := x_w27 (dd := dd) (dy := dy) hn hK hE hF hL hpop hp ho (a := a) (by omega) (fun x3 s_trial_people s_trial_kinds s_trial_deeds s_trial_feeding s_trial_large s_trial_dead s_trial_dayNumber q_oneHas q_otherHas => fX3_weighChoices_13 (nI n) (lN F) (nI p) (nI o) f x3 s_trial_people s_trial_kinds s_trial_deeds s_trial_feeding s_trial_large s_trial_dead s_trial_dayNumber q_oneHas q_otherHas) (n + 1) 10 0 ft one other (by omega) (by omega) hi
    have h1 : fX3_weighChoices_27 (nI n) (lN F) (nI p) (nI o) (fun x3 s_trial_people s_trial_kinds s_trial_deeds s_trial_feeding s_trial_large s_trial_dead s_trial_dayNumber q_oneHas q_otherHas => fX3_weighChoices_13 (nI n) (lN F) (nI p) (nI o) f x3 s_trial_people s_trial_kinds s_trial_deeds s_trial_feeding s_trial_large s_trial_dead s_trial_dayNumber q_oneHas q_otherHas) 10 (nI a) 0 (nI n) (nI K) (nI E) ft (nI L) dd dy one other = _ := h1
    rw [h1]
    exact ih f (a + 1) ft' one' other' (by omega) (by omega) h2
theorem m_lg70 (hn : n ≤ 7) (hk : KindR kq n K) (hF : FOk n F) (hL : L < 128) (hp : p < n) (ho : o < n) {a b : Nat} (ha : a ≤ n) (hb : b ≤ n) {t row g : Nat → Int32} {rs : Int32} (ht : PageR t E (F ||| gN p a ||| gN o b) L D day)
    (k13 : Int32 → Int32 → Int32 → (Nat → Int32) → (Nat → Int32) → (Nat → Int32) → Option (Int32 × (Nat → Int32) × (Nat → Int32) × (Nat → Int32))) :
    ∃ rs' t' row', fX4_layGains_70 (nI n) kq (nI p) (nI o) k13 (nI a) (nI b) rs t row g = k13 (nI a) (nI (b + 1)) rs' t' row' (upd (upd g (2 * (8 * a + b)) (V1 n K E F L p o a b)) (2 * (8 * a + b) + 1) (V2 n K E F L p o a b)) := by
  obtain ⟨w, l1, l2, l3⟩ := mg_lay (rs := rs) (row := row) hn hk (SF_ch hn hF hp ho ha hb) hL ht
  have hcell : fX4_cellOf (nI a) (nI b) = some (nI (2 * (8 * a + b))) := by
    unfold fX4_cellOf
    rw [show (8 : Int32) = nI 8 from rfl, show (2 : Int32) = nI 2 from rfl, pk_mul, nI_add, pk_mul]
  have hpp := mg_place hn hL l2 l3 (p := p) (by omega)
  have hpo := mg_place hn hL l2 l3 (p := o) (by omega)
  have hle : ∀ x, x < 8 → ((nI x ≤ 0) = (x = 0)) := by decide +kernel
  -- what is told of a place
  have tell : ∀ (x : Nat) (f : Int32 → Option (Int32 × (Nat → Int32) × (Nat → Int32) × (Nat → Int32))), (if plc 0 (posL (fallL (may n K E (FF F p o a b)) 7 L) x) = -9 then f 9 else f (plc 0 (posL (fallL (may n K E (FF F p o a b)) 7 L) x))) = f (wor (posL (fallL (may n K E (FF F p o a b)) 7 L) x)) := by
    intro x f
    cases h : posL (fallL (may n K E (FF F p o a b)) 7 L) x with
    | none => rw [if_pos (c := plc 0 none = -9) rfl]; rfl
    | some i =>
      have hi := pos_lt7 hn hL h
      have hp9 : ¬ plc 0 (some i) = -9 := by
        show ¬ nI (0 + i) = -9
        exact k_m9 _ (by omega)
      rw [if_neg hp9]
      show f (nI (0 + i)) = f (nI i)
      rw [Nat.zero_add]
  have c104 : ∀ (y0 y1 r : Int32) (t r2 g : Nat → Int32), fX4_layGains_104 (nI o) k13 (nI a) (nI b) y0 y1 r t r2 g = fX4_layGains_113 (nI o) k13 (nI a) (nI b) (nI (cst a)) y0 y1 r t r2 g := by
    intro y0 y1 r t r2 g
    unfold fX4_layGains_104 cst
    simp only [hle a (by omega)]
    by_cases c : a = 0
    · rw [if_pos c, if_pos c]; rfl
    · rw [if_neg c, if_neg c]; rfl
  have c147 : ∀ (y0 y1 r : Int32) (t r2 g : Nat → Int32), fX4_layGains_147 k13 (nI a) (nI b) y0 y1 r t r2 g = fX4_layGains_157 k13 (nI a) (nI b) (nI (cst b)) y0 y1 r t r2 g := by
    intro y0 y1 r t r2 g
    unfold fX4_layGains_147 cst
    simp only [hle b (by omega)]
    by_cases c : b = 0
    · rw [if_pos c, if_pos c]; rfl
    · rw [if_neg c, if_neg c]; rfl
  unfold fX4_layGains_70
  rw [l1, Option.bind_some, hcell, Option.bind_some, hpp, Option.bind_some, Option.bind_some]
  have t1 := tell p (fun v => fX4_layGains_104 (nI o) k13 (nI a) (nI b) v (nI (2 * (8 * a + b))) w.1 w.2.1 w.2.2 g)
  refine ⟨w.1, w.2.1, w.2.2, t1.trans ?_⟩
  try dsimp only
  rw [c104]
  unfold fX4_layGains_113
  rw [ck_nI (by omega) (by decide), hcell, Option.bind_some, hpo, Option.bind_some, Option.bind_some, clamp (by omega), nI_1]
  have t2 := tell o (fun v => fX4_layGains_147 k13 (nI a) (nI b) v (nI (2 * (8 * a + b) + 1)) w.1 w.2.1 w.2.2 (upd g (2 * (8 * a + b)) (wor (posL (fallL (may n K E (FF F p o a b)) 7 L) p) - nI (cst a))))
  refine t2.trans ?_
  try dsimp only
  rw [c147]
  unfold fX4_layGains_157
  rw [ck_nI (by omega) (by decide), clamp (by omega), nI_1]
  rfl
theorem m_lg13 (hn : n ≤ 7) (hk : KindR kq n K) (hF : FOk n F) (hL : L < 128) (hq : PageR page E F L D day) (hp : p < n) (ho : o < n) {a : Nat} (ha : a ≤ n)
    (k2 : Int32 → Int32 → (Nat → Int32) → (Nat → Int32) → (Nat → Int32) → Option (Int32 × (Nat → Int32) × (Nat → Int32) × (Nat → Int32))) :
    ∀ (k f b : Nat) (rs : Int32) (t row g : Nat → Int32), b + k = n + 1 → k < f → IM n K E F L p o a b g → ∃ rs' t' row' g', fX4_layGains_13 (nI n) kq page (nI p) (nI o) k2 f (nI a) (nI b) rs t row g = k2 (nI (a + 1)) rs' t' row' g' ∧ IM n K E F L p o (a + 1) 0 g' := by
  intro k
  induction k with
  | zero =>
    intro f b rs t row g hb hf hi
    obtain ⟨f, rfl⟩ : ∃ f', f = f' + 1 := ⟨f - 1, by omega⟩
    rw [fX4_layGains_13, if_pos (by rw [k_nIt (by omega) (by omega)]; omega), nI_1]
    exact ⟨rs, t, row, g, rfl, fun a' b' ha' hb' hlt => hi a' b' ha' hb' (by omega)⟩
  | succ k ih =>
    intro f b rs t row g hb hf hi
    obtain ⟨f, rfl⟩ : ∃ f', f = f' + 1 := ⟨f - 1, by omega⟩
    have hbn : b ≤ n := by omega
    obtain ⟨t0, b1, b2⟩ := m_begin page t
    have hpg := PageR_congr hq b2
    have hle : ∀ x, x < 8 → ((nI x ≤ 0) = (x = 0)) := by decide +kernel
    have pre : ∀ x, x < 8 → ¬ x = 0 → (1 : Int32) <<< ((nI x - 1) &&& 31) = nI (2 ^ (x - 1)) := by decide +kernel
    -- the page with both choices
    have fin : ∀ t1, PageR t1 E (F ||| gN p a) L D day → ∃ rs' t' row' g', fX4_layGains_47 (nI n) kq (nI p) (nI o) (fun x3 x4 s_rowSize q_trial q_row q_gains => fX4_layGains_13 (nI n) kq page (nI p) (nI o) k2 f x3 x4 s_rowSize q_trial q_row q_gains) (nI a) (nI b) rs t1 row g = k2 (nI (a + 1)) rs' t' row' g' ∧ IM n K E F L p o (a + 1) 0 g' := by
      intro t1 h1
      unfold fX4_layGains_47
      simp only [hle b (by omega)]
      by_cases c : b = 0
      · have h2 : PageR t1 E (F ||| gN p a ||| gN o b) L D day := by
          have : gN o b = 0 := if_pos c
          rw [this, Nat.or_zero]; exact h1
        obtain ⟨rs', t', row', e⟩ := m_lg70 (rs := rs) (row := row) (g := g) hn hk hF hL hp ho ha hbn h2 (fun x3 x4 s_rowSize q_trial q_row q_gains => fX4_layGains_13 (nI n) kq page (nI p) (nI o) k2 f x3 x4 s_rowSize q_trial q_row q_gains)
        rw [if_pos c, e]
        exact ih f (b + 1) rs' t' row' _ (by omega) (by omega) (IM_step hn hbn hi)
      · have h2 : PageR (upd t1 (7 + o) (t1 (7 + o) ||| nI (2 ^ (b - 1)))) E (F ||| gN p a ||| gN o b) L D day := by
          have : gN o b = 2 ^ (7 * (b - 1) + o) := if_neg c
          rw [this]; exact PageR_or h1 (by omega) (by omega)
        obtain ⟨rs', t', row', e⟩ := m_lg70 (rs := rs) (row := row) (g := g) hn hk hF hL hp ho ha hbn h2 (fun x3 x4 s_rowSize q_trial q_row q_gains => fX4_layGains_13 (nI n) kq page (nI p) (nI o) k2 f x3 x4 s_rowSize q_trial q_row q_gains)
        rw [if_neg c, add7, ck_nI (by omega) (by decide), ck_nI (by omega) (by decide), clamp (by omega), pre b (by omega) c, e]
        exact ih f (b + 1) rs' t' row' _ (by omega) (by omega) (IM_step hn hbn hi)
    have hle_a := hle a (by omega)
    rw [fX4_layGains_13, if_neg (by rw [k_nIt (by omega) (by omega)]; omega), b1, Option.bind_some]
    by_cases c : a = 0
    · have h2 : PageR t0 E (F ||| gN p a) L D day := by
        have : gN p a = 0 := if_pos c
        rw [this, Nat.or_zero]; exact hpg
      rw [if_pos (hle_a.mpr c)]
      exact fin t0 h2
    · have h2 : PageR (upd t0 (7 + p) (t0 (7 + p) ||| nI (2 ^ (a - 1)))) E (F ||| gN p a) L D day := by
        have : gN p a = 2 ^ (7 * (a - 1) + p) := if_neg c
        rw [this]; exact PageR_or hpg (by omega) (by omega)
      rw [if_neg (fun z => c (hle_a.mp z)), add7, ck_nI (by omega) (by decide), ck_nI (by omega) (by decide), clamp (by omega), pre a (by omega) c]
      exact fin _ h2
theorem m_lg2 (hn : n ≤ 7) (hk : KindR kq n K) (hF : FOk n F) (hL : L < 128) (hq : PageR page E F L D day) (hp : p < n) (ho : o < n) :
    ∀ (k f a : Nat) (rs : Int32) (t row g : Nat → Int32), a + k = n + 1 → k < f → IM n K E F L p o a 0 g → ∃ rs' t' row' g', fX4_layGains_2 (nI n) kq page (nI p) (nI o) f (nI a) rs t row g = some (rs', t', row', g') ∧ IM n K E F L p o (n + 1) 0 g' := by
  intro k
  induction k with
  | zero =>
    intro f a rs t row g ha hf hi
    obtain ⟨f, rfl⟩ : ∃ f', f = f' + 1 := ⟨f - 1, by omega⟩
    have : a = n + 1 := by omega
    subst this
    rw [fX4_layGains_2, if_pos (by rw [k_nIt (by omega) (by omega)]; omega)]
    exact ⟨rs, t, row, g, rfl, hi⟩
  | succ k ih =>
    intro f a rs t row g ha hf hi
    obtain ⟨f, rfl⟩ : ∃ f', f = f' + 1 := ⟨f - 1, by omega⟩
    rw [fX4_layGains_2, if_neg (by rw [k_nIt (by omega) (by omega)]; omega)]
    obtain ⟨rs', t', row', g', h1, h2⟩ := m_lg13 hn hk hF hL hq hp ho (a := a) (by omega) (fun x3 s_rowSize q_trial q_row q_gains => fX4_layGains_2 (nI n) kq page (nI p) (nI o) f x3 s_rowSize q_trial q_row q_gains) (n + 1) 10 0 rs t row g (by omega) (by omega) hi
    have h1 : fX4_layGains_13 (nI n) kq page (nI p) (nI o) (fun x3 s_rowSize q_trial q_row q_gains => fX4_layGains_2 (nI n) kq page (nI p) (nI o) f x3 s_rowSize q_trial q_row q_gains) 10 (nI a) 0 rs t row g = _ := h1
    rw [h1]
    exact ih f (a + 1) rs' t' row' g' (by omega) (by omega) h2
def fX (n K E F L p o a b k : Nat) : Bool := decide (O1 n K E F L p o k b ≤ O1 n K E F L p o a b) && decide (O2 n K E F L p o a k ≤ O2 n K E F L p o a b)
def fM (n K E F L p o a b k : Nat) : Bool := (decide (k = p + 1) || !decide (V1 n K E F L p o a b < V1 n K E F L p o k b)) && (decide (k = o + 1) || !decide (V2 n K E F L p o a b < V2 n K E F L p o a k))
theorem x_isRest (hn : n ≤ 7) {one other : Nat → Int32} (hi : IX n K E F L p o (n + 1) 0 one other) {a b : Nat} (ha : a ≤ n) (hb : b ≤ n) :
    ∀ (r f k : Nat), k + r = n + 1 → r < f → fX3_isRest_10 (nI n) one other (nI a) (nI b) f (nI (8 * a + b)) (nI k) = some (bI (allR (fX n K E F L p o a b) r k)) := by
  have e8 : ∀ x y, (8 : Int32) * nI x + nI y = nI (8 * x + y) := fun x y => by rw [show (8 : Int32) = nI 8 from rfl, pk_mul, nI_add]
  intro r
  induction r with
  | zero =>
    intro f k hk hf
    obtain ⟨f, rfl⟩ : ∃ f', f = f' + 1 := ⟨f - 1, by omega⟩
    rw [fX3_isRest_10, if_pos (by rw [k_nIt (by omega) (by omega)]; omega)]
    rfl
  | succ r ih =>
    intro f k hk hf
    obtain ⟨f, rfl⟩ : ∃ f', f = f' + 1 := ⟨f - 1, by omega⟩
    have h1 := hi k b (by omega) hb (by omega)
    have h2 := hi a b ha hb (by omega)
    have h3 := hi a k ha (by omega) (by omega)
    rw [fX3_isRest_10, if_neg (by rw [k_nIt (by omega) (by omega)]; omega), e8, e8, ck_nI (by omega) (by decide), ck_nI (by omega) (by decide), ck_nI (by omega) (by decide), ck_nI (by omega) (by decide), clamp (by omega), clamp (by omega), clamp (by omega), h1.1, h2.1, h2.2, h3.2, nI_1, allR]
    unfold fX
    by_cases c1 : O1 n K E F L p o k b ≤ O1 n K E F L p o a b
    · rw [if_pos c1, decide_eq_true c1, Bool.true_and]
      by_cases c2 : O2 n K E F L p o a k ≤ O2 n K E F L p o a b
      · rw [if_pos c2, decide_eq_true c2, Bool.true_and]
        exact ih f (k + 1) (by omega) (by omega)
      · rw [if_neg c2, decide_eq_false c2]; rfl
    · rw [if_neg c1, decide_eq_false c1]; rfl
theorem m_doRest (hn : n ≤ 7) (hp : p < n) (ho : o < n) {g : Nat → Int32} (hi : IM n K E F L p o (n + 1) 0 g) {a b : Nat} (ha : a ≤ n) (hb : b ≤ n) :
    ∀ (r f k : Nat) (c : Bool), k + r = n + 1 → r < f → fX4_doRest_25 (nI n) g (nI p) (nI o) (nI a) (nI b) f (bI c) (nI k) = some (bI (c && allR (fM n K E F L p o a b) r k)) := by
  have hcell : ∀ x y, fX4_cellOf (nI x) (nI y) = some (nI (2 * (8 * x + y))) := fun x y => by
    unfold fX4_cellOf
    rw [show (8 : Int32) = nI 8 from rfl, show (2 : Int32) = nI 2 from rfl, pk_mul, nI_add, pk_mul]
  intro r
  induction r with
  | zero =>
    intro f k c hk hf
    obtain ⟨f, rfl⟩ : ∃ f', f = f' + 1 := ⟨f - 1, by omega⟩
    rw [fX4_doRest_25, if_pos (by rw [k_nIt (by omega) (by omega)]; omega), allR, Bool.and_true]
    unfold zk
    cases c <;> rfl
  | succ r ih =>
    intro f k c hk hf
    obtain ⟨f, rfl⟩ : ∃ f', f = f' + 1 := ⟨f - 1, by omega⟩
    have h1 := hi k b (by omega) hb (by omega)
    have h2 := hi a b ha hb (by omega)
    have h3 := hi a k ha (by omega) (by omega)
    have ep : (nI k = nI p + 1) = (k = p + 1) := by rw [nI_1]; exact k_nIe (by omega) (by omega)
    have eo : (nI k = nI o + 1) = (k = o + 1) := by rw [nI_1]; exact k_nIe (by omega) (by omega)
    -- the second half
    have c78 : ∀ (d : Bool), fX4_doRest_78 g (nI o) (nI a) (nI b) (fun x5 x6 => fX4_doRest_25 (nI n) g (nI p) (nI o) (nI a) (nI b) f x5 x6) (nI k) (bI d) = some (bI ((d && (decide (k = o + 1) || !decide (V2 n K E F L p o a b < V2 n K E F L p o a k))) && allR (fM n K E F L p o a b) r (k + 1))) := by
      intro d
      unfold fX4_doRest_78
      rw [hcell, hcell, Option.bind_some, nI_1 k, nI_1 (2 * (8 * a + k)), ck_nI (by omega) (by decide), Option.bind_some, nI_1 (2 * (8 * a + b)), ck_nI (by omega) (by decide), clamp (by omega), clamp (by omega), h2.2, h3.2]
      have i0 := ih f (k + 1) false (by omega) (by omega)
      have i1 := ih f (k + 1) true (by omega) (by omega)
      have i0 : fX4_doRest_25 (nI n) g (nI p) (nI o) (nI a) (nI b) f 0 (nI (k + 1)) = some (bI (false && allR (fM n K E F L p o a b) r (k + 1))) := i0
      have i1 : fX4_doRest_25 (nI n) g (nI p) (nI o) (nI a) (nI b) f 1 (nI (k + 1)) = some (bI (true && allR (fM n K E F L p o a b) r (k + 1))) := i1
      cases d with
      | false => rw [if_pos (c := bI false = 0) rfl, Bool.false_and]; exact i0
      | true =>
        rw [if_neg (c := bI true = 0) (by decide), Bool.true_and]
        by_cases c1 : k = o + 1
        · rw [if_pos (eo.mpr c1), decide_eq_true c1, Bool.true_or]; exact i1
        · rw [if_neg (fun z => c1 (eo.mp z)), decide_eq_false c1, Bool.false_or]
          by_cases c2 : V2 n K E F L p o a b < V2 n K E F L p o a k
          · rw [if_pos c2, decide_eq_true c2]; exact i0
          · rw [if_neg c2, decide_eq_false c2]; exact i1
    have d0 : fX4_doRest_77 g (nI o) (nI a) (nI b) (fun x5 x6 => fX4_doRest_25 (nI n) g (nI p) (nI o) (nI a) (nI b) f x5 x6) (nI k) = some (bI ((false && (decide (k = o + 1) || !decide (V2 n K E F L p o a b < V2 n K E F L p o a k))) && allR (fM n K E F L p o a b) r (k + 1))) := c78 false
    have d1 : fX4_doRest_73 g (nI o) (nI a) (nI b) (fun x5 x6 => fX4_doRest_25 (nI n) g (nI p) (nI o) (nI a) (nI b) f x5 x6) (nI k) = some (bI ((true && (decide (k = o + 1) || !decide (V2 n K E F L p o a b < V2 n K E F L p o a k))) && allR (fM n K E F L p o a b) r (k + 1))) := c78 true
    rw [fX4_doRest_25, if_neg (by rw [k_nIt (by omega) (by omega)]; omega), hcell, hcell, Option.bind_some, ck_nI (by omega) (by decide), Option.bind_some, ck_nI (by omega) (by decide), clamp (by omega), clamp (by omega), h1.1, h2.1, d0, d1, allR]
    unfold fM
    cases c with
    | false => rw [if_pos (c := bI false = 0) rfl, Bool.false_and, Bool.false_and, Bool.false_and]
    | true =>
      rw [if_neg (c := bI true = 0) (by decide), Bool.true_and, Bool.true_and, Bool.false_and]
      by_cases c1 : k = p + 1
      · rw [if_pos (ep.mpr c1), decide_eq_true c1, Bool.true_or, Bool.true_and]
      · rw [if_neg (fun z => c1 (ep.mp z)), decide_eq_false c1, Bool.false_or]
        by_cases c2 : V1 n K E F L p o a b < V1 n K E F L p o k b
        · rw [if_pos c2, decide_eq_true c2]; rfl
        · rw [if_neg c2, decide_eq_false c2, Bool.not_false, Bool.true_and]
theorem not_lt_le (x y : Int32) : (!decide (y < x)) = decide (x ≤ y) := by
  by_cases c : x ≤ y
  · rw [decide_eq_true c, decide_eq_false (by rw [fa_lt]; rw [fa_le] at c; omega)]; rfl
  · rw [decide_eq_false c, decide_eq_true (by rw [fa_lt]; rw [fa_le] at c; omega)]; rfl
theorem rest_eq (hn : n ≤ 7) (hL : L < 128) {a b : Nat} : allR (fX n K E F L p o a b) (n + 1) 0 = ((!decide (a = p + 1) && !decide (b = o + 1)) && allR (fM n K E F L p o a b) (n + 1) 0) := by
  have v1 : ∀ x y, (¬ V1 n K E F L p o x y ≤ -9) ∧ (-9 : Int32) ≤ V1 n K E F L p o x y := fun x y => wor_b hn hL _ _ _
  have v2 : ∀ x y, (¬ V2 n K E F L p o x y ≤ -9) ∧ (-9 : Int32) ≤ V2 n K E F L p o x y := fun x y => wor_b hn hL _ _ _
  by_cases ca : a = p + 1
  · have h0 : fX n K E F L p o a b 0 = false := by
      unfold fX
      have e1 : O1 n K E F L p o a b = -9 := if_pos ca
      have e2 : O1 n K E F L p o 0 b = V1 n K E F L p o 0 b := if_neg (by omega)
      rw [e1, e2, decide_eq_false (v1 0 b).1]; rfl
    rw [allR, h0, decide_eq_true ca]; rfl
  · by_cases cb : b = o + 1
    · have h0 : fX n K E F L p o a b 0 = false := by
        unfold fX
        have e1 : O2 n K E F L p o a b = -9 := if_pos cb
        have e2 : O2 n K E F L p o a 0 = V2 n K E F L p o a 0 := if_neg (by omega)
        rw [e1, e2, decide_eq_false (v2 a 0).1, Bool.and_false]
      rw [allR, h0, decide_eq_true cb, decide_eq_false ca]; rfl
    · rw [decide_eq_false ca, decide_eq_false cb, Bool.not_false, Bool.true_and, Bool.true_and]
      apply allR_congr
      intro k
      unfold fX fM
      have e1 : O1 n K E F L p o a b = V1 n K E F L p o a b := if_neg ca
      have e2 : O2 n K E F L p o a b = V2 n K E F L p o a b := if_neg cb
      rw [e1, e2, not_lt_le, not_lt_le]
      have f1 : decide (O1 n K E F L p o k b ≤ V1 n K E F L p o a b) = (decide (k = p + 1) || decide (V1 n K E F L p o k b ≤ V1 n K E F L p o a b)) := by
        by_cases c : k = p + 1
        · have : O1 n K E F L p o k b = -9 := if_pos c
          rw [this, decide_eq_true (v1 a b).2, decide_eq_true c]; rfl
        · have : O1 n K E F L p o k b = V1 n K E F L p o k b := if_neg c
          rw [this, decide_eq_false c, Bool.false_or]
      have f2 : decide (O2 n K E F L p o a k ≤ V2 n K E F L p o a b) = (decide (k = o + 1) || decide (V2 n K E F L p o a k ≤ V2 n K E F L p o a b)) := by
        by_cases c : k = o + 1
        · have : O2 n K E F L p o a k = -9 := if_pos c
          rw [this, decide_eq_true (v2 a b).2, decide_eq_true c]; rfl
        · have : O2 n K E F L p o a k = V2 n K E F L p o a k := if_neg c
          rw [this, decide_eq_false c, Bool.false_or]
      rw [f1, f2]
/-- both ask of a pair of choices the same -/
theorem rest_both (hn : n ≤ 7) (hL : L < 128) (hp : p < n) (ho : o < n) {one other g : Nat → Int32} (hi : IX n K E F L p o (n + 1) 0 one other) (hm : IM n K E F L p o (n + 1) 0 g) {a b : Nat} (ha : a ≤ n) (hb : b ≤ n) :
    ∃ v : Bool, fX3_isRest (nI n) one other (nI a) (nI b) = some (bI v) ∧ fX4_doRest (nI n) g (nI p) (nI o) (nI a) (nI b) = some (bI v) := by
  have e8 : ∀ x y, (8 : Int32) * nI x + nI y = nI (8 * x + y) := fun x y => by rw [show (8 : Int32) = nI 8 from rfl, pk_mul, nI_add]
  have ep : (nI a = nI p + 1) = (a = p + 1) := by rw [nI_1]; exact k_nIe (by omega) (by omega)
  have eo : (nI b = nI o + 1) = (b = o + 1) := by rw [nI_1]; exact k_nIe (by omega) (by omega)
  have hx := x_isRest (K := K) (E := E) (F := F) (L := L) hn hi ha hb (n + 1) 10 0 (by omega) (by omega)
  have m0 := m_doRest (K := K) (E := E) (F := F) (L := L) hn hp ho hm ha hb (n + 1) 10 0 false (by omega) (by omega)
  have m1 := m_doRest (K := K) (E := E) (F := F) (L := L) hn hp ho hm ha hb (n + 1) 10 0 true (by omega) (by omega)
  have m0 : fX4_doRest_25 (nI n) g (nI p) (nI o) (nI a) (nI b) 10 0 0 = some (bI (false && allR (fM n K E F L p o a b) (n + 1) 0)) := m0
  have m1 : fX4_doRest_25 (nI n) g (nI p) (nI o) (nI a) (nI b) 10 1 0 = some (bI (true && allR (fM n K E F L p o a b) (n + 1) 0)) := m1
  refine ⟨allR (fX n K E F L p o a b) (n + 1) 0, ?_, ?_⟩
  · unfold fX3_isRest
    rw [e8]; exact hx
  · unfold fX4_doRest
    rw [m0, m1, rest_eq hn hL]
    by_cases ca : a = p + 1
    · rw [if_pos (ep.mpr ca), decide_eq_true ca]; rfl
    · rw [if_neg (fun z => ca (ep.mp z)), decide_eq_false ca]
      by_cases cb : b = o + 1
      · rw [if_pos (eo.mpr cb), decide_eq_true cb]; rfl
      · rw [if_neg (fun z => cb (eo.mp z)), decide_eq_false cb]; rfl
end Rests
