/-! PURE: toss -/
def WR (q : Nat → Int64) (w : Nat → Nat) : Prop := ∀ x, x < 128 → q x = lN (w x)
def updN (w : Nat → Nat) (i v : Nat) : Nat → Nat := fun k => if k = i then v else w k
def chi (p : Nat) (w : Nat → Nat) : Nat → Nat := fun x => if x.testBit p then w x else 0
def W7 : Nat := 420 ^ 7
theorem W7_lt : W7 < 2 ^ 63 := by decide +kernel
theorem m_420 : ∀ m, m < 8 → 0 < m → m * (420 / m) = 420 := by decide
theorem by_ok {w m P : Nat} (hm : m < 8) (h0 : 0 < m) (h : 420 ^ (P + 1) ∣ w) : m * (w / m) = w ∧ 420 ^ P ∣ w / m := by
  obtain ⟨c, rfl⟩ := h
  have e : 420 ^ (P + 1) * c = m * (420 / m * 420 ^ P * c) := by
    rw [Nat.pow_succ, ← Nat.mul_assoc, ← Nat.mul_assoc, m_420 m hm h0, Nat.mul_comm (420 ^ P) 420]
  rw [e, Nat.mul_div_cancel_left _ h0]
  exact ⟨rfl, 420 / m * c, by rw [Nat.mul_comm (420 / m) (420 ^ P), Nat.mul_assoc]⟩
theorem chi_upd {p i v : Nat} {w : Nat → Nat} : chi p (updN w i v) = fun x => if x = i then (if i.testBit p then v else 0) else chi p w x := by
  funext x
  unfold chi updN
  by_cases e : x = i
  · subst e; simp
  · simp [e]
section Toss
variable {kq page : Nat → Int32} {n K E F L D p : Nat} {day a2 : Int32}
def TR (n K E F L : Nat) (w : Nat → Nat) : Prop := ∀ x, x < 128 → 0 < w x → x &&& L = x ∧ leftL (may n K E F) 7 x = leftL (may n K E F) 7 L
def TD (w : Nat → Nat) : Prop := ∀ x, x < 128 → 420 ^ (pop x) ∣ w x
/-- what holds when all sets from j on have been gone through -/
def TI (n K E F L p j : Nat) (w : Nat → Nat) (up : Nat) : Prop := TR n K E F L w ∧ TD w ∧ fb_sm w j ≤ W7 ∧ (p ∈ fallL (may n K E F) 7 L → up + fb_sm (chi p w) j = W7) ∧ (¬ p ∈ fallL (may n K E F) 7 L → up = 0)
/-- within the set j: k people have been looked at -/
def TJ (n K E F L p j by0 : Nat) (w0 : Nat → Nat) (up0 k : Nat) (w : Nat → Nat) (up : Nat) : Prop :=
  TR n K E F L w ∧ TD w ∧ w j = w0 j ∧ fb_sm w j = fb_sm w0 j + fb_ct (fun i => (may n K E F j).testBit i) k * by0 ∧ (p ∈ fallL (may n K E F) 7 L → up + fb_sm (chi p w) j = up0 + fb_sm (chi p w0) j + (if j.testBit p then fb_ct (fun i => (may n K E F j).testBit i) k * by0 else 0)) ∧ (¬ p ∈ fallL (may n K E F) 7 L → up = 0)
theorem clr_ltj : ∀ L, L < 128 → ∀ p, p < 7 → L.testBit p = true → clr L p < L := by decide +kernel
theorem pop_ct : ∀ s, s < 128 → fb_ct (fun i => s.testBit i) 7 = pop s := by decide +kernel
theorem tj_step {j by0 k : Nat} {w0 w : Nat → Nat} {up0 up : Nat} (hn : n ≤ 7) (hL : L < 128) (hj : j < 128) (hk : k < 7) (hp : p < 7) (hr : TR n K E F L w0) (h0 : 0 < w0 j) (hd : 420 ^ (pop j - 1) ∣ by0)
    (hb : (may n K E F j).testBit k = true) (h : TJ n K E F L p j by0 w0 up0 k w up) :
    TJ n K E F L p j by0 w0 up0 (k + 1) (updN w (clr j k) (w (clr j k) + by0)) (if k = p then up + by0 else up) := by
  have mo := may_ok hn K E F
  have hjb := mo.2.1 j hj k hk hb
  have hc := clr_lt j hj k hk
  have hcj := clr_ltj j hj k hk hjb
  have hpc := clr_pop j hj k hk hjb
  have hcf := conf mo 7 j hj (pop_le j) k hk hb
  obtain ⟨hjL, hjl⟩ := hr j hj h0
  obtain ⟨t1, t2, t3, t4, t5, t6⟩ := h
  have hsum := fb_sm_upd w (w (clr j k) + by0) hcj
  have hct : fb_ct (fun i => (may n K E F j).testBit i) (k + 1) = fb_ct (fun i => (may n K E F j).testBit i) k + 1 := by rw [fb_ct_succ, hb]; rfl
  have hcb := clr_bit j hj k hk p hp
  refine ⟨fun x hx hw => ?_, fun x hx => ?_, ?_, ?_, fun hin => ?_, fun hin => ?_⟩
  · by_cases e : x = clr j k
    · subst e
      refine ⟨?_, by rw [← hcf]; exact hjl⟩
      rw [sub_iff hc]
      intro q hq hqb
      rw [clr_bit j hj k hk q hq, Bool.and_eq_true] at hqb
      exact (sub_iff hj).mp hjL q hq hqb.1
    · unfold updN at hw
      rw [if_neg e] at hw
      exact t1 x hx hw
  · unfold updN
    by_cases e : x = clr j k
    · subst e
      rw [if_pos rfl]
      have : pop (clr j k) = pop j - 1 := by omega
      exact Nat.dvd_add (t2 _ hc) (by rw [this]; exact hd)
    · rw [if_neg e]; exact t2 x hx
  · unfold updN
    rw [if_neg (by omega)]; exact t3
  · rw [hct, Nat.add_mul, Nat.one_mul]
    unfold updN
    omega
  · have t5 := t5 hin
    have hchi := fb_sm_upd (chi p w) (if (clr j k).testBit p then w (clr j k) + by0 else 0) hcj
    rw [chi_upd, hct, Nat.add_mul, Nat.one_mul]
    have hci : chi p w (clr j k) = if (clr j k).testBit p then w (clr j k) else 0 := rfl
    rw [hcb] at hchi hci ⊢
    by_cases e : k = p
    · subst e
      have hz : (j.testBit k && !(k == k)) = false := by simp
      rw [hz] at hchi hci ⊢
      rw [if_pos hjb] at t5 ⊢
      rw [if_pos rfl]
      rw [if_neg (by decide)] at hchi hci ⊢
      omega
    · have hz : (j.testBit p && !(p == k)) = j.testBit p := by
        have : (p == k) = false := by simp; exact fun z => e z.symm
        rw [this]; simp
      rw [hz] at hchi hci ⊢
      rw [if_neg e]
      cases hjp : j.testBit p with
      | true =>
        rw [hjp] at hchi hci t5
        rw [if_pos rfl] at hchi hci t5
        rw [if_pos rfl, if_pos rfl]
        omega
      | false =>
        rw [hjp] at hchi hci t5
        rw [if_neg (by decide)] at hchi hci t5
        rw [if_neg (by decide), if_neg (by decide)]
        omega
  · have t6 := t6 hin
    by_cases e : k = p
    · subst e
      exfalso
      have hLk : L.testBit k = true := (sub_iff hj).mp hjL k hk hjb
      have h1 := leftL_bit mo 7 L hL k hk
      rw [hLk, decide_eq_false hin, ← hjl, hcf, leftL_bit mo 7 (clr j k) hc k hk, clr_bit j hj k hk k hk] at h1
      simp at h1
    · rw [if_neg e]; exact t6
theorem m_toss132 (hn : n ≤ 7) (hL : L < 128) {j : Nat} (hj : j < 128) (hp : p < 7) {w0 : Nat → Nat} {up0 : Nat} (hr : TR n K E F L w0) (hdv : TD w0) (h0 : 0 < w0 j) (hw63 : w0 j < 2 ^ 63) {th : Int32} {t : Nat → Int32} {Wl : Int64}
    {k89 : Int64 → Int64 → Int32 → Int32 → (Nat → Int32) → (Nat → Int64) → Option (Int32 × Int32 × (Nat → Int32) × (Nat → Int64))} {Res : Option (Int32 × Int32 × (Nat → Int32) × (Nat → Int64)) → Prop}
    (hres : ∀ (q : Nat → Int64) (w : Nat → Nat) (up : Nat), WR q w → TJ n K E F L p j (w0 j / pop (may n K E F j)) w0 up0 n w up → Res (k89 Wl (lN up) (nI j + (-1)) th t q)) :
    ∀ (r f k : Nat) (q : Nat → Int64) (w : Nat → Nat) (up : Nat), k + r = n → r < f → WR q w → TJ n K E F L p j (w0 j / pop (may n K E F j)) w0 up0 k w up → Res (fX4_toss_132 (nI n) (nI p) k89 f Wl (lN up) (nI j) (nI (may n K E F j)) (nI k) th t q) := by
  have hmay := may_lt hn K E F j
  intro r
  induction r with
  | zero =>
    intro f k q w up hk hf hq ht
    obtain ⟨f, rfl⟩ : ∃ f', f = f' + 1 := ⟨f - 1, by omega⟩
    have : k = n := by omega
    subst this
    rw [fX4_toss_132, if_pos (by rw [k_nIl (by omega) (by omega)]; omega)]
    exact hres q w up hq ht
  | succ r ih =>
    intro f k q w up hk hf hq ht
    obtain ⟨f, rfl⟩ : ∃ f', f = f' + 1 := ⟨f - 1, by omega⟩
    have hk7 : k < 7 := by omega
    rw [fX4_toss_132, if_neg (by rw [k_nIl (by omega) (by omega)]; omega), k_has _ hmay k hk7, Option.bind_some, nI_1]
    cases hb : (may n K E F j).testBit k with
    | false =>
      rw [if_pos (c := bI false = 0) rfl]
      refine ih f (k + 1) q w up (by omega) (by omega) hq ?_
      have hct : fb_ct (fun i => (may n K E F j).testBit i) (k + 1) = fb_ct (fun i => (may n K E F j).testBit i) k := by rw [fb_ct_succ, hb]; rfl
      unfold TJ at ht ⊢
      rw [hct]; exact ht
    | true =>
      have hjb := (may_ok hn K E F).2.1 j hj k hk7 hb
      have hc := clr_lt j hj k hk7
      have hpc := clr_pop j hj k hk7 hjb
      have hm0 : ¬ pop (may n K E F j) = 0 := fun z => by
        rw [pop_zero _ hmay z, Nat.zero_testBit] at hb; cases hb
      have hm7 := pop_le (may n K E F j)
      have hby := by_ok (w := w0 j) (m := pop (may n K E F j)) (P := pop j - 1) (by omega) (by omega) (by rw [show pop j - 1 + 1 = pop j by omega]; exact hdv j hj)
      have hwj : q j = lN (w0 j) := by rw [hq j hj, ht.2.2.1]
      have hdvn : ∀ (x : Option (Int32 × Int32 × (Nat → Int32) × (Nat → Int64))), dvL (lN (pop (may n K E F j))) x = x := fun x => by
        unfold dvL; rw [if_neg (lN_ne0 (by omega) (by omega))]
      have hst := tj_step hn hL hj hk7 hp hr h0 hby.2 hb ht
      have hq' : WR (vp_updL q (clr j k) (lN (w (clr j k) + w0 j / pop (may n K E F j)))) (updN w (clr j k) (w (clr j k) + w0 j / pop (may n K E F j))) := by
        intro x hx
        unfold updN
        by_cases e : x = clr j k
        · subst e; rw [if_pos rfl, pk_uLs]
        · rw [if_neg e, pk_uLn e]; exact hq x hx
      rw [if_neg (c := bI true = 0) (by decide), ck_nI hj (by decide), k_many _ hmay, Option.bind_some, nI_l (by omega), hdvn, k_clr j hj k hk7, ck_nI hc (by decide), ck_nI hc (by decide), clamp (by omega), clamp (by omega), hwj, pk_lDiv hw63 (by omega) (by omega), hq _ hc, lN_add, lN_add, show lN up + 0 = lN up from Int64.add_zero _]
      have hee : (nI k = nI p) = (k = p) := k_nIe (by omega) (by omega)
      by_cases e : k = p
      · rw [if_pos e] at hst
        rw [if_pos (hee.mpr e)]
        exact ih f (k + 1) _ _ _ (by omega) (by omega) hq' hst
      · rw [if_neg e] at hst
        rw [if_neg (fun z => e (hee.mp z))]
        exact ih f (k + 1) _ _ _ (by omega) (by omega) hq' hst
theorem ct_n {n s : Nat} (hn : n ≤ 7) (hs : ∀ i, n ≤ i → s.testBit i = false) (h7 : s < 128) : fb_ct (fun i => s.testBit i) n = pop s := by
  rw [← pop_ct s h7, show (7 : Nat) = n + (7 - n) by omega, fb_ct_split]
  have : fb_ct (fun k => s.testBit (n + k)) (7 - n) = 0 := fb_ct_zero.mpr (fun k _ => hs (n + k) (by omega))
  omega
theorem ti_next {j : Nat} {w0 w : Nat → Nat} {up0 up : Nat} (hn : n ≤ 7) (hL : L < 128) (hj : j < 128) (hp : p < 7) (h : TI n K E F L p (j + 1) w0 up0) (h0 : 0 < w0 j) (ht : TJ n K E F L p j (w0 j / pop (may n K E F j)) w0 up0 n w up) : TI n K E F L p j w up := by
  have mo := may_ok hn K E F
  have hmay := may_lt hn K E F j
  obtain ⟨i1, i2, i3, i4, i5⟩ := h
  obtain ⟨t1, t2, t3, t4, t5, t6⟩ := ht
  have hct := ct_n hn (s := may n K E F j) (fun i hi => by
    cases hz : (may n K E F j).testBit i with
    | false => rfl
    | true => have := (may_bit.mp hz).1; omega) hmay
  rw [hct] at t4 t5
  rw [fb_sm_succ] at i3
  have hjl := (i1 j hj h0).2
  by_cases hm : may n K E F j = 0
  · have hp0 : pop (may n K E F j) = 0 := by rw [hm]; decide
    rw [hp0, Nat.zero_mul] at t4 t5
    refine ⟨t1, t2, by omega, fun hin => ?_, t6⟩
    have t5 := t5 hin
    have i4 := i4 hin
    rw [fb_sm_succ] at i4
    have hnj : j.testBit p = false := by
      have hlj : leftL (may n K E F) 7 j = j := by rw [leftL, if_pos hm]
      rw [← hlj, hjl, leftL_bit mo 7 L hL p hp, decide_eq_true hin]; simp
    have hcj : chi p w0 j = 0 := by unfold chi; rw [hnj]; rfl
    rw [ite_self] at t5
    omega
  · have hpm : 0 < pop (may n K E F j) := by
      rcases Nat.eq_zero_or_pos (pop (may n K E F j)) with z | z
      · exact absurd (pop_zero _ hmay z) hm
      · exact z
    have hm7 := pop_le (may n K E F j)
    have hjp : 0 < pop j := by
      rcases Nat.eq_zero_or_pos (pop j) with z | z
      · have hj0 := pop_zero j hj z
        rw [hj0, mm_0 mo] at hm; exact absurd rfl hm
      · exact z
    have hby := (by_ok (w := w0 j) (m := pop (may n K E F j)) (P := pop j - 1) (by omega) hpm (by rw [show pop j - 1 + 1 = pop j by omega]; exact i2 j hj)).1
    rw [hby] at t4 t5
    refine ⟨t1, t2, by omega, fun hin => ?_, t6⟩
    have t5 := t5 hin
    have i4 := i4 hin
    rw [fb_sm_succ] at i4
    have hcj : chi p w0 j = if j.testBit p then w0 j else 0 := rfl
    rw [hcj] at i4
    omega
theorem fr_W : ((fX4_divisor (lN W7) (lN W7)).bind fun o1 => dvL o1 (some (Int64.toInt32 ((lN W7) / o1)))) = some 1 ∧ ((fX4_divisor (lN 0) (lN W7)).bind fun o1 => dvL o1 (some (Int64.toInt32 ((lN W7) / o1)))) = some 1 ∧ ((fX4_divisor (lN 0) (lN W7)).bind fun o1 => dvL o1 (some (Int64.toInt32 ((lN 0) / o1)))) = some 0 := by decide +kernel
theorem frac_W1 (a2 : Int32) : fX4_fraction (lN W7) (lN W7) a2 = some 1 := by
  unfold fX4_fraction
  by_cases c : a2 = 0
  · simp only [if_pos c]; exact fr_W.1
  · simp only [if_neg c]; exact fr_W.1
theorem frac_W0 (a2 : Int32) : fX4_fraction (lN 0) (lN W7) a2 = some (if a2 = 0 then 1 else 0) := by
  unfold fX4_fraction
  by_cases c : a2 = 0
  · simp only [if_pos c]; exact fr_W.2.1
  · simp only [if_neg c]; exact fr_W.2.2
theorem least_1 (a2 : Int32) : fX3_inLeastTerms 1 1 a2 = some 1 := by
  have h : fX3_commonDivisor (if (0 : Int32) ≤ 1 then 1 else 0 - 1) 1 = some 1 := by decide +kernel
  unfold fX3_inLeastTerms
  rw [h, Option.bind_some]
  by_cases c : a2 = 0
  · rw [if_pos c]; decide +kernel
  · rw [if_neg c]; decide +kernel
def tosV (n K E F L p : Nat) (a2 : Int32) : Int32 := if p ∈ fallL (may n K E F) 7 L then 1 else if a2 = 0 then 1 else 0
theorem m_toss89 (hn : n ≤ 7) (hk : KindR kq n K) (hF : FOk n F) (hL : L < 128) (hq : PageR page E F L D day) (hp : p < 7) {th : Int32} :
    ∀ (j f : Nat) (q : Nat → Int64) (w : Nat → Nat) (up : Nat) (t : Nat → Int32), j ≤ 128 → j < f → WR q w → TI n K E F L p j w up → ∃ o, fX4_toss_89 (nI n) kq page (nI p) a2 f (lN W7) (lN up) (nI j + (-1)) th t q = some (tosV n K E F L p a2, o) := by
  intro j
  induction j with
  | zero =>
    intro f q w up t hj hf hw ht
    obtain ⟨f, rfl⟩ : ∃ f', f = f' + 1 := ⟨f - 1, by omega⟩
    rw [fX4_toss_89, if_pos (show nI 0 + (-1) < 0 by decide)]
    unfold tosV
    by_cases hin : p ∈ fallL (may n K E F) 7 L
    · have : up = W7 := by have := ht.2.2.2.1 hin; rw [fb_sm] at this; omega
      rw [this, frac_W1, if_pos hin, Option.bind_some]
      exact ⟨_, rfl⟩
    · have : up = 0 := ht.2.2.2.2 hin
      rw [this, frac_W0, if_neg hin, Option.bind_some]
      exact ⟨_, rfl⟩
  | succ j ih =>
    intro f q w up t hj hf hw ht
    obtain ⟨f, rfl⟩ : ∃ f', f = f' + 1 := ⟨f - 1, by omega⟩
    have hj7 : j < 128 := by omega
    have hwj : w j ≤ W7 := by have := ht.2.2.1; rw [fb_sm_succ] at this; omega
    have hw63 : w j < 2 ^ 63 := Nat.lt_of_le_of_lt hwj W7_lt
    rw [fX4_toss_89, pk_m1, if_neg (nI_pos (by omega)), ck_nI hj7 (by decide), clamp (by omega), hw j hj7]
    by_cases h0 : 0 < w j
    · obtain ⟨t', b1, b2⟩ := m_begin page t
      have hc : ¬ lg_cmp (lN (w j)) 0 ≤ 0 := fun z => by
        have := (pk_lLE (a := w j) (b := 0) hw63 (by decide)).mp ((lg_cmp_le _ _).mp z)
        omega
      rw [if_neg hc, b1, Option.bind_some, k14, c14, m_may hn hk (PageR_L (L' := j) (PageR_congr hq b2)) hF hj7, Option.bind_some]
      refine m_toss132 (up0 := up) (Res := fun o => ∃ o', o = some (tosV n K E F L p a2, o')) hn hL hj7 hp ht.1 ht.2.1 h0 hw63 (fun q' w' up' hq' hj' => ?_) n 9 0 q w up (by omega) (by omega) hw ?_
      · exact ih f q' w' up' _ (by omega) (by omega) hq' (ti_next hn hL hj7 hp ht h0 hj')
      · refine ⟨ht.1, ht.2.1, rfl, ?_, fun _ => ?_, ht.2.2.2.2⟩
        · rw [fb_ct]; omega
        · rw [fb_ct, Nat.zero_mul, ite_self]; rfl
    · have hz : w j = 0 := by omega
      rw [if_pos ((lg_cmp_le _ _).mpr (by rw [hz]; exact (pk_lLE (a := 0) (b := 0) (by decide) (by decide)).mpr (Nat.le_refl 0)))]
      refine ih f q w up t (by omega) (by omega) hw ⟨ht.1, ht.2.1, ?_, fun hin => ?_, ht.2.2.2.2⟩
      · have := ht.2.2.1; rw [fb_sm_succ] at this; omega
      · have := ht.2.2.2.1 hin
        rw [fb_sm_succ] at this
        have hcj : chi p w j = 0 := by unfold chi; rw [hz, ite_self]
        omega
theorem m_toss42 (hq : PageR page E F L D day) (hL : L < 128) {pI th : Int32} {Wl : Int64} {t : Nat → Int32} :
    ∀ (k f z : Nat) (q : Nat → Int64), z + k = 128 → k < f → (∀ x, x < z → q x = 0) → ∃ q', fX4_toss_42 (nI n) kq page pI a2 f Wl (nI z) th t q = fX4_toss_89 (nI n) kq page pI a2 130 Wl 0 (nI L) th t (vp_updL q' L Wl) ∧ ∀ x, x < 128 → q' x = 0 := by
  have e128 : (128 : Int32) = nI 128 := rfl
  intro k
  induction k with
  | zero =>
    intro f z q hz hf hq0
    obtain ⟨f, rfl⟩ : ∃ f', f = f' + 1 := ⟨f - 1, by omega⟩
    rw [fX4_toss_42, e128, if_pos (by rw [k_nIl (by omega) (by omega)]; omega), k14, c14, hq.2.2.1, ck_nI hL (by decide), k14, clamp (by omega)]
    exact ⟨q, rfl, fun x hx => hq0 x (by omega)⟩
  | succ k ih =>
    intro f z q hz hf hq0
    obtain ⟨f, rfl⟩ : ∃ f', f = f' + 1 := ⟨f - 1, by omega⟩
    rw [fX4_toss_42, e128, if_neg (by rw [k_nIl (by omega) (by omega)]; omega), ck_nI (by omega) (by decide), clamp (by omega), nI_1]
    refine ih f (z + 1) _ (by omega) (by omega) (fun x hx => ?_)
    by_cases e : x = z
    · subst e; exact pk_uLs
    · rw [pk_uLn e]; exact hq0 x (by omega)
theorem m_toss20 {pI th : Int32} {t : Nat → Int32} {q : Nat → Int64} : ∀ (k f z v : Nat), z + k = 7 → k < f → fX4_toss_20 (nI n) kq page pI a2 f (lN v) (nI z) th t q = fX4_toss_42 (nI n) kq page pI a2 130 (lN (v * 420 ^ k)) 0 th t q := by
  have e7 : (7 : Int32) = nI 7 := rfl
  have e420 : (420 : Int64) = lN 420 := rfl
  intro k
  induction k with
  | zero =>
    intro f z v hz hf
    obtain ⟨f, rfl⟩ : ∃ f', f = f' + 1 := ⟨f - 1, by omega⟩
    rw [fX4_toss_20, e7, if_pos (by rw [k_nIl (by omega) (by omega)]; omega), Nat.pow_zero, Nat.mul_one]
  | succ k ih =>
    intro f z v hz hf
    obtain ⟨f, rfl⟩ : ∃ f', f = f' + 1 := ⟨f - 1, by omega⟩
    rw [fX4_toss_20, e7, if_neg (by rw [k_nIl (by omega) (by omega)]; omega), e420, lN_mul, nI_1, ih f (z + 1) (v * 420) (by omega) (by omega), Nat.pow_succ, Nat.mul_assoc, Nat.mul_comm 420]
theorem v_toss {t : Nat → Int32} {q : Nat → Int64} {th : Int32} (ok : COk n K E F L D) (hk : KindR kq n K) (hq : PageR page E F L D day) (a b : Int32) :
    ∃ r w, fX3_toss (nI n) (nI K) (nI E) (lN F) (nI L) a b = some r ∧ fX4_toss th (nI n) kq page t q a b = some (r, w) := by
  obtain ⟨hn, hK, hE, hF, hL, hD, hLD⟩ := ok
  have hL' := lt128 hn hL
  have hpop := pop_n n (by omega) L hL' hL
  have h10 : ¬ (1 : Int32) = 0 := by decide
  unfold fX3_toss fX4_toss fX3_toss_36
  rcases who n hn a with ⟨p, hpn, rfl, w1, w2⟩ | ⟨w1, w2⟩
  · have hp7 : p < 7 := by omega
    have m1 : fX4_toss_20 (nI n) kq page (nI p) b 9 1 0 0 t q = fX4_toss_42 (nI n) kq page (nI p) b 130 (lN (1 * 420 ^ 7)) 0 0 t q := m_toss20 (kq := kq) (page := page) (n := n) (a2 := b) (pI := nI p) (th := 0) (t := t) (q := q) 7 9 0 1 (by omega) (by omega)
    rw [show 1 * 420 ^ 7 = W7 from Nat.one_mul _] at m1
    obtain ⟨q', m2, hq0⟩ := m_toss42 (kq := kq) (n := n) (a2 := b) (pI := nI p) (th := 0) (Wl := lN W7) (t := t) hq hL' 128 130 0 q (by omega) (by omega) (fun x hx => by omega)
    have m2 : fX4_toss_42 (nI n) kq page (nI p) b 130 (lN W7) 0 0 t q = fX4_toss_89 (nI n) kq page (nI p) b 130 (lN W7) 0 (nI L) 0 t (vp_updL q' L (lN W7)) := m2
    have hw : WR (vp_updL q' L (lN W7)) (updN (fun _ => 0) L W7) := by
      intro x hx
      unfold updN
      by_cases e : x = L
      · subst e; rw [if_pos rfl, pk_uLs]
      · rw [if_neg e, pk_uLn e]; exact hq0 x hx
    have hs0 : fb_sm (updN (fun _ => 0) L W7) (L + 1) = W7 := by
      have := fb_sm_upd (fun _ => 0) W7 (i := L) (n := L + 1) (by omega)
      rw [fb_sm_const] at this
      have h2 : fb_sm (updN (fun _ => 0) L W7) (L + 1) + 0 = (L + 1) * 0 + W7 := this
      omega
    have hi : TI n K E F L p (L + 1) (updN (fun _ => 0) L W7) 0 := by
      refine ⟨fun x hx h0 => ?_, fun x hx => ?_, by omega, fun hin => ?_, fun _ => rfl⟩
      · unfold updN at h0
        by_cases e : x = L
        · subst e; exact ⟨Nat.and_self x, rfl⟩
        · rw [if_neg e] at h0; exact absurd h0 (Nat.lt_irrefl 0)
      · unfold updN
        by_cases e : x = L
        · rw [if_pos e]; exact Nat.pow_dvd_pow 420 (pop_le x)
        · rw [if_neg e]; exact Nat.dvd_zero _
      · have hbit := (fallL_mem (may_ok hn K E F) 7 L hL' p hin).2
        have : chi p (updN (fun _ => 0) L W7) = updN (fun _ => 0) L W7 := by
          funext x
          unfold chi updN
          by_cases e : x = L
          · subst e; rw [if_pos hbit]
          · rw [if_neg e, ite_self]
        rw [this]; omega
    obtain ⟨o, m3⟩ := m_toss89 (a2 := b) (th := 0) hn hk hF hL' hq hp7 (L + 1) 130 _ _ 0 t (by omega) (by omega) hw hi
    rw [pk_m1] at m3
    have m3 : fX4_toss_89 (nI n) kq page (nI p) b 130 (lN W7) 0 (nI L) 0 t (vp_updL q' L (lN W7)) = some (tosV n K E F L p b, o) := m3
    rw [w1, w2, Option.bind_some, Option.bind_some, if_neg h10, if_pos (c := (0 : Int32) = 0) rfl, m1, m2, m3, x_taken hn hK hE hF.1 hL' hpop hp7, Option.bind_some]
    unfold tosV
    by_cases hin : p ∈ fallL (may n K E F) 7 L
    · rw [decide_eq_true hin, if_neg (c := bI true = 0) (by decide), least_1, Option.bind_some, if_pos hin]
      exact ⟨_, _, rfl, rfl⟩
    · rw [decide_eq_false hin, if_pos (c := bI false = 0) rfl, least_0, Option.bind_some, if_neg hin]
      exact ⟨_, _, rfl, rfl⟩
  · rw [w1, w2, Option.bind_some, Option.bind_some, if_pos (c := (0 : Int32) = 0) rfl, if_neg h10]
    exact ⟨_, _, rfl, rfl⟩
end Toss
theorem op_toss {S : XS} {T : MS} (a b : Int32) (h : Rel S T) : Op (gX_toss S a b) (gM_toss T a b) := by
  obtain ⟨n, K, E, F, L, D, day, ⟨ok, e, ep, hk, hq⟩, -⟩ := id h
  obtain ⟨r, w, hx, hm⟩ := v_toss (th := ms_thrown T) (t := ms_trial T) (q := ms_weight T) ok hk hq a b
  rw [← ep] at hm
  have hx : fX3_toss (xs_now S).1 (xs_now S).2.1 (xs_now S).2.2.1 (xs_now S).2.2.2.1 (xs_now S).2.2.2.2.1 a b = some r := by rw [e]; exact hx
  unfold gX_toss gM_toss
  rw [hx, hm]
  exact ⟨_, _, _, rfl, rfl, h⟩
