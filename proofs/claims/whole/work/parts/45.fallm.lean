/-! PURE: the reference's fall -/
theorem PageR_congr {q q' : Nat → Int32} {E F L D : Nat} {day : Int32} (h : PageR q E F L D day) (e : ∀ j, j < 17 → q' j = q j) : PageR q' E F L D day :=
  ⟨fun p hp => (e p (by omega)).trans (h.1 p hp), fun i hi => (e (7 + i) (by omega)).trans (h.2.1 i hi), (e 14 (by decide)).trans h.2.2.1, (e 15 (by decide)).trans h.2.2.2.1, (e 16 (by decide)).trans h.2.2.2.2⟩
theorem PageR_L {q : Nat → Int32} {E F L D L' : Nat} {day : Int32} (h : PageR q E F L D day) : PageR (upd q 14 (nI L')) E F L' D day :=
  ⟨fun p hp => (pk_un (by omega)).trans (h.1 p hp), fun i hi => (pk_un (by omega)).trans (h.2.1 i hi), pk_us, (pk_un (by decide)).trans h.2.2.2.1, (pk_un (by decide)).trans h.2.2.2.2⟩
theorem PageR_D {q : Nat → Int32} {E F L D D' : Nat} {day : Int32} (h : PageR q E F L D day) : PageR (upd q 15 (nI D')) E F L D' day :=
  ⟨fun p hp => (pk_un (by omega)).trans (h.1 p hp), fun i hi => (pk_un (by omega)).trans (h.2.1 i hi), (pk_un (by decide)).trans h.2.2.1, pk_us, (pk_un (by decide)).trans h.2.2.2.2⟩
theorem PageR_day {q : Nat → Int32} {E F L D : Nat} {day d' : Int32} (h : PageR q E F L D day) : PageR (upd q 16 d') E F L D d' :=
  ⟨fun p hp => (pk_un (by omega)).trans (h.1 p hp), fun i hi => (pk_un (by omega)).trans (h.2.1 i hi), (pk_un (by decide)).trans h.2.2.1, (pk_un (by decide)).trans h.2.2.2.1, pk_us⟩
theorem c14 : Int32.toNatClampNeg 14 = 14 := by decide
theorem c15 : Int32.toNatClampNeg 15 = 15 := by decide
theorem c16 : Int32.toNatClampNeg 16 = 16 := by decide
theorem k14 {α : Type} (x : Option α) : ck 14 17 x = x := ck_nI (i := 14) (by decide) (by decide)
theorem k15 {α : Type} (x : Option α) : ck 15 17 x = x := ck_nI (i := 15) (by decide) (by decide)
theorem k16 {α : Type} (x : Option α) : ck 16 17 x = x := ck_nI (i := 16) (by decide) (by decide)
theorem m_begin_2 {page : Nat → Int32} : ∀ (f i : Nat) (t : Nat → Int32), i ≤ 17 → 17 < f + i → (∀ j, j < i → t j = page j) → ∃ t', fX4_begin_2 page f (nI i) t = some t' ∧ ∀ j, j < 17 → t' j = page j := by
  intro f
  induction f with
  | zero => intro i t h1 h2; omega
  | succ f ih =>
    intro i t hi hf ht
    rw [fX4_begin_2]
    have e17 : (17 : Int32) = nI 17 := rfl
    rw [e17]
    rcases Nat.lt_or_ge i 17 with h | h
    · rw [if_neg (by rw [k_nIl (by omega) (by omega)]; omega), ck_nI h (by decide), ck_nI h (by decide), clamp (by omega), nI_1]
      refine ih (i + 1) _ (by omega) (by omega) (fun j hj => ?_)
      by_cases hji : j = i
      · subst hji; exact pk_us
      · exact (pk_un hji).trans (ht j (by omega))
    · rw [if_pos (by rw [k_nIl (by omega) (by omega)]; omega)]
      exact ⟨t, rfl, fun j hj => ht j (by omega)⟩
theorem m_begin (page trial : Nat → Int32) : ∃ t', fX4_begin page trial = some t' ∧ ∀ j, j < 17 → t' j = page j := by
  obtain ⟨t', h1, h2⟩ := m_begin_2 (page := page) 20 0 trial (by omega) (by omega) (fun j hj => by omega)
  exact ⟨t', h1, h2⟩
theorem m_lay_14 {kq : Nat → Int32} {n K E F : Nat} (hn : n ≤ 7) (hk : KindR kq n K) (hF : FOk n F) : ∀ (k f r L D : Nat) (day : Int32) (t row : Nat → Int32), L < 128 → pop L ≤ k → k < f → r + k ≤ 7 → PageR t E F L D day →
    ∃ t' row', fX4_layFall_14 (nI n) kq f (nI (may n K E F L)) (nI r) t row = some (nI (r + (fallL (may n K E F) k L).length), t', row') ∧ PageR t' E F (leftL (may n K E F) k L) D day ∧ (∀ i, i < (fallL (may n K E F) k L).length → row' (r + i) = nI ((fallL (may n K E F) k L).getD i 0)) ∧ ∀ j, j < r → row' j = row j := by
  intro k
  induction k with
  | zero =>
    intro f r L D day t row hL hp hf hr ht
    have hz : L = 0 := pop_zero L hL (by omega)
    subst hz
    obtain ⟨f, rfl⟩ : ∃ f', f = f' + 1 := ⟨f - 1, by omega⟩
    rw [fX4_layFall_14, mm_0 (may_ok hn K E F)]
    rw [if_pos (show nI 0 = 0 from rfl)]
    exact ⟨t, row, rfl, ht, fun i hi => by simp [fallL] at hi, fun j _ => rfl⟩
  | succ k ih =>
    intro f r L D day t row hL hp hf hr ht
    obtain ⟨f, rfl⟩ : ∃ f', f = f' + 1 := ⟨f - 1, by omega⟩
    have hmay := may_lt hn K E F L
    have h0e : (nI (may n K E F L) = 0) = (may n K E F L = 0) := k_nIe (b := 0) (by omega) (by decide)
    rw [fX4_layFall_14, fallL, leftL]
    simp only [h0e]
    by_cases h0 : may n K E F L = 0
    · rw [if_pos h0, if_pos h0, if_pos h0]
      exact ⟨t, row, rfl, ht, fun i hi => by simp at hi, fun j _ => rfl⟩
    · have hlow := low7 (may n K E F L)
      have hb := (mm_low (may_ok hn K E F) hL h0).2
      have hpp := clr_pop L hL _ hlow hb
      have hcl := clr_lt L hL _ hlow
      rw [if_neg h0, if_neg h0, if_neg h0, k_least _ hmay h0, Option.bind_some, ck_nI (by omega) (by decide), ck_nI (by omega) (by decide), k14, k14, clamp (by omega), c14, pk_us, ht.2.2.1, k_clr L hL _ hlow]
      have ht' := PageR_L (L' := clr L (low (may n K E F L))) ht
      rw [m_may hn hk ht' hF hcl, Option.bind_some, nI_1]
      obtain ⟨t2, row2, e1, e2, e3, e4⟩ := ih f (r + 1) (clr L (low (may n K E F L))) D day (upd t 14 (nI (clr L (low (may n K E F L))))) (upd row r (nI (low (may n K E F L)))) hcl (by omega) (by omega) (by omega) ht'
      refine ⟨t2, row2, ?_, e2, ?_, fun j hj => (e4 j (by omega)).trans (pk_un (by omega))⟩
      · rw [e1]; simp only [List.length_cons]
        rw [show r + 1 + (fallL (may n K E F) k (clr L (low (may n K E F L)))).length = r + ((fallL (may n K E F) k (clr L (low (may n K E F L)))).length + 1) by omega]
      · intro i hi
        cases i with
        | zero => rw [Nat.add_zero, e4 r (by omega), pk_us]; rfl
        | succ i =>
          simp only [List.length_cons] at hi
          rw [show r + (i + 1) = r + 1 + i by omega, e3 i (by omega)]; rfl
/-- what behind THE FALL stands in the reference's rows -/
def FallR (kq : Nat → Int32) (n K E F L D : Nat) (day : Int32) (o : Int32 × (Nat → Int32) × (Nat → Int32)) : Prop :=
  o.1 = nI (fallL (may n K E F) 7 L).length ∧ PageR o.2.1 E F (leftL (may n K E F) 7 L) D day ∧ ∀ i, i < (fallL (may n K E F) 7 L).length → o.2.2 i = nI ((fallL (may n K E F) 7 L).getD i 0)
theorem m_lay {kq : Nat → Int32} {n K E F L D : Nat} {day rs : Int32} {t row : Nat → Int32} (hn : n ≤ 7) (hk : KindR kq n K) (hF : FOk n F) (hL : L < 128) (ht : PageR t E F L D day) :
    ∃ o, fX4_layFall (nI n) rs kq t row = some o ∧ FallR kq n K E F L D day o := by
  unfold fX4_layFall
  rw [m_may hn hk ht hF hL, Option.bind_some]
  obtain ⟨t', row', e1, e2, e3, -⟩ := m_lay_14 hn hk hF 7 9 0 L D day t row hL (pop_le L) (by omega) (by omega) ht
  refine ⟨_, e1, by simp, e2, fun i hi => ?_⟩
  have := e3 i hi
  rw [Nat.zero_add] at this; exact this
theorem m_place_5 {row : Nat → Int32} {l : List Nat} {p : Nat} (hp : p < 7) (hl : l.length ≤ 7) (hm : ∀ w ∈ l, w < 7) (hnd : l.Nodup) (hr : ∀ i, i < l.length → row i = nI (l.getD i 0)) :
    ∀ (k f i : Nat) (x : Int32), i + k = l.length → k < f → fX4_placeOf_5 (nI l.length) row (nI p) f x (nI i) = some (match posL (l.drop i) p with | none => x | some j => nI (i + j)) := by
  intro k
  induction k with
  | zero =>
    intro f i x hik hf
    obtain ⟨f, rfl⟩ : ∃ f', f = f' + 1 := ⟨f - 1, by omega⟩
    rw [fX4_placeOf_5, if_pos (by rw [k_nIl (by omega) (by omega)]; omega), List.drop_eq_nil_of_le (by omega)]
    rfl
  | succ k ih =>
    intro f i x hik hf
    obtain ⟨f, rfl⟩ : ∃ f', f = f' + 1 := ⟨f - 1, by omega⟩
    have hil : i < l.length := by omega
    have hget : l.getD i 0 = l[i] := by simp [hil]
    have hw : l[i] < 7 := hm _ (List.getElem_mem hil)
    rw [fX4_placeOf_5, if_neg (by rw [k_nIl (by omega) (by omega)]; omega), ck_nI (by omega) (by decide), clamp (by omega), hr i hil, hget, nI_1, List.drop_eq_getElem_cons hil, posL]
    simp only [k_nIe (show l[i] < 2 ^ 31 by omega) (show p < 2 ^ 31 by omega)]
    by_cases he : l[i] = p
    · rw [if_pos he, if_pos he, ih f (i + 1) (nI i) (by omega) (by omega)]
      have hno : posL (l.drop (i + 1)) p = none := by
        rw [posL_none]
        intro hz
        have hd : (l.drop i).Nodup := List.Sublist.nodup (List.drop_sublist i l) hnd
        rw [List.drop_eq_getElem_cons hil] at hd
        exact (List.nodup_cons.mp hd).1 (he ▸ hz)
      rw [hno]; rfl
    · rw [if_neg he, if_neg he, ih f (i + 1) x (by omega) (by omega)]
      cases posL (l.drop (i + 1)) p with
      | none => rfl
      | some j => simp only [Option.map_some]; congr 2; omega
theorem m_place {kq : Nat → Int32} {n K E F L D p : Nat} {day : Int32} {o : Int32 × (Nat → Int32) × (Nat → Int32)} (hn : n ≤ 7) (hL : L < 128) (h : FallR kq n K E F L D day o) (hp : p < 7) :
    fX4_placeOf o.1 o.2.2 (nI p) = some (plc 0 (posL (fallL (may n K E F) 7 L) p)) := by
  have hlen := fallL_len (may_ok hn K E F) 7 L hL
  have hpl := pop_le L
  unfold fX4_placeOf
  rw [h.1]
  have := m_place_5 (row := o.2.2) hp (by omega) (fun w hw => (fallL_mem (may_ok hn K E F) 7 L hL w hw).1) (fallL_nodup (may_ok hn K E F) 7 L hL) h.2.2 (fallL (may n K E F) 7 L).length 9 0 (-9) (by omega) (by omega)
  rw [List.drop_zero] at this
  rw [show (0 : Int32) = nI 0 from rfl, this]
  cases posL (fallL (may n K E F) 7 L) p <;> rfl
