/-! rows of Standings: one of them by its place -/
theorem plist_get {ra : Nat → Nat} {R : Nat → St} {n i : Nat} (h : i < n) : (plist ra R n)[i]? = some (ra i, stT (R i)) := by
  simp [plist, h]
theorem plist_len {ra : Nat → Nat} {R : Nat → St} {n : Nat} : (plist ra R n).length = n := by simp [plist]
theorem plist_set {ra : Nat → Nat} {R : Nat → St} {n i : Nat} (s : St) : (plist ra R n).set i (ra i, stT s) = plist ra (va_up R i s) n := by
  apply List.ext_getElem?
  intro j
  rw [List.getElem?_set]
  by_cases hj : i = j
  · subst hj
    rw [if_pos rfl, plist_len]
    by_cases hn : i < n
    · rw [if_pos hn, plist_get hn]; simp [va_up]
    · rw [if_neg hn]; symm; rw [List.getElem?_eq_none_iff, plist_len]; omega
  · rw [if_neg hj]
    by_cases hn : j < n
    · rw [plist_get hn, plist_get hn]; simp only [va_up]; rw [if_neg (fun z => hj z.symm)]
    · rw [List.getElem?_eq_none (by rw [plist_len]; omega), List.getElem?_eq_none (by rw [plist_len]; omega)]
theorem plist_self {ra : Nat → Nat} {R : Nat → St} {n i : Nat} : (plist ra R n).set i (ra i, stT (R i)) = plist ra R n := by
  rw [plist_set]; congr 1; funext j; simp only [va_up]; split
  · rename_i h; rw [h]
  · rfl
section PoolRows
variable {p : Program} {l : Launch} {e : Env} {R : Room} {s : State} {m : MethodId} {args : Array Value} {below : List Frame} {meth : Method} {c : Code} {H : Heap} {locs : List Loc} {cells slots : Nat} {Q : State → Prop}
variable {pc : Nat} {ls : Array Slot} {rest st0 : List Value} {a : Array Value} {A0 : Nat → Prop} {H0 : Heap} {X : va_W} {ra : Nat → Nat} {Rw : Nat → St} {n : Nat}
/-- the one that is written is of the row -/
theorem rw_pT {G : GG} (i j : Nat) {q q' : Nat × va_E} {o : St} (hr : va_Run p l e R s m args below meth c H locs cells slots 0 0 (F0 m pc ls st0) rest (QvW G [(ra i, stT (Rw i)), q] [(ra i, stT o), q'] a) (inA [(ra i, stT (Rw i)), q])) (hS : va_S A0 H0 H locs) (hP : va_P (gD G) vwCl (X ++ plist ra Rw n) H) (hD : va_D A0 (X ++ plist ra Rw n)) (hi : i < n) (hj : X[j]? = some q) (hq : q'.1 = q.1)
    (kk : ∀ (H1 : Heap) (locs1 : List Loc), va_P (gD G) vwCl (X.set j q' ++ plist ra (va_up Rw i o) n) H1 → va_D A0 (X.set j q' ++ plist ra (va_up Rw i o) n) → va_S A0 H0 H1 locs1 → W p l e R s m args below meth c H1 locs1 cells slots Q (F0 m (pc + 3) ls rest)) : W p l e R s m args below meth c H locs cells slots Q (F0 m pc ls st0) := by
  have hjX : j < X.length := (List.getElem?_eq_some_iff.mp hj).1
  have hrep : repl (X ++ plist ra Rw n) [X.length + i, j] [(ra i, stT o), q'] = X.set j q' ++ plist ra (va_up Rw i o) n := by
    show ((X ++ plist ra Rw n).set (X.length + i) (ra i, stT o)).set j q' = _
    rw [List.set_append_right _ _ (by omega), Nat.add_sub_cancel_left, plist_set, List.set_append_left _ _ hjX]
  refine rw_v hr hS hP hD [X.length + i, j] ?_ rfl ?_ (fun H1 locs1 hP1 hD1 hS1 => ?_)
  · show [(X ++ plist ra Rw n)[X.length + i]?, (X ++ plist ra Rw n)[j]?] = [some (ra i, stT (Rw i)), some q]
    rw [List.getElem?_append_right (by omega), Nat.add_sub_cancel_left, plist_get hi, List.getElem?_append_left hjX, hj]
  · rw [hrep]
    rw [List.map_append, List.map_append]
    congr 1
    · rw [List.map_set]
      apply List.ext_getElem?
      intro k
      rw [List.getElem?_set]
      by_cases hk : j = k
      · subst hk; rw [if_pos rfl, List.length_map, if_pos hjX, List.getElem?_map, hj, hq]; rfl
      · rw [if_neg hk]
    · simp [plist, List.map_map, Function.comp_def]
  · rw [hrep] at hP1 hD1
    exact kk H1 locs1 hP1 hD1 hS1
/-- the one that is read is of the row -/
theorem rw_pF {G : GG} (i j : Nat) {q q' : Nat × va_E} (hr : va_Run p l e R s m args below meth c H locs cells slots 0 0 (F0 m pc ls st0) rest (QvW G [q, (ra i, stT (Rw i))] [q', (ra i, stT (Rw i))] a) (inA [q, (ra i, stT (Rw i))])) (hS : va_S A0 H0 H locs) (hP : va_P (gD G) vwCl (X ++ plist ra Rw n) H) (hD : va_D A0 (X ++ plist ra Rw n)) (hi : i < n) (hj : X[j]? = some q) (hq : q'.1 = q.1)
    (kk : ∀ (H1 : Heap) (locs1 : List Loc), va_P (gD G) vwCl (X.set j q' ++ plist ra Rw n) H1 → va_D A0 (X.set j q' ++ plist ra Rw n) → va_S A0 H0 H1 locs1 → W p l e R s m args below meth c H1 locs1 cells slots Q (F0 m (pc + 3) ls rest)) : W p l e R s m args below meth c H locs cells slots Q (F0 m pc ls st0) := by
  have hjX : j < X.length := (List.getElem?_eq_some_iff.mp hj).1
  have hrep : repl (X ++ plist ra Rw n) [j, X.length + i] [q', (ra i, stT (Rw i))] = X.set j q' ++ plist ra Rw n := by
    show ((X ++ plist ra Rw n).set j q').set (X.length + i) (ra i, stT (Rw i)) = _
    rw [List.set_append_left _ _ hjX, List.set_append_right _ _ (by rw [List.length_set]; omega), List.length_set, Nat.add_sub_cancel_left, plist_self]
  refine rw_v hr hS hP hD [j, X.length + i] ?_ rfl ?_ (fun H1 locs1 hP1 hD1 hS1 => ?_)
  · show [(X ++ plist ra Rw n)[j]?, (X ++ plist ra Rw n)[X.length + i]?] = [some q, some (ra i, stT (Rw i))]
    rw [List.getElem?_append_left hjX, List.getElem?_append_right (by omega), Nat.add_sub_cancel_left, plist_get hi, hj]
  · rw [hrep]
    rw [List.map_append, List.map_append]
    congr 1
    rw [List.map_set]
    apply List.ext_getElem?
    intro k
    rw [List.getElem?_set]
    by_cases hk : j = k
    · subst hk; rw [if_pos rfl, List.length_map, if_pos hjX, List.getElem?_map, hj, hq]; rfl
    · rw [if_neg hk]
  · rw [hrep] at hP1 hD1
    exact kk H1 locs1 hP1 hD1 hS1
/-- two of the world's cells, one of the row: they are there and apart -/
theorem pl_two {G : GG} {A : Nat → Prop} (hP : va_P (gD G) vwCl (X ++ plist ra Rw n) H) (hD : va_D A (X ++ plist ra Rw n)) {i j : Nat} {q : Nat × va_E} (hi : i < n) (hj : X[j]? = some q) :
    va_P (gD G) vwCl [(ra i, stT (Rw i)), q] H ∧ va_D A [(ra i, stT (Rw i)), q] ∧ va_P (gD G) vwCl [q, (ra i, stT (Rw i))] H ∧ va_D A [q, (ra i, stT (Rw i))] := by
  have hjX : j < X.length := (List.getElem?_eq_some_iff.mp hj).1
  have e1 : (X ++ plist ra Rw n)[X.length + i]? = some (ra i, stT (Rw i)) := by rw [List.getElem?_append_right (by omega), Nat.add_sub_cancel_left, plist_get hi]
  have e2 : (X ++ plist ra Rw n)[j]? = some q := by rw [List.getElem?_append_left hjX, hj]
  refine ⟨hP.sub [X.length + i, j] ?_, hD.sub [X.length + i, j] ?_ ?_, hP.sub [j, X.length + i] ?_, hD.sub [j, X.length + i] ?_ ?_⟩
  · simp only [List.filterMap_cons, e1, e2, List.filterMap_nil]
  · have : ¬ (X.length + i = j) := by omega
    simp [va_nd, this]
  · show [(X ++ plist ra Rw n)[X.length + i]?, (X ++ plist ra Rw n)[j]?] = _; rw [e1, e2]; rfl
  · simp only [List.filterMap_cons, e1, e2, List.filterMap_nil]
  · have : ¬ (j = X.length + i) := by omega
    simp [va_nd, this]
  · show [(X ++ plist ra Rw n)[j]?, (X ++ plist ra Rw n)[X.length + i]?] = _; rw [e1, e2]; rfl
end PoolRows
theorem vp_lt {i : Int32} {n : Nat} (h : vp_in i n) : i.toNatClampNeg < n := by
  rcases Nat.lt_or_ge i.toNatClampNeg n with q | q
  · exact q
  · exact absurd (Or.inr q) h
