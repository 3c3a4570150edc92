/-! rows of Standings: one of them by its place -/
theorem plist_get {ra : Nat → Nat} {R : Nat → St} {n i : Nat} (h : i < n) : (plist ra R n)[i]? = some (ra i, stT (R i)) := by
  simp [plist, h]
theorem plist_len {ra : Nat → Nat} {R : Nat → St} {n : Nat} : (plist ra R n).length = n := by simp [plist]
theorem plist_set {ra : Nat → Nat} {R : Nat → St} {n i : Nat} (s : St) : (plist ra R n).set i (ra i, stT s) = plist ra (va_up R i s) n := by
  apply List.ext_getElem?
  intro j
  rw [List.getElem?_set]
  by_cases hj : i = j
  · subst hj
    rw [if_pos rfl, plist_len]
    by_cases hn : i < n
    · rw [if_pos hn, plist_get hn]; simp [va_up]
    · rw [if_neg hn]; symm; rw [List.getElem?_eq_none_iff, plist_len]; omega
  · rw [if_neg hj]
    by_cases hn : j < n
    · rw [plist_get hn, plist_get hn]; simp only [va_up]; rw [if_neg (fun z => hj z.symm)]
    · rw [List.getElem?_eq_none (by rw [plist_len]; omega), List.getElem?_eq_none (by rw [plist_len]; omega)]
theorem plist_self {ra : Nat → Nat} {R : Nat → St} {n i : Nat} : (plist ra R n).set i (ra i, stT (R i)) = plist ra R n := by
  rw [plist_set]; congr 1; funext j; simp only [va_up]; split
  · rename_i h; rw [h]
  · rfl
section PoolRows
variable {p : Program} {l : Launch} {e : Env} {R : Room} {s : State} {m : MethodId} {args : Array Value} {below : List Frame} {meth : Method} {c : Code} {H : Heap} {locs : List Loc} {cells slots : Nat} {Q : State → Prop}
variable {pc : Nat} {ls : Array Slot} {rest st0 : List Value} {a : Array Value} {A0 : Nat → Prop} {H0 : Heap} {X : va_W} {ra : Nat → Nat} {Rw : Nat → St} {n : Nat}
/-- the one that is written is of the row -/
theorem rw_pT {G : GG} (i j : Nat) {q q' : Nat × va_E} {o : St} (hr : va_Run p l e R s m args below meth c H locs cells slots 0 0 (F0 m pc ls st0) rest (QvW G [(ra i, stT (Rw i)), q] [(ra i, stT o), q'] a) (inA [(ra i, stT (Rw i)), q])) (hS : va_S A0 H0 H locs) (hP : va_P (gD G) vwCl (X ++ plist ra Rw n) H) (hD : va_D A0 (X ++ plist ra Rw n)) (hi : i < n) (hj : X[j]? = some q) (hq : q'.1 = q.1)
    (kk : ∀ (H1 : Heap) (locs1 : List Loc), va_P (gD G) vwCl (X.set j q' ++ plist ra (va_up Rw i o) n) H1 → va_D A0 (X.set j q' ++ plist ra (va_up Rw i o) n) → va_S A0 H0 H1 locs1 → W p l e R s m args below meth c H1 locs1 cells slots Q (F0 m (pc + 3) ls rest)) : W p l e R s m args below meth c H locs cells slots Q (F0 m pc ls st0) := by
  have hjX : j < X.length := (List.getElem?_eq_some_iff.mp hj).1
  have hrep : repl (X ++ plist ra Rw n) [X.length + i, j] [(ra i, stT o), q'] = X.set j q' ++ plist ra (va_up Rw i o) n := by
    show ((X ++ plist ra Rw n).set (X.length + i) (ra i, stT o)).set j q' = _
    rw [List.set_append_right _ _ (by omega), Nat.add_sub_cancel_left, plist_set, List.set_append_left _ _ hjX]
  refine rw_v hr hS hP hD [X.length + i, j] ?_ rfl ?_ (fun H1 locs1 hP1 hD1 hS1 => ?_)
  · show [(X ++ plist ra Rw n)[X.length + i]?, (X ++ plist ra Rw n)[j]?] = [some (ra i, stT (Rw i)), some q]
    rw [List.getElem?_append_right (by omega), Nat.add_sub_cancel_left, plist_get hi, List.getElem?_append_left hjX, hj]
  · rw [hrep]
    rw [List.map_append, List.map_append]
    congr 1
    · rw [List.map_set]
      apply List.ext_getElem?
      intro k
      rw [List.getElem?_set]
      by_cases hk : j = k
      · subst hk; rw [if_pos rfl, List.length_map, if_pos hjX, List.getElem?_map, hj, hq]; rfl
      · rw [if_neg hk]
    · simp [plist, List.map_map, Function.comp_def]
  · rw [hrep] at hP1 hD1
    exact kk H1 locs1 hP1 hD1 hS1
/-- the one that is read is of the row -/
theorem rw_pF {G : GG} (i j : Nat) {q q' : Nat × va_E} (hr : va_Run p l e R s m args below meth c H locs cells slots 0 0 (F0 m pc ls st0) rest (QvW G [q, (ra i, stT (Rw i))] [q', (ra i, stT (Rw i))] a) (inA [q, (ra i, stT (Rw i))])) (hS : va_S A0 H0 H locs) (hP : va_P (gD G) vwCl (X ++ plist ra Rw n) H) (hD : va_D A0 (X ++ plist ra Rw n)) (hi : i < n) (hj : X[j]? = some q) (hq : q'.1 = q.1)
    (kk : ∀ (H1 : Heap) (locs1 : List Loc), va_P (gD G) vwCl (X.set j q' ++ plist ra Rw n) H1 → va_D A0 (X.set j q' ++ plist ra Rw n) → va_S A0 H0 H1 locs1 → W p l e R s m args below meth c H1 locs1 cells slots Q (F0 m (pc + 3) ls rest)) : W p l e R s m args below meth c H locs cells slots Q (F0 m pc ls st0) := by
  have hjX : j < X.length := (List.getElem?_eq_some_iff.mp hj).1
  have hrep : repl (X ++ plist ra Rw n) [j, X.length + i] [q', (ra i, stT (Rw i))] = X.set j q' ++ plist ra Rw n := by
    show ((X ++ plist ra Rw n).set j q').set (X.length + i) (ra i, stT (Rw i)) = _
    rw [List.set_append_left _ _ hjX, List.set_append_right _ _ (by rw [List.length_set]; omega), List.length_set, Nat.add_sub_cancel_left, plist_self]
  refine rw_v hr hS hP hD [j, X.length + i] ?_ rfl ?_ (fun H1 locs1 hP1 hD1 hS1 => ?_)
  · show [(X ++ plist ra Rw n)[j]?, (X ++ plist ra Rw n)[X.length + i]?] = [some q, some (ra i, stT (Rw i))]
    rw [List.getElem?_append_left hjX, List.getElem?_append_right (by omega), Nat.add_sub_cancel_left, plist_get hi, hj]
  · rw [hrep]
    rw [List.map_append, List.map_append]
    congr 1
    rw [List.map_set]
    apply List.ext_getElem?
    intro k
    rw [List.getElem?_set]
    by_cases hk : j = k
    · subst hk; rw [if_pos rfl, List.length_map, if_pos hjX, List.getElem?_map, hj, hq]; rfl
    · rw [if_neg hk]
  · rw [hrep] at hP1 hD1
    exact kk H1 locs1 hP1 hD1 hS1
/-- two of the world's cells, one of the row: they are there and apart -/
theorem pl_two {G : GG} {A : Nat → Prop} (hP : va_P (gD G) vwCl (X ++ plist ra Rw n) H) (hD : va_D A (X ++ plist ra Rw n)) {i j : Nat} {q : Nat × va_E} (hi : i < n) (hj : X[j]? = some q) :
    va_P (gD G) vwCl [(ra i, stT (Rw i)), q] H ∧ va_D A [(ra i, stT (Rw i)), q] ∧ va_P (gD G) vwCl [q, (ra i, stT (Rw i))] H ∧ va_D A [q, (ra i, stT (Rw i))] := by
  have hjX : j < X.length := (List.getElem?_eq_some_iff.mp hj).1
  have e1 : (X ++ plist ra Rw n)[X.length + i]? = some (ra i, stT (Rw i)) := by rw [List.getElem?_append_right (by omega), Nat.add_sub_cancel_left, plist_get hi]
  have e2 : (X ++ plist ra Rw n)[j]? = some q := by rw [List.getElem?_append_left hjX, hj]
  refine ⟨hP.sub [X.length + i, j] ?_, hD.sub [X.length + i, j] ?_ ?_, hP.sub [j, X.length + i] ?_, hD.sub [j, X.length + i] ?_ ?_⟩
  · simp only [List.filterMap_cons, e1, e2, List.filterMap_nil]
  · have : ¬ (X.length + i = j) := by omega
    simp [va_nd, this]
  · show [(X ++ plist ra Rw n)[X.length + i]?, (X ++ plist ra Rw n)[j]?] = _; rw [e1, e2]; rfl
  · simp only [List.filterMap_cons, e1, e2, List.filterMap_nil]
  · have : ¬ (j = X.length + i) := by omega
    simp [va_nd, this]
  · show [(X ++ plist ra Rw n)[j]?, (X ++ plist ra Rw n)[X.length + i]?] = _; rw [e1, e2]; rfl
end PoolRows
theorem vp_lt {i : Int32} {n : Nat} (h : vp_in i n) : i.toNatClampNeg < n := by
  rcases Nat.lt_or_ge i.toNatClampNeg n with q | q
  · exact q
  · exact absurd (Or.inr q) h
/-! a world with a tail that is handed on whole -/
theorem P_tsub {D : va_G} {cl : List vw_C} {X Y T : va_W} {H : Heap} (hP : va_P D cl (X ++ T) H) (is : List Nat) (hs : is.map (fun i => X[i]?) = Y.map some) : va_P D cl (Y ++ T) H := by
  refine va_P.app (fun k q hq => ?_) (fun k q hq => hP (X.length + k) q (by rw [List.getElem?_append_right (by omega), Nat.add_sub_cancel_left]; exact hq))
  have h1 : (is.map (fun i => X[i]?))[k]? = some (some q) := by rw [hs, List.getElem?_map, hq]; rfl
  rw [List.getElem?_map] at h1
  cases hi : is[k]? with
  | none => rw [hi] at h1; cases h1
  | some i =>
    rw [hi] at h1
    have h2 : X[i]? = some q := Option.some.inj h1
    exact hP i q (by rw [List.getElem?_append_left (List.getElem?_eq_some_iff.mp h2).1]; exact h2)
theorem D_tsub {A : Nat → Prop} {X Y T : va_W} (hD : va_D A (X ++ T)) (is : List Nat) (hn : va_nd is = true) (hs : is.map (fun i => X[i]?) = Y.map some) : va_D A (Y ++ T) := by
  have hX : va_D A X := ⟨fun i j p q hi hj e => hD.1 i j p q (by rw [List.getElem?_append_left (List.getElem?_eq_some_iff.mp hi).1]; exact hi) (by rw [List.getElem?_append_left (List.getElem?_eq_some_iff.mp hj).1]; exact hj) e, fun k q hk => hD.2 k q (by rw [List.getElem?_append_left (List.getElem?_eq_some_iff.mp hk).1]; exact hk)⟩
  have rT : ∀ (k : Nat) (q : Nat × va_E), T[k]? = some q → (X ++ T)[X.length + k]? = some q := fun k q hk => by rw [List.getElem?_append_right (by omega), Nat.add_sub_cancel_left]; exact hk
  have hT : va_D A T := ⟨fun i j p q hi hj e => by have := hD.1 _ _ p q (rT i p hi) (rT j q hj) e; omega, fun k q hk => hD.2 _ q (rT k q hk)⟩
  refine va_D.app (hX.sub is hn hs) hT (fun i j p q hi hj e => ?_)
  have h1 : (is.map (fun i => X[i]?))[i]? = some (some p) := by rw [hs, List.getElem?_map, hi]; rfl
  rw [List.getElem?_map] at h1
  cases hz : is[i]? with
  | none => rw [hz] at h1; cases h1
  | some z =>
    rw [hz] at h1
    have h2 : X[z]? = some p := Option.some.inj h1
    have hl := (List.getElem?_eq_some_iff.mp h2).1
    have := hD.1 z (X.length + j) p q (by rw [List.getElem?_append_left hl]; exact h2) (rT j q hj) e
    omega
theorem inA_tsub {A : Nat → Prop} {X Y T : va_W} (hD : va_D A (X ++ T)) (is : List Nat) (hs : is.map (fun i => X[i]?) = Y.map some) : ∀ q, inA (Y ++ T) q → A q := by
  rintro q ⟨k, e, h⟩
  rcases Nat.lt_or_ge k Y.length with hk | hk
  · rw [List.getElem?_append_left hk] at h
    have h1 : (is.map (fun i => X[i]?))[k]? = some (some (q, e)) := by rw [hs, List.getElem?_map, h]; rfl
    rw [List.getElem?_map] at h1
    cases hi : is[k]? with
    | none => rw [hi] at h1; cases h1
    | some i =>
      rw [hi] at h1
      have h2 : X[i]? = some (q, e) := Option.some.inj h1
      exact hD.2 i (q, e) (by rw [List.getElem?_append_left (List.getElem?_eq_some_iff.mp h2).1]; exact h2)
  · rw [List.getElem?_append_right hk] at h
    exact hD.2 (X.length + (k - Y.length)) (q, e) (by rw [List.getElem?_append_right (by omega), Nat.add_sub_cancel_left]; exact h)
theorem P_trepl {A0 : Nat → Prop} {D : va_G} {cl : List vw_C} {X Y T Y1 T1 : va_W} {H H1 : Heap} (hP : va_P D cl (X ++ T) H) (hD : va_D A0 (X ++ T)) (isC : List Nat) (hC : isC.map (fun i => X[i]?) = Y.map some) (hl : isC.length = Y1.length)
    (hk : ∀ q : Nat, q < H.size → ¬ inA (Y ++ T) q → H1[q]? = H[q]?) (hP1 : va_P D cl (Y1 ++ T1) H1) : va_P D cl (repl X isC Y1 ++ T1) H1 := by
  refine va_P.app (fun k q hq => ?_) (fun k q hq => hP1 (Y1.length + k) q (by rw [List.getElem?_append_right (by omega), Nat.add_sub_cancel_left]; exact hq))
  rcases repl_get isC X Y1 k q hl hq with h | ⟨h1, h2⟩
  · obtain ⟨j, hj⟩ := List.getElem?_of_mem h
    exact hP1 j q (by rw [List.getElem?_append_left (List.getElem?_eq_some_iff.mp hj).1]; exact hj)
  · have hkX := (List.getElem?_eq_some_iff.mp h2).1
    have h3 : (X ++ T)[k]? = some q := by rw [List.getElem?_append_left hkX]; exact h2
    refine (hP k q h3).kept (hk q.1 (hP k q h3).lt ?_)
    rintro ⟨j, e, hj⟩
    rcases Nat.lt_or_ge j Y.length with hjY | hjY
    · rw [List.getElem?_append_left hjY] at hj
      have g1 : (isC.map (fun i => X[i]?))[j]? = some (some (q.1, e)) := by rw [hC, List.getElem?_map, hj]; rfl
      rw [List.getElem?_map] at g1
      cases hi : isC[j]? with
      | none => rw [hi] at g1; cases g1
      | some i =>
        rw [hi] at g1
        have g3 : X[i]? = some (q.1, e) := Option.some.inj g1
        have g2 := hD.1 k i q (q.1, e) h3 (by rw [List.getElem?_append_left (List.getElem?_eq_some_iff.mp g3).1]; exact g3) rfl
        subst g2
        exact h1 (List.mem_of_getElem? hi)
    · rw [List.getElem?_append_right hjY] at hj
      have g2 := hD.1 k (X.length + (j - Y.length)) q (q.1, e) h3 (by rw [List.getElem?_append_right (by omega), Nat.add_sub_cancel_left]; exact hj) rfl
      omega
theorem plist_addr {ra : Nat → Nat} {R R' : Nat → St} {n : Nat} : (plist ra R' n).map Prod.fst = (plist ra R n).map Prod.fst := by simp [plist, List.map_map, Function.comp_def]
section TailRows
variable {p : Program} {l : Launch} {e : Env} {R : Room} {s : State} {m : MethodId} {args : Array Value} {below : List Frame} {meth : Method} {c : Code} {H : Heap} {locs : List Loc} {cells slots : Nat} {Q : State → Prop}
variable {pc : Nat} {ls : Array Slot} {rest st0 : List Value} {a : Array Value} {A0 : Nat → Prop} {H0 : Heap} {X Y Y1 T T1 : va_W}
theorem rw_vT {G : GG} (hr : va_Run p l e R s m args below meth c H locs cells slots 0 0 (F0 m pc ls st0) rest (QvW G (Y ++ T) (Y1 ++ T1) a) (inA (Y ++ T))) (hS : va_S A0 H0 H locs) (hP : va_P (gD G) vwCl (X ++ T) H) (hD : va_D A0 (X ++ T)) (isC : List Nat) (hC : isC.map (fun i => X[i]?) = Y.map some) (hl : isC.length = Y1.length) (ha : (repl X isC Y1).map Prod.fst = X.map Prod.fst) (hT : T1.map Prod.fst = T.map Prod.fst)
    (kk : ∀ (H1 : Heap) (locs1 : List Loc), va_P (gD G) vwCl (repl X isC Y1 ++ T1) H1 → va_D A0 (repl X isC Y1 ++ T1) → va_S A0 H0 H1 locs1 → W p l e R s m args below meth c H1 locs1 cells slots Q (F0 m (pc + 3) ls rest)) : W p l e R s m args below meth c H locs cells slots Q (F0 m pc ls st0) := by
  refine va_callv hr hS (fun q _ h => inA_tsub hD isC hC q h) (inA_tsub hD isC hC) (fun u t H1 locs1 ht hvm hw hB hz hk hS1 => ?_)
  rw [ht] at hB
  exact kk H1 locs1 (P_trepl hP hD isC hC hl hk hB) (D_addr (by rw [List.map_append, List.map_append, ha, hT]) hD) hS1
theorem rw_iT {G : GG} {r : Int32} (hr : va_Run p l e R s m args below meth c H locs cells slots 0 0 (F0 m pc ls st0) rest (QiW G (Y ++ T) (Y1 ++ T1) r a) (inA (Y ++ T))) (hS : va_S A0 H0 H locs) (hP : va_P (gD G) vwCl (X ++ T) H) (hD : va_D A0 (X ++ T)) (isC : List Nat) (hC : isC.map (fun i => X[i]?) = Y.map some) (hl : isC.length = Y1.length) (ha : (repl X isC Y1).map Prod.fst = X.map Prod.fst) (hT : T1.map Prod.fst = T.map Prod.fst)
    (kk : ∀ (H1 : Heap) (locs1 : List Loc), va_P (gD G) vwCl (repl X isC Y1 ++ T1) H1 → va_D A0 (repl X isC Y1 ++ T1) → va_S A0 H0 H1 locs1 → W p l e R s m args below meth c H1 locs1 cells slots Q (F0 m (pc + 3) ls (.int r :: rest))) : W p l e R s m args below meth c H locs cells slots Q (F0 m pc ls st0) := by
  refine va_calli hr hS (fun q _ h => inA_tsub hD isC hC q h) (inA_tsub hD isC hC) (fun r' u t H1 locs1 ht hvm hw hB hz hk hS1 => ?_)
  subst hw
  rw [ht] at hB
  exact kk H1 locs1 (P_trepl hP hD isC hC hl hk hB) (D_addr (by rw [List.map_append, List.map_append, ha, hT]) hD) hS1
end TailRows
