/-! the whole of an ArrestOrder and of the reference, as values -/
abbrev XS : Type := Int32 × Int32 × Int64 × Int32 × (Nat → Int32) × St × St × Int32 × Int32 × (Nat → Int32) × (Nat → Int32) × (Nat → Int32) × (Nat → St) × (Nat → St)
abbrev MS : Type := Int32 × (Nat → Int32) × Int32 × Int32 × Int32 × (Nat → Int32) × Int32 × (Nat → Int32) × (Nat → Int32) × (Nat → Int32) × (Nat → Int32) × (Nat → Int32) × (Nat → Int32) × Int32 × (Nat → Int32) × (Nat → Int32) × Int32 × (Nat → Int32) × (Nat → Int32) × Int64 × (Nat → Int32) × Int32 × Int32 × Int32 × Int32 × Int32 × (Nat → Int32) × (Nat → Int32) × (Nat → Int64)
abbrev xs_keptSlots (S : XS) : Int32 := S.1
abbrev xs_seenCount (S : XS) : Int32 := S.2.1
abbrev xs_seed (S : XS) : Int64 := S.2.2.1
abbrev xs_length (S : XS) : Int32 := S.2.2.2.1
abbrev xs_bytes (S : XS) : Nat → Int32 := S.2.2.2.2.1
abbrev xs_now (S : XS) : St := S.2.2.2.2.2.1
abbrev xs_trial (S : XS) : St := S.2.2.2.2.2.2.1
abbrev xs_first (S : XS) : Int32 := S.2.2.2.2.2.2.2.1
abbrev xs_count (S : XS) : Int32 := S.2.2.2.2.2.2.2.2.1
abbrev xs_seen (S : XS) : Nat → Int32 := S.2.2.2.2.2.2.2.2.2.1
abbrev xs_oneHas (S : XS) : Nat → Int32 := S.2.2.2.2.2.2.2.2.2.2.1
abbrev xs_otherHas (S : XS) : Nat → Int32 := S.2.2.2.2.2.2.2.2.2.2.2.1
abbrev xs_ring (S : XS) : Nat → St := S.2.2.2.2.2.2.2.2.2.2.2.2.1
abbrev xs_slots (S : XS) : Nat → St := S.2.2.2.2.2.2.2.2.2.2.2.2.2
abbrev ms_thrown (T : MS) : Int32 := T.1
abbrev ms_text (T : MS) : Nat → Int32 := T.2.1
abbrev ms_textSize (T : MS) : Int32 := T.2.2.1
abbrev ms_place (T : MS) : Int32 := T.2.2.2.1
abbrev ms_people (T : MS) : Int32 := T.2.2.2.2.1
abbrev ms_kind (T : MS) : Nat → Int32 := T.2.2.2.2.2.1
abbrev ms_readPeople (T : MS) : Int32 := T.2.2.2.2.2.2.1
abbrev ms_readDeed (T : MS) : Nat → Int32 := T.2.2.2.2.2.2.2.1
abbrev ms_readKind (T : MS) : Nat → Int32 := T.2.2.2.2.2.2.2.2.1
abbrev ms_readFeeds (T : MS) : Nat → Int32 := T.2.2.2.2.2.2.2.2.2.1
abbrev ms_page (T : MS) : Nat → Int32 := T.2.2.2.2.2.2.2.2.2.2.1
abbrev ms_trial (T : MS) : Nat → Int32 := T.2.2.2.2.2.2.2.2.2.2.2.1
abbrev ms_book (T : MS) : Nat → Int32 := T.2.2.2.2.2.2.2.2.2.2.2.2.1
abbrev ms_acts (T : MS) : Int32 := T.2.2.2.2.2.2.2.2.2.2.2.2.2.1
abbrev ms_kept (T : MS) : Nat → Int32 := T.2.2.2.2.2.2.2.2.2.2.2.2.2.2.1
abbrev ms_isKept (T : MS) : Nat → Int32 := T.2.2.2.2.2.2.2.2.2.2.2.2.2.2.2.1
abbrev ms_seen (T : MS) : Int32 := T.2.2.2.2.2.2.2.2.2.2.2.2.2.2.2.2.1
abbrev ms_seenOne (T : MS) : Nat → Int32 := T.2.2.2.2.2.2.2.2.2.2.2.2.2.2.2.2.2.1
abbrev ms_seenTwo (T : MS) : Nat → Int32 := T.2.2.2.2.2.2.2.2.2.2.2.2.2.2.2.2.2.2.1
abbrev ms_seed (T : MS) : Int64 := T.2.2.2.2.2.2.2.2.2.2.2.2.2.2.2.2.2.2.2.1
abbrev ms_row (T : MS) : Nat → Int32 := T.2.2.2.2.2.2.2.2.2.2.2.2.2.2.2.2.2.2.2.2.1
abbrev ms_rowSize (T : MS) : Int32 := T.2.2.2.2.2.2.2.2.2.2.2.2.2.2.2.2.2.2.2.2.2.1
abbrev ms_feedMany (T : MS) : Int32 := T.2.2.2.2.2.2.2.2.2.2.2.2.2.2.2.2.2.2.2.2.2.2.1
abbrev ms_feedRow (T : MS) : Int32 := T.2.2.2.2.2.2.2.2.2.2.2.2.2.2.2.2.2.2.2.2.2.2.2.1
abbrev ms_restMany (T : MS) : Int32 := T.2.2.2.2.2.2.2.2.2.2.2.2.2.2.2.2.2.2.2.2.2.2.2.2.1
abbrev ms_restFirst (T : MS) : Int32 := T.2.2.2.2.2.2.2.2.2.2.2.2.2.2.2.2.2.2.2.2.2.2.2.2.2.1
abbrev ms_value (T : MS) : Nat → Int32 := T.2.2.2.2.2.2.2.2.2.2.2.2.2.2.2.2.2.2.2.2.2.2.2.2.2.2.1
abbrev ms_gains (T : MS) : Nat → Int32 := T.2.2.2.2.2.2.2.2.2.2.2.2.2.2.2.2.2.2.2.2.2.2.2.2.2.2.2.1
abbrev ms_weight (T : MS) : Nat → Int64 := T.2.2.2.2.2.2.2.2.2.2.2.2.2.2.2.2.2.2.2.2.2.2.2.2.2.2.2.2
/-- the addresses: of the object's own fields, of the text's, of the row of acts', of the Standings in it and in the slots -/
abbrev AX : Type := (Nat → Nat) × (Nat → Nat) × (Nat → Nat) × (Nat → Nat) × (Nat → Nat)
abbrev wXf (G : GG) (h0 : Nat) (a : AX) (S : XS) : va_W := [(h0, xoE a.1 (xs_keptSlots S) (xs_seenCount S) (xs_seed S)), (a.1 0, txE a.2.1 (xs_length S)), (a.2.1 0, aI G 48 (xs_bytes S)), (a.1 1, stT (xs_now S)), (a.1 2, stT (xs_trial S)), (a.1 3, acE a.2.2.1 (xs_first S) (xs_count S)), (a.2.2.1 0, aO G 14 (fun j => some (a.2.2.2.1 j))), (a.1 4, aO G 2 (fun j => some (a.2.2.2.2 j))), (a.1 6, aI G 6 (xs_seen S)), (a.1 9, aI G 64 (xs_oneHas S)), (a.1 10, aI G 64 (xs_otherHas S))]
abbrev wX (G : GG) (h0 : Nat) (a : AX) (S : XS) : va_W := (wXf G h0 a S ++ plist a.2.2.2.1 (xs_ring S) 14) ++ plist a.2.2.2.2 (xs_slots S) 2
abbrev wM (G : GG) (h0 : Nat) (ad : Nat → Nat) (T : MS) : va_W := [(h0, moE ad (ms_thrown T) (ms_textSize T) (ms_place T) (ms_people T) (ms_readPeople T) (ms_acts T) (ms_seen T) (ms_seed T) (ms_rowSize T) (ms_feedMany T) (ms_feedRow T) (ms_restMany T) (ms_restFirst T)), (ad 1, aI G 48 (ms_text T)), (ad 5, aI G 7 (ms_kind T)), (ad 7, aI G 7 (ms_readDeed T)), (ad 8, aI G 7 (ms_readKind T)), (ad 9, aI G 7 (ms_readFeeds T)), (ad 10, aI G 17 (ms_page T)), (ad 11, aI G 17 (ms_trial T)), (ad 12, aI G 238 (ms_book T)), (ad 14, aI G 34 (ms_kept T)), (ad 15, aZ G 2 (ms_isKept T)), (ad 17, aI G 6 (ms_seenOne T)), (ad 18, aI G 6 (ms_seenTwo T)), (ad 20, aI G 7 (ms_row T)), (ad 26, aI G 128 (ms_value T)), (ad 27, aI G 128 (ms_gains T)), (ad 28, aJ G 128 (ms_weight T))]
abbrev z_X : XS := (0, 0, 0, 0, (fun _ => 0), z0, z0, 0, 0, (fun _ => 0), (fun _ => 0), (fun _ => 0), (fun _ => z0), (fun _ => z0))
abbrev z_M : MS := (0, (fun _ => 0), 0, 0, 0, (fun _ => 0), 0, (fun _ => 0), (fun _ => 0), (fun _ => 0), (fun _ => 0), (fun _ => 0), (fun _ => 0), 0, (fun _ => 0), (fun _ => 0), 0, (fun _ => 0), (fun _ => 0), 0, (fun _ => 0), 0, 0, 0, 0, 0, (fun _ => 0), (fun _ => 0), (fun _ => 0))
/-! the frame rule for whole contracts -/
theorem P_swap {D : va_G} {cl : List vw_C} {X A B : va_W} {H : Heap} (h : va_P D cl ((X ++ A) ++ B) H) : va_P D cl ((X ++ B) ++ A) H := by
  have hm : ∀ q ∈ (X ++ A) ++ B, va_at D cl q H := fun q hq => by obtain ⟨k, hk⟩ := List.getElem?_of_mem hq; exact h k q hk
  intro k q hk
  refine hm q ?_
  have := List.mem_of_getElem? hk
  simp only [List.mem_append] at this ⊢
  rcases this with (h | h) | h
  · exact Or.inl (Or.inl h)
  · exact Or.inr h
  · exact Or.inl (Or.inr h)
theorem D_nodup {A : Nat → Prop} {ws : va_W} : va_D A ws ↔ (ws.map Prod.fst).Nodup ∧ ∀ q ∈ ws, A q.1 := by
  constructor
  · intro h
    refine ⟨?_, fun q hq => by obtain ⟨k, hk⟩ := List.getElem?_of_mem hq; exact h.2 k q hk⟩
    rw [List.nodup_iff_pairwise_ne, List.pairwise_iff_getElem]
    intro i j hi hj hij e
    rw [List.length_map] at hi hj
    rw [List.getElem_map, List.getElem_map] at e
    have := h.1 i j ws[i] ws[j] (List.getElem?_eq_getElem hi) (List.getElem?_eq_getElem hj) e
    omega
  · rintro ⟨h1, h2⟩
    refine ⟨fun i j p q hi hj e => ?_, fun k q hk => h2 q (List.mem_of_getElem? hk)⟩
    have hi' := List.getElem?_eq_some_iff.mp hi
    have hj' := List.getElem?_eq_some_iff.mp hj
    obtain ⟨li, ei⟩ := hi'
    obtain ⟨lj, ej⟩ := hj'
    have z := List.pairwise_iff_getElem.mp (List.nodup_iff_pairwise_ne.mp h1)
    rcases Nat.lt_trichotomy i j with q1 | q1 | q1
    · exact absurd (by rw [List.getElem_map, List.getElem_map, ei, ej, e]) (z i j (by rw [List.length_map]; exact li) (by rw [List.length_map]; exact lj) q1)
    · exact q1
    · exact absurd (by rw [List.getElem_map, List.getElem_map, ei, ej, e]) (z j i (by rw [List.length_map]; exact lj) (by rw [List.length_map]; exact li) q1)
theorem D_swap {Ad : Nat → Prop} {X A B : va_W} (h : va_D Ad ((X ++ A) ++ B)) : va_D Ad ((X ++ B) ++ A) := by
  rw [D_nodup] at h ⊢
  have hp : List.Perm ((X ++ B) ++ A) ((X ++ A) ++ B) := by
    rw [List.append_assoc, List.append_assoc]
    exact List.Perm.append_left X List.perm_append_comm
  exact ⟨((hp.map Prod.fst).nodup_iff).mpr h.1, fun q hq => h.2 q (hp.mem_iff.mp hq)⟩
section FrameRows
variable {l : Launch} {G : GG} {y : MethodName} {ws : List Cond} {rm : Room} {av : List Value} {X Y Y1 T T1 : va_W}
theorem frI {r : Int32} (h : Met l y ws rm (PcW G av (Y ++ T)) (QiW G (Y ++ T) (Y1 ++ T1) r) 0 0 (inA (Y ++ T))) (isC : List Nat) (hn : va_nd isC = true) (hC : isC.map (fun i => X[i]?) = Y.map some) (hl : isC.length = Y1.length) : Met l y ws rm (PcW G av (X ++ T)) (QiW G (X ++ T) (repl X isC Y1 ++ T1) r) 0 0 (inA (X ++ T)) := by
  refine Jvm.Free.MetFree.mono h (fun a s hp => ⟨hp.1, P_tsub hp.2.1 isC hC, hp.2.2.1, D_tsub hp.2.2.2 isC hn hC⟩) (fun _ _ _ _ _ _ => trivial) ?_
  intro a s o t hp hq
  obtain ⟨-, hP, -, hD⟩ := hp
  have hD := inA.D hD
  obtain ⟨⟨⟨r', u, hoc, hr, hP1⟩, hF⟩, L, hFE, hL⟩ := hq
  exact ⟨⟨⟨r', u, hoc, hr, P_trepl hP hD isC hC hl hF.2 hP1⟩, hF.1, fun q h1 h2 => hF.2 q h1 (fun z => h2 (inA_tsub hD isC hC q z))⟩, L, hFE, fun q hq => inA_tsub hD isC hC _ (hL q hq)⟩
theorem frL {r : Int64} (h : Met l y ws rm (PcW G av (Y ++ T)) (QlW G (Y ++ T) (Y1 ++ T1) r) 0 0 (inA (Y ++ T))) (isC : List Nat) (hn : va_nd isC = true) (hC : isC.map (fun i => X[i]?) = Y.map some) (hl : isC.length = Y1.length) : Met l y ws rm (PcW G av (X ++ T)) (QlW G (X ++ T) (repl X isC Y1 ++ T1) r) 0 0 (inA (X ++ T)) := by
  refine Jvm.Free.MetFree.mono h (fun a s hp => ⟨hp.1, P_tsub hp.2.1 isC hC, hp.2.2.1, D_tsub hp.2.2.2 isC hn hC⟩) (fun _ _ _ _ _ _ => trivial) ?_
  intro a s o t hp hq
  obtain ⟨-, hP, -, hD⟩ := hp
  have hD := inA.D hD
  obtain ⟨⟨⟨r', u, hoc, hr, hP1⟩, hF⟩, L, hFE, hL⟩ := hq
  exact ⟨⟨⟨r', u, hoc, hr, P_trepl hP hD isC hC hl hF.2 hP1⟩, hF.1, fun q h1 h2 => hF.2 q h1 (fun z => h2 (inA_tsub hD isC hC q z))⟩, L, hFE, fun q hq => inA_tsub hD isC hC _ (hL q hq)⟩
theorem frR {r : Int32} (h : Met l y ws rm (PcR G av Y) (QiR r) 0 0 noA) (isC : List Nat) (hC : isC.filterMap (fun i => X[i]?) = Y) : Met l y ws rm (PcW G av X) (QiW G X X r) 0 0 (inA X) := by
  refine Jvm.Free.MetFree.mono h (fun a s hp => ⟨hp.1, hp.2.1.sub isC hC, hp.2.2.1⟩) (fun _ _ _ _ _ _ => trivial) ?_
  intro a s o t hp hq
  obtain ⟨-, hP, -, hD⟩ := hp
  obtain ⟨⟨⟨r', u, hoc, hr, hP1⟩, hF⟩, L, hFE, hL⟩ := hq
  exact ⟨⟨⟨r', u, hoc, hr, hP.kept (fun k q hk => hF.2 q.1 (hP k q hk).lt (fun z => z))⟩, hF.1, fun q h1 h2 => hF.2 q h1 (fun z => z)⟩, L, hFE, fun q hq => (hL q hq).elim⟩
theorem frS {X A B A1 B1 : va_W} {r : Int32} (h : Met l y ws rm (PcW G av ((X ++ B) ++ A)) (QiW G ((X ++ B) ++ A) ((Y ++ B1) ++ A1) r) 0 0 (inA ((X ++ B) ++ A))) : Met l y ws rm (PcW G av ((X ++ A) ++ B)) (QiW G ((X ++ A) ++ B) ((Y ++ A1) ++ B1) r) 0 0 (inA ((X ++ A) ++ B)) := by
  have hin : ∀ q, inA ((X ++ B) ++ A) q → inA ((X ++ A) ++ B) q := by
    rintro q ⟨k, e, hk⟩
    have := List.mem_of_getElem? hk
    have h2 : (q, e) ∈ (X ++ A) ++ B := by
      simp only [List.mem_append] at this ⊢
      rcases this with (h | h) | h
      · exact Or.inl (Or.inl h)
      · exact Or.inr h
      · exact Or.inl (Or.inr h)
    obtain ⟨j, hj⟩ := List.getElem?_of_mem h2
    exact ⟨j, e, hj⟩
  refine Jvm.Free.MetFree.mono h (fun a s hp => ⟨hp.1, P_swap hp.2.1, hp.2.2.1, D_swap hp.2.2.2⟩) (fun _ _ _ _ _ _ => trivial) ?_
  intro a s o t hp hq
  obtain ⟨⟨⟨r', u, hoc, hr, hP1⟩, hF⟩, L, hFE, hL⟩ := hq
  exact ⟨⟨⟨r', u, hoc, hr, P_swap hP1⟩, hF.1, fun q h1 h2 => hF.2 q h1 (fun z => h2 (hin q z))⟩, L, hFE, fun q hq => hin _ (hL q hq)⟩
theorem frW {r : Int32} (h : Met l y ws rm (PcW G av Y) (QiW G Y Y1 r) 0 0 (inA Y)) (isC : List Nat) (hn : va_nd isC = true) (hC : isC.map (fun i => X[i]?) = Y.map some) (hl : isC.length = Y1.length) : Met l y ws rm (PcW G av X) (QiW G X (repl X isC Y1) r) 0 0 (inA X) := by
  have hC' : isC.filterMap (fun i => X[i]?) = Y := by
    have : isC.filterMap (fun i => X[i]?) = (isC.map (fun i => X[i]?)).filterMap id := by rw [List.filterMap_map]; rfl
    rw [this, hC, List.filterMap_map]; simp
  refine Jvm.Free.MetFree.mono h (fun a s hp => ⟨hp.1, hp.2.1.sub isC hC', hp.2.2.1, hp.2.2.2.sub isC hn hC⟩) (fun _ _ _ _ _ _ => trivial) ?_
  intro a s o t hp hq
  obtain ⟨-, hP, -, hD⟩ := hp
  have hD := inA.D hD
  obtain ⟨⟨⟨r', u, hoc, hr, hP1⟩, hF⟩, L, hFE, hL⟩ := hq
  exact ⟨⟨⟨r', u, hoc, hr, P_repl hP hD isC hC hl hF.2 hP1⟩, hF.1, fun q h1 h2 => hF.2 q h1 (fun z => h2 (inA_sub hD isC hC q z))⟩, L, hFE, fun q hq => inA_sub hD isC hC _ (hL q hq)⟩
theorem frWL {r : Int64} (h : Met l y ws rm (PcW G av Y) (QlW G Y Y1 r) 0 0 (inA Y)) (isC : List Nat) (hn : va_nd isC = true) (hC : isC.map (fun i => X[i]?) = Y.map some) (hl : isC.length = Y1.length) : Met l y ws rm (PcW G av X) (QlW G X (repl X isC Y1) r) 0 0 (inA X) := by
  have hC' : isC.filterMap (fun i => X[i]?) = Y := by
    have : isC.filterMap (fun i => X[i]?) = (isC.map (fun i => X[i]?)).filterMap id := by rw [List.filterMap_map]; rfl
    rw [this, hC, List.filterMap_map]; simp
  refine Jvm.Free.MetFree.mono h (fun a s hp => ⟨hp.1, hp.2.1.sub isC hC', hp.2.2.1, hp.2.2.2.sub isC hn hC⟩) (fun _ _ _ _ _ _ => trivial) ?_
  intro a s o t hp hq
  obtain ⟨-, hP, -, hD⟩ := hp
  have hD := inA.D hD
  obtain ⟨⟨⟨r', u, hoc, hr, hP1⟩, hF⟩, L, hFE, hL⟩ := hq
  exact ⟨⟨⟨r', u, hoc, hr, P_repl hP hD isC hC hl hF.2 hP1⟩, hF.1, fun q h1 h2 => hF.2 q h1 (fun z => h2 (inA_sub hD isC hC q z))⟩, L, hFE, fun q hq => inA_sub hD isC hC _ (hL q hq)⟩
end FrameRows
