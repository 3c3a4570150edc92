/-! THE CLAIM OUT OF ONE WALK OF THE LAW'S BODY. Your part is whole_start (and what it stands on); all else here is the same for every law, but numbers. -/
def R_law : String := "ArrestOrderLaw"
def lw_P (b : Addr) (xs : List Int32) (args : Array Value) (s : State) : Prop := args = #[.ref b] ∧ s.IntsAt b xs ∧ xs.length ≤ 256 ∧ (Jvm.Cond.and given_1 narrow_1).before args s = true
def lw_Q (_ : Array Value) (s : State) (o : Outcome) (t : State) : Prop := o = .returned (some (.int 1)) ∧ Framed s o t [] 600000 7302250
def lw_Z (below : List Frame) (a : Array Value) (s : State) : State → Prop := fun t => ∃ o, t.status = .running ∧ Ended t below o ∧ lw_Q a s o t
/-- the law's own end, with 1 on the stack, nothing written that was there before, its room as the claim has it -/
theorem lw_ret {p : Program} {l : Launch} {e : Env} {s : State} {m : MethodId} {below : List Frame} {meth : Method} {c : Code} {b : Nat} (hx : p.tables.exec = Jvm.exec) (hb : c.code = code) (hr : meth.sig.returnType = ret) (hlocks : meth.locks = false) {pc : Nat} {H : Heap} {ls : Array Slot} (hdg : decode code pc = .ok (.ireturn, 1)) : W p l e room_1 s m #[Value.ref b] below meth c H [] 600000 7302250 (lw_Z below #[Value.ref b] s) (F0 m pc ls [.int 1]) := by
  intro T hT X
  obtain ⟨fs, hret, hrun, hended, hW, hframe⟩ := X.leave (v := some (.int 1)) (hlocks := hlocks) (fun h => by rw [hr] at h; cases h)
  have hmeth' : T.vm.method? m = some meth := X.method'
  refine ⟨T.setFrames fs, ?_, .returned (some (.int 1)), hrun, hended, rfl, ⟨_, rfl⟩, hW, hframe⟩
  jvm_step X.here [X.here.top, hx, hb, hdg, hmeth', hr, ret, narrow_b1]
  (try refine ⟨rfl, ?_⟩); (try refine ⟨rfl, ?_⟩)
  first | (intro acts; rw [hret _ acts rfl rfl rfl]) | rw [hret _ _ rfl rfl rfl]
  exact Steps.refl _
/-- what holds at the law's entry: the machine, the code, the tables' words (any of lw_tbl by 'hts w (by decide +kernel)'), the script of L ints xs at the cell b, what the Statement gives of the start (any of its parts by flat_of_before) -/
def lw_At (p : Program) (s : State) (m : MethodId) (meth : Method) (c : Code) (b L : Nat) (xs : Nat → Int32) : Prop :=
  p.tables.exec = Jvm.exec ∧ c.code = code ∧ meth.sig.returnType = ret ∧ c.maxLocals = 4 ∧ s.vm.findClass R_law = some m.cls ∧ (∀ w ∈ lw_tbl, w.before #[Value.ref b] s = true) ∧ va_X b L xs s s.heap ∧ b < s.heap.size ∧ meth.locks = false ∧ (Jvm.Cond.and given_1 narrow_1).before #[Value.ref b] s = true

/-! the law: calls within the world of both -/
theorem P_mem {D : va_G} {cl : List vw_C} {ws : va_W} {H : Heap} (h : ∀ q ∈ ws, va_at D cl q H) : va_P D cl ws H := fun _ q hk => h q (List.mem_of_getElem? hk)
theorem P_of {D : va_G} {cl : List vw_C} {ws : va_W} {H : Heap} (h : va_P D cl ws H) : ∀ q ∈ ws, va_at D cl q H := fun q hq => by
  obtain ⟨k, hk⟩ := List.getElem?_of_mem hq
  exact h k q hk
theorem P_L {D : va_G} {cl : List vw_C} {A B : va_W} {H : Heap} (h : va_P D cl (A ++ B) H) : va_P D cl A H := P_mem (fun q hq => P_of h q (List.mem_append_left _ hq))
theorem P_R {D : va_G} {cl : List vw_C} {A B : va_W} {H : Heap} (h : va_P D cl (A ++ B) H) : va_P D cl B H := P_mem (fun q hq => P_of h q (List.mem_append_right _ hq))
theorem D_L {Ad : Nat → Prop} {A B : va_W} (h : va_D Ad (A ++ B)) : va_D Ad A := by
  rw [D_nodup] at h ⊢
  rw [List.map_append] at h
  exact ⟨(List.nodup_append.mp h.1).1, fun q hq => h.2 q (List.mem_append_left _ hq)⟩
theorem D_R {Ad : Nat → Prop} {A B : va_W} (h : va_D Ad (A ++ B)) : va_D Ad B := by
  rw [D_nodup] at h ⊢
  rw [List.map_append] at h
  exact ⟨(List.nodup_append.mp h.1).2.1, fun q hq => h.2 q (List.mem_append_right _ hq)⟩
theorem D_apL {Ad : Nat → Prop} {A B : va_W} (h : va_D Ad (A ++ B)) {q : Nat × va_E} (hq : q ∈ B) : ¬ inA A q.1 := by
  rintro ⟨k, e, hk⟩
  have hA := List.mem_of_getElem? hk
  rw [D_nodup, List.map_append] at h
  exact (List.nodup_append.mp h.1).2.2 q.1 (List.mem_map.mpr ⟨(q.1, e), hA, rfl⟩) q.1 (List.mem_map.mpr ⟨q, hq, rfl⟩) rfl
theorem D_apR {Ad : Nat → Prop} {A B : va_W} (h : va_D Ad (A ++ B)) {q : Nat × va_E} (hq : q ∈ A) : ¬ inA B q.1 := by
  rintro ⟨k, e, hk⟩
  have hA := List.mem_of_getElem? hk
  rw [D_nodup, List.map_append] at h
  exact (List.nodup_append.mp h.1).2.2 q.1 (List.mem_map.mpr ⟨q, hq, rfl⟩) q.1 (List.mem_map.mpr ⟨(q.1, e), hA, rfl⟩) rfl
section LawCalls
variable {p : Program} {l : Launch} {e : Env} {R : Room} {s : State} {m : MethodId} {args : Array Value} {below : List Frame} {meth : Method} {c : Code} {H : Heap} {locs : List Loc} {cells slots : Nat} {Q : State → Prop}
variable {pc : Nat} {ls : Array Slot} {rest st0 : List Value} {a : Array Value} {A0 : Nat → Prop} {H0 : Heap} {A B A1 B1 : va_W} {G : GG}
theorem call_iL {r : Int32} (hr : va_Run p l e R s m args below meth c H locs cells slots 0 0 (F0 m pc ls st0) rest (QiW G A A1 r a) (inA A)) (hS : va_S A0 H0 H locs) (hP : va_P (gD G) vwCl (A ++ B) H) (hD : va_D A0 (A ++ B)) (ha : A1.map Prod.fst = A.map Prod.fst)
    (kk : ∀ (H1 : Heap) (locs1 : List Loc), va_P (gD G) vwCl (A1 ++ B) H1 → va_D A0 (A1 ++ B) → va_S A0 H0 H1 locs1 → W p l e R s m args below meth c H1 locs1 cells slots Q (F0 m (pc + 3) ls (.int r :: rest))) : W p l e R s m args below meth c H locs cells slots Q (F0 m pc ls st0) := by
  have hin : ∀ q, inA A q → A0 q := fun q ⟨k, e, hk⟩ => (D_L hD).2 k _ hk
  refine va_calli hr hS (fun q _ h => hin q h) hin (fun r' u t H1 locs1 ht hvm hw hB hz hk hS1 => ?_)
  subst hw
  rw [ht] at hB
  refine kk H1 locs1 (P_mem (fun q hq => ?_)) (D_addr (by rw [List.map_append, List.map_append, ha]) hD) hS1
  rcases List.mem_append.mp hq with h | h
  · exact P_of hB q h
  · have hz := P_of hP q (List.mem_append_right _ h)
    exact hz.kept (hk q.1 hz.lt (D_apL hD h))
theorem call_iR {r : Int32} (hr : va_Run p l e R s m args below meth c H locs cells slots 0 0 (F0 m pc ls st0) rest (QiW G B B1 r a) (inA B)) (hS : va_S A0 H0 H locs) (hP : va_P (gD G) vwCl (A ++ B) H) (hD : va_D A0 (A ++ B)) (ha : B1.map Prod.fst = B.map Prod.fst)
    (kk : ∀ (H1 : Heap) (locs1 : List Loc), va_P (gD G) vwCl (A ++ B1) H1 → va_D A0 (A ++ B1) → va_S A0 H0 H1 locs1 → W p l e R s m args below meth c H1 locs1 cells slots Q (F0 m (pc + 3) ls (.int r :: rest))) : W p l e R s m args below meth c H locs cells slots Q (F0 m pc ls st0) := by
  have hin : ∀ q, inA B q → A0 q := fun q ⟨k, e, hk⟩ => (D_R hD).2 k _ hk
  refine va_calli hr hS (fun q _ h => hin q h) hin (fun r' u t H1 locs1 ht hvm hw hB hz hk hS1 => ?_)
  subst hw
  rw [ht] at hB
  refine kk H1 locs1 (P_mem (fun q hq => ?_)) (D_addr (by rw [List.map_append, List.map_append, ha]) hD) hS1
  rcases List.mem_append.mp hq with h | h
  · have hz := P_of hP q (List.mem_append_left _ h)
    exact hz.kept (hk q.1 hz.lt (D_apR hD h))
  · exact P_of hB q h
theorem call_lL {r : Int64} (hr : va_Run p l e R s m args below meth c H locs cells slots 0 0 (F0 m pc ls st0) rest (QlW G A A1 r a) (inA A)) (hS : va_S A0 H0 H locs) (hP : va_P (gD G) vwCl (A ++ B) H) (hD : va_D A0 (A ++ B)) (ha : A1.map Prod.fst = A.map Prod.fst)
    (kk : ∀ (H1 : Heap) (locs1 : List Loc), va_P (gD G) vwCl (A1 ++ B) H1 → va_D A0 (A1 ++ B) → va_S A0 H0 H1 locs1 → W p l e R s m args below meth c H1 locs1 cells slots Q (F0 m (pc + 3) ls (.long r :: rest))) : W p l e R s m args below meth c H locs cells slots Q (F0 m pc ls st0) := by
  have hin : ∀ q, inA A q → A0 q := fun q ⟨k, e, hk⟩ => (D_L hD).2 k _ hk
  refine va_calll hr hS (fun q _ h => hin q h) hin (fun r' u t H1 locs1 ht hvm hw hB hz hk hS1 => ?_)
  subst hw
  rw [ht] at hB
  refine kk H1 locs1 (P_mem (fun q hq => ?_)) (D_addr (by rw [List.map_append, List.map_append, ha]) hD) hS1
  rcases List.mem_append.mp hq with h | h
  · exact P_of hB q h
  · have hz := P_of hP q (List.mem_append_right _ h)
    exact hz.kept (hk q.1 hz.lt (D_apL hD h))
theorem call_lR {r : Int64} (hr : va_Run p l e R s m args below meth c H locs cells slots 0 0 (F0 m pc ls st0) rest (QlW G B B1 r a) (inA B)) (hS : va_S A0 H0 H locs) (hP : va_P (gD G) vwCl (A ++ B) H) (hD : va_D A0 (A ++ B)) (ha : B1.map Prod.fst = B.map Prod.fst)
    (kk : ∀ (H1 : Heap) (locs1 : List Loc), va_P (gD G) vwCl (A ++ B1) H1 → va_D A0 (A ++ B1) → va_S A0 H0 H1 locs1 → W p l e R s m args below meth c H1 locs1 cells slots Q (F0 m (pc + 3) ls (.long r :: rest))) : W p l e R s m args below meth c H locs cells slots Q (F0 m pc ls st0) := by
  have hin : ∀ q, inA B q → A0 q := fun q ⟨k, e, hk⟩ => (D_R hD).2 k _ hk
  refine va_calll hr hS (fun q _ h => hin q h) hin (fun r' u t H1 locs1 ht hvm hw hB hz hk hS1 => ?_)
  subst hw
  rw [ht] at hB
  refine kk H1 locs1 (P_mem (fun q hq => ?_)) (D_addr (by rw [List.map_append, List.map_append, ha]) hD) hS1
  rcases List.mem_append.mp hq with h | h
  · have hz := P_of hP q (List.mem_append_left _ h)
    exact hz.kept (hk q.1 hz.lt (D_apR hD h))
  · exact P_of hB q h
end LawCalls
theorem addrX {G : GG} {h0 : Nat} {a : AX} {S S' : XS} : (wX G h0 a S').map Prod.fst = (wX G h0 a S).map Prod.fst := rfl
theorem addrM {G : GG} {h0 : Nat} {ad : Nat → Nat} {T T' : MS} : (wM G h0 ad T').map Prod.fst = (wM G h0 ad T).map Prod.fst := rfl
/-- the law's frame at pc, both objects in hand, i ints behind -/
def AtW (p : Program) (l : Launch) (e : Env) (s : State) (m : MethodId) (below : List Frame) (meth : Method) (c : Code) (b : Nat) (G : GG) (hX : Nat) (aX : AX) (hM : Nat) (aM : Nat → Nat) (S : XS) (T : MS) (i pc : Nat) : Prop :=
  ∀ (H : Heap) (locs : List Loc) (ls : Array Slot), va_P (gD G) vwCl (wX G hX aX S ++ wM G hM aM T) H → va_D (fun q : Nat => s.heap.size ≤ q) (wX G hX aX S ++ wM G hM aM T) → va_S (fun q : Nat => s.heap.size ≤ q) s.heap H locs → lv_has ls 4 [(0, .ref b), (1, .ref hX), (2, .ref hM), (3, .int (nI i))] →
    W p l e room_1 s m #[Value.ref b] below meth c H locs 44 1156 (lw_Z below #[Value.ref b] s) (F0 m pc ls [])
