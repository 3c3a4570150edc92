/-! constructors: cells come -/
abbrev PcN (G : GG) (av : List Value) (w : va_W) (sz : Nat) : Array Value → State → Prop := va_Pc av (fun U => U.heap.size = sz ∧ va_P (gD G) vwCl w U.heap ∧ KK G U ∧ va_AO RX1 U ∧ va_D (fun _ => True) w)
abbrev QvN {S : Type} (G : GG) (w : va_W) (w1 : S → va_W) (sz : Nat) : Array Value → State → Outcome → State → Prop := va_Qv (fun (_ : S) => True) (fun u t => va_P (gD G) vwCl (w1 u) t.heap ∧ va_D (va_A w sz) (w1 u)) (va_A w sz)
theorem PcN.blind {G : GG} {av : List Value} {ws : va_W} {sz : Nat} : FrameBlind (PcN G av ws sz) := fun _ U g mk q => ⟨q.1, q.2.1, q.2.2.1, q.2.2.2.1.calling, va_AO.moved (u := U) (Vm.Alike.refl U.vm) q.2.2.2.2.1, q.2.2.2.2.2⟩
theorem preN {G : GG} {s : State} {H : Heap} {ws : va_W} {As : List Value} {A : Nat → Prop} (hP : va_P (gD G) vwCl ws H) (hD : va_D A ws) (hK : KK G s) (hO : va_AO RX1 s) : PreS s H (PcN G As ws H.size) As := ⟨PcN.blind, fun U hU hW => ⟨rfl, by rw [hU], by rw [hU]; exact hP, hK.warm hW, hO.moved hW.alike, hD.weaken (fun _ _ _ _ => trivial)⟩⟩
theorem cI_eq {G : GG} {s : State} {cA : ClassId} (hK : KK G s) (h : va_K (gD G) vwCl (gT G ++ [(cA, .int)]) s) : cA = G.2.2.1 := by
  have h1 : s.vm.findClass ("[" ++ (FieldType.int).toString) = some cA := (h.2 4 _ rfl).2
  have h2 : s.vm.findClass ("[" ++ (FieldType.int).toString) = some G.2.2.1 := (hK.1.2 0 _ rfl).2
  rw [h1] at h2; exact Option.some.inj h2
theorem cJ_eq {G : GG} {s : State} {cA : ClassId} (hK : KK G s) (h : va_K (gD G) vwCl (gT G ++ [(cA, .long)]) s) : cA = G.2.2.2.1 := by
  have h1 : s.vm.findClass ("[" ++ (FieldType.long).toString) = some cA := (h.2 4 _ rfl).2
  have h2 : s.vm.findClass ("[" ++ (FieldType.long).toString) = some G.2.2.2.1 := (hK.1.2 1 _ rfl).2
  rw [h1] at h2; exact Option.some.inj h2
theorem cZ_eq {G : GG} {s : State} {cA : ClassId} (hK : KK G s) (h : va_K (gD G) vwCl (gT G ++ [(cA, .boolean)]) s) : cA = G.2.2.2.2.1 := by
  have h1 : s.vm.findClass ("[" ++ (FieldType.boolean).toString) = some cA := (h.2 4 _ rfl).2
  have h2 : s.vm.findClass ("[" ++ (FieldType.boolean).toString) = some G.2.2.2.2.1 := (hK.1.2 2 _ rfl).2
  rw [h1] at h2; exact Option.some.inj h2
theorem cO_eq {G : GG} {s : State} {cA : ClassId} (hK : KK G s) (h : va_K (gD G) vwCl (gT G ++ [(cA, .object RX1)]) s) : cA = G.2.2.2.2.2 := by
  obtain ⟨_, _, _, _, _, h1⟩ := (h.2 4 _ rfl).2
  obtain ⟨_, _, _, _, _, h2⟩ := (hK.1.2 3 _ rfl).2
  rw [h1] at h2; exact Option.some.inj h2
theorem mk_N {l : Launch} {G : GG} {y : MethodName} {ws ws' : List Cond} {rm : Room} {h0 sz mc ms : Nat} {w : va_W} {S : Type} {w1 : S → va_W} {cc : ByteArray} {maxL : Nat} (hy : plainName y.cls = true) (hyn : y.name = "<init>") (hw : ws = Cond.code y cc maxL none :: ws') (hlen : (lg_sl [Value.ref h0]).length ≤ maxL)
    (body : ∀ (p : Program) (e : Env) (s : State) (m : MethodId) (args : Array Value) (below : List Frame) (meth : Method) (c : Code) (Q : State → Prop) (ls : Array Slot) (A : Nat → Prop), CallFix p m c cc maxL s args ws y.cls → meth.name = "<init>" → (∀ q : Nat, s.heap.size ≤ q → A q) → va_P (gD G) vwCl w s.heap → KK G s → va_AO RX1 s → va_D A w → lv_has ls maxL (lv_args 0 [Value.ref h0]) →
      (∀ (H : Heap) (locs : List Loc) (pc : Nat) (ls : Array Slot) (u : S), va_P (gD G) vwCl (w1 u) H → va_D A (w1 u) → va_S A s.heap H locs → decode cc pc = .ok (.return_, 1) → W p l e rm s m args below meth c H locs mc ms Q (F0 m pc ls [])) → W p l e rm s m args below meth c s.heap [] 0 0 Q (F0 m 0 ls [])) : Met l y ws rm (PcN G [.ref h0] w sz) (QvN G w w1 sz) mc ms (va_A w sz) := by
  refine Met.ofW (cc := cc) (maxL := maxL) (ret := none) hy hw ?_
  intro p e s m args below meth c s₁ B hml hv
  obtain ⟨rfl, hsz, hP, hK, hO, hD0⟩ := hv
  subst hsz
  have hx := B.exec
  have hb := B.bytes
  have hr := B.returns
  have hlocks := B.notSynchronized
  have hl := lv_entry [Value.ref h0] (n := maxL) hlen
  rw [lg_entry_eq]
  refine body p e s m _ below meth c _ _ (va_A w s.heap.size) ⟨hx, hb, hml, findClass_of_methodNamed B.named, atoms_spec (ws := ws) B.pre⟩ ((name_of_methodNamed B.named B.method).1.trans hyn) (fun q h => Or.inr h) hP hK hO hD0.self hl ?_
  intro H locs pc ls u hP1 hD1 hS hd
  exact W.vret hx hb hr (fun t ht hW => ⟨⟨u, rfl, trivial, by rw [ht]; exact hP1, hD1⟩, hS.F ht⟩) hS.2.2 hd
section NewRows
variable {p : Program} {l : Launch} {e : Env} {R : Room} {s : State} {m : MethodId} {args : Array Value} {below : List Frame} {meth : Method} {c : Code} {H : Heap} {locs : List Loc} {cells slots mc ms : Nat} {Q : State → Prop}
variable {pc : Nat} {ls : Array Slot} {rest st0 : List Value} {a : Array Value} {A0 : Nat → Prop} {H0 : Heap} {ws wc wr : va_W}
theorem rw_N {S : Type} {G : GG} {w1 : S → va_W} (hr : va_Run p l e R s m args below meth c H locs cells slots mc ms (F0 m pc ls st0) rest (QvN G wc w1 H.size a) (va_A wc H.size)) (hS : va_S A0 H0 H locs) (hA : ∀ q, H0.size ≤ q → A0 q) (hP : va_P (gD G) vwCl ws H) (hD : va_D A0 ws) (isC isR : List Nat) (hC : isC.map (fun i => ws[i]?) = wc.map some) (hR : isR.map (fun i => ws[i]?) = wr.map some) (hn : va_nd isR = true) (hdis : ∀ i ∈ isR, i ∉ isC)
    (kk : ∀ (u : S) (H1 : Heap) (locs1 : List Loc), va_P (gD G) vwCl (wr ++ w1 u) H1 → va_D A0 (wr ++ w1 u) → va_S A0 H0 H1 locs1 → W p l e R s m args below meth c H1 locs1 (cells + mc) (slots + ms) Q (F0 m (pc + 3) ls rest)) : W p l e R s m args below meth c H locs cells slots Q (F0 m pc ls st0) := by
  have hF := va_free (wc := wc) hD hS hA isC hC
  refine va_callv hr hS (fun q _ h => hF q h) hF (fun u t H1 locs1 ht hvm hw hB hz hk hS1 => ?_)
  obtain ⟨hB1, hB2⟩ := hB
  rw [ht] at hB1
  obtain ⟨hP2, hD2⟩ := va_join hP hD isC isR hC hR hn hdis hk hF hB1 hB2
  exact kk u H1 locs1 hP2 hD2 hS1
end NewRows
/-- a row of references: only what stands below its length counts -/
theorem aO_congr {G : GG} {n : Nat} {f g : Nat → Option Nat} (h : ∀ j, j < n → f j = g j) {ad : Nat} {H : Heap} (hP : va_at (gD G) vwCl (ad, aO G n f) H) : va_at (gD G) vwCl (ad, aO G n g) H := by
  have e : vp_cell G.2.2.2.2.2 (n, .inr (.inr (.inr (.inr f)))) = vp_cell G.2.2.2.2.2 (n, .inr (.inr (.inr (.inr g)))) := by
    rw [vp_cell_q, vp_cell_q]
    unfold arrV
    congr 1
    apply Array.ext
    · simp
    · intro i h1 h2
      simp at h1
      simp [h i h1]
  show H[ad]? = some _
  have h1 : H[ad]? = some (vp_cell G.2.2.2.2.2 (n, .inr (.inr (.inr (.inr f))))) := hP
  rw [h1, e]
abbrev z0 : St := (0, 0, 0, 0, 0, 0, 0)
