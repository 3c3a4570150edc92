/-! the nest links: they are carried in every contract beside the tables of the objects -/
def nzF : List (String × Nat × String × String × String) := [(RX3, 51, "ArrestOrder$Text", "length", "I"), (RX2, 32, "ArrestOrder$Standing", "people", "I"), (RX3, 69, "ArrestOrder$Standing", "people", "I"), (RX2, 68, "ArrestOrder$Standing", "feeding", "J"), (RX3, 130, "ArrestOrder$Standing", "feeding", "J"), (RX3, 72, "ArrestOrder$Standing", "large", "I"), (RX3, 83, "ArrestOrder$Standing", "dead", "I"), (RX3, 86, "ArrestOrder$Standing", "dayNumber", "I"), (RX3, 63, "ArrestOrder$Acts", "count", "I")]
def nzM : List (String × Nat × MethodName) := [(RX3, 11, yX2_init), (RX3, 18, yX1_init), (RX3, 28, yX0_init), (RX0, 17, yX1_init), (RX3, 47, yX2_append), (RX3, 55, yX2_readInto), (RX2, 19, yX1_clear), (RX2, 48, yX1_add), (RX1, 34, yX3_bit), (RX2, 38, yX1_hasPairLeft), (RX2, 52, yX1_has), (RX2, 56, yX1_whomFeeds), (RX1, 44, yX3_pair), (RX2, 64, yX1_feeds), (RX2, 72, yX3_pair), (RX3, 59, yX1_copy), (RX3, 75, yX1_mayBeTaken), (RX1, 71, yX3_isIn), (RX3, 79, yX1_hiddenOnes), (RX3, 92, yX1_has), (RX3, 95, yX1_deedOf), (RX3, 98, yX1_kindOf), (RX3, 101, yX1_gradeOf), (RX3, 104, yX1_whomFeeds), (RX3, 111, yX0_remember), (RX0, 25, yX1_copy), (RX3, 126, yX1_bury), (RX1, 58, yX3_without), (RX3, 138, yX1_feeds), (RX3, 141, yX1_setDeed), (RX3, 145, yX1_passDay), (RX1, 65, yX3_leastOf), (RX3, 148, yX0_takeBackInto), (RX3, 152, yX1_fallRow), (RX3, 155, yX1_placeOf), (RX3, 158, yX1_leftBehind), (RX3, 161, yX1_isTaken), (RX3, 170, yX1_worthOf), (RX3, 180, yX1_countTaken)]
def NA (U : State) : Prop := (∀ q ∈ nzF, va_Nw (.fieldLinkNest q.1 q.2.1 q.2.2.1 q.2.2.2.1 q.2.2.2.2 "ArrestOrder") U) ∧ ∀ q ∈ nzM, va_Nw (.methodLinkNest q.1 q.2.1 q.2.2 "ArrestOrder") U
theorem NA.warm {s U : State} (hW : s.WarmedH U.vm) (h : NA s) : NA U := ⟨fun q hq => (h.1 q hq).warmF hW, fun q hq => (h.2 q hq).warmM hW⟩
theorem NA.same {s U : State} (hv : s.vm = U.vm) (h : NA s) : NA U := ⟨fun q hq => va_Nw.same rfl hv (h.1 q hq), fun q hq => va_Nw.same rfl hv (h.2 q hq)⟩
theorem nf_X3_51 {U : State} {A : Array Value} (h : NA U) : (Cond.fieldLinkNest RX3 51 "ArrestOrder$Text" "length" "I" "ArrestOrder").before A U = true := va_Nw.use rfl (h.1 (RX3, 51, "ArrestOrder$Text", "length", "I") (List.mem_of_getElem? (i := 0) rfl))
theorem nf_X2_32 {U : State} {A : Array Value} (h : NA U) : (Cond.fieldLinkNest RX2 32 "ArrestOrder$Standing" "people" "I" "ArrestOrder").before A U = true := va_Nw.use rfl (h.1 (RX2, 32, "ArrestOrder$Standing", "people", "I") (List.mem_of_getElem? (i := 1) rfl))
theorem nf_X3_69 {U : State} {A : Array Value} (h : NA U) : (Cond.fieldLinkNest RX3 69 "ArrestOrder$Standing" "people" "I" "ArrestOrder").before A U = true := va_Nw.use rfl (h.1 (RX3, 69, "ArrestOrder$Standing", "people", "I") (List.mem_of_getElem? (i := 2) rfl))
theorem nf_X2_68 {U : State} {A : Array Value} (h : NA U) : (Cond.fieldLinkNest RX2 68 "ArrestOrder$Standing" "feeding" "J" "ArrestOrder").before A U = true := va_Nw.use rfl (h.1 (RX2, 68, "ArrestOrder$Standing", "feeding", "J") (List.mem_of_getElem? (i := 3) rfl))
theorem nf_X3_130 {U : State} {A : Array Value} (h : NA U) : (Cond.fieldLinkNest RX3 130 "ArrestOrder$Standing" "feeding" "J" "ArrestOrder").before A U = true := va_Nw.use rfl (h.1 (RX3, 130, "ArrestOrder$Standing", "feeding", "J") (List.mem_of_getElem? (i := 4) rfl))
theorem nf_X3_72 {U : State} {A : Array Value} (h : NA U) : (Cond.fieldLinkNest RX3 72 "ArrestOrder$Standing" "large" "I" "ArrestOrder").before A U = true := va_Nw.use rfl (h.1 (RX3, 72, "ArrestOrder$Standing", "large", "I") (List.mem_of_getElem? (i := 5) rfl))
theorem nf_X3_83 {U : State} {A : Array Value} (h : NA U) : (Cond.fieldLinkNest RX3 83 "ArrestOrder$Standing" "dead" "I" "ArrestOrder").before A U = true := va_Nw.use rfl (h.1 (RX3, 83, "ArrestOrder$Standing", "dead", "I") (List.mem_of_getElem? (i := 6) rfl))
theorem nf_X3_86 {U : State} {A : Array Value} (h : NA U) : (Cond.fieldLinkNest RX3 86 "ArrestOrder$Standing" "dayNumber" "I" "ArrestOrder").before A U = true := va_Nw.use rfl (h.1 (RX3, 86, "ArrestOrder$Standing", "dayNumber", "I") (List.mem_of_getElem? (i := 7) rfl))
theorem nf_X3_63 {U : State} {A : Array Value} (h : NA U) : (Cond.fieldLinkNest RX3 63 "ArrestOrder$Acts" "count" "I" "ArrestOrder").before A U = true := va_Nw.use rfl (h.1 (RX3, 63, "ArrestOrder$Acts", "count", "I") (List.mem_of_getElem? (i := 8) rfl))
theorem nm_X3_11 {U : State} (h : NA U) : va_Nw (.methodLinkNest RX3 11 yX2_init "ArrestOrder") U := h.2 (RX3, 11, yX2_init) (List.mem_of_getElem? (i := 0) rfl)
theorem nm_X3_18 {U : State} (h : NA U) : va_Nw (.methodLinkNest RX3 18 yX1_init "ArrestOrder") U := h.2 (RX3, 18, yX1_init) (List.mem_of_getElem? (i := 1) rfl)
theorem nm_X3_28 {U : State} (h : NA U) : va_Nw (.methodLinkNest RX3 28 yX0_init "ArrestOrder") U := h.2 (RX3, 28, yX0_init) (List.mem_of_getElem? (i := 2) rfl)
theorem nm_X0_17 {U : State} (h : NA U) : va_Nw (.methodLinkNest RX0 17 yX1_init "ArrestOrder") U := h.2 (RX0, 17, yX1_init) (List.mem_of_getElem? (i := 3) rfl)
theorem nm_X3_47 {U : State} (h : NA U) : va_Nw (.methodLinkNest RX3 47 yX2_append "ArrestOrder") U := h.2 (RX3, 47, yX2_append) (List.mem_of_getElem? (i := 4) rfl)
theorem nm_X3_55 {U : State} (h : NA U) : va_Nw (.methodLinkNest RX3 55 yX2_readInto "ArrestOrder") U := h.2 (RX3, 55, yX2_readInto) (List.mem_of_getElem? (i := 5) rfl)
theorem nm_X2_19 {U : State} (h : NA U) : va_Nw (.methodLinkNest RX2 19 yX1_clear "ArrestOrder") U := h.2 (RX2, 19, yX1_clear) (List.mem_of_getElem? (i := 6) rfl)
theorem nm_X2_48 {U : State} (h : NA U) : va_Nw (.methodLinkNest RX2 48 yX1_add "ArrestOrder") U := h.2 (RX2, 48, yX1_add) (List.mem_of_getElem? (i := 7) rfl)
theorem nm_X1_34 {U : State} (h : NA U) : va_Nw (.methodLinkNest RX1 34 yX3_bit "ArrestOrder") U := h.2 (RX1, 34, yX3_bit) (List.mem_of_getElem? (i := 8) rfl)
theorem nm_X2_38 {U : State} (h : NA U) : va_Nw (.methodLinkNest RX2 38 yX1_hasPairLeft "ArrestOrder") U := h.2 (RX2, 38, yX1_hasPairLeft) (List.mem_of_getElem? (i := 9) rfl)
theorem nm_X2_52 {U : State} (h : NA U) : va_Nw (.methodLinkNest RX2 52 yX1_has "ArrestOrder") U := h.2 (RX2, 52, yX1_has) (List.mem_of_getElem? (i := 10) rfl)
theorem nm_X2_56 {U : State} (h : NA U) : va_Nw (.methodLinkNest RX2 56 yX1_whomFeeds "ArrestOrder") U := h.2 (RX2, 56, yX1_whomFeeds) (List.mem_of_getElem? (i := 11) rfl)
theorem nm_X1_44 {U : State} (h : NA U) : va_Nw (.methodLinkNest RX1 44 yX3_pair "ArrestOrder") U := h.2 (RX1, 44, yX3_pair) (List.mem_of_getElem? (i := 12) rfl)
theorem nm_X2_64 {U : State} (h : NA U) : va_Nw (.methodLinkNest RX2 64 yX1_feeds "ArrestOrder") U := h.2 (RX2, 64, yX1_feeds) (List.mem_of_getElem? (i := 13) rfl)
theorem nm_X2_72 {U : State} (h : NA U) : va_Nw (.methodLinkNest RX2 72 yX3_pair "ArrestOrder") U := h.2 (RX2, 72, yX3_pair) (List.mem_of_getElem? (i := 14) rfl)
theorem nm_X3_59 {U : State} (h : NA U) : va_Nw (.methodLinkNest RX3 59 yX1_copy "ArrestOrder") U := h.2 (RX3, 59, yX1_copy) (List.mem_of_getElem? (i := 15) rfl)
theorem nm_X3_75 {U : State} (h : NA U) : va_Nw (.methodLinkNest RX3 75 yX1_mayBeTaken "ArrestOrder") U := h.2 (RX3, 75, yX1_mayBeTaken) (List.mem_of_getElem? (i := 16) rfl)
theorem nm_X1_71 {U : State} (h : NA U) : va_Nw (.methodLinkNest RX1 71 yX3_isIn "ArrestOrder") U := h.2 (RX1, 71, yX3_isIn) (List.mem_of_getElem? (i := 17) rfl)
theorem nm_X3_79 {U : State} (h : NA U) : va_Nw (.methodLinkNest RX3 79 yX1_hiddenOnes "ArrestOrder") U := h.2 (RX3, 79, yX1_hiddenOnes) (List.mem_of_getElem? (i := 18) rfl)
theorem nm_X3_92 {U : State} (h : NA U) : va_Nw (.methodLinkNest RX3 92 yX1_has "ArrestOrder") U := h.2 (RX3, 92, yX1_has) (List.mem_of_getElem? (i := 19) rfl)
theorem nm_X3_95 {U : State} (h : NA U) : va_Nw (.methodLinkNest RX3 95 yX1_deedOf "ArrestOrder") U := h.2 (RX3, 95, yX1_deedOf) (List.mem_of_getElem? (i := 20) rfl)
theorem nm_X3_98 {U : State} (h : NA U) : va_Nw (.methodLinkNest RX3 98 yX1_kindOf "ArrestOrder") U := h.2 (RX3, 98, yX1_kindOf) (List.mem_of_getElem? (i := 21) rfl)
theorem nm_X3_101 {U : State} (h : NA U) : va_Nw (.methodLinkNest RX3 101 yX1_gradeOf "ArrestOrder") U := h.2 (RX3, 101, yX1_gradeOf) (List.mem_of_getElem? (i := 22) rfl)
theorem nm_X3_104 {U : State} (h : NA U) : va_Nw (.methodLinkNest RX3 104 yX1_whomFeeds "ArrestOrder") U := h.2 (RX3, 104, yX1_whomFeeds) (List.mem_of_getElem? (i := 23) rfl)
theorem nm_X3_111 {U : State} (h : NA U) : va_Nw (.methodLinkNest RX3 111 yX0_remember "ArrestOrder") U := h.2 (RX3, 111, yX0_remember) (List.mem_of_getElem? (i := 24) rfl)
theorem nm_X0_25 {U : State} (h : NA U) : va_Nw (.methodLinkNest RX0 25 yX1_copy "ArrestOrder") U := h.2 (RX0, 25, yX1_copy) (List.mem_of_getElem? (i := 25) rfl)
theorem nm_X3_126 {U : State} (h : NA U) : va_Nw (.methodLinkNest RX3 126 yX1_bury "ArrestOrder") U := h.2 (RX3, 126, yX1_bury) (List.mem_of_getElem? (i := 26) rfl)
theorem nm_X1_58 {U : State} (h : NA U) : va_Nw (.methodLinkNest RX1 58 yX3_without "ArrestOrder") U := h.2 (RX1, 58, yX3_without) (List.mem_of_getElem? (i := 27) rfl)
theorem nm_X3_138 {U : State} (h : NA U) : va_Nw (.methodLinkNest RX3 138 yX1_feeds "ArrestOrder") U := h.2 (RX3, 138, yX1_feeds) (List.mem_of_getElem? (i := 28) rfl)
theorem nm_X3_141 {U : State} (h : NA U) : va_Nw (.methodLinkNest RX3 141 yX1_setDeed "ArrestOrder") U := h.2 (RX3, 141, yX1_setDeed) (List.mem_of_getElem? (i := 29) rfl)
theorem nm_X3_145 {U : State} (h : NA U) : va_Nw (.methodLinkNest RX3 145 yX1_passDay "ArrestOrder") U := h.2 (RX3, 145, yX1_passDay) (List.mem_of_getElem? (i := 30) rfl)
theorem nm_X1_65 {U : State} (h : NA U) : va_Nw (.methodLinkNest RX1 65 yX3_leastOf "ArrestOrder") U := h.2 (RX1, 65, yX3_leastOf) (List.mem_of_getElem? (i := 31) rfl)
theorem nm_X3_148 {U : State} (h : NA U) : va_Nw (.methodLinkNest RX3 148 yX0_takeBackInto "ArrestOrder") U := h.2 (RX3, 148, yX0_takeBackInto) (List.mem_of_getElem? (i := 32) rfl)
theorem nm_X3_152 {U : State} (h : NA U) : va_Nw (.methodLinkNest RX3 152 yX1_fallRow "ArrestOrder") U := h.2 (RX3, 152, yX1_fallRow) (List.mem_of_getElem? (i := 33) rfl)
theorem nm_X3_155 {U : State} (h : NA U) : va_Nw (.methodLinkNest RX3 155 yX1_placeOf "ArrestOrder") U := h.2 (RX3, 155, yX1_placeOf) (List.mem_of_getElem? (i := 34) rfl)
theorem nm_X3_158 {U : State} (h : NA U) : va_Nw (.methodLinkNest RX3 158 yX1_leftBehind "ArrestOrder") U := h.2 (RX3, 158, yX1_leftBehind) (List.mem_of_getElem? (i := 35) rfl)
theorem nm_X3_161 {U : State} (h : NA U) : va_Nw (.methodLinkNest RX3 161 yX1_isTaken "ArrestOrder") U := h.2 (RX3, 161, yX1_isTaken) (List.mem_of_getElem? (i := 36) rfl)
theorem nm_X3_170 {U : State} (h : NA U) : va_Nw (.methodLinkNest RX3 170 yX1_worthOf "ArrestOrder") U := h.2 (RX3, 170, yX1_worthOf) (List.mem_of_getElem? (i := 37) rfl)
theorem nm_X3_180 {U : State} (h : NA U) : va_Nw (.methodLinkNest RX3 180 yX1_countTaken "ArrestOrder") U := h.2 (RX3, 180, yX1_countTaken) (List.mem_of_getElem? (i := 38) rfl)
/-! the tables that every world shares: class numbers and slots of the five kinds of object, the four array kinds -/
abbrev GG : Type := (Nat → ClassId) × (Nat → Nat → Nat) × ClassId × ClassId × ClassId × ClassId
abbrev gD (G : GG) : va_G := (G.1, G.2.1)
abbrev gT (G : GG) : List (ClassId × FieldType) := [(G.2.2.1, .int), (G.2.2.2.1, .long), (G.2.2.2.2.1, .boolean), (G.2.2.2.2.2, .object RX1)]
def KK (G : GG) (U : State) : Prop := va_K (gD G) vwCl (gT G) U ∧ NA U
theorem KK.warm {G : GG} {s U : State} (hW : s.WarmedH U.vm) (h : KK G s) : KK G U := ⟨va_K.moved hW.alike h.1, h.2.warm hW⟩
theorem KK.calling {G : GG} {U : State} {g : JFrame} {mk : MethodId} {a : Array Value} (h : KK G U) : KK G (U.calling g mk a) := ⟨va_K.moved (u := U) (U := U.calling g mk a) (Vm.Alike.refl U.vm) h.1, NA.same rfl h.2⟩
abbrev aI (G : GG) (n : Nat) (f : Nat → Int32) : va_E := .inl (G.2.2.1, n, .inl f)
abbrev aJ (G : GG) (n : Nat) (f : Nat → Int64) : va_E := .inl (G.2.2.2.1, n, .inr (.inl f))
abbrev aZ (G : GG) (n : Nat) (f : Nat → Int32) : va_E := .inl (G.2.2.2.2.1, n, .inl f)
abbrev aO (G : GG) (n : Nat) (f : Nat → Option Nat) : va_E := .inl (G.2.2.2.2.2, n, .inr (.inr (.inr (.inr f))))
/-- the addresses of a world -/
def inA (ws : va_W) : Nat → Prop := fun q => ∃ (k : Nat) (e : va_E), ws[k]? = some (q, e)
def noA : Nat → Prop := fun _ => False
theorem inA.D {ws : va_W} {A : Nat → Prop} (h : va_D A ws) : va_D (inA ws) ws := ⟨h.1, fun k q hk => ⟨k, q.2, hk⟩⟩
abbrev PcR (G : GG) (av : List Value) (ws : va_W) : Array Value → State → Prop := va_Pc av (fun U => va_P (gD G) vwCl ws U.heap ∧ KK G U)
abbrev PcW (G : GG) (av : List Value) (ws : va_W) : Array Value → State → Prop := va_Pc av (fun U => va_P (gD G) vwCl ws U.heap ∧ KK G U ∧ va_D (fun _ => True) ws)
abbrev QiR (r : Int32) : Array Value → State → Outcome → State → Prop := va_Qi (fun (x : Int32) (_ : Unit) => x = r) (fun _ _ => True) noA
abbrev QlR (r : Int64) : Array Value → State → Outcome → State → Prop := va_Ql (fun (x : Int64) (_ : Unit) => x = r) (fun _ _ => True) noA
abbrev QiW (G : GG) (w w1 : va_W) (r : Int32) : Array Value → State → Outcome → State → Prop := va_Qi (fun (x : Int32) (_ : Unit) => x = r) (fun _ t => va_P (gD G) vwCl w1 t.heap) (inA w)
abbrev QlW (G : GG) (w w1 : va_W) (r : Int64) : Array Value → State → Outcome → State → Prop := va_Ql (fun (x : Int64) (_ : Unit) => x = r) (fun _ t => va_P (gD G) vwCl w1 t.heap) (inA w)
abbrev QvW (G : GG) (w w1 : va_W) : Array Value → State → Outcome → State → Prop := va_Qv (fun (_ : Unit) => True) (fun _ t => va_P (gD G) vwCl w1 t.heap) (inA w)
theorem PcR.blind {G : GG} {av : List Value} {ws : va_W} : FrameBlind (PcR G av ws) := fun _ _ _ _ q => ⟨q.1, q.2.1, q.2.2.calling⟩
theorem PcW.blind {G : GG} {av : List Value} {ws : va_W} : FrameBlind (PcW G av ws) := fun _ _ _ _ q => ⟨q.1, q.2.1, q.2.2.1.calling, q.2.2.2⟩
theorem preR_S {G : GG} {s : State} {H : Heap} {ws : va_W} {As : List Value} (hP : va_P (gD G) vwCl ws H) (hK : KK G s) : PreS s H (PcR G As ws) As := ⟨PcR.blind, fun U hU hW => ⟨rfl, by rw [hU]; exact hP, hK.warm hW⟩⟩
theorem preW_S {G : GG} {s : State} {H : Heap} {ws : va_W} {As : List Value} {A : Nat → Prop} (hP : va_P (gD G) vwCl ws H) (hD : va_D A ws) (hK : KK G s) : PreS s H (PcW G As ws) As := ⟨PcW.blind, fun U hU hW => ⟨rfl, by rw [hU]; exact hP, hK.warm hW, hD.weaken (fun _ _ _ _ => trivial)⟩⟩
theorem preR_V {G : GG} {s : State} {H : Heap} {ws : va_W} {As : List Value} {b q0 ci : Nat} {q : vw_C} {fs : List Value} (hP : va_P (gD G) vwCl ws H) (hK : KK G s) (hc : vwCl[ci]? = some q) (he : ws[q0]? = some (b, .inr (ci, fs))) : PreV s H q.1 b (PcR G (.ref b :: As) ws) As := ⟨PcR.blind, va_recv hK.1 hP hc he, fun U hU hW => ⟨rfl, by rw [hU]; exact hP, hK.warm hW⟩⟩
theorem preW_V {G : GG} {s : State} {H : Heap} {ws : va_W} {As : List Value} {A : Nat → Prop} {b q0 ci : Nat} {q : vw_C} {fs : List Value} (hP : va_P (gD G) vwCl ws H) (hD : va_D A ws) (hK : KK G s) (hc : vwCl[ci]? = some q) (he : ws[q0]? = some (b, .inr (ci, fs))) : PreV s H q.1 b (PcW G (.ref b :: As) ws) As := ⟨PcW.blind, va_recv hK.1 hP hc he, fun U hU hW => ⟨rfl, by rw [hU]; exact hP, hK.warm hW, hD.weaken (fun _ _ _ _ => trivial)⟩⟩
/-! cells replaced by places -/
def repl : va_W → List Nat → va_W → va_W
  | ws, [], _ => ws
  | ws, _ :: _, [] => ws
  | ws, i :: is, e :: es => repl (ws.set i e) is es
theorem repl_get : ∀ (is : List Nat) (ws es : va_W) (k : Nat) (q : Nat × va_E), is.length = es.length → (repl ws is es)[k]? = some q → q ∈ es ∨ (k ∉ is ∧ ws[k]? = some q)
  | [], ws, es, k, q, _, h => Or.inr ⟨by simp, by simpa [repl] using h⟩
  | i :: is, ws, [], k, q, hl, h => by simp at hl
  | i :: is, ws, e :: es, k, q, hl, h => by
    rcases repl_get is (ws.set i e) es k q (by simpa using hl) (by simpa [repl] using h) with h1 | ⟨h1, h2⟩
    · exact Or.inl (List.mem_cons_of_mem _ h1)
    · rw [List.getElem?_set] at h2
      by_cases hik : i = k
      · rw [if_pos hik] at h2
        split at h2
        · cases h2; exact Or.inl List.mem_cons_self
        · cases h2
      · rw [if_neg hik] at h2
        exact Or.inr ⟨by simp only [List.mem_cons, not_or]; exact ⟨fun z => hik z.symm, h1⟩, h2⟩
theorem D_addr {A : Nat → Prop} {ws ws' : va_W} (h : ws'.map Prod.fst = ws.map Prod.fst) (hD : va_D A ws) : va_D A ws' := by
  have key : ∀ (k : Nat) (q : Nat × va_E), ws'[k]? = some q → ∃ q' : Nat × va_E, ws[k]? = some q' ∧ q'.1 = q.1 := by
    intro k q hk
    have h1 : (ws'.map Prod.fst)[k]? = some q.1 := by rw [List.getElem?_map, hk]; rfl
    rw [h, List.getElem?_map] at h1
    cases hw : ws[k]? with
    | none => rw [hw] at h1; cases h1
    | some q' => rw [hw] at h1; exact ⟨q', rfl, Option.some.inj h1⟩
  refine ⟨fun i j p q hi hj e => ?_, fun k q hk => ?_⟩
  · obtain ⟨p', hp1, hp2⟩ := key i p hi
    obtain ⟨q', hq1, hq2⟩ := key j q hj
    exact hD.1 i j p' q' hp1 hq1 (by rw [hp2, hq2, e])
  · obtain ⟨q', hq1, hq2⟩ := key k q hk
    rw [← hq2]; exact hD.2 k q' hq1
theorem P_repl {A0 : Nat → Prop} {D : va_G} {cl : List vw_C} {ws wc w1 : va_W} {H H1 : Heap} (hP : va_P D cl ws H) (hD : va_D A0 ws) (isC : List Nat) (hC : isC.map (fun i => ws[i]?) = wc.map some) (hl : isC.length = w1.length)
    (hk : ∀ q : Nat, q < H.size → ¬ inA wc q → H1[q]? = H[q]?) (hP1 : va_P D cl w1 H1) : va_P D cl (repl ws isC w1) H1 := by
  intro k q hq
  rcases repl_get isC ws w1 k q hl hq with h | ⟨h1, h2⟩
  · obtain ⟨j, hj⟩ := List.getElem?_of_mem h
    exact hP1 j q hj
  · refine (hP k q h2).kept (hk q.1 (hP k q h2).lt ?_)
    rintro ⟨j, e, hj⟩
    have g1 : (isC.map (fun i => ws[i]?))[j]? = some (some (q.1, e)) := by rw [hC, List.getElem?_map, hj]; rfl
    rw [List.getElem?_map] at g1
    cases hi : isC[j]? with
    | none => rw [hi] at g1; cases g1
    | some i =>
      rw [hi] at g1
      have g2 := hD.1 k i q (q.1, e) h2 (Option.some.inj g1) rfl
      subst g2
      exact h1 (List.mem_of_getElem? hi)
theorem inA_sub {A0 : Nat → Prop} {ws wc : va_W} (hD : va_D A0 ws) (isC : List Nat) (hC : isC.map (fun i => ws[i]?) = wc.map some) : ∀ q, inA wc q → A0 q := by
  rintro q ⟨k, e, h⟩
  have h1 : (isC.map (fun i => ws[i]?))[k]? = some (some (q, e)) := by rw [hC, List.getElem?_map, h]; rfl
  rw [List.getElem?_map] at h1
  cases hi : isC[k]? with
  | none => rw [hi] at h1; cases h1
  | some i => rw [hi] at h1; exact hD.2 i (q, e) (Option.some.inj h1)
section CallRows
variable {p : Program} {l : Launch} {e : Env} {R : Room} {s : State} {m : MethodId} {args : Array Value} {below : List Frame} {meth : Method} {c : Code} {H : Heap} {locs : List Loc} {cells slots : Nat} {Q : State → Prop}
variable {pc : Nat} {ls : Array Slot} {rest st0 : List Value} {a : Array Value} {A0 : Nat → Prop} {H0 : Heap} {D : va_G} {cl : List vw_C} {ws wc w1 : va_W}
theorem ro_i {r : Int32} (hr : va_Run p l e R s m args below meth c H locs cells slots 0 0 (F0 m pc ls st0) rest (QiR r a) noA) (hS : va_S A0 H0 H locs) (hP : va_P D cl ws H)
    (kk : ∀ (H1 : Heap) (locs1 : List Loc), va_P D cl ws H1 → va_S A0 H0 H1 locs1 → W p l e R s m args below meth c H1 locs1 cells slots Q (F0 m (pc + 3) ls (.int r :: rest))) : W p l e R s m args below meth c H locs cells slots Q (F0 m pc ls st0) := by
  refine va_calli hr hS (fun q _ h => h.elim) (fun q h => h.elim) (fun r' u t H1 locs1 ht hvm hw hB hz hk hS1 => ?_)
  subst hw
  exact kk H1 locs1 (hP.kept (fun k q hq => hk q.1 (hP k q hq).lt (fun z => z))) hS1
theorem ro_l {r : Int64} (hr : va_Run p l e R s m args below meth c H locs cells slots 0 0 (F0 m pc ls st0) rest (QlR r a) noA) (hS : va_S A0 H0 H locs) (hP : va_P D cl ws H)
    (kk : ∀ (H1 : Heap) (locs1 : List Loc), va_P D cl ws H1 → va_S A0 H0 H1 locs1 → W p l e R s m args below meth c H1 locs1 cells slots Q (F0 m (pc + 3) ls (.long r :: rest))) : W p l e R s m args below meth c H locs cells slots Q (F0 m pc ls st0) := by
  refine va_calll hr hS (fun q _ h => h.elim) (fun q h => h.elim) (fun r' u t H1 locs1 ht hvm hw hB hz hk hS1 => ?_)
  subst hw
  exact kk H1 locs1 (hP.kept (fun k q hq => hk q.1 (hP k q hq).lt (fun z => z))) hS1
theorem rw_i {G : GG} {r : Int32} (hr : va_Run p l e R s m args below meth c H locs cells slots 0 0 (F0 m pc ls st0) rest (QiW G wc w1 r a) (inA wc)) (hS : va_S A0 H0 H locs) (hP : va_P (gD G) vwCl ws H) (hD : va_D A0 ws) (isC : List Nat) (hC : isC.map (fun i => ws[i]?) = wc.map some) (hl : isC.length = w1.length) (ha : (repl ws isC w1).map Prod.fst = ws.map Prod.fst)
    (kk : ∀ (H1 : Heap) (locs1 : List Loc), va_P (gD G) vwCl (repl ws isC w1) H1 → va_D A0 (repl ws isC w1) → va_S A0 H0 H1 locs1 → W p l e R s m args below meth c H1 locs1 cells slots Q (F0 m (pc + 3) ls (.int r :: rest))) : W p l e R s m args below meth c H locs cells slots Q (F0 m pc ls st0) := by
  refine va_calli hr hS (fun q _ h => inA_sub hD isC hC q h) (inA_sub hD isC hC) (fun r' u t H1 locs1 ht hvm hw hB hz hk hS1 => ?_)
  subst hw
  rw [ht] at hB
  exact kk H1 locs1 (P_repl hP hD isC hC hl hk hB) (D_addr ha hD) hS1
theorem rw_l {G : GG} {r : Int64} (hr : va_Run p l e R s m args below meth c H locs cells slots 0 0 (F0 m pc ls st0) rest (QlW G wc w1 r a) (inA wc)) (hS : va_S A0 H0 H locs) (hP : va_P (gD G) vwCl ws H) (hD : va_D A0 ws) (isC : List Nat) (hC : isC.map (fun i => ws[i]?) = wc.map some) (hl : isC.length = w1.length) (ha : (repl ws isC w1).map Prod.fst = ws.map Prod.fst)
    (kk : ∀ (H1 : Heap) (locs1 : List Loc), va_P (gD G) vwCl (repl ws isC w1) H1 → va_D A0 (repl ws isC w1) → va_S A0 H0 H1 locs1 → W p l e R s m args below meth c H1 locs1 cells slots Q (F0 m (pc + 3) ls (.long r :: rest))) : W p l e R s m args below meth c H locs cells slots Q (F0 m pc ls st0) := by
  refine va_calll hr hS (fun q _ h => inA_sub hD isC hC q h) (inA_sub hD isC hC) (fun r' u t H1 locs1 ht hvm hw hB hz hk hS1 => ?_)
  subst hw
  rw [ht] at hB
  exact kk H1 locs1 (P_repl hP hD isC hC hl hk hB) (D_addr ha hD) hS1
theorem rw_v {G : GG} (hr : va_Run p l e R s m args below meth c H locs cells slots 0 0 (F0 m pc ls st0) rest (QvW G wc w1 a) (inA wc)) (hS : va_S A0 H0 H locs) (hP : va_P (gD G) vwCl ws H) (hD : va_D A0 ws) (isC : List Nat) (hC : isC.map (fun i => ws[i]?) = wc.map some) (hl : isC.length = w1.length) (ha : (repl ws isC w1).map Prod.fst = ws.map Prod.fst)
    (kk : ∀ (H1 : Heap) (locs1 : List Loc), va_P (gD G) vwCl (repl ws isC w1) H1 → va_D A0 (repl ws isC w1) → va_S A0 H0 H1 locs1 → W p l e R s m args below meth c H1 locs1 cells slots Q (F0 m (pc + 3) ls rest)) : W p l e R s m args below meth c H locs cells slots Q (F0 m pc ls st0) := by
  refine va_callv hr hS (fun q _ h => inA_sub hD isC hC q h) (inA_sub hD isC hC) (fun u t H1 locs1 ht hvm hw hB hz hk hS1 => ?_)
  rw [ht] at hB
  exact kk H1 locs1 (P_repl hP hD isC hC hl hk hB) (D_addr ha hD) hS1
end CallRows
/-! the pure side's checks: an index in its row, a divisor that is not 0, a boolean -/
def ck {α : Type} (i : Int32) (n : Nat) (k : Option α) : Option α := if i < 0 ∨ n ≤ i.toNatClampNeg then none else k
def dv {α : Type} (y : Int32) (k : Option α) : Option α := if y = 0 then none else k
def dvL {α : Type} (y : Int64) (k : Option α) : Option α := if y = 0 then none else k
def zk {α : Type} (v : Int32) (k : Option α) : Option α := if v = 0 ∨ v = 1 then k else none
theorem ckS {α : Type} {i : Int32} {n : Nat} {k : Option α} {o : α} (h : ck i n k = some o) : vp_in i n ∧ k = some o := by
  unfold ck at h
  split at h
  · cases h
  · rename_i hn; exact ⟨hn, h⟩
theorem dvS {α : Type} {y : Int32} {k : Option α} {o : α} (h : dv y k = some o) : ¬ y = 0 ∧ k = some o := by
  unfold dv at h
  split at h
  · cases h
  · rename_i hn; exact ⟨hn, h⟩
theorem dvLS {α : Type} {y : Int64} {k : Option α} {o : α} (h : dvL y k = some o) : ¬ y = 0 ∧ k = some o := by
  unfold dvL at h
  split at h
  · cases h
  · rename_i hn; exact ⟨hn, h⟩
theorem zkS {α : Type} {v : Int32} {k : Option α} {o : α} (h : zk v k = some o) : narrow .boolean (.int v) = .int v ∧ k = some o := by
  unfold zk at h
  split at h
  · rename_i hn
    refine ⟨?_, h⟩
    rcases hn with rfl | rfl <;> rfl
  · cases h
theorem bindS {α β : Type} {x : Option α} {k : α → Option β} {o : β} (h : x.bind k = some o) : ∃ v, x = some v ∧ k v = some o := by
  cases x with
  | none => cases h
  | some v => exact ⟨v, rfl, h⟩
theorem iteT {α : Type} {c : Prop} [Decidable c] {A B : Option α} {o : α} (h : (if c then A else B) = some o) (hc : c) : A = some o := by rw [if_pos hc] at h; exact h
theorem iteF {α : Type} {c : Prop} [Decidable c] {A B : Option α} {o : α} (h : (if c then A else B) = some o) (hc : ¬ c) : B = some o := by rw [if_neg hc] at h; exact h
/-! the machine's shifts -/
abbrev j_ushr (x y : Int32) : Int32 := (x.toUInt32 >>> (y.toUInt32 &&& Int32.toUInt32 31)).toInt32
abbrev j_lushr (x : Int64) (y : Int32) : Int64 := (x.toUInt64 >>> (y.toInt64.toUInt64 &&& Int64.toUInt64 63)).toInt64
abbrev j_lshl (x : Int64) (y : Int32) : Int64 := x <<< (y.toInt64 &&& 63)
/-! the cells -/
abbrev St : Type := Int32 × Int32 × Int32 × Int64 × Int32 × Int32 × Int32
abbrev stE (people kinds deeds : Int32) (feeding : Int64) (large dead day : Int32) : va_E := .inr (1, [.int people, .int kinds, .int deeds, .long feeding, .int large, .int dead, .int day])
abbrev stT (s : St) : va_E := stE s.1 s.2.1 s.2.2.1 s.2.2.2.1 s.2.2.2.2.1 s.2.2.2.2.2.1 s.2.2.2.2.2.2
abbrev txE (ad : Nat → Nat) (length : Int32) : va_E := .inr (2, [.ref (ad 0), .int length])
abbrev acE (ad : Nat → Nat) (first count : Int32) : va_E := .inr (0, [.ref (ad 0), .int first, .int count])
abbrev xoE (ad : Nat → Nat) (keptSlots seenCount : Int32) (seed : Int64) : va_E := .inr (3, [.ref (ad 0), .ref (ad 1), .ref (ad 2), .ref (ad 3), .ref (ad 4), .int keptSlots, .ref (ad 6), .int seenCount, .long seed, .ref (ad 9), .ref (ad 10)])
abbrev moE (ad : Nat → Nat) (thrown textSize place people readPeople acts seen : Int32) (seed : Int64) (rowSize feedMany feedRow restMany restFirst : Int32) : va_E := .inr (4, [.int thrown, .ref (ad 1), .int textSize, .int place, .int people, .ref (ad 5), .int readPeople, .ref (ad 7), .ref (ad 8), .ref (ad 9), .ref (ad 10), .ref (ad 11), .ref (ad 12), .int acts, .ref (ad 14), .ref (ad 15), .int seen, .ref (ad 17), .ref (ad 18), .long seed, .ref (ad 20), .int rowSize, .int feedMany, .int feedRow, .int restMany, .int restFirst, .ref (ad 26), .ref (ad 27), .ref (ad 28)])
/-- a row of Standings, by their addresses -/
def plist (ra : Nat → Nat) (R : Nat → St) (n : Nat) : va_W := (List.range n).map (fun j => (ra j, stT (R j)))
theorem sw_out {x : Int32} (hi : Nat) (l : List Int32) (hl : l = (List.range (hi + 1)).map nI) (h : ∀ k ∈ l, ¬ x = k) : x.toInt < 0 ∨ (hi : Int) < x.toInt := by
  rcases Int.lt_or_le x.toInt 0 with q | q
  · exact Or.inl q
  · rcases Int.lt_or_le (hi : Int) x.toInt with q2 | q2
    · exact Or.inr q2
    · exfalso
      have hx : ¬ x < 0 := by rw [Int32.lt_iff_toInt_lt]; show ¬ x.toInt < 0; omega
      obtain ⟨j, hj, rfl⟩ := nI_of hx
      rw [nI_toInt hj] at q2
      refine h (nI j) ?_ rfl
      rw [hl]
      exact List.mem_map.mpr ⟨j, List.mem_range.mpr (by omega), rfl⟩

theorem mk_Ri {l : Launch} {G : GG} {y : MethodName} {ws ws' : List Cond} {rm : Room} {av : List Value} {w : va_W} {r : Int32} {cc : ByteArray} {maxL : Nat} (hy : plainName y.cls = true) (hw : ws = Cond.code y cc maxL (some .int) :: ws') (hlen : (lg_sl av).length ≤ maxL)
    (body : ∀ (p : Program) (e : Env) (s : State) (m : MethodId) (args : Array Value) (below : List Frame) (meth : Method) (c : Code) (Q : State → Prop) (ls : Array Slot), CallFix p m c cc maxL s args ws y.cls → va_P (gD G) vwCl w s.heap → KK G s → lv_has ls maxL (lv_args 0 av) → (∀ (H : Heap) (locs : List Loc) (pc : Nat) (ls : Array Slot) (v : Int32), va_S noA s.heap H locs → v = r → decode cc pc = .ok (.ireturn, 1) → W p l e rm s m args below meth c H locs 0 0 Q (F0 m pc ls [.int v])) → W p l e rm s m args below meth c s.heap [] 0 0 Q (F0 m 0 ls [])) : Met l y ws rm (PcR G av w) (QiR r) 0 0 noA := by
  refine Met.ofW (cc := cc) (maxL := maxL) (ret := (some .int)) hy hw ?_
  intro p e s m args below meth c s₁ B hml hv
  obtain ⟨rfl, hP, hK⟩ := hv
  have hx := B.exec
  have hb := B.bytes
  have hr := B.returns
  have hlocks := B.notSynchronized
  have hl := lv_entry av (n := maxL) hlen
  rw [lg_entry_eq]
  refine body p e s m _ below meth c _ _ ⟨hx, hb, hml, findClass_of_methodNamed B.named, atoms_spec (ws := ws) B.pre⟩ hP hK hl ?_
  intro H locs pc ls v hS hv hd
  exact W.iret hx hb hr (fun t ht hW => ⟨⟨v, (), rfl, hv, trivial⟩, hS.F ht⟩) hS.2.2 hd
theorem mk_Rz {l : Launch} {G : GG} {y : MethodName} {ws ws' : List Cond} {rm : Room} {av : List Value} {w : va_W} {r : Int32} {cc : ByteArray} {maxL : Nat} (hy : plainName y.cls = true) (hw : ws = Cond.code y cc maxL (some .boolean) :: ws') (hlen : (lg_sl av).length ≤ maxL)
    (body : ∀ (p : Program) (e : Env) (s : State) (m : MethodId) (args : Array Value) (below : List Frame) (meth : Method) (c : Code) (Q : State → Prop) (ls : Array Slot), CallFix p m c cc maxL s args ws y.cls → va_P (gD G) vwCl w s.heap → KK G s → lv_has ls maxL (lv_args 0 av) → (∀ (H : Heap) (locs : List Loc) (pc : Nat) (ls : Array Slot) (v : Int32), va_S noA s.heap H locs → narrow .boolean (.int v) = .int v → v = r → decode cc pc = .ok (.ireturn, 1) → W p l e rm s m args below meth c H locs 0 0 Q (F0 m pc ls [.int v])) → W p l e rm s m args below meth c s.heap [] 0 0 Q (F0 m 0 ls [])) : Met l y ws rm (PcR G av w) (QiR r) 0 0 noA := by
  refine Met.ofW (cc := cc) (maxL := maxL) (ret := (some .boolean)) hy hw ?_
  intro p e s m args below meth c s₁ B hml hv
  obtain ⟨rfl, hP, hK⟩ := hv
  have hx := B.exec
  have hb := B.bytes
  have hr := B.returns
  have hlocks := B.notSynchronized
  have hl := lv_entry av (n := maxL) hlen
  rw [lg_entry_eq]
  refine body p e s m _ below meth c _ _ ⟨hx, hb, hml, findClass_of_methodNamed B.named, atoms_spec (ws := ws) B.pre⟩ hP hK hl ?_
  intro H locs pc ls v hS hz hv hd
  exact W.zret hx hb hr hz (fun t ht hW => ⟨⟨v, (), rfl, hv, trivial⟩, hS.F ht⟩) hS.2.2 hd
theorem mk_Rl {l : Launch} {G : GG} {y : MethodName} {ws ws' : List Cond} {rm : Room} {av : List Value} {w : va_W} {r : Int64} {cc : ByteArray} {maxL : Nat} (hy : plainName y.cls = true) (hw : ws = Cond.code y cc maxL (some .long) :: ws') (hlen : (lg_sl av).length ≤ maxL)
    (body : ∀ (p : Program) (e : Env) (s : State) (m : MethodId) (args : Array Value) (below : List Frame) (meth : Method) (c : Code) (Q : State → Prop) (ls : Array Slot), CallFix p m c cc maxL s args ws y.cls → va_P (gD G) vwCl w s.heap → KK G s → lv_has ls maxL (lv_args 0 av) → (∀ (H : Heap) (locs : List Loc) (pc : Nat) (ls : Array Slot) (v : Int64), va_S noA s.heap H locs → v = r → decode cc pc = .ok (.lreturn, 1) → W p l e rm s m args below meth c H locs 0 0 Q (F0 m pc ls [.long v])) → W p l e rm s m args below meth c s.heap [] 0 0 Q (F0 m 0 ls [])) : Met l y ws rm (PcR G av w) (QlR r) 0 0 noA := by
  refine Met.ofW (cc := cc) (maxL := maxL) (ret := (some .long)) hy hw ?_
  intro p e s m args below meth c s₁ B hml hv
  obtain ⟨rfl, hP, hK⟩ := hv
  have hx := B.exec
  have hb := B.bytes
  have hr := B.returns
  have hlocks := B.notSynchronized
  have hl := lv_entry av (n := maxL) hlen
  rw [lg_entry_eq]
  refine body p e s m _ below meth c _ _ ⟨hx, hb, hml, findClass_of_methodNamed B.named, atoms_spec (ws := ws) B.pre⟩ hP hK hl ?_
  intro H locs pc ls v hS hv hd
  exact W.lret hx hb hr (fun t ht hW => ⟨⟨v, (), rfl, hv, trivial⟩, hS.F ht⟩) hS.2.2 hd
theorem mk_Wi {l : Launch} {G : GG} {y : MethodName} {ws ws' : List Cond} {rm : Room} {av : List Value} {w w1 : va_W} {r : Int32} {cc : ByteArray} {maxL : Nat} (hy : plainName y.cls = true) (hw : ws = Cond.code y cc maxL (some .int) :: ws') (hlen : (lg_sl av).length ≤ maxL)
    (body : ∀ (p : Program) (e : Env) (s : State) (m : MethodId) (args : Array Value) (below : List Frame) (meth : Method) (c : Code) (Q : State → Prop) (ls : Array Slot) (A : Nat → Prop), CallFix p m c cc maxL s args ws y.cls → va_P (gD G) vwCl w s.heap → KK G s → va_D A w → lv_has ls maxL (lv_args 0 av) → (∀ (H : Heap) (locs : List Loc) (pc : Nat) (ls : Array Slot) (v : Int32), va_P (gD G) vwCl w1 H → va_S A s.heap H locs → v = r → decode cc pc = .ok (.ireturn, 1) → W p l e rm s m args below meth c H locs 0 0 Q (F0 m pc ls [.int v])) → W p l e rm s m args below meth c s.heap [] 0 0 Q (F0 m 0 ls [])) : Met l y ws rm (PcW G av w) (QiW G w w1 r) 0 0 (inA w) := by
  refine Met.ofW (cc := cc) (maxL := maxL) (ret := (some .int)) hy hw ?_
  intro p e s m args below meth c s₁ B hml hv
  obtain ⟨rfl, hP, hK, hD0⟩ := hv
  have hx := B.exec
  have hb := B.bytes
  have hr := B.returns
  have hlocks := B.notSynchronized
  have hl := lv_entry av (n := maxL) hlen
  rw [lg_entry_eq]
  refine body p e s m _ below meth c _ _ (inA w) ⟨hx, hb, hml, findClass_of_methodNamed B.named, atoms_spec (ws := ws) B.pre⟩ hP hK (inA.D hD0) hl ?_
  intro H locs pc ls v hP1 hS hv hd
  exact W.iret hx hb hr (fun t ht hW => ⟨⟨v, (), rfl, hv, by show va_P (gD G) vwCl w1 t.heap; rw [ht]; exact hP1⟩, hS.F ht⟩) hS.2.2 hd
theorem mk_Wz {l : Launch} {G : GG} {y : MethodName} {ws ws' : List Cond} {rm : Room} {av : List Value} {w w1 : va_W} {r : Int32} {cc : ByteArray} {maxL : Nat} (hy : plainName y.cls = true) (hw : ws = Cond.code y cc maxL (some .boolean) :: ws') (hlen : (lg_sl av).length ≤ maxL)
    (body : ∀ (p : Program) (e : Env) (s : State) (m : MethodId) (args : Array Value) (below : List Frame) (meth : Method) (c : Code) (Q : State → Prop) (ls : Array Slot) (A : Nat → Prop), CallFix p m c cc maxL s args ws y.cls → va_P (gD G) vwCl w s.heap → KK G s → va_D A w → lv_has ls maxL (lv_args 0 av) → (∀ (H : Heap) (locs : List Loc) (pc : Nat) (ls : Array Slot) (v : Int32), va_P (gD G) vwCl w1 H → va_S A s.heap H locs → narrow .boolean (.int v) = .int v → v = r → decode cc pc = .ok (.ireturn, 1) → W p l e rm s m args below meth c H locs 0 0 Q (F0 m pc ls [.int v])) → W p l e rm s m args below meth c s.heap [] 0 0 Q (F0 m 0 ls [])) : Met l y ws rm (PcW G av w) (QiW G w w1 r) 0 0 (inA w) := by
  refine Met.ofW (cc := cc) (maxL := maxL) (ret := (some .boolean)) hy hw ?_
  intro p e s m args below meth c s₁ B hml hv
  obtain ⟨rfl, hP, hK, hD0⟩ := hv
  have hx := B.exec
  have hb := B.bytes
  have hr := B.returns
  have hlocks := B.notSynchronized
  have hl := lv_entry av (n := maxL) hlen
  rw [lg_entry_eq]
  refine body p e s m _ below meth c _ _ (inA w) ⟨hx, hb, hml, findClass_of_methodNamed B.named, atoms_spec (ws := ws) B.pre⟩ hP hK (inA.D hD0) hl ?_
  intro H locs pc ls v hP1 hS hz hv hd
  exact W.zret hx hb hr hz (fun t ht hW => ⟨⟨v, (), rfl, hv, by show va_P (gD G) vwCl w1 t.heap; rw [ht]; exact hP1⟩, hS.F ht⟩) hS.2.2 hd
theorem mk_Wl {l : Launch} {G : GG} {y : MethodName} {ws ws' : List Cond} {rm : Room} {av : List Value} {w w1 : va_W} {r : Int64} {cc : ByteArray} {maxL : Nat} (hy : plainName y.cls = true) (hw : ws = Cond.code y cc maxL (some .long) :: ws') (hlen : (lg_sl av).length ≤ maxL)
    (body : ∀ (p : Program) (e : Env) (s : State) (m : MethodId) (args : Array Value) (below : List Frame) (meth : Method) (c : Code) (Q : State → Prop) (ls : Array Slot) (A : Nat → Prop), CallFix p m c cc maxL s args ws y.cls → va_P (gD G) vwCl w s.heap → KK G s → va_D A w → lv_has ls maxL (lv_args 0 av) → (∀ (H : Heap) (locs : List Loc) (pc : Nat) (ls : Array Slot) (v : Int64), va_P (gD G) vwCl w1 H → va_S A s.heap H locs → v = r → decode cc pc = .ok (.lreturn, 1) → W p l e rm s m args below meth c H locs 0 0 Q (F0 m pc ls [.long v])) → W p l e rm s m args below meth c s.heap [] 0 0 Q (F0 m 0 ls [])) : Met l y ws rm (PcW G av w) (QlW G w w1 r) 0 0 (inA w) := by
  refine Met.ofW (cc := cc) (maxL := maxL) (ret := (some .long)) hy hw ?_
  intro p e s m args below meth c s₁ B hml hv
  obtain ⟨rfl, hP, hK, hD0⟩ := hv
  have hx := B.exec
  have hb := B.bytes
  have hr := B.returns
  have hlocks := B.notSynchronized
  have hl := lv_entry av (n := maxL) hlen
  rw [lg_entry_eq]
  refine body p e s m _ below meth c _ _ (inA w) ⟨hx, hb, hml, findClass_of_methodNamed B.named, atoms_spec (ws := ws) B.pre⟩ hP hK (inA.D hD0) hl ?_
  intro H locs pc ls v hP1 hS hv hd
  exact W.lret hx hb hr (fun t ht hW => ⟨⟨v, (), rfl, hv, by show va_P (gD G) vwCl w1 t.heap; rw [ht]; exact hP1⟩, hS.F ht⟩) hS.2.2 hd
theorem mk_Wv {l : Launch} {G : GG} {y : MethodName} {ws ws' : List Cond} {rm : Room} {av : List Value} {w w1 : va_W} {cc : ByteArray} {maxL : Nat} (hy : plainName y.cls = true) (hw : ws = Cond.code y cc maxL none :: ws') (hlen : (lg_sl av).length ≤ maxL)
    (body : ∀ (p : Program) (e : Env) (s : State) (m : MethodId) (args : Array Value) (below : List Frame) (meth : Method) (c : Code) (Q : State → Prop) (ls : Array Slot) (A : Nat → Prop), CallFix p m c cc maxL s args ws y.cls → va_P (gD G) vwCl w s.heap → KK G s → va_D A w → lv_has ls maxL (lv_args 0 av) → (∀ (H : Heap) (locs : List Loc) (pc : Nat) (ls : Array Slot), va_P (gD G) vwCl w1 H → va_S A s.heap H locs → decode cc pc = .ok (.return_, 1) → W p l e rm s m args below meth c H locs 0 0 Q (F0 m pc ls [])) → W p l e rm s m args below meth c s.heap [] 0 0 Q (F0 m 0 ls [])) : Met l y ws rm (PcW G av w) (QvW G w w1 ) 0 0 (inA w) := by
  refine Met.ofW (cc := cc) (maxL := maxL) (ret := none) hy hw ?_
  intro p e s m args below meth c s₁ B hml hv
  obtain ⟨rfl, hP, hK, hD0⟩ := hv
  have hx := B.exec
  have hb := B.bytes
  have hr := B.returns
  have hlocks := B.notSynchronized
  have hl := lv_entry av (n := maxL) hlen
  rw [lg_entry_eq]
  refine body p e s m _ below meth c _ _ (inA w) ⟨hx, hb, hml, findClass_of_methodNamed B.named, atoms_spec (ws := ws) B.pre⟩ hP hK (inA.D hD0) hl ?_
  intro H locs pc ls hP1 hS hd
  exact W.vret hx hb hr (fun t ht hW => ⟨⟨(), rfl, trivial, by show va_P (gD G) vwCl w1 t.heap; rw [ht]; exact hP1⟩, hS.F ht⟩) hS.2.2 hd

