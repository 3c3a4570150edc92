def fX4_ways_4 (a0 : Int32) : Nat → Int32 → Int32 → Option (Int32)
  | 0, _, _ => none
  | n + 1, x1, x2 => (if a0 < x2 then some x1 else (fX4_ways_4 a0 n (x1 * x2) (x2 + 1)))
def fX4_ways (a0 : Int32) : Option (Int32) :=
  (fX4_ways_4 a0 9 1 2)
set_option maxHeartbeats 4000000 in
set_option maxRecDepth 100000 in
theorem ctX4_ways (l : Launch) (G : GG) (a0 : Int32) (out : Int32) (hf : fX4_ways a0 = some out) : Met l yX4_ways wsX4_ways ({ frames := 0, cells := 0, slots := 0, locals := 0 }) (PcR G [.int a0] []) (QiR out) 0 0 noA := by
  refine mk_Ri (cc := cX4_ways) (maxL := 3) (by decide) rfl (Nat.le_of_ble_eq_true rfl) ?_
  intro p e s m args below meth c Q ls S hP hK hl hret
  obtain ⟨hx, hb, hml, hown, hts⟩ := S
  have hown : s.vm.findClass RX4 = some m.cls := hown
  have hS : va_S noA s.heap s.heap [] := va_S.rf
  have hl : lv_has ls 3 [(0, .int a0)] := hl
  have hC4 : ∀ (n : Nat) (x1 : Int32) (x2 : Int32) (H : Heap) (locs : List Loc) (ls : Array Slot), va_P (gD G) vwCl [] H → va_S noA s.heap H locs → lv_has ls 3 [(0, .int a0), (1, .int x1), (2, .int x2)] → fX4_ways_4 a0 n x1 x2 = some out → W p l e ({ frames := 0, cells := 0, slots := 0, locals := 0 }) s m args below meth c H locs 0 0 Q (F0 m 4 ls []) := by
    intro n4
    induction n4 with
    | zero => intro x1 x2 H locs ls hP hS hl hf; exact absurd (show none = some out from hf) (fun z => by cases z)
    | succ n4 ih4 =>
      intro x1 x2 H locs ls hP hS hl hf
      refine lv_iload_n hx hb dX4_ways_4 rfl (lv_at hl 2 rfl) ?_
      refine lv_iload_n hx hb dX4_ways_5 rfl (lv_at hl 0 rfl) ?_
      refine lv_icmp_gt (tgt := 19) hx hb dX4_ways_6 (by decide) (fun c1 => ?_) (fun c1 => ?_)
      · have hf := iteT hf c1
        refine lv_iload_n hx hb dX4_ways_19 rfl (lv_at hl 1 rfl) ?_
        have hv := Option.some.inj hf
        exact hret _ _ _ _ _ hS hv dX4_ways_20
      · have hf := iteF hf c1
        refine lv_iload_n hx hb dX4_ways_9 rfl (lv_at hl 1 rfl) ?_
        refine lv_iload_n hx hb dX4_ways_10 rfl (lv_at hl 2 rfl) ?_
        refine lv_imul hx hb dX4_ways_11 ?_
        refine lv_istore_n (lv' := [(1, .int (x1 * x2)), (0, .int a0), (2, .int x2)]) hx hb dX4_ways_12 rfl hl (by decide) rfl (fun ls hl => ?_)
        refine lv_iinc (v := (x2 + 1)) (lv' := [(2, .int (x2 + 1)), (1, .int (x1 * x2)), (0, .int a0)]) hx hb dX4_ways_13 hl (k := 2) rfl rfl (by decide) rfl (fun ls hl => ?_)
        refine lv_goto (tgt := 4) hx hb dX4_ways_16 (by decide) ?_
        exact ih4 (x1 * x2) (x2 + 1) _ _ _ hP hS (lv_sub hl [2, 1, 0] rfl) hf
  refine lv_iconst (v := 1) hx hb dX4_ways_0 (by decide) ?_
  refine lv_istore_n (lv' := [(1, .int 1), (0, .int a0)]) hx hb dX4_ways_1 rfl hl (by decide) rfl (fun ls hl => ?_)
  refine lv_iconst (v := 2) hx hb dX4_ways_2 (by decide) ?_
  refine lv_istore_n (lv' := [(2, .int 2), (1, .int 1), (0, .int a0)]) hx hb dX4_ways_3 rfl hl (by decide) rfl (fun ls hl => ?_)
  exact hC4 9 1 2 _ _ _ hP hS (lv_sub hl [2, 1, 0] rfl) hf
def fX4_divisor_17 : Nat → Int64 → Int64 → Option (Int64)
  | 0, _, _ => none
  | n + 1, x4, x6 => (if (lg_cmp x6 0) = 0 then some x4 else dvL x6 ((fX4_divisor_17 n x6 (x4 - x4 / x6 * x6))))
def fX4_divisor (a0 : Int64) (a2 : Int64) : Option (Int64) :=
  (if 0 ≤ (lg_cmp a0 0) then (fX4_divisor_17 100 a0 a2) else (fX4_divisor_17 100 (-a0) a2))
set_option maxHeartbeats 4000000 in
set_option maxRecDepth 100000 in
theorem ctX4_divisor (l : Launch) (G : GG) (a0 : Int64) (a2 : Int64) (out : Int64) (hf : fX4_divisor a0 a2 = some out) : Met l yX4_divisor wsX4_divisor ({ frames := 0, cells := 0, slots := 0, locals := 0 }) (PcR G [.long a0, .long a2] []) (QlR out) 0 0 noA := by
  refine mk_Rl (cc := cX4_divisor) (maxL := 10) (by decide) rfl (Nat.le_of_ble_eq_true rfl) ?_
  intro p e s m args below meth c Q ls S hP hK hl hret
  obtain ⟨hx, hb, hml, hown, hts⟩ := S
  have hown : s.vm.findClass RX4 = some m.cls := hown
  have hS : va_S noA s.heap s.heap [] := va_S.rf
  have hl : lv_has ls 10 [(0, .long a0), (2, .long a2)] := hl
  have hC17 : ∀ (n : Nat) (x4 : Int64) (x6 : Int64) (H : Heap) (locs : List Loc) (ls : Array Slot), va_P (gD G) vwCl [] H → va_S noA s.heap H locs → lv_has ls 10 [(4, .long x4), (6, .long x6)] → fX4_divisor_17 n x4 x6 = some out → W p l e ({ frames := 0, cells := 0, slots := 0, locals := 0 }) s m args below meth c H locs 0 0 Q (F0 m 17 ls []) := by
    intro n17
    induction n17 with
    | zero => intro x4 x6 H locs ls hP hS hl hf; exact absurd (show none = some out from hf) (fun z => by cases z)
    | succ n17 ih17 =>
      intro x4 x6 H locs ls hP hS hl hf
      refine lv_lload hx hb dX4_divisor_17 (lv_at hl 1 rfl) ?_
      refine lv_lconst (v := 0) hx hb dX4_divisor_19 (by decide) ?_
      refine W.lcmp hx hb dX4_divisor_20 ?_
      refine lv_if_eq (tgt := 42) hx hb dX4_divisor_21 (by decide) (fun c2 => ?_) (fun c2 => ?_)
      · have hf := iteT hf c2
        refine lv_lload hx hb dX4_divisor_42 (lv_at hl 0 rfl) ?_
        have hv := Option.some.inj hf
        exact hret _ _ _ _ _ hS hv dX4_divisor_44
      · have hf := iteF hf c2
        refine lv_lload hx hb dX4_divisor_24 (lv_at hl 0 rfl) ?_
        refine lv_lload hx hb dX4_divisor_26 (lv_at hl 1 rfl) ?_
        obtain ⟨hz3, hf⟩ := dvLS hf
        refine lv_lrem hx hb dX4_divisor_28 hz3 ?_
        refine lv_lstore (lv' := [(8, .long (x4 - x4 / x6 * x6)), (4, .long x4), (6, .long x6)]) hx hb dX4_divisor_29 hl (by decide) rfl (fun ls hl => ?_)
        refine lv_lload hx hb dX4_divisor_31 (lv_at hl 2 rfl) ?_
        refine lv_lstore (lv' := [(4, .long x6), (8, .long (x4 - x4 / x6 * x6)), (6, .long x6)]) hx hb dX4_divisor_33 hl (by decide) rfl (fun ls hl => ?_)
        refine lv_lload hx hb dX4_divisor_35 (lv_at hl 1 rfl) ?_
        refine lv_lstore (lv' := [(6, .long (x4 - x4 / x6 * x6)), (4, .long x6), (8, .long (x4 - x4 / x6 * x6))]) hx hb dX4_divisor_37 hl (by decide) rfl (fun ls hl => ?_)
        refine lv_goto (tgt := 17) hx hb dX4_divisor_39 (by decide) ?_
        exact ih17 x6 (x4 - x4 / x6 * x6) _ _ _ hP hS (lv_sub hl [1, 0] rfl) hf
  refine lv_lload_n hx hb dX4_divisor_0 rfl (lv_at hl 0 rfl) ?_
  refine lv_lconst (v := 0) hx hb dX4_divisor_1 (by decide) ?_
  refine W.lcmp hx hb dX4_divisor_2 ?_
  refine lv_if_ge (tgt := 11) hx hb dX4_divisor_3 (by decide) (fun c1 => ?_) (fun c1 => ?_)
  · have hf := iteT hf c1
    refine lv_lload_n hx hb dX4_divisor_11 rfl (lv_at hl 0 rfl) ?_
    refine lv_lstore (lv' := [(4, .long a0), (0, .long a0), (2, .long a2)]) hx hb dX4_divisor_12 hl (by decide) rfl (fun ls hl => ?_)
    refine lv_lload_n hx hb dX4_divisor_14 rfl (lv_at hl 2 rfl) ?_
    refine lv_lstore (lv' := [(6, .long a2), (4, .long a0), (0, .long a0), (2, .long a2)]) hx hb dX4_divisor_15 hl (by decide) rfl (fun ls hl => ?_)
    exact hC17 100 a0 a2 _ _ _ hP hS (lv_sub hl [1, 0] rfl) hf
  · have hf := iteF hf c1
    refine lv_lload_n hx hb dX4_divisor_6 rfl (lv_at hl 0 rfl) ?_
    refine lv_lneg hx hb dX4_divisor_7 ?_
    refine lv_goto (tgt := 12) hx hb dX4_divisor_8 (by decide) ?_
    refine lv_lstore (lv' := [(4, .long (-a0)), (0, .long a0), (2, .long a2)]) hx hb dX4_divisor_12 hl (by decide) rfl (fun ls hl => ?_)
    refine lv_lload_n hx hb dX4_divisor_14 rfl (lv_at hl 2 rfl) ?_
    refine lv_lstore (lv' := [(6, .long a2), (4, .long (-a0)), (0, .long a0), (2, .long a2)]) hx hb dX4_divisor_15 hl (by decide) rfl (fun ls hl => ?_)
    exact hC17 100 (-a0) a2 _ _ _ hP hS (lv_sub hl [1, 0] rfl) hf
def fX4_fraction (a0 : Int64) (a2 : Int64) (a4 : Int32) : Option (Int32) :=
  (fX4_divisor a0 a2).bind fun o1 => ((if a4 = 0 then dvL o1 (some (Int64.toInt32 (a2 / o1))) else dvL o1 (some (Int64.toInt32 (a0 / o1)))))
set_option maxHeartbeats 4000000 in
set_option maxRecDepth 100000 in
theorem ctX4_fraction (l : Launch) (G : GG) (a0 : Int64) (a2 : Int64) (a4 : Int32) (out : Int32) (hf : fX4_fraction a0 a2 a4 = some out) : Met l yX4_fraction wsX4_fraction ({ frames := 1, cells := 0, slots := 0, locals := 29 }) (PcR G [.long a0, .long a2, .int a4] []) (QiR out) 0 0 noA := by
  refine mk_Ri (cc := cX4_fraction) (maxL := 7) (by decide) rfl (Nat.le_of_ble_eq_true rfl) ?_
  intro p e s m args below meth c Q ls S hP hK hl hret
  obtain ⟨hx, hb, hml, hown, hts⟩ := S
  have hown : s.vm.findClass RX4 = some m.cls := hown
  have hS : va_S noA s.heap s.heap [] := va_S.rf
  have hl : lv_has ls 7 [(0, .long a0), (2, .long a2), (4, .int a4)] := hl
  refine lv_lload_n hx hb dX4_fraction_0 rfl (lv_at hl 0 rfl) ?_
  refine lv_lload_n hx hb dX4_fraction_1 rfl (lv_at hl 1 rfl) ?_
  obtain ⟨o1, hc2, hf⟩ := bindS hf
  refine ro_l (va_runS (As := [.long a0, .long a2]) (rest := []) ⟨hx, hb, hml, hown, hts⟩ (ctX4_divisor l G a0 a2 o1 hc2) (va_cwS 2 hts gX4_fraction_X4_divisor rfl rfl rfl (by decide +kernel) ⟨Nat.le_of_ble_eq_true rfl, Nat.le_of_ble_eq_true rfl⟩) (preR_S (hP.sub (ws' := []) [] rfl) hK) rfl rfl hl.1 rfl (lv_room (Nat.le_of_ble_eq_true rfl)) dX4_fraction_2 ⟨Nat.zero_le _, Nat.zero_le _⟩) hS hP (fun H locs hP hS => ?_)
  refine lv_lstore (lv' := [(5, .long o1), (0, .long a0), (2, .long a2), (4, .int a4)]) hx hb dX4_fraction_5 hl (by decide) rfl (fun ls hl => ?_)
  refine lv_iload hx hb dX4_fraction_7 (lv_at hl 3 rfl) ?_
  refine lv_if_eq (tgt := 19) hx hb dX4_fraction_9 (by decide) (fun c3 => ?_) (fun c3 => ?_)
  · have hf := iteT hf c3
    refine lv_lload_n hx hb dX4_fraction_19 rfl (lv_at hl 2 rfl) ?_
    refine lv_lload hx hb dX4_fraction_20 (lv_at hl 0 rfl) ?_
    obtain ⟨hz4, hf⟩ := dvLS hf
    refine lv_ldiv hx hb dX4_fraction_22 hz4 ?_
    refine lv_l2i (v := (Int64.toInt32 (a2 / o1))) hx hb dX4_fraction_23 rfl ?_
    have hv := Option.some.inj hf
    exact hret _ _ _ _ _ hS hv dX4_fraction_24
  · have hf := iteF hf c3
    refine lv_lload_n hx hb dX4_fraction_12 rfl (lv_at hl 1 rfl) ?_
    refine lv_lload hx hb dX4_fraction_13 (lv_at hl 0 rfl) ?_
    obtain ⟨hz5, hf⟩ := dvLS hf
    refine lv_ldiv hx hb dX4_fraction_15 hz5 ?_
    refine lv_goto (tgt := 23) hx hb dX4_fraction_16 (by decide) ?_
    refine lv_l2i (v := (Int64.toInt32 (a0 / o1))) hx hb dX4_fraction_23 rfl ?_
    have hv := Option.some.inj hf
    exact hret _ _ _ _ _ hS hv dX4_fraction_24
def fX4_share_173 (a2 : Int32) (x4 : Int32) (x5 : Int32) (s_thrown : Int32) (s_rowSize : Int32) (q_trial : Nat → Int32) (q_row : Nat → Int32) (q_value : Nat → Int32) : Option (Int32 × Int32 × Int32 × (Nat → Int32) × (Nat → Int32) × (Nat → Int32)) :=
  (fX4_ways x4).bind fun o9 => ((fX4_fraction (Int32.toInt64 x5) (Int32.toInt64 o9) a2).bind fun o11 => (some (o11, s_thrown, s_rowSize, q_trial, q_row, q_value)))
def fX4_share_87 (a1 : Int32) (a2 : Int32) : Nat → Int32 → Int32 → Int32 → Int32 → Int32 → Int32 → (Nat → Int32) → (Nat → Int32) → (Nat → Int32) → Option (Int32 × Int32 × Int32 × (Nat → Int32) × (Nat → Int32) × (Nat → Int32))
  | 0, _, _, _, _, _, _, _, _, _ => none
  | n + 1, x3, x4, x5, x6, s_thrown, s_rowSize, q_trial, q_row, q_value => (if x3 < x6 then (fX4_share_173 a2 x4 x5 s_thrown s_rowSize q_trial q_row q_value) else (fX4_has x3 a1).bind fun o13 => ((if o13 = 0 then (fX4_share_173 a2 x4 x5 s_thrown s_rowSize q_trial q_row q_value) else (if (x6 &&& (x3 ^^^ (-1))) = 0 then (fX4_has x6 a1).bind fun o17 => ((if o17 = 0 then (fX4_many x6).bind fun o20 => ((fX4_ways o20).bind fun o22 => ((fX4_ways ((x4 - 1) - o20)).bind fun o24 => (ck (x6 ||| ((1 : Int32) <<< (a1 &&& 31))) 128 (ck x6 128 ((fX4_share_87 a1 a2 n x3 x4 (x5 + ((o22 * o24) * ((q_value (Int32.toNatClampNeg (x6 ||| ((1 : Int32) <<< (a1 &&& 31))))) - (q_value (Int32.toNatClampNeg x6))))) (x6 + 1) s_thrown s_rowSize q_trial q_row q_value)))))) else (fX4_share_87 a1 a2 n x3 x4 x5 (x6 + 1) s_thrown s_rowSize q_trial q_row q_value))) else (fX4_share_87 a1 a2 n x3 x4 x5 (x6 + 1) s_thrown s_rowSize q_trial q_row q_value)))))
def fX4_share_32 (s_people : Int32) (q_kind : Nat → Int32) (q_page : Nat → Int32) (a1 : Int32) (a2 : Int32) : Nat → Int32 → Int32 → Int32 → Int32 → Int32 → (Nat → Int32) → (Nat → Int32) → (Nat → Int32) → Option (Int32 × Int32 × Int32 × (Nat → Int32) × (Nat → Int32) × (Nat → Int32))
  | 0, _, _, _, _, _, _, _, _ => none
  | n + 1, x3, x4, x5, s_thrown, s_rowSize, q_trial, q_row, q_value => (if x3 < x5 then (fX4_share_87 a1 a2 130 x3 x4 0 0 s_thrown s_rowSize q_trial q_row q_value) else (if (x5 &&& (x3 ^^^ (-1))) = 0 then (fX4_begin q_page q_trial).bind fun o29 => (ck 14 17 ((fX4_layFall s_people s_rowSize q_kind (upd o29 (Int32.toNatClampNeg 14) x5) q_row).bind fun o32 => (ck x5 128 ((fX4_share_32 s_people q_kind q_page a1 a2 n x3 x4 (x5 + 1) s_thrown o32.1 o32.2.1 o32.2.2 (upd q_value (Int32.toNatClampNeg x5) o32.1)))))) else (fX4_share_32 s_people q_kind q_page a1 a2 n x3 x4 (x5 + 1) s_thrown s_rowSize q_trial q_row q_value)))
def fX4_share (s_thrown : Int32) (s_people : Int32) (s_rowSize : Int32) (q_kind : Nat → Int32) (q_page : Nat → Int32) (q_trial : Nat → Int32) (q_row : Nat → Int32) (q_value : Nat → Int32) (a1 : Int32) (a2 : Int32) : Option (Int32 × Int32 × Int32 × (Nat → Int32) × (Nat → Int32) × (Nat → Int32)) :=
  (fX4_noPerson s_people a1).bind fun o1 => ((if o1 = 0 then ck 14 17 ((fX4_many (q_page (Int32.toNatClampNeg 14))).bind fun o5 => ((fX4_share_32 s_people q_kind q_page a1 a2 130 (q_page (Int32.toNatClampNeg 14)) o5 0 0 s_rowSize q_trial q_row q_value))) else some ((-1), 0, s_rowSize, q_trial, q_row, q_value)))
set_option maxHeartbeats 4000000 in
set_option maxRecDepth 100000 in
theorem ctX4_share (l : Launch) (G : GG) (h0 : Nat) (ad : Nat → Nat) (s_thrown : Int32) (s_textSize : Int32) (s_place : Int32) (s_people : Int32) (s_readPeople : Int32) (s_acts : Int32) (s_seen : Int32) (s_seed : Int64) (s_rowSize : Int32) (s_feedMany : Int32) (s_feedRow : Int32) (s_restMany : Int32) (s_restFirst : Int32) (q_kind : Nat → Int32) (q_page : Nat → Int32) (q_trial : Nat → Int32) (q_row : Nat → Int32) (q_value : Nat → Int32) (a1 : Int32) (a2 : Int32) (out : Int32 × Int32 × Int32 × (Nat → Int32) × (Nat → Int32) × (Nat → Int32)) (hf : fX4_share s_thrown s_people s_rowSize q_kind q_page q_trial q_row q_value a1 a2 = some out) : Met l yX4_share wsX4_share ({ frames := 4, cells := 0, slots := 0, locals := 90 }) (PcW G [.ref h0, .int a1, .int a2] [(h0, moE ad s_thrown s_textSize s_place s_people s_readPeople s_acts s_seen s_seed s_rowSize s_feedMany s_feedRow s_restMany s_restFirst), (ad 5, aI G 7 q_kind), (ad 10, aI G 17 q_page), (ad 11, aI G 17 q_trial), (ad 20, aI G 7 q_row), (ad 26, aI G 128 q_value)]) (QiW G [(h0, moE ad s_thrown s_textSize s_place s_people s_readPeople s_acts s_seen s_seed s_rowSize s_feedMany s_feedRow s_restMany s_restFirst), (ad 5, aI G 7 q_kind), (ad 10, aI G 17 q_page), (ad 11, aI G 17 q_trial), (ad 20, aI G 7 q_row), (ad 26, aI G 128 q_value)] [(h0, moE ad out.2.1 s_textSize s_place s_people s_readPeople s_acts s_seen s_seed out.2.2.1 s_feedMany s_feedRow s_restMany s_restFirst), (ad 5, aI G 7 q_kind), (ad 10, aI G 17 q_page), (ad 11, aI G 17 out.2.2.2.1), (ad 20, aI G 7 out.2.2.2.2.1), (ad 26, aI G 128 out.2.2.2.2.2)] out.1) 0 0 (inA [(h0, moE ad s_thrown s_textSize s_place s_people s_readPeople s_acts s_seen s_seed s_rowSize s_feedMany s_feedRow s_restMany s_restFirst), (ad 5, aI G 7 q_kind), (ad 10, aI G 17 q_page), (ad 11, aI G 17 q_trial), (ad 20, aI G 7 q_row), (ad 26, aI G 128 q_value)]) := by
  refine mk_Wi (cc := cX4_share) (maxL := 8) (by decide) rfl (Nat.le_of_ble_eq_true rfl) ?_
  intro p e s m args below meth c Q ls A S hP hK hD hl hret
  obtain ⟨hx, hb, hml, hown, hts⟩ := S
  have hown : s.vm.findClass RX4 = some m.cls := hown
  have kl_60 := hts (.fieldLink RX4 60 "ArrestOrderModel" "thrown" "I") (by decide +kernel)
  have hi_X4 : ∀ w ∈ wsX40, w ∈ wsX4_share := fun _ h => List.mem_cons_of_mem _ (List.mem_append_right _ h)
  have kl_25 := hts (.fieldLink RX4 25 "ArrestOrderModel" "page" "[I") (by decide +kernel)
  have kl_50 := hts (.fieldLink RX4 50 "ArrestOrderModel" "value" "[I") (by decide +kernel)
  have kl_28 := hts (.fieldLink RX4 28 "ArrestOrderModel" "trial" "[I") (by decide +kernel)
  have kl_121 := hts (.fieldLink RX4 121 "ArrestOrderModel" "rowSize" "I") (by decide +kernel)
  have hS : va_S A s.heap s.heap [] := va_S.rf
  have hl : lv_has ls 8 [(0, .ref h0), (1, .int a1), (2, .int a2)] := hl
  have hC173 : ∀ (x4 : Int32) (x5 : Int32) (s_thrown : Int32) (s_rowSize : Int32) (q_trial : Nat → Int32) (q_row : Nat → Int32) (q_value : Nat → Int32) (H : Heap) (locs : List Loc) (ls : Array Slot), va_P (gD G) vwCl [(h0, moE ad s_thrown s_textSize s_place s_people s_readPeople s_acts s_seen s_seed s_rowSize s_feedMany s_feedRow s_restMany s_restFirst), (ad 5, aI G 7 q_kind), (ad 10, aI G 17 q_page), (ad 11, aI G 17 q_trial), (ad 20, aI G 7 q_row), (ad 26, aI G 128 q_value)] H → va_D A [(h0, moE ad s_thrown s_textSize s_place s_people s_readPeople s_acts s_seen s_seed s_rowSize s_feedMany s_feedRow s_restMany s_restFirst), (ad 5, aI G 7 q_kind), (ad 10, aI G 17 q_page), (ad 11, aI G 17 q_trial), (ad 20, aI G 7 q_row), (ad 26, aI G 128 q_value)] → va_S A s.heap H locs → lv_has ls 8 [(2, .int a2), (4, .int x4), (5, .int x5)] → fX4_share_173 a2 x4 x5 s_thrown s_rowSize q_trial q_row q_value = some out → W p l e ({ frames := 4, cells := 0, slots := 0, locals := 90 }) s m args below meth c H locs 0 0 Q (F0 m 173 ls []) := by
    intro x4 x5 s_thrown s_rowSize q_trial q_row q_value H locs ls hP hD hS hl hf
    refine lv_iload hx hb dX4_share_173 (lv_at hl 2 rfl) ?_
    refine lv_i2l (v := (Int32.toInt64 x5)) hx hb dX4_share_175 rfl ?_
    refine lv_iload hx hb dX4_share_176 (lv_at hl 1 rfl) ?_
    obtain ⟨o9, hc10, hf⟩ := bindS hf
    refine ro_i (va_runS (As := [.int x4]) (rest := [.long (Int32.toInt64 x5)]) ⟨hx, hb, hml, hown, hts⟩ (ctX4_ways l G x4 o9 hc10) (va_cwS 1 hts gX4_share_X4_ways rfl rfl rfl (by decide +kernel) ⟨Nat.le_of_ble_eq_true rfl, Nat.le_of_ble_eq_true rfl⟩) (preR_S (hP.sub (ws' := []) [] rfl) hK) rfl rfl hl.1 rfl (lv_room (Nat.le_of_ble_eq_true rfl)) dX4_share_178 ⟨Nat.zero_le _, Nat.zero_le _⟩) hS hP (fun H locs hP hS => ?_)
    refine lv_i2l (v := (Int32.toInt64 o9)) hx hb dX4_share_181 rfl ?_
    refine lv_iload_n hx hb dX4_share_182 rfl (lv_at hl 0 rfl) ?_
    obtain ⟨o11, hc12, hf⟩ := bindS hf
    refine ro_i (va_runS (As := [.long (Int32.toInt64 x5), .long (Int32.toInt64 o9), .int a2]) (rest := []) ⟨hx, hb, hml, hown, hts⟩ (ctX4_fraction l G (Int32.toInt64 x5) (Int32.toInt64 o9) a2 o11 hc12) (va_cwS 3 hts gX4_share_X4_fraction rfl rfl rfl (by decide +kernel) ⟨Nat.le_of_ble_eq_true rfl, Nat.le_of_ble_eq_true rfl⟩) (preR_S (hP.sub (ws' := []) [] rfl) hK) rfl rfl hl.1 rfl (lv_room (Nat.le_of_ble_eq_true rfl)) dX4_share_183 ⟨Nat.zero_le _, Nat.zero_le _⟩) hS hP (fun H locs hP hS => ?_)
    have hv := Option.some.inj hf
    exact hret _ _ _ _ _ (by rw [← hv]; exact hP) hS (by rw [← hv]) dX4_share_186
  have hC87 : ∀ (n : Nat) (x3 : Int32) (x4 : Int32) (x5 : Int32) (x6 : Int32) (s_thrown : Int32) (s_rowSize : Int32) (q_trial : Nat → Int32) (q_row : Nat → Int32) (q_value : Nat → Int32) (H : Heap) (locs : List Loc) (ls : Array Slot), va_P (gD G) vwCl [(h0, moE ad s_thrown s_textSize s_place s_people s_readPeople s_acts s_seen s_seed s_rowSize s_feedMany s_feedRow s_restMany s_restFirst), (ad 5, aI G 7 q_kind), (ad 10, aI G 17 q_page), (ad 11, aI G 17 q_trial), (ad 20, aI G 7 q_row), (ad 26, aI G 128 q_value)] H → va_D A [(h0, moE ad s_thrown s_textSize s_place s_people s_readPeople s_acts s_seen s_seed s_rowSize s_feedMany s_feedRow s_restMany s_restFirst), (ad 5, aI G 7 q_kind), (ad 10, aI G 17 q_page), (ad 11, aI G 17 q_trial), (ad 20, aI G 7 q_row), (ad 26, aI G 128 q_value)] → va_S A s.heap H locs → lv_has ls 8 [(0, .ref h0), (1, .int a1), (2, .int a2), (3, .int x3), (4, .int x4), (5, .int x5), (6, .int x6)] → fX4_share_87 a1 a2 n x3 x4 x5 x6 s_thrown s_rowSize q_trial q_row q_value = some out → W p l e ({ frames := 4, cells := 0, slots := 0, locals := 90 }) s m args below meth c H locs 0 0 Q (F0 m 87 ls []) := by
    intro n87
    induction n87 with
    | zero => intro x3 x4 x5 x6 s_thrown s_rowSize q_trial q_row q_value H locs ls hP hD hS hl hf; exact absurd (show none = some out from hf) (fun z => by cases z)
    | succ n87 ih87 =>
      intro x3 x4 x5 x6 s_thrown s_rowSize q_trial q_row q_value H locs ls hP hD hS hl hf
      refine lv_iload hx hb dX4_share_87 (lv_at hl 6 rfl) ?_
      refine lv_iload_n hx hb dX4_share_89 rfl (lv_at hl 3 rfl) ?_
      refine lv_icmp_gt (tgt := 173) hx hb dX4_share_90 (by decide) (fun c8 => ?_) (fun c8 => ?_)
      · have hf := iteT hf c8
        exact hC173 x4 x5 s_thrown s_rowSize q_trial q_row q_value _ _ _ hP hD hS (lv_sub hl [2, 4, 5] rfl) hf
      · have hf := iteF hf c8
        refine lv_iload_n hx hb dX4_share_93 rfl (lv_at hl 3 rfl) ?_
        refine lv_iload_n hx hb dX4_share_94 rfl (lv_at hl 1 rfl) ?_
        obtain ⟨o13, hc14, hf⟩ := bindS hf
        refine ro_i (va_runS (As := [.int x3, .int a1]) (rest := []) ⟨hx, hb, hml, hown, hts⟩ (ctX4_has l G x3 a1 o13 hc14) (va_cwS 2 hts gX4_share_X4_has rfl rfl rfl (by decide +kernel) ⟨Nat.le_of_ble_eq_true rfl, Nat.le_of_ble_eq_true rfl⟩) (preR_S (hP.sub (ws' := []) [] rfl) hK) rfl rfl hl.1 rfl (lv_room (Nat.le_of_ble_eq_true rfl)) dX4_share_95 ⟨Nat.zero_le _, Nat.zero_le _⟩) hS hP (fun H locs hP hS => ?_)
        refine lv_if_eq (tgt := 173) hx hb dX4_share_98 (by decide) (fun c15 => ?_) (fun c15 => ?_)
        · have hf := iteT hf c15
          exact hC173 x4 x5 s_thrown s_rowSize q_trial q_row q_value _ _ _ hP hD hS (lv_sub hl [2, 4, 5] rfl) hf
        · have hf := iteF hf c15
          refine lv_iload hx hb dX4_share_101 (lv_at hl 6 rfl) ?_
          refine lv_iload_n hx hb dX4_share_103 rfl (lv_at hl 3 rfl) ?_
          refine lv_iconst (v := (-1)) hx hb dX4_share_104 (by decide) ?_
          refine lv_ixor hx hb dX4_share_105 ?_
          refine lv_iand hx hb dX4_share_106 ?_
          refine lv_if_ne (tgt := 167) hx hb dX4_share_107 (by decide) (fun c16 => ?_) (fun c16 => ?_)
          · have hf := iteF hf c16
            refine lv_iinc (v := (x6 + 1)) (lv' := [(6, .int (x6 + 1)), (0, .ref h0), (1, .int a1), (2, .int a2), (3, .int x3), (4, .int x4), (5, .int x5)]) hx hb dX4_share_167 hl (k := 6) rfl rfl (by decide) rfl (fun ls hl => ?_)
            refine lv_goto (tgt := 87) hx hb dX4_share_170 (by decide) ?_
            exact ih87 x3 x4 x5 (x6 + 1) s_thrown s_rowSize q_trial q_row q_value _ _ _ hP hD hS (lv_sub hl [1, 2, 3, 4, 5, 6, 0] rfl) hf
          · have hf := iteT hf c16
            refine lv_iload hx hb dX4_share_110 (lv_at hl 6 rfl) ?_
            refine lv_iload_n hx hb dX4_share_112 rfl (lv_at hl 1 rfl) ?_
            obtain ⟨o17, hc18, hf⟩ := bindS hf
            refine ro_i (va_runS (As := [.int x6, .int a1]) (rest := []) ⟨hx, hb, hml, hown, hts⟩ (ctX4_has l G x6 a1 o17 hc18) (va_cwS 2 hts gX4_share_X4_has rfl rfl rfl (by decide +kernel) ⟨Nat.le_of_ble_eq_true rfl, Nat.le_of_ble_eq_true rfl⟩) (preR_S (hP.sub (ws' := []) [] rfl) hK) rfl rfl hl.1 rfl (lv_room (Nat.le_of_ble_eq_true rfl)) dX4_share_113 ⟨Nat.zero_le _, Nat.zero_le _⟩) hS hP (fun H locs hP hS => ?_)
            refine lv_if_ne (tgt := 167) hx hb dX4_share_116 (by decide) (fun c19 => ?_) (fun c19 => ?_)
            · have hf := iteF hf c19
              refine lv_iinc (v := (x6 + 1)) (lv' := [(6, .int (x6 + 1)), (0, .ref h0), (1, .int a1), (2, .int a2), (3, .int x3), (4, .int x4), (5, .int x5)]) hx hb dX4_share_167 hl (k := 6) rfl rfl (by decide) rfl (fun ls hl => ?_)
              refine lv_goto (tgt := 87) hx hb dX4_share_170 (by decide) ?_
              exact ih87 x3 x4 x5 (x6 + 1) s_thrown s_rowSize q_trial q_row q_value _ _ _ hP hD hS (lv_sub hl [1, 2, 3, 4, 5, 6, 0] rfl) hf
            · have hf := iteT hf c19
              refine lv_iload hx hb dX4_share_119 (lv_at hl 6 rfl) ?_
              obtain ⟨o20, hc21, hf⟩ := bindS hf
              refine ro_i (va_runS (As := [.int x6]) (rest := []) ⟨hx, hb, hml, hown, hts⟩ (ctX4_many l G x6 o20 hc21) (va_cwS 1 hts gX4_share_X4_many rfl rfl rfl (by decide +kernel) ⟨Nat.le_of_ble_eq_true rfl, Nat.le_of_ble_eq_true rfl⟩) (preR_S (hP.sub (ws' := []) [] rfl) hK) rfl rfl hl.1 rfl (lv_room (Nat.le_of_ble_eq_true rfl)) dX4_share_121 ⟨Nat.zero_le _, Nat.zero_le _⟩) hS hP (fun H locs hP hS => ?_)
              refine lv_istore (lv' := [(7, .int o20), (0, .ref h0), (1, .int a1), (2, .int a2), (3, .int x3), (4, .int x4), (5, .int x5), (6, .int x6)]) hx hb dX4_share_124 hl (by decide) rfl (fun ls hl => ?_)
              refine lv_iload hx hb dX4_share_126 (lv_at hl 6 rfl) ?_
              refine lv_iload hx hb dX4_share_128 (lv_at hl 0 rfl) ?_
              obtain ⟨o22, hc23, hf⟩ := bindS hf
              refine ro_i (va_runS (As := [.int o20]) (rest := [.int x5]) ⟨hx, hb, hml, hown, hts⟩ (ctX4_ways l G o20 o22 hc23) (va_cwS 1 hts gX4_share_X4_ways rfl rfl rfl (by decide +kernel) ⟨Nat.le_of_ble_eq_true rfl, Nat.le_of_ble_eq_true rfl⟩) (preR_S (hP.sub (ws' := []) [] rfl) hK) rfl rfl hl.1 rfl (lv_room (Nat.le_of_ble_eq_true rfl)) dX4_share_130 ⟨Nat.zero_le _, Nat.zero_le _⟩) hS hP (fun H locs hP hS => ?_)
              refine lv_iload hx hb dX4_share_133 (lv_at hl 5 rfl) ?_
              refine lv_iconst (v := 1) hx hb dX4_share_135 (by decide) ?_
              refine lv_isub hx hb dX4_share_136 ?_
              refine lv_iload hx hb dX4_share_137 (lv_at hl 0 rfl) ?_
              refine lv_isub hx hb dX4_share_139 ?_
              obtain ⟨o24, hc25, hf⟩ := bindS hf
              refine ro_i (va_runS (As := [.int ((x4 - 1) - o20)]) (rest := [.int o22, .int x5]) ⟨hx, hb, hml, hown, hts⟩ (ctX4_ways l G ((x4 - 1) - o20) o24 hc25) (va_cwS 1 hts gX4_share_X4_ways rfl rfl rfl (by decide +kernel) ⟨Nat.le_of_ble_eq_true rfl, Nat.le_of_ble_eq_true rfl⟩) (preR_S (hP.sub (ws' := []) [] rfl) hK) rfl rfl hl.1 rfl (lv_room (Nat.le_of_ble_eq_true rfl)) dX4_share_140 ⟨Nat.zero_le _, Nat.zero_le _⟩) hS hP (fun H locs hP hS => ?_)
              refine lv_imul hx hb dX4_share_143 ?_
              refine lv_aload_n hx hb dX4_share_144 rfl (lv_at hl 1 rfl) ?_
              refine va_get (D := gD G) (ci := 4) (v := .ref (ad 26)) (C := RX4) (T := TX4) (N := 29) hx hb hts hi_X4 hown hK.1 hP 0 rfl rfl 26 (by decide) kl_50 (fun _ h9 => h9) rfl dX4_share_145 ?_
              refine lv_iload hx hb dX4_share_148 (lv_at hl 7 rfl) ?_
              refine lv_iconst (v := 1) hx hb dX4_share_150 (by decide) ?_
              refine lv_iload_n hx hb dX4_share_151 rfl (lv_at hl 2 rfl) ?_
              refine lv_ishl hx hb dX4_share_152 ?_
              refine lv_ior hx hb dX4_share_153 ?_
              obtain ⟨hi26, hf⟩ := ckS hf
              refine va_iald hx hb hK.1 hP 5 0 rfl rfl hi26 dX4_share_154 ?_
              refine lv_aload_n hx hb dX4_share_155 rfl (lv_at hl 1 rfl) ?_
              refine va_get (D := gD G) (ci := 4) (v := .ref (ad 26)) (C := RX4) (T := TX4) (N := 29) hx hb hts hi_X4 hown hK.1 hP 0 rfl rfl 26 (by decide) kl_50 (fun _ h9 => h9) rfl dX4_share_156 ?_
              refine lv_iload hx hb dX4_share_159 (lv_at hl 7 rfl) ?_
              obtain ⟨hi27, hf⟩ := ckS hf
              refine va_iald hx hb hK.1 hP 5 0 rfl rfl hi27 dX4_share_161 ?_
              refine lv_isub hx hb dX4_share_162 ?_
              refine lv_imul hx hb dX4_share_163 ?_
              refine lv_iadd hx hb dX4_share_164 ?_
              refine lv_istore (lv' := [(5, .int (x5 + ((o22 * o24) * ((q_value (Int32.toNatClampNeg (x6 ||| ((1 : Int32) <<< (a1 &&& 31))))) - (q_value (Int32.toNatClampNeg x6)))))), (7, .int o20), (0, .ref h0), (1, .int a1), (2, .int a2), (3, .int x3), (4, .int x4), (6, .int x6)]) hx hb dX4_share_165 hl (by decide) rfl (fun ls hl => ?_)
              refine lv_iinc (v := (x6 + 1)) (lv' := [(6, .int (x6 + 1)), (5, .int (x5 + ((o22 * o24) * ((q_value (Int32.toNatClampNeg (x6 ||| ((1 : Int32) <<< (a1 &&& 31))))) - (q_value (Int32.toNatClampNeg x6)))))), (7, .int o20), (0, .ref h0), (1, .int a1), (2, .int a2), (3, .int x3), (4, .int x4)]) hx hb dX4_share_167 hl (k := 7) rfl rfl (by decide) rfl (fun ls hl => ?_)
              refine lv_goto (tgt := 87) hx hb dX4_share_170 (by decide) ?_
              exact ih87 x3 x4 (x5 + ((o22 * o24) * ((q_value (Int32.toNatClampNeg (x6 ||| ((1 : Int32) <<< (a1 &&& 31))))) - (q_value (Int32.toNatClampNeg x6))))) (x6 + 1) s_thrown s_rowSize q_trial q_row q_value _ _ _ hP hD hS (lv_sub hl [3, 4, 5, 6, 7, 1, 0] rfl) hf
  have hC32 : ∀ (n : Nat) (x3 : Int32) (x4 : Int32) (x5 : Int32) (s_thrown : Int32) (s_rowSize : Int32) (q_trial : Nat → Int32) (q_row : Nat → Int32) (q_value : Nat → Int32) (H : Heap) (locs : List Loc) (ls : Array Slot), va_P (gD G) vwCl [(h0, moE ad s_thrown s_textSize s_place s_people s_readPeople s_acts s_seen s_seed s_rowSize s_feedMany s_feedRow s_restMany s_restFirst), (ad 5, aI G 7 q_kind), (ad 10, aI G 17 q_page), (ad 11, aI G 17 q_trial), (ad 20, aI G 7 q_row), (ad 26, aI G 128 q_value)] H → va_D A [(h0, moE ad s_thrown s_textSize s_place s_people s_readPeople s_acts s_seen s_seed s_rowSize s_feedMany s_feedRow s_restMany s_restFirst), (ad 5, aI G 7 q_kind), (ad 10, aI G 17 q_page), (ad 11, aI G 17 q_trial), (ad 20, aI G 7 q_row), (ad 26, aI G 128 q_value)] → va_S A s.heap H locs → lv_has ls 8 [(0, .ref h0), (1, .int a1), (2, .int a2), (3, .int x3), (4, .int x4), (5, .int x5)] → fX4_share_32 s_people q_kind q_page a1 a2 n x3 x4 x5 s_thrown s_rowSize q_trial q_row q_value = some out → W p l e ({ frames := 4, cells := 0, slots := 0, locals := 90 }) s m args below meth c H locs 0 0 Q (F0 m 32 ls []) := by
    intro n32
    induction n32 with
    | zero => intro x3 x4 x5 s_thrown s_rowSize q_trial q_row q_value H locs ls hP hD hS hl hf; exact absurd (show none = some out from hf) (fun z => by cases z)
    | succ n32 ih32 =>
      intro x3 x4 x5 s_thrown s_rowSize q_trial q_row q_value H locs ls hP hD hS hl hf
      refine lv_iload hx hb dX4_share_32 (lv_at hl 5 rfl) ?_
      refine lv_iload_n hx hb dX4_share_34 rfl (lv_at hl 3 rfl) ?_
      refine lv_icmp_gt (tgt := 81) hx hb dX4_share_35 (by decide) (fun c7 => ?_) (fun c7 => ?_)
      · have hf := iteT hf c7
        refine lv_iconst (v := 0) hx hb dX4_share_81 (by decide) ?_
        refine lv_istore (lv' := [(5, .int 0), (0, .ref h0), (1, .int a1), (2, .int a2), (3, .int x3), (4, .int x4)]) hx hb dX4_share_82 hl (by decide) rfl (fun ls hl => ?_)
        refine lv_iconst (v := 0) hx hb dX4_share_84 (by decide) ?_
        refine lv_istore (lv' := [(6, .int 0), (5, .int 0), (0, .ref h0), (1, .int a1), (2, .int a2), (3, .int x3), (4, .int x4)]) hx hb dX4_share_85 hl (by decide) rfl (fun ls hl => ?_)
        exact hC87 130 x3 x4 0 0 s_thrown s_rowSize q_trial q_row q_value _ _ _ hP hD hS (lv_sub hl [2, 3, 4, 5, 6, 1, 0] rfl) hf
      · have hf := iteF hf c7
        refine lv_iload hx hb dX4_share_38 (lv_at hl 5 rfl) ?_
        refine lv_iload_n hx hb dX4_share_40 rfl (lv_at hl 3 rfl) ?_
        refine lv_iconst (v := (-1)) hx hb dX4_share_41 (by decide) ?_
        refine lv_ixor hx hb dX4_share_42 ?_
        refine lv_iand hx hb dX4_share_43 ?_
        refine lv_if_ne (tgt := 75) hx hb dX4_share_44 (by decide) (fun c28 => ?_) (fun c28 => ?_)
        · have hf := iteF hf c28
          refine lv_iinc (v := (x5 + 1)) (lv' := [(5, .int (x5 + 1)), (0, .ref h0), (1, .int a1), (2, .int a2), (3, .int x3), (4, .int x4)]) hx hb dX4_share_75 hl (k := 5) rfl rfl (by decide) rfl (fun ls hl => ?_)
          refine lv_goto (tgt := 32) hx hb dX4_share_78 (by decide) ?_
          exact ih32 x3 x4 (x5 + 1) s_thrown s_rowSize q_trial q_row q_value _ _ _ hP hD hS (lv_sub hl [1, 2, 3, 4, 5, 0] rfl) hf
        · have hf := iteT hf c28
          refine lv_aload_n hx hb dX4_share_47 rfl (lv_at hl 0 rfl) ?_
          obtain ⟨o29, hc30, hf⟩ := bindS hf
          refine rw_v (va_runV (C := RX4) (As := []) (rest := []) ⟨hx, hb, hml, hown, hts⟩ (ctX4_begin l G h0 ad s_thrown s_textSize s_place s_people s_readPeople s_acts s_seen s_seed s_rowSize s_feedMany s_feedRow s_restMany s_restFirst q_page q_trial o29 hc30) (cwV 0 hts gX4_share_X4_begin rfl rfl rfl (by decide +kernel) ⟨Nat.le_of_ble_eq_true rfl, Nat.le_of_ble_eq_true rfl⟩) (preW_V (q0 := 0) (ci := 4) (hP.sub (ws' := [(h0, moE ad s_thrown s_textSize s_place s_people s_readPeople s_acts s_seen s_seed s_rowSize s_feedMany s_feedRow s_restMany s_restFirst), (ad 10, aI G 17 q_page), (ad 11, aI G 17 q_trial)]) [0, 2, 3] rfl) (hD.sub (ws' := [(h0, moE ad s_thrown s_textSize s_place s_people s_readPeople s_acts s_seen s_seed s_rowSize s_feedMany s_feedRow s_restMany s_restFirst), (ad 10, aI G 17 q_page), (ad 11, aI G 17 q_trial)]) [0, 2, 3] (by decide) rfl) hK rfl rfl) rfl rfl hl.1 rfl (lv_room (Nat.le_of_ble_eq_true rfl)) dX4_share_48 ⟨Nat.zero_le _, Nat.zero_le _⟩) hS hP hD [0, 2, 3] rfl rfl rfl (fun H locs hP hD hS => ?_)
          have hP : va_P (gD G) vwCl [(h0, moE ad s_thrown s_textSize s_place s_people s_readPeople s_acts s_seen s_seed s_rowSize s_feedMany s_feedRow s_restMany s_restFirst), (ad 5, aI G 7 q_kind), (ad 10, aI G 17 q_page), (ad 11, aI G 17 o29), (ad 20, aI G 7 q_row), (ad 26, aI G 128 q_value)] H := hP
          have hD : va_D A [(h0, moE ad s_thrown s_textSize s_place s_people s_readPeople s_acts s_seen s_seed s_rowSize s_feedMany s_feedRow s_restMany s_restFirst), (ad 5, aI G 7 q_kind), (ad 10, aI G 17 q_page), (ad 11, aI G 17 o29), (ad 20, aI G 7 q_row), (ad 26, aI G 128 q_value)] := hD
          refine lv_aload_n hx hb dX4_share_51 rfl (lv_at hl 0 rfl) ?_
          refine va_get (D := gD G) (ci := 4) (v := .ref (ad 11)) (C := RX4) (T := TX4) (N := 29) hx hb hts hi_X4 hown hK.1 hP 0 rfl rfl 11 (by decide) kl_28 (fun _ h9 => h9) rfl dX4_share_52 ?_
          refine lv_bipush (v := 14) hx hb dX4_share_55 (by decide) ?_
          refine lv_iload hx hb dX4_share_57 (lv_at hl 5 rfl) ?_
          obtain ⟨hi31, hf⟩ := ckS hf
          refine va_iast hx hb hK.1 hP hD hS 3 0 rfl rfl hi31 dX4_share_59 (fun H locs hP hD hS => ?_)
          have hP : va_P (gD G) vwCl [(h0, moE ad s_thrown s_textSize s_place s_people s_readPeople s_acts s_seen s_seed s_rowSize s_feedMany s_feedRow s_restMany s_restFirst), (ad 5, aI G 7 q_kind), (ad 10, aI G 17 q_page), (ad 11, aI G 17 (upd o29 (Int32.toNatClampNeg 14) x5)), (ad 20, aI G 7 q_row), (ad 26, aI G 128 q_value)] H := hP
          have hD : va_D A [(h0, moE ad s_thrown s_textSize s_place s_people s_readPeople s_acts s_seen s_seed s_rowSize s_feedMany s_feedRow s_restMany s_restFirst), (ad 5, aI G 7 q_kind), (ad 10, aI G 17 q_page), (ad 11, aI G 17 (upd o29 (Int32.toNatClampNeg 14) x5)), (ad 20, aI G 7 q_row), (ad 26, aI G 128 q_value)] := hD
          refine lv_aload_n hx hb dX4_share_60 rfl (lv_at hl 0 rfl) ?_
          obtain ⟨o32, hc33, hf⟩ := bindS hf
          refine rw_v (va_runV (C := RX4) (As := []) (rest := []) ⟨hx, hb, hml, hown, hts⟩ (ctX4_layFall l G h0 ad s_thrown s_textSize s_place s_people s_readPeople s_acts s_seen s_seed s_rowSize s_feedMany s_feedRow s_restMany s_restFirst q_kind (upd o29 (Int32.toNatClampNeg 14) x5) q_row o32 hc33) (cwV 0 hts gX4_share_X4_layFall rfl rfl rfl (by decide +kernel) ⟨Nat.le_of_ble_eq_true rfl, Nat.le_of_ble_eq_true rfl⟩) (preW_V (q0 := 0) (ci := 4) (hP.sub (ws' := [(h0, moE ad s_thrown s_textSize s_place s_people s_readPeople s_acts s_seen s_seed s_rowSize s_feedMany s_feedRow s_restMany s_restFirst), (ad 5, aI G 7 q_kind), (ad 11, aI G 17 (upd o29 (Int32.toNatClampNeg 14) x5)), (ad 20, aI G 7 q_row)]) [0, 1, 3, 4] rfl) (hD.sub (ws' := [(h0, moE ad s_thrown s_textSize s_place s_people s_readPeople s_acts s_seen s_seed s_rowSize s_feedMany s_feedRow s_restMany s_restFirst), (ad 5, aI G 7 q_kind), (ad 11, aI G 17 (upd o29 (Int32.toNatClampNeg 14) x5)), (ad 20, aI G 7 q_row)]) [0, 1, 3, 4] (by decide) rfl) hK rfl rfl) rfl rfl hl.1 rfl (lv_room (Nat.le_of_ble_eq_true rfl)) dX4_share_61 ⟨Nat.zero_le _, Nat.zero_le _⟩) hS hP hD [0, 1, 3, 4] rfl rfl rfl (fun H locs hP hD hS => ?_)
          have hP : va_P (gD G) vwCl [(h0, moE ad s_thrown s_textSize s_place s_people s_readPeople s_acts s_seen s_seed o32.1 s_feedMany s_feedRow s_restMany s_restFirst), (ad 5, aI G 7 q_kind), (ad 10, aI G 17 q_page), (ad 11, aI G 17 o32.2.1), (ad 20, aI G 7 o32.2.2), (ad 26, aI G 128 q_value)] H := hP
          have hD : va_D A [(h0, moE ad s_thrown s_textSize s_place s_people s_readPeople s_acts s_seen s_seed o32.1 s_feedMany s_feedRow s_restMany s_restFirst), (ad 5, aI G 7 q_kind), (ad 10, aI G 17 q_page), (ad 11, aI G 17 o32.2.1), (ad 20, aI G 7 o32.2.2), (ad 26, aI G 128 q_value)] := hD
          refine lv_aload_n hx hb dX4_share_64 rfl (lv_at hl 0 rfl) ?_
          refine va_get (D := gD G) (ci := 4) (v := .ref (ad 26)) (C := RX4) (T := TX4) (N := 29) hx hb hts hi_X4 hown hK.1 hP 0 rfl rfl 26 (by decide) kl_50 (fun _ h9 => h9) rfl dX4_share_65 ?_
          refine lv_iload hx hb dX4_share_68 (lv_at hl 5 rfl) ?_
          refine lv_aload_n hx hb dX4_share_70 rfl (lv_at hl 0 rfl) ?_
          refine va_get (D := gD G) (ci := 4) (v := .int o32.1) (C := RX4) (T := TX4) (N := 29) hx hb hts hi_X4 hown hK.1 hP 0 rfl rfl 21 (by decide) kl_121 (fun _ h9 => h9) rfl dX4_share_71 ?_
          obtain ⟨hi34, hf⟩ := ckS hf
          refine va_iast hx hb hK.1 hP hD hS 5 0 rfl rfl hi34 dX4_share_74 (fun H locs hP hD hS => ?_)
          have hP : va_P (gD G) vwCl [(h0, moE ad s_thrown s_textSize s_place s_people s_readPeople s_acts s_seen s_seed o32.1 s_feedMany s_feedRow s_restMany s_restFirst), (ad 5, aI G 7 q_kind), (ad 10, aI G 17 q_page), (ad 11, aI G 17 o32.2.1), (ad 20, aI G 7 o32.2.2), (ad 26, aI G 128 (upd q_value (Int32.toNatClampNeg x5) o32.1))] H := hP
          have hD : va_D A [(h0, moE ad s_thrown s_textSize s_place s_people s_readPeople s_acts s_seen s_seed o32.1 s_feedMany s_feedRow s_restMany s_restFirst), (ad 5, aI G 7 q_kind), (ad 10, aI G 17 q_page), (ad 11, aI G 17 o32.2.1), (ad 20, aI G 7 o32.2.2), (ad 26, aI G 128 (upd q_value (Int32.toNatClampNeg x5) o32.1))] := hD
          refine lv_iinc (v := (x5 + 1)) (lv' := [(5, .int (x5 + 1)), (0, .ref h0), (1, .int a1), (2, .int a2), (3, .int x3), (4, .int x4)]) hx hb dX4_share_75 hl (k := 5) rfl rfl (by decide) rfl (fun ls hl => ?_)
          refine lv_goto (tgt := 32) hx hb dX4_share_78 (by decide) ?_
          exact ih32 x3 x4 (x5 + 1) s_thrown o32.1 o32.2.1 o32.2.2 (upd q_value (Int32.toNatClampNeg x5) o32.1) _ _ _ hP hD hS (lv_sub hl [1, 2, 3, 4, 5, 0] rfl) hf
  refine lv_aload_n hx hb dX4_share_0 rfl (lv_at hl 0 rfl) ?_
  refine lv_iconst (v := 0) hx hb dX4_share_1 (by decide) ?_
  refine va_put (D := gD G) (ci := 4) (v := .int 0) (ty := .int) (C := RX4) (T := TX4) (N := 29) hx hb hts hi_X4 tyX4 tyX4_ok nmX4 hown hK.1 hP hD hS 0 rfl rfl 0 (by decide) kl_60 (fun _ h9 => h9) rfl (tyX4_ok 0 (by decide)) rfl rfl (Nat.le_of_ble_eq_true rfl) dX4_share_2 (fun H locs hP hD hS => ?_)
  have hP : va_P (gD G) vwCl [(h0, moE ad 0 s_textSize s_place s_people s_readPeople s_acts s_seen s_seed s_rowSize s_feedMany s_feedRow s_restMany s_restFirst), (ad 5, aI G 7 q_kind), (ad 10, aI G 17 q_page), (ad 11, aI G 17 q_trial), (ad 20, aI G 7 q_row), (ad 26, aI G 128 q_value)] H := hP
  have hD : va_D A [(h0, moE ad 0 s_textSize s_place s_people s_readPeople s_acts s_seen s_seed s_rowSize s_feedMany s_feedRow s_restMany s_restFirst), (ad 5, aI G 7 q_kind), (ad 10, aI G 17 q_page), (ad 11, aI G 17 q_trial), (ad 20, aI G 7 q_row), (ad 26, aI G 128 q_value)] := hD
  refine lv_aload_n hx hb dX4_share_5 rfl (lv_at hl 0 rfl) ?_
  refine lv_iload_n hx hb dX4_share_6 rfl (lv_at hl 1 rfl) ?_
  obtain ⟨o1, hc2, hf⟩ := bindS hf
  refine ro_i (va_runV (C := RX4) (As := [.int a1]) (rest := []) ⟨hx, hb, hml, hown, hts⟩ (ctX4_noPerson l G h0 ad 0 s_textSize s_place s_people s_readPeople s_acts s_seen s_seed s_rowSize s_feedMany s_feedRow s_restMany s_restFirst a1 o1 hc2) (cwV 1 hts gX4_share_X4_noPerson rfl rfl rfl (by decide +kernel) ⟨Nat.le_of_ble_eq_true rfl, Nat.le_of_ble_eq_true rfl⟩) (preR_V (q0 := 0) (ci := 4) (hP.sub (ws' := [(h0, moE ad 0 s_textSize s_place s_people s_readPeople s_acts s_seen s_seed s_rowSize s_feedMany s_feedRow s_restMany s_restFirst)]) [0] rfl) hK rfl rfl) rfl rfl hl.1 rfl (lv_room (Nat.le_of_ble_eq_true rfl)) dX4_share_7 ⟨Nat.zero_le _, Nat.zero_le _⟩) hS hP (fun H locs hP hS => ?_)
  refine lv_if_eq (tgt := 15) hx hb dX4_share_10 (by decide) (fun c3 => ?_) (fun c3 => ?_)
  · have hf := iteT hf c3
    refine lv_aload_n hx hb dX4_share_15 rfl (lv_at hl 0 rfl) ?_
    refine va_get (D := gD G) (ci := 4) (v := .ref (ad 10)) (C := RX4) (T := TX4) (N := 29) hx hb hts hi_X4 hown hK.1 hP 0 rfl rfl 10 (by decide) kl_25 (fun _ h9 => h9) rfl dX4_share_16 ?_
    refine lv_bipush (v := 14) hx hb dX4_share_19 (by decide) ?_
    obtain ⟨hi4, hf⟩ := ckS hf
    refine va_iald hx hb hK.1 hP 2 0 rfl rfl hi4 dX4_share_21 ?_
    refine lv_istore_n (lv' := [(3, .int (q_page (Int32.toNatClampNeg 14))), (0, .ref h0), (1, .int a1), (2, .int a2)]) hx hb dX4_share_22 rfl hl (by decide) rfl (fun ls hl => ?_)
    refine lv_iload_n hx hb dX4_share_23 rfl (lv_at hl 0 rfl) ?_
    obtain ⟨o5, hc6, hf⟩ := bindS hf
    refine ro_i (va_runS (As := [.int (q_page (Int32.toNatClampNeg 14))]) (rest := []) ⟨hx, hb, hml, hown, hts⟩ (ctX4_many l G (q_page (Int32.toNatClampNeg 14)) o5 hc6) (va_cwS 1 hts gX4_share_X4_many rfl rfl rfl (by decide +kernel) ⟨Nat.le_of_ble_eq_true rfl, Nat.le_of_ble_eq_true rfl⟩) (preR_S (hP.sub (ws' := []) [] rfl) hK) rfl rfl hl.1 rfl (lv_room (Nat.le_of_ble_eq_true rfl)) dX4_share_24 ⟨Nat.zero_le _, Nat.zero_le _⟩) hS hP (fun H locs hP hS => ?_)
    refine lv_istore (lv' := [(4, .int o5), (3, .int (q_page (Int32.toNatClampNeg 14))), (0, .ref h0), (1, .int a1), (2, .int a2)]) hx hb dX4_share_27 hl (by decide) rfl (fun ls hl => ?_)
    refine lv_iconst (v := 0) hx hb dX4_share_29 (by decide) ?_
    refine lv_istore (lv' := [(5, .int 0), (4, .int o5), (3, .int (q_page (Int32.toNatClampNeg 14))), (0, .ref h0), (1, .int a1), (2, .int a2)]) hx hb dX4_share_30 hl (by decide) rfl (fun ls hl => ?_)
    exact hC32 130 (q_page (Int32.toNatClampNeg 14)) o5 0 0 s_rowSize q_trial q_row q_value _ _ _ hP hD hS (lv_sub hl [3, 4, 5, 2, 1, 0] rfl) hf
  · have hf := iteF hf c3
    refine lv_iconst (v := (-1)) hx hb dX4_share_13 (by decide) ?_
    have hv := Option.some.inj hf
    exact hret _ _ _ _ _ (by rw [← hv]; exact hP) hS (by rw [← hv]) dX4_share_14
def fX4_see (s_thrown : Int32) (s_people : Int32) (s_seen : Int32) (q_seenOne : Nat → Int32) (q_seenTwo : Nat → Int32) (a1 : Int32) (a2 : Int32) : Option (Int32 × Int32 × Int32 × (Nat → Int32) × (Nat → Int32)) :=
  (fX4_noPerson s_people a1).bind fun o1 => ((if o1 = 0 then (fX4_noPerson s_people a2).bind fun o4 => ((if o4 = 0 then (if a1 = a2 then some ((-2), 0, s_seen, q_seenOne, q_seenTwo) else (if s_seen = 6 then some ((-4), 0, s_seen, q_seenOne, q_seenTwo) else ck s_seen 6 (ck s_seen 6 (some ((s_seen + 1), 0, (s_seen + 1), (upd q_seenOne (Int32.toNatClampNeg s_seen) a1), (upd q_seenTwo (Int32.toNatClampNeg s_seen) a2)))))) else some ((-1), 0, s_seen, q_seenOne, q_seenTwo))) else some ((-1), 0, s_seen, q_seenOne, q_seenTwo)))
set_option maxHeartbeats 4000000 in
set_option maxRecDepth 100000 in
theorem ctX4_see (l : Launch) (G : GG) (h0 : Nat) (ad : Nat → Nat) (s_thrown : Int32) (s_textSize : Int32) (s_place : Int32) (s_people : Int32) (s_readPeople : Int32) (s_acts : Int32) (s_seen : Int32) (s_seed : Int64) (s_rowSize : Int32) (s_feedMany : Int32) (s_feedRow : Int32) (s_restMany : Int32) (s_restFirst : Int32) (q_seenOne : Nat → Int32) (q_seenTwo : Nat → Int32) (a1 : Int32) (a2 : Int32) (out : Int32 × Int32 × Int32 × (Nat → Int32) × (Nat → Int32)) (hf : fX4_see s_thrown s_people s_seen q_seenOne q_seenTwo a1 a2 = some out) : Met l yX4_see wsX4_see ({ frames := 2, cells := 0, slots := 0, locals := 46 }) (PcW G [.ref h0, .int a1, .int a2] [(h0, moE ad s_thrown s_textSize s_place s_people s_readPeople s_acts s_seen s_seed s_rowSize s_feedMany s_feedRow s_restMany s_restFirst), (ad 17, aI G 6 q_seenOne), (ad 18, aI G 6 q_seenTwo)]) (QiW G [(h0, moE ad s_thrown s_textSize s_place s_people s_readPeople s_acts s_seen s_seed s_rowSize s_feedMany s_feedRow s_restMany s_restFirst), (ad 17, aI G 6 q_seenOne), (ad 18, aI G 6 q_seenTwo)] [(h0, moE ad out.2.1 s_textSize s_place s_people s_readPeople s_acts out.2.2.1 s_seed s_rowSize s_feedMany s_feedRow s_restMany s_restFirst), (ad 17, aI G 6 out.2.2.2.1), (ad 18, aI G 6 out.2.2.2.2)] out.1) 0 0 (inA [(h0, moE ad s_thrown s_textSize s_place s_people s_readPeople s_acts s_seen s_seed s_rowSize s_feedMany s_feedRow s_restMany s_restFirst), (ad 17, aI G 6 q_seenOne), (ad 18, aI G 6 q_seenTwo)]) := by
  refine mk_Wi (cc := cX4_see) (maxL := 3) (by decide) rfl (Nat.le_of_ble_eq_true rfl) ?_
  intro p e s m args below meth c Q ls A S hP hK hD hl hret
  obtain ⟨hx, hb, hml, hown, hts⟩ := S
  have hown : s.vm.findClass RX4 = some m.cls := hown
  have kl_60 := hts (.fieldLink RX4 60 "ArrestOrderModel" "thrown" "I") (by decide +kernel)
  have hi_X4 : ∀ w ∈ wsX40, w ∈ wsX4_see := fun _ h => List.mem_cons_of_mem _ (List.mem_append_right _ h)
  have kl_131 := hts (.fieldLink RX4 131 "ArrestOrderModel" "seen" "I") (by decide +kernel)
  have kl_41 := hts (.fieldLink RX4 41 "ArrestOrderModel" "seenOne" "[I") (by decide +kernel)
  have kl_44 := hts (.fieldLink RX4 44 "ArrestOrderModel" "seenTwo" "[I") (by decide +kernel)
  have hS : va_S A s.heap s.heap [] := va_S.rf
  have hl : lv_has ls 3 [(0, .ref h0), (1, .int a1), (2, .int a2)] := hl
  refine lv_aload_n hx hb dX4_see_0 rfl (lv_at hl 0 rfl) ?_
  refine lv_iconst (v := 0) hx hb dX4_see_1 (by decide) ?_
  refine va_put (D := gD G) (ci := 4) (v := .int 0) (ty := .int) (C := RX4) (T := TX4) (N := 29) hx hb hts hi_X4 tyX4 tyX4_ok nmX4 hown hK.1 hP hD hS 0 rfl rfl 0 (by decide) kl_60 (fun _ h9 => h9) rfl (tyX4_ok 0 (by decide)) rfl rfl (Nat.le_of_ble_eq_true rfl) dX4_see_2 (fun H locs hP hD hS => ?_)
  have hP : va_P (gD G) vwCl [(h0, moE ad 0 s_textSize s_place s_people s_readPeople s_acts s_seen s_seed s_rowSize s_feedMany s_feedRow s_restMany s_restFirst), (ad 17, aI G 6 q_seenOne), (ad 18, aI G 6 q_seenTwo)] H := hP
  have hD : va_D A [(h0, moE ad 0 s_textSize s_place s_people s_readPeople s_acts s_seen s_seed s_rowSize s_feedMany s_feedRow s_restMany s_restFirst), (ad 17, aI G 6 q_seenOne), (ad 18, aI G 6 q_seenTwo)] := hD
  refine lv_aload_n hx hb dX4_see_5 rfl (lv_at hl 0 rfl) ?_
  refine lv_iload_n hx hb dX4_see_6 rfl (lv_at hl 1 rfl) ?_
  obtain ⟨o1, hc2, hf⟩ := bindS hf
  refine ro_i (va_runV (C := RX4) (As := [.int a1]) (rest := []) ⟨hx, hb, hml, hown, hts⟩ (ctX4_noPerson l G h0 ad 0 s_textSize s_place s_people s_readPeople s_acts s_seen s_seed s_rowSize s_feedMany s_feedRow s_restMany s_restFirst a1 o1 hc2) (cwV 1 hts gX4_see_X4_noPerson rfl rfl rfl (by decide +kernel) ⟨Nat.le_of_ble_eq_true rfl, Nat.le_of_ble_eq_true rfl⟩) (preR_V (q0 := 0) (ci := 4) (hP.sub (ws' := [(h0, moE ad 0 s_textSize s_place s_people s_readPeople s_acts s_seen s_seed s_rowSize s_feedMany s_feedRow s_restMany s_restFirst)]) [0] rfl) hK rfl rfl) rfl rfl hl.1 rfl (lv_room (Nat.le_of_ble_eq_true rfl)) dX4_see_7 ⟨Nat.zero_le _, Nat.zero_le _⟩) hS hP (fun H locs hP hS => ?_)
  refine lv_if_ne (tgt := 21) hx hb dX4_see_10 (by decide) (fun c3 => ?_) (fun c3 => ?_)
  · have hf := iteF hf c3
    refine lv_iconst (v := (-1)) hx hb dX4_see_21 (by decide) ?_
    have hv := Option.some.inj hf
    exact hret _ _ _ _ _ (by rw [← hv]; exact hP) hS (by rw [← hv]) dX4_see_22
  · have hf := iteT hf c3
    refine lv_aload_n hx hb dX4_see_13 rfl (lv_at hl 0 rfl) ?_
    refine lv_iload_n hx hb dX4_see_14 rfl (lv_at hl 2 rfl) ?_
    obtain ⟨o4, hc5, hf⟩ := bindS hf
    refine ro_i (va_runV (C := RX4) (As := [.int a2]) (rest := []) ⟨hx, hb, hml, hown, hts⟩ (ctX4_noPerson l G h0 ad 0 s_textSize s_place s_people s_readPeople s_acts s_seen s_seed s_rowSize s_feedMany s_feedRow s_restMany s_restFirst a2 o4 hc5) (cwV 1 hts gX4_see_X4_noPerson rfl rfl rfl (by decide +kernel) ⟨Nat.le_of_ble_eq_true rfl, Nat.le_of_ble_eq_true rfl⟩) (preR_V (q0 := 0) (ci := 4) (hP.sub (ws' := [(h0, moE ad 0 s_textSize s_place s_people s_readPeople s_acts s_seen s_seed s_rowSize s_feedMany s_feedRow s_restMany s_restFirst)]) [0] rfl) hK rfl rfl) rfl rfl hl.1 rfl (lv_room (Nat.le_of_ble_eq_true rfl)) dX4_see_15 ⟨Nat.zero_le _, Nat.zero_le _⟩) hS hP (fun H locs hP hS => ?_)
    refine lv_if_eq (tgt := 23) hx hb dX4_see_18 (by decide) (fun c6 => ?_) (fun c6 => ?_)
    · have hf := iteT hf c6
      refine lv_iload_n hx hb dX4_see_23 rfl (lv_at hl 1 rfl) ?_
      refine lv_iload_n hx hb dX4_see_24 rfl (lv_at hl 2 rfl) ?_
      refine lv_icmp_ne (tgt := 31) hx hb dX4_see_25 (by decide) (fun c7 => ?_) (fun c7 => ?_)
      · have hf := iteF hf c7
        refine lv_aload_n hx hb dX4_see_31 rfl (lv_at hl 0 rfl) ?_
        refine va_get (D := gD G) (ci := 4) (v := .int s_seen) (C := RX4) (T := TX4) (N := 29) hx hb hts hi_X4 hown hK.1 hP 0 rfl rfl 16 (by decide) kl_131 (fun _ h9 => h9) rfl dX4_see_32 ?_
        refine lv_bipush (v := 6) hx hb dX4_see_35 (by decide) ?_
        refine lv_icmp_ne (tgt := 43) hx hb dX4_see_37 (by decide) (fun c8 => ?_) (fun c8 => ?_)
        · have hf := iteF hf c8
          refine lv_aload_n hx hb dX4_see_43 rfl (lv_at hl 0 rfl) ?_
          refine va_get (D := gD G) (ci := 4) (v := .ref (ad 17)) (C := RX4) (T := TX4) (N := 29) hx hb hts hi_X4 hown hK.1 hP 0 rfl rfl 17 (by decide) kl_41 (fun _ h9 => h9) rfl dX4_see_44 ?_
          refine lv_aload_n hx hb dX4_see_47 rfl (lv_at hl 0 rfl) ?_
          refine va_get (D := gD G) (ci := 4) (v := .int s_seen) (C := RX4) (T := TX4) (N := 29) hx hb hts hi_X4 hown hK.1 hP 0 rfl rfl 16 (by decide) kl_131 (fun _ h9 => h9) rfl dX4_see_48 ?_
          refine lv_iload_n hx hb dX4_see_51 rfl (lv_at hl 1 rfl) ?_
          obtain ⟨hi9, hf⟩ := ckS hf
          refine va_iast hx hb hK.1 hP hD hS 1 0 rfl rfl hi9 dX4_see_52 (fun H locs hP hD hS => ?_)
          have hP : va_P (gD G) vwCl [(h0, moE ad 0 s_textSize s_place s_people s_readPeople s_acts s_seen s_seed s_rowSize s_feedMany s_feedRow s_restMany s_restFirst), (ad 17, aI G 6 (upd q_seenOne (Int32.toNatClampNeg s_seen) a1)), (ad 18, aI G 6 q_seenTwo)] H := hP
          have hD : va_D A [(h0, moE ad 0 s_textSize s_place s_people s_readPeople s_acts s_seen s_seed s_rowSize s_feedMany s_feedRow s_restMany s_restFirst), (ad 17, aI G 6 (upd q_seenOne (Int32.toNatClampNeg s_seen) a1)), (ad 18, aI G 6 q_seenTwo)] := hD
          refine lv_aload_n hx hb dX4_see_53 rfl (lv_at hl 0 rfl) ?_
          refine va_get (D := gD G) (ci := 4) (v := .ref (ad 18)) (C := RX4) (T := TX4) (N := 29) hx hb hts hi_X4 hown hK.1 hP 0 rfl rfl 18 (by decide) kl_44 (fun _ h9 => h9) rfl dX4_see_54 ?_
          refine lv_aload_n hx hb dX4_see_57 rfl (lv_at hl 0 rfl) ?_
          refine va_get (D := gD G) (ci := 4) (v := .int s_seen) (C := RX4) (T := TX4) (N := 29) hx hb hts hi_X4 hown hK.1 hP 0 rfl rfl 16 (by decide) kl_131 (fun _ h9 => h9) rfl dX4_see_58 ?_
          refine lv_iload_n hx hb dX4_see_61 rfl (lv_at hl 2 rfl) ?_
          obtain ⟨hi10, hf⟩ := ckS hf
          refine va_iast hx hb hK.1 hP hD hS 2 0 rfl rfl hi10 dX4_see_62 (fun H locs hP hD hS => ?_)
          have hP : va_P (gD G) vwCl [(h0, moE ad 0 s_textSize s_place s_people s_readPeople s_acts s_seen s_seed s_rowSize s_feedMany s_feedRow s_restMany s_restFirst), (ad 17, aI G 6 (upd q_seenOne (Int32.toNatClampNeg s_seen) a1)), (ad 18, aI G 6 (upd q_seenTwo (Int32.toNatClampNeg s_seen) a2))] H := hP
          have hD : va_D A [(h0, moE ad 0 s_textSize s_place s_people s_readPeople s_acts s_seen s_seed s_rowSize s_feedMany s_feedRow s_restMany s_restFirst), (ad 17, aI G 6 (upd q_seenOne (Int32.toNatClampNeg s_seen) a1)), (ad 18, aI G 6 (upd q_seenTwo (Int32.toNatClampNeg s_seen) a2))] := hD
          refine lv_aload_n hx hb dX4_see_63 rfl (lv_at hl 0 rfl) ?_
          refine lv_dup hx hb dX4_see_64 rfl ?_
          refine va_get (D := gD G) (ci := 4) (v := .int s_seen) (C := RX4) (T := TX4) (N := 29) hx hb hts hi_X4 hown hK.1 hP 0 rfl rfl 16 (by decide) kl_131 (fun _ h9 => h9) rfl dX4_see_65 ?_
          refine lv_iconst (v := 1) hx hb dX4_see_68 (by decide) ?_
          refine lv_iadd hx hb dX4_see_69 ?_
          refine va_put (D := gD G) (ci := 4) (v := .int (s_seen + 1)) (ty := .int) (C := RX4) (T := TX4) (N := 29) hx hb hts hi_X4 tyX4 tyX4_ok nmX4 hown hK.1 hP hD hS 0 rfl rfl 16 (by decide) kl_131 (fun _ h9 => h9) rfl (tyX4_ok 16 (by decide)) rfl rfl (Nat.le_of_ble_eq_true rfl) dX4_see_70 (fun H locs hP hD hS => ?_)
          have hP : va_P (gD G) vwCl [(h0, moE ad 0 s_textSize s_place s_people s_readPeople s_acts (s_seen + 1) s_seed s_rowSize s_feedMany s_feedRow s_restMany s_restFirst), (ad 17, aI G 6 (upd q_seenOne (Int32.toNatClampNeg s_seen) a1)), (ad 18, aI G 6 (upd q_seenTwo (Int32.toNatClampNeg s_seen) a2))] H := hP
          have hD : va_D A [(h0, moE ad 0 s_textSize s_place s_people s_readPeople s_acts (s_seen + 1) s_seed s_rowSize s_feedMany s_feedRow s_restMany s_restFirst), (ad 17, aI G 6 (upd q_seenOne (Int32.toNatClampNeg s_seen) a1)), (ad 18, aI G 6 (upd q_seenTwo (Int32.toNatClampNeg s_seen) a2))] := hD
          refine lv_aload_n hx hb dX4_see_73 rfl (lv_at hl 0 rfl) ?_
          refine va_get (D := gD G) (ci := 4) (v := .int (s_seen + 1)) (C := RX4) (T := TX4) (N := 29) hx hb hts hi_X4 hown hK.1 hP 0 rfl rfl 16 (by decide) kl_131 (fun _ h9 => h9) rfl dX4_see_74 ?_
          have hv := Option.some.inj hf
          exact hret _ _ _ _ _ (by rw [← hv]; exact hP) hS (by rw [← hv]) dX4_see_77
        · have hf := iteT hf c8
          refine lv_bipush (v := (-4)) hx hb dX4_see_40 (by decide) ?_
          have hv := Option.some.inj hf
          exact hret _ _ _ _ _ (by rw [← hv]; exact hP) hS (by rw [← hv]) dX4_see_42
      · have hf := iteT hf c7
        refine lv_bipush (v := (-2)) hx hb dX4_see_28 (by decide) ?_
        have hv := Option.some.inj hf
        exact hret _ _ _ _ _ (by rw [← hv]; exact hP) hS (by rw [← hv]) dX4_see_30
    · have hf := iteF hf c6
      refine lv_iconst (v := (-1)) hx hb dX4_see_21 (by decide) ?_
      have hv := Option.some.inj hf
      exact hret _ _ _ _ _ (by rw [← hv]; exact hP) hS (by rw [← hv]) dX4_see_22
def fX4_unsee (s_thrown : Int32) (s_seen : Int32) : Option (Int32 × Int32 × Int32) :=
  some (s_seen, 0, 0)
set_option maxHeartbeats 4000000 in
set_option maxRecDepth 100000 in
theorem ctX4_unsee (l : Launch) (G : GG) (h0 : Nat) (ad : Nat → Nat) (s_thrown : Int32) (s_textSize : Int32) (s_place : Int32) (s_people : Int32) (s_readPeople : Int32) (s_acts : Int32) (s_seen : Int32) (s_seed : Int64) (s_rowSize : Int32) (s_feedMany : Int32) (s_feedRow : Int32) (s_restMany : Int32) (s_restFirst : Int32) (out : Int32 × Int32 × Int32) (hf : fX4_unsee s_thrown s_seen = some out) : Met l yX4_unsee wsX4_unsee ({ frames := 0, cells := 0, slots := 0, locals := 0 }) (PcW G [.ref h0] [(h0, moE ad s_thrown s_textSize s_place s_people s_readPeople s_acts s_seen s_seed s_rowSize s_feedMany s_feedRow s_restMany s_restFirst)]) (QiW G [(h0, moE ad s_thrown s_textSize s_place s_people s_readPeople s_acts s_seen s_seed s_rowSize s_feedMany s_feedRow s_restMany s_restFirst)] [(h0, moE ad out.2.1 s_textSize s_place s_people s_readPeople s_acts out.2.2 s_seed s_rowSize s_feedMany s_feedRow s_restMany s_restFirst)] out.1) 0 0 (inA [(h0, moE ad s_thrown s_textSize s_place s_people s_readPeople s_acts s_seen s_seed s_rowSize s_feedMany s_feedRow s_restMany s_restFirst)]) := by
  refine mk_Wi (cc := cX4_unsee) (maxL := 2) (by decide) rfl (Nat.le_of_ble_eq_true rfl) ?_
  intro p e s m args below meth c Q ls A S hP hK hD hl hret
  obtain ⟨hx, hb, hml, hown, hts⟩ := S
  have hown : s.vm.findClass RX4 = some m.cls := hown
  have kl_60 := hts (.fieldLink RX4 60 "ArrestOrderModel" "thrown" "I") (by decide +kernel)
  have hi_X4 : ∀ w ∈ wsX40, w ∈ wsX4_unsee := fun _ h => List.mem_cons_of_mem _ (List.mem_append_right _ h)
  have kl_131 := hts (.fieldLink RX4 131 "ArrestOrderModel" "seen" "I") (by decide +kernel)
  have hS : va_S A s.heap s.heap [] := va_S.rf
  have hl : lv_has ls 2 [(0, .ref h0)] := hl
  refine lv_aload_n hx hb dX4_unsee_0 rfl (lv_at hl 0 rfl) ?_
  refine lv_iconst (v := 0) hx hb dX4_unsee_1 (by decide) ?_
  refine va_put (D := gD G) (ci := 4) (v := .int 0) (ty := .int) (C := RX4) (T := TX4) (N := 29) hx hb hts hi_X4 tyX4 tyX4_ok nmX4 hown hK.1 hP hD hS 0 rfl rfl 0 (by decide) kl_60 (fun _ h9 => h9) rfl (tyX4_ok 0 (by decide)) rfl rfl (Nat.le_of_ble_eq_true rfl) dX4_unsee_2 (fun H locs hP hD hS => ?_)
  have hP : va_P (gD G) vwCl [(h0, moE ad 0 s_textSize s_place s_people s_readPeople s_acts s_seen s_seed s_rowSize s_feedMany s_feedRow s_restMany s_restFirst)] H := hP
  have hD : va_D A [(h0, moE ad 0 s_textSize s_place s_people s_readPeople s_acts s_seen s_seed s_rowSize s_feedMany s_feedRow s_restMany s_restFirst)] := hD
  refine lv_aload_n hx hb dX4_unsee_5 rfl (lv_at hl 0 rfl) ?_
  refine va_get (D := gD G) (ci := 4) (v := .int s_seen) (C := RX4) (T := TX4) (N := 29) hx hb hts hi_X4 hown hK.1 hP 0 rfl rfl 16 (by decide) kl_131 (fun _ h9 => h9) rfl dX4_unsee_6 ?_
  refine lv_istore_n (lv' := [(1, .int s_seen), (0, .ref h0)]) hx hb dX4_unsee_9 rfl hl (by decide) rfl (fun ls hl => ?_)
  refine lv_aload_n hx hb dX4_unsee_10 rfl (lv_at hl 1 rfl) ?_
  refine lv_iconst (v := 0) hx hb dX4_unsee_11 (by decide) ?_
  refine va_put (D := gD G) (ci := 4) (v := .int 0) (ty := .int) (C := RX4) (T := TX4) (N := 29) hx hb hts hi_X4 tyX4 tyX4_ok nmX4 hown hK.1 hP hD hS 0 rfl rfl 16 (by decide) kl_131 (fun _ h9 => h9) rfl (tyX4_ok 16 (by decide)) rfl rfl (Nat.le_of_ble_eq_true rfl) dX4_unsee_12 (fun H locs hP hD hS => ?_)
  have hP : va_P (gD G) vwCl [(h0, moE ad 0 s_textSize s_place s_people s_readPeople s_acts 0 s_seed s_rowSize s_feedMany s_feedRow s_restMany s_restFirst)] H := hP
  have hD : va_D A [(h0, moE ad 0 s_textSize s_place s_people s_readPeople s_acts 0 s_seed s_rowSize s_feedMany s_feedRow s_restMany s_restFirst)] := hD
  refine lv_iload_n hx hb dX4_unsee_15 rfl (lv_at hl 0 rfl) ?_
  have hv := Option.some.inj hf
  exact hret _ _ _ _ _ (by rw [← hv]; exact hP) hS (by rw [← hv]) dX4_unsee_16
def fX4_isSeen_70 (k4 : Int32 → Int32 → Option (Int32)) (x2 : Int32) (x3 : Int32) (x4 : Int32) (y0 : Int32) : Option (Int32) :=
  (if y0 = 0 then (k4 1 (x2 + 1)) else (if x3 = (-9) then (k4 0 (x2 + 1)) else (if x4 = (-9) then (k4 1 (x2 + 1)) else (if x4 ≤ x3 then (k4 0 (x2 + 1)) else (k4 1 (x2 + 1))))))
def fX4_isSeen_69 (k4 : Int32 → Int32 → Option (Int32)) (x2 : Int32) (x3 : Int32) (x4 : Int32) : Option (Int32) :=
  (fX4_isSeen_70 k4 x2 x3 x4 0)
def fX4_isSeen_4 (s_people : Int32) (s_seen : Int32) (s_rowSize : Int32) (q_seenOne : Nat → Int32) (q_seenTwo : Nat → Int32) (q_row : Nat → Int32) : Nat → Int32 → Int32 → Option (Int32)
  | 0, _, _ => none
  | n + 1, x1, x2 => (if s_seen ≤ x2 then zk x1 (some x1) else (if x1 = 0 then zk x1 (some x1) else ck x2 6 ((fX4_placeOf s_rowSize q_row (q_seenOne (Int32.toNatClampNeg x2))).bind fun o4 => (ck x2 6 ((fX4_placeOf s_rowSize q_row (q_seenTwo (Int32.toNatClampNeg x2))).bind fun o7 => (ck x2 6 ((fX4_noPerson s_people (q_seenOne (Int32.toNatClampNeg x2))).bind fun o10 => ((if o10 = 0 then ck x2 6 ((fX4_noPerson s_people (q_seenTwo (Int32.toNatClampNeg x2))).bind fun o18 => ((if o18 = 0 then (fX4_isSeen_70 (fun x1 x2 => fX4_isSeen_4 s_people s_seen s_rowSize q_seenOne q_seenTwo q_row n x1 x2) x2 o4 o7 1) else (fX4_isSeen_69 (fun x1 x2 => fX4_isSeen_4 s_people s_seen s_rowSize q_seenOne q_seenTwo q_row n x1 x2) x2 o4 o7)))) else (fX4_isSeen_69 (fun x1 x2 => fX4_isSeen_4 s_people s_seen s_rowSize q_seenOne q_seenTwo q_row n x1 x2) x2 o4 o7))))))))))
def fX4_isSeen (s_people : Int32) (s_seen : Int32) (s_rowSize : Int32) (q_seenOne : Nat → Int32) (q_seenTwo : Nat → Int32) (q_row : Nat → Int32) : Option (Int32) :=
  (fX4_isSeen_4 s_people s_seen s_rowSize q_seenOne q_seenTwo q_row 8 1 0)
set_option maxHeartbeats 4000000 in
set_option maxRecDepth 100000 in
theorem ctX4_isSeen (l : Launch) (G : GG) (h0 : Nat) (ad : Nat → Nat) (s_thrown : Int32) (s_textSize : Int32) (s_place : Int32) (s_people : Int32) (s_readPeople : Int32) (s_acts : Int32) (s_seen : Int32) (s_seed : Int64) (s_rowSize : Int32) (s_feedMany : Int32) (s_feedRow : Int32) (s_restMany : Int32) (s_restFirst : Int32) (q_seenOne : Nat → Int32) (q_seenTwo : Nat → Int32) (q_row : Nat → Int32) (out : Int32) (hf : fX4_isSeen s_people s_seen s_rowSize q_seenOne q_seenTwo q_row = some out) : Met l yX4_isSeen wsX4_isSeen ({ frames := 2, cells := 0, slots := 0, locals := 46 }) (PcR G [.ref h0] [(h0, moE ad s_thrown s_textSize s_place s_people s_readPeople s_acts s_seen s_seed s_rowSize s_feedMany s_feedRow s_restMany s_restFirst), (ad 17, aI G 6 q_seenOne), (ad 18, aI G 6 q_seenTwo), (ad 20, aI G 7 q_row)]) (QiR out) 0 0 noA := by
  refine mk_Rz (cc := cX4_isSeen) (maxL := 6) (by decide) rfl (Nat.le_of_ble_eq_true rfl) ?_
  intro p e s m args below meth c Q ls S hP hK hl hret
  obtain ⟨hx, hb, hml, hown, hts⟩ := S
  have hown : s.vm.findClass RX4 = some m.cls := hown
  have kl_131 := hts (.fieldLink RX4 131 "ArrestOrderModel" "seen" "I") (by decide +kernel)
  have hi_X4 : ∀ w ∈ wsX40, w ∈ wsX4_isSeen := fun _ h => List.mem_cons_of_mem _ (List.mem_append_right _ h)
  have kl_41 := hts (.fieldLink RX4 41 "ArrestOrderModel" "seenOne" "[I") (by decide +kernel)
  have kl_44 := hts (.fieldLink RX4 44 "ArrestOrderModel" "seenTwo" "[I") (by decide +kernel)
  have hS : va_S noA s.heap s.heap [] := va_S.rf
  have hl : lv_has ls 6 [(0, .ref h0)] := hl
  have hC4 : ∀ (n : Nat) (x1 : Int32) (x2 : Int32) (H : Heap) (locs : List Loc) (ls : Array Slot), va_P (gD G) vwCl [(h0, moE ad s_thrown s_textSize s_place s_people s_readPeople s_acts s_seen s_seed s_rowSize s_feedMany s_feedRow s_restMany s_restFirst), (ad 17, aI G 6 q_seenOne), (ad 18, aI G 6 q_seenTwo), (ad 20, aI G 7 q_row)] H → va_S noA s.heap H locs → lv_has ls 6 [(0, .ref h0), (1, .int x1), (2, .int x2)] → fX4_isSeen_4 s_people s_seen s_rowSize q_seenOne q_seenTwo q_row n x1 x2 = some out → W p l e ({ frames := 2, cells := 0, slots := 0, locals := 46 }) s m args below meth c H locs 0 0 Q (F0 m 4 ls []) := by
    intro n4
    induction n4 with
    | zero => intro x1 x2 H locs ls hP hS hl hf; exact absurd (show none = some out from hf) (fun z => by cases z)
    | succ n4 ih4 =>
      have hC70 : ∀ (x2 : Int32) (x3 : Int32) (x4 : Int32) (y0 : Int32) (H : Heap) (locs : List Loc) (ls : Array Slot), va_P (gD G) vwCl [(h0, moE ad s_thrown s_textSize s_place s_people s_readPeople s_acts s_seen s_seed s_rowSize s_feedMany s_feedRow s_restMany s_restFirst), (ad 17, aI G 6 q_seenOne), (ad 18, aI G 6 q_seenTwo), (ad 20, aI G 7 q_row)] H → va_S noA s.heap H locs → lv_has ls 6 [(0, .ref h0), (2, .int x2), (3, .int x3), (4, .int x4)] → fX4_isSeen_70 (fun x1 x2 => fX4_isSeen_4 s_people s_seen s_rowSize q_seenOne q_seenTwo q_row n4 x1 x2) x2 x3 x4 y0 = some out → W p l e ({ frames := 2, cells := 0, slots := 0, locals := 46 }) s m args below meth c H locs 0 0 Q (F0 m 70 ls [.int y0]) := by
        intro x2 x3 x4 y0 H locs ls hP hS hl hf
        refine lv_istore (lv' := [(5, .int y0), (0, .ref h0), (2, .int x2), (3, .int x3), (4, .int x4)]) hx hb dX4_isSeen_70 hl (by decide) rfl (fun ls hl => ?_)
        refine lv_iload hx hb dX4_isSeen_72 (lv_at hl 0 rfl) ?_
        refine lv_if_eq (tgt := 96) hx hb dX4_isSeen_74 (by decide) (fun c13 => ?_) (fun c13 => ?_)
        · have hf := iteT hf c13
          refine lv_iconst (v := 1) hx hb dX4_isSeen_96 (by decide) ?_
          refine lv_goto (tgt := 101) hx hb dX4_isSeen_97 (by decide) ?_
          refine lv_istore_n (lv' := [(1, .int 1), (5, .int y0), (0, .ref h0), (2, .int x2), (3, .int x3), (4, .int x4)]) hx hb dX4_isSeen_101 rfl hl (by decide) rfl (fun ls hl => ?_)
          refine lv_iinc (v := (x2 + 1)) (lv' := [(2, .int (x2 + 1)), (1, .int 1), (5, .int y0), (0, .ref h0), (3, .int x3), (4, .int x4)]) hx hb dX4_isSeen_102 hl (k := 3) rfl rfl (by decide) rfl (fun ls hl => ?_)
          refine lv_goto (tgt := 4) hx hb dX4_isSeen_105 (by decide) ?_
          exact ih4 1 (x2 + 1) _ _ _ hP hS (lv_sub hl [3, 1, 0] rfl) hf
        · have hf := iteF hf c13
          refine lv_iload_n hx hb dX4_isSeen_77 rfl (lv_at hl 3 rfl) ?_
          refine lv_bipush (v := (-9)) hx hb dX4_isSeen_78 (by decide) ?_
          refine lv_icmp_eq (tgt := 100) hx hb dX4_isSeen_80 (by decide) (fun c14 => ?_) (fun c14 => ?_)
          · have hf := iteT hf c14
            refine lv_iconst (v := 0) hx hb dX4_isSeen_100 (by decide) ?_
            refine lv_istore_n (lv' := [(1, .int 0), (5, .int y0), (0, .ref h0), (2, .int x2), (3, .int x3), (4, .int x4)]) hx hb dX4_isSeen_101 rfl hl (by decide) rfl (fun ls hl => ?_)
            refine lv_iinc (v := (x2 + 1)) (lv' := [(2, .int (x2 + 1)), (1, .int 0), (5, .int y0), (0, .ref h0), (3, .int x3), (4, .int x4)]) hx hb dX4_isSeen_102 hl (k := 3) rfl rfl (by decide) rfl (fun ls hl => ?_)
            refine lv_goto (tgt := 4) hx hb dX4_isSeen_105 (by decide) ?_
            exact ih4 0 (x2 + 1) _ _ _ hP hS (lv_sub hl [3, 1, 0] rfl) hf
          · have hf := iteF hf c14
            refine lv_iload hx hb dX4_isSeen_83 (lv_at hl 4 rfl) ?_
            refine lv_bipush (v := (-9)) hx hb dX4_isSeen_85 (by decide) ?_
            refine lv_icmp_eq (tgt := 96) hx hb dX4_isSeen_87 (by decide) (fun c15 => ?_) (fun c15 => ?_)
            · have hf := iteT hf c15
              refine lv_iconst (v := 1) hx hb dX4_isSeen_96 (by decide) ?_
              refine lv_goto (tgt := 101) hx hb dX4_isSeen_97 (by decide) ?_
              refine lv_istore_n (lv' := [(1, .int 1), (5, .int y0), (0, .ref h0), (2, .int x2), (3, .int x3), (4, .int x4)]) hx hb dX4_isSeen_101 rfl hl (by decide) rfl (fun ls hl => ?_)
              refine lv_iinc (v := (x2 + 1)) (lv' := [(2, .int (x2 + 1)), (1, .int 1), (5, .int y0), (0, .ref h0), (3, .int x3), (4, .int x4)]) hx hb dX4_isSeen_102 hl (k := 3) rfl rfl (by decide) rfl (fun ls hl => ?_)
              refine lv_goto (tgt := 4) hx hb dX4_isSeen_105 (by decide) ?_
              exact ih4 1 (x2 + 1) _ _ _ hP hS (lv_sub hl [3, 1, 0] rfl) hf
            · have hf := iteF hf c15
              refine lv_iload hx hb dX4_isSeen_90 (lv_at hl 4 rfl) ?_
              refine lv_iload_n hx hb dX4_isSeen_92 rfl (lv_at hl 3 rfl) ?_
              refine lv_icmp_le (tgt := 100) hx hb dX4_isSeen_93 (by decide) (fun c16 => ?_) (fun c16 => ?_)
              · have hf := iteT hf c16
                refine lv_iconst (v := 0) hx hb dX4_isSeen_100 (by decide) ?_
                refine lv_istore_n (lv' := [(1, .int 0), (5, .int y0), (0, .ref h0), (2, .int x2), (3, .int x3), (4, .int x4)]) hx hb dX4_isSeen_101 rfl hl (by decide) rfl (fun ls hl => ?_)
                refine lv_iinc (v := (x2 + 1)) (lv' := [(2, .int (x2 + 1)), (1, .int 0), (5, .int y0), (0, .ref h0), (3, .int x3), (4, .int x4)]) hx hb dX4_isSeen_102 hl (k := 3) rfl rfl (by decide) rfl (fun ls hl => ?_)
                refine lv_goto (tgt := 4) hx hb dX4_isSeen_105 (by decide) ?_
                exact ih4 0 (x2 + 1) _ _ _ hP hS (lv_sub hl [3, 1, 0] rfl) hf
              · have hf := iteF hf c16
                refine lv_iconst (v := 1) hx hb dX4_isSeen_96 (by decide) ?_
                refine lv_goto (tgt := 101) hx hb dX4_isSeen_97 (by decide) ?_
                refine lv_istore_n (lv' := [(1, .int 1), (5, .int y0), (0, .ref h0), (2, .int x2), (3, .int x3), (4, .int x4)]) hx hb dX4_isSeen_101 rfl hl (by decide) rfl (fun ls hl => ?_)
                refine lv_iinc (v := (x2 + 1)) (lv' := [(2, .int (x2 + 1)), (1, .int 1), (5, .int y0), (0, .ref h0), (3, .int x3), (4, .int x4)]) hx hb dX4_isSeen_102 hl (k := 3) rfl rfl (by decide) rfl (fun ls hl => ?_)
                refine lv_goto (tgt := 4) hx hb dX4_isSeen_105 (by decide) ?_
                exact ih4 1 (x2 + 1) _ _ _ hP hS (lv_sub hl [3, 1, 0] rfl) hf
      have hC69 : ∀ (x2 : Int32) (x3 : Int32) (x4 : Int32) (H : Heap) (locs : List Loc) (ls : Array Slot), va_P (gD G) vwCl [(h0, moE ad s_thrown s_textSize s_place s_people s_readPeople s_acts s_seen s_seed s_rowSize s_feedMany s_feedRow s_restMany s_restFirst), (ad 17, aI G 6 q_seenOne), (ad 18, aI G 6 q_seenTwo), (ad 20, aI G 7 q_row)] H → va_S noA s.heap H locs → lv_has ls 6 [(0, .ref h0), (2, .int x2), (3, .int x3), (4, .int x4)] → fX4_isSeen_69 (fun x1 x2 => fX4_isSeen_4 s_people s_seen s_rowSize q_seenOne q_seenTwo q_row n4 x1 x2) x2 x3 x4 = some out → W p l e ({ frames := 2, cells := 0, slots := 0, locals := 46 }) s m args below meth c H locs 0 0 Q (F0 m 69 ls []) := by
        intro x2 x3 x4 H locs ls hP hS hl hf
        refine lv_iconst (v := 0) hx hb dX4_isSeen_69 (by decide) ?_
        exact hC70 x2 x3 x4 0 _ _ _ hP hS (lv_sub hl [0, 1, 2, 3] rfl) hf
      intro x1 x2 H locs ls hP hS hl hf
      refine lv_iload_n hx hb dX4_isSeen_4 rfl (lv_at hl 2 rfl) ?_
      refine lv_aload_n hx hb dX4_isSeen_5 rfl (lv_at hl 0 rfl) ?_
      refine va_get (D := gD G) (ci := 4) (v := .int s_seen) (C := RX4) (T := TX4) (N := 29) hx hb hts hi_X4 hown hK.1 hP 0 rfl rfl 16 (by decide) kl_131 (fun _ h9 => h9) rfl dX4_isSeen_6 ?_
      refine lv_icmp_ge (tgt := 108) hx hb dX4_isSeen_9 (by decide) (fun c1 => ?_) (fun c1 => ?_)
      · have hf := iteT hf c1
        refine lv_iload_n hx hb dX4_isSeen_108 rfl (lv_at hl 1 rfl) ?_
        obtain ⟨hzr, hf⟩ := zkS hf
        have hv := Option.some.inj hf
        exact hret _ _ _ _ _ hS hzr hv dX4_isSeen_109
      · have hf := iteF hf c1
        refine lv_iload_n hx hb dX4_isSeen_12 rfl (lv_at hl 1 rfl) ?_
        refine lv_if_eq (tgt := 108) hx hb dX4_isSeen_13 (by decide) (fun c2 => ?_) (fun c2 => ?_)
        · have hf := iteT hf c2
          refine lv_iload_n hx hb dX4_isSeen_108 rfl (lv_at hl 1 rfl) ?_
          obtain ⟨hzr, hf⟩ := zkS hf
          have hv := Option.some.inj hf
          exact hret _ _ _ _ _ hS hzr hv dX4_isSeen_109
        · have hf := iteF hf c2
          refine lv_aload_n hx hb dX4_isSeen_16 rfl (lv_at hl 0 rfl) ?_
          refine lv_aload_n hx hb dX4_isSeen_17 rfl (lv_at hl 0 rfl) ?_
          refine va_get (D := gD G) (ci := 4) (v := .ref (ad 17)) (C := RX4) (T := TX4) (N := 29) hx hb hts hi_X4 hown hK.1 hP 0 rfl rfl 17 (by decide) kl_41 (fun _ h9 => h9) rfl dX4_isSeen_18 ?_
          refine lv_iload_n hx hb dX4_isSeen_21 rfl (lv_at hl 2 rfl) ?_
          obtain ⟨hi3, hf⟩ := ckS hf
          refine va_iald hx hb hK.1 hP 1 0 rfl rfl hi3 dX4_isSeen_22 ?_
          obtain ⟨o4, hc5, hf⟩ := bindS hf
          refine ro_i (va_runV (C := RX4) (As := [.int (q_seenOne (Int32.toNatClampNeg x2))]) (rest := []) ⟨hx, hb, hml, hown, hts⟩ (ctX4_placeOf l G h0 ad s_thrown s_textSize s_place s_people s_readPeople s_acts s_seen s_seed s_rowSize s_feedMany s_feedRow s_restMany s_restFirst q_row (q_seenOne (Int32.toNatClampNeg x2)) o4 hc5) (cwV 1 hts gX4_isSeen_X4_placeOf rfl rfl rfl (by decide +kernel) ⟨Nat.le_of_ble_eq_true rfl, Nat.le_of_ble_eq_true rfl⟩) (preR_V (q0 := 0) (ci := 4) (hP.sub (ws' := [(h0, moE ad s_thrown s_textSize s_place s_people s_readPeople s_acts s_seen s_seed s_rowSize s_feedMany s_feedRow s_restMany s_restFirst), (ad 20, aI G 7 q_row)]) [0, 3] rfl) hK rfl rfl) rfl rfl hl.1 rfl (lv_room (Nat.le_of_ble_eq_true rfl)) dX4_isSeen_23 ⟨Nat.zero_le _, Nat.zero_le _⟩) hS hP (fun H locs hP hS => ?_)
          refine lv_istore_n (lv' := [(3, .int o4), (0, .ref h0), (1, .int x1), (2, .int x2)]) hx hb dX4_isSeen_26 rfl hl (by decide) rfl (fun ls hl => ?_)
          refine lv_aload_n hx hb dX4_isSeen_27 rfl (lv_at hl 1 rfl) ?_
          refine lv_aload_n hx hb dX4_isSeen_28 rfl (lv_at hl 1 rfl) ?_
          refine va_get (D := gD G) (ci := 4) (v := .ref (ad 18)) (C := RX4) (T := TX4) (N := 29) hx hb hts hi_X4 hown hK.1 hP 0 rfl rfl 18 (by decide) kl_44 (fun _ h9 => h9) rfl dX4_isSeen_29 ?_
          refine lv_iload_n hx hb dX4_isSeen_32 rfl (lv_at hl 3 rfl) ?_
          obtain ⟨hi6, hf⟩ := ckS hf
          refine va_iald hx hb hK.1 hP 2 0 rfl rfl hi6 dX4_isSeen_33 ?_
          obtain ⟨o7, hc8, hf⟩ := bindS hf
          refine ro_i (va_runV (C := RX4) (As := [.int (q_seenTwo (Int32.toNatClampNeg x2))]) (rest := []) ⟨hx, hb, hml, hown, hts⟩ (ctX4_placeOf l G h0 ad s_thrown s_textSize s_place s_people s_readPeople s_acts s_seen s_seed s_rowSize s_feedMany s_feedRow s_restMany s_restFirst q_row (q_seenTwo (Int32.toNatClampNeg x2)) o7 hc8) (cwV 1 hts gX4_isSeen_X4_placeOf rfl rfl rfl (by decide +kernel) ⟨Nat.le_of_ble_eq_true rfl, Nat.le_of_ble_eq_true rfl⟩) (preR_V (q0 := 0) (ci := 4) (hP.sub (ws' := [(h0, moE ad s_thrown s_textSize s_place s_people s_readPeople s_acts s_seen s_seed s_rowSize s_feedMany s_feedRow s_restMany s_restFirst), (ad 20, aI G 7 q_row)]) [0, 3] rfl) hK rfl rfl) rfl rfl hl.1 rfl (lv_room (Nat.le_of_ble_eq_true rfl)) dX4_isSeen_34 ⟨Nat.zero_le _, Nat.zero_le _⟩) hS hP (fun H locs hP hS => ?_)
          refine lv_istore (lv' := [(4, .int o7), (3, .int o4), (0, .ref h0), (1, .int x1), (2, .int x2)]) hx hb dX4_isSeen_37 hl (by decide) rfl (fun ls hl => ?_)
          refine lv_aload_n hx hb dX4_isSeen_39 rfl (lv_at hl 2 rfl) ?_
          refine lv_aload_n hx hb dX4_isSeen_40 rfl (lv_at hl 2 rfl) ?_
          refine va_get (D := gD G) (ci := 4) (v := .ref (ad 17)) (C := RX4) (T := TX4) (N := 29) hx hb hts hi_X4 hown hK.1 hP 0 rfl rfl 17 (by decide) kl_41 (fun _ h9 => h9) rfl dX4_isSeen_41 ?_
          refine lv_iload_n hx hb dX4_isSeen_44 rfl (lv_at hl 4 rfl) ?_
          obtain ⟨hi9, hf⟩ := ckS hf
          refine va_iald hx hb hK.1 hP 1 0 rfl rfl hi9 dX4_isSeen_45 ?_
          obtain ⟨o10, hc11, hf⟩ := bindS hf
          refine ro_i (va_runV (C := RX4) (As := [.int (q_seenOne (Int32.toNatClampNeg x2))]) (rest := []) ⟨hx, hb, hml, hown, hts⟩ (ctX4_noPerson l G h0 ad s_thrown s_textSize s_place s_people s_readPeople s_acts s_seen s_seed s_rowSize s_feedMany s_feedRow s_restMany s_restFirst (q_seenOne (Int32.toNatClampNeg x2)) o10 hc11) (cwV 1 hts gX4_isSeen_X4_noPerson rfl rfl rfl (by decide +kernel) ⟨Nat.le_of_ble_eq_true rfl, Nat.le_of_ble_eq_true rfl⟩) (preR_V (q0 := 0) (ci := 4) (hP.sub (ws' := [(h0, moE ad s_thrown s_textSize s_place s_people s_readPeople s_acts s_seen s_seed s_rowSize s_feedMany s_feedRow s_restMany s_restFirst)]) [0] rfl) hK rfl rfl) rfl rfl hl.1 rfl (lv_room (Nat.le_of_ble_eq_true rfl)) dX4_isSeen_46 ⟨Nat.zero_le _, Nat.zero_le _⟩) hS hP (fun H locs hP hS => ?_)
          refine lv_if_ne (tgt := 69) hx hb dX4_isSeen_49 (by decide) (fun c12 => ?_) (fun c12 => ?_)
          · have hf := iteF hf c12
            exact hC69 x2 o4 o7 _ _ _ hP hS (lv_sub hl [2, 4, 1, 0] rfl) hf
          · have hf := iteT hf c12
            refine lv_aload_n hx hb dX4_isSeen_52 rfl (lv_at hl 2 rfl) ?_
            refine lv_aload_n hx hb dX4_isSeen_53 rfl (lv_at hl 2 rfl) ?_
            refine va_get (D := gD G) (ci := 4) (v := .ref (ad 18)) (C := RX4) (T := TX4) (N := 29) hx hb hts hi_X4 hown hK.1 hP 0 rfl rfl 18 (by decide) kl_44 (fun _ h9 => h9) rfl dX4_isSeen_54 ?_
            refine lv_iload_n hx hb dX4_isSeen_57 rfl (lv_at hl 4 rfl) ?_
            obtain ⟨hi17, hf⟩ := ckS hf
            refine va_iald hx hb hK.1 hP 2 0 rfl rfl hi17 dX4_isSeen_58 ?_
            obtain ⟨o18, hc19, hf⟩ := bindS hf
            refine ro_i (va_runV (C := RX4) (As := [.int (q_seenTwo (Int32.toNatClampNeg x2))]) (rest := []) ⟨hx, hb, hml, hown, hts⟩ (ctX4_noPerson l G h0 ad s_thrown s_textSize s_place s_people s_readPeople s_acts s_seen s_seed s_rowSize s_feedMany s_feedRow s_restMany s_restFirst (q_seenTwo (Int32.toNatClampNeg x2)) o18 hc19) (cwV 1 hts gX4_isSeen_X4_noPerson rfl rfl rfl (by decide +kernel) ⟨Nat.le_of_ble_eq_true rfl, Nat.le_of_ble_eq_true rfl⟩) (preR_V (q0 := 0) (ci := 4) (hP.sub (ws' := [(h0, moE ad s_thrown s_textSize s_place s_people s_readPeople s_acts s_seen s_seed s_rowSize s_feedMany s_feedRow s_restMany s_restFirst)]) [0] rfl) hK rfl rfl) rfl rfl hl.1 rfl (lv_room (Nat.le_of_ble_eq_true rfl)) dX4_isSeen_59 ⟨Nat.zero_le _, Nat.zero_le _⟩) hS hP (fun H locs hP hS => ?_)
            refine lv_if_ne (tgt := 69) hx hb dX4_isSeen_62 (by decide) (fun c20 => ?_) (fun c20 => ?_)
            · have hf := iteF hf c20
              exact hC69 x2 o4 o7 _ _ _ hP hS (lv_sub hl [2, 4, 1, 0] rfl) hf
            · have hf := iteT hf c20
              refine lv_iconst (v := 1) hx hb dX4_isSeen_65 (by decide) ?_
              refine lv_goto (tgt := 70) hx hb dX4_isSeen_66 (by decide) ?_
              exact hC70 x2 o4 o7 1 _ _ _ hP hS (lv_sub hl [2, 4, 1, 0] rfl) hf
  refine lv_iconst (v := 1) hx hb dX4_isSeen_0 (by decide) ?_
  refine lv_istore_n (lv' := [(1, .int 1), (0, .ref h0)]) hx hb dX4_isSeen_1 rfl hl (by decide) rfl (fun ls hl => ?_)
  refine lv_iconst (v := 0) hx hb dX4_isSeen_2 (by decide) ?_
  refine lv_istore_n (lv' := [(2, .int 0), (1, .int 1), (0, .ref h0)]) hx hb dX4_isSeen_3 rfl hl (by decide) rfl (fun ls hl => ?_)
  exact hC4 8 1 0 _ _ _ hP hS (lv_sub hl [2, 1, 0] rfl) hf
def fX4_did_19 (s_people : Int32) (s_seen : Int32) (q_kind : Nat → Int32) (q_page : Nat → Int32) (q_seenOne : Nat → Int32) (q_seenTwo : Nat → Int32) (a1 : Int32) : Nat → Int32 → Int32 → Int32 → Int32 → (Nat → Int32) → (Nat → Int32) → Option (Int32 × Int32 × Int32 × (Nat → Int32) × (Nat → Int32))
  | 0, _, _, _, _, _, _ => none
  | n + 1, x2, x3, s_thrown, s_rowSize, q_trial, q_row => (if 10 ≤ x3 then some (x2, s_thrown, s_rowSize, q_trial, q_row) else (fX4_begin q_page q_trial).bind fun o5 => (ck (0 + a1) 17 ((fX4_layFall s_people s_rowSize q_kind (upd o5 (Int32.toNatClampNeg (0 + a1)) x3) q_row).bind fun o8 => ((fX4_isSeen s_people s_seen o8.1 q_seenOne q_seenTwo o8.2.2).bind fun o10 => ((if o10 = 0 then (fX4_did_19 s_people s_seen q_kind q_page q_seenOne q_seenTwo a1 n (x2 ||| 0) (x3 + 1) s_thrown o8.1 o8.2.1 o8.2.2) else (fX4_did_19 s_people s_seen q_kind q_page q_seenOne q_seenTwo a1 n (x2 ||| ((1 : Int32) <<< (x3 &&& 31))) (x3 + 1) s_thrown o8.1 o8.2.1 o8.2.2)))))))
def fX4_did (s_thrown : Int32) (s_people : Int32) (s_seen : Int32) (s_rowSize : Int32) (q_kind : Nat → Int32) (q_page : Nat → Int32) (q_trial : Nat → Int32) (q_seenOne : Nat → Int32) (q_seenTwo : Nat → Int32) (q_row : Nat → Int32) (a1 : Int32) : Option (Int32 × Int32 × Int32 × (Nat → Int32) × (Nat → Int32)) :=
  (fX4_noPerson s_people a1).bind fun o1 => ((if o1 = 0 then (fX4_did_19 s_people s_seen q_kind q_page q_seenOne q_seenTwo a1 12 0 0 0 s_rowSize q_trial q_row) else some ((-1), 0, s_rowSize, q_trial, q_row)))
set_option maxHeartbeats 4000000 in
set_option maxRecDepth 100000 in
theorem ctX4_did (l : Launch) (G : GG) (h0 : Nat) (ad : Nat → Nat) (s_thrown : Int32) (s_textSize : Int32) (s_place : Int32) (s_people : Int32) (s_readPeople : Int32) (s_acts : Int32) (s_seen : Int32) (s_seed : Int64) (s_rowSize : Int32) (s_feedMany : Int32) (s_feedRow : Int32) (s_restMany : Int32) (s_restFirst : Int32) (q_kind : Nat → Int32) (q_page : Nat → Int32) (q_trial : Nat → Int32) (q_seenOne : Nat → Int32) (q_seenTwo : Nat → Int32) (q_row : Nat → Int32) (a1 : Int32) (out : Int32 × Int32 × Int32 × (Nat → Int32) × (Nat → Int32)) (hf : fX4_did s_thrown s_people s_seen s_rowSize q_kind q_page q_trial q_seenOne q_seenTwo q_row a1 = some out) : Met l yX4_did wsX4_did ({ frames := 4, cells := 0, slots := 0, locals := 90 }) (PcW G [.ref h0, .int a1] [(h0, moE ad s_thrown s_textSize s_place s_people s_readPeople s_acts s_seen s_seed s_rowSize s_feedMany s_feedRow s_restMany s_restFirst), (ad 5, aI G 7 q_kind), (ad 10, aI G 17 q_page), (ad 11, aI G 17 q_trial), (ad 17, aI G 6 q_seenOne), (ad 18, aI G 6 q_seenTwo), (ad 20, aI G 7 q_row)]) (QiW G [(h0, moE ad s_thrown s_textSize s_place s_people s_readPeople s_acts s_seen s_seed s_rowSize s_feedMany s_feedRow s_restMany s_restFirst), (ad 5, aI G 7 q_kind), (ad 10, aI G 17 q_page), (ad 11, aI G 17 q_trial), (ad 17, aI G 6 q_seenOne), (ad 18, aI G 6 q_seenTwo), (ad 20, aI G 7 q_row)] [(h0, moE ad out.2.1 s_textSize s_place s_people s_readPeople s_acts s_seen s_seed out.2.2.1 s_feedMany s_feedRow s_restMany s_restFirst), (ad 5, aI G 7 q_kind), (ad 10, aI G 17 q_page), (ad 11, aI G 17 out.2.2.2.1), (ad 17, aI G 6 q_seenOne), (ad 18, aI G 6 q_seenTwo), (ad 20, aI G 7 out.2.2.2.2)] out.1) 0 0 (inA [(h0, moE ad s_thrown s_textSize s_place s_people s_readPeople s_acts s_seen s_seed s_rowSize s_feedMany s_feedRow s_restMany s_restFirst), (ad 5, aI G 7 q_kind), (ad 10, aI G 17 q_page), (ad 11, aI G 17 q_trial), (ad 17, aI G 6 q_seenOne), (ad 18, aI G 6 q_seenTwo), (ad 20, aI G 7 q_row)]) := by
  refine mk_Wi (cc := cX4_did) (maxL := 4) (by decide) rfl (Nat.le_of_ble_eq_true rfl) ?_
  intro p e s m args below meth c Q ls A S hP hK hD hl hret
  obtain ⟨hx, hb, hml, hown, hts⟩ := S
  have hown : s.vm.findClass RX4 = some m.cls := hown
  have kl_60 := hts (.fieldLink RX4 60 "ArrestOrderModel" "thrown" "I") (by decide +kernel)
  have hi_X4 : ∀ w ∈ wsX40, w ∈ wsX4_did := fun _ h => List.mem_cons_of_mem _ (List.mem_append_right _ h)
  have kl_28 := hts (.fieldLink RX4 28 "ArrestOrderModel" "trial" "[I") (by decide +kernel)
  have hS : va_S A s.heap s.heap [] := va_S.rf
  have hl : lv_has ls 4 [(0, .ref h0), (1, .int a1)] := hl
  have hC19 : ∀ (n : Nat) (x2 : Int32) (x3 : Int32) (s_thrown : Int32) (s_rowSize : Int32) (q_trial : Nat → Int32) (q_row : Nat → Int32) (H : Heap) (locs : List Loc) (ls : Array Slot), va_P (gD G) vwCl [(h0, moE ad s_thrown s_textSize s_place s_people s_readPeople s_acts s_seen s_seed s_rowSize s_feedMany s_feedRow s_restMany s_restFirst), (ad 5, aI G 7 q_kind), (ad 10, aI G 17 q_page), (ad 11, aI G 17 q_trial), (ad 17, aI G 6 q_seenOne), (ad 18, aI G 6 q_seenTwo), (ad 20, aI G 7 q_row)] H → va_D A [(h0, moE ad s_thrown s_textSize s_place s_people s_readPeople s_acts s_seen s_seed s_rowSize s_feedMany s_feedRow s_restMany s_restFirst), (ad 5, aI G 7 q_kind), (ad 10, aI G 17 q_page), (ad 11, aI G 17 q_trial), (ad 17, aI G 6 q_seenOne), (ad 18, aI G 6 q_seenTwo), (ad 20, aI G 7 q_row)] → va_S A s.heap H locs → lv_has ls 4 [(0, .ref h0), (1, .int a1), (2, .int x2), (3, .int x3)] → fX4_did_19 s_people s_seen q_kind q_page q_seenOne q_seenTwo a1 n x2 x3 s_thrown s_rowSize q_trial q_row = some out → W p l e ({ frames := 4, cells := 0, slots := 0, locals := 90 }) s m args below meth c H locs 0 0 Q (F0 m 19 ls []) := by
    intro n19
    induction n19 with
    | zero => intro x2 x3 s_thrown s_rowSize q_trial q_row H locs ls hP hD hS hl hf; exact absurd (show none = some out from hf) (fun z => by cases z)
    | succ n19 ih19 =>
      intro x2 x3 s_thrown s_rowSize q_trial q_row H locs ls hP hD hS hl hf
      refine lv_iload_n hx hb dX4_did_19 rfl (lv_at hl 3 rfl) ?_
      refine lv_bipush (v := 10) hx hb dX4_did_20 (by decide) ?_
      refine lv_icmp_ge (tgt := 65) hx hb dX4_did_22 (by decide) (fun c4 => ?_) (fun c4 => ?_)
      · have hf := iteT hf c4
        refine lv_iload_n hx hb dX4_did_65 rfl (lv_at hl 2 rfl) ?_
        have hv := Option.some.inj hf
        exact hret _ _ _ _ _ (by rw [← hv]; exact hP) hS (by rw [← hv]) dX4_did_66
      · have hf := iteF hf c4
        refine lv_aload_n hx hb dX4_did_25 rfl (lv_at hl 0 rfl) ?_
        obtain ⟨o5, hc6, hf⟩ := bindS hf
        refine rw_v (va_runV (C := RX4) (As := []) (rest := []) ⟨hx, hb, hml, hown, hts⟩ (ctX4_begin l G h0 ad s_thrown s_textSize s_place s_people s_readPeople s_acts s_seen s_seed s_rowSize s_feedMany s_feedRow s_restMany s_restFirst q_page q_trial o5 hc6) (cwV 0 hts gX4_did_X4_begin rfl rfl rfl (by decide +kernel) ⟨Nat.le_of_ble_eq_true rfl, Nat.le_of_ble_eq_true rfl⟩) (preW_V (q0 := 0) (ci := 4) (hP.sub (ws' := [(h0, moE ad s_thrown s_textSize s_place s_people s_readPeople s_acts s_seen s_seed s_rowSize s_feedMany s_feedRow s_restMany s_restFirst), (ad 10, aI G 17 q_page), (ad 11, aI G 17 q_trial)]) [0, 2, 3] rfl) (hD.sub (ws' := [(h0, moE ad s_thrown s_textSize s_place s_people s_readPeople s_acts s_seen s_seed s_rowSize s_feedMany s_feedRow s_restMany s_restFirst), (ad 10, aI G 17 q_page), (ad 11, aI G 17 q_trial)]) [0, 2, 3] (by decide) rfl) hK rfl rfl) rfl rfl hl.1 rfl (lv_room (Nat.le_of_ble_eq_true rfl)) dX4_did_26 ⟨Nat.zero_le _, Nat.zero_le _⟩) hS hP hD [0, 2, 3] rfl rfl rfl (fun H locs hP hD hS => ?_)
        have hP : va_P (gD G) vwCl [(h0, moE ad s_thrown s_textSize s_place s_people s_readPeople s_acts s_seen s_seed s_rowSize s_feedMany s_feedRow s_restMany s_restFirst), (ad 5, aI G 7 q_kind), (ad 10, aI G 17 q_page), (ad 11, aI G 17 o5), (ad 17, aI G 6 q_seenOne), (ad 18, aI G 6 q_seenTwo), (ad 20, aI G 7 q_row)] H := hP
        have hD : va_D A [(h0, moE ad s_thrown s_textSize s_place s_people s_readPeople s_acts s_seen s_seed s_rowSize s_feedMany s_feedRow s_restMany s_restFirst), (ad 5, aI G 7 q_kind), (ad 10, aI G 17 q_page), (ad 11, aI G 17 o5), (ad 17, aI G 6 q_seenOne), (ad 18, aI G 6 q_seenTwo), (ad 20, aI G 7 q_row)] := hD
        refine lv_aload_n hx hb dX4_did_29 rfl (lv_at hl 0 rfl) ?_
        refine va_get (D := gD G) (ci := 4) (v := .ref (ad 11)) (C := RX4) (T := TX4) (N := 29) hx hb hts hi_X4 hown hK.1 hP 0 rfl rfl 11 (by decide) kl_28 (fun _ h9 => h9) rfl dX4_did_30 ?_
        refine lv_iconst (v := 0) hx hb dX4_did_33 (by decide) ?_
        refine lv_iload_n hx hb dX4_did_34 rfl (lv_at hl 1 rfl) ?_
        refine lv_iadd hx hb dX4_did_35 ?_
        refine lv_iload_n hx hb dX4_did_36 rfl (lv_at hl 3 rfl) ?_
        obtain ⟨hi7, hf⟩ := ckS hf
        refine va_iast hx hb hK.1 hP hD hS 3 0 rfl rfl hi7 dX4_did_37 (fun H locs hP hD hS => ?_)
        have hP : va_P (gD G) vwCl [(h0, moE ad s_thrown s_textSize s_place s_people s_readPeople s_acts s_seen s_seed s_rowSize s_feedMany s_feedRow s_restMany s_restFirst), (ad 5, aI G 7 q_kind), (ad 10, aI G 17 q_page), (ad 11, aI G 17 (upd o5 (Int32.toNatClampNeg (0 + a1)) x3)), (ad 17, aI G 6 q_seenOne), (ad 18, aI G 6 q_seenTwo), (ad 20, aI G 7 q_row)] H := hP
        have hD : va_D A [(h0, moE ad s_thrown s_textSize s_place s_people s_readPeople s_acts s_seen s_seed s_rowSize s_feedMany s_feedRow s_restMany s_restFirst), (ad 5, aI G 7 q_kind), (ad 10, aI G 17 q_page), (ad 11, aI G 17 (upd o5 (Int32.toNatClampNeg (0 + a1)) x3)), (ad 17, aI G 6 q_seenOne), (ad 18, aI G 6 q_seenTwo), (ad 20, aI G 7 q_row)] := hD
        refine lv_aload_n hx hb dX4_did_38 rfl (lv_at hl 0 rfl) ?_
        obtain ⟨o8, hc9, hf⟩ := bindS hf
        refine rw_v (va_runV (C := RX4) (As := []) (rest := []) ⟨hx, hb, hml, hown, hts⟩ (ctX4_layFall l G h0 ad s_thrown s_textSize s_place s_people s_readPeople s_acts s_seen s_seed s_rowSize s_feedMany s_feedRow s_restMany s_restFirst q_kind (upd o5 (Int32.toNatClampNeg (0 + a1)) x3) q_row o8 hc9) (cwV 0 hts gX4_did_X4_layFall rfl rfl rfl (by decide +kernel) ⟨Nat.le_of_ble_eq_true rfl, Nat.le_of_ble_eq_true rfl⟩) (preW_V (q0 := 0) (ci := 4) (hP.sub (ws' := [(h0, moE ad s_thrown s_textSize s_place s_people s_readPeople s_acts s_seen s_seed s_rowSize s_feedMany s_feedRow s_restMany s_restFirst), (ad 5, aI G 7 q_kind), (ad 11, aI G 17 (upd o5 (Int32.toNatClampNeg (0 + a1)) x3)), (ad 20, aI G 7 q_row)]) [0, 1, 3, 6] rfl) (hD.sub (ws' := [(h0, moE ad s_thrown s_textSize s_place s_people s_readPeople s_acts s_seen s_seed s_rowSize s_feedMany s_feedRow s_restMany s_restFirst), (ad 5, aI G 7 q_kind), (ad 11, aI G 17 (upd o5 (Int32.toNatClampNeg (0 + a1)) x3)), (ad 20, aI G 7 q_row)]) [0, 1, 3, 6] (by decide) rfl) hK rfl rfl) rfl rfl hl.1 rfl (lv_room (Nat.le_of_ble_eq_true rfl)) dX4_did_39 ⟨Nat.zero_le _, Nat.zero_le _⟩) hS hP hD [0, 1, 3, 6] rfl rfl rfl (fun H locs hP hD hS => ?_)
        have hP : va_P (gD G) vwCl [(h0, moE ad s_thrown s_textSize s_place s_people s_readPeople s_acts s_seen s_seed o8.1 s_feedMany s_feedRow s_restMany s_restFirst), (ad 5, aI G 7 q_kind), (ad 10, aI G 17 q_page), (ad 11, aI G 17 o8.2.1), (ad 17, aI G 6 q_seenOne), (ad 18, aI G 6 q_seenTwo), (ad 20, aI G 7 o8.2.2)] H := hP
        have hD : va_D A [(h0, moE ad s_thrown s_textSize s_place s_people s_readPeople s_acts s_seen s_seed o8.1 s_feedMany s_feedRow s_restMany s_restFirst), (ad 5, aI G 7 q_kind), (ad 10, aI G 17 q_page), (ad 11, aI G 17 o8.2.1), (ad 17, aI G 6 q_seenOne), (ad 18, aI G 6 q_seenTwo), (ad 20, aI G 7 o8.2.2)] := hD
        refine lv_iload_n hx hb dX4_did_42 rfl (lv_at hl 2 rfl) ?_
        refine lv_aload_n hx hb dX4_did_43 rfl (lv_at hl 0 rfl) ?_
        obtain ⟨o10, hc11, hf⟩ := bindS hf
        refine ro_i (va_runV (C := RX4) (As := []) (rest := [.int x2]) ⟨hx, hb, hml, hown, hts⟩ (ctX4_isSeen l G h0 ad s_thrown s_textSize s_place s_people s_readPeople s_acts s_seen s_seed o8.1 s_feedMany s_feedRow s_restMany s_restFirst q_seenOne q_seenTwo o8.2.2 o10 hc11) (cwV 0 hts gX4_did_X4_isSeen rfl rfl rfl (by decide +kernel) ⟨Nat.le_of_ble_eq_true rfl, Nat.le_of_ble_eq_true rfl⟩) (preR_V (q0 := 0) (ci := 4) (hP.sub (ws' := [(h0, moE ad s_thrown s_textSize s_place s_people s_readPeople s_acts s_seen s_seed o8.1 s_feedMany s_feedRow s_restMany s_restFirst), (ad 17, aI G 6 q_seenOne), (ad 18, aI G 6 q_seenTwo), (ad 20, aI G 7 o8.2.2)]) [0, 4, 5, 6] rfl) hK rfl rfl) rfl rfl hl.1 rfl (lv_room (Nat.le_of_ble_eq_true rfl)) dX4_did_44 ⟨Nat.zero_le _, Nat.zero_le _⟩) hS hP (fun H locs hP hS => ?_)
        refine lv_if_eq (tgt := 56) hx hb dX4_did_47 (by decide) (fun c12 => ?_) (fun c12 => ?_)
        · have hf := iteT hf c12
          refine lv_iconst (v := 0) hx hb dX4_did_56 (by decide) ?_
          refine lv_ior hx hb dX4_did_57 ?_
          refine lv_istore_n (lv' := [(2, .int (x2 ||| 0)), (0, .ref h0), (1, .int a1), (3, .int x3)]) hx hb dX4_did_58 rfl hl (by decide) rfl (fun ls hl => ?_)
          refine lv_iinc (v := (x3 + 1)) (lv' := [(3, .int (x3 + 1)), (2, .int (x2 ||| 0)), (0, .ref h0), (1, .int a1)]) hx hb dX4_did_59 hl (k := 3) rfl rfl (by decide) rfl (fun ls hl => ?_)
          refine lv_goto (tgt := 19) hx hb dX4_did_62 (by decide) ?_
          exact ih19 (x2 ||| 0) (x3 + 1) s_thrown o8.1 o8.2.1 o8.2.2 _ _ _ hP hD hS (lv_sub hl [2, 3, 1, 0] rfl) hf
        · have hf := iteF hf c12
          refine lv_iconst (v := 1) hx hb dX4_did_50 (by decide) ?_
          refine lv_iload_n hx hb dX4_did_51 rfl (lv_at hl 3 rfl) ?_
          refine lv_ishl hx hb dX4_did_52 ?_
          refine lv_goto (tgt := 57) hx hb dX4_did_53 (by decide) ?_
          refine lv_ior hx hb dX4_did_57 ?_
          refine lv_istore_n (lv' := [(2, .int (x2 ||| ((1 : Int32) <<< (x3 &&& 31)))), (0, .ref h0), (1, .int a1), (3, .int x3)]) hx hb dX4_did_58 rfl hl (by decide) rfl (fun ls hl => ?_)
          refine lv_iinc (v := (x3 + 1)) (lv' := [(3, .int (x3 + 1)), (2, .int (x2 ||| ((1 : Int32) <<< (x3 &&& 31)))), (0, .ref h0), (1, .int a1)]) hx hb dX4_did_59 hl (k := 3) rfl rfl (by decide) rfl (fun ls hl => ?_)
          refine lv_goto (tgt := 19) hx hb dX4_did_62 (by decide) ?_
          exact ih19 (x2 ||| ((1 : Int32) <<< (x3 &&& 31))) (x3 + 1) s_thrown o8.1 o8.2.1 o8.2.2 _ _ _ hP hD hS (lv_sub hl [2, 3, 1, 0] rfl) hf
  refine lv_aload_n hx hb dX4_did_0 rfl (lv_at hl 0 rfl) ?_
  refine lv_iconst (v := 0) hx hb dX4_did_1 (by decide) ?_
  refine va_put (D := gD G) (ci := 4) (v := .int 0) (ty := .int) (C := RX4) (T := TX4) (N := 29) hx hb hts hi_X4 tyX4 tyX4_ok nmX4 hown hK.1 hP hD hS 0 rfl rfl 0 (by decide) kl_60 (fun _ h9 => h9) rfl (tyX4_ok 0 (by decide)) rfl rfl (Nat.le_of_ble_eq_true rfl) dX4_did_2 (fun H locs hP hD hS => ?_)
  have hP : va_P (gD G) vwCl [(h0, moE ad 0 s_textSize s_place s_people s_readPeople s_acts s_seen s_seed s_rowSize s_feedMany s_feedRow s_restMany s_restFirst), (ad 5, aI G 7 q_kind), (ad 10, aI G 17 q_page), (ad 11, aI G 17 q_trial), (ad 17, aI G 6 q_seenOne), (ad 18, aI G 6 q_seenTwo), (ad 20, aI G 7 q_row)] H := hP
  have hD : va_D A [(h0, moE ad 0 s_textSize s_place s_people s_readPeople s_acts s_seen s_seed s_rowSize s_feedMany s_feedRow s_restMany s_restFirst), (ad 5, aI G 7 q_kind), (ad 10, aI G 17 q_page), (ad 11, aI G 17 q_trial), (ad 17, aI G 6 q_seenOne), (ad 18, aI G 6 q_seenTwo), (ad 20, aI G 7 q_row)] := hD
  refine lv_aload_n hx hb dX4_did_5 rfl (lv_at hl 0 rfl) ?_
  refine lv_iload_n hx hb dX4_did_6 rfl (lv_at hl 1 rfl) ?_
  obtain ⟨o1, hc2, hf⟩ := bindS hf
  refine ro_i (va_runV (C := RX4) (As := [.int a1]) (rest := []) ⟨hx, hb, hml, hown, hts⟩ (ctX4_noPerson l G h0 ad 0 s_textSize s_place s_people s_readPeople s_acts s_seen s_seed s_rowSize s_feedMany s_feedRow s_restMany s_restFirst a1 o1 hc2) (cwV 1 hts gX4_did_X4_noPerson rfl rfl rfl (by decide +kernel) ⟨Nat.le_of_ble_eq_true rfl, Nat.le_of_ble_eq_true rfl⟩) (preR_V (q0 := 0) (ci := 4) (hP.sub (ws' := [(h0, moE ad 0 s_textSize s_place s_people s_readPeople s_acts s_seen s_seed s_rowSize s_feedMany s_feedRow s_restMany s_restFirst)]) [0] rfl) hK rfl rfl) rfl rfl hl.1 rfl (lv_room (Nat.le_of_ble_eq_true rfl)) dX4_did_7 ⟨Nat.zero_le _, Nat.zero_le _⟩) hS hP (fun H locs hP hS => ?_)
  refine lv_if_eq (tgt := 15) hx hb dX4_did_10 (by decide) (fun c3 => ?_) (fun c3 => ?_)
  · have hf := iteT hf c3
    refine lv_iconst (v := 0) hx hb dX4_did_15 (by decide) ?_
    refine lv_istore_n (lv' := [(2, .int 0), (0, .ref h0), (1, .int a1)]) hx hb dX4_did_16 rfl hl (by decide) rfl (fun ls hl => ?_)
    refine lv_iconst (v := 0) hx hb dX4_did_17 (by decide) ?_
    refine lv_istore_n (lv' := [(3, .int 0), (2, .int 0), (0, .ref h0), (1, .int a1)]) hx hb dX4_did_18 rfl hl (by decide) rfl (fun ls hl => ?_)
    exact hC19 12 0 0 0 s_rowSize q_trial q_row _ _ _ hP hD hS (lv_sub hl [2, 3, 1, 0] rfl) hf
  · have hf := iteF hf c3
    refine lv_iconst (v := (-1)) hx hb dX4_did_13 (by decide) ?_
    have hv := Option.some.inj hf
    exact hret _ _ _ _ _ (by rw [← hv]; exact hP) hS (by rw [← hv]) dX4_did_14
def fX4_cellOf (a0 : Int32) (a1 : Int32) : Option (Int32) :=
  some (2 * ((8 * a0) + a1))
set_option maxHeartbeats 4000000 in
set_option maxRecDepth 100000 in
theorem ctX4_cellOf (l : Launch) (G : GG) (a0 : Int32) (a1 : Int32) (out : Int32) (hf : fX4_cellOf a0 a1 = some out) : Met l yX4_cellOf wsX4_cellOf ({ frames := 0, cells := 0, slots := 0, locals := 0 }) (PcR G [.int a0, .int a1] []) (QiR out) 0 0 noA := by
  refine mk_Ri (cc := cX4_cellOf) (maxL := 2) (by decide) rfl (Nat.le_of_ble_eq_true rfl) ?_
  intro p e s m args below meth c Q ls S hP hK hl hret
  obtain ⟨hx, hb, hml, hown, hts⟩ := S
  have hown : s.vm.findClass RX4 = some m.cls := hown
  have hS : va_S noA s.heap s.heap [] := va_S.rf
  have hl : lv_has ls 2 [(0, .int a0), (1, .int a1)] := hl
  refine lv_iconst (v := 2) hx hb dX4_cellOf_0 (by decide) ?_
  refine lv_bipush (v := 8) hx hb dX4_cellOf_1 (by decide) ?_
  refine lv_iload_n hx hb dX4_cellOf_3 rfl (lv_at hl 0 rfl) ?_
  refine lv_imul hx hb dX4_cellOf_4 ?_
  refine lv_iload_n hx hb dX4_cellOf_5 rfl (lv_at hl 1 rfl) ?_
  refine lv_iadd hx hb dX4_cellOf_6 ?_
  refine lv_imul hx hb dX4_cellOf_7 ?_
  have hv := Option.some.inj hf
  exact hret _ _ _ _ _ hS hv dX4_cellOf_8
def fX4_layGains_157 (k13 : Int32 → Int32 → Int32 → (Nat → Int32) → (Nat → Int32) → (Nat → Int32) → Option (Int32 × (Nat → Int32) × (Nat → Int32) × (Nat → Int32))) (x3 : Int32) (x4 : Int32) (y0 : Int32) (y1 : Int32) (y2 : Int32) (s_rowSize : Int32) (q_trial : Nat → Int32) (q_row : Nat → Int32) (q_gains : Nat → Int32) : Option (Int32 × (Nat → Int32) × (Nat → Int32) × (Nat → Int32)) :=
  ck y2 128 ((k13 x3 (x4 + 1) s_rowSize q_trial q_row (upd q_gains (Int32.toNatClampNeg y2) (y1 - y0))))
def fX4_layGains_147 (k13 : Int32 → Int32 → Int32 → (Nat → Int32) → (Nat → Int32) → (Nat → Int32) → Option (Int32 × (Nat → Int32) × (Nat → Int32) × (Nat → Int32))) (x3 : Int32) (x4 : Int32) (y0 : Int32) (y1 : Int32) (s_rowSize : Int32) (q_trial : Nat → Int32) (q_row : Nat → Int32) (q_gains : Nat → Int32) : Option (Int32 × (Nat → Int32) × (Nat → Int32) × (Nat → Int32)) :=
  (if x4 ≤ 0 then (fX4_layGains_157 k13 x3 x4 0 y0 y1 s_rowSize q_trial q_row q_gains) else (fX4_layGains_157 k13 x3 x4 1 y0 y1 s_rowSize q_trial q_row q_gains))
def fX4_layGains_113 (a2 : Int32) (k13 : Int32 → Int32 → Int32 → (Nat → Int32) → (Nat → Int32) → (Nat → Int32) → Option (Int32 × (Nat → Int32) × (Nat → Int32) × (Nat → Int32))) (x3 : Int32) (x4 : Int32) (y0 : Int32) (y1 : Int32) (y2 : Int32) (s_rowSize : Int32) (q_trial : Nat → Int32) (q_row : Nat → Int32) (q_gains : Nat → Int32) : Option (Int32 × (Nat → Int32) × (Nat → Int32) × (Nat → Int32)) :=
  ck y2 128 ((fX4_cellOf x3 x4).bind fun o18 => ((fX4_placeOf s_rowSize q_row a2).bind fun o20 => ((if o20 = (-9) then (fX4_layGains_147 k13 x3 x4 9 (o18 + 1) s_rowSize q_trial q_row (upd q_gains (Int32.toNatClampNeg y2) (y1 - y0))) else (fX4_placeOf s_rowSize q_row a2).bind fun o23 => ((fX4_layGains_147 k13 x3 x4 o23 (o18 + 1) s_rowSize q_trial q_row (upd q_gains (Int32.toNatClampNeg y2) (y1 - y0))))))))
def fX4_layGains_104 (a2 : Int32) (k13 : Int32 → Int32 → Int32 → (Nat → Int32) → (Nat → Int32) → (Nat → Int32) → Option (Int32 × (Nat → Int32) × (Nat → Int32) × (Nat → Int32))) (x3 : Int32) (x4 : Int32) (y0 : Int32) (y1 : Int32) (s_rowSize : Int32) (q_trial : Nat → Int32) (q_row : Nat → Int32) (q_gains : Nat → Int32) : Option (Int32 × (Nat → Int32) × (Nat → Int32) × (Nat → Int32)) :=
  (if x3 ≤ 0 then (fX4_layGains_113 a2 k13 x3 x4 0 y0 y1 s_rowSize q_trial q_row q_gains) else (fX4_layGains_113 a2 k13 x3 x4 1 y0 y1 s_rowSize q_trial q_row q_gains))
def fX4_layGains_70 (s_people : Int32) (q_kind : Nat → Int32) (a1 : Int32) (a2 : Int32) (k13 : Int32 → Int32 → Int32 → (Nat → Int32) → (Nat → Int32) → (Nat → Int32) → Option (Int32 × (Nat → Int32) × (Nat → Int32) × (Nat → Int32))) (x3 : Int32) (x4 : Int32) (s_rowSize : Int32) (q_trial : Nat → Int32) (q_row : Nat → Int32) (q_gains : Nat → Int32) : Option (Int32 × (Nat → Int32) × (Nat → Int32) × (Nat → Int32)) :=
  (fX4_layFall s_people s_rowSize q_kind q_trial q_row).bind fun o7 => ((fX4_cellOf x3 x4).bind fun o9 => ((fX4_placeOf o7.1 o7.2.2 a1).bind fun o11 => ((if o11 = (-9) then (fX4_layGains_104 a2 k13 x3 x4 9 o9 o7.1 o7.2.1 o7.2.2 q_gains) else (fX4_placeOf o7.1 o7.2.2 a1).bind fun o14 => ((fX4_layGains_104 a2 k13 x3 x4 o14 o9 o7.1 o7.2.1 o7.2.2 q_gains))))))
def fX4_layGains_47 (s_people : Int32) (q_kind : Nat → Int32) (a1 : Int32) (a2 : Int32) (k13 : Int32 → Int32 → Int32 → (Nat → Int32) → (Nat → Int32) → (Nat → Int32) → Option (Int32 × (Nat → Int32) × (Nat → Int32) × (Nat → Int32))) (x3 : Int32) (x4 : Int32) (s_rowSize : Int32) (q_trial : Nat → Int32) (q_row : Nat → Int32) (q_gains : Nat → Int32) : Option (Int32 × (Nat → Int32) × (Nat → Int32) × (Nat → Int32)) :=
  (if x4 ≤ 0 then (fX4_layGains_70 s_people q_kind a1 a2 k13 x3 x4 s_rowSize q_trial q_row q_gains) else ck (7 + a2) 17 (ck (7 + a2) 17 ((fX4_layGains_70 s_people q_kind a1 a2 k13 x3 x4 s_rowSize (upd q_trial (Int32.toNatClampNeg (7 + a2)) ((q_trial (Int32.toNatClampNeg (7 + a2))) ||| ((1 : Int32) <<< ((x4 - 1) &&& 31)))) q_row q_gains))))
def fX4_layGains_13 (s_people : Int32) (q_kind : Nat → Int32) (q_page : Nat → Int32) (a1 : Int32) (a2 : Int32) (k2 : Int32 → Int32 → (Nat → Int32) → (Nat → Int32) → (Nat → Int32) → Option (Int32 × (Nat → Int32) × (Nat → Int32) × (Nat → Int32))) : Nat → Int32 → Int32 → Int32 → (Nat → Int32) → (Nat → Int32) → (Nat → Int32) → Option (Int32 × (Nat → Int32) × (Nat → Int32) × (Nat → Int32))
  | 0, _, _, _, _, _, _ => none
  | n + 1, x3, x4, s_rowSize, q_trial, q_row, q_gains => (if s_people < x4 then (k2 (x3 + 1) s_rowSize q_trial q_row q_gains) else (fX4_begin q_page q_trial).bind fun o3 => ((if x3 ≤ 0 then (fX4_layGains_47 s_people q_kind a1 a2 (fun x3 x4 s_rowSize q_trial q_row q_gains => fX4_layGains_13 s_people q_kind q_page a1 a2 k2 n x3 x4 s_rowSize q_trial q_row q_gains) x3 x4 s_rowSize o3 q_row q_gains) else ck (7 + a1) 17 (ck (7 + a1) 17 ((fX4_layGains_47 s_people q_kind a1 a2 (fun x3 x4 s_rowSize q_trial q_row q_gains => fX4_layGains_13 s_people q_kind q_page a1 a2 k2 n x3 x4 s_rowSize q_trial q_row q_gains) x3 x4 s_rowSize (upd o3 (Int32.toNatClampNeg (7 + a1)) ((o3 (Int32.toNatClampNeg (7 + a1))) ||| ((1 : Int32) <<< ((x3 - 1) &&& 31)))) q_row q_gains))))))
def fX4_layGains_2 (s_people : Int32) (q_kind : Nat → Int32) (q_page : Nat → Int32) (a1 : Int32) (a2 : Int32) : Nat → Int32 → Int32 → (Nat → Int32) → (Nat → Int32) → (Nat → Int32) → Option (Int32 × (Nat → Int32) × (Nat → Int32) × (Nat → Int32))
  | 0, _, _, _, _, _ => none
  | n + 1, x3, s_rowSize, q_trial, q_row, q_gains => (if s_people < x3 then some (s_rowSize, q_trial, q_row, q_gains) else (fX4_layGains_13 s_people q_kind q_page a1 a2 (fun x3 s_rowSize q_trial q_row q_gains => fX4_layGains_2 s_people q_kind q_page a1 a2 n x3 s_rowSize q_trial q_row q_gains) 10 x3 0 s_rowSize q_trial q_row q_gains))
def fX4_layGains (s_people : Int32) (s_rowSize : Int32) (q_kind : Nat → Int32) (q_page : Nat → Int32) (q_trial : Nat → Int32) (q_row : Nat → Int32) (q_gains : Nat → Int32) (a1 : Int32) (a2 : Int32) : Option (Int32 × (Nat → Int32) × (Nat → Int32) × (Nat → Int32)) :=
  (fX4_layGains_2 s_people q_kind q_page a1 a2 10 0 s_rowSize q_trial q_row q_gains)
set_option maxHeartbeats 4000000 in
set_option maxRecDepth 100000 in
theorem ctX4_layGains (l : Launch) (G : GG) (h0 : Nat) (ad : Nat → Nat) (s_thrown : Int32) (s_textSize : Int32) (s_place : Int32) (s_people : Int32) (s_readPeople : Int32) (s_acts : Int32) (s_seen : Int32) (s_seed : Int64) (s_rowSize : Int32) (s_feedMany : Int32) (s_feedRow : Int32) (s_restMany : Int32) (s_restFirst : Int32) (q_kind : Nat → Int32) (q_page : Nat → Int32) (q_trial : Nat → Int32) (q_row : Nat → Int32) (q_gains : Nat → Int32) (a1 : Int32) (a2 : Int32) (out : Int32 × (Nat → Int32) × (Nat → Int32) × (Nat → Int32)) (hf : fX4_layGains s_people s_rowSize q_kind q_page q_trial q_row q_gains a1 a2 = some out) : Met l yX4_layGains wsX4_layGains ({ frames := 4, cells := 0, slots := 0, locals := 90 }) (PcW G [.ref h0, .int a1, .int a2] [(h0, moE ad s_thrown s_textSize s_place s_people s_readPeople s_acts s_seen s_seed s_rowSize s_feedMany s_feedRow s_restMany s_restFirst), (ad 5, aI G 7 q_kind), (ad 10, aI G 17 q_page), (ad 11, aI G 17 q_trial), (ad 20, aI G 7 q_row), (ad 27, aI G 128 q_gains)]) (QvW G [(h0, moE ad s_thrown s_textSize s_place s_people s_readPeople s_acts s_seen s_seed s_rowSize s_feedMany s_feedRow s_restMany s_restFirst), (ad 5, aI G 7 q_kind), (ad 10, aI G 17 q_page), (ad 11, aI G 17 q_trial), (ad 20, aI G 7 q_row), (ad 27, aI G 128 q_gains)] [(h0, moE ad s_thrown s_textSize s_place s_people s_readPeople s_acts s_seen s_seed out.1 s_feedMany s_feedRow s_restMany s_restFirst), (ad 5, aI G 7 q_kind), (ad 10, aI G 17 q_page), (ad 11, aI G 17 out.2.1), (ad 20, aI G 7 out.2.2.1), (ad 27, aI G 128 out.2.2.2)]) 0 0 (inA [(h0, moE ad s_thrown s_textSize s_place s_people s_readPeople s_acts s_seen s_seed s_rowSize s_feedMany s_feedRow s_restMany s_restFirst), (ad 5, aI G 7 q_kind), (ad 10, aI G 17 q_page), (ad 11, aI G 17 q_trial), (ad 20, aI G 7 q_row), (ad 27, aI G 128 q_gains)]) := by
  refine mk_Wv (cc := cX4_layGains) (maxL := 5) (by decide) rfl (Nat.le_of_ble_eq_true rfl) ?_
  intro p e s m args below meth c Q ls A S hP hK hD hl hret
  obtain ⟨hx, hb, hml, hown, hts⟩ := S
  have hown : s.vm.findClass RX4 = some m.cls := hown
  have kl_64 := hts (.fieldLink RX4 64 "ArrestOrderModel" "people" "I") (by decide +kernel)
  have hi_X4 : ∀ w ∈ wsX40, w ∈ wsX4_layGains := fun _ h => List.mem_cons_of_mem _ (List.mem_append_right _ h)
  have kl_53 := hts (.fieldLink RX4 53 "ArrestOrderModel" "gains" "[I") (by decide +kernel)
  have kl_28 := hts (.fieldLink RX4 28 "ArrestOrderModel" "trial" "[I") (by decide +kernel)
  have hS : va_S A s.heap s.heap [] := va_S.rf
  have hl : lv_has ls 5 [(0, .ref h0), (1, .int a1), (2, .int a2)] := hl
  have hC2 : ∀ (n : Nat) (x3 : Int32) (s_rowSize : Int32) (q_trial : Nat → Int32) (q_row : Nat → Int32) (q_gains : Nat → Int32) (H : Heap) (locs : List Loc) (ls : Array Slot), va_P (gD G) vwCl [(h0, moE ad s_thrown s_textSize s_place s_people s_readPeople s_acts s_seen s_seed s_rowSize s_feedMany s_feedRow s_restMany s_restFirst), (ad 5, aI G 7 q_kind), (ad 10, aI G 17 q_page), (ad 11, aI G 17 q_trial), (ad 20, aI G 7 q_row), (ad 27, aI G 128 q_gains)] H → va_D A [(h0, moE ad s_thrown s_textSize s_place s_people s_readPeople s_acts s_seen s_seed s_rowSize s_feedMany s_feedRow s_restMany s_restFirst), (ad 5, aI G 7 q_kind), (ad 10, aI G 17 q_page), (ad 11, aI G 17 q_trial), (ad 20, aI G 7 q_row), (ad 27, aI G 128 q_gains)] → va_S A s.heap H locs → lv_has ls 5 [(0, .ref h0), (1, .int a1), (2, .int a2), (3, .int x3)] → fX4_layGains_2 s_people q_kind q_page a1 a2 n x3 s_rowSize q_trial q_row q_gains = some out → W p l e ({ frames := 4, cells := 0, slots := 0, locals := 90 }) s m args below meth c H locs 0 0 Q (F0 m 2 ls []) := by
    intro n2
    induction n2 with
    | zero => intro x3 s_rowSize q_trial q_row q_gains H locs ls hP hD hS hl hf; exact absurd (show none = some out from hf) (fun z => by cases z)
    | succ n2 ih2 =>
      have hC13 : ∀ (n : Nat) (x3 : Int32) (x4 : Int32) (s_rowSize : Int32) (q_trial : Nat → Int32) (q_row : Nat → Int32) (q_gains : Nat → Int32) (H : Heap) (locs : List Loc) (ls : Array Slot), va_P (gD G) vwCl [(h0, moE ad s_thrown s_textSize s_place s_people s_readPeople s_acts s_seen s_seed s_rowSize s_feedMany s_feedRow s_restMany s_restFirst), (ad 5, aI G 7 q_kind), (ad 10, aI G 17 q_page), (ad 11, aI G 17 q_trial), (ad 20, aI G 7 q_row), (ad 27, aI G 128 q_gains)] H → va_D A [(h0, moE ad s_thrown s_textSize s_place s_people s_readPeople s_acts s_seen s_seed s_rowSize s_feedMany s_feedRow s_restMany s_restFirst), (ad 5, aI G 7 q_kind), (ad 10, aI G 17 q_page), (ad 11, aI G 17 q_trial), (ad 20, aI G 7 q_row), (ad 27, aI G 128 q_gains)] → va_S A s.heap H locs → lv_has ls 5 [(0, .ref h0), (1, .int a1), (2, .int a2), (3, .int x3), (4, .int x4)] → fX4_layGains_13 s_people q_kind q_page a1 a2 (fun x3 s_rowSize q_trial q_row q_gains => fX4_layGains_2 s_people q_kind q_page a1 a2 n2 x3 s_rowSize q_trial q_row q_gains) n x3 x4 s_rowSize q_trial q_row q_gains = some out → W p l e ({ frames := 4, cells := 0, slots := 0, locals := 90 }) s m args below meth c H locs 0 0 Q (F0 m 13 ls []) := by
        intro n13
        induction n13 with
        | zero => intro x3 x4 s_rowSize q_trial q_row q_gains H locs ls hP hD hS hl hf; exact absurd (show none = some out from hf) (fun z => by cases z)
        | succ n13 ih13 =>
          have hC157 : ∀ (x3 : Int32) (x4 : Int32) (y0 : Int32) (y1 : Int32) (y2 : Int32) (s_rowSize : Int32) (q_trial : Nat → Int32) (q_row : Nat → Int32) (q_gains : Nat → Int32) (H : Heap) (locs : List Loc) (ls : Array Slot), va_P (gD G) vwCl [(h0, moE ad s_thrown s_textSize s_place s_people s_readPeople s_acts s_seen s_seed s_rowSize s_feedMany s_feedRow s_restMany s_restFirst), (ad 5, aI G 7 q_kind), (ad 10, aI G 17 q_page), (ad 11, aI G 17 q_trial), (ad 20, aI G 7 q_row), (ad 27, aI G 128 q_gains)] H → va_D A [(h0, moE ad s_thrown s_textSize s_place s_people s_readPeople s_acts s_seen s_seed s_rowSize s_feedMany s_feedRow s_restMany s_restFirst), (ad 5, aI G 7 q_kind), (ad 10, aI G 17 q_page), (ad 11, aI G 17 q_trial), (ad 20, aI G 7 q_row), (ad 27, aI G 128 q_gains)] → va_S A s.heap H locs → lv_has ls 5 [(0, .ref h0), (1, .int a1), (2, .int a2), (3, .int x3), (4, .int x4)] → fX4_layGains_157 (fun x3 x4 s_rowSize q_trial q_row q_gains => fX4_layGains_13 s_people q_kind q_page a1 a2 (fun x3 s_rowSize q_trial q_row q_gains => fX4_layGains_2 s_people q_kind q_page a1 a2 n2 x3 s_rowSize q_trial q_row q_gains) n13 x3 x4 s_rowSize q_trial q_row q_gains) x3 x4 y0 y1 y2 s_rowSize q_trial q_row q_gains = some out → W p l e ({ frames := 4, cells := 0, slots := 0, locals := 90 }) s m args below meth c H locs 0 0 Q (F0 m 157 ls [.int y0, .int y1, .int y2, .ref (ad 27)]) := by
            intro x3 x4 y0 y1 y2 s_rowSize q_trial q_row q_gains H locs ls hP hD hS hl hf
            refine lv_isub hx hb dX4_layGains_157 ?_
            obtain ⟨hi26, hf⟩ := ckS hf
            refine va_iast hx hb hK.1 hP hD hS 5 0 rfl rfl hi26 dX4_layGains_158 (fun H locs hP hD hS => ?_)
            have hP : va_P (gD G) vwCl [(h0, moE ad s_thrown s_textSize s_place s_people s_readPeople s_acts s_seen s_seed s_rowSize s_feedMany s_feedRow s_restMany s_restFirst), (ad 5, aI G 7 q_kind), (ad 10, aI G 17 q_page), (ad 11, aI G 17 q_trial), (ad 20, aI G 7 q_row), (ad 27, aI G 128 (upd q_gains (Int32.toNatClampNeg y2) (y1 - y0)))] H := hP
            have hD : va_D A [(h0, moE ad s_thrown s_textSize s_place s_people s_readPeople s_acts s_seen s_seed s_rowSize s_feedMany s_feedRow s_restMany s_restFirst), (ad 5, aI G 7 q_kind), (ad 10, aI G 17 q_page), (ad 11, aI G 17 q_trial), (ad 20, aI G 7 q_row), (ad 27, aI G 128 (upd q_gains (Int32.toNatClampNeg y2) (y1 - y0)))] := hD
            refine lv_iinc (v := (x4 + 1)) (lv' := [(4, .int (x4 + 1)), (0, .ref h0), (1, .int a1), (2, .int a2), (3, .int x3)]) hx hb dX4_layGains_159 hl (k := 4) rfl rfl (by decide) rfl (fun ls hl => ?_)
            refine lv_goto (tgt := 13) hx hb dX4_layGains_162 (by decide) ?_
            exact ih13 x3 (x4 + 1) s_rowSize q_trial q_row (upd q_gains (Int32.toNatClampNeg y2) (y1 - y0)) _ _ _ hP hD hS (lv_sub hl [1, 2, 3, 4, 0] rfl) hf
          have hC147 : ∀ (x3 : Int32) (x4 : Int32) (y0 : Int32) (y1 : Int32) (s_rowSize : Int32) (q_trial : Nat → Int32) (q_row : Nat → Int32) (q_gains : Nat → Int32) (H : Heap) (locs : List Loc) (ls : Array Slot), va_P (gD G) vwCl [(h0, moE ad s_thrown s_textSize s_place s_people s_readPeople s_acts s_seen s_seed s_rowSize s_feedMany s_feedRow s_restMany s_restFirst), (ad 5, aI G 7 q_kind), (ad 10, aI G 17 q_page), (ad 11, aI G 17 q_trial), (ad 20, aI G 7 q_row), (ad 27, aI G 128 q_gains)] H → va_D A [(h0, moE ad s_thrown s_textSize s_place s_people s_readPeople s_acts s_seen s_seed s_rowSize s_feedMany s_feedRow s_restMany s_restFirst), (ad 5, aI G 7 q_kind), (ad 10, aI G 17 q_page), (ad 11, aI G 17 q_trial), (ad 20, aI G 7 q_row), (ad 27, aI G 128 q_gains)] → va_S A s.heap H locs → lv_has ls 5 [(0, .ref h0), (1, .int a1), (2, .int a2), (3, .int x3), (4, .int x4)] → fX4_layGains_147 (fun x3 x4 s_rowSize q_trial q_row q_gains => fX4_layGains_13 s_people q_kind q_page a1 a2 (fun x3 s_rowSize q_trial q_row q_gains => fX4_layGains_2 s_people q_kind q_page a1 a2 n2 x3 s_rowSize q_trial q_row q_gains) n13 x3 x4 s_rowSize q_trial q_row q_gains) x3 x4 y0 y1 s_rowSize q_trial q_row q_gains = some out → W p l e ({ frames := 4, cells := 0, slots := 0, locals := 90 }) s m args below meth c H locs 0 0 Q (F0 m 147 ls [.int y0, .int y1, .ref (ad 27)]) := by
            intro x3 x4 y0 y1 s_rowSize q_trial q_row q_gains H locs ls hP hD hS hl hf
            refine lv_iload hx hb dX4_layGains_147 (lv_at hl 4 rfl) ?_
            refine lv_if_le (tgt := 156) hx hb dX4_layGains_149 (by decide) (fun c25 => ?_) (fun c25 => ?_)
            · have hf := iteT hf c25
              refine lv_iconst (v := 0) hx hb dX4_layGains_156 (by decide) ?_
              exact hC157 x3 x4 0 y0 y1 s_rowSize q_trial q_row q_gains _ _ _ hP hD hS (lv_sub hl [0, 1, 2, 3, 4] rfl) hf
            · have hf := iteF hf c25
              refine lv_iconst (v := 1) hx hb dX4_layGains_152 (by decide) ?_
              refine lv_goto (tgt := 157) hx hb dX4_layGains_153 (by decide) ?_
              exact hC157 x3 x4 1 y0 y1 s_rowSize q_trial q_row q_gains _ _ _ hP hD hS (lv_sub hl [0, 1, 2, 3, 4] rfl) hf
          have hC113 : ∀ (x3 : Int32) (x4 : Int32) (y0 : Int32) (y1 : Int32) (y2 : Int32) (s_rowSize : Int32) (q_trial : Nat → Int32) (q_row : Nat → Int32) (q_gains : Nat → Int32) (H : Heap) (locs : List Loc) (ls : Array Slot), va_P (gD G) vwCl [(h0, moE ad s_thrown s_textSize s_place s_people s_readPeople s_acts s_seen s_seed s_rowSize s_feedMany s_feedRow s_restMany s_restFirst), (ad 5, aI G 7 q_kind), (ad 10, aI G 17 q_page), (ad 11, aI G 17 q_trial), (ad 20, aI G 7 q_row), (ad 27, aI G 128 q_gains)] H → va_D A [(h0, moE ad s_thrown s_textSize s_place s_people s_readPeople s_acts s_seen s_seed s_rowSize s_feedMany s_feedRow s_restMany s_restFirst), (ad 5, aI G 7 q_kind), (ad 10, aI G 17 q_page), (ad 11, aI G 17 q_trial), (ad 20, aI G 7 q_row), (ad 27, aI G 128 q_gains)] → va_S A s.heap H locs → lv_has ls 5 [(0, .ref h0), (1, .int a1), (2, .int a2), (3, .int x3), (4, .int x4)] → fX4_layGains_113 a2 (fun x3 x4 s_rowSize q_trial q_row q_gains => fX4_layGains_13 s_people q_kind q_page a1 a2 (fun x3 s_rowSize q_trial q_row q_gains => fX4_layGains_2 s_people q_kind q_page a1 a2 n2 x3 s_rowSize q_trial q_row q_gains) n13 x3 x4 s_rowSize q_trial q_row q_gains) x3 x4 y0 y1 y2 s_rowSize q_trial q_row q_gains = some out → W p l e ({ frames := 4, cells := 0, slots := 0, locals := 90 }) s m args below meth c H locs 0 0 Q (F0 m 113 ls [.int y0, .int y1, .int y2, .ref (ad 27)]) := by
            intro x3 x4 y0 y1 y2 s_rowSize q_trial q_row q_gains H locs ls hP hD hS hl hf
            refine lv_isub hx hb dX4_layGains_113 ?_
            obtain ⟨hi17, hf⟩ := ckS hf
            refine va_iast hx hb hK.1 hP hD hS 5 0 rfl rfl hi17 dX4_layGains_114 (fun H locs hP hD hS => ?_)
            have hP : va_P (gD G) vwCl [(h0, moE ad s_thrown s_textSize s_place s_people s_readPeople s_acts s_seen s_seed s_rowSize s_feedMany s_feedRow s_restMany s_restFirst), (ad 5, aI G 7 q_kind), (ad 10, aI G 17 q_page), (ad 11, aI G 17 q_trial), (ad 20, aI G 7 q_row), (ad 27, aI G 128 (upd q_gains (Int32.toNatClampNeg y2) (y1 - y0)))] H := hP
            have hD : va_D A [(h0, moE ad s_thrown s_textSize s_place s_people s_readPeople s_acts s_seen s_seed s_rowSize s_feedMany s_feedRow s_restMany s_restFirst), (ad 5, aI G 7 q_kind), (ad 10, aI G 17 q_page), (ad 11, aI G 17 q_trial), (ad 20, aI G 7 q_row), (ad 27, aI G 128 (upd q_gains (Int32.toNatClampNeg y2) (y1 - y0)))] := hD
            refine lv_aload_n hx hb dX4_layGains_115 rfl (lv_at hl 0 rfl) ?_
            refine va_get (D := gD G) (ci := 4) (v := .ref (ad 27)) (C := RX4) (T := TX4) (N := 29) hx hb hts hi_X4 hown hK.1 hP 0 rfl rfl 27 (by decide) kl_53 (fun _ h9 => h9) rfl dX4_layGains_116 ?_
            refine lv_iload_n hx hb dX4_layGains_119 rfl (lv_at hl 3 rfl) ?_
            refine lv_iload hx hb dX4_layGains_120 (lv_at hl 4 rfl) ?_
            obtain ⟨o18, hc19, hf⟩ := bindS hf
            refine ro_i (va_runS (As := [.int x3, .int x4]) (rest := [.ref (ad 27)]) ⟨hx, hb, hml, hown, hts⟩ (ctX4_cellOf l G x3 x4 o18 hc19) (va_cwS 2 hts gX4_layGains_X4_cellOf rfl rfl rfl (by decide +kernel) ⟨Nat.le_of_ble_eq_true rfl, Nat.le_of_ble_eq_true rfl⟩) (preR_S (hP.sub (ws' := []) [] rfl) hK) rfl rfl hl.1 rfl (lv_room (Nat.le_of_ble_eq_true rfl)) dX4_layGains_122 ⟨Nat.zero_le _, Nat.zero_le _⟩) hS hP (fun H locs hP hS => ?_)
            refine lv_iconst (v := 1) hx hb dX4_layGains_125 (by decide) ?_
            refine lv_iadd hx hb dX4_layGains_126 ?_
            refine lv_aload_n hx hb dX4_layGains_127 rfl (lv_at hl 0 rfl) ?_
            refine lv_iload_n hx hb dX4_layGains_128 rfl (lv_at hl 2 rfl) ?_
            obtain ⟨o20, hc21, hf⟩ := bindS hf
            refine ro_i (va_runV (C := RX4) (As := [.int a2]) (rest := [.int (o18 + 1), .ref (ad 27)]) ⟨hx, hb, hml, hown, hts⟩ (ctX4_placeOf l G h0 ad s_thrown s_textSize s_place s_people s_readPeople s_acts s_seen s_seed s_rowSize s_feedMany s_feedRow s_restMany s_restFirst q_row a2 o20 hc21) (cwV 1 hts gX4_layGains_X4_placeOf rfl rfl rfl (by decide +kernel) ⟨Nat.le_of_ble_eq_true rfl, Nat.le_of_ble_eq_true rfl⟩) (preR_V (q0 := 0) (ci := 4) (hP.sub (ws' := [(h0, moE ad s_thrown s_textSize s_place s_people s_readPeople s_acts s_seen s_seed s_rowSize s_feedMany s_feedRow s_restMany s_restFirst), (ad 20, aI G 7 q_row)]) [0, 4] rfl) hK rfl rfl) rfl rfl hl.1 rfl (lv_room (Nat.le_of_ble_eq_true rfl)) dX4_layGains_129 ⟨Nat.zero_le _, Nat.zero_le _⟩) hS hP (fun H locs hP hS => ?_)
            refine lv_bipush (v := (-9)) hx hb dX4_layGains_132 (by decide) ?_
            refine lv_icmp_ne (tgt := 142) hx hb dX4_layGains_134 (by decide) (fun c22 => ?_) (fun c22 => ?_)
            · have hf := iteF hf c22
              refine lv_aload_n hx hb dX4_layGains_142 rfl (lv_at hl 0 rfl) ?_
              refine lv_iload_n hx hb dX4_layGains_143 rfl (lv_at hl 2 rfl) ?_
              obtain ⟨o23, hc24, hf⟩ := bindS hf
              refine ro_i (va_runV (C := RX4) (As := [.int a2]) (rest := [.int (o18 + 1), .ref (ad 27)]) ⟨hx, hb, hml, hown, hts⟩ (ctX4_placeOf l G h0 ad s_thrown s_textSize s_place s_people s_readPeople s_acts s_seen s_seed s_rowSize s_feedMany s_feedRow s_restMany s_restFirst q_row a2 o23 hc24) (cwV 1 hts gX4_layGains_X4_placeOf rfl rfl rfl (by decide +kernel) ⟨Nat.le_of_ble_eq_true rfl, Nat.le_of_ble_eq_true rfl⟩) (preR_V (q0 := 0) (ci := 4) (hP.sub (ws' := [(h0, moE ad s_thrown s_textSize s_place s_people s_readPeople s_acts s_seen s_seed s_rowSize s_feedMany s_feedRow s_restMany s_restFirst), (ad 20, aI G 7 q_row)]) [0, 4] rfl) hK rfl rfl) rfl rfl hl.1 rfl (lv_room (Nat.le_of_ble_eq_true rfl)) dX4_layGains_144 ⟨Nat.zero_le _, Nat.zero_le _⟩) hS hP (fun H locs hP hS => ?_)
              exact hC147 x3 x4 o23 (o18 + 1) s_rowSize q_trial q_row (upd q_gains (Int32.toNatClampNeg y2) (y1 - y0)) _ _ _ hP hD hS (lv_sub hl [0, 1, 2, 3, 4] rfl) hf
            · have hf := iteT hf c22
              refine lv_bipush (v := 9) hx hb dX4_layGains_137 (by decide) ?_
              refine lv_goto (tgt := 147) hx hb dX4_layGains_139 (by decide) ?_
              exact hC147 x3 x4 9 (o18 + 1) s_rowSize q_trial q_row (upd q_gains (Int32.toNatClampNeg y2) (y1 - y0)) _ _ _ hP hD hS (lv_sub hl [0, 1, 2, 3, 4] rfl) hf
          have hC104 : ∀ (x3 : Int32) (x4 : Int32) (y0 : Int32) (y1 : Int32) (s_rowSize : Int32) (q_trial : Nat → Int32) (q_row : Nat → Int32) (q_gains : Nat → Int32) (H : Heap) (locs : List Loc) (ls : Array Slot), va_P (gD G) vwCl [(h0, moE ad s_thrown s_textSize s_place s_people s_readPeople s_acts s_seen s_seed s_rowSize s_feedMany s_feedRow s_restMany s_restFirst), (ad 5, aI G 7 q_kind), (ad 10, aI G 17 q_page), (ad 11, aI G 17 q_trial), (ad 20, aI G 7 q_row), (ad 27, aI G 128 q_gains)] H → va_D A [(h0, moE ad s_thrown s_textSize s_place s_people s_readPeople s_acts s_seen s_seed s_rowSize s_feedMany s_feedRow s_restMany s_restFirst), (ad 5, aI G 7 q_kind), (ad 10, aI G 17 q_page), (ad 11, aI G 17 q_trial), (ad 20, aI G 7 q_row), (ad 27, aI G 128 q_gains)] → va_S A s.heap H locs → lv_has ls 5 [(0, .ref h0), (1, .int a1), (2, .int a2), (3, .int x3), (4, .int x4)] → fX4_layGains_104 a2 (fun x3 x4 s_rowSize q_trial q_row q_gains => fX4_layGains_13 s_people q_kind q_page a1 a2 (fun x3 s_rowSize q_trial q_row q_gains => fX4_layGains_2 s_people q_kind q_page a1 a2 n2 x3 s_rowSize q_trial q_row q_gains) n13 x3 x4 s_rowSize q_trial q_row q_gains) x3 x4 y0 y1 s_rowSize q_trial q_row q_gains = some out → W p l e ({ frames := 4, cells := 0, slots := 0, locals := 90 }) s m args below meth c H locs 0 0 Q (F0 m 104 ls [.int y0, .int y1, .ref (ad 27)]) := by
            intro x3 x4 y0 y1 s_rowSize q_trial q_row q_gains H locs ls hP hD hS hl hf
            refine lv_iload_n hx hb dX4_layGains_104 rfl (lv_at hl 3 rfl) ?_
            refine lv_if_le (tgt := 112) hx hb dX4_layGains_105 (by decide) (fun c16 => ?_) (fun c16 => ?_)
            · have hf := iteT hf c16
              refine lv_iconst (v := 0) hx hb dX4_layGains_112 (by decide) ?_
              exact hC113 x3 x4 0 y0 y1 s_rowSize q_trial q_row q_gains _ _ _ hP hD hS (lv_sub hl [0, 1, 2, 3, 4] rfl) hf
            · have hf := iteF hf c16
              refine lv_iconst (v := 1) hx hb dX4_layGains_108 (by decide) ?_
              refine lv_goto (tgt := 113) hx hb dX4_layGains_109 (by decide) ?_
              exact hC113 x3 x4 1 y0 y1 s_rowSize q_trial q_row q_gains _ _ _ hP hD hS (lv_sub hl [0, 1, 2, 3, 4] rfl) hf
          have hC70 : ∀ (x3 : Int32) (x4 : Int32) (s_rowSize : Int32) (q_trial : Nat → Int32) (q_row : Nat → Int32) (q_gains : Nat → Int32) (H : Heap) (locs : List Loc) (ls : Array Slot), va_P (gD G) vwCl [(h0, moE ad s_thrown s_textSize s_place s_people s_readPeople s_acts s_seen s_seed s_rowSize s_feedMany s_feedRow s_restMany s_restFirst), (ad 5, aI G 7 q_kind), (ad 10, aI G 17 q_page), (ad 11, aI G 17 q_trial), (ad 20, aI G 7 q_row), (ad 27, aI G 128 q_gains)] H → va_D A [(h0, moE ad s_thrown s_textSize s_place s_people s_readPeople s_acts s_seen s_seed s_rowSize s_feedMany s_feedRow s_restMany s_restFirst), (ad 5, aI G 7 q_kind), (ad 10, aI G 17 q_page), (ad 11, aI G 17 q_trial), (ad 20, aI G 7 q_row), (ad 27, aI G 128 q_gains)] → va_S A s.heap H locs → lv_has ls 5 [(0, .ref h0), (1, .int a1), (2, .int a2), (3, .int x3), (4, .int x4)] → fX4_layGains_70 s_people q_kind a1 a2 (fun x3 x4 s_rowSize q_trial q_row q_gains => fX4_layGains_13 s_people q_kind q_page a1 a2 (fun x3 s_rowSize q_trial q_row q_gains => fX4_layGains_2 s_people q_kind q_page a1 a2 n2 x3 s_rowSize q_trial q_row q_gains) n13 x3 x4 s_rowSize q_trial q_row q_gains) x3 x4 s_rowSize q_trial q_row q_gains = some out → W p l e ({ frames := 4, cells := 0, slots := 0, locals := 90 }) s m args below meth c H locs 0 0 Q (F0 m 70 ls []) := by
            intro x3 x4 s_rowSize q_trial q_row q_gains H locs ls hP hD hS hl hf
            refine lv_aload_n hx hb dX4_layGains_70 rfl (lv_at hl 0 rfl) ?_
            obtain ⟨o7, hc8, hf⟩ := bindS hf
            refine rw_v (va_runV (C := RX4) (As := []) (rest := []) ⟨hx, hb, hml, hown, hts⟩ (ctX4_layFall l G h0 ad s_thrown s_textSize s_place s_people s_readPeople s_acts s_seen s_seed s_rowSize s_feedMany s_feedRow s_restMany s_restFirst q_kind q_trial q_row o7 hc8) (cwV 0 hts gX4_layGains_X4_layFall rfl rfl rfl (by decide +kernel) ⟨Nat.le_of_ble_eq_true rfl, Nat.le_of_ble_eq_true rfl⟩) (preW_V (q0 := 0) (ci := 4) (hP.sub (ws' := [(h0, moE ad s_thrown s_textSize s_place s_people s_readPeople s_acts s_seen s_seed s_rowSize s_feedMany s_feedRow s_restMany s_restFirst), (ad 5, aI G 7 q_kind), (ad 11, aI G 17 q_trial), (ad 20, aI G 7 q_row)]) [0, 1, 3, 4] rfl) (hD.sub (ws' := [(h0, moE ad s_thrown s_textSize s_place s_people s_readPeople s_acts s_seen s_seed s_rowSize s_feedMany s_feedRow s_restMany s_restFirst), (ad 5, aI G 7 q_kind), (ad 11, aI G 17 q_trial), (ad 20, aI G 7 q_row)]) [0, 1, 3, 4] (by decide) rfl) hK rfl rfl) rfl rfl hl.1 rfl (lv_room (Nat.le_of_ble_eq_true rfl)) dX4_layGains_71 ⟨Nat.zero_le _, Nat.zero_le _⟩) hS hP hD [0, 1, 3, 4] rfl rfl rfl (fun H locs hP hD hS => ?_)
            have hP : va_P (gD G) vwCl [(h0, moE ad s_thrown s_textSize s_place s_people s_readPeople s_acts s_seen s_seed o7.1 s_feedMany s_feedRow s_restMany s_restFirst), (ad 5, aI G 7 q_kind), (ad 10, aI G 17 q_page), (ad 11, aI G 17 o7.2.1), (ad 20, aI G 7 o7.2.2), (ad 27, aI G 128 q_gains)] H := hP
            have hD : va_D A [(h0, moE ad s_thrown s_textSize s_place s_people s_readPeople s_acts s_seen s_seed o7.1 s_feedMany s_feedRow s_restMany s_restFirst), (ad 5, aI G 7 q_kind), (ad 10, aI G 17 q_page), (ad 11, aI G 17 o7.2.1), (ad 20, aI G 7 o7.2.2), (ad 27, aI G 128 q_gains)] := hD
            refine lv_aload_n hx hb dX4_layGains_74 rfl (lv_at hl 0 rfl) ?_
            refine va_get (D := gD G) (ci := 4) (v := .ref (ad 27)) (C := RX4) (T := TX4) (N := 29) hx hb hts hi_X4 hown hK.1 hP 0 rfl rfl 27 (by decide) kl_53 (fun _ h9 => h9) rfl dX4_layGains_75 ?_
            refine lv_iload_n hx hb dX4_layGains_78 rfl (lv_at hl 3 rfl) ?_
            refine lv_iload hx hb dX4_layGains_79 (lv_at hl 4 rfl) ?_
            obtain ⟨o9, hc10, hf⟩ := bindS hf
            refine ro_i (va_runS (As := [.int x3, .int x4]) (rest := [.ref (ad 27)]) ⟨hx, hb, hml, hown, hts⟩ (ctX4_cellOf l G x3 x4 o9 hc10) (va_cwS 2 hts gX4_layGains_X4_cellOf rfl rfl rfl (by decide +kernel) ⟨Nat.le_of_ble_eq_true rfl, Nat.le_of_ble_eq_true rfl⟩) (preR_S (hP.sub (ws' := []) [] rfl) hK) rfl rfl hl.1 rfl (lv_room (Nat.le_of_ble_eq_true rfl)) dX4_layGains_81 ⟨Nat.zero_le _, Nat.zero_le _⟩) hS hP (fun H locs hP hS => ?_)
            refine lv_aload_n hx hb dX4_layGains_84 rfl (lv_at hl 0 rfl) ?_
            refine lv_iload_n hx hb dX4_layGains_85 rfl (lv_at hl 1 rfl) ?_
            obtain ⟨o11, hc12, hf⟩ := bindS hf
            refine ro_i (va_runV (C := RX4) (As := [.int a1]) (rest := [.int o9, .ref (ad 27)]) ⟨hx, hb, hml, hown, hts⟩ (ctX4_placeOf l G h0 ad s_thrown s_textSize s_place s_people s_readPeople s_acts s_seen s_seed o7.1 s_feedMany s_feedRow s_restMany s_restFirst o7.2.2 a1 o11 hc12) (cwV 1 hts gX4_layGains_X4_placeOf rfl rfl rfl (by decide +kernel) ⟨Nat.le_of_ble_eq_true rfl, Nat.le_of_ble_eq_true rfl⟩) (preR_V (q0 := 0) (ci := 4) (hP.sub (ws' := [(h0, moE ad s_thrown s_textSize s_place s_people s_readPeople s_acts s_seen s_seed o7.1 s_feedMany s_feedRow s_restMany s_restFirst), (ad 20, aI G 7 o7.2.2)]) [0, 4] rfl) hK rfl rfl) rfl rfl hl.1 rfl (lv_room (Nat.le_of_ble_eq_true rfl)) dX4_layGains_86 ⟨Nat.zero_le _, Nat.zero_le _⟩) hS hP (fun H locs hP hS => ?_)
            refine lv_bipush (v := (-9)) hx hb dX4_layGains_89 (by decide) ?_
            refine lv_icmp_ne (tgt := 99) hx hb dX4_layGains_91 (by decide) (fun c13 => ?_) (fun c13 => ?_)
            · have hf := iteF hf c13
              refine lv_aload_n hx hb dX4_layGains_99 rfl (lv_at hl 0 rfl) ?_
              refine lv_iload_n hx hb dX4_layGains_100 rfl (lv_at hl 1 rfl) ?_
              obtain ⟨o14, hc15, hf⟩ := bindS hf
              refine ro_i (va_runV (C := RX4) (As := [.int a1]) (rest := [.int o9, .ref (ad 27)]) ⟨hx, hb, hml, hown, hts⟩ (ctX4_placeOf l G h0 ad s_thrown s_textSize s_place s_people s_readPeople s_acts s_seen s_seed o7.1 s_feedMany s_feedRow s_restMany s_restFirst o7.2.2 a1 o14 hc15) (cwV 1 hts gX4_layGains_X4_placeOf rfl rfl rfl (by decide +kernel) ⟨Nat.le_of_ble_eq_true rfl, Nat.le_of_ble_eq_true rfl⟩) (preR_V (q0 := 0) (ci := 4) (hP.sub (ws' := [(h0, moE ad s_thrown s_textSize s_place s_people s_readPeople s_acts s_seen s_seed o7.1 s_feedMany s_feedRow s_restMany s_restFirst), (ad 20, aI G 7 o7.2.2)]) [0, 4] rfl) hK rfl rfl) rfl rfl hl.1 rfl (lv_room (Nat.le_of_ble_eq_true rfl)) dX4_layGains_101 ⟨Nat.zero_le _, Nat.zero_le _⟩) hS hP (fun H locs hP hS => ?_)
              exact hC104 x3 x4 o14 o9 o7.1 o7.2.1 o7.2.2 q_gains _ _ _ hP hD hS (lv_sub hl [0, 1, 2, 3, 4] rfl) hf
            · have hf := iteT hf c13
              refine lv_bipush (v := 9) hx hb dX4_layGains_94 (by decide) ?_
              refine lv_goto (tgt := 104) hx hb dX4_layGains_96 (by decide) ?_
              exact hC104 x3 x4 9 o9 o7.1 o7.2.1 o7.2.2 q_gains _ _ _ hP hD hS (lv_sub hl [0, 1, 2, 3, 4] rfl) hf
          have hC47 : ∀ (x3 : Int32) (x4 : Int32) (s_rowSize : Int32) (q_trial : Nat → Int32) (q_row : Nat → Int32) (q_gains : Nat → Int32) (H : Heap) (locs : List Loc) (ls : Array Slot), va_P (gD G) vwCl [(h0, moE ad s_thrown s_textSize s_place s_people s_readPeople s_acts s_seen s_seed s_rowSize s_feedMany s_feedRow s_restMany s_restFirst), (ad 5, aI G 7 q_kind), (ad 10, aI G 17 q_page), (ad 11, aI G 17 q_trial), (ad 20, aI G 7 q_row), (ad 27, aI G 128 q_gains)] H → va_D A [(h0, moE ad s_thrown s_textSize s_place s_people s_readPeople s_acts s_seen s_seed s_rowSize s_feedMany s_feedRow s_restMany s_restFirst), (ad 5, aI G 7 q_kind), (ad 10, aI G 17 q_page), (ad 11, aI G 17 q_trial), (ad 20, aI G 7 q_row), (ad 27, aI G 128 q_gains)] → va_S A s.heap H locs → lv_has ls 5 [(0, .ref h0), (1, .int a1), (2, .int a2), (3, .int x3), (4, .int x4)] → fX4_layGains_47 s_people q_kind a1 a2 (fun x3 x4 s_rowSize q_trial q_row q_gains => fX4_layGains_13 s_people q_kind q_page a1 a2 (fun x3 s_rowSize q_trial q_row q_gains => fX4_layGains_2 s_people q_kind q_page a1 a2 n2 x3 s_rowSize q_trial q_row q_gains) n13 x3 x4 s_rowSize q_trial q_row q_gains) x3 x4 s_rowSize q_trial q_row q_gains = some out → W p l e ({ frames := 4, cells := 0, slots := 0, locals := 90 }) s m args below meth c H locs 0 0 Q (F0 m 47 ls []) := by
            intro x3 x4 s_rowSize q_trial q_row q_gains H locs ls hP hD hS hl hf
            refine lv_iload hx hb dX4_layGains_47 (lv_at hl 4 rfl) ?_
            refine lv_if_le (tgt := 70) hx hb dX4_layGains_49 (by decide) (fun c6 => ?_) (fun c6 => ?_)
            · have hf := iteT hf c6
              exact hC70 x3 x4 s_rowSize q_trial q_row q_gains _ _ _ hP hD hS (lv_sub hl [0, 1, 2, 3, 4] rfl) hf
            · have hf := iteF hf c6
              refine lv_aload_n hx hb dX4_layGains_52 rfl (lv_at hl 0 rfl) ?_
              refine va_get (D := gD G) (ci := 4) (v := .ref (ad 11)) (C := RX4) (T := TX4) (N := 29) hx hb hts hi_X4 hown hK.1 hP 0 rfl rfl 11 (by decide) kl_28 (fun _ h9 => h9) rfl dX4_layGains_53 ?_
              refine lv_bipush (v := 7) hx hb dX4_layGains_56 (by decide) ?_
              refine lv_iload_n hx hb dX4_layGains_58 rfl (lv_at hl 2 rfl) ?_
              refine lv_iadd hx hb dX4_layGains_59 ?_
              refine lv_dup2_11 hx hb dX4_layGains_60 rfl rfl ?_
              obtain ⟨hi27, hf⟩ := ckS hf
              refine va_iald hx hb hK.1 hP 3 0 rfl rfl hi27 dX4_layGains_61 ?_
              refine lv_iconst (v := 1) hx hb dX4_layGains_62 (by decide) ?_
              refine lv_iload hx hb dX4_layGains_63 (lv_at hl 4 rfl) ?_
              refine lv_iconst (v := 1) hx hb dX4_layGains_65 (by decide) ?_
              refine lv_isub hx hb dX4_layGains_66 ?_
              refine lv_ishl hx hb dX4_layGains_67 ?_
              refine lv_ior hx hb dX4_layGains_68 ?_
              obtain ⟨hi28, hf⟩ := ckS hf
              refine va_iast hx hb hK.1 hP hD hS 3 0 rfl rfl hi28 dX4_layGains_69 (fun H locs hP hD hS => ?_)
              have hP : va_P (gD G) vwCl [(h0, moE ad s_thrown s_textSize s_place s_people s_readPeople s_acts s_seen s_seed s_rowSize s_feedMany s_feedRow s_restMany s_restFirst), (ad 5, aI G 7 q_kind), (ad 10, aI G 17 q_page), (ad 11, aI G 17 (upd q_trial (Int32.toNatClampNeg (7 + a2)) ((q_trial (Int32.toNatClampNeg (7 + a2))) ||| ((1 : Int32) <<< ((x4 - 1) &&& 31))))), (ad 20, aI G 7 q_row), (ad 27, aI G 128 q_gains)] H := hP
              have hD : va_D A [(h0, moE ad s_thrown s_textSize s_place s_people s_readPeople s_acts s_seen s_seed s_rowSize s_feedMany s_feedRow s_restMany s_restFirst), (ad 5, aI G 7 q_kind), (ad 10, aI G 17 q_page), (ad 11, aI G 17 (upd q_trial (Int32.toNatClampNeg (7 + a2)) ((q_trial (Int32.toNatClampNeg (7 + a2))) ||| ((1 : Int32) <<< ((x4 - 1) &&& 31))))), (ad 20, aI G 7 q_row), (ad 27, aI G 128 q_gains)] := hD
              exact hC70 x3 x4 s_rowSize (upd q_trial (Int32.toNatClampNeg (7 + a2)) ((q_trial (Int32.toNatClampNeg (7 + a2))) ||| ((1 : Int32) <<< ((x4 - 1) &&& 31)))) q_row q_gains _ _ _ hP hD hS (lv_sub hl [0, 1, 2, 3, 4] rfl) hf
          intro x3 x4 s_rowSize q_trial q_row q_gains H locs ls hP hD hS hl hf
          refine lv_iload hx hb dX4_layGains_13 (lv_at hl 4 rfl) ?_
          refine lv_aload_n hx hb dX4_layGains_15 rfl (lv_at hl 0 rfl) ?_
          refine va_get (D := gD G) (ci := 4) (v := .int s_people) (C := RX4) (T := TX4) (N := 29) hx hb hts hi_X4 hown hK.1 hP 0 rfl rfl 4 (by decide) kl_64 (fun _ h9 => h9) rfl dX4_layGains_16 ?_
          refine lv_icmp_gt (tgt := 165) hx hb dX4_layGains_19 (by decide) (fun c2 => ?_) (fun c2 => ?_)
          · have hf := iteT hf c2
            refine lv_iinc (v := (x3 + 1)) (lv' := [(3, .int (x3 + 1)), (0, .ref h0), (1, .int a1), (2, .int a2), (4, .int x4)]) hx hb dX4_layGains_165 hl (k := 3) rfl rfl (by decide) rfl (fun ls hl => ?_)
            refine lv_goto (tgt := 2) hx hb dX4_layGains_168 (by decide) ?_
            exact ih2 (x3 + 1) s_rowSize q_trial q_row q_gains _ _ _ hP hD hS (lv_sub hl [1, 2, 3, 0] rfl) hf
          · have hf := iteF hf c2
            refine lv_aload_n hx hb dX4_layGains_22 rfl (lv_at hl 0 rfl) ?_
            obtain ⟨o3, hc4, hf⟩ := bindS hf
            refine rw_v (va_runV (C := RX4) (As := []) (rest := []) ⟨hx, hb, hml, hown, hts⟩ (ctX4_begin l G h0 ad s_thrown s_textSize s_place s_people s_readPeople s_acts s_seen s_seed s_rowSize s_feedMany s_feedRow s_restMany s_restFirst q_page q_trial o3 hc4) (cwV 0 hts gX4_layGains_X4_begin rfl rfl rfl (by decide +kernel) ⟨Nat.le_of_ble_eq_true rfl, Nat.le_of_ble_eq_true rfl⟩) (preW_V (q0 := 0) (ci := 4) (hP.sub (ws' := [(h0, moE ad s_thrown s_textSize s_place s_people s_readPeople s_acts s_seen s_seed s_rowSize s_feedMany s_feedRow s_restMany s_restFirst), (ad 10, aI G 17 q_page), (ad 11, aI G 17 q_trial)]) [0, 2, 3] rfl) (hD.sub (ws' := [(h0, moE ad s_thrown s_textSize s_place s_people s_readPeople s_acts s_seen s_seed s_rowSize s_feedMany s_feedRow s_restMany s_restFirst), (ad 10, aI G 17 q_page), (ad 11, aI G 17 q_trial)]) [0, 2, 3] (by decide) rfl) hK rfl rfl) rfl rfl hl.1 rfl (lv_room (Nat.le_of_ble_eq_true rfl)) dX4_layGains_23 ⟨Nat.zero_le _, Nat.zero_le _⟩) hS hP hD [0, 2, 3] rfl rfl rfl (fun H locs hP hD hS => ?_)
            have hP : va_P (gD G) vwCl [(h0, moE ad s_thrown s_textSize s_place s_people s_readPeople s_acts s_seen s_seed s_rowSize s_feedMany s_feedRow s_restMany s_restFirst), (ad 5, aI G 7 q_kind), (ad 10, aI G 17 q_page), (ad 11, aI G 17 o3), (ad 20, aI G 7 q_row), (ad 27, aI G 128 q_gains)] H := hP
            have hD : va_D A [(h0, moE ad s_thrown s_textSize s_place s_people s_readPeople s_acts s_seen s_seed s_rowSize s_feedMany s_feedRow s_restMany s_restFirst), (ad 5, aI G 7 q_kind), (ad 10, aI G 17 q_page), (ad 11, aI G 17 o3), (ad 20, aI G 7 q_row), (ad 27, aI G 128 q_gains)] := hD
            refine lv_iload_n hx hb dX4_layGains_26 rfl (lv_at hl 3 rfl) ?_
            refine lv_if_le (tgt := 47) hx hb dX4_layGains_27 (by decide) (fun c5 => ?_) (fun c5 => ?_)
            · have hf := iteT hf c5
              exact hC47 x3 x4 s_rowSize o3 q_row q_gains _ _ _ hP hD hS (lv_sub hl [0, 1, 2, 3, 4] rfl) hf
            · have hf := iteF hf c5
              refine lv_aload_n hx hb dX4_layGains_30 rfl (lv_at hl 0 rfl) ?_
              refine va_get (D := gD G) (ci := 4) (v := .ref (ad 11)) (C := RX4) (T := TX4) (N := 29) hx hb hts hi_X4 hown hK.1 hP 0 rfl rfl 11 (by decide) kl_28 (fun _ h9 => h9) rfl dX4_layGains_31 ?_
              refine lv_bipush (v := 7) hx hb dX4_layGains_34 (by decide) ?_
              refine lv_iload_n hx hb dX4_layGains_36 rfl (lv_at hl 1 rfl) ?_
              refine lv_iadd hx hb dX4_layGains_37 ?_
              refine lv_dup2_11 hx hb dX4_layGains_38 rfl rfl ?_
              obtain ⟨hi29, hf⟩ := ckS hf
              refine va_iald hx hb hK.1 hP 3 0 rfl rfl hi29 dX4_layGains_39 ?_
              refine lv_iconst (v := 1) hx hb dX4_layGains_40 (by decide) ?_
              refine lv_iload_n hx hb dX4_layGains_41 rfl (lv_at hl 3 rfl) ?_
              refine lv_iconst (v := 1) hx hb dX4_layGains_42 (by decide) ?_
              refine lv_isub hx hb dX4_layGains_43 ?_
              refine lv_ishl hx hb dX4_layGains_44 ?_
              refine lv_ior hx hb dX4_layGains_45 ?_
              obtain ⟨hi30, hf⟩ := ckS hf
              refine va_iast hx hb hK.1 hP hD hS 3 0 rfl rfl hi30 dX4_layGains_46 (fun H locs hP hD hS => ?_)
              have hP : va_P (gD G) vwCl [(h0, moE ad s_thrown s_textSize s_place s_people s_readPeople s_acts s_seen s_seed s_rowSize s_feedMany s_feedRow s_restMany s_restFirst), (ad 5, aI G 7 q_kind), (ad 10, aI G 17 q_page), (ad 11, aI G 17 (upd o3 (Int32.toNatClampNeg (7 + a1)) ((o3 (Int32.toNatClampNeg (7 + a1))) ||| ((1 : Int32) <<< ((x3 - 1) &&& 31))))), (ad 20, aI G 7 q_row), (ad 27, aI G 128 q_gains)] H := hP
              have hD : va_D A [(h0, moE ad s_thrown s_textSize s_place s_people s_readPeople s_acts s_seen s_seed s_rowSize s_feedMany s_feedRow s_restMany s_restFirst), (ad 5, aI G 7 q_kind), (ad 10, aI G 17 q_page), (ad 11, aI G 17 (upd o3 (Int32.toNatClampNeg (7 + a1)) ((o3 (Int32.toNatClampNeg (7 + a1))) ||| ((1 : Int32) <<< ((x3 - 1) &&& 31))))), (ad 20, aI G 7 q_row), (ad 27, aI G 128 q_gains)] := hD
              exact hC47 x3 x4 s_rowSize (upd o3 (Int32.toNatClampNeg (7 + a1)) ((o3 (Int32.toNatClampNeg (7 + a1))) ||| ((1 : Int32) <<< ((x3 - 1) &&& 31)))) q_row q_gains _ _ _ hP hD hS (lv_sub hl [0, 1, 2, 3, 4] rfl) hf
      intro x3 s_rowSize q_trial q_row q_gains H locs ls hP hD hS hl hf
      refine lv_iload_n hx hb dX4_layGains_2 rfl (lv_at hl 3 rfl) ?_
      refine lv_aload_n hx hb dX4_layGains_3 rfl (lv_at hl 0 rfl) ?_
      refine va_get (D := gD G) (ci := 4) (v := .int s_people) (C := RX4) (T := TX4) (N := 29) hx hb hts hi_X4 hown hK.1 hP 0 rfl rfl 4 (by decide) kl_64 (fun _ h9 => h9) rfl dX4_layGains_4 ?_
      refine lv_icmp_gt (tgt := 171) hx hb dX4_layGains_7 (by decide) (fun c1 => ?_) (fun c1 => ?_)
      · have hf := iteT hf c1
        have hv := Option.some.inj hf
        exact hret _ _ _ _ (by rw [← hv]; exact hP) hS dX4_layGains_171
      · have hf := iteF hf c1
        refine lv_iconst (v := 0) hx hb dX4_layGains_10 (by decide) ?_
        refine lv_istore (lv' := [(4, .int 0), (0, .ref h0), (1, .int a1), (2, .int a2), (3, .int x3)]) hx hb dX4_layGains_11 hl (by decide) rfl (fun ls hl => ?_)
        exact hC13 10 x3 0 s_rowSize q_trial q_row q_gains _ _ _ hP hD hS (lv_sub hl [1, 2, 3, 4, 0] rfl) hf
  refine lv_iconst (v := 0) hx hb dX4_layGains_0 (by decide) ?_
  refine lv_istore_n (lv' := [(3, .int 0), (0, .ref h0), (1, .int a1), (2, .int a2)]) hx hb dX4_layGains_1 rfl hl (by decide) rfl (fun ls hl => ?_)
  exact hC2 10 0 s_rowSize q_trial q_row q_gains _ _ _ hP hD hS (lv_sub hl [1, 2, 3, 0] rfl) hf
def fX4_doRest_78 (q_gains : Nat → Int32) (a2 : Int32) (a3 : Int32) (a4 : Int32) (k25 : Int32 → Int32 → Option (Int32)) (x6 : Int32) (y0 : Int32) : Option (Int32) :=
  (if y0 = 0 then (k25 0 (x6 + 1)) else (if x6 = (a2 + 1) then (k25 1 (x6 + 1)) else (fX4_cellOf a3 x6).bind fun o6 => (ck (o6 + 1) 128 ((fX4_cellOf a3 a4).bind fun o9 => (ck (o9 + 1) 128 ((if (q_gains (Int32.toNatClampNeg (o9 + 1))) < (q_gains (Int32.toNatClampNeg (o6 + 1))) then (k25 0 (x6 + 1)) else (k25 1 (x6 + 1)))))))))
def fX4_doRest_77 (q_gains : Nat → Int32) (a2 : Int32) (a3 : Int32) (a4 : Int32) (k25 : Int32 → Int32 → Option (Int32)) (x6 : Int32) : Option (Int32) :=
  (fX4_doRest_78 q_gains a2 a3 a4 k25 x6 0)
def fX4_doRest_73 (q_gains : Nat → Int32) (a2 : Int32) (a3 : Int32) (a4 : Int32) (k25 : Int32 → Int32 → Option (Int32)) (x6 : Int32) : Option (Int32) :=
  (fX4_doRest_78 q_gains a2 a3 a4 k25 x6 1)
def fX4_doRest_25 (s_people : Int32) (q_gains : Nat → Int32) (a1 : Int32) (a2 : Int32) (a3 : Int32) (a4 : Int32) : Nat → Int32 → Int32 → Option (Int32)
  | 0, _, _ => none
  | n + 1, x5, x6 => (if s_people < x6 then zk x5 (some x5) else (if x5 = 0 then (fX4_doRest_77 q_gains a2 a3 a4 (fun x5 x6 => fX4_doRest_25 s_people q_gains a1 a2 a3 a4 n x5 x6) x6) else (if x6 = (a1 + 1) then (fX4_doRest_73 q_gains a2 a3 a4 (fun x5 x6 => fX4_doRest_25 s_people q_gains a1 a2 a3 a4 n x5 x6) x6) else (fX4_cellOf x6 a4).bind fun o14 => (ck o14 128 ((fX4_cellOf a3 a4).bind fun o17 => (ck o17 128 ((if (q_gains (Int32.toNatClampNeg o17)) < (q_gains (Int32.toNatClampNeg o14)) then (fX4_doRest_77 q_gains a2 a3 a4 (fun x5 x6 => fX4_doRest_25 s_people q_gains a1 a2 a3 a4 n x5 x6) x6) else (fX4_doRest_73 q_gains a2 a3 a4 (fun x5 x6 => fX4_doRest_25 s_people q_gains a1 a2 a3 a4 n x5 x6) x6)))))))))
def fX4_doRest (s_people : Int32) (q_gains : Nat → Int32) (a1 : Int32) (a2 : Int32) (a3 : Int32) (a4 : Int32) : Option (Int32) :=
  (if a3 = (a1 + 1) then (fX4_doRest_25 s_people q_gains a1 a2 a3 a4 10 0 0) else (if a4 = (a2 + 1) then (fX4_doRest_25 s_people q_gains a1 a2 a3 a4 10 0 0) else (fX4_doRest_25 s_people q_gains a1 a2 a3 a4 10 1 0)))
set_option maxHeartbeats 4000000 in
set_option maxRecDepth 100000 in
theorem ctX4_doRest (l : Launch) (G : GG) (h0 : Nat) (ad : Nat → Nat) (s_thrown : Int32) (s_textSize : Int32) (s_place : Int32) (s_people : Int32) (s_readPeople : Int32) (s_acts : Int32) (s_seen : Int32) (s_seed : Int64) (s_rowSize : Int32) (s_feedMany : Int32) (s_feedRow : Int32) (s_restMany : Int32) (s_restFirst : Int32) (q_gains : Nat → Int32) (a1 : Int32) (a2 : Int32) (a3 : Int32) (a4 : Int32) (out : Int32) (hf : fX4_doRest s_people q_gains a1 a2 a3 a4 = some out) : Met l yX4_doRest wsX4_doRest ({ frames := 1, cells := 0, slots := 0, locals := 21 }) (PcR G [.ref h0, .int a1, .int a2, .int a3, .int a4] [(h0, moE ad s_thrown s_textSize s_place s_people s_readPeople s_acts s_seen s_seed s_rowSize s_feedMany s_feedRow s_restMany s_restFirst), (ad 27, aI G 128 q_gains)]) (QiR out) 0 0 noA := by
  refine mk_Rz (cc := cX4_doRest) (maxL := 7) (by decide) rfl (Nat.le_of_ble_eq_true rfl) ?_
  intro p e s m args below meth c Q ls S hP hK hl hret
  obtain ⟨hx, hb, hml, hown, hts⟩ := S
  have hown : s.vm.findClass RX4 = some m.cls := hown
  have kl_64 := hts (.fieldLink RX4 64 "ArrestOrderModel" "people" "I") (by decide +kernel)
  have hi_X4 : ∀ w ∈ wsX40, w ∈ wsX4_doRest := fun _ h => List.mem_cons_of_mem _ (List.mem_append_right _ h)
  have kl_53 := hts (.fieldLink RX4 53 "ArrestOrderModel" "gains" "[I") (by decide +kernel)
  have hS : va_S noA s.heap s.heap [] := va_S.rf
  have hl : lv_has ls 7 [(0, .ref h0), (1, .int a1), (2, .int a2), (3, .int a3), (4, .int a4)] := hl
  have hC25 : ∀ (n : Nat) (x5 : Int32) (x6 : Int32) (H : Heap) (locs : List Loc) (ls : Array Slot), va_P (gD G) vwCl [(h0, moE ad s_thrown s_textSize s_place s_people s_readPeople s_acts s_seen s_seed s_rowSize s_feedMany s_feedRow s_restMany s_restFirst), (ad 27, aI G 128 q_gains)] H → va_S noA s.heap H locs → lv_has ls 7 [(0, .ref h0), (1, .int a1), (2, .int a2), (3, .int a3), (4, .int a4), (5, .int x5), (6, .int x6)] → fX4_doRest_25 s_people q_gains a1 a2 a3 a4 n x5 x6 = some out → W p l e ({ frames := 1, cells := 0, slots := 0, locals := 21 }) s m args below meth c H locs 0 0 Q (F0 m 25 ls []) := by
    intro n25
    induction n25 with
    | zero => intro x5 x6 H locs ls hP hS hl hf; exact absurd (show none = some out from hf) (fun z => by cases z)
    | succ n25 ih25 =>
      have hC78 : ∀ (x6 : Int32) (y0 : Int32) (H : Heap) (locs : List Loc) (ls : Array Slot), va_P (gD G) vwCl [(h0, moE ad s_thrown s_textSize s_place s_people s_readPeople s_acts s_seen s_seed s_rowSize s_feedMany s_feedRow s_restMany s_restFirst), (ad 27, aI G 128 q_gains)] H → va_S noA s.heap H locs → lv_has ls 7 [(0, .ref h0), (1, .int a1), (2, .int a2), (3, .int a3), (4, .int a4), (6, .int x6)] → fX4_doRest_78 q_gains a2 a3 a4 (fun x5 x6 => fX4_doRest_25 s_people q_gains a1 a2 a3 a4 n25 x5 x6) x6 y0 = some out → W p l e ({ frames := 1, cells := 0, slots := 0, locals := 21 }) s m args below meth c H locs 0 0 Q (F0 m 78 ls [.int y0]) := by
        intro x6 y0 H locs ls hP hS hl hf
        refine lv_istore (lv' := [(5, .int y0), (0, .ref h0), (1, .int a1), (2, .int a2), (3, .int a3), (4, .int a4), (6, .int x6)]) hx hb dX4_doRest_78 hl (by decide) rfl (fun ls hl => ?_)
        refine lv_iload hx hb dX4_doRest_80 (lv_at hl 0 rfl) ?_
        refine lv_if_eq (tgt := 126) hx hb dX4_doRest_82 (by decide) (fun c4 => ?_) (fun c4 => ?_)
        · have hf := iteT hf c4
          refine lv_iconst (v := 0) hx hb dX4_doRest_126 (by decide) ?_
          refine lv_istore (lv' := [(5, .int 0), (0, .ref h0), (1, .int a1), (2, .int a2), (3, .int a3), (4, .int a4), (6, .int x6)]) hx hb dX4_doRest_127 hl (by decide) rfl (fun ls hl => ?_)
          refine lv_iinc (v := (x6 + 1)) (lv' := [(6, .int (x6 + 1)), (5, .int 0), (0, .ref h0), (1, .int a1), (2, .int a2), (3, .int a3), (4, .int a4)]) hx hb dX4_doRest_129 hl (k := 6) rfl rfl (by decide) rfl (fun ls hl => ?_)
          refine lv_goto (tgt := 25) hx hb dX4_doRest_132 (by decide) ?_
          exact ih25 0 (x6 + 1) _ _ _ hP hS (lv_sub hl [2, 3, 4, 5, 6, 1, 0] rfl) hf
        · have hf := iteF hf c4
          refine lv_iload hx hb dX4_doRest_85 (lv_at hl 6 rfl) ?_
          refine lv_iload_n hx hb dX4_doRest_87 rfl (lv_at hl 3 rfl) ?_
          refine lv_iconst (v := 1) hx hb dX4_doRest_88 (by decide) ?_
          refine lv_iadd hx hb dX4_doRest_89 ?_
          refine lv_icmp_eq (tgt := 122) hx hb dX4_doRest_90 (by decide) (fun c5 => ?_) (fun c5 => ?_)
          · have hf := iteT hf c5
            refine lv_iconst (v := 1) hx hb dX4_doRest_122 (by decide) ?_
            refine lv_goto (tgt := 127) hx hb dX4_doRest_123 (by decide) ?_
            refine lv_istore (lv' := [(5, .int 1), (0, .ref h0), (1, .int a1), (2, .int a2), (3, .int a3), (4, .int a4), (6, .int x6)]) hx hb dX4_doRest_127 hl (by decide) rfl (fun ls hl => ?_)
            refine lv_iinc (v := (x6 + 1)) (lv' := [(6, .int (x6 + 1)), (5, .int 1), (0, .ref h0), (1, .int a1), (2, .int a2), (3, .int a3), (4, .int a4)]) hx hb dX4_doRest_129 hl (k := 6) rfl rfl (by decide) rfl (fun ls hl => ?_)
            refine lv_goto (tgt := 25) hx hb dX4_doRest_132 (by decide) ?_
            exact ih25 1 (x6 + 1) _ _ _ hP hS (lv_sub hl [2, 3, 4, 5, 6, 1, 0] rfl) hf
          · have hf := iteF hf c5
            refine lv_aload_n hx hb dX4_doRest_93 rfl (lv_at hl 1 rfl) ?_
            refine va_get (D := gD G) (ci := 4) (v := .ref (ad 27)) (C := RX4) (T := TX4) (N := 29) hx hb hts hi_X4 hown hK.1 hP 0 rfl rfl 27 (by decide) kl_53 (fun _ h9 => h9) rfl dX4_doRest_94 ?_
            refine lv_iload_n hx hb dX4_doRest_97 rfl (lv_at hl 4 rfl) ?_
            refine lv_iload hx hb dX4_doRest_98 (lv_at hl 6 rfl) ?_
            obtain ⟨o6, hc7, hf⟩ := bindS hf
            refine ro_i (va_runS (As := [.int a3, .int x6]) (rest := [.ref (ad 27)]) ⟨hx, hb, hml, hown, hts⟩ (ctX4_cellOf l G a3 x6 o6 hc7) (va_cwS 2 hts gX4_doRest_X4_cellOf rfl rfl rfl (by decide +kernel) ⟨Nat.le_of_ble_eq_true rfl, Nat.le_of_ble_eq_true rfl⟩) (preR_S (hP.sub (ws' := []) [] rfl) hK) rfl rfl hl.1 rfl (lv_room (Nat.le_of_ble_eq_true rfl)) dX4_doRest_100 ⟨Nat.zero_le _, Nat.zero_le _⟩) hS hP (fun H locs hP hS => ?_)
            refine lv_iconst (v := 1) hx hb dX4_doRest_103 (by decide) ?_
            refine lv_iadd hx hb dX4_doRest_104 ?_
            obtain ⟨hi8, hf⟩ := ckS hf
            refine va_iald hx hb hK.1 hP 1 0 rfl rfl hi8 dX4_doRest_105 ?_
            refine lv_aload_n hx hb dX4_doRest_106 rfl (lv_at hl 1 rfl) ?_
            refine va_get (D := gD G) (ci := 4) (v := .ref (ad 27)) (C := RX4) (T := TX4) (N := 29) hx hb hts hi_X4 hown hK.1 hP 0 rfl rfl 27 (by decide) kl_53 (fun _ h9 => h9) rfl dX4_doRest_107 ?_
            refine lv_iload_n hx hb dX4_doRest_110 rfl (lv_at hl 4 rfl) ?_
            refine lv_iload hx hb dX4_doRest_111 (lv_at hl 5 rfl) ?_
            obtain ⟨o9, hc10, hf⟩ := bindS hf
            refine ro_i (va_runS (As := [.int a3, .int a4]) (rest := [.ref (ad 27), .int (q_gains (Int32.toNatClampNeg (o6 + 1)))]) ⟨hx, hb, hml, hown, hts⟩ (ctX4_cellOf l G a3 a4 o9 hc10) (va_cwS 2 hts gX4_doRest_X4_cellOf rfl rfl rfl (by decide +kernel) ⟨Nat.le_of_ble_eq_true rfl, Nat.le_of_ble_eq_true rfl⟩) (preR_S (hP.sub (ws' := []) [] rfl) hK) rfl rfl hl.1 rfl (lv_room (Nat.le_of_ble_eq_true rfl)) dX4_doRest_113 ⟨Nat.zero_le _, Nat.zero_le _⟩) hS hP (fun H locs hP hS => ?_)
            refine lv_iconst (v := 1) hx hb dX4_doRest_116 (by decide) ?_
            refine lv_iadd hx hb dX4_doRest_117 ?_
            obtain ⟨hi11, hf⟩ := ckS hf
            refine va_iald hx hb hK.1 hP 1 0 rfl rfl hi11 dX4_doRest_118 ?_
            refine lv_icmp_gt (tgt := 126) hx hb dX4_doRest_119 (by decide) (fun c12 => ?_) (fun c12 => ?_)
            · have hf := iteT hf c12
              refine lv_iconst (v := 0) hx hb dX4_doRest_126 (by decide) ?_
              refine lv_istore (lv' := [(5, .int 0), (0, .ref h0), (1, .int a1), (2, .int a2), (3, .int a3), (4, .int a4), (6, .int x6)]) hx hb dX4_doRest_127 hl (by decide) rfl (fun ls hl => ?_)
              refine lv_iinc (v := (x6 + 1)) (lv' := [(6, .int (x6 + 1)), (5, .int 0), (0, .ref h0), (1, .int a1), (2, .int a2), (3, .int a3), (4, .int a4)]) hx hb dX4_doRest_129 hl (k := 6) rfl rfl (by decide) rfl (fun ls hl => ?_)
              refine lv_goto (tgt := 25) hx hb dX4_doRest_132 (by decide) ?_
              exact ih25 0 (x6 + 1) _ _ _ hP hS (lv_sub hl [2, 3, 4, 5, 6, 1, 0] rfl) hf
            · have hf := iteF hf c12
              refine lv_iconst (v := 1) hx hb dX4_doRest_122 (by decide) ?_
              refine lv_goto (tgt := 127) hx hb dX4_doRest_123 (by decide) ?_
              refine lv_istore (lv' := [(5, .int 1), (0, .ref h0), (1, .int a1), (2, .int a2), (3, .int a3), (4, .int a4), (6, .int x6)]) hx hb dX4_doRest_127 hl (by decide) rfl (fun ls hl => ?_)
              refine lv_iinc (v := (x6 + 1)) (lv' := [(6, .int (x6 + 1)), (5, .int 1), (0, .ref h0), (1, .int a1), (2, .int a2), (3, .int a3), (4, .int a4)]) hx hb dX4_doRest_129 hl (k := 6) rfl rfl (by decide) rfl (fun ls hl => ?_)
              refine lv_goto (tgt := 25) hx hb dX4_doRest_132 (by decide) ?_
              exact ih25 1 (x6 + 1) _ _ _ hP hS (lv_sub hl [2, 3, 4, 5, 6, 1, 0] rfl) hf
      have hC77 : ∀ (x6 : Int32) (H : Heap) (locs : List Loc) (ls : Array Slot), va_P (gD G) vwCl [(h0, moE ad s_thrown s_textSize s_place s_people s_readPeople s_acts s_seen s_seed s_rowSize s_feedMany s_feedRow s_restMany s_restFirst), (ad 27, aI G 128 q_gains)] H → va_S noA s.heap H locs → lv_has ls 7 [(0, .ref h0), (1, .int a1), (2, .int a2), (3, .int a3), (4, .int a4), (6, .int x6)] → fX4_doRest_77 q_gains a2 a3 a4 (fun x5 x6 => fX4_doRest_25 s_people q_gains a1 a2 a3 a4 n25 x5 x6) x6 = some out → W p l e ({ frames := 1, cells := 0, slots := 0, locals := 21 }) s m args below meth c H locs 0 0 Q (F0 m 77 ls []) := by
        intro x6 H locs ls hP hS hl hf
        refine lv_iconst (v := 0) hx hb dX4_doRest_77 (by decide) ?_
        exact hC78 x6 0 _ _ _ hP hS (lv_sub hl [0, 1, 2, 3, 4, 5] rfl) hf
      have hC73 : ∀ (x6 : Int32) (H : Heap) (locs : List Loc) (ls : Array Slot), va_P (gD G) vwCl [(h0, moE ad s_thrown s_textSize s_place s_people s_readPeople s_acts s_seen s_seed s_rowSize s_feedMany s_feedRow s_restMany s_restFirst), (ad 27, aI G 128 q_gains)] H → va_S noA s.heap H locs → lv_has ls 7 [(0, .ref h0), (1, .int a1), (2, .int a2), (3, .int a3), (4, .int a4), (6, .int x6)] → fX4_doRest_73 q_gains a2 a3 a4 (fun x5 x6 => fX4_doRest_25 s_people q_gains a1 a2 a3 a4 n25 x5 x6) x6 = some out → W p l e ({ frames := 1, cells := 0, slots := 0, locals := 21 }) s m args below meth c H locs 0 0 Q (F0 m 73 ls []) := by
        intro x6 H locs ls hP hS hl hf
        refine lv_iconst (v := 1) hx hb dX4_doRest_73 (by decide) ?_
        refine lv_goto (tgt := 78) hx hb dX4_doRest_74 (by decide) ?_
        exact hC78 x6 1 _ _ _ hP hS (lv_sub hl [0, 1, 2, 3, 4, 5] rfl) hf
      intro x5 x6 H locs ls hP hS hl hf
      refine lv_iload hx hb dX4_doRest_25 (lv_at hl 6 rfl) ?_
      refine lv_aload_n hx hb dX4_doRest_27 rfl (lv_at hl 0 rfl) ?_
      refine va_get (D := gD G) (ci := 4) (v := .int s_people) (C := RX4) (T := TX4) (N := 29) hx hb hts hi_X4 hown hK.1 hP 0 rfl rfl 4 (by decide) kl_64 (fun _ h9 => h9) rfl dX4_doRest_28 ?_
      refine lv_icmp_gt (tgt := 135) hx hb dX4_doRest_31 (by decide) (fun c2 => ?_) (fun c2 => ?_)
      · have hf := iteT hf c2
        refine lv_iload hx hb dX4_doRest_135 (lv_at hl 5 rfl) ?_
        obtain ⟨hzr, hf⟩ := zkS hf
        have hv := Option.some.inj hf
        exact hret _ _ _ _ _ hS hzr hv dX4_doRest_137
      · have hf := iteF hf c2
        refine lv_iload hx hb dX4_doRest_34 (lv_at hl 5 rfl) ?_
        refine lv_if_eq (tgt := 77) hx hb dX4_doRest_36 (by decide) (fun c3 => ?_) (fun c3 => ?_)
        · have hf := iteT hf c3
          exact hC77 x6 _ _ _ hP hS (lv_sub hl [0, 1, 2, 3, 4, 6] rfl) hf
        · have hf := iteF hf c3
          refine lv_iload hx hb dX4_doRest_39 (lv_at hl 6 rfl) ?_
          refine lv_iload_n hx hb dX4_doRest_41 rfl (lv_at hl 1 rfl) ?_
          refine lv_iconst (v := 1) hx hb dX4_doRest_42 (by decide) ?_
          refine lv_iadd hx hb dX4_doRest_43 ?_
          refine lv_icmp_eq (tgt := 73) hx hb dX4_doRest_44 (by decide) (fun c13 => ?_) (fun c13 => ?_)
          · have hf := iteT hf c13
            exact hC73 x6 _ _ _ hP hS (lv_sub hl [0, 1, 2, 3, 4, 6] rfl) hf
          · have hf := iteF hf c13
            refine lv_aload_n hx hb dX4_doRest_47 rfl (lv_at hl 0 rfl) ?_
            refine va_get (D := gD G) (ci := 4) (v := .ref (ad 27)) (C := RX4) (T := TX4) (N := 29) hx hb hts hi_X4 hown hK.1 hP 0 rfl rfl 27 (by decide) kl_53 (fun _ h9 => h9) rfl dX4_doRest_48 ?_
            refine lv_iload hx hb dX4_doRest_51 (lv_at hl 6 rfl) ?_
            refine lv_iload hx hb dX4_doRest_53 (lv_at hl 4 rfl) ?_
            obtain ⟨o14, hc15, hf⟩ := bindS hf
            refine ro_i (va_runS (As := [.int x6, .int a4]) (rest := [.ref (ad 27)]) ⟨hx, hb, hml, hown, hts⟩ (ctX4_cellOf l G x6 a4 o14 hc15) (va_cwS 2 hts gX4_doRest_X4_cellOf rfl rfl rfl (by decide +kernel) ⟨Nat.le_of_ble_eq_true rfl, Nat.le_of_ble_eq_true rfl⟩) (preR_S (hP.sub (ws' := []) [] rfl) hK) rfl rfl hl.1 rfl (lv_room (Nat.le_of_ble_eq_true rfl)) dX4_doRest_55 ⟨Nat.zero_le _, Nat.zero_le _⟩) hS hP (fun H locs hP hS => ?_)
            obtain ⟨hi16, hf⟩ := ckS hf
            refine va_iald hx hb hK.1 hP 1 0 rfl rfl hi16 dX4_doRest_58 ?_
            refine lv_aload_n hx hb dX4_doRest_59 rfl (lv_at hl 0 rfl) ?_
            refine va_get (D := gD G) (ci := 4) (v := .ref (ad 27)) (C := RX4) (T := TX4) (N := 29) hx hb hts hi_X4 hown hK.1 hP 0 rfl rfl 27 (by decide) kl_53 (fun _ h9 => h9) rfl dX4_doRest_60 ?_
            refine lv_iload_n hx hb dX4_doRest_63 rfl (lv_at hl 3 rfl) ?_
            refine lv_iload hx hb dX4_doRest_64 (lv_at hl 4 rfl) ?_
            obtain ⟨o17, hc18, hf⟩ := bindS hf
            refine ro_i (va_runS (As := [.int a3, .int a4]) (rest := [.ref (ad 27), .int (q_gains (Int32.toNatClampNeg o14))]) ⟨hx, hb, hml, hown, hts⟩ (ctX4_cellOf l G a3 a4 o17 hc18) (va_cwS 2 hts gX4_doRest_X4_cellOf rfl rfl rfl (by decide +kernel) ⟨Nat.le_of_ble_eq_true rfl, Nat.le_of_ble_eq_true rfl⟩) (preR_S (hP.sub (ws' := []) [] rfl) hK) rfl rfl hl.1 rfl (lv_room (Nat.le_of_ble_eq_true rfl)) dX4_doRest_66 ⟨Nat.zero_le _, Nat.zero_le _⟩) hS hP (fun H locs hP hS => ?_)
            obtain ⟨hi19, hf⟩ := ckS hf
            refine va_iald hx hb hK.1 hP 1 0 rfl rfl hi19 dX4_doRest_69 ?_
            refine lv_icmp_gt (tgt := 77) hx hb dX4_doRest_70 (by decide) (fun c20 => ?_) (fun c20 => ?_)
            · have hf := iteT hf c20
              exact hC77 x6 _ _ _ hP hS (lv_sub hl [0, 1, 2, 3, 4, 6] rfl) hf
            · have hf := iteF hf c20
              exact hC73 x6 _ _ _ hP hS (lv_sub hl [0, 1, 2, 3, 4, 6] rfl) hf
  refine lv_iload_n hx hb dX4_doRest_0 rfl (lv_at hl 3 rfl) ?_
  refine lv_iload_n hx hb dX4_doRest_1 rfl (lv_at hl 1 rfl) ?_
  refine lv_iconst (v := 1) hx hb dX4_doRest_2 (by decide) ?_
  refine lv_iadd hx hb dX4_doRest_3 ?_
  refine lv_icmp_eq (tgt := 19) hx hb dX4_doRest_4 (by decide) (fun c1 => ?_) (fun c1 => ?_)
  · have hf := iteT hf c1
    refine lv_iconst (v := 0) hx hb dX4_doRest_19 (by decide) ?_
    refine lv_istore (lv' := [(5, .int 0), (0, .ref h0), (1, .int a1), (2, .int a2), (3, .int a3), (4, .int a4)]) hx hb dX4_doRest_20 hl (by decide) rfl (fun ls hl => ?_)
    refine lv_iconst (v := 0) hx hb dX4_doRest_22 (by decide) ?_
    refine lv_istore (lv' := [(6, .int 0), (5, .int 0), (0, .ref h0), (1, .int a1), (2, .int a2), (3, .int a3), (4, .int a4)]) hx hb dX4_doRest_23 hl (by decide) rfl (fun ls hl => ?_)
    exact hC25 10 0 0 _ _ _ hP hS (lv_sub hl [2, 3, 4, 5, 6, 1, 0] rfl) hf
  · have hf := iteF hf c1
    refine lv_iload hx hb dX4_doRest_7 (lv_at hl 4 rfl) ?_
    refine lv_iload_n hx hb dX4_doRest_9 rfl (lv_at hl 2 rfl) ?_
    refine lv_iconst (v := 1) hx hb dX4_doRest_10 (by decide) ?_
    refine lv_iadd hx hb dX4_doRest_11 ?_
    refine lv_icmp_eq (tgt := 19) hx hb dX4_doRest_12 (by decide) (fun c21 => ?_) (fun c21 => ?_)
    · have hf := iteT hf c21
      refine lv_iconst (v := 0) hx hb dX4_doRest_19 (by decide) ?_
      refine lv_istore (lv' := [(5, .int 0), (0, .ref h0), (1, .int a1), (2, .int a2), (3, .int a3), (4, .int a4)]) hx hb dX4_doRest_20 hl (by decide) rfl (fun ls hl => ?_)
      refine lv_iconst (v := 0) hx hb dX4_doRest_22 (by decide) ?_
      refine lv_istore (lv' := [(6, .int 0), (5, .int 0), (0, .ref h0), (1, .int a1), (2, .int a2), (3, .int a3), (4, .int a4)]) hx hb dX4_doRest_23 hl (by decide) rfl (fun ls hl => ?_)
      exact hC25 10 0 0 _ _ _ hP hS (lv_sub hl [2, 3, 4, 5, 6, 1, 0] rfl) hf
    · have hf := iteF hf c21
      refine lv_iconst (v := 1) hx hb dX4_doRest_15 (by decide) ?_
      refine lv_goto (tgt := 20) hx hb dX4_doRest_16 (by decide) ?_
      refine lv_istore (lv' := [(5, .int 1), (0, .ref h0), (1, .int a1), (2, .int a2), (3, .int a3), (4, .int a4)]) hx hb dX4_doRest_20 hl (by decide) rfl (fun ls hl => ?_)
      refine lv_iconst (v := 0) hx hb dX4_doRest_22 (by decide) ?_
      refine lv_istore (lv' := [(6, .int 0), (5, .int 1), (0, .ref h0), (1, .int a1), (2, .int a2), (3, .int a3), (4, .int a4)]) hx hb dX4_doRest_23 hl (by decide) rfl (fun ls hl => ?_)
      exact hC25 10 1 0 _ _ _ hP hS (lv_sub hl [2, 3, 4, 5, 6, 1, 0] rfl) hf
def fX4_findRests_73 (k30 : Int32 → Int32 → Int32 → Int32 → Int32 → (Nat → Int32) → (Nat → Int32) → (Nat → Int32) → Option (Int32 × Int32 × Int32 × (Nat → Int32) × (Nat → Int32) × (Nat → Int32))) (x3 : Int32) (x4 : Int32) (y0 : Int32) (s_rowSize : Int32) (s_restMany : Int32) (s_restFirst : Int32) (q_trial : Nat → Int32) (q_row : Nat → Int32) (q_gains : Nat → Int32) : Option (Int32 × Int32 × Int32 × (Nat → Int32) × (Nat → Int32) × (Nat → Int32)) :=
  (k30 x3 (x4 + 1) s_rowSize (s_restMany + 1) y0 q_trial q_row q_gains)
def fX4_findRests_30 (s_people : Int32) (a1 : Int32) (a2 : Int32) (k19 : Int32 → Int32 → Int32 → Int32 → (Nat → Int32) → (Nat → Int32) → (Nat → Int32) → Option (Int32 × Int32 × Int32 × (Nat → Int32) × (Nat → Int32) × (Nat → Int32))) : Nat → Int32 → Int32 → Int32 → Int32 → Int32 → (Nat → Int32) → (Nat → Int32) → (Nat → Int32) → Option (Int32 × Int32 × Int32 × (Nat → Int32) × (Nat → Int32) × (Nat → Int32))
  | 0, _, _, _, _, _, _, _, _ => none
  | n + 1, x3, x4, s_rowSize, s_restMany, s_restFirst, q_trial, q_row, q_gains => (if s_people < x4 then (k19 (x3 + 1) s_rowSize s_restMany s_restFirst q_trial q_row q_gains) else (fX4_doRest s_people q_gains a1 a2 x3 x4).bind fun o5 => ((if o5 = 0 then (fX4_findRests_30 s_people a1 a2 k19 n x3 (x4 + 1) s_rowSize s_restMany s_restFirst q_trial q_row q_gains) else (if s_restMany = 0 then (fX4_findRests_73 (fun x3 x4 s_rowSize s_restMany s_restFirst q_trial q_row q_gains => fX4_findRests_30 s_people a1 a2 k19 n x3 x4 s_rowSize s_restMany s_restFirst q_trial q_row q_gains) x3 x4 ((10 * x3) + x4) s_rowSize s_restMany s_restFirst q_trial q_row q_gains) else (fX4_findRests_73 (fun x3 x4 s_rowSize s_restMany s_restFirst q_trial q_row q_gains => fX4_findRests_30 s_people a1 a2 k19 n x3 x4 s_rowSize s_restMany s_restFirst q_trial q_row q_gains) x3 x4 s_restFirst s_rowSize s_restMany s_restFirst q_trial q_row q_gains)))))
def fX4_findRests_19 (s_people : Int32) (a1 : Int32) (a2 : Int32) : Nat → Int32 → Int32 → Int32 → Int32 → (Nat → Int32) → (Nat → Int32) → (Nat → Int32) → Option (Int32 × Int32 × Int32 × (Nat → Int32) × (Nat → Int32) × (Nat → Int32))
  | 0, _, _, _, _, _, _, _ => none
  | n + 1, x3, s_rowSize, s_restMany, s_restFirst, q_trial, q_row, q_gains => (if s_people < x3 then some (s_rowSize, s_restMany, s_restFirst, q_trial, q_row, q_gains) else (fX4_findRests_30 s_people a1 a2 (fun x3 s_rowSize s_restMany s_restFirst q_trial q_row q_gains => fX4_findRests_19 s_people a1 a2 n x3 s_rowSize s_restMany s_restFirst q_trial q_row q_gains) 10 x3 0 s_rowSize s_restMany s_restFirst q_trial q_row q_gains))
def fX4_findRests (s_people : Int32) (s_rowSize : Int32) (s_restMany : Int32) (s_restFirst : Int32) (q_kind : Nat → Int32) (q_page : Nat → Int32) (q_trial : Nat → Int32) (q_row : Nat → Int32) (q_gains : Nat → Int32) (a1 : Int32) (a2 : Int32) : Option (Int32 × Int32 × Int32 × (Nat → Int32) × (Nat → Int32) × (Nat → Int32)) :=
  (fX4_layGains s_people s_rowSize q_kind q_page q_trial q_row q_gains a1 a2).bind fun o1 => ((fX4_findRests_19 s_people a1 a2 10 0 o1.1 0 (-9) o1.2.1 o1.2.2.1 o1.2.2.2))
set_option maxHeartbeats 4000000 in
set_option maxRecDepth 100000 in
theorem ctX4_findRests (l : Launch) (G : GG) (h0 : Nat) (ad : Nat → Nat) (s_thrown : Int32) (s_textSize : Int32) (s_place : Int32) (s_people : Int32) (s_readPeople : Int32) (s_acts : Int32) (s_seen : Int32) (s_seed : Int64) (s_rowSize : Int32) (s_feedMany : Int32) (s_feedRow : Int32) (s_restMany : Int32) (s_restFirst : Int32) (q_kind : Nat → Int32) (q_page : Nat → Int32) (q_trial : Nat → Int32) (q_row : Nat → Int32) (q_gains : Nat → Int32) (a1 : Int32) (a2 : Int32) (out : Int32 × Int32 × Int32 × (Nat → Int32) × (Nat → Int32) × (Nat → Int32)) (hf : fX4_findRests s_people s_rowSize s_restMany s_restFirst q_kind q_page q_trial q_row q_gains a1 a2 = some out) : Met l yX4_findRests wsX4_findRests ({ frames := 5, cells := 0, slots := 0, locals := 114 }) (PcW G [.ref h0, .int a1, .int a2] [(h0, moE ad s_thrown s_textSize s_place s_people s_readPeople s_acts s_seen s_seed s_rowSize s_feedMany s_feedRow s_restMany s_restFirst), (ad 5, aI G 7 q_kind), (ad 10, aI G 17 q_page), (ad 11, aI G 17 q_trial), (ad 20, aI G 7 q_row), (ad 27, aI G 128 q_gains)]) (QvW G [(h0, moE ad s_thrown s_textSize s_place s_people s_readPeople s_acts s_seen s_seed s_rowSize s_feedMany s_feedRow s_restMany s_restFirst), (ad 5, aI G 7 q_kind), (ad 10, aI G 17 q_page), (ad 11, aI G 17 q_trial), (ad 20, aI G 7 q_row), (ad 27, aI G 128 q_gains)] [(h0, moE ad s_thrown s_textSize s_place s_people s_readPeople s_acts s_seen s_seed out.1 s_feedMany s_feedRow out.2.1 out.2.2.1), (ad 5, aI G 7 q_kind), (ad 10, aI G 17 q_page), (ad 11, aI G 17 out.2.2.2.1), (ad 20, aI G 7 out.2.2.2.2.1), (ad 27, aI G 128 out.2.2.2.2.2)]) 0 0 (inA [(h0, moE ad s_thrown s_textSize s_place s_people s_readPeople s_acts s_seen s_seed s_rowSize s_feedMany s_feedRow s_restMany s_restFirst), (ad 5, aI G 7 q_kind), (ad 10, aI G 17 q_page), (ad 11, aI G 17 q_trial), (ad 20, aI G 7 q_row), (ad 27, aI G 128 q_gains)]) := by
  refine mk_Wv (cc := cX4_findRests) (maxL := 5) (by decide) rfl (Nat.le_of_ble_eq_true rfl) ?_
  intro p e s m args below meth c Q ls A S hP hK hD hl hret
  obtain ⟨hx, hb, hml, hown, hts⟩ := S
  have hown : s.vm.findClass RX4 = some m.cls := hown
  have kl_204 := hts (.fieldLink RX4 204 "ArrestOrderModel" "restMany" "I") (by decide +kernel)
  have hi_X4 : ∀ w ∈ wsX40, w ∈ wsX4_findRests := fun _ h => List.mem_cons_of_mem _ (List.mem_append_right _ h)
  have kl_207 := hts (.fieldLink RX4 207 "ArrestOrderModel" "restFirst" "I") (by decide +kernel)
  have kl_64 := hts (.fieldLink RX4 64 "ArrestOrderModel" "people" "I") (by decide +kernel)
  have hS : va_S A s.heap s.heap [] := va_S.rf
  have hl : lv_has ls 5 [(0, .ref h0), (1, .int a1), (2, .int a2)] := hl
  have hC19 : ∀ (n : Nat) (x3 : Int32) (s_rowSize : Int32) (s_restMany : Int32) (s_restFirst : Int32) (q_trial : Nat → Int32) (q_row : Nat → Int32) (q_gains : Nat → Int32) (H : Heap) (locs : List Loc) (ls : Array Slot), va_P (gD G) vwCl [(h0, moE ad s_thrown s_textSize s_place s_people s_readPeople s_acts s_seen s_seed s_rowSize s_feedMany s_feedRow s_restMany s_restFirst), (ad 5, aI G 7 q_kind), (ad 10, aI G 17 q_page), (ad 11, aI G 17 q_trial), (ad 20, aI G 7 q_row), (ad 27, aI G 128 q_gains)] H → va_D A [(h0, moE ad s_thrown s_textSize s_place s_people s_readPeople s_acts s_seen s_seed s_rowSize s_feedMany s_feedRow s_restMany s_restFirst), (ad 5, aI G 7 q_kind), (ad 10, aI G 17 q_page), (ad 11, aI G 17 q_trial), (ad 20, aI G 7 q_row), (ad 27, aI G 128 q_gains)] → va_S A s.heap H locs → lv_has ls 5 [(0, .ref h0), (1, .int a1), (2, .int a2), (3, .int x3)] → fX4_findRests_19 s_people a1 a2 n x3 s_rowSize s_restMany s_restFirst q_trial q_row q_gains = some out → W p l e ({ frames := 5, cells := 0, slots := 0, locals := 114 }) s m args below meth c H locs 0 0 Q (F0 m 19 ls []) := by
    intro n19
    induction n19 with
    | zero => intro x3 s_rowSize s_restMany s_restFirst q_trial q_row q_gains H locs ls hP hD hS hl hf; exact absurd (show none = some out from hf) (fun z => by cases z)
    | succ n19 ih19 =>
      have hC30 : ∀ (n : Nat) (x3 : Int32) (x4 : Int32) (s_rowSize : Int32) (s_restMany : Int32) (s_restFirst : Int32) (q_trial : Nat → Int32) (q_row : Nat → Int32) (q_gains : Nat → Int32) (H : Heap) (locs : List Loc) (ls : Array Slot), va_P (gD G) vwCl [(h0, moE ad s_thrown s_textSize s_place s_people s_readPeople s_acts s_seen s_seed s_rowSize s_feedMany s_feedRow s_restMany s_restFirst), (ad 5, aI G 7 q_kind), (ad 10, aI G 17 q_page), (ad 11, aI G 17 q_trial), (ad 20, aI G 7 q_row), (ad 27, aI G 128 q_gains)] H → va_D A [(h0, moE ad s_thrown s_textSize s_place s_people s_readPeople s_acts s_seen s_seed s_rowSize s_feedMany s_feedRow s_restMany s_restFirst), (ad 5, aI G 7 q_kind), (ad 10, aI G 17 q_page), (ad 11, aI G 17 q_trial), (ad 20, aI G 7 q_row), (ad 27, aI G 128 q_gains)] → va_S A s.heap H locs → lv_has ls 5 [(0, .ref h0), (1, .int a1), (2, .int a2), (3, .int x3), (4, .int x4)] → fX4_findRests_30 s_people a1 a2 (fun x3 s_rowSize s_restMany s_restFirst q_trial q_row q_gains => fX4_findRests_19 s_people a1 a2 n19 x3 s_rowSize s_restMany s_restFirst q_trial q_row q_gains) n x3 x4 s_rowSize s_restMany s_restFirst q_trial q_row q_gains = some out → W p l e ({ frames := 5, cells := 0, slots := 0, locals := 114 }) s m args below meth c H locs 0 0 Q (F0 m 30 ls []) := by
        intro n30
        induction n30 with
        | zero => intro x3 x4 s_rowSize s_restMany s_restFirst q_trial q_row q_gains H locs ls hP hD hS hl hf; exact absurd (show none = some out from hf) (fun z => by cases z)
        | succ n30 ih30 =>
          have hC73 : ∀ (x3 : Int32) (x4 : Int32) (y0 : Int32) (s_rowSize : Int32) (s_restMany : Int32) (s_restFirst : Int32) (q_trial : Nat → Int32) (q_row : Nat → Int32) (q_gains : Nat → Int32) (H : Heap) (locs : List Loc) (ls : Array Slot), va_P (gD G) vwCl [(h0, moE ad s_thrown s_textSize s_place s_people s_readPeople s_acts s_seen s_seed s_rowSize s_feedMany s_feedRow s_restMany s_restFirst), (ad 5, aI G 7 q_kind), (ad 10, aI G 17 q_page), (ad 11, aI G 17 q_trial), (ad 20, aI G 7 q_row), (ad 27, aI G 128 q_gains)] H → va_D A [(h0, moE ad s_thrown s_textSize s_place s_people s_readPeople s_acts s_seen s_seed s_rowSize s_feedMany s_feedRow s_restMany s_restFirst), (ad 5, aI G 7 q_kind), (ad 10, aI G 17 q_page), (ad 11, aI G 17 q_trial), (ad 20, aI G 7 q_row), (ad 27, aI G 128 q_gains)] → va_S A s.heap H locs → lv_has ls 5 [(0, .ref h0), (1, .int a1), (2, .int a2), (3, .int x3), (4, .int x4)] → fX4_findRests_73 (fun x3 x4 s_rowSize s_restMany s_restFirst q_trial q_row q_gains => fX4_findRests_30 s_people a1 a2 (fun x3 s_rowSize s_restMany s_restFirst q_trial q_row q_gains => fX4_findRests_19 s_people a1 a2 n19 x3 s_rowSize s_restMany s_restFirst q_trial q_row q_gains) n30 x3 x4 s_rowSize s_restMany s_restFirst q_trial q_row q_gains) x3 x4 y0 s_rowSize s_restMany s_restFirst q_trial q_row q_gains = some out → W p l e ({ frames := 5, cells := 0, slots := 0, locals := 114 }) s m args below meth c H locs 0 0 Q (F0 m 73 ls [.int y0, .ref h0]) := by
            intro x3 x4 y0 s_rowSize s_restMany s_restFirst q_trial q_row q_gains H locs ls hP hD hS hl hf
            refine va_put (D := gD G) (ci := 4) (v := .int y0) (ty := .int) (C := RX4) (T := TX4) (N := 29) hx hb hts hi_X4 tyX4 tyX4_ok nmX4 hown hK.1 hP hD hS 0 rfl rfl 25 (by decide) kl_207 (fun _ h9 => h9) rfl (tyX4_ok 25 (by decide)) rfl rfl (Nat.le_of_ble_eq_true rfl) dX4_findRests_73 (fun H locs hP hD hS => ?_)
            have hP : va_P (gD G) vwCl [(h0, moE ad s_thrown s_textSize s_place s_people s_readPeople s_acts s_seen s_seed s_rowSize s_feedMany s_feedRow s_restMany y0), (ad 5, aI G 7 q_kind), (ad 10, aI G 17 q_page), (ad 11, aI G 17 q_trial), (ad 20, aI G 7 q_row), (ad 27, aI G 128 q_gains)] H := hP
            have hD : va_D A [(h0, moE ad s_thrown s_textSize s_place s_people s_readPeople s_acts s_seen s_seed s_rowSize s_feedMany s_feedRow s_restMany y0), (ad 5, aI G 7 q_kind), (ad 10, aI G 17 q_page), (ad 11, aI G 17 q_trial), (ad 20, aI G 7 q_row), (ad 27, aI G 128 q_gains)] := hD
            refine lv_aload_n hx hb dX4_findRests_76 rfl (lv_at hl 0 rfl) ?_
            refine lv_dup hx hb dX4_findRests_77 rfl ?_
            refine va_get (D := gD G) (ci := 4) (v := .int s_restMany) (C := RX4) (T := TX4) (N := 29) hx hb hts hi_X4 hown hK.1 hP 0 rfl rfl 24 (by decide) kl_204 (fun _ h9 => h9) rfl dX4_findRests_78 ?_
            refine lv_iconst (v := 1) hx hb dX4_findRests_81 (by decide) ?_
            refine lv_iadd hx hb dX4_findRests_82 ?_
            refine va_put (D := gD G) (ci := 4) (v := .int (s_restMany + 1)) (ty := .int) (C := RX4) (T := TX4) (N := 29) hx hb hts hi_X4 tyX4 tyX4_ok nmX4 hown hK.1 hP hD hS 0 rfl rfl 24 (by decide) kl_204 (fun _ h9 => h9) rfl (tyX4_ok 24 (by decide)) rfl rfl (Nat.le_of_ble_eq_true rfl) dX4_findRests_83 (fun H locs hP hD hS => ?_)
            have hP : va_P (gD G) vwCl [(h0, moE ad s_thrown s_textSize s_place s_people s_readPeople s_acts s_seen s_seed s_rowSize s_feedMany s_feedRow (s_restMany + 1) y0), (ad 5, aI G 7 q_kind), (ad 10, aI G 17 q_page), (ad 11, aI G 17 q_trial), (ad 20, aI G 7 q_row), (ad 27, aI G 128 q_gains)] H := hP
            have hD : va_D A [(h0, moE ad s_thrown s_textSize s_place s_people s_readPeople s_acts s_seen s_seed s_rowSize s_feedMany s_feedRow (s_restMany + 1) y0), (ad 5, aI G 7 q_kind), (ad 10, aI G 17 q_page), (ad 11, aI G 17 q_trial), (ad 20, aI G 7 q_row), (ad 27, aI G 128 q_gains)] := hD
            refine lv_iinc (v := (x4 + 1)) (lv' := [(4, .int (x4 + 1)), (0, .ref h0), (1, .int a1), (2, .int a2), (3, .int x3)]) hx hb dX4_findRests_86 hl (k := 4) rfl rfl (by decide) rfl (fun ls hl => ?_)
            refine lv_goto (tgt := 30) hx hb dX4_findRests_89 (by decide) ?_
            exact ih30 x3 (x4 + 1) s_rowSize (s_restMany + 1) y0 q_trial q_row q_gains _ _ _ hP hD hS (lv_sub hl [1, 2, 3, 4, 0] rfl) hf
          intro x3 x4 s_rowSize s_restMany s_restFirst q_trial q_row q_gains H locs ls hP hD hS hl hf
          refine lv_iload hx hb dX4_findRests_30 (lv_at hl 4 rfl) ?_
          refine lv_aload_n hx hb dX4_findRests_32 rfl (lv_at hl 0 rfl) ?_
          refine va_get (D := gD G) (ci := 4) (v := .int s_people) (C := RX4) (T := TX4) (N := 29) hx hb hts hi_X4 hown hK.1 hP 0 rfl rfl 4 (by decide) kl_64 (fun _ h9 => h9) rfl dX4_findRests_33 ?_
          refine lv_icmp_gt (tgt := 92) hx hb dX4_findRests_36 (by decide) (fun c4 => ?_) (fun c4 => ?_)
          · have hf := iteT hf c4
            refine lv_iinc (v := (x3 + 1)) (lv' := [(3, .int (x3 + 1)), (0, .ref h0), (1, .int a1), (2, .int a2), (4, .int x4)]) hx hb dX4_findRests_92 hl (k := 3) rfl rfl (by decide) rfl (fun ls hl => ?_)
            refine lv_goto (tgt := 19) hx hb dX4_findRests_95 (by decide) ?_
            exact ih19 (x3 + 1) s_rowSize s_restMany s_restFirst q_trial q_row q_gains _ _ _ hP hD hS (lv_sub hl [1, 2, 3, 0] rfl) hf
          · have hf := iteF hf c4
            refine lv_aload_n hx hb dX4_findRests_39 rfl (lv_at hl 0 rfl) ?_
            refine lv_iload_n hx hb dX4_findRests_40 rfl (lv_at hl 1 rfl) ?_
            refine lv_iload_n hx hb dX4_findRests_41 rfl (lv_at hl 2 rfl) ?_
            refine lv_iload_n hx hb dX4_findRests_42 rfl (lv_at hl 3 rfl) ?_
            refine lv_iload hx hb dX4_findRests_43 (lv_at hl 4 rfl) ?_
            obtain ⟨o5, hc6, hf⟩ := bindS hf
            refine ro_i (va_runV (C := RX4) (As := [.int a1, .int a2, .int x3, .int x4]) (rest := []) ⟨hx, hb, hml, hown, hts⟩ (ctX4_doRest l G h0 ad s_thrown s_textSize s_place s_people s_readPeople s_acts s_seen s_seed s_rowSize s_feedMany s_feedRow s_restMany s_restFirst q_gains a1 a2 x3 x4 o5 hc6) (cwV 4 hts gX4_findRests_X4_doRest rfl rfl rfl (by decide +kernel) ⟨Nat.le_of_ble_eq_true rfl, Nat.le_of_ble_eq_true rfl⟩) (preR_V (q0 := 0) (ci := 4) (hP.sub (ws' := [(h0, moE ad s_thrown s_textSize s_place s_people s_readPeople s_acts s_seen s_seed s_rowSize s_feedMany s_feedRow s_restMany s_restFirst), (ad 27, aI G 128 q_gains)]) [0, 5] rfl) hK rfl rfl) rfl rfl hl.1 rfl (lv_room (Nat.le_of_ble_eq_true rfl)) dX4_findRests_45 ⟨Nat.zero_le _, Nat.zero_le _⟩) hS hP (fun H locs hP hS => ?_)
            refine lv_if_eq (tgt := 86) hx hb dX4_findRests_48 (by decide) (fun c7 => ?_) (fun c7 => ?_)
            · have hf := iteT hf c7
              refine lv_iinc (v := (x4 + 1)) (lv' := [(4, .int (x4 + 1)), (0, .ref h0), (1, .int a1), (2, .int a2), (3, .int x3)]) hx hb dX4_findRests_86 hl (k := 4) rfl rfl (by decide) rfl (fun ls hl => ?_)
              refine lv_goto (tgt := 30) hx hb dX4_findRests_89 (by decide) ?_
              exact ih30 x3 (x4 + 1) s_rowSize s_restMany s_restFirst q_trial q_row q_gains _ _ _ hP hD hS (lv_sub hl [1, 2, 3, 4, 0] rfl) hf
            · have hf := iteF hf c7
              refine lv_aload_n hx hb dX4_findRests_51 rfl (lv_at hl 0 rfl) ?_
              refine lv_aload_n hx hb dX4_findRests_52 rfl (lv_at hl 0 rfl) ?_
              refine va_get (D := gD G) (ci := 4) (v := .int s_restMany) (C := RX4) (T := TX4) (N := 29) hx hb hts hi_X4 hown hK.1 hP 0 rfl rfl 24 (by decide) kl_204 (fun _ h9 => h9) rfl dX4_findRests_53 ?_
              refine lv_if_ne (tgt := 69) hx hb dX4_findRests_56 (by decide) (fun c8 => ?_) (fun c8 => ?_)
              · have hf := iteF hf c8
                refine lv_aload_n hx hb dX4_findRests_69 rfl (lv_at hl 0 rfl) ?_
                refine va_get (D := gD G) (ci := 4) (v := .int s_restFirst) (C := RX4) (T := TX4) (N := 29) hx hb hts hi_X4 hown hK.1 hP 0 rfl rfl 25 (by decide) kl_207 (fun _ h9 => h9) rfl dX4_findRests_70 ?_
                exact hC73 x3 x4 s_restFirst s_rowSize s_restMany s_restFirst q_trial q_row q_gains _ _ _ hP hD hS (lv_sub hl [0, 1, 2, 3, 4] rfl) hf
              · have hf := iteT hf c8
                refine lv_bipush (v := 10) hx hb dX4_findRests_59 (by decide) ?_
                refine lv_iload_n hx hb dX4_findRests_61 rfl (lv_at hl 3 rfl) ?_
                refine lv_imul hx hb dX4_findRests_62 ?_
                refine lv_iload hx hb dX4_findRests_63 (lv_at hl 4 rfl) ?_
                refine lv_iadd hx hb dX4_findRests_65 ?_
                refine lv_goto (tgt := 73) hx hb dX4_findRests_66 (by decide) ?_
                exact hC73 x3 x4 ((10 * x3) + x4) s_rowSize s_restMany s_restFirst q_trial q_row q_gains _ _ _ hP hD hS (lv_sub hl [0, 1, 2, 3, 4] rfl) hf
      intro x3 s_rowSize s_restMany s_restFirst q_trial q_row q_gains H locs ls hP hD hS hl hf
      refine lv_iload_n hx hb dX4_findRests_19 rfl (lv_at hl 3 rfl) ?_
      refine lv_aload_n hx hb dX4_findRests_20 rfl (lv_at hl 0 rfl) ?_
      refine va_get (D := gD G) (ci := 4) (v := .int s_people) (C := RX4) (T := TX4) (N := 29) hx hb hts hi_X4 hown hK.1 hP 0 rfl rfl 4 (by decide) kl_64 (fun _ h9 => h9) rfl dX4_findRests_21 ?_
      refine lv_icmp_gt (tgt := 98) hx hb dX4_findRests_24 (by decide) (fun c3 => ?_) (fun c3 => ?_)
      · have hf := iteT hf c3
        have hv := Option.some.inj hf
        exact hret _ _ _ _ (by rw [← hv]; exact hP) hS dX4_findRests_98
      · have hf := iteF hf c3
        refine lv_iconst (v := 0) hx hb dX4_findRests_27 (by decide) ?_
        refine lv_istore (lv' := [(4, .int 0), (0, .ref h0), (1, .int a1), (2, .int a2), (3, .int x3)]) hx hb dX4_findRests_28 hl (by decide) rfl (fun ls hl => ?_)
        exact hC30 10 x3 0 s_rowSize s_restMany s_restFirst q_trial q_row q_gains _ _ _ hP hD hS (lv_sub hl [1, 2, 3, 4, 0] rfl) hf
  refine lv_aload_n hx hb dX4_findRests_0 rfl (lv_at hl 0 rfl) ?_
  refine lv_iload_n hx hb dX4_findRests_1 rfl (lv_at hl 1 rfl) ?_
  refine lv_iload_n hx hb dX4_findRests_2 rfl (lv_at hl 2 rfl) ?_
  obtain ⟨o1, hc2, hf⟩ := bindS hf
  refine rw_v (va_runV (C := RX4) (As := [.int a1, .int a2]) (rest := []) ⟨hx, hb, hml, hown, hts⟩ (ctX4_layGains l G h0 ad s_thrown s_textSize s_place s_people s_readPeople s_acts s_seen s_seed s_rowSize s_feedMany s_feedRow s_restMany s_restFirst q_kind q_page q_trial q_row q_gains a1 a2 o1 hc2) (cwV 2 hts gX4_findRests_X4_layGains rfl rfl rfl (by decide +kernel) ⟨Nat.le_of_ble_eq_true rfl, Nat.le_of_ble_eq_true rfl⟩) (preW_V (q0 := 0) (ci := 4) (hP.sub (ws' := [(h0, moE ad s_thrown s_textSize s_place s_people s_readPeople s_acts s_seen s_seed s_rowSize s_feedMany s_feedRow s_restMany s_restFirst), (ad 5, aI G 7 q_kind), (ad 10, aI G 17 q_page), (ad 11, aI G 17 q_trial), (ad 20, aI G 7 q_row), (ad 27, aI G 128 q_gains)]) [0, 1, 2, 3, 4, 5] rfl) (hD.sub (ws' := [(h0, moE ad s_thrown s_textSize s_place s_people s_readPeople s_acts s_seen s_seed s_rowSize s_feedMany s_feedRow s_restMany s_restFirst), (ad 5, aI G 7 q_kind), (ad 10, aI G 17 q_page), (ad 11, aI G 17 q_trial), (ad 20, aI G 7 q_row), (ad 27, aI G 128 q_gains)]) [0, 1, 2, 3, 4, 5] (by decide) rfl) hK rfl rfl) rfl rfl hl.1 rfl (lv_room (Nat.le_of_ble_eq_true rfl)) dX4_findRests_3 ⟨Nat.zero_le _, Nat.zero_le _⟩) hS hP hD [0, 1, 2, 3, 4, 5] rfl rfl rfl (fun H locs hP hD hS => ?_)
  have hP : va_P (gD G) vwCl [(h0, moE ad s_thrown s_textSize s_place s_people s_readPeople s_acts s_seen s_seed o1.1 s_feedMany s_feedRow s_restMany s_restFirst), (ad 5, aI G 7 q_kind), (ad 10, aI G 17 q_page), (ad 11, aI G 17 o1.2.1), (ad 20, aI G 7 o1.2.2.1), (ad 27, aI G 128 o1.2.2.2)] H := hP
  have hD : va_D A [(h0, moE ad s_thrown s_textSize s_place s_people s_readPeople s_acts s_seen s_seed o1.1 s_feedMany s_feedRow s_restMany s_restFirst), (ad 5, aI G 7 q_kind), (ad 10, aI G 17 q_page), (ad 11, aI G 17 o1.2.1), (ad 20, aI G 7 o1.2.2.1), (ad 27, aI G 128 o1.2.2.2)] := hD
  refine lv_aload_n hx hb dX4_findRests_6 rfl (lv_at hl 0 rfl) ?_
  refine lv_iconst (v := 0) hx hb dX4_findRests_7 (by decide) ?_
  refine va_put (D := gD G) (ci := 4) (v := .int 0) (ty := .int) (C := RX4) (T := TX4) (N := 29) hx hb hts hi_X4 tyX4 tyX4_ok nmX4 hown hK.1 hP hD hS 0 rfl rfl 24 (by decide) kl_204 (fun _ h9 => h9) rfl (tyX4_ok 24 (by decide)) rfl rfl (Nat.le_of_ble_eq_true rfl) dX4_findRests_8 (fun H locs hP hD hS => ?_)
  have hP : va_P (gD G) vwCl [(h0, moE ad s_thrown s_textSize s_place s_people s_readPeople s_acts s_seen s_seed o1.1 s_feedMany s_feedRow 0 s_restFirst), (ad 5, aI G 7 q_kind), (ad 10, aI G 17 q_page), (ad 11, aI G 17 o1.2.1), (ad 20, aI G 7 o1.2.2.1), (ad 27, aI G 128 o1.2.2.2)] H := hP
  have hD : va_D A [(h0, moE ad s_thrown s_textSize s_place s_people s_readPeople s_acts s_seen s_seed o1.1 s_feedMany s_feedRow 0 s_restFirst), (ad 5, aI G 7 q_kind), (ad 10, aI G 17 q_page), (ad 11, aI G 17 o1.2.1), (ad 20, aI G 7 o1.2.2.1), (ad 27, aI G 128 o1.2.2.2)] := hD
  refine lv_aload_n hx hb dX4_findRests_11 rfl (lv_at hl 0 rfl) ?_
  refine lv_bipush (v := (-9)) hx hb dX4_findRests_12 (by decide) ?_
  refine va_put (D := gD G) (ci := 4) (v := .int (-9)) (ty := .int) (C := RX4) (T := TX4) (N := 29) hx hb hts hi_X4 tyX4 tyX4_ok nmX4 hown hK.1 hP hD hS 0 rfl rfl 25 (by decide) kl_207 (fun _ h9 => h9) rfl (tyX4_ok 25 (by decide)) rfl rfl (Nat.le_of_ble_eq_true rfl) dX4_findRests_14 (fun H locs hP hD hS => ?_)
  have hP : va_P (gD G) vwCl [(h0, moE ad s_thrown s_textSize s_place s_people s_readPeople s_acts s_seen s_seed o1.1 s_feedMany s_feedRow 0 (-9)), (ad 5, aI G 7 q_kind), (ad 10, aI G 17 q_page), (ad 11, aI G 17 o1.2.1), (ad 20, aI G 7 o1.2.2.1), (ad 27, aI G 128 o1.2.2.2)] H := hP
  have hD : va_D A [(h0, moE ad s_thrown s_textSize s_place s_people s_readPeople s_acts s_seen s_seed o1.1 s_feedMany s_feedRow 0 (-9)), (ad 5, aI G 7 q_kind), (ad 10, aI G 17 q_page), (ad 11, aI G 17 o1.2.1), (ad 20, aI G 7 o1.2.2.1), (ad 27, aI G 128 o1.2.2.2)] := hD
  refine lv_iconst (v := 0) hx hb dX4_findRests_17 (by decide) ?_
  refine lv_istore_n (lv' := [(3, .int 0), (0, .ref h0), (1, .int a1), (2, .int a2)]) hx hb dX4_findRests_18 rfl hl (by decide) rfl (fun ls hl => ?_)
  exact hC19 10 0 o1.1 0 (-9) o1.2.1 o1.2.2.1 o1.2.2.2 _ _ _ hP hD hS (lv_sub hl [1, 2, 3, 0] rfl) hf
def fX4_rests (s_thrown : Int32) (s_people : Int32) (s_rowSize : Int32) (s_restMany : Int32) (s_restFirst : Int32) (q_kind : Nat → Int32) (q_page : Nat → Int32) (q_trial : Nat → Int32) (q_row : Nat → Int32) (q_gains : Nat → Int32) (a1 : Int32) (a2 : Int32) (a3 : Int32) : Option (Int32 × Int32 × Int32 × Int32 × Int32 × (Nat → Int32) × (Nat → Int32) × (Nat → Int32)) :=
  (fX4_noPerson s_people a1).bind fun o1 => ((if o1 = 0 then (fX4_noPerson s_people a2).bind fun o4 => ((if o4 = 0 then (if a1 = a2 then some ((-2), 0, s_rowSize, s_restMany, s_restFirst, q_trial, q_row, q_gains) else (fX4_in (Int32.toInt64 a3) 0 1).bind fun o8 => ((if o8 = 0 then some ((-2), 0, s_rowSize, s_restMany, s_restFirst, q_trial, q_row, q_gains) else ck 14 17 ((fX4_has (q_page (Int32.toNatClampNeg 14)) a1).bind fun o12 => ((if o12 = 0 then some ((-3), 0, s_rowSize, s_restMany, s_restFirst, q_trial, q_row, q_gains) else ck 14 17 ((fX4_has (q_page (Int32.toNatClampNeg 14)) a2).bind fun o16 => ((if o16 = 0 then some ((-3), 0, s_rowSize, s_restMany, s_restFirst, q_trial, q_row, q_gains) else (fX4_findRests s_people s_rowSize s_restMany s_restFirst q_kind q_page q_trial q_row q_gains a1 a2).bind fun o19 => ((if a3 = 0 then some (o19.2.1, 0, o19.1, o19.2.1, o19.2.2.1, o19.2.2.2.1, o19.2.2.2.2.1, o19.2.2.2.2.2) else some (o19.2.2.1, 0, o19.1, o19.2.1, o19.2.2.1, o19.2.2.2.1, o19.2.2.2.2.1, o19.2.2.2.2.2)))))))))))) else some ((-1), 0, s_rowSize, s_restMany, s_restFirst, q_trial, q_row, q_gains))) else some ((-1), 0, s_rowSize, s_restMany, s_restFirst, q_trial, q_row, q_gains)))
set_option maxHeartbeats 4000000 in
set_option maxRecDepth 100000 in
theorem ctX4_rests (l : Launch) (G : GG) (h0 : Nat) (ad : Nat → Nat) (s_thrown : Int32) (s_textSize : Int32) (s_place : Int32) (s_people : Int32) (s_readPeople : Int32) (s_acts : Int32) (s_seen : Int32) (s_seed : Int64) (s_rowSize : Int32) (s_feedMany : Int32) (s_feedRow : Int32) (s_restMany : Int32) (s_restFirst : Int32) (q_kind : Nat → Int32) (q_page : Nat → Int32) (q_trial : Nat → Int32) (q_row : Nat → Int32) (q_gains : Nat → Int32) (a1 : Int32) (a2 : Int32) (a3 : Int32) (out : Int32 × Int32 × Int32 × Int32 × Int32 × (Nat → Int32) × (Nat → Int32) × (Nat → Int32)) (hf : fX4_rests s_thrown s_people s_rowSize s_restMany s_restFirst q_kind q_page q_trial q_row q_gains a1 a2 a3 = some out) : Met l yX4_rests wsX4_rests ({ frames := 6, cells := 0, slots := 0, locals := 138 }) (PcW G [.ref h0, .int a1, .int a2, .int a3] [(h0, moE ad s_thrown s_textSize s_place s_people s_readPeople s_acts s_seen s_seed s_rowSize s_feedMany s_feedRow s_restMany s_restFirst), (ad 5, aI G 7 q_kind), (ad 10, aI G 17 q_page), (ad 11, aI G 17 q_trial), (ad 20, aI G 7 q_row), (ad 27, aI G 128 q_gains)]) (QiW G [(h0, moE ad s_thrown s_textSize s_place s_people s_readPeople s_acts s_seen s_seed s_rowSize s_feedMany s_feedRow s_restMany s_restFirst), (ad 5, aI G 7 q_kind), (ad 10, aI G 17 q_page), (ad 11, aI G 17 q_trial), (ad 20, aI G 7 q_row), (ad 27, aI G 128 q_gains)] [(h0, moE ad out.2.1 s_textSize s_place s_people s_readPeople s_acts s_seen s_seed out.2.2.1 s_feedMany s_feedRow out.2.2.2.1 out.2.2.2.2.1), (ad 5, aI G 7 q_kind), (ad 10, aI G 17 q_page), (ad 11, aI G 17 out.2.2.2.2.2.1), (ad 20, aI G 7 out.2.2.2.2.2.2.1), (ad 27, aI G 128 out.2.2.2.2.2.2.2)] out.1) 0 0 (inA [(h0, moE ad s_thrown s_textSize s_place s_people s_readPeople s_acts s_seen s_seed s_rowSize s_feedMany s_feedRow s_restMany s_restFirst), (ad 5, aI G 7 q_kind), (ad 10, aI G 17 q_page), (ad 11, aI G 17 q_trial), (ad 20, aI G 7 q_row), (ad 27, aI G 128 q_gains)]) := by
  refine mk_Wi (cc := cX4_rests) (maxL := 4) (by decide) rfl (Nat.le_of_ble_eq_true rfl) ?_
  intro p e s m args below meth c Q ls A S hP hK hD hl hret
  obtain ⟨hx, hb, hml, hown, hts⟩ := S
  have hown : s.vm.findClass RX4 = some m.cls := hown
  have kl_60 := hts (.fieldLink RX4 60 "ArrestOrderModel" "thrown" "I") (by decide +kernel)
  have hi_X4 : ∀ w ∈ wsX40, w ∈ wsX4_rests := fun _ h => List.mem_cons_of_mem _ (List.mem_append_right _ h)
  have kl_25 := hts (.fieldLink RX4 25 "ArrestOrderModel" "page" "[I") (by decide +kernel)
  have kl_207 := hts (.fieldLink RX4 207 "ArrestOrderModel" "restFirst" "I") (by decide +kernel)
  have kl_204 := hts (.fieldLink RX4 204 "ArrestOrderModel" "restMany" "I") (by decide +kernel)
  have hS : va_S A s.heap s.heap [] := va_S.rf
  have hl : lv_has ls 4 [(0, .ref h0), (1, .int a1), (2, .int a2), (3, .int a3)] := hl
  refine lv_aload_n hx hb dX4_rests_0 rfl (lv_at hl 0 rfl) ?_
  refine lv_iconst (v := 0) hx hb dX4_rests_1 (by decide) ?_
  refine va_put (D := gD G) (ci := 4) (v := .int 0) (ty := .int) (C := RX4) (T := TX4) (N := 29) hx hb hts hi_X4 tyX4 tyX4_ok nmX4 hown hK.1 hP hD hS 0 rfl rfl 0 (by decide) kl_60 (fun _ h9 => h9) rfl (tyX4_ok 0 (by decide)) rfl rfl (Nat.le_of_ble_eq_true rfl) dX4_rests_2 (fun H locs hP hD hS => ?_)
  have hP : va_P (gD G) vwCl [(h0, moE ad 0 s_textSize s_place s_people s_readPeople s_acts s_seen s_seed s_rowSize s_feedMany s_feedRow s_restMany s_restFirst), (ad 5, aI G 7 q_kind), (ad 10, aI G 17 q_page), (ad 11, aI G 17 q_trial), (ad 20, aI G 7 q_row), (ad 27, aI G 128 q_gains)] H := hP
  have hD : va_D A [(h0, moE ad 0 s_textSize s_place s_people s_readPeople s_acts s_seen s_seed s_rowSize s_feedMany s_feedRow s_restMany s_restFirst), (ad 5, aI G 7 q_kind), (ad 10, aI G 17 q_page), (ad 11, aI G 17 q_trial), (ad 20, aI G 7 q_row), (ad 27, aI G 128 q_gains)] := hD
  refine lv_aload_n hx hb dX4_rests_5 rfl (lv_at hl 0 rfl) ?_
  refine lv_iload_n hx hb dX4_rests_6 rfl (lv_at hl 1 rfl) ?_
  obtain ⟨o1, hc2, hf⟩ := bindS hf
  refine ro_i (va_runV (C := RX4) (As := [.int a1]) (rest := []) ⟨hx, hb, hml, hown, hts⟩ (ctX4_noPerson l G h0 ad 0 s_textSize s_place s_people s_readPeople s_acts s_seen s_seed s_rowSize s_feedMany s_feedRow s_restMany s_restFirst a1 o1 hc2) (cwV 1 hts gX4_rests_X4_noPerson rfl rfl rfl (by decide +kernel) ⟨Nat.le_of_ble_eq_true rfl, Nat.le_of_ble_eq_true rfl⟩) (preR_V (q0 := 0) (ci := 4) (hP.sub (ws' := [(h0, moE ad 0 s_textSize s_place s_people s_readPeople s_acts s_seen s_seed s_rowSize s_feedMany s_feedRow s_restMany s_restFirst)]) [0] rfl) hK rfl rfl) rfl rfl hl.1 rfl (lv_room (Nat.le_of_ble_eq_true rfl)) dX4_rests_7 ⟨Nat.zero_le _, Nat.zero_le _⟩) hS hP (fun H locs hP hS => ?_)
  refine lv_if_ne (tgt := 21) hx hb dX4_rests_10 (by decide) (fun c3 => ?_) (fun c3 => ?_)
  · have hf := iteF hf c3
    refine lv_iconst (v := (-1)) hx hb dX4_rests_21 (by decide) ?_
    have hv := Option.some.inj hf
    exact hret _ _ _ _ _ (by rw [← hv]; exact hP) hS (by rw [← hv]) dX4_rests_22
  · have hf := iteT hf c3
    refine lv_aload_n hx hb dX4_rests_13 rfl (lv_at hl 0 rfl) ?_
    refine lv_iload_n hx hb dX4_rests_14 rfl (lv_at hl 2 rfl) ?_
    obtain ⟨o4, hc5, hf⟩ := bindS hf
    refine ro_i (va_runV (C := RX4) (As := [.int a2]) (rest := []) ⟨hx, hb, hml, hown, hts⟩ (ctX4_noPerson l G h0 ad 0 s_textSize s_place s_people s_readPeople s_acts s_seen s_seed s_rowSize s_feedMany s_feedRow s_restMany s_restFirst a2 o4 hc5) (cwV 1 hts gX4_rests_X4_noPerson rfl rfl rfl (by decide +kernel) ⟨Nat.le_of_ble_eq_true rfl, Nat.le_of_ble_eq_true rfl⟩) (preR_V (q0 := 0) (ci := 4) (hP.sub (ws' := [(h0, moE ad 0 s_textSize s_place s_people s_readPeople s_acts s_seen s_seed s_rowSize s_feedMany s_feedRow s_restMany s_restFirst)]) [0] rfl) hK rfl rfl) rfl rfl hl.1 rfl (lv_room (Nat.le_of_ble_eq_true rfl)) dX4_rests_15 ⟨Nat.zero_le _, Nat.zero_le _⟩) hS hP (fun H locs hP hS => ?_)
    refine lv_if_eq (tgt := 23) hx hb dX4_rests_18 (by decide) (fun c6 => ?_) (fun c6 => ?_)
    · have hf := iteT hf c6
      refine lv_iload_n hx hb dX4_rests_23 rfl (lv_at hl 1 rfl) ?_
      refine lv_iload_n hx hb dX4_rests_24 rfl (lv_at hl 2 rfl) ?_
      refine lv_icmp_eq (tgt := 38) hx hb dX4_rests_25 (by decide) (fun c7 => ?_) (fun c7 => ?_)
      · have hf := iteT hf c7
        refine lv_bipush (v := (-2)) hx hb dX4_rests_38 (by decide) ?_
        have hv := Option.some.inj hf
        exact hret _ _ _ _ _ (by rw [← hv]; exact hP) hS (by rw [← hv]) dX4_rests_40
      · have hf := iteF hf c7
        refine lv_iload_n hx hb dX4_rests_28 rfl (lv_at hl 3 rfl) ?_
        refine lv_i2l (v := (Int32.toInt64 a3)) hx hb dX4_rests_29 rfl ?_
        refine lv_lconst (v := 0) hx hb dX4_rests_30 (by decide) ?_
        refine lv_lconst (v := 1) hx hb dX4_rests_31 (by decide) ?_
        obtain ⟨o8, hc9, hf⟩ := bindS hf
        refine ro_i (va_runS (As := [.long (Int32.toInt64 a3), .long 0, .long 1]) (rest := []) ⟨hx, hb, hml, hown, hts⟩ (ctX4_in l G (Int32.toInt64 a3) 0 1 o8 hc9) (va_cwS 3 hts gX4_rests_X4_in rfl rfl rfl (by decide +kernel) ⟨Nat.le_of_ble_eq_true rfl, Nat.le_of_ble_eq_true rfl⟩) (preR_S (hP.sub (ws' := []) [] rfl) hK) rfl rfl hl.1 rfl (lv_room (Nat.le_of_ble_eq_true rfl)) dX4_rests_32 ⟨Nat.zero_le _, Nat.zero_le _⟩) hS hP (fun H locs hP hS => ?_)
        refine lv_if_ne (tgt := 41) hx hb dX4_rests_35 (by decide) (fun c10 => ?_) (fun c10 => ?_)
        · have hf := iteF hf c10
          refine lv_aload_n hx hb dX4_rests_41 rfl (lv_at hl 0 rfl) ?_
          refine va_get (D := gD G) (ci := 4) (v := .ref (ad 10)) (C := RX4) (T := TX4) (N := 29) hx hb hts hi_X4 hown hK.1 hP 0 rfl rfl 10 (by decide) kl_25 (fun _ h9 => h9) rfl dX4_rests_42 ?_
          refine lv_bipush (v := 14) hx hb dX4_rests_45 (by decide) ?_
          obtain ⟨hi11, hf⟩ := ckS hf
          refine va_iald hx hb hK.1 hP 2 0 rfl rfl hi11 dX4_rests_47 ?_
          refine lv_iload_n hx hb dX4_rests_48 rfl (lv_at hl 1 rfl) ?_
          obtain ⟨o12, hc13, hf⟩ := bindS hf
          refine ro_i (va_runS (As := [.int (q_page (Int32.toNatClampNeg 14)), .int a1]) (rest := []) ⟨hx, hb, hml, hown, hts⟩ (ctX4_has l G (q_page (Int32.toNatClampNeg 14)) a1 o12 hc13) (va_cwS 2 hts gX4_rests_X4_has rfl rfl rfl (by decide +kernel) ⟨Nat.le_of_ble_eq_true rfl, Nat.le_of_ble_eq_true rfl⟩) (preR_S (hP.sub (ws' := []) [] rfl) hK) rfl rfl hl.1 rfl (lv_room (Nat.le_of_ble_eq_true rfl)) dX4_rests_49 ⟨Nat.zero_le _, Nat.zero_le _⟩) hS hP (fun H locs hP hS => ?_)
          refine lv_if_eq (tgt := 69) hx hb dX4_rests_52 (by decide) (fun c14 => ?_) (fun c14 => ?_)
          · have hf := iteT hf c14
            refine lv_bipush (v := (-3)) hx hb dX4_rests_69 (by decide) ?_
            have hv := Option.some.inj hf
            exact hret _ _ _ _ _ (by rw [← hv]; exact hP) hS (by rw [← hv]) dX4_rests_71
          · have hf := iteF hf c14
            refine lv_aload_n hx hb dX4_rests_55 rfl (lv_at hl 0 rfl) ?_
            refine va_get (D := gD G) (ci := 4) (v := .ref (ad 10)) (C := RX4) (T := TX4) (N := 29) hx hb hts hi_X4 hown hK.1 hP 0 rfl rfl 10 (by decide) kl_25 (fun _ h9 => h9) rfl dX4_rests_56 ?_
            refine lv_bipush (v := 14) hx hb dX4_rests_59 (by decide) ?_
            obtain ⟨hi15, hf⟩ := ckS hf
            refine va_iald hx hb hK.1 hP 2 0 rfl rfl hi15 dX4_rests_61 ?_
            refine lv_iload_n hx hb dX4_rests_62 rfl (lv_at hl 2 rfl) ?_
            obtain ⟨o16, hc17, hf⟩ := bindS hf
            refine ro_i (va_runS (As := [.int (q_page (Int32.toNatClampNeg 14)), .int a2]) (rest := []) ⟨hx, hb, hml, hown, hts⟩ (ctX4_has l G (q_page (Int32.toNatClampNeg 14)) a2 o16 hc17) (va_cwS 2 hts gX4_rests_X4_has rfl rfl rfl (by decide +kernel) ⟨Nat.le_of_ble_eq_true rfl, Nat.le_of_ble_eq_true rfl⟩) (preR_S (hP.sub (ws' := []) [] rfl) hK) rfl rfl hl.1 rfl (lv_room (Nat.le_of_ble_eq_true rfl)) dX4_rests_63 ⟨Nat.zero_le _, Nat.zero_le _⟩) hS hP (fun H locs hP hS => ?_)
            refine lv_if_ne (tgt := 72) hx hb dX4_rests_66 (by decide) (fun c18 => ?_) (fun c18 => ?_)
            · have hf := iteF hf c18
              refine lv_aload_n hx hb dX4_rests_72 rfl (lv_at hl 0 rfl) ?_
              refine lv_iload_n hx hb dX4_rests_73 rfl (lv_at hl 1 rfl) ?_
              refine lv_iload_n hx hb dX4_rests_74 rfl (lv_at hl 2 rfl) ?_
              obtain ⟨o19, hc20, hf⟩ := bindS hf
              refine rw_v (va_runV (C := RX4) (As := [.int a1, .int a2]) (rest := []) ⟨hx, hb, hml, hown, hts⟩ (ctX4_findRests l G h0 ad 0 s_textSize s_place s_people s_readPeople s_acts s_seen s_seed s_rowSize s_feedMany s_feedRow s_restMany s_restFirst q_kind q_page q_trial q_row q_gains a1 a2 o19 hc20) (cwV 2 hts gX4_rests_X4_findRests rfl rfl rfl (by decide +kernel) ⟨Nat.le_of_ble_eq_true rfl, Nat.le_of_ble_eq_true rfl⟩) (preW_V (q0 := 0) (ci := 4) (hP.sub (ws' := [(h0, moE ad 0 s_textSize s_place s_people s_readPeople s_acts s_seen s_seed s_rowSize s_feedMany s_feedRow s_restMany s_restFirst), (ad 5, aI G 7 q_kind), (ad 10, aI G 17 q_page), (ad 11, aI G 17 q_trial), (ad 20, aI G 7 q_row), (ad 27, aI G 128 q_gains)]) [0, 1, 2, 3, 4, 5] rfl) (hD.sub (ws' := [(h0, moE ad 0 s_textSize s_place s_people s_readPeople s_acts s_seen s_seed s_rowSize s_feedMany s_feedRow s_restMany s_restFirst), (ad 5, aI G 7 q_kind), (ad 10, aI G 17 q_page), (ad 11, aI G 17 q_trial), (ad 20, aI G 7 q_row), (ad 27, aI G 128 q_gains)]) [0, 1, 2, 3, 4, 5] (by decide) rfl) hK rfl rfl) rfl rfl hl.1 rfl (lv_room (Nat.le_of_ble_eq_true rfl)) dX4_rests_75 ⟨Nat.zero_le _, Nat.zero_le _⟩) hS hP hD [0, 1, 2, 3, 4, 5] rfl rfl rfl (fun H locs hP hD hS => ?_)
              have hP : va_P (gD G) vwCl [(h0, moE ad 0 s_textSize s_place s_people s_readPeople s_acts s_seen s_seed o19.1 s_feedMany s_feedRow o19.2.1 o19.2.2.1), (ad 5, aI G 7 q_kind), (ad 10, aI G 17 q_page), (ad 11, aI G 17 o19.2.2.2.1), (ad 20, aI G 7 o19.2.2.2.2.1), (ad 27, aI G 128 o19.2.2.2.2.2)] H := hP
              have hD : va_D A [(h0, moE ad 0 s_textSize s_place s_people s_readPeople s_acts s_seen s_seed o19.1 s_feedMany s_feedRow o19.2.1 o19.2.2.1), (ad 5, aI G 7 q_kind), (ad 10, aI G 17 q_page), (ad 11, aI G 17 o19.2.2.2.1), (ad 20, aI G 7 o19.2.2.2.2.1), (ad 27, aI G 128 o19.2.2.2.2.2)] := hD
              refine lv_iload_n hx hb dX4_rests_78 rfl (lv_at hl 3 rfl) ?_
              refine lv_if_ne (tgt := 89) hx hb dX4_rests_79 (by decide) (fun c21 => ?_) (fun c21 => ?_)
              · have hf := iteF hf c21
                refine lv_aload_n hx hb dX4_rests_89 rfl (lv_at hl 0 rfl) ?_
                refine va_get (D := gD G) (ci := 4) (v := .int o19.2.2.1) (C := RX4) (T := TX4) (N := 29) hx hb hts hi_X4 hown hK.1 hP 0 rfl rfl 25 (by decide) kl_207 (fun _ h9 => h9) rfl dX4_rests_90 ?_
                have hv := Option.some.inj hf
                exact hret _ _ _ _ _ (by rw [← hv]; exact hP) hS (by rw [← hv]) dX4_rests_93
              · have hf := iteT hf c21
                refine lv_aload_n hx hb dX4_rests_82 rfl (lv_at hl 0 rfl) ?_
                refine va_get (D := gD G) (ci := 4) (v := .int o19.2.1) (C := RX4) (T := TX4) (N := 29) hx hb hts hi_X4 hown hK.1 hP 0 rfl rfl 24 (by decide) kl_204 (fun _ h9 => h9) rfl dX4_rests_83 ?_
                refine lv_goto (tgt := 93) hx hb dX4_rests_86 (by decide) ?_
                have hv := Option.some.inj hf
                exact hret _ _ _ _ _ (by rw [← hv]; exact hP) hS (by rw [← hv]) dX4_rests_93
            · have hf := iteT hf c18
              refine lv_bipush (v := (-3)) hx hb dX4_rests_69 (by decide) ?_
              have hv := Option.some.inj hf
              exact hret _ _ _ _ _ (by rw [← hv]; exact hP) hS (by rw [← hv]) dX4_rests_71
        · have hf := iteT hf c10
          refine lv_bipush (v := (-2)) hx hb dX4_rests_38 (by decide) ?_
          have hv := Option.some.inj hf
          exact hret _ _ _ _ _ (by rw [← hv]; exact hP) hS (by rw [← hv]) dX4_rests_40
    · have hf := iteF hf c6
      refine lv_iconst (v := (-1)) hx hb dX4_rests_21 (by decide) ?_
      have hv := Option.some.inj hf
      exact hret _ _ _ _ _ (by rw [← hv]; exact hP) hS (by rw [← hv]) dX4_rests_22
def fX4_toss_132 (s_people : Int32) (a1 : Int32) (k89 : Int64 → Int64 → Int32 → Int32 → (Nat → Int32) → (Nat → Int64) → Option (Int32 × Int32 × (Nat → Int32) × (Nat → Int64))) : Nat → Int64 → Int64 → Int32 → Int32 → Int32 → Int32 → (Nat → Int32) → (Nat → Int64) → Option (Int32 × Int32 × (Nat → Int32) × (Nat → Int64))
  | 0, _, _, _, _, _, _, _, _ => none
  | n + 1, x3, x5, x7, x8, x9, s_thrown, q_trial, q_weight => (if s_people ≤ x9 then (k89 x3 x5 (x7 + (-1)) s_thrown q_trial q_weight) else (fX4_has x8 x9).bind fun o20 => ((if o20 = 0 then (fX4_toss_132 s_people a1 k89 n x3 x5 x7 x8 (x9 + 1) s_thrown q_trial q_weight) else ck x7 128 ((fX4_many x8).bind fun o24 => (dvL (Int32.toInt64 o24) (ck (x7 &&& (((1 : Int32) <<< (x9 &&& 31)) ^^^ (-1))) 128 (ck (x7 &&& (((1 : Int32) <<< (x9 &&& 31)) ^^^ (-1))) 128 ((if x9 = a1 then (fX4_toss_132 s_people a1 k89 n x3 (x5 + ((q_weight (Int32.toNatClampNeg x7)) / (Int32.toInt64 o24))) x7 x8 (x9 + 1) s_thrown q_trial (vp_updL q_weight (Int32.toNatClampNeg (x7 &&& (((1 : Int32) <<< (x9 &&& 31)) ^^^ (-1)))) ((q_weight (Int32.toNatClampNeg (x7 &&& (((1 : Int32) <<< (x9 &&& 31)) ^^^ (-1))))) + ((q_weight (Int32.toNatClampNeg x7)) / (Int32.toInt64 o24))))) else (fX4_toss_132 s_people a1 k89 n x3 (x5 + 0) x7 x8 (x9 + 1) s_thrown q_trial (vp_updL q_weight (Int32.toNatClampNeg (x7 &&& (((1 : Int32) <<< (x9 &&& 31)) ^^^ (-1)))) ((q_weight (Int32.toNatClampNeg (x7 &&& (((1 : Int32) <<< (x9 &&& 31)) ^^^ (-1))))) + ((q_weight (Int32.toNatClampNeg x7)) / (Int32.toInt64 o24))))))))))))))
def fX4_toss_89 (s_people : Int32) (q_kind : Nat → Int32) (q_page : Nat → Int32) (a1 : Int32) (a2 : Int32) : Nat → Int64 → Int64 → Int32 → Int32 → (Nat → Int32) → (Nat → Int64) → Option (Int32 × Int32 × (Nat → Int32) × (Nat → Int64))
  | 0, _, _, _, _, _, _ => none
  | n + 1, x3, x5, x7, s_thrown, q_trial, q_weight => (if x7 < 0 then (fX4_fraction x5 x3 a2).bind fun o10 => (some (o10, s_thrown, q_trial, q_weight)) else ck x7 128 ((if (lg_cmp (q_weight (Int32.toNatClampNeg x7)) 0) ≤ 0 then (fX4_toss_89 s_people q_kind q_page a1 a2 n x3 x5 (x7 + (-1)) s_thrown q_trial q_weight) else (fX4_begin q_page q_trial).bind fun o14 => (ck 14 17 ((fX4_mayOf s_people q_kind (upd o14 (Int32.toNatClampNeg 14) x7)).bind fun o17 => ((fX4_toss_132 s_people a1 (fun x3 x5 x7 s_thrown q_trial q_weight => fX4_toss_89 s_people q_kind q_page a1 a2 n x3 x5 x7 s_thrown q_trial q_weight) 9 x3 x5 x7 o17 0 s_thrown (upd o14 (Int32.toNatClampNeg 14) x7) q_weight)))))))
def fX4_toss_42 (s_people : Int32) (q_kind : Nat → Int32) (q_page : Nat → Int32) (a1 : Int32) (a2 : Int32) : Nat → Int64 → Int32 → Int32 → (Nat → Int32) → (Nat → Int64) → Option (Int32 × Int32 × (Nat → Int32) × (Nat → Int64))
  | 0, _, _, _, _, _ => none
  | n + 1, x3, x5, s_thrown, q_trial, q_weight => (if 128 ≤ x5 then ck 14 17 (ck (q_page (Int32.toNatClampNeg 14)) 128 (ck 14 17 ((fX4_toss_89 s_people q_kind q_page a1 a2 130 x3 0 (q_page (Int32.toNatClampNeg 14)) s_thrown q_trial (vp_updL q_weight (Int32.toNatClampNeg (q_page (Int32.toNatClampNeg 14))) x3))))) else ck x5 128 ((fX4_toss_42 s_people q_kind q_page a1 a2 n x3 (x5 + 1) s_thrown q_trial (vp_updL q_weight (Int32.toNatClampNeg x5) 0))))
def fX4_toss_20 (s_people : Int32) (q_kind : Nat → Int32) (q_page : Nat → Int32) (a1 : Int32) (a2 : Int32) : Nat → Int64 → Int32 → Int32 → (Nat → Int32) → (Nat → Int64) → Option (Int32 × Int32 × (Nat → Int32) × (Nat → Int64))
  | 0, _, _, _, _, _ => none
  | n + 1, x3, x5, s_thrown, q_trial, q_weight => (if 7 ≤ x5 then (fX4_toss_42 s_people q_kind q_page a1 a2 130 x3 0 s_thrown q_trial q_weight) else (fX4_toss_20 s_people q_kind q_page a1 a2 n (x3 * 420) (x5 + 1) s_thrown q_trial q_weight))
def fX4_toss (s_thrown : Int32) (s_people : Int32) (q_kind : Nat → Int32) (q_page : Nat → Int32) (q_trial : Nat → Int32) (q_weight : Nat → Int64) (a1 : Int32) (a2 : Int32) : Option (Int32 × Int32 × (Nat → Int32) × (Nat → Int64)) :=
  (fX4_noPerson s_people a1).bind fun o1 => ((if o1 = 0 then (fX4_toss_20 s_people q_kind q_page a1 a2 9 1 0 0 q_trial q_weight) else some ((-1), 0, q_trial, q_weight)))
set_option maxHeartbeats 4000000 in
set_option maxRecDepth 100000 in
theorem ctX4_toss (l : Launch) (G : GG) (h0 : Nat) (ad : Nat → Nat) (s_thrown : Int32) (s_textSize : Int32) (s_place : Int32) (s_people : Int32) (s_readPeople : Int32) (s_acts : Int32) (s_seen : Int32) (s_seed : Int64) (s_rowSize : Int32) (s_feedMany : Int32) (s_feedRow : Int32) (s_restMany : Int32) (s_restFirst : Int32) (q_kind : Nat → Int32) (q_page : Nat → Int32) (q_trial : Nat → Int32) (q_weight : Nat → Int64) (a1 : Int32) (a2 : Int32) (out : Int32 × Int32 × (Nat → Int32) × (Nat → Int64)) (hf : fX4_toss s_thrown s_people q_kind q_page q_trial q_weight a1 a2 = some out) : Met l yX4_toss wsX4_toss ({ frames := 3, cells := 0, slots := 0, locals := 69 }) (PcW G [.ref h0, .int a1, .int a2] [(h0, moE ad s_thrown s_textSize s_place s_people s_readPeople s_acts s_seen s_seed s_rowSize s_feedMany s_feedRow s_restMany s_restFirst), (ad 5, aI G 7 q_kind), (ad 10, aI G 17 q_page), (ad 11, aI G 17 q_trial), (ad 28, aJ G 128 q_weight)]) (QiW G [(h0, moE ad s_thrown s_textSize s_place s_people s_readPeople s_acts s_seen s_seed s_rowSize s_feedMany s_feedRow s_restMany s_restFirst), (ad 5, aI G 7 q_kind), (ad 10, aI G 17 q_page), (ad 11, aI G 17 q_trial), (ad 28, aJ G 128 q_weight)] [(h0, moE ad out.2.1 s_textSize s_place s_people s_readPeople s_acts s_seen s_seed s_rowSize s_feedMany s_feedRow s_restMany s_restFirst), (ad 5, aI G 7 q_kind), (ad 10, aI G 17 q_page), (ad 11, aI G 17 out.2.2.1), (ad 28, aJ G 128 out.2.2.2)] out.1) 0 0 (inA [(h0, moE ad s_thrown s_textSize s_place s_people s_readPeople s_acts s_seen s_seed s_rowSize s_feedMany s_feedRow s_restMany s_restFirst), (ad 5, aI G 7 q_kind), (ad 10, aI G 17 q_page), (ad 11, aI G 17 q_trial), (ad 28, aJ G 128 q_weight)]) := by
  refine mk_Wi (cc := cX4_toss) (maxL := 12) (by decide) rfl (Nat.le_of_ble_eq_true rfl) ?_
  intro p e s m args below meth c Q ls A S hP hK hD hl hret
  obtain ⟨hx, hb, hml, hown, hts⟩ := S
  have hown : s.vm.findClass RX4 = some m.cls := hown
  have kl_60 := hts (.fieldLink RX4 60 "ArrestOrderModel" "thrown" "I") (by decide +kernel)
  have hi_X4 : ∀ w ∈ wsX40, w ∈ wsX4_toss := fun _ h => List.mem_cons_of_mem _ (List.mem_append_right _ h)
  have kl_56 := hts (.fieldLink RX4 56 "ArrestOrderModel" "weight" "[J") (by decide +kernel)
  have kl_25 := hts (.fieldLink RX4 25 "ArrestOrderModel" "page" "[I") (by decide +kernel)
  have kl_28 := hts (.fieldLink RX4 28 "ArrestOrderModel" "trial" "[I") (by decide +kernel)
  have kl_64 := hts (.fieldLink RX4 64 "ArrestOrderModel" "people" "I") (by decide +kernel)
  have hS : va_S A s.heap s.heap [] := va_S.rf
  have hl : lv_has ls 12 [(0, .ref h0), (1, .int a1), (2, .int a2)] := hl
  have hC89 : ∀ (n : Nat) (x3 : Int64) (x5 : Int64) (x7 : Int32) (s_thrown : Int32) (q_trial : Nat → Int32) (q_weight : Nat → Int64) (H : Heap) (locs : List Loc) (ls : Array Slot), va_P (gD G) vwCl [(h0, moE ad s_thrown s_textSize s_place s_people s_readPeople s_acts s_seen s_seed s_rowSize s_feedMany s_feedRow s_restMany s_restFirst), (ad 5, aI G 7 q_kind), (ad 10, aI G 17 q_page), (ad 11, aI G 17 q_trial), (ad 28, aJ G 128 q_weight)] H → va_D A [(h0, moE ad s_thrown s_textSize s_place s_people s_readPeople s_acts s_seen s_seed s_rowSize s_feedMany s_feedRow s_restMany s_restFirst), (ad 5, aI G 7 q_kind), (ad 10, aI G 17 q_page), (ad 11, aI G 17 q_trial), (ad 28, aJ G 128 q_weight)] → va_S A s.heap H locs → lv_has ls 12 [(0, .ref h0), (1, .int a1), (2, .int a2), (3, .long x3), (5, .long x5), (7, .int x7)] → fX4_toss_89 s_people q_kind q_page a1 a2 n x3 x5 x7 s_thrown q_trial q_weight = some out → W p l e ({ frames := 3, cells := 0, slots := 0, locals := 69 }) s m args below meth c H locs 0 0 Q (F0 m 89 ls []) := by
    intro n89
    induction n89 with
    | zero => intro x3 x5 x7 s_thrown q_trial q_weight H locs ls hP hD hS hl hf; exact absurd (show none = some out from hf) (fun z => by cases z)
    | succ n89 ih89 =>
      have hC132 : ∀ (n : Nat) (x3 : Int64) (x5 : Int64) (x7 : Int32) (x8 : Int32) (x9 : Int32) (s_thrown : Int32) (q_trial : Nat → Int32) (q_weight : Nat → Int64) (H : Heap) (locs : List Loc) (ls : Array Slot), va_P (gD G) vwCl [(h0, moE ad s_thrown s_textSize s_place s_people s_readPeople s_acts s_seen s_seed s_rowSize s_feedMany s_feedRow s_restMany s_restFirst), (ad 5, aI G 7 q_kind), (ad 10, aI G 17 q_page), (ad 11, aI G 17 q_trial), (ad 28, aJ G 128 q_weight)] H → va_D A [(h0, moE ad s_thrown s_textSize s_place s_people s_readPeople s_acts s_seen s_seed s_rowSize s_feedMany s_feedRow s_restMany s_restFirst), (ad 5, aI G 7 q_kind), (ad 10, aI G 17 q_page), (ad 11, aI G 17 q_trial), (ad 28, aJ G 128 q_weight)] → va_S A s.heap H locs → lv_has ls 12 [(0, .ref h0), (1, .int a1), (2, .int a2), (3, .long x3), (5, .long x5), (7, .int x7), (8, .int x8), (9, .int x9)] → fX4_toss_132 s_people a1 (fun x3 x5 x7 s_thrown q_trial q_weight => fX4_toss_89 s_people q_kind q_page a1 a2 n89 x3 x5 x7 s_thrown q_trial q_weight) n x3 x5 x7 x8 x9 s_thrown q_trial q_weight = some out → W p l e ({ frames := 3, cells := 0, slots := 0, locals := 69 }) s m args below meth c H locs 0 0 Q (F0 m 132 ls []) := by
        intro n132
        induction n132 with
        | zero => intro x3 x5 x7 x8 x9 s_thrown q_trial q_weight H locs ls hP hD hS hl hf; exact absurd (show none = some out from hf) (fun z => by cases z)
        | succ n132 ih132 =>
          intro x3 x5 x7 x8 x9 s_thrown q_trial q_weight H locs ls hP hD hS hl hf
          refine lv_iload hx hb dX4_toss_132 (lv_at hl 7 rfl) ?_
          refine lv_aload_n hx hb dX4_toss_134 rfl (lv_at hl 0 rfl) ?_
          refine va_get (D := gD G) (ci := 4) (v := .int s_people) (C := RX4) (T := TX4) (N := 29) hx hb hts hi_X4 hown hK.1 hP 0 rfl rfl 4 (by decide) kl_64 (fun _ h9 => h9) rfl dX4_toss_135 ?_
          refine lv_icmp_ge (tgt := 209) hx hb dX4_toss_138 (by decide) (fun c19 => ?_) (fun c19 => ?_)
          · have hf := iteT hf c19
            refine lv_iinc (v := (x7 + (-1))) (lv' := [(7, .int (x7 + (-1))), (0, .ref h0), (1, .int a1), (2, .int a2), (3, .long x3), (5, .long x5), (8, .int x8), (9, .int x9)]) hx hb dX4_toss_209 hl (k := 5) rfl rfl (by decide) rfl (fun ls hl => ?_)
            refine lv_goto (tgt := 89) hx hb dX4_toss_212 (by decide) ?_
            exact ih89 x3 x5 (x7 + (-1)) s_thrown q_trial q_weight _ _ _ hP hD hS (lv_sub hl [1, 2, 3, 4, 5, 0] rfl) hf
          · have hf := iteF hf c19
            refine lv_iload hx hb dX4_toss_141 (lv_at hl 6 rfl) ?_
            refine lv_iload hx hb dX4_toss_143 (lv_at hl 7 rfl) ?_
            obtain ⟨o20, hc21, hf⟩ := bindS hf
            refine ro_i (va_runS (As := [.int x8, .int x9]) (rest := []) ⟨hx, hb, hml, hown, hts⟩ (ctX4_has l G x8 x9 o20 hc21) (va_cwS 2 hts gX4_toss_X4_has rfl rfl rfl (by decide +kernel) ⟨Nat.le_of_ble_eq_true rfl, Nat.le_of_ble_eq_true rfl⟩) (preR_S (hP.sub (ws' := []) [] rfl) hK) rfl rfl hl.1 rfl (lv_room (Nat.le_of_ble_eq_true rfl)) dX4_toss_145 ⟨Nat.zero_le _, Nat.zero_le _⟩) hS hP (fun H locs hP hS => ?_)
            refine lv_if_eq (tgt := 203) hx hb dX4_toss_148 (by decide) (fun c22 => ?_) (fun c22 => ?_)
            · have hf := iteT hf c22
              refine lv_iinc (v := (x9 + 1)) (lv' := [(9, .int (x9 + 1)), (0, .ref h0), (1, .int a1), (2, .int a2), (3, .long x3), (5, .long x5), (7, .int x7), (8, .int x8)]) hx hb dX4_toss_203 hl (k := 7) rfl rfl (by decide) rfl (fun ls hl => ?_)
              refine lv_goto (tgt := 132) hx hb dX4_toss_206 (by decide) ?_
              exact ih132 x3 x5 x7 x8 (x9 + 1) s_thrown q_trial q_weight _ _ _ hP hD hS (lv_sub hl [1, 2, 3, 4, 5, 6, 7, 0] rfl) hf
            · have hf := iteF hf c22
              refine lv_aload_n hx hb dX4_toss_151 rfl (lv_at hl 0 rfl) ?_
              refine va_get (D := gD G) (ci := 4) (v := .ref (ad 28)) (C := RX4) (T := TX4) (N := 29) hx hb hts hi_X4 hown hK.1 hP 0 rfl rfl 28 (by decide) kl_56 (fun _ h9 => h9) rfl dX4_toss_152 ?_
              refine lv_iload hx hb dX4_toss_155 (lv_at hl 5 rfl) ?_
              obtain ⟨hi23, hf⟩ := ckS hf
              refine va_lald hx hb hK.1 hP 4 1 rfl rfl hi23 dX4_toss_157 ?_
              refine lv_iload hx hb dX4_toss_158 (lv_at hl 6 rfl) ?_
              obtain ⟨o24, hc25, hf⟩ := bindS hf
              refine ro_i (va_runS (As := [.int x8]) (rest := [.long (q_weight (Int32.toNatClampNeg x7))]) ⟨hx, hb, hml, hown, hts⟩ (ctX4_many l G x8 o24 hc25) (va_cwS 1 hts gX4_toss_X4_many rfl rfl rfl (by decide +kernel) ⟨Nat.le_of_ble_eq_true rfl, Nat.le_of_ble_eq_true rfl⟩) (preR_S (hP.sub (ws' := []) [] rfl) hK) rfl rfl hl.1 rfl (lv_room (Nat.le_of_ble_eq_true rfl)) dX4_toss_160 ⟨Nat.zero_le _, Nat.zero_le _⟩) hS hP (fun H locs hP hS => ?_)
              refine lv_i2l (v := (Int32.toInt64 o24)) hx hb dX4_toss_163 rfl ?_
              obtain ⟨hz26, hf⟩ := dvLS hf
              refine lv_ldiv hx hb dX4_toss_164 hz26 ?_
              refine lv_lstore (lv' := [(10, .long ((q_weight (Int32.toNatClampNeg x7)) / (Int32.toInt64 o24))), (0, .ref h0), (1, .int a1), (2, .int a2), (3, .long x3), (5, .long x5), (7, .int x7), (8, .int x8), (9, .int x9)]) hx hb dX4_toss_165 hl (by decide) rfl (fun ls hl => ?_)
              refine lv_aload_n hx hb dX4_toss_167 rfl (lv_at hl 1 rfl) ?_
              refine va_get (D := gD G) (ci := 4) (v := .ref (ad 28)) (C := RX4) (T := TX4) (N := 29) hx hb hts hi_X4 hown hK.1 hP 0 rfl rfl 28 (by decide) kl_56 (fun _ h9 => h9) rfl dX4_toss_168 ?_
              refine lv_iload hx hb dX4_toss_171 (lv_at hl 6 rfl) ?_
              refine lv_iconst (v := 1) hx hb dX4_toss_173 (by decide) ?_
              refine lv_iload hx hb dX4_toss_174 (lv_at hl 8 rfl) ?_
              refine lv_ishl hx hb dX4_toss_176 ?_
              refine lv_iconst (v := (-1)) hx hb dX4_toss_177 (by decide) ?_
              refine lv_ixor hx hb dX4_toss_178 ?_
              refine lv_iand hx hb dX4_toss_179 ?_
              refine lv_dup2_11 hx hb dX4_toss_180 rfl rfl ?_
              obtain ⟨hi27, hf⟩ := ckS hf
              refine va_lald hx hb hK.1 hP 4 1 rfl rfl hi27 dX4_toss_181 ?_
              refine lv_lload hx hb dX4_toss_182 (lv_at hl 0 rfl) ?_
              refine lv_ladd hx hb dX4_toss_184 ?_
              obtain ⟨hi28, hf⟩ := ckS hf
              refine va_last hx hb hK.1 hP hD hS 4 1 rfl rfl hi28 dX4_toss_185 (fun H locs hP hD hS => ?_)
              have hP : va_P (gD G) vwCl [(h0, moE ad s_thrown s_textSize s_place s_people s_readPeople s_acts s_seen s_seed s_rowSize s_feedMany s_feedRow s_restMany s_restFirst), (ad 5, aI G 7 q_kind), (ad 10, aI G 17 q_page), (ad 11, aI G 17 q_trial), (ad 28, aJ G 128 (vp_updL q_weight (Int32.toNatClampNeg (x7 &&& (((1 : Int32) <<< (x9 &&& 31)) ^^^ (-1)))) ((q_weight (Int32.toNatClampNeg (x7 &&& (((1 : Int32) <<< (x9 &&& 31)) ^^^ (-1))))) + ((q_weight (Int32.toNatClampNeg x7)) / (Int32.toInt64 o24)))))] H := hP
              have hD : va_D A [(h0, moE ad s_thrown s_textSize s_place s_people s_readPeople s_acts s_seen s_seed s_rowSize s_feedMany s_feedRow s_restMany s_restFirst), (ad 5, aI G 7 q_kind), (ad 10, aI G 17 q_page), (ad 11, aI G 17 q_trial), (ad 28, aJ G 128 (vp_updL q_weight (Int32.toNatClampNeg (x7 &&& (((1 : Int32) <<< (x9 &&& 31)) ^^^ (-1)))) ((q_weight (Int32.toNatClampNeg (x7 &&& (((1 : Int32) <<< (x9 &&& 31)) ^^^ (-1))))) + ((q_weight (Int32.toNatClampNeg x7)) / (Int32.toInt64 o24)))))] := hD
              refine lv_lload hx hb dX4_toss_186 (lv_at hl 5 rfl) ?_
              refine lv_iload hx hb dX4_toss_188 (lv_at hl 8 rfl) ?_
              refine lv_iload_n hx hb dX4_toss_190 rfl (lv_at hl 2 rfl) ?_
              refine lv_icmp_ne (tgt := 199) hx hb dX4_toss_191 (by decide) (fun c29 => ?_) (fun c29 => ?_)
              · have hf := iteF hf c29
                refine lv_lconst (v := 0) hx hb dX4_toss_199 (by decide) ?_
                refine lv_ladd hx hb dX4_toss_200 ?_
                refine lv_lstore (lv' := [(5, .long (x5 + 0)), (10, .long ((q_weight (Int32.toNatClampNeg x7)) / (Int32.toInt64 o24))), (0, .ref h0), (1, .int a1), (2, .int a2), (3, .long x3), (7, .int x7), (8, .int x8), (9, .int x9)]) hx hb dX4_toss_201 hl (by decide) rfl (fun ls hl => ?_)
                refine lv_iinc (v := (x9 + 1)) (lv' := [(9, .int (x9 + 1)), (5, .long (x5 + 0)), (10, .long ((q_weight (Int32.toNatClampNeg x7)) / (Int32.toInt64 o24))), (0, .ref h0), (1, .int a1), (2, .int a2), (3, .long x3), (7, .int x7), (8, .int x8)]) hx hb dX4_toss_203 hl (k := 8) rfl rfl (by decide) rfl (fun ls hl => ?_)
                refine lv_goto (tgt := 132) hx hb dX4_toss_206 (by decide) ?_
                exact ih132 x3 (x5 + 0) x7 x8 (x9 + 1) s_thrown q_trial (vp_updL q_weight (Int32.toNatClampNeg (x7 &&& (((1 : Int32) <<< (x9 &&& 31)) ^^^ (-1)))) ((q_weight (Int32.toNatClampNeg (x7 &&& (((1 : Int32) <<< (x9 &&& 31)) ^^^ (-1))))) + ((q_weight (Int32.toNatClampNeg x7)) / (Int32.toInt64 o24)))) _ _ _ hP hD hS (lv_sub hl [3, 4, 5, 6, 1, 7, 8, 0] rfl) hf
              · have hf := iteT hf c29
                refine lv_lload hx hb dX4_toss_194 (lv_at hl 0 rfl) ?_
                refine lv_goto (tgt := 200) hx hb dX4_toss_196 (by decide) ?_
                refine lv_ladd hx hb dX4_toss_200 ?_
                refine lv_lstore (lv' := [(5, .long (x5 + ((q_weight (Int32.toNatClampNeg x7)) / (Int32.toInt64 o24)))), (10, .long ((q_weight (Int32.toNatClampNeg x7)) / (Int32.toInt64 o24))), (0, .ref h0), (1, .int a1), (2, .int a2), (3, .long x3), (7, .int x7), (8, .int x8), (9, .int x9)]) hx hb dX4_toss_201 hl (by decide) rfl (fun ls hl => ?_)
                refine lv_iinc (v := (x9 + 1)) (lv' := [(9, .int (x9 + 1)), (5, .long (x5 + ((q_weight (Int32.toNatClampNeg x7)) / (Int32.toInt64 o24)))), (10, .long ((q_weight (Int32.toNatClampNeg x7)) / (Int32.toInt64 o24))), (0, .ref h0), (1, .int a1), (2, .int a2), (3, .long x3), (7, .int x7), (8, .int x8)]) hx hb dX4_toss_203 hl (k := 8) rfl rfl (by decide) rfl (fun ls hl => ?_)
                refine lv_goto (tgt := 132) hx hb dX4_toss_206 (by decide) ?_
                exact ih132 x3 (x5 + ((q_weight (Int32.toNatClampNeg x7)) / (Int32.toInt64 o24))) x7 x8 (x9 + 1) s_thrown q_trial (vp_updL q_weight (Int32.toNatClampNeg (x7 &&& (((1 : Int32) <<< (x9 &&& 31)) ^^^ (-1)))) ((q_weight (Int32.toNatClampNeg (x7 &&& (((1 : Int32) <<< (x9 &&& 31)) ^^^ (-1))))) + ((q_weight (Int32.toNatClampNeg x7)) / (Int32.toInt64 o24)))) _ _ _ hP hD hS (lv_sub hl [3, 4, 5, 6, 1, 7, 8, 0] rfl) hf
      intro x3 x5 x7 s_thrown q_trial q_weight H locs ls hP hD hS hl hf
      refine lv_iload hx hb dX4_toss_89 (lv_at hl 5 rfl) ?_
      refine lv_if_lt (tgt := 215) hx hb dX4_toss_91 (by decide) (fun c9 => ?_) (fun c9 => ?_)
      · have hf := iteT hf c9
        refine lv_lload hx hb dX4_toss_215 (lv_at hl 4 rfl) ?_
        refine lv_lload_n hx hb dX4_toss_217 rfl (lv_at hl 3 rfl) ?_
        refine lv_iload_n hx hb dX4_toss_218 rfl (lv_at hl 2 rfl) ?_
        obtain ⟨o10, hc11, hf⟩ := bindS hf
        refine ro_i (va_runS (As := [.long x5, .long x3, .int a2]) (rest := []) ⟨hx, hb, hml, hown, hts⟩ (ctX4_fraction l G x5 x3 a2 o10 hc11) (va_cwS 3 hts gX4_toss_X4_fraction rfl rfl rfl (by decide +kernel) ⟨Nat.le_of_ble_eq_true rfl, Nat.le_of_ble_eq_true rfl⟩) (preR_S (hP.sub (ws' := []) [] rfl) hK) rfl rfl hl.1 rfl (lv_room (Nat.le_of_ble_eq_true rfl)) dX4_toss_219 ⟨Nat.zero_le _, Nat.zero_le _⟩) hS hP (fun H locs hP hS => ?_)
        have hv := Option.some.inj hf
        exact hret _ _ _ _ _ (by rw [← hv]; exact hP) hS (by rw [← hv]) dX4_toss_222
      · have hf := iteF hf c9
        refine lv_aload_n hx hb dX4_toss_94 rfl (lv_at hl 0 rfl) ?_
        refine va_get (D := gD G) (ci := 4) (v := .ref (ad 28)) (C := RX4) (T := TX4) (N := 29) hx hb hts hi_X4 hown hK.1 hP 0 rfl rfl 28 (by decide) kl_56 (fun _ h9 => h9) rfl dX4_toss_95 ?_
        refine lv_iload hx hb dX4_toss_98 (lv_at hl 5 rfl) ?_
        obtain ⟨hi12, hf⟩ := ckS hf
        refine va_lald hx hb hK.1 hP 4 1 rfl rfl hi12 dX4_toss_100 ?_
        refine lv_lconst (v := 0) hx hb dX4_toss_101 (by decide) ?_
        refine W.lcmp hx hb dX4_toss_102 ?_
        refine lv_if_le (tgt := 209) hx hb dX4_toss_103 (by decide) (fun c13 => ?_) (fun c13 => ?_)
        · have hf := iteT hf c13
          refine lv_iinc (v := (x7 + (-1))) (lv' := [(7, .int (x7 + (-1))), (0, .ref h0), (1, .int a1), (2, .int a2), (3, .long x3), (5, .long x5)]) hx hb dX4_toss_209 hl (k := 5) rfl rfl (by decide) rfl (fun ls hl => ?_)
          refine lv_goto (tgt := 89) hx hb dX4_toss_212 (by decide) ?_
          exact ih89 x3 x5 (x7 + (-1)) s_thrown q_trial q_weight _ _ _ hP hD hS (lv_sub hl [1, 2, 3, 4, 5, 0] rfl) hf
        · have hf := iteF hf c13
          refine lv_aload_n hx hb dX4_toss_106 rfl (lv_at hl 0 rfl) ?_
          obtain ⟨o14, hc15, hf⟩ := bindS hf
          refine rw_v (va_runV (C := RX4) (As := []) (rest := []) ⟨hx, hb, hml, hown, hts⟩ (ctX4_begin l G h0 ad s_thrown s_textSize s_place s_people s_readPeople s_acts s_seen s_seed s_rowSize s_feedMany s_feedRow s_restMany s_restFirst q_page q_trial o14 hc15) (cwV 0 hts gX4_toss_X4_begin rfl rfl rfl (by decide +kernel) ⟨Nat.le_of_ble_eq_true rfl, Nat.le_of_ble_eq_true rfl⟩) (preW_V (q0 := 0) (ci := 4) (hP.sub (ws' := [(h0, moE ad s_thrown s_textSize s_place s_people s_readPeople s_acts s_seen s_seed s_rowSize s_feedMany s_feedRow s_restMany s_restFirst), (ad 10, aI G 17 q_page), (ad 11, aI G 17 q_trial)]) [0, 2, 3] rfl) (hD.sub (ws' := [(h0, moE ad s_thrown s_textSize s_place s_people s_readPeople s_acts s_seen s_seed s_rowSize s_feedMany s_feedRow s_restMany s_restFirst), (ad 10, aI G 17 q_page), (ad 11, aI G 17 q_trial)]) [0, 2, 3] (by decide) rfl) hK rfl rfl) rfl rfl hl.1 rfl (lv_room (Nat.le_of_ble_eq_true rfl)) dX4_toss_107 ⟨Nat.zero_le _, Nat.zero_le _⟩) hS hP hD [0, 2, 3] rfl rfl rfl (fun H locs hP hD hS => ?_)
          have hP : va_P (gD G) vwCl [(h0, moE ad s_thrown s_textSize s_place s_people s_readPeople s_acts s_seen s_seed s_rowSize s_feedMany s_feedRow s_restMany s_restFirst), (ad 5, aI G 7 q_kind), (ad 10, aI G 17 q_page), (ad 11, aI G 17 o14), (ad 28, aJ G 128 q_weight)] H := hP
          have hD : va_D A [(h0, moE ad s_thrown s_textSize s_place s_people s_readPeople s_acts s_seen s_seed s_rowSize s_feedMany s_feedRow s_restMany s_restFirst), (ad 5, aI G 7 q_kind), (ad 10, aI G 17 q_page), (ad 11, aI G 17 o14), (ad 28, aJ G 128 q_weight)] := hD
          refine lv_aload_n hx hb dX4_toss_110 rfl (lv_at hl 0 rfl) ?_
          refine va_get (D := gD G) (ci := 4) (v := .ref (ad 11)) (C := RX4) (T := TX4) (N := 29) hx hb hts hi_X4 hown hK.1 hP 0 rfl rfl 11 (by decide) kl_28 (fun _ h9 => h9) rfl dX4_toss_111 ?_
          refine lv_bipush (v := 14) hx hb dX4_toss_114 (by decide) ?_
          refine lv_iload hx hb dX4_toss_116 (lv_at hl 5 rfl) ?_
          obtain ⟨hi16, hf⟩ := ckS hf
          refine va_iast hx hb hK.1 hP hD hS 3 0 rfl rfl hi16 dX4_toss_118 (fun H locs hP hD hS => ?_)
          have hP : va_P (gD G) vwCl [(h0, moE ad s_thrown s_textSize s_place s_people s_readPeople s_acts s_seen s_seed s_rowSize s_feedMany s_feedRow s_restMany s_restFirst), (ad 5, aI G 7 q_kind), (ad 10, aI G 17 q_page), (ad 11, aI G 17 (upd o14 (Int32.toNatClampNeg 14) x7)), (ad 28, aJ G 128 q_weight)] H := hP
          have hD : va_D A [(h0, moE ad s_thrown s_textSize s_place s_people s_readPeople s_acts s_seen s_seed s_rowSize s_feedMany s_feedRow s_restMany s_restFirst), (ad 5, aI G 7 q_kind), (ad 10, aI G 17 q_page), (ad 11, aI G 17 (upd o14 (Int32.toNatClampNeg 14) x7)), (ad 28, aJ G 128 q_weight)] := hD
          refine lv_aload_n hx hb dX4_toss_119 rfl (lv_at hl 0 rfl) ?_
          refine lv_aload_n hx hb dX4_toss_120 rfl (lv_at hl 0 rfl) ?_
          refine va_get (D := gD G) (ci := 4) (v := .ref (ad 11)) (C := RX4) (T := TX4) (N := 29) hx hb hts hi_X4 hown hK.1 hP 0 rfl rfl 11 (by decide) kl_28 (fun _ h9 => h9) rfl dX4_toss_121 ?_
          obtain ⟨o17, hc18, hf⟩ := bindS hf
          refine ro_i (va_runV (C := RX4) (As := [.ref (ad 11)]) (rest := []) ⟨hx, hb, hml, hown, hts⟩ (ctX4_mayOf l G h0 (ad 11) ad s_thrown s_textSize s_place s_people s_readPeople s_acts s_seen s_seed s_rowSize s_feedMany s_feedRow s_restMany s_restFirst q_kind (upd o14 (Int32.toNatClampNeg 14) x7) o17 hc18) (cwV 1 hts gX4_toss_X4_mayOf rfl rfl rfl (by decide +kernel) ⟨Nat.le_of_ble_eq_true rfl, Nat.le_of_ble_eq_true rfl⟩) (preR_V (q0 := 0) (ci := 4) (hP.sub (ws' := [(h0, moE ad s_thrown s_textSize s_place s_people s_readPeople s_acts s_seen s_seed s_rowSize s_feedMany s_feedRow s_restMany s_restFirst), (ad 5, aI G 7 q_kind), (ad 11, aI G 17 (upd o14 (Int32.toNatClampNeg 14) x7))]) [0, 1, 3] rfl) hK rfl rfl) rfl rfl hl.1 rfl (lv_room (Nat.le_of_ble_eq_true rfl)) dX4_toss_124 ⟨Nat.zero_le _, Nat.zero_le _⟩) hS hP (fun H locs hP hS => ?_)
          refine lv_istore (lv' := [(8, .int o17), (0, .ref h0), (1, .int a1), (2, .int a2), (3, .long x3), (5, .long x5), (7, .int x7)]) hx hb dX4_toss_127 hl (by decide) rfl (fun ls hl => ?_)
          refine lv_iconst (v := 0) hx hb dX4_toss_129 (by decide) ?_
          refine lv_istore (lv' := [(9, .int 0), (8, .int o17), (0, .ref h0), (1, .int a1), (2, .int a2), (3, .long x3), (5, .long x5), (7, .int x7)]) hx hb dX4_toss_130 hl (by decide) rfl (fun ls hl => ?_)
          exact hC132 9 x3 x5 x7 o17 0 s_thrown (upd o14 (Int32.toNatClampNeg 14) x7) q_weight _ _ _ hP hD hS (lv_sub hl [2, 3, 4, 5, 6, 7, 1, 0] rfl) hf
  have hC42 : ∀ (n : Nat) (x3 : Int64) (x5 : Int32) (s_thrown : Int32) (q_trial : Nat → Int32) (q_weight : Nat → Int64) (H : Heap) (locs : List Loc) (ls : Array Slot), va_P (gD G) vwCl [(h0, moE ad s_thrown s_textSize s_place s_people s_readPeople s_acts s_seen s_seed s_rowSize s_feedMany s_feedRow s_restMany s_restFirst), (ad 5, aI G 7 q_kind), (ad 10, aI G 17 q_page), (ad 11, aI G 17 q_trial), (ad 28, aJ G 128 q_weight)] H → va_D A [(h0, moE ad s_thrown s_textSize s_place s_people s_readPeople s_acts s_seen s_seed s_rowSize s_feedMany s_feedRow s_restMany s_restFirst), (ad 5, aI G 7 q_kind), (ad 10, aI G 17 q_page), (ad 11, aI G 17 q_trial), (ad 28, aJ G 128 q_weight)] → va_S A s.heap H locs → lv_has ls 12 [(0, .ref h0), (1, .int a1), (2, .int a2), (3, .long x3), (5, .int x5)] → fX4_toss_42 s_people q_kind q_page a1 a2 n x3 x5 s_thrown q_trial q_weight = some out → W p l e ({ frames := 3, cells := 0, slots := 0, locals := 69 }) s m args below meth c H locs 0 0 Q (F0 m 42 ls []) := by
    intro n42
    induction n42 with
    | zero => intro x3 x5 s_thrown q_trial q_weight H locs ls hP hD hS hl hf; exact absurd (show none = some out from hf) (fun z => by cases z)
    | succ n42 ih42 =>
      intro x3 x5 s_thrown q_trial q_weight H locs ls hP hD hS hl hf
      refine lv_iload hx hb dX4_toss_42 (lv_at hl 4 rfl) ?_
      refine lv_sipush (v := 128) hx hb dX4_toss_44 (by decide) ?_
      refine lv_icmp_ge (tgt := 64) hx hb dX4_toss_47 (by decide) (fun c5 => ?_) (fun c5 => ?_)
      · have hf := iteT hf c5
        refine lv_aload_n hx hb dX4_toss_64 rfl (lv_at hl 0 rfl) ?_
        refine va_get (D := gD G) (ci := 4) (v := .ref (ad 28)) (C := RX4) (T := TX4) (N := 29) hx hb hts hi_X4 hown hK.1 hP 0 rfl rfl 28 (by decide) kl_56 (fun _ h9 => h9) rfl dX4_toss_65 ?_
        refine lv_aload_n hx hb dX4_toss_68 rfl (lv_at hl 0 rfl) ?_
        refine va_get (D := gD G) (ci := 4) (v := .ref (ad 10)) (C := RX4) (T := TX4) (N := 29) hx hb hts hi_X4 hown hK.1 hP 0 rfl rfl 10 (by decide) kl_25 (fun _ h9 => h9) rfl dX4_toss_69 ?_
        refine lv_bipush (v := 14) hx hb dX4_toss_72 (by decide) ?_
        obtain ⟨hi6, hf⟩ := ckS hf
        refine va_iald hx hb hK.1 hP 2 0 rfl rfl hi6 dX4_toss_74 ?_
        refine lv_lload_n hx hb dX4_toss_75 rfl (lv_at hl 3 rfl) ?_
        obtain ⟨hi7, hf⟩ := ckS hf
        refine va_last hx hb hK.1 hP hD hS 4 1 rfl rfl hi7 dX4_toss_76 (fun H locs hP hD hS => ?_)
        have hP : va_P (gD G) vwCl [(h0, moE ad s_thrown s_textSize s_place s_people s_readPeople s_acts s_seen s_seed s_rowSize s_feedMany s_feedRow s_restMany s_restFirst), (ad 5, aI G 7 q_kind), (ad 10, aI G 17 q_page), (ad 11, aI G 17 q_trial), (ad 28, aJ G 128 (vp_updL q_weight (Int32.toNatClampNeg (q_page (Int32.toNatClampNeg 14))) x3))] H := hP
        have hD : va_D A [(h0, moE ad s_thrown s_textSize s_place s_people s_readPeople s_acts s_seen s_seed s_rowSize s_feedMany s_feedRow s_restMany s_restFirst), (ad 5, aI G 7 q_kind), (ad 10, aI G 17 q_page), (ad 11, aI G 17 q_trial), (ad 28, aJ G 128 (vp_updL q_weight (Int32.toNatClampNeg (q_page (Int32.toNatClampNeg 14))) x3))] := hD
        refine lv_lconst (v := 0) hx hb dX4_toss_77 (by decide) ?_
        refine lv_lstore (lv' := [(5, .long 0), (0, .ref h0), (1, .int a1), (2, .int a2), (3, .long x3)]) hx hb dX4_toss_78 hl (by decide) rfl (fun ls hl => ?_)
        refine lv_aload_n hx hb dX4_toss_80 rfl (lv_at hl 1 rfl) ?_
        refine va_get (D := gD G) (ci := 4) (v := .ref (ad 10)) (C := RX4) (T := TX4) (N := 29) hx hb hts hi_X4 hown hK.1 hP 0 rfl rfl 10 (by decide) kl_25 (fun _ h9 => h9) rfl dX4_toss_81 ?_
        refine lv_bipush (v := 14) hx hb dX4_toss_84 (by decide) ?_
        obtain ⟨hi8, hf⟩ := ckS hf
        refine va_iald hx hb hK.1 hP 2 0 rfl rfl hi8 dX4_toss_86 ?_
        refine lv_istore (lv' := [(7, .int (q_page (Int32.toNatClampNeg 14))), (5, .long 0), (0, .ref h0), (1, .int a1), (2, .int a2), (3, .long x3)]) hx hb dX4_toss_87 hl (by decide) rfl (fun ls hl => ?_)
        exact hC89 130 x3 0 (q_page (Int32.toNatClampNeg 14)) s_thrown q_trial (vp_updL q_weight (Int32.toNatClampNeg (q_page (Int32.toNatClampNeg 14))) x3) _ _ _ hP hD hS (lv_sub hl [2, 3, 4, 5, 1, 0] rfl) hf
      · have hf := iteF hf c5
        refine lv_aload_n hx hb dX4_toss_50 rfl (lv_at hl 0 rfl) ?_
        refine va_get (D := gD G) (ci := 4) (v := .ref (ad 28)) (C := RX4) (T := TX4) (N := 29) hx hb hts hi_X4 hown hK.1 hP 0 rfl rfl 28 (by decide) kl_56 (fun _ h9 => h9) rfl dX4_toss_51 ?_
        refine lv_iload hx hb dX4_toss_54 (lv_at hl 4 rfl) ?_
        refine lv_lconst (v := 0) hx hb dX4_toss_56 (by decide) ?_
        obtain ⟨hi30, hf⟩ := ckS hf
        refine va_last hx hb hK.1 hP hD hS 4 1 rfl rfl hi30 dX4_toss_57 (fun H locs hP hD hS => ?_)
        have hP : va_P (gD G) vwCl [(h0, moE ad s_thrown s_textSize s_place s_people s_readPeople s_acts s_seen s_seed s_rowSize s_feedMany s_feedRow s_restMany s_restFirst), (ad 5, aI G 7 q_kind), (ad 10, aI G 17 q_page), (ad 11, aI G 17 q_trial), (ad 28, aJ G 128 (vp_updL q_weight (Int32.toNatClampNeg x5) 0))] H := hP
        have hD : va_D A [(h0, moE ad s_thrown s_textSize s_place s_people s_readPeople s_acts s_seen s_seed s_rowSize s_feedMany s_feedRow s_restMany s_restFirst), (ad 5, aI G 7 q_kind), (ad 10, aI G 17 q_page), (ad 11, aI G 17 q_trial), (ad 28, aJ G 128 (vp_updL q_weight (Int32.toNatClampNeg x5) 0))] := hD
        refine lv_iinc (v := (x5 + 1)) (lv' := [(5, .int (x5 + 1)), (0, .ref h0), (1, .int a1), (2, .int a2), (3, .long x3)]) hx hb dX4_toss_58 hl (k := 4) rfl rfl (by decide) rfl (fun ls hl => ?_)
        refine lv_goto (tgt := 42) hx hb dX4_toss_61 (by decide) ?_
        exact ih42 x3 (x5 + 1) s_thrown q_trial (vp_updL q_weight (Int32.toNatClampNeg x5) 0) _ _ _ hP hD hS (lv_sub hl [1, 2, 3, 4, 0] rfl) hf
  have hC20 : ∀ (n : Nat) (x3 : Int64) (x5 : Int32) (s_thrown : Int32) (q_trial : Nat → Int32) (q_weight : Nat → Int64) (H : Heap) (locs : List Loc) (ls : Array Slot), va_P (gD G) vwCl [(h0, moE ad s_thrown s_textSize s_place s_people s_readPeople s_acts s_seen s_seed s_rowSize s_feedMany s_feedRow s_restMany s_restFirst), (ad 5, aI G 7 q_kind), (ad 10, aI G 17 q_page), (ad 11, aI G 17 q_trial), (ad 28, aJ G 128 q_weight)] H → va_D A [(h0, moE ad s_thrown s_textSize s_place s_people s_readPeople s_acts s_seen s_seed s_rowSize s_feedMany s_feedRow s_restMany s_restFirst), (ad 5, aI G 7 q_kind), (ad 10, aI G 17 q_page), (ad 11, aI G 17 q_trial), (ad 28, aJ G 128 q_weight)] → va_S A s.heap H locs → lv_has ls 12 [(0, .ref h0), (1, .int a1), (2, .int a2), (3, .long x3), (5, .int x5)] → fX4_toss_20 s_people q_kind q_page a1 a2 n x3 x5 s_thrown q_trial q_weight = some out → W p l e ({ frames := 3, cells := 0, slots := 0, locals := 69 }) s m args below meth c H locs 0 0 Q (F0 m 20 ls []) := by
    intro n20
    induction n20 with
    | zero => intro x3 x5 s_thrown q_trial q_weight H locs ls hP hD hS hl hf; exact absurd (show none = some out from hf) (fun z => by cases z)
    | succ n20 ih20 =>
      intro x3 x5 s_thrown q_trial q_weight H locs ls hP hD hS hl hf
      refine lv_iload hx hb dX4_toss_20 (lv_at hl 4 rfl) ?_
      refine lv_bipush (v := 7) hx hb dX4_toss_22 (by decide) ?_
      refine lv_icmp_ge (tgt := 39) hx hb dX4_toss_24 (by decide) (fun c4 => ?_) (fun c4 => ?_)
      · have hf := iteT hf c4
        refine lv_iconst (v := 0) hx hb dX4_toss_39 (by decide) ?_
        refine lv_istore (lv' := [(5, .int 0), (0, .ref h0), (1, .int a1), (2, .int a2), (3, .long x3)]) hx hb dX4_toss_40 hl (by decide) rfl (fun ls hl => ?_)
        exact hC42 130 x3 0 s_thrown q_trial q_weight _ _ _ hP hD hS (lv_sub hl [1, 2, 3, 4, 0] rfl) hf
      · have hf := iteF hf c4
        refine lv_lload_n hx hb dX4_toss_27 rfl (lv_at hl 3 rfl) ?_
        refine lv_ldc2 (v := 420) hx hb hown (hts (.constantLong RX4 217 (420)) (by decide +kernel)) dX4_toss_28 ?_
        refine lv_lmul hx hb dX4_toss_31 ?_
        refine lv_lstore_n (lv' := [(3, .long (x3 * 420)), (0, .ref h0), (1, .int a1), (2, .int a2), (5, .int x5)]) hx hb dX4_toss_32 rfl hl (by decide) rfl (fun ls hl => ?_)
        refine lv_iinc (v := (x5 + 1)) (lv' := [(5, .int (x5 + 1)), (3, .long (x3 * 420)), (0, .ref h0), (1, .int a1), (2, .int a2)]) hx hb dX4_toss_33 hl (k := 4) rfl rfl (by decide) rfl (fun ls hl => ?_)
        refine lv_goto (tgt := 20) hx hb dX4_toss_36 (by decide) ?_
        exact ih20 (x3 * 420) (x5 + 1) s_thrown q_trial q_weight _ _ _ hP hD hS (lv_sub hl [2, 3, 4, 1, 0] rfl) hf
  refine lv_aload_n hx hb dX4_toss_0 rfl (lv_at hl 0 rfl) ?_
  refine lv_iconst (v := 0) hx hb dX4_toss_1 (by decide) ?_
  refine va_put (D := gD G) (ci := 4) (v := .int 0) (ty := .int) (C := RX4) (T := TX4) (N := 29) hx hb hts hi_X4 tyX4 tyX4_ok nmX4 hown hK.1 hP hD hS 0 rfl rfl 0 (by decide) kl_60 (fun _ h9 => h9) rfl (tyX4_ok 0 (by decide)) rfl rfl (Nat.le_of_ble_eq_true rfl) dX4_toss_2 (fun H locs hP hD hS => ?_)
  have hP : va_P (gD G) vwCl [(h0, moE ad 0 s_textSize s_place s_people s_readPeople s_acts s_seen s_seed s_rowSize s_feedMany s_feedRow s_restMany s_restFirst), (ad 5, aI G 7 q_kind), (ad 10, aI G 17 q_page), (ad 11, aI G 17 q_trial), (ad 28, aJ G 128 q_weight)] H := hP
  have hD : va_D A [(h0, moE ad 0 s_textSize s_place s_people s_readPeople s_acts s_seen s_seed s_rowSize s_feedMany s_feedRow s_restMany s_restFirst), (ad 5, aI G 7 q_kind), (ad 10, aI G 17 q_page), (ad 11, aI G 17 q_trial), (ad 28, aJ G 128 q_weight)] := hD
  refine lv_aload_n hx hb dX4_toss_5 rfl (lv_at hl 0 rfl) ?_
  refine lv_iload_n hx hb dX4_toss_6 rfl (lv_at hl 1 rfl) ?_
  obtain ⟨o1, hc2, hf⟩ := bindS hf
  refine ro_i (va_runV (C := RX4) (As := [.int a1]) (rest := []) ⟨hx, hb, hml, hown, hts⟩ (ctX4_noPerson l G h0 ad 0 s_textSize s_place s_people s_readPeople s_acts s_seen s_seed s_rowSize s_feedMany s_feedRow s_restMany s_restFirst a1 o1 hc2) (cwV 1 hts gX4_toss_X4_noPerson rfl rfl rfl (by decide +kernel) ⟨Nat.le_of_ble_eq_true rfl, Nat.le_of_ble_eq_true rfl⟩) (preR_V (q0 := 0) (ci := 4) (hP.sub (ws' := [(h0, moE ad 0 s_textSize s_place s_people s_readPeople s_acts s_seen s_seed s_rowSize s_feedMany s_feedRow s_restMany s_restFirst)]) [0] rfl) hK rfl rfl) rfl rfl hl.1 rfl (lv_room (Nat.le_of_ble_eq_true rfl)) dX4_toss_7 ⟨Nat.zero_le _, Nat.zero_le _⟩) hS hP (fun H locs hP hS => ?_)
  refine lv_if_eq (tgt := 15) hx hb dX4_toss_10 (by decide) (fun c3 => ?_) (fun c3 => ?_)
  · have hf := iteT hf c3
    refine lv_lconst (v := 1) hx hb dX4_toss_15 (by decide) ?_
    refine lv_lstore_n (lv' := [(3, .long 1), (0, .ref h0), (1, .int a1), (2, .int a2)]) hx hb dX4_toss_16 rfl hl (by decide) rfl (fun ls hl => ?_)
    refine lv_iconst (v := 0) hx hb dX4_toss_17 (by decide) ?_
    refine lv_istore (lv' := [(5, .int 0), (3, .long 1), (0, .ref h0), (1, .int a1), (2, .int a2)]) hx hb dX4_toss_18 hl (by decide) rfl (fun ls hl => ?_)
    exact hC20 9 1 0 0 q_trial q_weight _ _ _ hP hD hS (lv_sub hl [2, 3, 4, 1, 0] rfl) hf
  · have hf := iteF hf c3
    refine lv_iconst (v := (-1)) hx hb dX4_toss_13 (by decide) ?_
    have hv := Option.some.inj hf
    exact hret _ _ _ _ _ (by rw [← hv]; exact hP) hS (by rw [← hv]) dX4_toss_14
def fX4_seed (s_thrown : Int32) (s_seed : Int64) (a1 : Int64) : Option (Int64 × Int32 × Int64) :=
  some (s_seed, 0, a1)
set_option maxHeartbeats 4000000 in
set_option maxRecDepth 100000 in
theorem ctX4_seed (l : Launch) (G : GG) (h0 : Nat) (ad : Nat → Nat) (s_thrown : Int32) (s_textSize : Int32) (s_place : Int32) (s_people : Int32) (s_readPeople : Int32) (s_acts : Int32) (s_seen : Int32) (s_seed : Int64) (s_rowSize : Int32) (s_feedMany : Int32) (s_feedRow : Int32) (s_restMany : Int32) (s_restFirst : Int32) (a1 : Int64) (out : Int64 × Int32 × Int64) (hf : fX4_seed s_thrown s_seed a1 = some out) : Met l yX4_seed wsX4_seed ({ frames := 0, cells := 0, slots := 0, locals := 0 }) (PcW G [.ref h0, .long a1] [(h0, moE ad s_thrown s_textSize s_place s_people s_readPeople s_acts s_seen s_seed s_rowSize s_feedMany s_feedRow s_restMany s_restFirst)]) (QlW G [(h0, moE ad s_thrown s_textSize s_place s_people s_readPeople s_acts s_seen s_seed s_rowSize s_feedMany s_feedRow s_restMany s_restFirst)] [(h0, moE ad out.2.1 s_textSize s_place s_people s_readPeople s_acts s_seen out.2.2 s_rowSize s_feedMany s_feedRow s_restMany s_restFirst)] out.1) 0 0 (inA [(h0, moE ad s_thrown s_textSize s_place s_people s_readPeople s_acts s_seen s_seed s_rowSize s_feedMany s_feedRow s_restMany s_restFirst)]) := by
  refine mk_Wl (cc := cX4_seed) (maxL := 5) (by decide) rfl (Nat.le_of_ble_eq_true rfl) ?_
  intro p e s m args below meth c Q ls A S hP hK hD hl hret
  obtain ⟨hx, hb, hml, hown, hts⟩ := S
  have hown : s.vm.findClass RX4 = some m.cls := hown
  have kl_60 := hts (.fieldLink RX4 60 "ArrestOrderModel" "thrown" "I") (by decide +kernel)
  have hi_X4 : ∀ w ∈ wsX40, w ∈ wsX4_seed := fun _ h => List.mem_cons_of_mem _ (List.mem_append_right _ h)
  have kl_219 := hts (.fieldLink RX4 219 "ArrestOrderModel" "seed" "J") (by decide +kernel)
  have hS : va_S A s.heap s.heap [] := va_S.rf
  have hl : lv_has ls 5 [(0, .ref h0), (1, .long a1)] := hl
  refine lv_aload_n hx hb dX4_seed_0 rfl (lv_at hl 0 rfl) ?_
  refine lv_iconst (v := 0) hx hb dX4_seed_1 (by decide) ?_
  refine va_put (D := gD G) (ci := 4) (v := .int 0) (ty := .int) (C := RX4) (T := TX4) (N := 29) hx hb hts hi_X4 tyX4 tyX4_ok nmX4 hown hK.1 hP hD hS 0 rfl rfl 0 (by decide) kl_60 (fun _ h9 => h9) rfl (tyX4_ok 0 (by decide)) rfl rfl (Nat.le_of_ble_eq_true rfl) dX4_seed_2 (fun H locs hP hD hS => ?_)
  have hP : va_P (gD G) vwCl [(h0, moE ad 0 s_textSize s_place s_people s_readPeople s_acts s_seen s_seed s_rowSize s_feedMany s_feedRow s_restMany s_restFirst)] H := hP
  have hD : va_D A [(h0, moE ad 0 s_textSize s_place s_people s_readPeople s_acts s_seen s_seed s_rowSize s_feedMany s_feedRow s_restMany s_restFirst)] := hD
  refine lv_aload_n hx hb dX4_seed_5 rfl (lv_at hl 0 rfl) ?_
  refine va_get (D := gD G) (ci := 4) (v := .long s_seed) (C := RX4) (T := TX4) (N := 29) hx hb hts hi_X4 hown hK.1 hP 0 rfl rfl 19 (by decide) kl_219 (fun _ h9 => h9) rfl dX4_seed_6 ?_
  refine lv_lstore_n (lv' := [(3, .long s_seed), (0, .ref h0), (1, .long a1)]) hx hb dX4_seed_9 rfl hl (by decide) rfl (fun ls hl => ?_)
  refine lv_aload_n hx hb dX4_seed_10 rfl (lv_at hl 1 rfl) ?_
  refine lv_lload_n hx hb dX4_seed_11 rfl (lv_at hl 2 rfl) ?_
  refine va_put (D := gD G) (ci := 4) (v := .long a1) (ty := .long) (C := RX4) (T := TX4) (N := 29) hx hb hts hi_X4 tyX4 tyX4_ok nmX4 hown hK.1 hP hD hS 0 rfl rfl 19 (by decide) kl_219 (fun _ h9 => h9) rfl (tyX4_ok 19 (by decide)) rfl rfl (Nat.le_of_ble_eq_true rfl) dX4_seed_12 (fun H locs hP hD hS => ?_)
  have hP : va_P (gD G) vwCl [(h0, moE ad 0 s_textSize s_place s_people s_readPeople s_acts s_seen a1 s_rowSize s_feedMany s_feedRow s_restMany s_restFirst)] H := hP
  have hD : va_D A [(h0, moE ad 0 s_textSize s_place s_people s_readPeople s_acts s_seen a1 s_rowSize s_feedMany s_feedRow s_restMany s_restFirst)] := hD
  refine lv_lload_n hx hb dX4_seed_15 rfl (lv_at hl 0 rfl) ?_
  have hv := Option.some.inj hf
  exact hret _ _ _ _ _ (by rw [← hv]; exact hP) hS (by rw [← hv]) dX4_seed_16
def fX4_days_28 (s_people : Int32) (q_kind : Nat → Int32) (a1 : Int32) : Nat → Int32 → Int32 → Int32 → Int64 → (Nat → Int32) → Option (Int32 × Int32 × Int64 × (Nat → Int32))
  | 0, _, _, _, _, _ => none
  | n + 1, x2, x3, s_thrown, s_seed, q_trial => (if a1 ≤ x3 then some (x2, s_thrown, s_seed, q_trial) else (if (Int64.toInt32 ((j_lushr ((s_seed * 6364136223846793005) + 1442695040888963407) 33) - (j_lushr ((s_seed * 6364136223846793005) + 1442695040888963407) 33) / 12 * 12)) < 7 then (fX4_noPerson s_people (Int64.toInt32 ((j_lushr ((s_seed * 6364136223846793005) + 1442695040888963407) 33) - (j_lushr ((s_seed * 6364136223846793005) + 1442695040888963407) 33) / 12 * 12))).bind fun o8 => ((if o8 = 0 then ck 15 17 ((fX4_has (q_trial (Int32.toNatClampNeg 15)) (Int64.toInt32 ((j_lushr ((s_seed * 6364136223846793005) + 1442695040888963407) 33) - (j_lushr ((s_seed * 6364136223846793005) + 1442695040888963407) 33) / 12 * 12))).bind fun o12 => ((if o12 = 0 then (fX4_goDie q_trial (Int64.toInt32 ((j_lushr ((s_seed * 6364136223846793005) + 1442695040888963407) 33) - (j_lushr ((s_seed * 6364136223846793005) + 1442695040888963407) 33) / 12 * 12))).bind fun o15 => ((fX4_days_28 s_people q_kind a1 n x2 (x3 + 1) s_thrown ((s_seed * 6364136223846793005) + 1442695040888963407) o15)) else (fX4_days_28 s_people q_kind a1 n x2 (x3 + 1) s_thrown ((s_seed * 6364136223846793005) + 1442695040888963407) q_trial)))) else (fX4_days_28 s_people q_kind a1 n x2 (x3 + 1) s_thrown ((s_seed * 6364136223846793005) + 1442695040888963407) q_trial))) else (fX4_goDay s_people q_kind q_trial).bind fun o17 => ((if o17.1 = (-9) then (fX4_days_28 s_people q_kind a1 n (x2 + 0) (x3 + 1) s_thrown ((s_seed * 6364136223846793005) + 1442695040888963407) o17.2) else (fX4_days_28 s_people q_kind a1 n (x2 + 1) (x3 + 1) s_thrown ((s_seed * 6364136223846793005) + 1442695040888963407) o17.2)))))
def fX4_days (s_thrown : Int32) (s_people : Int32) (s_seed : Int64) (q_kind : Nat → Int32) (q_page : Nat → Int32) (q_trial : Nat → Int32) (a1 : Int32) : Option (Int32 × Int32 × Int64 × (Nat → Int32)) :=
  (fX4_in (Int32.toInt64 a1) 1 30).bind fun o1 => ((if o1 = 0 then some ((-2), 0, s_seed, q_trial) else (fX4_begin q_page q_trial).bind fun o4 => ((fX4_days_28 s_people q_kind a1 32 0 0 0 s_seed o4))))
set_option maxHeartbeats 4000000 in
set_option maxRecDepth 100000 in
theorem ctX4_days (l : Launch) (G : GG) (h0 : Nat) (ad : Nat → Nat) (s_thrown : Int32) (s_textSize : Int32) (s_place : Int32) (s_people : Int32) (s_readPeople : Int32) (s_acts : Int32) (s_seen : Int32) (s_seed : Int64) (s_rowSize : Int32) (s_feedMany : Int32) (s_feedRow : Int32) (s_restMany : Int32) (s_restFirst : Int32) (q_kind : Nat → Int32) (q_page : Nat → Int32) (q_trial : Nat → Int32) (a1 : Int32) (out : Int32 × Int32 × Int64 × (Nat → Int32)) (hf : fX4_days s_thrown s_people s_seed q_kind q_page q_trial a1 = some out) : Met l yX4_days wsX4_days ({ frames := 4, cells := 0, slots := 0, locals := 92 }) (PcW G [.ref h0, .int a1] [(h0, moE ad s_thrown s_textSize s_place s_people s_readPeople s_acts s_seen s_seed s_rowSize s_feedMany s_feedRow s_restMany s_restFirst), (ad 5, aI G 7 q_kind), (ad 10, aI G 17 q_page), (ad 11, aI G 17 q_trial)]) (QiW G [(h0, moE ad s_thrown s_textSize s_place s_people s_readPeople s_acts s_seen s_seed s_rowSize s_feedMany s_feedRow s_restMany s_restFirst), (ad 5, aI G 7 q_kind), (ad 10, aI G 17 q_page), (ad 11, aI G 17 q_trial)] [(h0, moE ad out.2.1 s_textSize s_place s_people s_readPeople s_acts s_seen out.2.2.1 s_rowSize s_feedMany s_feedRow s_restMany s_restFirst), (ad 5, aI G 7 q_kind), (ad 10, aI G 17 q_page), (ad 11, aI G 17 out.2.2.2)] out.1) 0 0 (inA [(h0, moE ad s_thrown s_textSize s_place s_people s_readPeople s_acts s_seen s_seed s_rowSize s_feedMany s_feedRow s_restMany s_restFirst), (ad 5, aI G 7 q_kind), (ad 10, aI G 17 q_page), (ad 11, aI G 17 q_trial)]) := by
  refine mk_Wi (cc := cX4_days) (maxL := 5) (by decide) rfl (Nat.le_of_ble_eq_true rfl) ?_
  intro p e s m args below meth c Q ls A S hP hK hD hl hret
  obtain ⟨hx, hb, hml, hown, hts⟩ := S
  have hown : s.vm.findClass RX4 = some m.cls := hown
  have kl_60 := hts (.fieldLink RX4 60 "ArrestOrderModel" "thrown" "I") (by decide +kernel)
  have hi_X4 : ∀ w ∈ wsX40, w ∈ wsX4_days := fun _ h => List.mem_cons_of_mem _ (List.mem_append_right _ h)
  have kl_219 := hts (.fieldLink RX4 219 "ArrestOrderModel" "seed" "J") (by decide +kernel)
  have kl_28 := hts (.fieldLink RX4 28 "ArrestOrderModel" "trial" "[I") (by decide +kernel)
  have hS : va_S A s.heap s.heap [] := va_S.rf
  have hl : lv_has ls 5 [(0, .ref h0), (1, .int a1)] := hl
  have hC28 : ∀ (n : Nat) (x2 : Int32) (x3 : Int32) (s_thrown : Int32) (s_seed : Int64) (q_trial : Nat → Int32) (H : Heap) (locs : List Loc) (ls : Array Slot), va_P (gD G) vwCl [(h0, moE ad s_thrown s_textSize s_place s_people s_readPeople s_acts s_seen s_seed s_rowSize s_feedMany s_feedRow s_restMany s_restFirst), (ad 5, aI G 7 q_kind), (ad 10, aI G 17 q_page), (ad 11, aI G 17 q_trial)] H → va_D A [(h0, moE ad s_thrown s_textSize s_place s_people s_readPeople s_acts s_seen s_seed s_rowSize s_feedMany s_feedRow s_restMany s_restFirst), (ad 5, aI G 7 q_kind), (ad 10, aI G 17 q_page), (ad 11, aI G 17 q_trial)] → va_S A s.heap H locs → lv_has ls 5 [(0, .ref h0), (1, .int a1), (2, .int x2), (3, .int x3)] → fX4_days_28 s_people q_kind a1 n x2 x3 s_thrown s_seed q_trial = some out → W p l e ({ frames := 4, cells := 0, slots := 0, locals := 92 }) s m args below meth c H locs 0 0 Q (F0 m 28 ls []) := by
    intro n28
    induction n28 with
    | zero => intro x2 x3 s_thrown s_seed q_trial H locs ls hP hD hS hl hf; exact absurd (show none = some out from hf) (fun z => by cases z)
    | succ n28 ih28 =>
      intro x2 x3 s_thrown s_seed q_trial H locs ls hP hD hS hl hf
      refine lv_iload_n hx hb dX4_days_28 rfl (lv_at hl 3 rfl) ?_
      refine lv_iload_n hx hb dX4_days_29 rfl (lv_at hl 1 rfl) ?_
      refine lv_icmp_ge (tgt := 133) hx hb dX4_days_30 (by decide) (fun c6 => ?_) (fun c6 => ?_)
      · have hf := iteT hf c6
        refine lv_iload_n hx hb dX4_days_133 rfl (lv_at hl 2 rfl) ?_
        have hv := Option.some.inj hf
        exact hret _ _ _ _ _ (by rw [← hv]; exact hP) hS (by rw [← hv]) dX4_days_134
      · have hf := iteF hf c6
        refine lv_aload_n hx hb dX4_days_33 rfl (lv_at hl 0 rfl) ?_
        refine lv_aload_n hx hb dX4_days_34 rfl (lv_at hl 0 rfl) ?_
        refine va_get (D := gD G) (ci := 4) (v := .long s_seed) (C := RX4) (T := TX4) (N := 29) hx hb hts hi_X4 hown hK.1 hP 0 rfl rfl 19 (by decide) kl_219 (fun _ h9 => h9) rfl dX4_days_35 ?_
        refine lv_ldc2 (v := 6364136223846793005) hx hb hown (hts (.constantLong RX4 225 (6364136223846793005)) (by decide +kernel)) dX4_days_38 ?_
        refine lv_lmul hx hb dX4_days_41 ?_
        refine lv_ldc2 (v := 1442695040888963407) hx hb hown (hts (.constantLong RX4 227 (1442695040888963407)) (by decide +kernel)) dX4_days_42 ?_
        refine lv_ladd hx hb dX4_days_45 ?_
        refine va_put (D := gD G) (ci := 4) (v := .long ((s_seed * 6364136223846793005) + 1442695040888963407)) (ty := .long) (C := RX4) (T := TX4) (N := 29) hx hb hts hi_X4 tyX4 tyX4_ok nmX4 hown hK.1 hP hD hS 0 rfl rfl 19 (by decide) kl_219 (fun _ h9 => h9) rfl (tyX4_ok 19 (by decide)) rfl rfl (Nat.le_of_ble_eq_true rfl) dX4_days_46 (fun H locs hP hD hS => ?_)
        have hP : va_P (gD G) vwCl [(h0, moE ad s_thrown s_textSize s_place s_people s_readPeople s_acts s_seen ((s_seed * 6364136223846793005) + 1442695040888963407) s_rowSize s_feedMany s_feedRow s_restMany s_restFirst), (ad 5, aI G 7 q_kind), (ad 10, aI G 17 q_page), (ad 11, aI G 17 q_trial)] H := hP
        have hD : va_D A [(h0, moE ad s_thrown s_textSize s_place s_people s_readPeople s_acts s_seen ((s_seed * 6364136223846793005) + 1442695040888963407) s_rowSize s_feedMany s_feedRow s_restMany s_restFirst), (ad 5, aI G 7 q_kind), (ad 10, aI G 17 q_page), (ad 11, aI G 17 q_trial)] := hD
        refine lv_aload_n hx hb dX4_days_49 rfl (lv_at hl 0 rfl) ?_
        refine va_get (D := gD G) (ci := 4) (v := .long ((s_seed * 6364136223846793005) + 1442695040888963407)) (C := RX4) (T := TX4) (N := 29) hx hb hts hi_X4 hown hK.1 hP 0 rfl rfl 19 (by decide) kl_219 (fun _ h9 => h9) rfl dX4_days_50 ?_
        refine lv_bipush (v := 33) hx hb dX4_days_53 (by decide) ?_
        refine lv_lushr (v := (j_lushr ((s_seed * 6364136223846793005) + 1442695040888963407) 33)) hx hb dX4_days_55 rfl ?_
        refine lv_ldc2 (v := 12) hx hb hown (hts (.constantLong RX4 229 (12)) (by decide +kernel)) dX4_days_56 ?_
        refine lv_lrem hx hb dX4_days_59 (by decide) ?_
        refine lv_l2i (v := (Int64.toInt32 ((j_lushr ((s_seed * 6364136223846793005) + 1442695040888963407) 33) - (j_lushr ((s_seed * 6364136223846793005) + 1442695040888963407) 33) / 12 * 12))) hx hb dX4_days_60 rfl ?_
        refine lv_istore (lv' := [(4, .int (Int64.toInt32 ((j_lushr ((s_seed * 6364136223846793005) + 1442695040888963407) 33) - (j_lushr ((s_seed * 6364136223846793005) + 1442695040888963407) 33) / 12 * 12))), (0, .ref h0), (1, .int a1), (2, .int x2), (3, .int x3)]) hx hb dX4_days_61 hl (by decide) rfl (fun ls hl => ?_)
        refine lv_iload hx hb dX4_days_63 (lv_at hl 0 rfl) ?_
        refine lv_bipush (v := 7) hx hb dX4_days_65 (by decide) ?_
        refine lv_icmp_lt (tgt := 94) hx hb dX4_days_67 (by decide) (fun c7 => ?_) (fun c7 => ?_)
        · have hf := iteT hf c7
          refine lv_aload_n hx hb dX4_days_94 rfl (lv_at hl 1 rfl) ?_
          refine lv_iload hx hb dX4_days_95 (lv_at hl 0 rfl) ?_
          obtain ⟨o8, hc9, hf⟩ := bindS hf
          refine ro_i (va_runV (C := RX4) (As := [.int (Int64.toInt32 ((j_lushr ((s_seed * 6364136223846793005) + 1442695040888963407) 33) - (j_lushr ((s_seed * 6364136223846793005) + 1442695040888963407) 33) / 12 * 12))]) (rest := []) ⟨hx, hb, hml, hown, hts⟩ (ctX4_noPerson l G h0 ad s_thrown s_textSize s_place s_people s_readPeople s_acts s_seen ((s_seed * 6364136223846793005) + 1442695040888963407) s_rowSize s_feedMany s_feedRow s_restMany s_restFirst (Int64.toInt32 ((j_lushr ((s_seed * 6364136223846793005) + 1442695040888963407) 33) - (j_lushr ((s_seed * 6364136223846793005) + 1442695040888963407) 33) / 12 * 12)) o8 hc9) (cwV 1 hts gX4_days_X4_noPerson rfl rfl rfl (by decide +kernel) ⟨Nat.le_of_ble_eq_true rfl, Nat.le_of_ble_eq_true rfl⟩) (preR_V (q0 := 0) (ci := 4) (hP.sub (ws' := [(h0, moE ad s_thrown s_textSize s_place s_people s_readPeople s_acts s_seen ((s_seed * 6364136223846793005) + 1442695040888963407) s_rowSize s_feedMany s_feedRow s_restMany s_restFirst)]) [0] rfl) hK rfl rfl) rfl rfl hl.1 rfl (lv_room (Nat.le_of_ble_eq_true rfl)) dX4_days_97 ⟨Nat.zero_le _, Nat.zero_le _⟩) hS hP (fun H locs hP hS => ?_)
          refine lv_if_ne (tgt := 127) hx hb dX4_days_100 (by decide) (fun c10 => ?_) (fun c10 => ?_)
          · have hf := iteF hf c10
            refine lv_iinc (v := (x3 + 1)) (lv' := [(3, .int (x3 + 1)), (4, .int (Int64.toInt32 ((j_lushr ((s_seed * 6364136223846793005) + 1442695040888963407) 33) - (j_lushr ((s_seed * 6364136223846793005) + 1442695040888963407) 33) / 12 * 12))), (0, .ref h0), (1, .int a1), (2, .int x2)]) hx hb dX4_days_127 hl (k := 4) rfl rfl (by decide) rfl (fun ls hl => ?_)
            refine lv_goto (tgt := 28) hx hb dX4_days_130 (by decide) ?_
            exact ih28 x2 (x3 + 1) s_thrown ((s_seed * 6364136223846793005) + 1442695040888963407) q_trial _ _ _ hP hD hS (lv_sub hl [2, 3, 4, 0] rfl) hf
          · have hf := iteT hf c10
            refine lv_aload_n hx hb dX4_days_103 rfl (lv_at hl 1 rfl) ?_
            refine va_get (D := gD G) (ci := 4) (v := .ref (ad 11)) (C := RX4) (T := TX4) (N := 29) hx hb hts hi_X4 hown hK.1 hP 0 rfl rfl 11 (by decide) kl_28 (fun _ h9 => h9) rfl dX4_days_104 ?_
            refine lv_bipush (v := 15) hx hb dX4_days_107 (by decide) ?_
            obtain ⟨hi11, hf⟩ := ckS hf
            refine va_iald hx hb hK.1 hP 3 0 rfl rfl hi11 dX4_days_109 ?_
            refine lv_iload hx hb dX4_days_110 (lv_at hl 0 rfl) ?_
            obtain ⟨o12, hc13, hf⟩ := bindS hf
            refine ro_i (va_runS (As := [.int (q_trial (Int32.toNatClampNeg 15)), .int (Int64.toInt32 ((j_lushr ((s_seed * 6364136223846793005) + 1442695040888963407) 33) - (j_lushr ((s_seed * 6364136223846793005) + 1442695040888963407) 33) / 12 * 12))]) (rest := []) ⟨hx, hb, hml, hown, hts⟩ (ctX4_has l G (q_trial (Int32.toNatClampNeg 15)) (Int64.toInt32 ((j_lushr ((s_seed * 6364136223846793005) + 1442695040888963407) 33) - (j_lushr ((s_seed * 6364136223846793005) + 1442695040888963407) 33) / 12 * 12)) o12 hc13) (va_cwS 2 hts gX4_days_X4_has rfl rfl rfl (by decide +kernel) ⟨Nat.le_of_ble_eq_true rfl, Nat.le_of_ble_eq_true rfl⟩) (preR_S (hP.sub (ws' := []) [] rfl) hK) rfl rfl hl.1 rfl (lv_room (Nat.le_of_ble_eq_true rfl)) dX4_days_112 ⟨Nat.zero_le _, Nat.zero_le _⟩) hS hP (fun H locs hP hS => ?_)
            refine lv_if_ne (tgt := 127) hx hb dX4_days_115 (by decide) (fun c14 => ?_) (fun c14 => ?_)
            · have hf := iteF hf c14
              refine lv_iinc (v := (x3 + 1)) (lv' := [(3, .int (x3 + 1)), (4, .int (Int64.toInt32 ((j_lushr ((s_seed * 6364136223846793005) + 1442695040888963407) 33) - (j_lushr ((s_seed * 6364136223846793005) + 1442695040888963407) 33) / 12 * 12))), (0, .ref h0), (1, .int a1), (2, .int x2)]) hx hb dX4_days_127 hl (k := 4) rfl rfl (by decide) rfl (fun ls hl => ?_)
              refine lv_goto (tgt := 28) hx hb dX4_days_130 (by decide) ?_
              exact ih28 x2 (x3 + 1) s_thrown ((s_seed * 6364136223846793005) + 1442695040888963407) q_trial _ _ _ hP hD hS (lv_sub hl [2, 3, 4, 0] rfl) hf
            · have hf := iteT hf c14
              refine lv_aload_n hx hb dX4_days_118 rfl (lv_at hl 1 rfl) ?_
              refine va_get (D := gD G) (ci := 4) (v := .ref (ad 11)) (C := RX4) (T := TX4) (N := 29) hx hb hts hi_X4 hown hK.1 hP 0 rfl rfl 11 (by decide) kl_28 (fun _ h9 => h9) rfl dX4_days_119 ?_
              refine lv_iload hx hb dX4_days_122 (lv_at hl 0 rfl) ?_
              obtain ⟨o15, hc16, hf⟩ := bindS hf
              refine rw_v (va_runS (As := [.ref (ad 11), .int (Int64.toInt32 ((j_lushr ((s_seed * 6364136223846793005) + 1442695040888963407) 33) - (j_lushr ((s_seed * 6364136223846793005) + 1442695040888963407) 33) / 12 * 12))]) (rest := []) ⟨hx, hb, hml, hown, hts⟩ (ctX4_goDie l G (ad 11) q_trial (Int64.toInt32 ((j_lushr ((s_seed * 6364136223846793005) + 1442695040888963407) 33) - (j_lushr ((s_seed * 6364136223846793005) + 1442695040888963407) 33) / 12 * 12)) o15 hc16) (va_cwS 2 hts gX4_days_X4_goDie rfl rfl rfl (by decide +kernel) ⟨Nat.le_of_ble_eq_true rfl, Nat.le_of_ble_eq_true rfl⟩) (preW_S (hP.sub (ws' := [(ad 11, aI G 17 q_trial)]) [3] rfl) (hD.sub (ws' := [(ad 11, aI G 17 q_trial)]) [3] (by decide) rfl) hK) rfl rfl hl.1 rfl (lv_room (Nat.le_of_ble_eq_true rfl)) dX4_days_124 ⟨Nat.zero_le _, Nat.zero_le _⟩) hS hP hD [3] rfl rfl rfl (fun H locs hP hD hS => ?_)
              have hP : va_P (gD G) vwCl [(h0, moE ad s_thrown s_textSize s_place s_people s_readPeople s_acts s_seen ((s_seed * 6364136223846793005) + 1442695040888963407) s_rowSize s_feedMany s_feedRow s_restMany s_restFirst), (ad 5, aI G 7 q_kind), (ad 10, aI G 17 q_page), (ad 11, aI G 17 o15)] H := hP
              have hD : va_D A [(h0, moE ad s_thrown s_textSize s_place s_people s_readPeople s_acts s_seen ((s_seed * 6364136223846793005) + 1442695040888963407) s_rowSize s_feedMany s_feedRow s_restMany s_restFirst), (ad 5, aI G 7 q_kind), (ad 10, aI G 17 q_page), (ad 11, aI G 17 o15)] := hD
              refine lv_iinc (v := (x3 + 1)) (lv' := [(3, .int (x3 + 1)), (4, .int (Int64.toInt32 ((j_lushr ((s_seed * 6364136223846793005) + 1442695040888963407) 33) - (j_lushr ((s_seed * 6364136223846793005) + 1442695040888963407) 33) / 12 * 12))), (0, .ref h0), (1, .int a1), (2, .int x2)]) hx hb dX4_days_127 hl (k := 4) rfl rfl (by decide) rfl (fun ls hl => ?_)
              refine lv_goto (tgt := 28) hx hb dX4_days_130 (by decide) ?_
              exact ih28 x2 (x3 + 1) s_thrown ((s_seed * 6364136223846793005) + 1442695040888963407) o15 _ _ _ hP hD hS (lv_sub hl [2, 3, 4, 0] rfl) hf
        · have hf := iteF hf c7
          refine lv_iload_n hx hb dX4_days_70 rfl (lv_at hl 3 rfl) ?_
          refine lv_aload_n hx hb dX4_days_71 rfl (lv_at hl 1 rfl) ?_
          refine lv_aload_n hx hb dX4_days_72 rfl (lv_at hl 1 rfl) ?_
          refine va_get (D := gD G) (ci := 4) (v := .ref (ad 11)) (C := RX4) (T := TX4) (N := 29) hx hb hts hi_X4 hown hK.1 hP 0 rfl rfl 11 (by decide) kl_28 (fun _ h9 => h9) rfl dX4_days_73 ?_
          obtain ⟨o17, hc18, hf⟩ := bindS hf
          refine rw_i (va_runV (C := RX4) (As := [.ref (ad 11)]) (rest := [.int x2]) ⟨hx, hb, hml, hown, hts⟩ (ctX4_goDay l G h0 (ad 11) ad s_thrown s_textSize s_place s_people s_readPeople s_acts s_seen ((s_seed * 6364136223846793005) + 1442695040888963407) s_rowSize s_feedMany s_feedRow s_restMany s_restFirst q_kind q_trial o17 hc18) (cwV 1 hts gX4_days_X4_goDay rfl rfl rfl (by decide +kernel) ⟨Nat.le_of_ble_eq_true rfl, Nat.le_of_ble_eq_true rfl⟩) (preW_V (q0 := 0) (ci := 4) (hP.sub (ws' := [(h0, moE ad s_thrown s_textSize s_place s_people s_readPeople s_acts s_seen ((s_seed * 6364136223846793005) + 1442695040888963407) s_rowSize s_feedMany s_feedRow s_restMany s_restFirst), (ad 5, aI G 7 q_kind), (ad 11, aI G 17 q_trial)]) [0, 1, 3] rfl) (hD.sub (ws' := [(h0, moE ad s_thrown s_textSize s_place s_people s_readPeople s_acts s_seen ((s_seed * 6364136223846793005) + 1442695040888963407) s_rowSize s_feedMany s_feedRow s_restMany s_restFirst), (ad 5, aI G 7 q_kind), (ad 11, aI G 17 q_trial)]) [0, 1, 3] (by decide) rfl) hK rfl rfl) rfl rfl hl.1 rfl (lv_room (Nat.le_of_ble_eq_true rfl)) dX4_days_76 ⟨Nat.zero_le _, Nat.zero_le _⟩) hS hP hD [0, 1, 3] rfl rfl rfl (fun H locs hP hD hS => ?_)
          have hP : va_P (gD G) vwCl [(h0, moE ad s_thrown s_textSize s_place s_people s_readPeople s_acts s_seen ((s_seed * 6364136223846793005) + 1442695040888963407) s_rowSize s_feedMany s_feedRow s_restMany s_restFirst), (ad 5, aI G 7 q_kind), (ad 10, aI G 17 q_page), (ad 11, aI G 17 o17.2)] H := hP
          have hD : va_D A [(h0, moE ad s_thrown s_textSize s_place s_people s_readPeople s_acts s_seen ((s_seed * 6364136223846793005) + 1442695040888963407) s_rowSize s_feedMany s_feedRow s_restMany s_restFirst), (ad 5, aI G 7 q_kind), (ad 10, aI G 17 q_page), (ad 11, aI G 17 o17.2)] := hD
          refine lv_bipush (v := (-9)) hx hb dX4_days_79 (by decide) ?_
          refine lv_icmp_ne (tgt := 88) hx hb dX4_days_81 (by decide) (fun c19 => ?_) (fun c19 => ?_)
          · have hf := iteF hf c19
            refine lv_iconst (v := 1) hx hb dX4_days_88 (by decide) ?_
            refine lv_iadd hx hb dX4_days_89 ?_
            refine lv_istore_n (lv' := [(2, .int (x2 + 1)), (4, .int (Int64.toInt32 ((j_lushr ((s_seed * 6364136223846793005) + 1442695040888963407) 33) - (j_lushr ((s_seed * 6364136223846793005) + 1442695040888963407) 33) / 12 * 12))), (0, .ref h0), (1, .int a1), (3, .int x3)]) hx hb dX4_days_90 rfl hl (by decide) rfl (fun ls hl => ?_)
            refine lv_goto (tgt := 127) hx hb dX4_days_91 (by decide) ?_
            refine lv_iinc (v := (x3 + 1)) (lv' := [(3, .int (x3 + 1)), (2, .int (x2 + 1)), (4, .int (Int64.toInt32 ((j_lushr ((s_seed * 6364136223846793005) + 1442695040888963407) 33) - (j_lushr ((s_seed * 6364136223846793005) + 1442695040888963407) 33) / 12 * 12))), (0, .ref h0), (1, .int a1)]) hx hb dX4_days_127 hl (k := 4) rfl rfl (by decide) rfl (fun ls hl => ?_)
            refine lv_goto (tgt := 28) hx hb dX4_days_130 (by decide) ?_
            exact ih28 (x2 + 1) (x3 + 1) s_thrown ((s_seed * 6364136223846793005) + 1442695040888963407) o17.2 _ _ _ hP hD hS (lv_sub hl [3, 4, 1, 0] rfl) hf
          · have hf := iteT hf c19
            refine lv_iconst (v := 0) hx hb dX4_days_84 (by decide) ?_
            refine lv_goto (tgt := 89) hx hb dX4_days_85 (by decide) ?_
            refine lv_iadd hx hb dX4_days_89 ?_
            refine lv_istore_n (lv' := [(2, .int (x2 + 0)), (4, .int (Int64.toInt32 ((j_lushr ((s_seed * 6364136223846793005) + 1442695040888963407) 33) - (j_lushr ((s_seed * 6364136223846793005) + 1442695040888963407) 33) / 12 * 12))), (0, .ref h0), (1, .int a1), (3, .int x3)]) hx hb dX4_days_90 rfl hl (by decide) rfl (fun ls hl => ?_)
            refine lv_goto (tgt := 127) hx hb dX4_days_91 (by decide) ?_
            refine lv_iinc (v := (x3 + 1)) (lv' := [(3, .int (x3 + 1)), (2, .int (x2 + 0)), (4, .int (Int64.toInt32 ((j_lushr ((s_seed * 6364136223846793005) + 1442695040888963407) 33) - (j_lushr ((s_seed * 6364136223846793005) + 1442695040888963407) 33) / 12 * 12))), (0, .ref h0), (1, .int a1)]) hx hb dX4_days_127 hl (k := 4) rfl rfl (by decide) rfl (fun ls hl => ?_)
            refine lv_goto (tgt := 28) hx hb dX4_days_130 (by decide) ?_
            exact ih28 (x2 + 0) (x3 + 1) s_thrown ((s_seed * 6364136223846793005) + 1442695040888963407) o17.2 _ _ _ hP hD hS (lv_sub hl [3, 4, 1, 0] rfl) hf
  refine lv_aload_n hx hb dX4_days_0 rfl (lv_at hl 0 rfl) ?_
  refine lv_iconst (v := 0) hx hb dX4_days_1 (by decide) ?_
  refine va_put (D := gD G) (ci := 4) (v := .int 0) (ty := .int) (C := RX4) (T := TX4) (N := 29) hx hb hts hi_X4 tyX4 tyX4_ok nmX4 hown hK.1 hP hD hS 0 rfl rfl 0 (by decide) kl_60 (fun _ h9 => h9) rfl (tyX4_ok 0 (by decide)) rfl rfl (Nat.le_of_ble_eq_true rfl) dX4_days_2 (fun H locs hP hD hS => ?_)
  have hP : va_P (gD G) vwCl [(h0, moE ad 0 s_textSize s_place s_people s_readPeople s_acts s_seen s_seed s_rowSize s_feedMany s_feedRow s_restMany s_restFirst), (ad 5, aI G 7 q_kind), (ad 10, aI G 17 q_page), (ad 11, aI G 17 q_trial)] H := hP
  have hD : va_D A [(h0, moE ad 0 s_textSize s_place s_people s_readPeople s_acts s_seen s_seed s_rowSize s_feedMany s_feedRow s_restMany s_restFirst), (ad 5, aI G 7 q_kind), (ad 10, aI G 17 q_page), (ad 11, aI G 17 q_trial)] := hD
  refine lv_iload_n hx hb dX4_days_5 rfl (lv_at hl 1 rfl) ?_
  refine lv_i2l (v := (Int32.toInt64 a1)) hx hb dX4_days_6 rfl ?_
  refine lv_lconst (v := 1) hx hb dX4_days_7 (by decide) ?_
  refine lv_ldc2 (v := 30) hx hb hown (hts (.constantLong RX4 223 (30)) (by decide +kernel)) dX4_days_8 ?_
  obtain ⟨o1, hc2, hf⟩ := bindS hf
  refine ro_i (va_runS (As := [.long (Int32.toInt64 a1), .long 1, .long 30]) (rest := []) ⟨hx, hb, hml, hown, hts⟩ (ctX4_in l G (Int32.toInt64 a1) 1 30 o1 hc2) (va_cwS 3 hts gX4_days_X4_in rfl rfl rfl (by decide +kernel) ⟨Nat.le_of_ble_eq_true rfl, Nat.le_of_ble_eq_true rfl⟩) (preR_S (hP.sub (ws' := []) [] rfl) hK) rfl rfl hl.1 rfl (lv_room (Nat.le_of_ble_eq_true rfl)) dX4_days_11 ⟨Nat.zero_le _, Nat.zero_le _⟩) hS hP (fun H locs hP hS => ?_)
  refine lv_if_ne (tgt := 20) hx hb dX4_days_14 (by decide) (fun c3 => ?_) (fun c3 => ?_)
  · have hf := iteF hf c3
    refine lv_aload_n hx hb dX4_days_20 rfl (lv_at hl 0 rfl) ?_
    obtain ⟨o4, hc5, hf⟩ := bindS hf
    refine rw_v (va_runV (C := RX4) (As := []) (rest := []) ⟨hx, hb, hml, hown, hts⟩ (ctX4_begin l G h0 ad 0 s_textSize s_place s_people s_readPeople s_acts s_seen s_seed s_rowSize s_feedMany s_feedRow s_restMany s_restFirst q_page q_trial o4 hc5) (cwV 0 hts gX4_days_X4_begin rfl rfl rfl (by decide +kernel) ⟨Nat.le_of_ble_eq_true rfl, Nat.le_of_ble_eq_true rfl⟩) (preW_V (q0 := 0) (ci := 4) (hP.sub (ws' := [(h0, moE ad 0 s_textSize s_place s_people s_readPeople s_acts s_seen s_seed s_rowSize s_feedMany s_feedRow s_restMany s_restFirst), (ad 10, aI G 17 q_page), (ad 11, aI G 17 q_trial)]) [0, 2, 3] rfl) (hD.sub (ws' := [(h0, moE ad 0 s_textSize s_place s_people s_readPeople s_acts s_seen s_seed s_rowSize s_feedMany s_feedRow s_restMany s_restFirst), (ad 10, aI G 17 q_page), (ad 11, aI G 17 q_trial)]) [0, 2, 3] (by decide) rfl) hK rfl rfl) rfl rfl hl.1 rfl (lv_room (Nat.le_of_ble_eq_true rfl)) dX4_days_21 ⟨Nat.zero_le _, Nat.zero_le _⟩) hS hP hD [0, 2, 3] rfl rfl rfl (fun H locs hP hD hS => ?_)
    have hP : va_P (gD G) vwCl [(h0, moE ad 0 s_textSize s_place s_people s_readPeople s_acts s_seen s_seed s_rowSize s_feedMany s_feedRow s_restMany s_restFirst), (ad 5, aI G 7 q_kind), (ad 10, aI G 17 q_page), (ad 11, aI G 17 o4)] H := hP
    have hD : va_D A [(h0, moE ad 0 s_textSize s_place s_people s_readPeople s_acts s_seen s_seed s_rowSize s_feedMany s_feedRow s_restMany s_restFirst), (ad 5, aI G 7 q_kind), (ad 10, aI G 17 q_page), (ad 11, aI G 17 o4)] := hD
    refine lv_iconst (v := 0) hx hb dX4_days_24 (by decide) ?_
    refine lv_istore_n (lv' := [(2, .int 0), (0, .ref h0), (1, .int a1)]) hx hb dX4_days_25 rfl hl (by decide) rfl (fun ls hl => ?_)
    refine lv_iconst (v := 0) hx hb dX4_days_26 (by decide) ?_
    refine lv_istore_n (lv' := [(3, .int 0), (2, .int 0), (0, .ref h0), (1, .int a1)]) hx hb dX4_days_27 rfl hl (by decide) rfl (fun ls hl => ?_)
    exact hC28 32 0 0 0 s_seed o4 _ _ _ hP hD hS (lv_sub hl [2, 3, 1, 0] rfl) hf
  · have hf := iteT hf c3
    refine lv_bipush (v := (-2)) hx hb dX4_days_17 (by decide) ?_
    have hv := Option.some.inj hf
    exact hret _ _ _ _ _ (by rw [← hv]; exact hP) hS (by rw [← hv]) dX4_days_19
def fX4_keep_26 (q_page : Nat → Int32) (a1 : Int32) : Nat → Int32 → Int32 → (Nat → Int32) → (Nat → Int32) → Option (Int32 × Int32 × (Nat → Int32) × (Nat → Int32))
  | 0, _, _, _, _ => none
  | n + 1, x2, s_thrown, q_kept, q_isKept => (if 17 ≤ x2 then ck 16 17 (some ((q_page (Int32.toNatClampNeg 16)), s_thrown, q_kept, q_isKept)) else ck x2 17 (ck ((17 * a1) + x2) 34 ((fX4_keep_26 q_page a1 n (x2 + 1) s_thrown (upd q_kept (Int32.toNatClampNeg ((17 * a1) + x2)) (q_page (Int32.toNatClampNeg x2))) q_isKept))))
def fX4_keep (s_thrown : Int32) (q_page : Nat → Int32) (q_kept : Nat → Int32) (q_isKept : Nat → Int32) (a1 : Int32) : Option (Int32 × Int32 × (Nat → Int32) × (Nat → Int32)) :=
  (fX4_in (Int32.toInt64 a1) 0 1).bind fun o1 => ((if o1 = 0 then some ((-1), 0, q_kept, q_isKept) else ck a1 2 ((fX4_keep_26 q_page a1 20 0 0 q_kept (upd q_isKept (Int32.toNatClampNeg a1) (vp_nar .boolean 1))))))
set_option maxHeartbeats 4000000 in
set_option maxRecDepth 100000 in
theorem ctX4_keep (l : Launch) (G : GG) (h0 : Nat) (ad : Nat → Nat) (s_thrown : Int32) (s_textSize : Int32) (s_place : Int32) (s_people : Int32) (s_readPeople : Int32) (s_acts : Int32) (s_seen : Int32) (s_seed : Int64) (s_rowSize : Int32) (s_feedMany : Int32) (s_feedRow : Int32) (s_restMany : Int32) (s_restFirst : Int32) (q_page : Nat → Int32) (q_kept : Nat → Int32) (q_isKept : Nat → Int32) (a1 : Int32) (out : Int32 × Int32 × (Nat → Int32) × (Nat → Int32)) (hf : fX4_keep s_thrown q_page q_kept q_isKept a1 = some out) : Met l yX4_keep wsX4_keep ({ frames := 1, cells := 0, slots := 0, locals := 25 }) (PcW G [.ref h0, .int a1] [(h0, moE ad s_thrown s_textSize s_place s_people s_readPeople s_acts s_seen s_seed s_rowSize s_feedMany s_feedRow s_restMany s_restFirst), (ad 10, aI G 17 q_page), (ad 14, aI G 34 q_kept), (ad 15, aZ G 2 q_isKept)]) (QiW G [(h0, moE ad s_thrown s_textSize s_place s_people s_readPeople s_acts s_seen s_seed s_rowSize s_feedMany s_feedRow s_restMany s_restFirst), (ad 10, aI G 17 q_page), (ad 14, aI G 34 q_kept), (ad 15, aZ G 2 q_isKept)] [(h0, moE ad out.2.1 s_textSize s_place s_people s_readPeople s_acts s_seen s_seed s_rowSize s_feedMany s_feedRow s_restMany s_restFirst), (ad 10, aI G 17 q_page), (ad 14, aI G 34 out.2.2.1), (ad 15, aZ G 2 out.2.2.2)] out.1) 0 0 (inA [(h0, moE ad s_thrown s_textSize s_place s_people s_readPeople s_acts s_seen s_seed s_rowSize s_feedMany s_feedRow s_restMany s_restFirst), (ad 10, aI G 17 q_page), (ad 14, aI G 34 q_kept), (ad 15, aZ G 2 q_isKept)]) := by
  refine mk_Wi (cc := cX4_keep) (maxL := 3) (by decide) rfl (Nat.le_of_ble_eq_true rfl) ?_
  intro p e s m args below meth c Q ls A S hP hK hD hl hret
  obtain ⟨hx, hb, hml, hown, hts⟩ := S
  have hown : s.vm.findClass RX4 = some m.cls := hown
  have kl_60 := hts (.fieldLink RX4 60 "ArrestOrderModel" "thrown" "I") (by decide +kernel)
  have hi_X4 : ∀ w ∈ wsX40, w ∈ wsX4_keep := fun _ h => List.mem_cons_of_mem _ (List.mem_append_right _ h)
  have kl_37 := hts (.fieldLink RX4 37 "ArrestOrderModel" "isKept" "[Z") (by decide +kernel)
  have kl_25 := hts (.fieldLink RX4 25 "ArrestOrderModel" "page" "[I") (by decide +kernel)
  have kl_34 := hts (.fieldLink RX4 34 "ArrestOrderModel" "kept" "[I") (by decide +kernel)
  have hS : va_S A s.heap s.heap [] := va_S.rf
  have hl : lv_has ls 3 [(0, .ref h0), (1, .int a1)] := hl
  have hC26 : ∀ (n : Nat) (x2 : Int32) (s_thrown : Int32) (q_kept : Nat → Int32) (q_isKept : Nat → Int32) (H : Heap) (locs : List Loc) (ls : Array Slot), va_P (gD G) vwCl [(h0, moE ad s_thrown s_textSize s_place s_people s_readPeople s_acts s_seen s_seed s_rowSize s_feedMany s_feedRow s_restMany s_restFirst), (ad 10, aI G 17 q_page), (ad 14, aI G 34 q_kept), (ad 15, aZ G 2 q_isKept)] H → va_D A [(h0, moE ad s_thrown s_textSize s_place s_people s_readPeople s_acts s_seen s_seed s_rowSize s_feedMany s_feedRow s_restMany s_restFirst), (ad 10, aI G 17 q_page), (ad 14, aI G 34 q_kept), (ad 15, aZ G 2 q_isKept)] → va_S A s.heap H locs → lv_has ls 3 [(0, .ref h0), (1, .int a1), (2, .int x2)] → fX4_keep_26 q_page a1 n x2 s_thrown q_kept q_isKept = some out → W p l e ({ frames := 1, cells := 0, slots := 0, locals := 25 }) s m args below meth c H locs 0 0 Q (F0 m 26 ls []) := by
    intro n26
    induction n26 with
    | zero => intro x2 s_thrown q_kept q_isKept H locs ls hP hD hS hl hf; exact absurd (show none = some out from hf) (fun z => by cases z)
    | succ n26 ih26 =>
      intro x2 s_thrown q_kept q_isKept H locs ls hP hD hS hl hf
      refine lv_iload_n hx hb dX4_keep_26 rfl (lv_at hl 2 rfl) ?_
      refine lv_bipush (v := 17) hx hb dX4_keep_27 (by decide) ?_
      refine lv_icmp_ge (tgt := 55) hx hb dX4_keep_29 (by decide) (fun c5 => ?_) (fun c5 => ?_)
      · have hf := iteT hf c5
        refine lv_aload_n hx hb dX4_keep_55 rfl (lv_at hl 0 rfl) ?_
        refine va_get (D := gD G) (ci := 4) (v := .ref (ad 10)) (C := RX4) (T := TX4) (N := 29) hx hb hts hi_X4 hown hK.1 hP 0 rfl rfl 10 (by decide) kl_25 (fun _ h9 => h9) rfl dX4_keep_56 ?_
        refine lv_bipush (v := 16) hx hb dX4_keep_59 (by decide) ?_
        obtain ⟨hi6, hf⟩ := ckS hf
        refine va_iald hx hb hK.1 hP 1 0 rfl rfl hi6 dX4_keep_61 ?_
        have hv := Option.some.inj hf
        exact hret _ _ _ _ _ (by rw [← hv]; exact hP) hS (by rw [← hv]) dX4_keep_62
      · have hf := iteF hf c5
        refine lv_aload_n hx hb dX4_keep_32 rfl (lv_at hl 0 rfl) ?_
        refine va_get (D := gD G) (ci := 4) (v := .ref (ad 14)) (C := RX4) (T := TX4) (N := 29) hx hb hts hi_X4 hown hK.1 hP 0 rfl rfl 14 (by decide) kl_34 (fun _ h9 => h9) rfl dX4_keep_33 ?_
        refine lv_bipush (v := 17) hx hb dX4_keep_36 (by decide) ?_
        refine lv_iload_n hx hb dX4_keep_38 rfl (lv_at hl 1 rfl) ?_
        refine lv_imul hx hb dX4_keep_39 ?_
        refine lv_iload_n hx hb dX4_keep_40 rfl (lv_at hl 2 rfl) ?_
        refine lv_iadd hx hb dX4_keep_41 ?_
        refine lv_aload_n hx hb dX4_keep_42 rfl (lv_at hl 0 rfl) ?_
        refine va_get (D := gD G) (ci := 4) (v := .ref (ad 10)) (C := RX4) (T := TX4) (N := 29) hx hb hts hi_X4 hown hK.1 hP 0 rfl rfl 10 (by decide) kl_25 (fun _ h9 => h9) rfl dX4_keep_43 ?_
        refine lv_iload_n hx hb dX4_keep_46 rfl (lv_at hl 2 rfl) ?_
        obtain ⟨hi7, hf⟩ := ckS hf
        refine va_iald hx hb hK.1 hP 1 0 rfl rfl hi7 dX4_keep_47 ?_
        obtain ⟨hi8, hf⟩ := ckS hf
        refine va_iast hx hb hK.1 hP hD hS 2 0 rfl rfl hi8 dX4_keep_48 (fun H locs hP hD hS => ?_)
        have hP : va_P (gD G) vwCl [(h0, moE ad s_thrown s_textSize s_place s_people s_readPeople s_acts s_seen s_seed s_rowSize s_feedMany s_feedRow s_restMany s_restFirst), (ad 10, aI G 17 q_page), (ad 14, aI G 34 (upd q_kept (Int32.toNatClampNeg ((17 * a1) + x2)) (q_page (Int32.toNatClampNeg x2)))), (ad 15, aZ G 2 q_isKept)] H := hP
        have hD : va_D A [(h0, moE ad s_thrown s_textSize s_place s_people s_readPeople s_acts s_seen s_seed s_rowSize s_feedMany s_feedRow s_restMany s_restFirst), (ad 10, aI G 17 q_page), (ad 14, aI G 34 (upd q_kept (Int32.toNatClampNeg ((17 * a1) + x2)) (q_page (Int32.toNatClampNeg x2)))), (ad 15, aZ G 2 q_isKept)] := hD
        refine lv_iinc (v := (x2 + 1)) (lv' := [(2, .int (x2 + 1)), (0, .ref h0), (1, .int a1)]) hx hb dX4_keep_49 hl (k := 2) rfl rfl (by decide) rfl (fun ls hl => ?_)
        refine lv_goto (tgt := 26) hx hb dX4_keep_52 (by decide) ?_
        exact ih26 (x2 + 1) s_thrown (upd q_kept (Int32.toNatClampNeg ((17 * a1) + x2)) (q_page (Int32.toNatClampNeg x2))) q_isKept _ _ _ hP hD hS (lv_sub hl [1, 2, 0] rfl) hf
  refine lv_aload_n hx hb dX4_keep_0 rfl (lv_at hl 0 rfl) ?_
  refine lv_iconst (v := 0) hx hb dX4_keep_1 (by decide) ?_
  refine va_put (D := gD G) (ci := 4) (v := .int 0) (ty := .int) (C := RX4) (T := TX4) (N := 29) hx hb hts hi_X4 tyX4 tyX4_ok nmX4 hown hK.1 hP hD hS 0 rfl rfl 0 (by decide) kl_60 (fun _ h9 => h9) rfl (tyX4_ok 0 (by decide)) rfl rfl (Nat.le_of_ble_eq_true rfl) dX4_keep_2 (fun H locs hP hD hS => ?_)
  have hP : va_P (gD G) vwCl [(h0, moE ad 0 s_textSize s_place s_people s_readPeople s_acts s_seen s_seed s_rowSize s_feedMany s_feedRow s_restMany s_restFirst), (ad 10, aI G 17 q_page), (ad 14, aI G 34 q_kept), (ad 15, aZ G 2 q_isKept)] H := hP
  have hD : va_D A [(h0, moE ad 0 s_textSize s_place s_people s_readPeople s_acts s_seen s_seed s_rowSize s_feedMany s_feedRow s_restMany s_restFirst), (ad 10, aI G 17 q_page), (ad 14, aI G 34 q_kept), (ad 15, aZ G 2 q_isKept)] := hD
  refine lv_iload_n hx hb dX4_keep_5 rfl (lv_at hl 1 rfl) ?_
  refine lv_i2l (v := (Int32.toInt64 a1)) hx hb dX4_keep_6 rfl ?_
  refine lv_lconst (v := 0) hx hb dX4_keep_7 (by decide) ?_
  refine lv_lconst (v := 1) hx hb dX4_keep_8 (by decide) ?_
  obtain ⟨o1, hc2, hf⟩ := bindS hf
  refine ro_i (va_runS (As := [.long (Int32.toInt64 a1), .long 0, .long 1]) (rest := []) ⟨hx, hb, hml, hown, hts⟩ (ctX4_in l G (Int32.toInt64 a1) 0 1 o1 hc2) (va_cwS 3 hts gX4_keep_X4_in rfl rfl rfl (by decide +kernel) ⟨Nat.le_of_ble_eq_true rfl, Nat.le_of_ble_eq_true rfl⟩) (preR_S (hP.sub (ws' := []) [] rfl) hK) rfl rfl hl.1 rfl (lv_room (Nat.le_of_ble_eq_true rfl)) dX4_keep_9 ⟨Nat.zero_le _, Nat.zero_le _⟩) hS hP (fun H locs hP hS => ?_)
  refine lv_if_ne (tgt := 17) hx hb dX4_keep_12 (by decide) (fun c3 => ?_) (fun c3 => ?_)
  · have hf := iteF hf c3
    refine lv_aload_n hx hb dX4_keep_17 rfl (lv_at hl 0 rfl) ?_
    refine va_get (D := gD G) (ci := 4) (v := .ref (ad 15)) (C := RX4) (T := TX4) (N := 29) hx hb hts hi_X4 hown hK.1 hP 0 rfl rfl 15 (by decide) kl_37 (fun _ h9 => h9) rfl dX4_keep_18 ?_
    refine lv_iload_n hx hb dX4_keep_21 rfl (lv_at hl 1 rfl) ?_
    refine lv_iconst (v := 1) hx hb dX4_keep_22 (by decide) ?_
    obtain ⟨hi4, hf⟩ := ckS hf
    refine va_zast hx hb hK.1 hP hD hS 3 2 rfl rfl hi4 dX4_keep_23 (fun H locs hP hD hS => ?_)
    have hP : va_P (gD G) vwCl [(h0, moE ad 0 s_textSize s_place s_people s_readPeople s_acts s_seen s_seed s_rowSize s_feedMany s_feedRow s_restMany s_restFirst), (ad 10, aI G 17 q_page), (ad 14, aI G 34 q_kept), (ad 15, aZ G 2 (upd q_isKept (Int32.toNatClampNeg a1) (vp_nar .boolean 1)))] H := hP
    have hD : va_D A [(h0, moE ad 0 s_textSize s_place s_people s_readPeople s_acts s_seen s_seed s_rowSize s_feedMany s_feedRow s_restMany s_restFirst), (ad 10, aI G 17 q_page), (ad 14, aI G 34 q_kept), (ad 15, aZ G 2 (upd q_isKept (Int32.toNatClampNeg a1) (vp_nar .boolean 1)))] := hD
    refine lv_iconst (v := 0) hx hb dX4_keep_24 (by decide) ?_
    refine lv_istore_n (lv' := [(2, .int 0), (0, .ref h0), (1, .int a1)]) hx hb dX4_keep_25 rfl hl (by decide) rfl (fun ls hl => ?_)
    exact hC26 20 0 0 q_kept (upd q_isKept (Int32.toNatClampNeg a1) (vp_nar .boolean 1)) _ _ _ hP hD hS (lv_sub hl [1, 2, 0] rfl) hf
  · have hf := iteT hf c3
    refine lv_iconst (v := (-1)) hx hb dX4_keep_15 (by decide) ?_
    have hv := Option.some.inj hf
    exact hret _ _ _ _ _ (by rw [← hv]; exact hP) hS (by rw [← hv]) dX4_keep_16
def fX4_again_31 (q_kept : Nat → Int32) (a1 : Int32) : Nat → Int32 → Int32 → Int32 → (Nat → Int32) → Option (Int32 × Int32 × Int32 × (Nat → Int32))
  | 0, _, _, _, _ => none
  | n + 1, x2, s_thrown, s_acts, q_page => (if 17 ≤ x2 then ck 16 17 (some ((q_page (Int32.toNatClampNeg 16)), s_thrown, 0, q_page)) else ck ((17 * a1) + x2) 34 (ck x2 17 ((fX4_again_31 q_kept a1 n (x2 + 1) s_thrown s_acts (upd q_page (Int32.toNatClampNeg x2) (q_kept (Int32.toNatClampNeg ((17 * a1) + x2))))))))
def fX4_again (s_thrown : Int32) (s_acts : Int32) (q_page : Nat → Int32) (q_kept : Nat → Int32) (q_isKept : Nat → Int32) (a1 : Int32) : Option (Int32 × Int32 × Int32 × (Nat → Int32)) :=
  (fX4_in (Int32.toInt64 a1) 0 1).bind fun o1 => ((if o1 = 0 then some ((-1), 0, s_acts, q_page) else ck a1 2 ((if (q_isKept (Int32.toNatClampNeg a1)) = 0 then some ((-3), 0, s_acts, q_page) else (fX4_again_31 q_kept a1 20 0 0 s_acts q_page)))))
set_option maxHeartbeats 4000000 in
set_option maxRecDepth 100000 in
theorem ctX4_again (l : Launch) (G : GG) (h0 : Nat) (ad : Nat → Nat) (s_thrown : Int32) (s_textSize : Int32) (s_place : Int32) (s_people : Int32) (s_readPeople : Int32) (s_acts : Int32) (s_seen : Int32) (s_seed : Int64) (s_rowSize : Int32) (s_feedMany : Int32) (s_feedRow : Int32) (s_restMany : Int32) (s_restFirst : Int32) (q_page : Nat → Int32) (q_kept : Nat → Int32) (q_isKept : Nat → Int32) (a1 : Int32) (out : Int32 × Int32 × Int32 × (Nat → Int32)) (hf : fX4_again s_thrown s_acts q_page q_kept q_isKept a1 = some out) : Met l yX4_again wsX4_again ({ frames := 1, cells := 0, slots := 0, locals := 25 }) (PcW G [.ref h0, .int a1] [(h0, moE ad s_thrown s_textSize s_place s_people s_readPeople s_acts s_seen s_seed s_rowSize s_feedMany s_feedRow s_restMany s_restFirst), (ad 10, aI G 17 q_page), (ad 14, aI G 34 q_kept), (ad 15, aZ G 2 q_isKept)]) (QiW G [(h0, moE ad s_thrown s_textSize s_place s_people s_readPeople s_acts s_seen s_seed s_rowSize s_feedMany s_feedRow s_restMany s_restFirst), (ad 10, aI G 17 q_page), (ad 14, aI G 34 q_kept), (ad 15, aZ G 2 q_isKept)] [(h0, moE ad out.2.1 s_textSize s_place s_people s_readPeople out.2.2.1 s_seen s_seed s_rowSize s_feedMany s_feedRow s_restMany s_restFirst), (ad 10, aI G 17 out.2.2.2), (ad 14, aI G 34 q_kept), (ad 15, aZ G 2 q_isKept)] out.1) 0 0 (inA [(h0, moE ad s_thrown s_textSize s_place s_people s_readPeople s_acts s_seen s_seed s_rowSize s_feedMany s_feedRow s_restMany s_restFirst), (ad 10, aI G 17 q_page), (ad 14, aI G 34 q_kept), (ad 15, aZ G 2 q_isKept)]) := by
  refine mk_Wi (cc := cX4_again) (maxL := 3) (by decide) rfl (Nat.le_of_ble_eq_true rfl) ?_
  intro p e s m args below meth c Q ls A S hP hK hD hl hret
  obtain ⟨hx, hb, hml, hown, hts⟩ := S
  have hown : s.vm.findClass RX4 = some m.cls := hown
  have kl_60 := hts (.fieldLink RX4 60 "ArrestOrderModel" "thrown" "I") (by decide +kernel)
  have hi_X4 : ∀ w ∈ wsX40, w ∈ wsX4_again := fun _ h => List.mem_cons_of_mem _ (List.mem_append_right _ h)
  have kl_37 := hts (.fieldLink RX4 37 "ArrestOrderModel" "isKept" "[Z") (by decide +kernel)
  have kl_110 := hts (.fieldLink RX4 110 "ArrestOrderModel" "acts" "I") (by decide +kernel)
  have kl_25 := hts (.fieldLink RX4 25 "ArrestOrderModel" "page" "[I") (by decide +kernel)
  have kl_34 := hts (.fieldLink RX4 34 "ArrestOrderModel" "kept" "[I") (by decide +kernel)
  have hS : va_S A s.heap s.heap [] := va_S.rf
  have hl : lv_has ls 3 [(0, .ref h0), (1, .int a1)] := hl
  have hC31 : ∀ (n : Nat) (x2 : Int32) (s_thrown : Int32) (s_acts : Int32) (q_page : Nat → Int32) (H : Heap) (locs : List Loc) (ls : Array Slot), va_P (gD G) vwCl [(h0, moE ad s_thrown s_textSize s_place s_people s_readPeople s_acts s_seen s_seed s_rowSize s_feedMany s_feedRow s_restMany s_restFirst), (ad 10, aI G 17 q_page), (ad 14, aI G 34 q_kept), (ad 15, aZ G 2 q_isKept)] H → va_D A [(h0, moE ad s_thrown s_textSize s_place s_people s_readPeople s_acts s_seen s_seed s_rowSize s_feedMany s_feedRow s_restMany s_restFirst), (ad 10, aI G 17 q_page), (ad 14, aI G 34 q_kept), (ad 15, aZ G 2 q_isKept)] → va_S A s.heap H locs → lv_has ls 3 [(0, .ref h0), (1, .int a1), (2, .int x2)] → fX4_again_31 q_kept a1 n x2 s_thrown s_acts q_page = some out → W p l e ({ frames := 1, cells := 0, slots := 0, locals := 25 }) s m args below meth c H locs 0 0 Q (F0 m 31 ls []) := by
    intro n31
    induction n31 with
    | zero => intro x2 s_thrown s_acts q_page H locs ls hP hD hS hl hf; exact absurd (show none = some out from hf) (fun z => by cases z)
    | succ n31 ih31 =>
      intro x2 s_thrown s_acts q_page H locs ls hP hD hS hl hf
      refine lv_iload_n hx hb dX4_again_31 rfl (lv_at hl 2 rfl) ?_
      refine lv_bipush (v := 17) hx hb dX4_again_32 (by decide) ?_
      refine lv_icmp_ge (tgt := 60) hx hb dX4_again_34 (by decide) (fun c6 => ?_) (fun c6 => ?_)
      · have hf := iteT hf c6
        refine lv_aload_n hx hb dX4_again_60 rfl (lv_at hl 0 rfl) ?_
        refine lv_iconst (v := 0) hx hb dX4_again_61 (by decide) ?_
        refine va_put (D := gD G) (ci := 4) (v := .int 0) (ty := .int) (C := RX4) (T := TX4) (N := 29) hx hb hts hi_X4 tyX4 tyX4_ok nmX4 hown hK.1 hP hD hS 0 rfl rfl 13 (by decide) kl_110 (fun _ h9 => h9) rfl (tyX4_ok 13 (by decide)) rfl rfl (Nat.le_of_ble_eq_true rfl) dX4_again_62 (fun H locs hP hD hS => ?_)
        have hP : va_P (gD G) vwCl [(h0, moE ad s_thrown s_textSize s_place s_people s_readPeople 0 s_seen s_seed s_rowSize s_feedMany s_feedRow s_restMany s_restFirst), (ad 10, aI G 17 q_page), (ad 14, aI G 34 q_kept), (ad 15, aZ G 2 q_isKept)] H := hP
        have hD : va_D A [(h0, moE ad s_thrown s_textSize s_place s_people s_readPeople 0 s_seen s_seed s_rowSize s_feedMany s_feedRow s_restMany s_restFirst), (ad 10, aI G 17 q_page), (ad 14, aI G 34 q_kept), (ad 15, aZ G 2 q_isKept)] := hD
        refine lv_aload_n hx hb dX4_again_65 rfl (lv_at hl 0 rfl) ?_
        refine va_get (D := gD G) (ci := 4) (v := .ref (ad 10)) (C := RX4) (T := TX4) (N := 29) hx hb hts hi_X4 hown hK.1 hP 0 rfl rfl 10 (by decide) kl_25 (fun _ h9 => h9) rfl dX4_again_66 ?_
        refine lv_bipush (v := 16) hx hb dX4_again_69 (by decide) ?_
        obtain ⟨hi7, hf⟩ := ckS hf
        refine va_iald hx hb hK.1 hP 1 0 rfl rfl hi7 dX4_again_71 ?_
        have hv := Option.some.inj hf
        exact hret _ _ _ _ _ (by rw [← hv]; exact hP) hS (by rw [← hv]) dX4_again_72
      · have hf := iteF hf c6
        refine lv_aload_n hx hb dX4_again_37 rfl (lv_at hl 0 rfl) ?_
        refine va_get (D := gD G) (ci := 4) (v := .ref (ad 10)) (C := RX4) (T := TX4) (N := 29) hx hb hts hi_X4 hown hK.1 hP 0 rfl rfl 10 (by decide) kl_25 (fun _ h9 => h9) rfl dX4_again_38 ?_
        refine lv_iload_n hx hb dX4_again_41 rfl (lv_at hl 2 rfl) ?_
        refine lv_aload_n hx hb dX4_again_42 rfl (lv_at hl 0 rfl) ?_
        refine va_get (D := gD G) (ci := 4) (v := .ref (ad 14)) (C := RX4) (T := TX4) (N := 29) hx hb hts hi_X4 hown hK.1 hP 0 rfl rfl 14 (by decide) kl_34 (fun _ h9 => h9) rfl dX4_again_43 ?_
        refine lv_bipush (v := 17) hx hb dX4_again_46 (by decide) ?_
        refine lv_iload_n hx hb dX4_again_48 rfl (lv_at hl 1 rfl) ?_
        refine lv_imul hx hb dX4_again_49 ?_
        refine lv_iload_n hx hb dX4_again_50 rfl (lv_at hl 2 rfl) ?_
        refine lv_iadd hx hb dX4_again_51 ?_
        obtain ⟨hi8, hf⟩ := ckS hf
        refine va_iald hx hb hK.1 hP 2 0 rfl rfl hi8 dX4_again_52 ?_
        obtain ⟨hi9, hf⟩ := ckS hf
        refine va_iast hx hb hK.1 hP hD hS 1 0 rfl rfl hi9 dX4_again_53 (fun H locs hP hD hS => ?_)
        have hP : va_P (gD G) vwCl [(h0, moE ad s_thrown s_textSize s_place s_people s_readPeople s_acts s_seen s_seed s_rowSize s_feedMany s_feedRow s_restMany s_restFirst), (ad 10, aI G 17 (upd q_page (Int32.toNatClampNeg x2) (q_kept (Int32.toNatClampNeg ((17 * a1) + x2))))), (ad 14, aI G 34 q_kept), (ad 15, aZ G 2 q_isKept)] H := hP
        have hD : va_D A [(h0, moE ad s_thrown s_textSize s_place s_people s_readPeople s_acts s_seen s_seed s_rowSize s_feedMany s_feedRow s_restMany s_restFirst), (ad 10, aI G 17 (upd q_page (Int32.toNatClampNeg x2) (q_kept (Int32.toNatClampNeg ((17 * a1) + x2))))), (ad 14, aI G 34 q_kept), (ad 15, aZ G 2 q_isKept)] := hD
        refine lv_iinc (v := (x2 + 1)) (lv' := [(2, .int (x2 + 1)), (0, .ref h0), (1, .int a1)]) hx hb dX4_again_54 hl (k := 2) rfl rfl (by decide) rfl (fun ls hl => ?_)
        refine lv_goto (tgt := 31) hx hb dX4_again_57 (by decide) ?_
        exact ih31 (x2 + 1) s_thrown s_acts (upd q_page (Int32.toNatClampNeg x2) (q_kept (Int32.toNatClampNeg ((17 * a1) + x2)))) _ _ _ hP hD hS (lv_sub hl [1, 2, 0] rfl) hf
  refine lv_aload_n hx hb dX4_again_0 rfl (lv_at hl 0 rfl) ?_
  refine lv_iconst (v := 0) hx hb dX4_again_1 (by decide) ?_
  refine va_put (D := gD G) (ci := 4) (v := .int 0) (ty := .int) (C := RX4) (T := TX4) (N := 29) hx hb hts hi_X4 tyX4 tyX4_ok nmX4 hown hK.1 hP hD hS 0 rfl rfl 0 (by decide) kl_60 (fun _ h9 => h9) rfl (tyX4_ok 0 (by decide)) rfl rfl (Nat.le_of_ble_eq_true rfl) dX4_again_2 (fun H locs hP hD hS => ?_)
  have hP : va_P (gD G) vwCl [(h0, moE ad 0 s_textSize s_place s_people s_readPeople s_acts s_seen s_seed s_rowSize s_feedMany s_feedRow s_restMany s_restFirst), (ad 10, aI G 17 q_page), (ad 14, aI G 34 q_kept), (ad 15, aZ G 2 q_isKept)] H := hP
  have hD : va_D A [(h0, moE ad 0 s_textSize s_place s_people s_readPeople s_acts s_seen s_seed s_rowSize s_feedMany s_feedRow s_restMany s_restFirst), (ad 10, aI G 17 q_page), (ad 14, aI G 34 q_kept), (ad 15, aZ G 2 q_isKept)] := hD
  refine lv_iload_n hx hb dX4_again_5 rfl (lv_at hl 1 rfl) ?_
  refine lv_i2l (v := (Int32.toInt64 a1)) hx hb dX4_again_6 rfl ?_
  refine lv_lconst (v := 0) hx hb dX4_again_7 (by decide) ?_
  refine lv_lconst (v := 1) hx hb dX4_again_8 (by decide) ?_
  obtain ⟨o1, hc2, hf⟩ := bindS hf
  refine ro_i (va_runS (As := [.long (Int32.toInt64 a1), .long 0, .long 1]) (rest := []) ⟨hx, hb, hml, hown, hts⟩ (ctX4_in l G (Int32.toInt64 a1) 0 1 o1 hc2) (va_cwS 3 hts gX4_again_X4_in rfl rfl rfl (by decide +kernel) ⟨Nat.le_of_ble_eq_true rfl, Nat.le_of_ble_eq_true rfl⟩) (preR_S (hP.sub (ws' := []) [] rfl) hK) rfl rfl hl.1 rfl (lv_room (Nat.le_of_ble_eq_true rfl)) dX4_again_9 ⟨Nat.zero_le _, Nat.zero_le _⟩) hS hP (fun H locs hP hS => ?_)
  refine lv_if_ne (tgt := 17) hx hb dX4_again_12 (by decide) (fun c3 => ?_) (fun c3 => ?_)
  · have hf := iteF hf c3
    refine lv_aload_n hx hb dX4_again_17 rfl (lv_at hl 0 rfl) ?_
    refine va_get (D := gD G) (ci := 4) (v := .ref (ad 15)) (C := RX4) (T := TX4) (N := 29) hx hb hts hi_X4 hown hK.1 hP 0 rfl rfl 15 (by decide) kl_37 (fun _ h9 => h9) rfl dX4_again_18 ?_
    refine lv_iload_n hx hb dX4_again_21 rfl (lv_at hl 1 rfl) ?_
    obtain ⟨hi4, hf⟩ := ckS hf
    refine va_zald hx hb hK.1 hP 3 2 rfl rfl hi4 dX4_again_22 ?_
    refine lv_if_ne (tgt := 29) hx hb dX4_again_23 (by decide) (fun c5 => ?_) (fun c5 => ?_)
    · have hf := iteF hf c5
      refine lv_iconst (v := 0) hx hb dX4_again_29 (by decide) ?_
      refine lv_istore_n (lv' := [(2, .int 0), (0, .ref h0), (1, .int a1)]) hx hb dX4_again_30 rfl hl (by decide) rfl (fun ls hl => ?_)
      exact hC31 20 0 0 s_acts q_page _ _ _ hP hD hS (lv_sub hl [1, 2, 0] rfl) hf
    · have hf := iteT hf c5
      refine lv_bipush (v := (-3)) hx hb dX4_again_26 (by decide) ?_
      have hv := Option.some.inj hf
      exact hret _ _ _ _ _ (by rw [← hv]; exact hP) hS (by rw [← hv]) dX4_again_28
  · have hf := iteT hf c3
    refine lv_iconst (v := (-1)) hx hb dX4_again_15 (by decide) ?_
    have hv := Option.some.inj hf
    exact hret _ _ _ _ _ (by rw [← hv]; exact hP) hS (by rw [← hv]) dX4_again_16
