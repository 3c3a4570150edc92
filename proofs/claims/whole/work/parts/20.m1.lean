def fX4_in (a0 : Int64) (a2 : Int64) (a4 : Int64) : Option (Int32) :=
  (if (lg_cmp a0 a2) < 0 then some 0 else (if 0 < (lg_cmp a0 a4) then some 0 else some 1))
set_option maxHeartbeats 4000000 in
set_option maxRecDepth 100000 in
theorem ctX4_in (l : Launch) (G : GG) (a0 : Int64) (a2 : Int64) (a4 : Int64) (out : Int32) (hf : fX4_in a0 a2 a4 = some out) : Met l yX4_in wsX4_in ({ frames := 0, cells := 0, slots := 0, locals := 0 }) (PcR G [.long a0, .long a2, .long a4] []) (QiR out) 0 0 noA := by
  refine mk_Rz (cc := cX4_in) (maxL := 6) (by decide) rfl (Nat.le_of_ble_eq_true rfl) ?_
  intro p e s m args below meth c Q ls S hP hK hl hret
  obtain ⟨hx, hb, hml, hown, hts⟩ := S
  have hown : s.vm.findClass RX4 = some m.cls := hown
  have hS : va_S noA s.heap s.heap [] := va_S.rf
  have hl : lv_has ls 6 [(0, .long a0), (2, .long a2), (4, .long a4)] := hl
  refine lv_lload_n hx hb dX4_in_0 rfl (lv_at hl 0 rfl) ?_
  refine lv_lload_n hx hb dX4_in_1 rfl (lv_at hl 1 rfl) ?_
  refine W.lcmp hx hb dX4_in_2 ?_
  refine lv_if_lt (tgt := 17) hx hb dX4_in_3 (by decide) (fun c1 => ?_) (fun c1 => ?_)
  · have hf := iteT hf c1
    refine lv_iconst (v := 0) hx hb dX4_in_17 (by decide) ?_
    have hv := Option.some.inj hf
    exact hret _ _ _ _ _ hS rfl hv dX4_in_18
  · have hf := iteF hf c1
    refine lv_lload_n hx hb dX4_in_6 rfl (lv_at hl 0 rfl) ?_
    refine lv_lload hx hb dX4_in_7 (lv_at hl 2 rfl) ?_
    refine W.lcmp hx hb dX4_in_9 ?_
    refine lv_if_gt (tgt := 17) hx hb dX4_in_10 (by decide) (fun c2 => ?_) (fun c2 => ?_)
    · have hf := iteT hf c2
      refine lv_iconst (v := 0) hx hb dX4_in_17 (by decide) ?_
      have hv := Option.some.inj hf
      exact hret _ _ _ _ _ hS rfl hv dX4_in_18
    · have hf := iteF hf c2
      refine lv_iconst (v := 1) hx hb dX4_in_13 (by decide) ?_
      refine lv_goto (tgt := 18) hx hb dX4_in_14 (by decide) ?_
      have hv := Option.some.inj hf
      exact hret _ _ _ _ _ hS rfl hv dX4_in_18
def fX4_has (a0 : Int32) (a1 : Int32) : Option (Int32) :=
  (if ((a0 >>> (a1 &&& 31)) &&& 1) = 1 then some 1 else some 0)
set_option maxHeartbeats 4000000 in
set_option maxRecDepth 100000 in
theorem ctX4_has (l : Launch) (G : GG) (a0 : Int32) (a1 : Int32) (out : Int32) (hf : fX4_has a0 a1 = some out) : Met l yX4_has wsX4_has ({ frames := 0, cells := 0, slots := 0, locals := 0 }) (PcR G [.int a0, .int a1] []) (QiR out) 0 0 noA := by
  refine mk_Rz (cc := cX4_has) (maxL := 2) (by decide) rfl (Nat.le_of_ble_eq_true rfl) ?_
  intro p e s m args below meth c Q ls S hP hK hl hret
  obtain ⟨hx, hb, hml, hown, hts⟩ := S
  have hown : s.vm.findClass RX4 = some m.cls := hown
  have hS : va_S noA s.heap s.heap [] := va_S.rf
  have hl : lv_has ls 2 [(0, .int a0), (1, .int a1)] := hl
  refine lv_iload_n hx hb dX4_has_0 rfl (lv_at hl 0 rfl) ?_
  refine lv_iload_n hx hb dX4_has_1 rfl (lv_at hl 1 rfl) ?_
  refine lv_ishr hx hb dX4_has_2 ?_
  refine lv_iconst (v := 1) hx hb dX4_has_3 (by decide) ?_
  refine lv_iand hx hb dX4_has_4 ?_
  refine lv_iconst (v := 1) hx hb dX4_has_5 (by decide) ?_
  refine lv_icmp_ne (tgt := 13) hx hb dX4_has_6 (by decide) (fun c1 => ?_) (fun c1 => ?_)
  · have hf := iteF hf c1
    refine lv_iconst (v := 0) hx hb dX4_has_13 (by decide) ?_
    have hv := Option.some.inj hf
    exact hret _ _ _ _ _ hS rfl hv dX4_has_14
  · have hf := iteT hf c1
    refine lv_iconst (v := 1) hx hb dX4_has_9 (by decide) ?_
    refine lv_goto (tgt := 14) hx hb dX4_has_10 (by decide) ?_
    have hv := Option.some.inj hf
    exact hret _ _ _ _ _ hS rfl hv dX4_has_14
def fX4_many_4 (a0 : Int32) : Nat → Int32 → Int32 → Option (Int32)
  | 0, _, _ => none
  | n + 1, x1, x2 => (if 7 ≤ x2 then some x1 else (fX4_many_4 a0 n (x1 + ((a0 >>> (x2 &&& 31)) &&& 1)) (x2 + 1)))
def fX4_many (a0 : Int32) : Option (Int32) :=
  (fX4_many_4 a0 9 0 0)
set_option maxHeartbeats 4000000 in
set_option maxRecDepth 100000 in
theorem ctX4_many (l : Launch) (G : GG) (a0 : Int32) (out : Int32) (hf : fX4_many a0 = some out) : Met l yX4_many wsX4_many ({ frames := 0, cells := 0, slots := 0, locals := 0 }) (PcR G [.int a0] []) (QiR out) 0 0 noA := by
  refine mk_Ri (cc := cX4_many) (maxL := 3) (by decide) rfl (Nat.le_of_ble_eq_true rfl) ?_
  intro p e s m args below meth c Q ls S hP hK hl hret
  obtain ⟨hx, hb, hml, hown, hts⟩ := S
  have hown : s.vm.findClass RX4 = some m.cls := hown
  have hS : va_S noA s.heap s.heap [] := va_S.rf
  have hl : lv_has ls 3 [(0, .int a0)] := hl
  have hC4 : ∀ (n : Nat) (x1 : Int32) (x2 : Int32) (H : Heap) (locs : List Loc) (ls : Array Slot), va_P (gD G) vwCl [] H → va_S noA s.heap H locs → lv_has ls 3 [(0, .int a0), (1, .int x1), (2, .int x2)] → fX4_many_4 a0 n x1 x2 = some out → W p l e ({ frames := 0, cells := 0, slots := 0, locals := 0 }) s m args below meth c H locs 0 0 Q (F0 m 4 ls []) := by
    intro n4
    induction n4 with
    | zero => intro x1 x2 H locs ls hP hS hl hf; exact absurd (show none = some out from hf) (fun z => by cases z)
    | succ n4 ih4 =>
      intro x1 x2 H locs ls hP hS hl hf
      refine lv_iload_n hx hb dX4_many_4 rfl (lv_at hl 2 rfl) ?_
      refine lv_bipush (v := 7) hx hb dX4_many_5 (by decide) ?_
      refine lv_icmp_ge (tgt := 24) hx hb dX4_many_7 (by decide) (fun c1 => ?_) (fun c1 => ?_)
      · have hf := iteT hf c1
        refine lv_iload_n hx hb dX4_many_24 rfl (lv_at hl 1 rfl) ?_
        have hv := Option.some.inj hf
        exact hret _ _ _ _ _ hS hv dX4_many_25
      · have hf := iteF hf c1
        refine lv_iload_n hx hb dX4_many_10 rfl (lv_at hl 1 rfl) ?_
        refine lv_iload_n hx hb dX4_many_11 rfl (lv_at hl 0 rfl) ?_
        refine lv_iload_n hx hb dX4_many_12 rfl (lv_at hl 2 rfl) ?_
        refine lv_ishr hx hb dX4_many_13 ?_
        refine lv_iconst (v := 1) hx hb dX4_many_14 (by decide) ?_
        refine lv_iand hx hb dX4_many_15 ?_
        refine lv_iadd hx hb dX4_many_16 ?_
        refine lv_istore_n (lv' := [(1, .int (x1 + ((a0 >>> (x2 &&& 31)) &&& 1))), (0, .int a0), (2, .int x2)]) hx hb dX4_many_17 rfl hl (by decide) rfl (fun ls hl => ?_)
        refine lv_iinc (v := (x2 + 1)) (lv' := [(2, .int (x2 + 1)), (1, .int (x1 + ((a0 >>> (x2 &&& 31)) &&& 1))), (0, .int a0)]) hx hb dX4_many_18 hl (k := 2) rfl rfl (by decide) rfl (fun ls hl => ?_)
        refine lv_goto (tgt := 4) hx hb dX4_many_21 (by decide) ?_
        exact ih4 (x1 + ((a0 >>> (x2 &&& 31)) &&& 1)) (x2 + 1) _ _ _ hP hS (lv_sub hl [2, 1, 0] rfl) hf
  refine lv_iconst (v := 0) hx hb dX4_many_0 (by decide) ?_
  refine lv_istore_n (lv' := [(1, .int 0), (0, .int a0)]) hx hb dX4_many_1 rfl hl (by decide) rfl (fun ls hl => ?_)
  refine lv_iconst (v := 0) hx hb dX4_many_2 (by decide) ?_
  refine lv_istore_n (lv' := [(2, .int 0), (1, .int 0), (0, .int a0)]) hx hb dX4_many_3 rfl hl (by decide) rfl (fun ls hl => ?_)
  exact hC4 9 0 0 _ _ _ hP hS (lv_sub hl [2, 1, 0] rfl) hf
def fX4_noPerson (s_people : Int32) (a1 : Int32) : Option (Int32) :=
  (fX4_in (Int32.toInt64 a1) 0 (Int32.toInt64 (s_people - 1))).bind fun o1 => ((if o1 = 0 then some 1 else some 0))
set_option maxHeartbeats 4000000 in
set_option maxRecDepth 100000 in
theorem ctX4_noPerson (l : Launch) (G : GG) (h0 : Nat) (ad : Nat → Nat) (s_thrown : Int32) (s_textSize : Int32) (s_place : Int32) (s_people : Int32) (s_readPeople : Int32) (s_acts : Int32) (s_seen : Int32) (s_seed : Int64) (s_rowSize : Int32) (s_feedMany : Int32) (s_feedRow : Int32) (s_restMany : Int32) (s_restFirst : Int32) (a1 : Int32) (out : Int32) (hf : fX4_noPerson s_people a1 = some out) : Met l yX4_noPerson wsX4_noPerson ({ frames := 1, cells := 0, slots := 0, locals := 25 }) (PcR G [.ref h0, .int a1] [(h0, moE ad s_thrown s_textSize s_place s_people s_readPeople s_acts s_seen s_seed s_rowSize s_feedMany s_feedRow s_restMany s_restFirst)]) (QiR out) 0 0 noA := by
  refine mk_Rz (cc := cX4_noPerson) (maxL := 2) (by decide) rfl (Nat.le_of_ble_eq_true rfl) ?_
  intro p e s m args below meth c Q ls S hP hK hl hret
  obtain ⟨hx, hb, hml, hown, hts⟩ := S
  have hown : s.vm.findClass RX4 = some m.cls := hown
  have kl_64 := hts (.fieldLink RX4 64 "ArrestOrderModel" "people" "I") (by decide +kernel)
  have hi_X4 : ∀ w ∈ wsX40, w ∈ wsX4_noPerson := fun _ h => List.mem_cons_of_mem _ (List.mem_append_right _ h)
  have hS : va_S noA s.heap s.heap [] := va_S.rf
  have hl : lv_has ls 2 [(0, .ref h0), (1, .int a1)] := hl
  refine lv_iload_n hx hb dX4_noPerson_0 rfl (lv_at hl 1 rfl) ?_
  refine lv_i2l (v := (Int32.toInt64 a1)) hx hb dX4_noPerson_1 rfl ?_
  refine lv_lconst (v := 0) hx hb dX4_noPerson_2 (by decide) ?_
  refine lv_aload_n hx hb dX4_noPerson_3 rfl (lv_at hl 0 rfl) ?_
  refine va_get (D := gD G) (ci := 4) (v := .int s_people) (C := RX4) (T := TX4) (N := 29) hx hb hts hi_X4 hown hK.1 hP 0 rfl rfl 4 (by decide) kl_64 (fun _ h9 => h9) rfl dX4_noPerson_4 ?_
  refine lv_iconst (v := 1) hx hb dX4_noPerson_7 (by decide) ?_
  refine lv_isub hx hb dX4_noPerson_8 ?_
  refine lv_i2l (v := (Int32.toInt64 (s_people - 1))) hx hb dX4_noPerson_9 rfl ?_
  obtain ⟨o1, hc2, hf⟩ := bindS hf
  refine ro_i (va_runS (As := [.long (Int32.toInt64 a1), .long 0, .long (Int32.toInt64 (s_people - 1))]) (rest := []) ⟨hx, hb, hml, hown, hts⟩ (ctX4_in l G (Int32.toInt64 a1) 0 (Int32.toInt64 (s_people - 1)) o1 hc2) (va_cwS 3 hts gX4_noPerson_X4_in rfl rfl rfl (by decide +kernel) ⟨Nat.le_of_ble_eq_true rfl, Nat.le_of_ble_eq_true rfl⟩) (preR_S (hP.sub (ws' := []) [] rfl) hK) rfl rfl hl.1 rfl (lv_room (Nat.le_of_ble_eq_true rfl)) dX4_noPerson_10 ⟨Nat.zero_le _, Nat.zero_le _⟩) hS hP (fun H locs hP hS => ?_)
  refine lv_if_ne (tgt := 20) hx hb dX4_noPerson_13 (by decide) (fun c3 => ?_) (fun c3 => ?_)
  · have hf := iteF hf c3
    refine lv_iconst (v := 0) hx hb dX4_noPerson_20 (by decide) ?_
    have hv := Option.some.inj hf
    exact hret _ _ _ _ _ hS rfl hv dX4_noPerson_21
  · have hf := iteT hf c3
    refine lv_iconst (v := 1) hx hb dX4_noPerson_16 (by decide) ?_
    refine lv_goto (tgt := 21) hx hb dX4_noPerson_17 (by decide) ?_
    have hv := Option.some.inj hf
    exact hret _ _ _ _ _ hS rfl hv dX4_noPerson_21
def fX4_write (s_thrown : Int32) (s_textSize : Int32) (q_text : Nat → Int32) (a1 : Int32) : Option (Int32 × Int32 × Int32 × (Nat → Int32)) :=
  (fX4_in (Int32.toInt64 a1) 0 255).bind fun o1 => ((if o1 = 0 then some ((-2), 0, s_textSize, q_text) else (if s_textSize = 48 then some ((-4), 0, s_textSize, q_text) else ck s_textSize 48 (some ((s_textSize + 1), 0, (s_textSize + 1), (upd q_text (Int32.toNatClampNeg s_textSize) a1))))))
set_option maxHeartbeats 4000000 in
set_option maxRecDepth 100000 in
theorem ctX4_write (l : Launch) (G : GG) (h0 : Nat) (ad : Nat → Nat) (s_thrown : Int32) (s_textSize : Int32) (s_place : Int32) (s_people : Int32) (s_readPeople : Int32) (s_acts : Int32) (s_seen : Int32) (s_seed : Int64) (s_rowSize : Int32) (s_feedMany : Int32) (s_feedRow : Int32) (s_restMany : Int32) (s_restFirst : Int32) (q_text : Nat → Int32) (a1 : Int32) (out : Int32 × Int32 × Int32 × (Nat → Int32)) (hf : fX4_write s_thrown s_textSize q_text a1 = some out) : Met l yX4_write wsX4_write ({ frames := 1, cells := 0, slots := 0, locals := 25 }) (PcW G [.ref h0, .int a1] [(h0, moE ad s_thrown s_textSize s_place s_people s_readPeople s_acts s_seen s_seed s_rowSize s_feedMany s_feedRow s_restMany s_restFirst), (ad 1, aI G 48 q_text)]) (QiW G [(h0, moE ad s_thrown s_textSize s_place s_people s_readPeople s_acts s_seen s_seed s_rowSize s_feedMany s_feedRow s_restMany s_restFirst), (ad 1, aI G 48 q_text)] [(h0, moE ad out.2.1 out.2.2.1 s_place s_people s_readPeople s_acts s_seen s_seed s_rowSize s_feedMany s_feedRow s_restMany s_restFirst), (ad 1, aI G 48 out.2.2.2)] out.1) 0 0 (inA [(h0, moE ad s_thrown s_textSize s_place s_people s_readPeople s_acts s_seen s_seed s_rowSize s_feedMany s_feedRow s_restMany s_restFirst), (ad 1, aI G 48 q_text)]) := by
  refine mk_Wi (cc := cX4_write) (maxL := 2) (by decide) rfl (Nat.le_of_ble_eq_true rfl) ?_
  intro p e s m args below meth c Q ls A S hP hK hD hl hret
  obtain ⟨hx, hb, hml, hown, hts⟩ := S
  have hown : s.vm.findClass RX4 = some m.cls := hown
  have kl_60 := hts (.fieldLink RX4 60 "ArrestOrderModel" "thrown" "I") (by decide +kernel)
  have hi_X4 : ∀ w ∈ wsX40, w ∈ wsX4_write := fun _ h => List.mem_cons_of_mem _ (List.mem_append_right _ h)
  have kl_73 := hts (.fieldLink RX4 73 "ArrestOrderModel" "textSize" "I") (by decide +kernel)
  have kl_7 := hts (.fieldLink RX4 7 "ArrestOrderModel" "text" "[I") (by decide +kernel)
  have hS : va_S A s.heap s.heap [] := va_S.rf
  have hl : lv_has ls 2 [(0, .ref h0), (1, .int a1)] := hl
  refine lv_aload_n hx hb dX4_write_0 rfl (lv_at hl 0 rfl) ?_
  refine lv_iconst (v := 0) hx hb dX4_write_1 (by decide) ?_
  refine va_put (D := gD G) (ci := 4) (v := .int 0) (ty := .int) (C := RX4) (T := TX4) (N := 29) hx hb hts hi_X4 tyX4 tyX4_ok nmX4 hown hK.1 hP hD hS 0 rfl rfl 0 (by decide) kl_60 (fun _ h9 => h9) rfl (tyX4_ok 0 (by decide)) rfl rfl (Nat.le_of_ble_eq_true rfl) dX4_write_2 (fun H locs hP hD hS => ?_)
  have hP : va_P (gD G) vwCl [(h0, moE ad 0 s_textSize s_place s_people s_readPeople s_acts s_seen s_seed s_rowSize s_feedMany s_feedRow s_restMany s_restFirst), (ad 1, aI G 48 q_text)] H := hP
  have hD : va_D A [(h0, moE ad 0 s_textSize s_place s_people s_readPeople s_acts s_seen s_seed s_rowSize s_feedMany s_feedRow s_restMany s_restFirst), (ad 1, aI G 48 q_text)] := hD
  refine lv_iload_n hx hb dX4_write_5 rfl (lv_at hl 1 rfl) ?_
  refine lv_i2l (v := (Int32.toInt64 a1)) hx hb dX4_write_6 rfl ?_
  refine lv_lconst (v := 0) hx hb dX4_write_7 (by decide) ?_
  refine lv_ldc2 (v := 255) hx hb hown (hts (.constantLong RX4 71 (255)) (by decide +kernel)) dX4_write_8 ?_
  obtain ⟨o1, hc2, hf⟩ := bindS hf
  refine ro_i (va_runS (As := [.long (Int32.toInt64 a1), .long 0, .long 255]) (rest := []) ⟨hx, hb, hml, hown, hts⟩ (ctX4_in l G (Int32.toInt64 a1) 0 255 o1 hc2) (va_cwS 3 hts gX4_write_X4_in rfl rfl rfl (by decide +kernel) ⟨Nat.le_of_ble_eq_true rfl, Nat.le_of_ble_eq_true rfl⟩) (preR_S (hP.sub (ws' := []) [] rfl) hK) rfl rfl hl.1 rfl (lv_room (Nat.le_of_ble_eq_true rfl)) dX4_write_11 ⟨Nat.zero_le _, Nat.zero_le _⟩) hS hP (fun H locs hP hS => ?_)
  refine lv_if_ne (tgt := 20) hx hb dX4_write_14 (by decide) (fun c3 => ?_) (fun c3 => ?_)
  · have hf := iteF hf c3
    refine lv_aload_n hx hb dX4_write_20 rfl (lv_at hl 0 rfl) ?_
    refine va_get (D := gD G) (ci := 4) (v := .int s_textSize) (C := RX4) (T := TX4) (N := 29) hx hb hts hi_X4 hown hK.1 hP 0 rfl rfl 2 (by decide) kl_73 (fun _ h9 => h9) rfl dX4_write_21 ?_
    refine lv_bipush (v := 48) hx hb dX4_write_24 (by decide) ?_
    refine lv_icmp_ne (tgt := 32) hx hb dX4_write_26 (by decide) (fun c4 => ?_) (fun c4 => ?_)
    · have hf := iteF hf c4
      refine lv_aload_n hx hb dX4_write_32 rfl (lv_at hl 0 rfl) ?_
      refine va_get (D := gD G) (ci := 4) (v := .ref (ad 1)) (C := RX4) (T := TX4) (N := 29) hx hb hts hi_X4 hown hK.1 hP 0 rfl rfl 1 (by decide) kl_7 (fun _ h9 => h9) rfl dX4_write_33 ?_
      refine lv_aload_n hx hb dX4_write_36 rfl (lv_at hl 0 rfl) ?_
      refine va_get (D := gD G) (ci := 4) (v := .int s_textSize) (C := RX4) (T := TX4) (N := 29) hx hb hts hi_X4 hown hK.1 hP 0 rfl rfl 2 (by decide) kl_73 (fun _ h9 => h9) rfl dX4_write_37 ?_
      refine lv_iload_n hx hb dX4_write_40 rfl (lv_at hl 1 rfl) ?_
      obtain ⟨hi5, hf⟩ := ckS hf
      refine va_iast hx hb hK.1 hP hD hS 1 0 rfl rfl hi5 dX4_write_41 (fun H locs hP hD hS => ?_)
      have hP : va_P (gD G) vwCl [(h0, moE ad 0 s_textSize s_place s_people s_readPeople s_acts s_seen s_seed s_rowSize s_feedMany s_feedRow s_restMany s_restFirst), (ad 1, aI G 48 (upd q_text (Int32.toNatClampNeg s_textSize) a1))] H := hP
      have hD : va_D A [(h0, moE ad 0 s_textSize s_place s_people s_readPeople s_acts s_seen s_seed s_rowSize s_feedMany s_feedRow s_restMany s_restFirst), (ad 1, aI G 48 (upd q_text (Int32.toNatClampNeg s_textSize) a1))] := hD
      refine lv_aload_n hx hb dX4_write_42 rfl (lv_at hl 0 rfl) ?_
      refine lv_dup hx hb dX4_write_43 rfl ?_
      refine va_get (D := gD G) (ci := 4) (v := .int s_textSize) (C := RX4) (T := TX4) (N := 29) hx hb hts hi_X4 hown hK.1 hP 0 rfl rfl 2 (by decide) kl_73 (fun _ h9 => h9) rfl dX4_write_44 ?_
      refine lv_iconst (v := 1) hx hb dX4_write_47 (by decide) ?_
      refine lv_iadd hx hb dX4_write_48 ?_
      refine va_put (D := gD G) (ci := 4) (v := .int (s_textSize + 1)) (ty := .int) (C := RX4) (T := TX4) (N := 29) hx hb hts hi_X4 tyX4 tyX4_ok nmX4 hown hK.1 hP hD hS 0 rfl rfl 2 (by decide) kl_73 (fun _ h9 => h9) rfl (tyX4_ok 2 (by decide)) rfl rfl (Nat.le_of_ble_eq_true rfl) dX4_write_49 (fun H locs hP hD hS => ?_)
      have hP : va_P (gD G) vwCl [(h0, moE ad 0 (s_textSize + 1) s_place s_people s_readPeople s_acts s_seen s_seed s_rowSize s_feedMany s_feedRow s_restMany s_restFirst), (ad 1, aI G 48 (upd q_text (Int32.toNatClampNeg s_textSize) a1))] H := hP
      have hD : va_D A [(h0, moE ad 0 (s_textSize + 1) s_place s_people s_readPeople s_acts s_seen s_seed s_rowSize s_feedMany s_feedRow s_restMany s_restFirst), (ad 1, aI G 48 (upd q_text (Int32.toNatClampNeg s_textSize) a1))] := hD
      refine lv_aload_n hx hb dX4_write_52 rfl (lv_at hl 0 rfl) ?_
      refine va_get (D := gD G) (ci := 4) (v := .int (s_textSize + 1)) (C := RX4) (T := TX4) (N := 29) hx hb hts hi_X4 hown hK.1 hP 0 rfl rfl 2 (by decide) kl_73 (fun _ h9 => h9) rfl dX4_write_53 ?_
      have hv := Option.some.inj hf
      exact hret _ _ _ _ _ (by rw [← hv]; exact hP) hS (by rw [← hv]) dX4_write_56
    · have hf := iteT hf c4
      refine lv_bipush (v := (-4)) hx hb dX4_write_29 (by decide) ?_
      have hv := Option.some.inj hf
      exact hret _ _ _ _ _ (by rw [← hv]; exact hP) hS (by rw [← hv]) dX4_write_31
  · have hf := iteT hf c3
    refine lv_bipush (v := (-2)) hx hb dX4_write_17 (by decide) ?_
    have hv := Option.some.inj hf
    exact hret _ _ _ _ _ (by rw [← hv]; exact hP) hS (by rw [← hv]) dX4_write_19
def fX4_wipe (s_thrown : Int32) (s_textSize : Int32) : Option (Int32 × Int32 × Int32) :=
  some (s_textSize, 0, 0)
set_option maxHeartbeats 4000000 in
set_option maxRecDepth 100000 in
theorem ctX4_wipe (l : Launch) (G : GG) (h0 : Nat) (ad : Nat → Nat) (s_thrown : Int32) (s_textSize : Int32) (s_place : Int32) (s_people : Int32) (s_readPeople : Int32) (s_acts : Int32) (s_seen : Int32) (s_seed : Int64) (s_rowSize : Int32) (s_feedMany : Int32) (s_feedRow : Int32) (s_restMany : Int32) (s_restFirst : Int32) (out : Int32 × Int32 × Int32) (hf : fX4_wipe s_thrown s_textSize = some out) : Met l yX4_wipe wsX4_wipe ({ frames := 0, cells := 0, slots := 0, locals := 0 }) (PcW G [.ref h0] [(h0, moE ad s_thrown s_textSize s_place s_people s_readPeople s_acts s_seen s_seed s_rowSize s_feedMany s_feedRow s_restMany s_restFirst)]) (QiW G [(h0, moE ad s_thrown s_textSize s_place s_people s_readPeople s_acts s_seen s_seed s_rowSize s_feedMany s_feedRow s_restMany s_restFirst)] [(h0, moE ad out.2.1 out.2.2 s_place s_people s_readPeople s_acts s_seen s_seed s_rowSize s_feedMany s_feedRow s_restMany s_restFirst)] out.1) 0 0 (inA [(h0, moE ad s_thrown s_textSize s_place s_people s_readPeople s_acts s_seen s_seed s_rowSize s_feedMany s_feedRow s_restMany s_restFirst)]) := by
  refine mk_Wi (cc := cX4_wipe) (maxL := 2) (by decide) rfl (Nat.le_of_ble_eq_true rfl) ?_
  intro p e s m args below meth c Q ls A S hP hK hD hl hret
  obtain ⟨hx, hb, hml, hown, hts⟩ := S
  have hown : s.vm.findClass RX4 = some m.cls := hown
  have kl_60 := hts (.fieldLink RX4 60 "ArrestOrderModel" "thrown" "I") (by decide +kernel)
  have hi_X4 : ∀ w ∈ wsX40, w ∈ wsX4_wipe := fun _ h => List.mem_cons_of_mem _ (List.mem_append_right _ h)
  have kl_73 := hts (.fieldLink RX4 73 "ArrestOrderModel" "textSize" "I") (by decide +kernel)
  have hS : va_S A s.heap s.heap [] := va_S.rf
  have hl : lv_has ls 2 [(0, .ref h0)] := hl
  refine lv_aload_n hx hb dX4_wipe_0 rfl (lv_at hl 0 rfl) ?_
  refine lv_iconst (v := 0) hx hb dX4_wipe_1 (by decide) ?_
  refine va_put (D := gD G) (ci := 4) (v := .int 0) (ty := .int) (C := RX4) (T := TX4) (N := 29) hx hb hts hi_X4 tyX4 tyX4_ok nmX4 hown hK.1 hP hD hS 0 rfl rfl 0 (by decide) kl_60 (fun _ h9 => h9) rfl (tyX4_ok 0 (by decide)) rfl rfl (Nat.le_of_ble_eq_true rfl) dX4_wipe_2 (fun H locs hP hD hS => ?_)
  have hP : va_P (gD G) vwCl [(h0, moE ad 0 s_textSize s_place s_people s_readPeople s_acts s_seen s_seed s_rowSize s_feedMany s_feedRow s_restMany s_restFirst)] H := hP
  have hD : va_D A [(h0, moE ad 0 s_textSize s_place s_people s_readPeople s_acts s_seen s_seed s_rowSize s_feedMany s_feedRow s_restMany s_restFirst)] := hD
  refine lv_aload_n hx hb dX4_wipe_5 rfl (lv_at hl 0 rfl) ?_
  refine va_get (D := gD G) (ci := 4) (v := .int s_textSize) (C := RX4) (T := TX4) (N := 29) hx hb hts hi_X4 hown hK.1 hP 0 rfl rfl 2 (by decide) kl_73 (fun _ h9 => h9) rfl dX4_wipe_6 ?_
  refine lv_istore_n (lv' := [(1, .int s_textSize), (0, .ref h0)]) hx hb dX4_wipe_9 rfl hl (by decide) rfl (fun ls hl => ?_)
  refine lv_aload_n hx hb dX4_wipe_10 rfl (lv_at hl 1 rfl) ?_
  refine lv_iconst (v := 0) hx hb dX4_wipe_11 (by decide) ?_
  refine va_put (D := gD G) (ci := 4) (v := .int 0) (ty := .int) (C := RX4) (T := TX4) (N := 29) hx hb hts hi_X4 tyX4 tyX4_ok nmX4 hown hK.1 hP hD hS 0 rfl rfl 2 (by decide) kl_73 (fun _ h9 => h9) rfl (tyX4_ok 2 (by decide)) rfl rfl (Nat.le_of_ble_eq_true rfl) dX4_wipe_12 (fun H locs hP hD hS => ?_)
  have hP : va_P (gD G) vwCl [(h0, moE ad 0 0 s_place s_people s_readPeople s_acts s_seen s_seed s_rowSize s_feedMany s_feedRow s_restMany s_restFirst)] H := hP
  have hD : va_D A [(h0, moE ad 0 0 s_place s_people s_readPeople s_acts s_seen s_seed s_rowSize s_feedMany s_feedRow s_restMany s_restFirst)] := hD
  refine lv_iload_n hx hb dX4_wipe_15 rfl (lv_at hl 0 rfl) ?_
  have hv := Option.some.inj hf
  exact hret _ _ _ _ _ (by rw [← hv]; exact hP) hS (by rw [← hv]) dX4_wipe_16
def fX4_figure (s_textSize : Int32) (s_place : Int32) (q_text : Nat → Int32) (a1 : Int32) : Option (Int32 × Int32) :=
  (if s_place = s_textSize then some ((-9), s_place) else ck s_place 48 ((fX4_in (Int32.toInt64 ((q_text (Int32.toNatClampNeg s_place)) - 48)) 0 (Int32.toInt64 a1)).bind fun o3 => ((if o3 = 0 then some ((-9), s_place) else ck ((s_place + 1) - 1) 48 (some (((q_text (Int32.toNatClampNeg ((s_place + 1) - 1))) - 48), (s_place + 1)))))))
set_option maxHeartbeats 4000000 in
set_option maxRecDepth 100000 in
theorem ctX4_figure (l : Launch) (G : GG) (h0 : Nat) (ad : Nat → Nat) (s_thrown : Int32) (s_textSize : Int32) (s_place : Int32) (s_people : Int32) (s_readPeople : Int32) (s_acts : Int32) (s_seen : Int32) (s_seed : Int64) (s_rowSize : Int32) (s_feedMany : Int32) (s_feedRow : Int32) (s_restMany : Int32) (s_restFirst : Int32) (q_text : Nat → Int32) (a1 : Int32) (out : Int32 × Int32) (hf : fX4_figure s_textSize s_place q_text a1 = some out) : Met l yX4_figure wsX4_figure ({ frames := 1, cells := 0, slots := 0, locals := 25 }) (PcW G [.ref h0, .int a1] [(h0, moE ad s_thrown s_textSize s_place s_people s_readPeople s_acts s_seen s_seed s_rowSize s_feedMany s_feedRow s_restMany s_restFirst), (ad 1, aI G 48 q_text)]) (QiW G [(h0, moE ad s_thrown s_textSize s_place s_people s_readPeople s_acts s_seen s_seed s_rowSize s_feedMany s_feedRow s_restMany s_restFirst), (ad 1, aI G 48 q_text)] [(h0, moE ad s_thrown s_textSize out.2 s_people s_readPeople s_acts s_seen s_seed s_rowSize s_feedMany s_feedRow s_restMany s_restFirst), (ad 1, aI G 48 q_text)] out.1) 0 0 (inA [(h0, moE ad s_thrown s_textSize s_place s_people s_readPeople s_acts s_seen s_seed s_rowSize s_feedMany s_feedRow s_restMany s_restFirst), (ad 1, aI G 48 q_text)]) := by
  refine mk_Wi (cc := cX4_figure) (maxL := 2) (by decide) rfl (Nat.le_of_ble_eq_true rfl) ?_
  intro p e s m args below meth c Q ls A S hP hK hD hl hret
  obtain ⟨hx, hb, hml, hown, hts⟩ := S
  have hown : s.vm.findClass RX4 = some m.cls := hown
  have kl_76 := hts (.fieldLink RX4 76 "ArrestOrderModel" "place" "I") (by decide +kernel)
  have hi_X4 : ∀ w ∈ wsX40, w ∈ wsX4_figure := fun _ h => List.mem_cons_of_mem _ (List.mem_append_right _ h)
  have kl_73 := hts (.fieldLink RX4 73 "ArrestOrderModel" "textSize" "I") (by decide +kernel)
  have kl_7 := hts (.fieldLink RX4 7 "ArrestOrderModel" "text" "[I") (by decide +kernel)
  have hS : va_S A s.heap s.heap [] := va_S.rf
  have hl : lv_has ls 2 [(0, .ref h0), (1, .int a1)] := hl
  refine lv_aload_n hx hb dX4_figure_0 rfl (lv_at hl 0 rfl) ?_
  refine va_get (D := gD G) (ci := 4) (v := .int s_place) (C := RX4) (T := TX4) (N := 29) hx hb hts hi_X4 hown hK.1 hP 0 rfl rfl 3 (by decide) kl_76 (fun _ h9 => h9) rfl dX4_figure_1 ?_
  refine lv_aload_n hx hb dX4_figure_4 rfl (lv_at hl 0 rfl) ?_
  refine va_get (D := gD G) (ci := 4) (v := .int s_textSize) (C := RX4) (T := TX4) (N := 29) hx hb hts hi_X4 hown hK.1 hP 0 rfl rfl 2 (by decide) kl_73 (fun _ h9 => h9) rfl dX4_figure_5 ?_
  refine lv_icmp_eq (tgt := 33) hx hb dX4_figure_8 (by decide) (fun c1 => ?_) (fun c1 => ?_)
  · have hf := iteT hf c1
    refine lv_bipush (v := (-9)) hx hb dX4_figure_33 (by decide) ?_
    have hv := Option.some.inj hf
    exact hret _ _ _ _ _ (by rw [← hv]; exact hP) hS (by rw [← hv]) dX4_figure_35
  · have hf := iteF hf c1
    refine lv_aload_n hx hb dX4_figure_11 rfl (lv_at hl 0 rfl) ?_
    refine va_get (D := gD G) (ci := 4) (v := .ref (ad 1)) (C := RX4) (T := TX4) (N := 29) hx hb hts hi_X4 hown hK.1 hP 0 rfl rfl 1 (by decide) kl_7 (fun _ h9 => h9) rfl dX4_figure_12 ?_
    refine lv_aload_n hx hb dX4_figure_15 rfl (lv_at hl 0 rfl) ?_
    refine va_get (D := gD G) (ci := 4) (v := .int s_place) (C := RX4) (T := TX4) (N := 29) hx hb hts hi_X4 hown hK.1 hP 0 rfl rfl 3 (by decide) kl_76 (fun _ h9 => h9) rfl dX4_figure_16 ?_
    obtain ⟨hi2, hf⟩ := ckS hf
    refine va_iald hx hb hK.1 hP 1 0 rfl rfl hi2 dX4_figure_19 ?_
    refine lv_bipush (v := 48) hx hb dX4_figure_20 (by decide) ?_
    refine lv_isub hx hb dX4_figure_22 ?_
    refine lv_i2l (v := (Int32.toInt64 ((q_text (Int32.toNatClampNeg s_place)) - 48))) hx hb dX4_figure_23 rfl ?_
    refine lv_lconst (v := 0) hx hb dX4_figure_24 (by decide) ?_
    refine lv_iload_n hx hb dX4_figure_25 rfl (lv_at hl 1 rfl) ?_
    refine lv_i2l (v := (Int32.toInt64 a1)) hx hb dX4_figure_26 rfl ?_
    obtain ⟨o3, hc4, hf⟩ := bindS hf
    refine ro_i (va_runS (As := [.long (Int32.toInt64 ((q_text (Int32.toNatClampNeg s_place)) - 48)), .long 0, .long (Int32.toInt64 a1)]) (rest := []) ⟨hx, hb, hml, hown, hts⟩ (ctX4_in l G (Int32.toInt64 ((q_text (Int32.toNatClampNeg s_place)) - 48)) 0 (Int32.toInt64 a1) o3 hc4) (va_cwS 3 hts gX4_figure_X4_in rfl rfl rfl (by decide +kernel) ⟨Nat.le_of_ble_eq_true rfl, Nat.le_of_ble_eq_true rfl⟩) (preR_S (hP.sub (ws' := []) [] rfl) hK) rfl rfl hl.1 rfl (lv_room (Nat.le_of_ble_eq_true rfl)) dX4_figure_27 ⟨Nat.zero_le _, Nat.zero_le _⟩) hS hP (fun H locs hP hS => ?_)
    refine lv_if_ne (tgt := 36) hx hb dX4_figure_30 (by decide) (fun c5 => ?_) (fun c5 => ?_)
    · have hf := iteF hf c5
      refine lv_aload_n hx hb dX4_figure_36 rfl (lv_at hl 0 rfl) ?_
      refine lv_dup hx hb dX4_figure_37 rfl ?_
      refine va_get (D := gD G) (ci := 4) (v := .int s_place) (C := RX4) (T := TX4) (N := 29) hx hb hts hi_X4 hown hK.1 hP 0 rfl rfl 3 (by decide) kl_76 (fun _ h9 => h9) rfl dX4_figure_38 ?_
      refine lv_iconst (v := 1) hx hb dX4_figure_41 (by decide) ?_
      refine lv_iadd hx hb dX4_figure_42 ?_
      refine va_put (D := gD G) (ci := 4) (v := .int (s_place + 1)) (ty := .int) (C := RX4) (T := TX4) (N := 29) hx hb hts hi_X4 tyX4 tyX4_ok nmX4 hown hK.1 hP hD hS 0 rfl rfl 3 (by decide) kl_76 (fun _ h9 => h9) rfl (tyX4_ok 3 (by decide)) rfl rfl (Nat.le_of_ble_eq_true rfl) dX4_figure_43 (fun H locs hP hD hS => ?_)
      have hP : va_P (gD G) vwCl [(h0, moE ad s_thrown s_textSize (s_place + 1) s_people s_readPeople s_acts s_seen s_seed s_rowSize s_feedMany s_feedRow s_restMany s_restFirst), (ad 1, aI G 48 q_text)] H := hP
      have hD : va_D A [(h0, moE ad s_thrown s_textSize (s_place + 1) s_people s_readPeople s_acts s_seen s_seed s_rowSize s_feedMany s_feedRow s_restMany s_restFirst), (ad 1, aI G 48 q_text)] := hD
      refine lv_aload_n hx hb dX4_figure_46 rfl (lv_at hl 0 rfl) ?_
      refine va_get (D := gD G) (ci := 4) (v := .ref (ad 1)) (C := RX4) (T := TX4) (N := 29) hx hb hts hi_X4 hown hK.1 hP 0 rfl rfl 1 (by decide) kl_7 (fun _ h9 => h9) rfl dX4_figure_47 ?_
      refine lv_aload_n hx hb dX4_figure_50 rfl (lv_at hl 0 rfl) ?_
      refine va_get (D := gD G) (ci := 4) (v := .int (s_place + 1)) (C := RX4) (T := TX4) (N := 29) hx hb hts hi_X4 hown hK.1 hP 0 rfl rfl 3 (by decide) kl_76 (fun _ h9 => h9) rfl dX4_figure_51 ?_
      refine lv_iconst (v := 1) hx hb dX4_figure_54 (by decide) ?_
      refine lv_isub hx hb dX4_figure_55 ?_
      obtain ⟨hi6, hf⟩ := ckS hf
      refine va_iald hx hb hK.1 hP 1 0 rfl rfl hi6 dX4_figure_56 ?_
      refine lv_bipush (v := 48) hx hb dX4_figure_57 (by decide) ?_
      refine lv_isub hx hb dX4_figure_59 ?_
      have hv := Option.some.inj hf
      exact hret _ _ _ _ _ (by rw [← hv]; exact hP) hS (by rw [← hv]) dX4_figure_60
    · have hf := iteT hf c5
      refine lv_bipush (v := (-9)) hx hb dX4_figure_33 (by decide) ?_
      have hv := Option.some.inj hf
      exact hret _ _ _ _ _ (by rw [← hv]; exact hP) hS (by rw [← hv]) dX4_figure_35
def fX4_leftOf (s_readPeople : Int32) (q_readFeeds : Nat → Int32) (a1 : Int32) : Option (Int32) :=
  ck a1 7 (some (((((1 : Int32) <<< (s_readPeople &&& 31)) - 1) &&& (((1 : Int32) <<< (a1 &&& 31)) ^^^ (-1))) &&& ((q_readFeeds (Int32.toNatClampNeg a1)) ^^^ (-1))))
set_option maxHeartbeats 4000000 in
set_option maxRecDepth 100000 in
theorem ctX4_leftOf (l : Launch) (G : GG) (h0 : Nat) (ad : Nat → Nat) (s_thrown : Int32) (s_textSize : Int32) (s_place : Int32) (s_people : Int32) (s_readPeople : Int32) (s_acts : Int32) (s_seen : Int32) (s_seed : Int64) (s_rowSize : Int32) (s_feedMany : Int32) (s_feedRow : Int32) (s_restMany : Int32) (s_restFirst : Int32) (q_readFeeds : Nat → Int32) (a1 : Int32) (out : Int32) (hf : fX4_leftOf s_readPeople q_readFeeds a1 = some out) : Met l yX4_leftOf wsX4_leftOf ({ frames := 0, cells := 0, slots := 0, locals := 0 }) (PcR G [.ref h0, .int a1] [(h0, moE ad s_thrown s_textSize s_place s_people s_readPeople s_acts s_seen s_seed s_rowSize s_feedMany s_feedRow s_restMany s_restFirst), (ad 9, aI G 7 q_readFeeds)]) (QiR out) 0 0 noA := by
  refine mk_Ri (cc := cX4_leftOf) (maxL := 2) (by decide) rfl (Nat.le_of_ble_eq_true rfl) ?_
  intro p e s m args below meth c Q ls S hP hK hl hret
  obtain ⟨hx, hb, hml, hown, hts⟩ := S
  have hown : s.vm.findClass RX4 = some m.cls := hown
  have kl_79 := hts (.fieldLink RX4 79 "ArrestOrderModel" "readPeople" "I") (by decide +kernel)
  have hi_X4 : ∀ w ∈ wsX40, w ∈ wsX4_leftOf := fun _ h => List.mem_cons_of_mem _ (List.mem_append_right _ h)
  have kl_22 := hts (.fieldLink RX4 22 "ArrestOrderModel" "readFeeds" "[I") (by decide +kernel)
  have hS : va_S noA s.heap s.heap [] := va_S.rf
  have hl : lv_has ls 2 [(0, .ref h0), (1, .int a1)] := hl
  refine lv_iconst (v := 1) hx hb dX4_leftOf_0 (by decide) ?_
  refine lv_aload_n hx hb dX4_leftOf_1 rfl (lv_at hl 0 rfl) ?_
  refine va_get (D := gD G) (ci := 4) (v := .int s_readPeople) (C := RX4) (T := TX4) (N := 29) hx hb hts hi_X4 hown hK.1 hP 0 rfl rfl 6 (by decide) kl_79 (fun _ h9 => h9) rfl dX4_leftOf_2 ?_
  refine lv_ishl hx hb dX4_leftOf_5 ?_
  refine lv_iconst (v := 1) hx hb dX4_leftOf_6 (by decide) ?_
  refine lv_isub hx hb dX4_leftOf_7 ?_
  refine lv_iconst (v := 1) hx hb dX4_leftOf_8 (by decide) ?_
  refine lv_iload_n hx hb dX4_leftOf_9 rfl (lv_at hl 1 rfl) ?_
  refine lv_ishl hx hb dX4_leftOf_10 ?_
  refine lv_iconst (v := (-1)) hx hb dX4_leftOf_11 (by decide) ?_
  refine lv_ixor hx hb dX4_leftOf_12 ?_
  refine lv_iand hx hb dX4_leftOf_13 ?_
  refine lv_aload_n hx hb dX4_leftOf_14 rfl (lv_at hl 0 rfl) ?_
  refine va_get (D := gD G) (ci := 4) (v := .ref (ad 9)) (C := RX4) (T := TX4) (N := 29) hx hb hts hi_X4 hown hK.1 hP 0 rfl rfl 9 (by decide) kl_22 (fun _ h9 => h9) rfl dX4_leftOf_15 ?_
  refine lv_iload_n hx hb dX4_leftOf_18 rfl (lv_at hl 1 rfl) ?_
  obtain ⟨hi1, hf⟩ := ckS hf
  refine va_iald hx hb hK.1 hP 1 0 rfl rfl hi1 dX4_leftOf_19 ?_
  refine lv_iconst (v := (-1)) hx hb dX4_leftOf_20 (by decide) ?_
  refine lv_ixor hx hb dX4_leftOf_21 ?_
  refine lv_iand hx hb dX4_leftOf_22 ?_
  have hv := Option.some.inj hf
  exact hret _ _ _ _ _ hS hv dX4_leftOf_23
def fX4_isLeft_4 (s_readPeople : Int32) (q_readFeeds : Nat → Int32) : Nat → Int32 → Int32 → Option (Int32)
  | 0, _, _ => none
  | n + 1, x1, x2 => (if s_readPeople ≤ x2 then zk x1 (some x1) else (if x1 = 0 then (fX4_leftOf s_readPeople q_readFeeds x2).bind fun o3 => ((if o3 = 0 then (fX4_isLeft_4 s_readPeople q_readFeeds n 0 (x2 + 1)) else (fX4_isLeft_4 s_readPeople q_readFeeds n 1 (x2 + 1)))) else (fX4_isLeft_4 s_readPeople q_readFeeds n 1 (x2 + 1))))
def fX4_isLeft (s_readPeople : Int32) (q_readFeeds : Nat → Int32) : Option (Int32) :=
  (fX4_isLeft_4 s_readPeople q_readFeeds 9 0 0)
set_option maxHeartbeats 4000000 in
set_option maxRecDepth 100000 in
theorem ctX4_isLeft (l : Launch) (G : GG) (h0 : Nat) (ad : Nat → Nat) (s_thrown : Int32) (s_textSize : Int32) (s_place : Int32) (s_people : Int32) (s_readPeople : Int32) (s_acts : Int32) (s_seen : Int32) (s_seed : Int64) (s_rowSize : Int32) (s_feedMany : Int32) (s_feedRow : Int32) (s_restMany : Int32) (s_restFirst : Int32) (q_readFeeds : Nat → Int32) (out : Int32) (hf : fX4_isLeft s_readPeople q_readFeeds = some out) : Met l yX4_isLeft wsX4_isLeft ({ frames := 1, cells := 0, slots := 0, locals := 21 }) (PcR G [.ref h0] [(h0, moE ad s_thrown s_textSize s_place s_people s_readPeople s_acts s_seen s_seed s_rowSize s_feedMany s_feedRow s_restMany s_restFirst), (ad 9, aI G 7 q_readFeeds)]) (QiR out) 0 0 noA := by
  refine mk_Rz (cc := cX4_isLeft) (maxL := 3) (by decide) rfl (Nat.le_of_ble_eq_true rfl) ?_
  intro p e s m args below meth c Q ls S hP hK hl hret
  obtain ⟨hx, hb, hml, hown, hts⟩ := S
  have hown : s.vm.findClass RX4 = some m.cls := hown
  have kl_79 := hts (.fieldLink RX4 79 "ArrestOrderModel" "readPeople" "I") (by decide +kernel)
  have hi_X4 : ∀ w ∈ wsX40, w ∈ wsX4_isLeft := fun _ h => List.mem_cons_of_mem _ (List.mem_append_right _ h)
  have hS : va_S noA s.heap s.heap [] := va_S.rf
  have hl : lv_has ls 3 [(0, .ref h0)] := hl
  have hC4 : ∀ (n : Nat) (x1 : Int32) (x2 : Int32) (H : Heap) (locs : List Loc) (ls : Array Slot), va_P (gD G) vwCl [(h0, moE ad s_thrown s_textSize s_place s_people s_readPeople s_acts s_seen s_seed s_rowSize s_feedMany s_feedRow s_restMany s_restFirst), (ad 9, aI G 7 q_readFeeds)] H → va_S noA s.heap H locs → lv_has ls 3 [(0, .ref h0), (1, .int x1), (2, .int x2)] → fX4_isLeft_4 s_readPeople q_readFeeds n x1 x2 = some out → W p l e ({ frames := 1, cells := 0, slots := 0, locals := 21 }) s m args below meth c H locs 0 0 Q (F0 m 4 ls []) := by
    intro n4
    induction n4 with
    | zero => intro x1 x2 H locs ls hP hS hl hf; exact absurd (show none = some out from hf) (fun z => by cases z)
    | succ n4 ih4 =>
      intro x1 x2 H locs ls hP hS hl hf
      refine lv_iload_n hx hb dX4_isLeft_4 rfl (lv_at hl 2 rfl) ?_
      refine lv_aload_n hx hb dX4_isLeft_5 rfl (lv_at hl 0 rfl) ?_
      refine va_get (D := gD G) (ci := 4) (v := .int s_readPeople) (C := RX4) (T := TX4) (N := 29) hx hb hts hi_X4 hown hK.1 hP 0 rfl rfl 6 (by decide) kl_79 (fun _ h9 => h9) rfl dX4_isLeft_6 ?_
      refine lv_icmp_ge (tgt := 36) hx hb dX4_isLeft_9 (by decide) (fun c1 => ?_) (fun c1 => ?_)
      · have hf := iteT hf c1
        refine lv_iload_n hx hb dX4_isLeft_36 rfl (lv_at hl 1 rfl) ?_
        obtain ⟨hzr, hf⟩ := zkS hf
        have hv := Option.some.inj hf
        exact hret _ _ _ _ _ hS hzr hv dX4_isLeft_37
      · have hf := iteF hf c1
        refine lv_iload_n hx hb dX4_isLeft_12 rfl (lv_at hl 1 rfl) ?_
        refine lv_if_ne (tgt := 24) hx hb dX4_isLeft_13 (by decide) (fun c2 => ?_) (fun c2 => ?_)
        · have hf := iteF hf c2
          refine lv_iconst (v := 1) hx hb dX4_isLeft_24 (by decide) ?_
          refine lv_goto (tgt := 29) hx hb dX4_isLeft_25 (by decide) ?_
          refine lv_istore_n (lv' := [(1, .int 1), (0, .ref h0), (2, .int x2)]) hx hb dX4_isLeft_29 rfl hl (by decide) rfl (fun ls hl => ?_)
          refine lv_iinc (v := (x2 + 1)) (lv' := [(2, .int (x2 + 1)), (1, .int 1), (0, .ref h0)]) hx hb dX4_isLeft_30 hl (k := 2) rfl rfl (by decide) rfl (fun ls hl => ?_)
          refine lv_goto (tgt := 4) hx hb dX4_isLeft_33 (by decide) ?_
          exact ih4 1 (x2 + 1) _ _ _ hP hS (lv_sub hl [2, 1, 0] rfl) hf
        · have hf := iteT hf c2
          refine lv_aload_n hx hb dX4_isLeft_16 rfl (lv_at hl 0 rfl) ?_
          refine lv_iload_n hx hb dX4_isLeft_17 rfl (lv_at hl 2 rfl) ?_
          obtain ⟨o3, hc4, hf⟩ := bindS hf
          refine ro_i (va_runV (C := RX4) (As := [.int x2]) (rest := []) ⟨hx, hb, hml, hown, hts⟩ (ctX4_leftOf l G h0 ad s_thrown s_textSize s_place s_people s_readPeople s_acts s_seen s_seed s_rowSize s_feedMany s_feedRow s_restMany s_restFirst q_readFeeds x2 o3 hc4) (cwV 1 hts gX4_isLeft_X4_leftOf rfl rfl rfl (by decide +kernel) ⟨Nat.le_of_ble_eq_true rfl, Nat.le_of_ble_eq_true rfl⟩) (preR_V (q0 := 0) (ci := 4) (hP.sub (ws' := [(h0, moE ad s_thrown s_textSize s_place s_people s_readPeople s_acts s_seen s_seed s_rowSize s_feedMany s_feedRow s_restMany s_restFirst), (ad 9, aI G 7 q_readFeeds)]) [0, 1] rfl) hK rfl rfl) rfl rfl hl.1 rfl (lv_room (Nat.le_of_ble_eq_true rfl)) dX4_isLeft_18 ⟨Nat.zero_le _, Nat.zero_le _⟩) hS hP (fun H locs hP hS => ?_)
          refine lv_if_eq (tgt := 28) hx hb dX4_isLeft_21 (by decide) (fun c5 => ?_) (fun c5 => ?_)
          · have hf := iteT hf c5
            refine lv_iconst (v := 0) hx hb dX4_isLeft_28 (by decide) ?_
            refine lv_istore_n (lv' := [(1, .int 0), (0, .ref h0), (2, .int x2)]) hx hb dX4_isLeft_29 rfl hl (by decide) rfl (fun ls hl => ?_)
            refine lv_iinc (v := (x2 + 1)) (lv' := [(2, .int (x2 + 1)), (1, .int 0), (0, .ref h0)]) hx hb dX4_isLeft_30 hl (k := 2) rfl rfl (by decide) rfl (fun ls hl => ?_)
            refine lv_goto (tgt := 4) hx hb dX4_isLeft_33 (by decide) ?_
            exact ih4 0 (x2 + 1) _ _ _ hP hS (lv_sub hl [2, 1, 0] rfl) hf
          · have hf := iteF hf c5
            refine lv_iconst (v := 1) hx hb dX4_isLeft_24 (by decide) ?_
            refine lv_goto (tgt := 29) hx hb dX4_isLeft_25 (by decide) ?_
            refine lv_istore_n (lv' := [(1, .int 1), (0, .ref h0), (2, .int x2)]) hx hb dX4_isLeft_29 rfl hl (by decide) rfl (fun ls hl => ?_)
            refine lv_iinc (v := (x2 + 1)) (lv' := [(2, .int (x2 + 1)), (1, .int 1), (0, .ref h0)]) hx hb dX4_isLeft_30 hl (k := 2) rfl rfl (by decide) rfl (fun ls hl => ?_)
            refine lv_goto (tgt := 4) hx hb dX4_isLeft_33 (by decide) ?_
            exact ih4 1 (x2 + 1) _ _ _ hP hS (lv_sub hl [2, 1, 0] rfl) hf
  refine lv_iconst (v := 0) hx hb dX4_isLeft_0 (by decide) ?_
  refine lv_istore_n (lv' := [(1, .int 0), (0, .ref h0)]) hx hb dX4_isLeft_1 rfl hl (by decide) rfl (fun ls hl => ?_)
  refine lv_iconst (v := 0) hx hb dX4_isLeft_2 (by decide) ?_
  refine lv_istore_n (lv' := [(2, .int 0), (1, .int 0), (0, .ref h0)]) hx hb dX4_isLeft_3 rfl hl (by decide) rfl (fun ls hl => ?_)
  exact hC4 9 0 0 _ _ _ hP hS (lv_sub hl [2, 1, 0] rfl) hf
def fX4_readPerson_23 (x1 : Int32) (y0 : Int32) (s_place : Int32) (s_readPeople : Int32) (q_readDeed : Nat → Int32) (q_readKind : Nat → Int32) (q_readFeeds : Nat → Int32) : Option (Int32 × Int32 × Int32 × (Nat → Int32) × (Nat → Int32) × (Nat → Int32)) :=
  (if y0 = (-9) then some (0, s_place, s_readPeople, q_readDeed, q_readKind, q_readFeeds) else ck s_readPeople 7 (ck s_readPeople 7 (ck s_readPeople 7 (some (1, s_place, (s_readPeople + 1), (upd q_readDeed (Int32.toNatClampNeg s_readPeople) x1), (upd q_readKind (Int32.toNatClampNeg s_readPeople) y0), (upd q_readFeeds (Int32.toNatClampNeg s_readPeople) 0))))))
def fX4_readPerson (s_textSize : Int32) (s_place : Int32) (s_readPeople : Int32) (q_text : Nat → Int32) (q_readDeed : Nat → Int32) (q_readKind : Nat → Int32) (q_readFeeds : Nat → Int32) : Option (Int32 × Int32 × Int32 × (Nat → Int32) × (Nat → Int32) × (Nat → Int32)) :=
  (fX4_figure s_textSize s_place q_text 9).bind fun o1 => ((if o1.1 = (-9) then (fX4_readPerson_23 o1.1 (-9) o1.2 s_readPeople q_readDeed q_readKind q_readFeeds) else (fX4_figure s_textSize o1.2 q_text 3).bind fun o4 => ((fX4_readPerson_23 o1.1 o4.1 o4.2 s_readPeople q_readDeed q_readKind q_readFeeds))))
set_option maxHeartbeats 4000000 in
set_option maxRecDepth 100000 in
theorem ctX4_readPerson (l : Launch) (G : GG) (h0 : Nat) (ad : Nat → Nat) (s_thrown : Int32) (s_textSize : Int32) (s_place : Int32) (s_people : Int32) (s_readPeople : Int32) (s_acts : Int32) (s_seen : Int32) (s_seed : Int64) (s_rowSize : Int32) (s_feedMany : Int32) (s_feedRow : Int32) (s_restMany : Int32) (s_restFirst : Int32) (q_text : Nat → Int32) (q_readDeed : Nat → Int32) (q_readKind : Nat → Int32) (q_readFeeds : Nat → Int32) (out : Int32 × Int32 × Int32 × (Nat → Int32) × (Nat → Int32) × (Nat → Int32)) (hf : fX4_readPerson s_textSize s_place s_readPeople q_text q_readDeed q_readKind q_readFeeds = some out) : Met l yX4_readPerson wsX4_readPerson ({ frames := 2, cells := 0, slots := 0, locals := 46 }) (PcW G [.ref h0] [(h0, moE ad s_thrown s_textSize s_place s_people s_readPeople s_acts s_seen s_seed s_rowSize s_feedMany s_feedRow s_restMany s_restFirst), (ad 1, aI G 48 q_text), (ad 7, aI G 7 q_readDeed), (ad 8, aI G 7 q_readKind), (ad 9, aI G 7 q_readFeeds)]) (QiW G [(h0, moE ad s_thrown s_textSize s_place s_people s_readPeople s_acts s_seen s_seed s_rowSize s_feedMany s_feedRow s_restMany s_restFirst), (ad 1, aI G 48 q_text), (ad 7, aI G 7 q_readDeed), (ad 8, aI G 7 q_readKind), (ad 9, aI G 7 q_readFeeds)] [(h0, moE ad s_thrown s_textSize out.2.1 s_people out.2.2.1 s_acts s_seen s_seed s_rowSize s_feedMany s_feedRow s_restMany s_restFirst), (ad 1, aI G 48 q_text), (ad 7, aI G 7 out.2.2.2.1), (ad 8, aI G 7 out.2.2.2.2.1), (ad 9, aI G 7 out.2.2.2.2.2)] out.1) 0 0 (inA [(h0, moE ad s_thrown s_textSize s_place s_people s_readPeople s_acts s_seen s_seed s_rowSize s_feedMany s_feedRow s_restMany s_restFirst), (ad 1, aI G 48 q_text), (ad 7, aI G 7 q_readDeed), (ad 8, aI G 7 q_readKind), (ad 9, aI G 7 q_readFeeds)]) := by
  refine mk_Wz (cc := cX4_readPerson) (maxL := 3) (by decide) rfl (Nat.le_of_ble_eq_true rfl) ?_
  intro p e s m args below meth c Q ls A S hP hK hD hl hret
  obtain ⟨hx, hb, hml, hown, hts⟩ := S
  have hown : s.vm.findClass RX4 = some m.cls := hown
  have kl_16 := hts (.fieldLink RX4 16 "ArrestOrderModel" "readDeed" "[I") (by decide +kernel)
  have hi_X4 : ∀ w ∈ wsX40, w ∈ wsX4_readPerson := fun _ h => List.mem_cons_of_mem _ (List.mem_append_right _ h)
  have kl_79 := hts (.fieldLink RX4 79 "ArrestOrderModel" "readPeople" "I") (by decide +kernel)
  have kl_19 := hts (.fieldLink RX4 19 "ArrestOrderModel" "readKind" "[I") (by decide +kernel)
  have kl_22 := hts (.fieldLink RX4 22 "ArrestOrderModel" "readFeeds" "[I") (by decide +kernel)
  have hS : va_S A s.heap s.heap [] := va_S.rf
  have hl : lv_has ls 3 [(0, .ref h0)] := hl
  have hC23 : ∀ (x1 : Int32) (y0 : Int32) (s_place : Int32) (s_readPeople : Int32) (q_readDeed : Nat → Int32) (q_readKind : Nat → Int32) (q_readFeeds : Nat → Int32) (H : Heap) (locs : List Loc) (ls : Array Slot), va_P (gD G) vwCl [(h0, moE ad s_thrown s_textSize s_place s_people s_readPeople s_acts s_seen s_seed s_rowSize s_feedMany s_feedRow s_restMany s_restFirst), (ad 1, aI G 48 q_text), (ad 7, aI G 7 q_readDeed), (ad 8, aI G 7 q_readKind), (ad 9, aI G 7 q_readFeeds)] H → va_D A [(h0, moE ad s_thrown s_textSize s_place s_people s_readPeople s_acts s_seen s_seed s_rowSize s_feedMany s_feedRow s_restMany s_restFirst), (ad 1, aI G 48 q_text), (ad 7, aI G 7 q_readDeed), (ad 8, aI G 7 q_readKind), (ad 9, aI G 7 q_readFeeds)] → va_S A s.heap H locs → lv_has ls 3 [(0, .ref h0), (1, .int x1)] → fX4_readPerson_23 x1 y0 s_place s_readPeople q_readDeed q_readKind q_readFeeds = some out → W p l e ({ frames := 2, cells := 0, slots := 0, locals := 46 }) s m args below meth c H locs 0 0 Q (F0 m 23 ls [.int y0]) := by
    intro x1 y0 s_place s_readPeople q_readDeed q_readKind q_readFeeds H locs ls hP hD hS hl hf
    refine lv_istore_n (lv' := [(2, .int y0), (0, .ref h0), (1, .int x1)]) hx hb dX4_readPerson_23 rfl hl (by decide) rfl (fun ls hl => ?_)
    refine lv_iload_n hx hb dX4_readPerson_24 rfl (lv_at hl 0 rfl) ?_
    refine lv_bipush (v := (-9)) hx hb dX4_readPerson_25 (by decide) ?_
    refine lv_icmp_ne (tgt := 32) hx hb dX4_readPerson_27 (by decide) (fun c6 => ?_) (fun c6 => ?_)
    · have hf := iteF hf c6
      refine lv_aload_n hx hb dX4_readPerson_32 rfl (lv_at hl 1 rfl) ?_
      refine va_get (D := gD G) (ci := 4) (v := .ref (ad 7)) (C := RX4) (T := TX4) (N := 29) hx hb hts hi_X4 hown hK.1 hP 0 rfl rfl 7 (by decide) kl_16 (fun _ h9 => h9) rfl dX4_readPerson_33 ?_
      refine lv_aload_n hx hb dX4_readPerson_36 rfl (lv_at hl 1 rfl) ?_
      refine va_get (D := gD G) (ci := 4) (v := .int s_readPeople) (C := RX4) (T := TX4) (N := 29) hx hb hts hi_X4 hown hK.1 hP 0 rfl rfl 6 (by decide) kl_79 (fun _ h9 => h9) rfl dX4_readPerson_37 ?_
      refine lv_iload_n hx hb dX4_readPerson_40 rfl (lv_at hl 2 rfl) ?_
      obtain ⟨hi7, hf⟩ := ckS hf
      refine va_iast hx hb hK.1 hP hD hS 2 0 rfl rfl hi7 dX4_readPerson_41 (fun H locs hP hD hS => ?_)
      have hP : va_P (gD G) vwCl [(h0, moE ad s_thrown s_textSize s_place s_people s_readPeople s_acts s_seen s_seed s_rowSize s_feedMany s_feedRow s_restMany s_restFirst), (ad 1, aI G 48 q_text), (ad 7, aI G 7 (upd q_readDeed (Int32.toNatClampNeg s_readPeople) x1)), (ad 8, aI G 7 q_readKind), (ad 9, aI G 7 q_readFeeds)] H := hP
      have hD : va_D A [(h0, moE ad s_thrown s_textSize s_place s_people s_readPeople s_acts s_seen s_seed s_rowSize s_feedMany s_feedRow s_restMany s_restFirst), (ad 1, aI G 48 q_text), (ad 7, aI G 7 (upd q_readDeed (Int32.toNatClampNeg s_readPeople) x1)), (ad 8, aI G 7 q_readKind), (ad 9, aI G 7 q_readFeeds)] := hD
      refine lv_aload_n hx hb dX4_readPerson_42 rfl (lv_at hl 1 rfl) ?_
      refine va_get (D := gD G) (ci := 4) (v := .ref (ad 8)) (C := RX4) (T := TX4) (N := 29) hx hb hts hi_X4 hown hK.1 hP 0 rfl rfl 8 (by decide) kl_19 (fun _ h9 => h9) rfl dX4_readPerson_43 ?_
      refine lv_aload_n hx hb dX4_readPerson_46 rfl (lv_at hl 1 rfl) ?_
      refine va_get (D := gD G) (ci := 4) (v := .int s_readPeople) (C := RX4) (T := TX4) (N := 29) hx hb hts hi_X4 hown hK.1 hP 0 rfl rfl 6 (by decide) kl_79 (fun _ h9 => h9) rfl dX4_readPerson_47 ?_
      refine lv_iload_n hx hb dX4_readPerson_50 rfl (lv_at hl 0 rfl) ?_
      obtain ⟨hi8, hf⟩ := ckS hf
      refine va_iast hx hb hK.1 hP hD hS 3 0 rfl rfl hi8 dX4_readPerson_51 (fun H locs hP hD hS => ?_)
      have hP : va_P (gD G) vwCl [(h0, moE ad s_thrown s_textSize s_place s_people s_readPeople s_acts s_seen s_seed s_rowSize s_feedMany s_feedRow s_restMany s_restFirst), (ad 1, aI G 48 q_text), (ad 7, aI G 7 (upd q_readDeed (Int32.toNatClampNeg s_readPeople) x1)), (ad 8, aI G 7 (upd q_readKind (Int32.toNatClampNeg s_readPeople) y0)), (ad 9, aI G 7 q_readFeeds)] H := hP
      have hD : va_D A [(h0, moE ad s_thrown s_textSize s_place s_people s_readPeople s_acts s_seen s_seed s_rowSize s_feedMany s_feedRow s_restMany s_restFirst), (ad 1, aI G 48 q_text), (ad 7, aI G 7 (upd q_readDeed (Int32.toNatClampNeg s_readPeople) x1)), (ad 8, aI G 7 (upd q_readKind (Int32.toNatClampNeg s_readPeople) y0)), (ad 9, aI G 7 q_readFeeds)] := hD
      refine lv_aload_n hx hb dX4_readPerson_52 rfl (lv_at hl 1 rfl) ?_
      refine va_get (D := gD G) (ci := 4) (v := .ref (ad 9)) (C := RX4) (T := TX4) (N := 29) hx hb hts hi_X4 hown hK.1 hP 0 rfl rfl 9 (by decide) kl_22 (fun _ h9 => h9) rfl dX4_readPerson_53 ?_
      refine lv_aload_n hx hb dX4_readPerson_56 rfl (lv_at hl 1 rfl) ?_
      refine va_get (D := gD G) (ci := 4) (v := .int s_readPeople) (C := RX4) (T := TX4) (N := 29) hx hb hts hi_X4 hown hK.1 hP 0 rfl rfl 6 (by decide) kl_79 (fun _ h9 => h9) rfl dX4_readPerson_57 ?_
      refine lv_iconst (v := 0) hx hb dX4_readPerson_60 (by decide) ?_
      obtain ⟨hi9, hf⟩ := ckS hf
      refine va_iast hx hb hK.1 hP hD hS 4 0 rfl rfl hi9 dX4_readPerson_61 (fun H locs hP hD hS => ?_)
      have hP : va_P (gD G) vwCl [(h0, moE ad s_thrown s_textSize s_place s_people s_readPeople s_acts s_seen s_seed s_rowSize s_feedMany s_feedRow s_restMany s_restFirst), (ad 1, aI G 48 q_text), (ad 7, aI G 7 (upd q_readDeed (Int32.toNatClampNeg s_readPeople) x1)), (ad 8, aI G 7 (upd q_readKind (Int32.toNatClampNeg s_readPeople) y0)), (ad 9, aI G 7 (upd q_readFeeds (Int32.toNatClampNeg s_readPeople) 0))] H := hP
      have hD : va_D A [(h0, moE ad s_thrown s_textSize s_place s_people s_readPeople s_acts s_seen s_seed s_rowSize s_feedMany s_feedRow s_restMany s_restFirst), (ad 1, aI G 48 q_text), (ad 7, aI G 7 (upd q_readDeed (Int32.toNatClampNeg s_readPeople) x1)), (ad 8, aI G 7 (upd q_readKind (Int32.toNatClampNeg s_readPeople) y0)), (ad 9, aI G 7 (upd q_readFeeds (Int32.toNatClampNeg s_readPeople) 0))] := hD
      refine lv_aload_n hx hb dX4_readPerson_62 rfl (lv_at hl 1 rfl) ?_
      refine lv_dup hx hb dX4_readPerson_63 rfl ?_
      refine va_get (D := gD G) (ci := 4) (v := .int s_readPeople) (C := RX4) (T := TX4) (N := 29) hx hb hts hi_X4 hown hK.1 hP 0 rfl rfl 6 (by decide) kl_79 (fun _ h9 => h9) rfl dX4_readPerson_64 ?_
      refine lv_iconst (v := 1) hx hb dX4_readPerson_67 (by decide) ?_
      refine lv_iadd hx hb dX4_readPerson_68 ?_
      refine va_put (D := gD G) (ci := 4) (v := .int (s_readPeople + 1)) (ty := .int) (C := RX4) (T := TX4) (N := 29) hx hb hts hi_X4 tyX4 tyX4_ok nmX4 hown hK.1 hP hD hS 0 rfl rfl 6 (by decide) kl_79 (fun _ h9 => h9) rfl (tyX4_ok 6 (by decide)) rfl rfl (Nat.le_of_ble_eq_true rfl) dX4_readPerson_69 (fun H locs hP hD hS => ?_)
      have hP : va_P (gD G) vwCl [(h0, moE ad s_thrown s_textSize s_place s_people (s_readPeople + 1) s_acts s_seen s_seed s_rowSize s_feedMany s_feedRow s_restMany s_restFirst), (ad 1, aI G 48 q_text), (ad 7, aI G 7 (upd q_readDeed (Int32.toNatClampNeg s_readPeople) x1)), (ad 8, aI G 7 (upd q_readKind (Int32.toNatClampNeg s_readPeople) y0)), (ad 9, aI G 7 (upd q_readFeeds (Int32.toNatClampNeg s_readPeople) 0))] H := hP
      have hD : va_D A [(h0, moE ad s_thrown s_textSize s_place s_people (s_readPeople + 1) s_acts s_seen s_seed s_rowSize s_feedMany s_feedRow s_restMany s_restFirst), (ad 1, aI G 48 q_text), (ad 7, aI G 7 (upd q_readDeed (Int32.toNatClampNeg s_readPeople) x1)), (ad 8, aI G 7 (upd q_readKind (Int32.toNatClampNeg s_readPeople) y0)), (ad 9, aI G 7 (upd q_readFeeds (Int32.toNatClampNeg s_readPeople) 0))] := hD
      refine lv_iconst (v := 1) hx hb dX4_readPerson_72 (by decide) ?_
      have hv := Option.some.inj hf
      exact hret _ _ _ _ _ (by rw [← hv]; exact hP) hS rfl (by rw [← hv]) dX4_readPerson_73
    · have hf := iteT hf c6
      refine lv_iconst (v := 0) hx hb dX4_readPerson_30 (by decide) ?_
      have hv := Option.some.inj hf
      exact hret _ _ _ _ _ (by rw [← hv]; exact hP) hS rfl (by rw [← hv]) dX4_readPerson_31
  refine lv_aload_n hx hb dX4_readPerson_0 rfl (lv_at hl 0 rfl) ?_
  refine lv_bipush (v := 9) hx hb dX4_readPerson_1 (by decide) ?_
  obtain ⟨o1, hc2, hf⟩ := bindS hf
  refine rw_i (va_runV (C := RX4) (As := [.int 9]) (rest := []) ⟨hx, hb, hml, hown, hts⟩ (ctX4_figure l G h0 ad s_thrown s_textSize s_place s_people s_readPeople s_acts s_seen s_seed s_rowSize s_feedMany s_feedRow s_restMany s_restFirst q_text 9 o1 hc2) (cwV 1 hts gX4_readPerson_X4_figure rfl rfl rfl (by decide +kernel) ⟨Nat.le_of_ble_eq_true rfl, Nat.le_of_ble_eq_true rfl⟩) (preW_V (q0 := 0) (ci := 4) (hP.sub (ws' := [(h0, moE ad s_thrown s_textSize s_place s_people s_readPeople s_acts s_seen s_seed s_rowSize s_feedMany s_feedRow s_restMany s_restFirst), (ad 1, aI G 48 q_text)]) [0, 1] rfl) (hD.sub (ws' := [(h0, moE ad s_thrown s_textSize s_place s_people s_readPeople s_acts s_seen s_seed s_rowSize s_feedMany s_feedRow s_restMany s_restFirst), (ad 1, aI G 48 q_text)]) [0, 1] (by decide) rfl) hK rfl rfl) rfl rfl hl.1 rfl (lv_room (Nat.le_of_ble_eq_true rfl)) dX4_readPerson_3 ⟨Nat.zero_le _, Nat.zero_le _⟩) hS hP hD [0, 1] rfl rfl rfl (fun H locs hP hD hS => ?_)
  have hP : va_P (gD G) vwCl [(h0, moE ad s_thrown s_textSize o1.2 s_people s_readPeople s_acts s_seen s_seed s_rowSize s_feedMany s_feedRow s_restMany s_restFirst), (ad 1, aI G 48 q_text), (ad 7, aI G 7 q_readDeed), (ad 8, aI G 7 q_readKind), (ad 9, aI G 7 q_readFeeds)] H := hP
  have hD : va_D A [(h0, moE ad s_thrown s_textSize o1.2 s_people s_readPeople s_acts s_seen s_seed s_rowSize s_feedMany s_feedRow s_restMany s_restFirst), (ad 1, aI G 48 q_text), (ad 7, aI G 7 q_readDeed), (ad 8, aI G 7 q_readKind), (ad 9, aI G 7 q_readFeeds)] := hD
  refine lv_istore_n (lv' := [(1, .int o1.1), (0, .ref h0)]) hx hb dX4_readPerson_6 rfl hl (by decide) rfl (fun ls hl => ?_)
  refine lv_iload_n hx hb dX4_readPerson_7 rfl (lv_at hl 0 rfl) ?_
  refine lv_bipush (v := (-9)) hx hb dX4_readPerson_8 (by decide) ?_
  refine lv_icmp_ne (tgt := 18) hx hb dX4_readPerson_10 (by decide) (fun c3 => ?_) (fun c3 => ?_)
  · have hf := iteF hf c3
    refine lv_aload_n hx hb dX4_readPerson_18 rfl (lv_at hl 1 rfl) ?_
    refine lv_iconst (v := 3) hx hb dX4_readPerson_19 (by decide) ?_
    obtain ⟨o4, hc5, hf⟩ := bindS hf
    refine rw_i (va_runV (C := RX4) (As := [.int 3]) (rest := []) ⟨hx, hb, hml, hown, hts⟩ (ctX4_figure l G h0 ad s_thrown s_textSize o1.2 s_people s_readPeople s_acts s_seen s_seed s_rowSize s_feedMany s_feedRow s_restMany s_restFirst q_text 3 o4 hc5) (cwV 1 hts gX4_readPerson_X4_figure rfl rfl rfl (by decide +kernel) ⟨Nat.le_of_ble_eq_true rfl, Nat.le_of_ble_eq_true rfl⟩) (preW_V (q0 := 0) (ci := 4) (hP.sub (ws' := [(h0, moE ad s_thrown s_textSize o1.2 s_people s_readPeople s_acts s_seen s_seed s_rowSize s_feedMany s_feedRow s_restMany s_restFirst), (ad 1, aI G 48 q_text)]) [0, 1] rfl) (hD.sub (ws' := [(h0, moE ad s_thrown s_textSize o1.2 s_people s_readPeople s_acts s_seen s_seed s_rowSize s_feedMany s_feedRow s_restMany s_restFirst), (ad 1, aI G 48 q_text)]) [0, 1] (by decide) rfl) hK rfl rfl) rfl rfl hl.1 rfl (lv_room (Nat.le_of_ble_eq_true rfl)) dX4_readPerson_20 ⟨Nat.zero_le _, Nat.zero_le _⟩) hS hP hD [0, 1] rfl rfl rfl (fun H locs hP hD hS => ?_)
    have hP : va_P (gD G) vwCl [(h0, moE ad s_thrown s_textSize o4.2 s_people s_readPeople s_acts s_seen s_seed s_rowSize s_feedMany s_feedRow s_restMany s_restFirst), (ad 1, aI G 48 q_text), (ad 7, aI G 7 q_readDeed), (ad 8, aI G 7 q_readKind), (ad 9, aI G 7 q_readFeeds)] H := hP
    have hD : va_D A [(h0, moE ad s_thrown s_textSize o4.2 s_people s_readPeople s_acts s_seen s_seed s_rowSize s_feedMany s_feedRow s_restMany s_restFirst), (ad 1, aI G 48 q_text), (ad 7, aI G 7 q_readDeed), (ad 8, aI G 7 q_readKind), (ad 9, aI G 7 q_readFeeds)] := hD
    exact hC23 o1.1 o4.1 o4.2 s_readPeople q_readDeed q_readKind q_readFeeds _ _ _ hP hD hS (lv_sub hl [1, 0] rfl) hf
  · have hf := iteT hf c3
    refine lv_bipush (v := (-9)) hx hb dX4_readPerson_13 (by decide) ?_
    refine lv_goto (tgt := 23) hx hb dX4_readPerson_15 (by decide) ?_
    exact hC23 o1.1 (-9) o1.2 s_readPeople q_readDeed q_readKind q_readFeeds _ _ _ hP hD hS (lv_sub hl [1, 0] rfl) hf
def fX4_readPair_93 (s_readPeople : Int32) (x1 : Int32) (y0 : Int32) (s_place : Int32) (q_readFeeds : Nat → Int32) : Option (Int32 × Int32 × (Nat → Int32)) :=
  (fX4_in (Int32.toInt64 y0) 0 (Int32.toInt64 (s_readPeople - 1))).bind fun o9 => ((if o9 = 0 then some (0, s_place, q_readFeeds) else (fX4_leftOf s_readPeople q_readFeeds x1).bind fun o12 => ((fX4_has o12 y0).bind fun o14 => ((if o14 = 0 then some (0, s_place, q_readFeeds) else ck x1 7 (ck x1 7 (some (1, (s_place + 1), (upd q_readFeeds (Int32.toNatClampNeg x1) ((q_readFeeds (Int32.toNatClampNeg x1)) ||| ((1 : Int32) <<< (y0 &&& 31))))))))))))
def fX4_readPair_28 (s_textSize : Int32) (s_readPeople : Int32) (q_text : Nat → Int32) (y0 : Int32) (s_place : Int32) (q_readFeeds : Nat → Int32) : Option (Int32 × Int32 × (Nat → Int32)) :=
  (fX4_in (Int32.toInt64 y0) 0 (Int32.toInt64 (s_readPeople - 1))).bind fun o2 => ((if o2 = 0 then some (0, s_place, q_readFeeds) else (fX4_leftOf s_readPeople q_readFeeds y0).bind fun o5 => ((if o5 = 0 then some (0, s_place, q_readFeeds) else (if s_textSize ≤ (s_place + 1) then (fX4_readPair_93 s_readPeople y0 (-9) (s_place + 1) q_readFeeds) else ck (s_place + 1) 48 ((fX4_readPair_93 s_readPeople y0 ((q_text (Int32.toNatClampNeg (s_place + 1))) - 48) (s_place + 1) q_readFeeds)))))))
def fX4_readPair (s_textSize : Int32) (s_place : Int32) (s_readPeople : Int32) (q_text : Nat → Int32) (q_readFeeds : Nat → Int32) : Option (Int32 × Int32 × (Nat → Int32)) :=
  (if s_textSize ≤ s_place then (fX4_readPair_28 s_textSize s_readPeople q_text (-9) s_place q_readFeeds) else ck s_place 48 ((fX4_readPair_28 s_textSize s_readPeople q_text ((q_text (Int32.toNatClampNeg s_place)) - 48) s_place q_readFeeds)))
set_option maxHeartbeats 4000000 in
set_option maxRecDepth 100000 in
theorem ctX4_readPair (l : Launch) (G : GG) (h0 : Nat) (ad : Nat → Nat) (s_thrown : Int32) (s_textSize : Int32) (s_place : Int32) (s_people : Int32) (s_readPeople : Int32) (s_acts : Int32) (s_seen : Int32) (s_seed : Int64) (s_rowSize : Int32) (s_feedMany : Int32) (s_feedRow : Int32) (s_restMany : Int32) (s_restFirst : Int32) (q_text : Nat → Int32) (q_readFeeds : Nat → Int32) (out : Int32 × Int32 × (Nat → Int32)) (hf : fX4_readPair s_textSize s_place s_readPeople q_text q_readFeeds = some out) : Met l yX4_readPair wsX4_readPair ({ frames := 1, cells := 0, slots := 0, locals := 25 }) (PcW G [.ref h0] [(h0, moE ad s_thrown s_textSize s_place s_people s_readPeople s_acts s_seen s_seed s_rowSize s_feedMany s_feedRow s_restMany s_restFirst), (ad 1, aI G 48 q_text), (ad 9, aI G 7 q_readFeeds)]) (QiW G [(h0, moE ad s_thrown s_textSize s_place s_people s_readPeople s_acts s_seen s_seed s_rowSize s_feedMany s_feedRow s_restMany s_restFirst), (ad 1, aI G 48 q_text), (ad 9, aI G 7 q_readFeeds)] [(h0, moE ad s_thrown s_textSize out.2.1 s_people s_readPeople s_acts s_seen s_seed s_rowSize s_feedMany s_feedRow s_restMany s_restFirst), (ad 1, aI G 48 q_text), (ad 9, aI G 7 out.2.2)] out.1) 0 0 (inA [(h0, moE ad s_thrown s_textSize s_place s_people s_readPeople s_acts s_seen s_seed s_rowSize s_feedMany s_feedRow s_restMany s_restFirst), (ad 1, aI G 48 q_text), (ad 9, aI G 7 q_readFeeds)]) := by
  refine mk_Wz (cc := cX4_readPair) (maxL := 3) (by decide) rfl (Nat.le_of_ble_eq_true rfl) ?_
  intro p e s m args below meth c Q ls A S hP hK hD hl hret
  obtain ⟨hx, hb, hml, hown, hts⟩ := S
  have hown : s.vm.findClass RX4 = some m.cls := hown
  have kl_76 := hts (.fieldLink RX4 76 "ArrestOrderModel" "place" "I") (by decide +kernel)
  have hi_X4 : ∀ w ∈ wsX40, w ∈ wsX4_readPair := fun _ h => List.mem_cons_of_mem _ (List.mem_append_right _ h)
  have kl_73 := hts (.fieldLink RX4 73 "ArrestOrderModel" "textSize" "I") (by decide +kernel)
  have kl_79 := hts (.fieldLink RX4 79 "ArrestOrderModel" "readPeople" "I") (by decide +kernel)
  have kl_22 := hts (.fieldLink RX4 22 "ArrestOrderModel" "readFeeds" "[I") (by decide +kernel)
  have kl_7 := hts (.fieldLink RX4 7 "ArrestOrderModel" "text" "[I") (by decide +kernel)
  have hS : va_S A s.heap s.heap [] := va_S.rf
  have hl : lv_has ls 3 [(0, .ref h0)] := hl
  have hC93 : ∀ (x1 : Int32) (y0 : Int32) (s_place : Int32) (q_readFeeds : Nat → Int32) (H : Heap) (locs : List Loc) (ls : Array Slot), va_P (gD G) vwCl [(h0, moE ad s_thrown s_textSize s_place s_people s_readPeople s_acts s_seen s_seed s_rowSize s_feedMany s_feedRow s_restMany s_restFirst), (ad 1, aI G 48 q_text), (ad 9, aI G 7 q_readFeeds)] H → va_D A [(h0, moE ad s_thrown s_textSize s_place s_people s_readPeople s_acts s_seen s_seed s_rowSize s_feedMany s_feedRow s_restMany s_restFirst), (ad 1, aI G 48 q_text), (ad 9, aI G 7 q_readFeeds)] → va_S A s.heap H locs → lv_has ls 3 [(0, .ref h0), (1, .int x1)] → fX4_readPair_93 s_readPeople x1 y0 s_place q_readFeeds = some out → W p l e ({ frames := 1, cells := 0, slots := 0, locals := 25 }) s m args below meth c H locs 0 0 Q (F0 m 93 ls [.int y0]) := by
    intro x1 y0 s_place q_readFeeds H locs ls hP hD hS hl hf
    refine lv_istore_n (lv' := [(2, .int y0), (0, .ref h0), (1, .int x1)]) hx hb dX4_readPair_93 rfl hl (by decide) rfl (fun ls hl => ?_)
    refine lv_iload_n hx hb dX4_readPair_94 rfl (lv_at hl 0 rfl) ?_
    refine lv_i2l (v := (Int32.toInt64 y0)) hx hb dX4_readPair_95 rfl ?_
    refine lv_lconst (v := 0) hx hb dX4_readPair_96 (by decide) ?_
    refine lv_aload_n hx hb dX4_readPair_97 rfl (lv_at hl 1 rfl) ?_
    refine va_get (D := gD G) (ci := 4) (v := .int s_readPeople) (C := RX4) (T := TX4) (N := 29) hx hb hts hi_X4 hown hK.1 hP 0 rfl rfl 6 (by decide) kl_79 (fun _ h9 => h9) rfl dX4_readPair_98 ?_
    refine lv_iconst (v := 1) hx hb dX4_readPair_101 (by decide) ?_
    refine lv_isub hx hb dX4_readPair_102 ?_
    refine lv_i2l (v := (Int32.toInt64 (s_readPeople - 1))) hx hb dX4_readPair_103 rfl ?_
    obtain ⟨o9, hc10, hf⟩ := bindS hf
    refine ro_i (va_runS (As := [.long (Int32.toInt64 y0), .long 0, .long (Int32.toInt64 (s_readPeople - 1))]) (rest := []) ⟨hx, hb, hml, hown, hts⟩ (ctX4_in l G (Int32.toInt64 y0) 0 (Int32.toInt64 (s_readPeople - 1)) o9 hc10) (va_cwS 3 hts gX4_readPair_X4_in rfl rfl rfl (by decide +kernel) ⟨Nat.le_of_ble_eq_true rfl, Nat.le_of_ble_eq_true rfl⟩) (preR_S (hP.sub (ws' := []) [] rfl) hK) rfl rfl hl.1 rfl (lv_room (Nat.le_of_ble_eq_true rfl)) dX4_readPair_104 ⟨Nat.zero_le _, Nat.zero_le _⟩) hS hP (fun H locs hP hS => ?_)
    refine lv_if_eq (tgt := 122) hx hb dX4_readPair_107 (by decide) (fun c11 => ?_) (fun c11 => ?_)
    · have hf := iteT hf c11
      refine lv_iconst (v := 0) hx hb dX4_readPair_122 (by decide) ?_
      have hv := Option.some.inj hf
      exact hret _ _ _ _ _ (by rw [← hv]; exact hP) hS rfl (by rw [← hv]) dX4_readPair_123
    · have hf := iteF hf c11
      refine lv_aload_n hx hb dX4_readPair_110 rfl (lv_at hl 1 rfl) ?_
      refine lv_iload_n hx hb dX4_readPair_111 rfl (lv_at hl 2 rfl) ?_
      obtain ⟨o12, hc13, hf⟩ := bindS hf
      refine ro_i (va_runV (C := RX4) (As := [.int x1]) (rest := []) ⟨hx, hb, hml, hown, hts⟩ (ctX4_leftOf l G h0 ad s_thrown s_textSize s_place s_people s_readPeople s_acts s_seen s_seed s_rowSize s_feedMany s_feedRow s_restMany s_restFirst q_readFeeds x1 o12 hc13) (cwV 1 hts gX4_readPair_X4_leftOf rfl rfl rfl (by decide +kernel) ⟨Nat.le_of_ble_eq_true rfl, Nat.le_of_ble_eq_true rfl⟩) (preR_V (q0 := 0) (ci := 4) (hP.sub (ws' := [(h0, moE ad s_thrown s_textSize s_place s_people s_readPeople s_acts s_seen s_seed s_rowSize s_feedMany s_feedRow s_restMany s_restFirst), (ad 9, aI G 7 q_readFeeds)]) [0, 2] rfl) hK rfl rfl) rfl rfl hl.1 rfl (lv_room (Nat.le_of_ble_eq_true rfl)) dX4_readPair_112 ⟨Nat.zero_le _, Nat.zero_le _⟩) hS hP (fun H locs hP hS => ?_)
      refine lv_iload_n hx hb dX4_readPair_115 rfl (lv_at hl 0 rfl) ?_
      obtain ⟨o14, hc15, hf⟩ := bindS hf
      refine ro_i (va_runS (As := [.int o12, .int y0]) (rest := []) ⟨hx, hb, hml, hown, hts⟩ (ctX4_has l G o12 y0 o14 hc15) (va_cwS 2 hts gX4_readPair_X4_has rfl rfl rfl (by decide +kernel) ⟨Nat.le_of_ble_eq_true rfl, Nat.le_of_ble_eq_true rfl⟩) (preR_S (hP.sub (ws' := []) [] rfl) hK) rfl rfl hl.1 rfl (lv_room (Nat.le_of_ble_eq_true rfl)) dX4_readPair_116 ⟨Nat.zero_le _, Nat.zero_le _⟩) hS hP (fun H locs hP hS => ?_)
      refine lv_if_ne (tgt := 124) hx hb dX4_readPair_119 (by decide) (fun c16 => ?_) (fun c16 => ?_)
      · have hf := iteF hf c16
        refine lv_aload_n hx hb dX4_readPair_124 rfl (lv_at hl 1 rfl) ?_
        refine lv_dup hx hb dX4_readPair_125 rfl ?_
        refine va_get (D := gD G) (ci := 4) (v := .int s_place) (C := RX4) (T := TX4) (N := 29) hx hb hts hi_X4 hown hK.1 hP 0 rfl rfl 3 (by decide) kl_76 (fun _ h9 => h9) rfl dX4_readPair_126 ?_
        refine lv_iconst (v := 1) hx hb dX4_readPair_129 (by decide) ?_
        refine lv_iadd hx hb dX4_readPair_130 ?_
        refine va_put (D := gD G) (ci := 4) (v := .int (s_place + 1)) (ty := .int) (C := RX4) (T := TX4) (N := 29) hx hb hts hi_X4 tyX4 tyX4_ok nmX4 hown hK.1 hP hD hS 0 rfl rfl 3 (by decide) kl_76 (fun _ h9 => h9) rfl (tyX4_ok 3 (by decide)) rfl rfl (Nat.le_of_ble_eq_true rfl) dX4_readPair_131 (fun H locs hP hD hS => ?_)
        have hP : va_P (gD G) vwCl [(h0, moE ad s_thrown s_textSize (s_place + 1) s_people s_readPeople s_acts s_seen s_seed s_rowSize s_feedMany s_feedRow s_restMany s_restFirst), (ad 1, aI G 48 q_text), (ad 9, aI G 7 q_readFeeds)] H := hP
        have hD : va_D A [(h0, moE ad s_thrown s_textSize (s_place + 1) s_people s_readPeople s_acts s_seen s_seed s_rowSize s_feedMany s_feedRow s_restMany s_restFirst), (ad 1, aI G 48 q_text), (ad 9, aI G 7 q_readFeeds)] := hD
        refine lv_aload_n hx hb dX4_readPair_134 rfl (lv_at hl 1 rfl) ?_
        refine va_get (D := gD G) (ci := 4) (v := .ref (ad 9)) (C := RX4) (T := TX4) (N := 29) hx hb hts hi_X4 hown hK.1 hP 0 rfl rfl 9 (by decide) kl_22 (fun _ h9 => h9) rfl dX4_readPair_135 ?_
        refine lv_iload_n hx hb dX4_readPair_138 rfl (lv_at hl 2 rfl) ?_
        refine lv_dup2_11 hx hb dX4_readPair_139 rfl rfl ?_
        obtain ⟨hi17, hf⟩ := ckS hf
        refine va_iald hx hb hK.1 hP 2 0 rfl rfl hi17 dX4_readPair_140 ?_
        refine lv_iconst (v := 1) hx hb dX4_readPair_141 (by decide) ?_
        refine lv_iload_n hx hb dX4_readPair_142 rfl (lv_at hl 0 rfl) ?_
        refine lv_ishl hx hb dX4_readPair_143 ?_
        refine lv_ior hx hb dX4_readPair_144 ?_
        obtain ⟨hi18, hf⟩ := ckS hf
        refine va_iast hx hb hK.1 hP hD hS 2 0 rfl rfl hi18 dX4_readPair_145 (fun H locs hP hD hS => ?_)
        have hP : va_P (gD G) vwCl [(h0, moE ad s_thrown s_textSize (s_place + 1) s_people s_readPeople s_acts s_seen s_seed s_rowSize s_feedMany s_feedRow s_restMany s_restFirst), (ad 1, aI G 48 q_text), (ad 9, aI G 7 (upd q_readFeeds (Int32.toNatClampNeg x1) ((q_readFeeds (Int32.toNatClampNeg x1)) ||| ((1 : Int32) <<< (y0 &&& 31)))))] H := hP
        have hD : va_D A [(h0, moE ad s_thrown s_textSize (s_place + 1) s_people s_readPeople s_acts s_seen s_seed s_rowSize s_feedMany s_feedRow s_restMany s_restFirst), (ad 1, aI G 48 q_text), (ad 9, aI G 7 (upd q_readFeeds (Int32.toNatClampNeg x1) ((q_readFeeds (Int32.toNatClampNeg x1)) ||| ((1 : Int32) <<< (y0 &&& 31)))))] := hD
        refine lv_iconst (v := 1) hx hb dX4_readPair_146 (by decide) ?_
        have hv := Option.some.inj hf
        exact hret _ _ _ _ _ (by rw [← hv]; exact hP) hS rfl (by rw [← hv]) dX4_readPair_147
      · have hf := iteT hf c16
        refine lv_iconst (v := 0) hx hb dX4_readPair_122 (by decide) ?_
        have hv := Option.some.inj hf
        exact hret _ _ _ _ _ (by rw [← hv]; exact hP) hS rfl (by rw [← hv]) dX4_readPair_123
  have hC28 : ∀ (y0 : Int32) (s_place : Int32) (q_readFeeds : Nat → Int32) (H : Heap) (locs : List Loc) (ls : Array Slot), va_P (gD G) vwCl [(h0, moE ad s_thrown s_textSize s_place s_people s_readPeople s_acts s_seen s_seed s_rowSize s_feedMany s_feedRow s_restMany s_restFirst), (ad 1, aI G 48 q_text), (ad 9, aI G 7 q_readFeeds)] H → va_D A [(h0, moE ad s_thrown s_textSize s_place s_people s_readPeople s_acts s_seen s_seed s_rowSize s_feedMany s_feedRow s_restMany s_restFirst), (ad 1, aI G 48 q_text), (ad 9, aI G 7 q_readFeeds)] → va_S A s.heap H locs → lv_has ls 3 [(0, .ref h0)] → fX4_readPair_28 s_textSize s_readPeople q_text y0 s_place q_readFeeds = some out → W p l e ({ frames := 1, cells := 0, slots := 0, locals := 25 }) s m args below meth c H locs 0 0 Q (F0 m 28 ls [.int y0]) := by
    intro y0 s_place q_readFeeds H locs ls hP hD hS hl hf
    refine lv_istore_n (lv' := [(1, .int y0), (0, .ref h0)]) hx hb dX4_readPair_28 rfl hl (by decide) rfl (fun ls hl => ?_)
    refine lv_iload_n hx hb dX4_readPair_29 rfl (lv_at hl 0 rfl) ?_
    refine lv_i2l (v := (Int32.toInt64 y0)) hx hb dX4_readPair_30 rfl ?_
    refine lv_lconst (v := 0) hx hb dX4_readPair_31 (by decide) ?_
    refine lv_aload_n hx hb dX4_readPair_32 rfl (lv_at hl 1 rfl) ?_
    refine va_get (D := gD G) (ci := 4) (v := .int s_readPeople) (C := RX4) (T := TX4) (N := 29) hx hb hts hi_X4 hown hK.1 hP 0 rfl rfl 6 (by decide) kl_79 (fun _ h9 => h9) rfl dX4_readPair_33 ?_
    refine lv_iconst (v := 1) hx hb dX4_readPair_36 (by decide) ?_
    refine lv_isub hx hb dX4_readPair_37 ?_
    refine lv_i2l (v := (Int32.toInt64 (s_readPeople - 1))) hx hb dX4_readPair_38 rfl ?_
    obtain ⟨o2, hc3, hf⟩ := bindS hf
    refine ro_i (va_runS (As := [.long (Int32.toInt64 y0), .long 0, .long (Int32.toInt64 (s_readPeople - 1))]) (rest := []) ⟨hx, hb, hml, hown, hts⟩ (ctX4_in l G (Int32.toInt64 y0) 0 (Int32.toInt64 (s_readPeople - 1)) o2 hc3) (va_cwS 3 hts gX4_readPair_X4_in rfl rfl rfl (by decide +kernel) ⟨Nat.le_of_ble_eq_true rfl, Nat.le_of_ble_eq_true rfl⟩) (preR_S (hP.sub (ws' := []) [] rfl) hK) rfl rfl hl.1 rfl (lv_room (Nat.le_of_ble_eq_true rfl)) dX4_readPair_39 ⟨Nat.zero_le _, Nat.zero_le _⟩) hS hP (fun H locs hP hS => ?_)
    refine lv_if_eq (tgt := 53) hx hb dX4_readPair_42 (by decide) (fun c4 => ?_) (fun c4 => ?_)
    · have hf := iteT hf c4
      refine lv_iconst (v := 0) hx hb dX4_readPair_53 (by decide) ?_
      have hv := Option.some.inj hf
      exact hret _ _ _ _ _ (by rw [← hv]; exact hP) hS rfl (by rw [← hv]) dX4_readPair_54
    · have hf := iteF hf c4
      refine lv_aload_n hx hb dX4_readPair_45 rfl (lv_at hl 1 rfl) ?_
      refine lv_iload_n hx hb dX4_readPair_46 rfl (lv_at hl 0 rfl) ?_
      obtain ⟨o5, hc6, hf⟩ := bindS hf
      refine ro_i (va_runV (C := RX4) (As := [.int y0]) (rest := []) ⟨hx, hb, hml, hown, hts⟩ (ctX4_leftOf l G h0 ad s_thrown s_textSize s_place s_people s_readPeople s_acts s_seen s_seed s_rowSize s_feedMany s_feedRow s_restMany s_restFirst q_readFeeds y0 o5 hc6) (cwV 1 hts gX4_readPair_X4_leftOf rfl rfl rfl (by decide +kernel) ⟨Nat.le_of_ble_eq_true rfl, Nat.le_of_ble_eq_true rfl⟩) (preR_V (q0 := 0) (ci := 4) (hP.sub (ws' := [(h0, moE ad s_thrown s_textSize s_place s_people s_readPeople s_acts s_seen s_seed s_rowSize s_feedMany s_feedRow s_restMany s_restFirst), (ad 9, aI G 7 q_readFeeds)]) [0, 2] rfl) hK rfl rfl) rfl rfl hl.1 rfl (lv_room (Nat.le_of_ble_eq_true rfl)) dX4_readPair_47 ⟨Nat.zero_le _, Nat.zero_le _⟩) hS hP (fun H locs hP hS => ?_)
      refine lv_if_ne (tgt := 55) hx hb dX4_readPair_50 (by decide) (fun c7 => ?_) (fun c7 => ?_)
      · have hf := iteF hf c7
        refine lv_aload_n hx hb dX4_readPair_55 rfl (lv_at hl 1 rfl) ?_
        refine lv_dup hx hb dX4_readPair_56 rfl ?_
        refine va_get (D := gD G) (ci := 4) (v := .int s_place) (C := RX4) (T := TX4) (N := 29) hx hb hts hi_X4 hown hK.1 hP 0 rfl rfl 3 (by decide) kl_76 (fun _ h9 => h9) rfl dX4_readPair_57 ?_
        refine lv_iconst (v := 1) hx hb dX4_readPair_60 (by decide) ?_
        refine lv_iadd hx hb dX4_readPair_61 ?_
        refine va_put (D := gD G) (ci := 4) (v := .int (s_place + 1)) (ty := .int) (C := RX4) (T := TX4) (N := 29) hx hb hts hi_X4 tyX4 tyX4_ok nmX4 hown hK.1 hP hD hS 0 rfl rfl 3 (by decide) kl_76 (fun _ h9 => h9) rfl (tyX4_ok 3 (by decide)) rfl rfl (Nat.le_of_ble_eq_true rfl) dX4_readPair_62 (fun H locs hP hD hS => ?_)
        have hP : va_P (gD G) vwCl [(h0, moE ad s_thrown s_textSize (s_place + 1) s_people s_readPeople s_acts s_seen s_seed s_rowSize s_feedMany s_feedRow s_restMany s_restFirst), (ad 1, aI G 48 q_text), (ad 9, aI G 7 q_readFeeds)] H := hP
        have hD : va_D A [(h0, moE ad s_thrown s_textSize (s_place + 1) s_people s_readPeople s_acts s_seen s_seed s_rowSize s_feedMany s_feedRow s_restMany s_restFirst), (ad 1, aI G 48 q_text), (ad 9, aI G 7 q_readFeeds)] := hD
        refine lv_aload_n hx hb dX4_readPair_65 rfl (lv_at hl 1 rfl) ?_
        refine va_get (D := gD G) (ci := 4) (v := .int (s_place + 1)) (C := RX4) (T := TX4) (N := 29) hx hb hts hi_X4 hown hK.1 hP 0 rfl rfl 3 (by decide) kl_76 (fun _ h9 => h9) rfl dX4_readPair_66 ?_
        refine lv_aload_n hx hb dX4_readPair_69 rfl (lv_at hl 1 rfl) ?_
        refine va_get (D := gD G) (ci := 4) (v := .int s_textSize) (C := RX4) (T := TX4) (N := 29) hx hb hts hi_X4 hown hK.1 hP 0 rfl rfl 2 (by decide) kl_73 (fun _ h9 => h9) rfl dX4_readPair_70 ?_
        refine lv_icmp_ge (tgt := 91) hx hb dX4_readPair_73 (by decide) (fun c8 => ?_) (fun c8 => ?_)
        · have hf := iteT hf c8
          refine lv_bipush (v := (-9)) hx hb dX4_readPair_91 (by decide) ?_
          exact hC93 y0 (-9) (s_place + 1) q_readFeeds _ _ _ hP hD hS (lv_sub hl [1, 0] rfl) hf
        · have hf := iteF hf c8
          refine lv_aload_n hx hb dX4_readPair_76 rfl (lv_at hl 1 rfl) ?_
          refine va_get (D := gD G) (ci := 4) (v := .ref (ad 1)) (C := RX4) (T := TX4) (N := 29) hx hb hts hi_X4 hown hK.1 hP 0 rfl rfl 1 (by decide) kl_7 (fun _ h9 => h9) rfl dX4_readPair_77 ?_
          refine lv_aload_n hx hb dX4_readPair_80 rfl (lv_at hl 1 rfl) ?_
          refine va_get (D := gD G) (ci := 4) (v := .int (s_place + 1)) (C := RX4) (T := TX4) (N := 29) hx hb hts hi_X4 hown hK.1 hP 0 rfl rfl 3 (by decide) kl_76 (fun _ h9 => h9) rfl dX4_readPair_81 ?_
          obtain ⟨hi19, hf⟩ := ckS hf
          refine va_iald hx hb hK.1 hP 1 0 rfl rfl hi19 dX4_readPair_84 ?_
          refine lv_bipush (v := 48) hx hb dX4_readPair_85 (by decide) ?_
          refine lv_isub hx hb dX4_readPair_87 ?_
          refine lv_goto (tgt := 93) hx hb dX4_readPair_88 (by decide) ?_
          exact hC93 y0 ((q_text (Int32.toNatClampNeg (s_place + 1))) - 48) (s_place + 1) q_readFeeds _ _ _ hP hD hS (lv_sub hl [1, 0] rfl) hf
      · have hf := iteT hf c7
        refine lv_iconst (v := 0) hx hb dX4_readPair_53 (by decide) ?_
        have hv := Option.some.inj hf
        exact hret _ _ _ _ _ (by rw [← hv]; exact hP) hS rfl (by rw [← hv]) dX4_readPair_54
  refine lv_aload_n hx hb dX4_readPair_0 rfl (lv_at hl 0 rfl) ?_
  refine va_get (D := gD G) (ci := 4) (v := .int s_place) (C := RX4) (T := TX4) (N := 29) hx hb hts hi_X4 hown hK.1 hP 0 rfl rfl 3 (by decide) kl_76 (fun _ h9 => h9) rfl dX4_readPair_1 ?_
  refine lv_aload_n hx hb dX4_readPair_4 rfl (lv_at hl 0 rfl) ?_
  refine va_get (D := gD G) (ci := 4) (v := .int s_textSize) (C := RX4) (T := TX4) (N := 29) hx hb hts hi_X4 hown hK.1 hP 0 rfl rfl 2 (by decide) kl_73 (fun _ h9 => h9) rfl dX4_readPair_5 ?_
  refine lv_icmp_ge (tgt := 26) hx hb dX4_readPair_8 (by decide) (fun c1 => ?_) (fun c1 => ?_)
  · have hf := iteT hf c1
    refine lv_bipush (v := (-9)) hx hb dX4_readPair_26 (by decide) ?_
    exact hC28 (-9) s_place q_readFeeds _ _ _ hP hD hS (lv_sub hl [0] rfl) hf
  · have hf := iteF hf c1
    refine lv_aload_n hx hb dX4_readPair_11 rfl (lv_at hl 0 rfl) ?_
    refine va_get (D := gD G) (ci := 4) (v := .ref (ad 1)) (C := RX4) (T := TX4) (N := 29) hx hb hts hi_X4 hown hK.1 hP 0 rfl rfl 1 (by decide) kl_7 (fun _ h9 => h9) rfl dX4_readPair_12 ?_
    refine lv_aload_n hx hb dX4_readPair_15 rfl (lv_at hl 0 rfl) ?_
    refine va_get (D := gD G) (ci := 4) (v := .int s_place) (C := RX4) (T := TX4) (N := 29) hx hb hts hi_X4 hown hK.1 hP 0 rfl rfl 3 (by decide) kl_76 (fun _ h9 => h9) rfl dX4_readPair_16 ?_
    obtain ⟨hi20, hf⟩ := ckS hf
    refine va_iald hx hb hK.1 hP 1 0 rfl rfl hi20 dX4_readPair_19 ?_
    refine lv_bipush (v := 48) hx hb dX4_readPair_20 (by decide) ?_
    refine lv_isub hx hb dX4_readPair_22 ?_
    refine lv_goto (tgt := 28) hx hb dX4_readPair_23 (by decide) ?_
    exact hC28 ((q_text (Int32.toNatClampNeg s_place)) - 48) s_place q_readFeeds _ _ _ hP hD hS (lv_sub hl [0] rfl) hf
def fX4_readPart_58 (s_place : Int32) (s_readPeople : Int32) (q_readDeed : Nat → Int32) (q_readKind : Nat → Int32) (q_readFeeds : Nat → Int32) : Option (Int32 × Int32 × Int32 × (Nat → Int32) × (Nat → Int32) × (Nat → Int32)) :=
  some (0, (s_place - 1), s_readPeople, q_readDeed, q_readKind, q_readFeeds)
def fX4_readPart_40 (s_textSize : Int32) (q_text : Nat → Int32) (x1 : Int32) (s_place : Int32) (s_readPeople : Int32) (q_readDeed : Nat → Int32) (q_readKind : Nat → Int32) (q_readFeeds : Nat → Int32) : Option (Int32 × Int32 × Int32 × (Nat → Int32) × (Nat → Int32) × (Nat → Int32)) :=
  (if x1 = 70 then (fX4_isLeft s_readPeople q_readFeeds).bind fun o4 => ((if o4 = 0 then (fX4_readPart_58 s_place s_readPeople q_readDeed q_readKind q_readFeeds) else (fX4_readPair s_textSize s_place s_readPeople q_text q_readFeeds).bind fun o7 => (zk o7.1 (some (o7.1, o7.2.1, s_readPeople, q_readDeed, q_readKind, o7.2.2))))) else (fX4_readPart_58 s_place s_readPeople q_readDeed q_readKind q_readFeeds))
def fX4_readPart (s_textSize : Int32) (s_place : Int32) (s_readPeople : Int32) (q_text : Nat → Int32) (q_readDeed : Nat → Int32) (q_readKind : Nat → Int32) (q_readFeeds : Nat → Int32) : Option (Int32 × Int32 × Int32 × (Nat → Int32) × (Nat → Int32) × (Nat → Int32)) :=
  ck s_place 48 ((if (q_text (Int32.toNatClampNeg s_place)) = 80 then (if 7 ≤ s_readPeople then (fX4_readPart_40 s_textSize q_text (q_text (Int32.toNatClampNeg s_place)) (s_place + 1) s_readPeople q_readDeed q_readKind q_readFeeds) else (fX4_readPerson s_textSize (s_place + 1) s_readPeople q_text q_readDeed q_readKind q_readFeeds).bind fun o10 => (zk o10.1 (some (o10.1, o10.2.1, o10.2.2.1, o10.2.2.2.1, o10.2.2.2.2.1, o10.2.2.2.2.2)))) else (fX4_readPart_40 s_textSize q_text (q_text (Int32.toNatClampNeg s_place)) (s_place + 1) s_readPeople q_readDeed q_readKind q_readFeeds)))
set_option maxHeartbeats 4000000 in
set_option maxRecDepth 100000 in
theorem ctX4_readPart (l : Launch) (G : GG) (h0 : Nat) (ad : Nat → Nat) (s_thrown : Int32) (s_textSize : Int32) (s_place : Int32) (s_people : Int32) (s_readPeople : Int32) (s_acts : Int32) (s_seen : Int32) (s_seed : Int64) (s_rowSize : Int32) (s_feedMany : Int32) (s_feedRow : Int32) (s_restMany : Int32) (s_restFirst : Int32) (q_text : Nat → Int32) (q_readDeed : Nat → Int32) (q_readKind : Nat → Int32) (q_readFeeds : Nat → Int32) (out : Int32 × Int32 × Int32 × (Nat → Int32) × (Nat → Int32) × (Nat → Int32)) (hf : fX4_readPart s_textSize s_place s_readPeople q_text q_readDeed q_readKind q_readFeeds = some out) : Met l yX4_readPart wsX4_readPart ({ frames := 3, cells := 0, slots := 0, locals := 68 }) (PcW G [.ref h0] [(h0, moE ad s_thrown s_textSize s_place s_people s_readPeople s_acts s_seen s_seed s_rowSize s_feedMany s_feedRow s_restMany s_restFirst), (ad 1, aI G 48 q_text), (ad 7, aI G 7 q_readDeed), (ad 8, aI G 7 q_readKind), (ad 9, aI G 7 q_readFeeds)]) (QiW G [(h0, moE ad s_thrown s_textSize s_place s_people s_readPeople s_acts s_seen s_seed s_rowSize s_feedMany s_feedRow s_restMany s_restFirst), (ad 1, aI G 48 q_text), (ad 7, aI G 7 q_readDeed), (ad 8, aI G 7 q_readKind), (ad 9, aI G 7 q_readFeeds)] [(h0, moE ad s_thrown s_textSize out.2.1 s_people out.2.2.1 s_acts s_seen s_seed s_rowSize s_feedMany s_feedRow s_restMany s_restFirst), (ad 1, aI G 48 q_text), (ad 7, aI G 7 out.2.2.2.1), (ad 8, aI G 7 out.2.2.2.2.1), (ad 9, aI G 7 out.2.2.2.2.2)] out.1) 0 0 (inA [(h0, moE ad s_thrown s_textSize s_place s_people s_readPeople s_acts s_seen s_seed s_rowSize s_feedMany s_feedRow s_restMany s_restFirst), (ad 1, aI G 48 q_text), (ad 7, aI G 7 q_readDeed), (ad 8, aI G 7 q_readKind), (ad 9, aI G 7 q_readFeeds)]) := by
  refine mk_Wz (cc := cX4_readPart) (maxL := 2) (by decide) rfl (Nat.le_of_ble_eq_true rfl) ?_
  intro p e s m args below meth c Q ls A S hP hK hD hl hret
  obtain ⟨hx, hb, hml, hown, hts⟩ := S
  have hown : s.vm.findClass RX4 = some m.cls := hown
  have kl_7 := hts (.fieldLink RX4 7 "ArrestOrderModel" "text" "[I") (by decide +kernel)
  have hi_X4 : ∀ w ∈ wsX40, w ∈ wsX4_readPart := fun _ h => List.mem_cons_of_mem _ (List.mem_append_right _ h)
  have kl_76 := hts (.fieldLink RX4 76 "ArrestOrderModel" "place" "I") (by decide +kernel)
  have kl_79 := hts (.fieldLink RX4 79 "ArrestOrderModel" "readPeople" "I") (by decide +kernel)
  have hS : va_S A s.heap s.heap [] := va_S.rf
  have hl : lv_has ls 2 [(0, .ref h0)] := hl
  have hC58 : ∀ (s_place : Int32) (s_readPeople : Int32) (q_readDeed : Nat → Int32) (q_readKind : Nat → Int32) (q_readFeeds : Nat → Int32) (H : Heap) (locs : List Loc) (ls : Array Slot), va_P (gD G) vwCl [(h0, moE ad s_thrown s_textSize s_place s_people s_readPeople s_acts s_seen s_seed s_rowSize s_feedMany s_feedRow s_restMany s_restFirst), (ad 1, aI G 48 q_text), (ad 7, aI G 7 q_readDeed), (ad 8, aI G 7 q_readKind), (ad 9, aI G 7 q_readFeeds)] H → va_D A [(h0, moE ad s_thrown s_textSize s_place s_people s_readPeople s_acts s_seen s_seed s_rowSize s_feedMany s_feedRow s_restMany s_restFirst), (ad 1, aI G 48 q_text), (ad 7, aI G 7 q_readDeed), (ad 8, aI G 7 q_readKind), (ad 9, aI G 7 q_readFeeds)] → va_S A s.heap H locs → lv_has ls 2 [(0, .ref h0)] → fX4_readPart_58 s_place s_readPeople q_readDeed q_readKind q_readFeeds = some out → W p l e ({ frames := 3, cells := 0, slots := 0, locals := 68 }) s m args below meth c H locs 0 0 Q (F0 m 58 ls []) := by
    intro s_place s_readPeople q_readDeed q_readKind q_readFeeds H locs ls hP hD hS hl hf
    refine lv_aload_n hx hb dX4_readPart_58 rfl (lv_at hl 0 rfl) ?_
    refine lv_dup hx hb dX4_readPart_59 rfl ?_
    refine va_get (D := gD G) (ci := 4) (v := .int s_place) (C := RX4) (T := TX4) (N := 29) hx hb hts hi_X4 hown hK.1 hP 0 rfl rfl 3 (by decide) kl_76 (fun _ h9 => h9) rfl dX4_readPart_60 ?_
    refine lv_iconst (v := 1) hx hb dX4_readPart_63 (by decide) ?_
    refine lv_isub hx hb dX4_readPart_64 ?_
    refine va_put (D := gD G) (ci := 4) (v := .int (s_place - 1)) (ty := .int) (C := RX4) (T := TX4) (N := 29) hx hb hts hi_X4 tyX4 tyX4_ok nmX4 hown hK.1 hP hD hS 0 rfl rfl 3 (by decide) kl_76 (fun _ h9 => h9) rfl (tyX4_ok 3 (by decide)) rfl rfl (Nat.le_of_ble_eq_true rfl) dX4_readPart_65 (fun H locs hP hD hS => ?_)
    have hP : va_P (gD G) vwCl [(h0, moE ad s_thrown s_textSize (s_place - 1) s_people s_readPeople s_acts s_seen s_seed s_rowSize s_feedMany s_feedRow s_restMany s_restFirst), (ad 1, aI G 48 q_text), (ad 7, aI G 7 q_readDeed), (ad 8, aI G 7 q_readKind), (ad 9, aI G 7 q_readFeeds)] H := hP
    have hD : va_D A [(h0, moE ad s_thrown s_textSize (s_place - 1) s_people s_readPeople s_acts s_seen s_seed s_rowSize s_feedMany s_feedRow s_restMany s_restFirst), (ad 1, aI G 48 q_text), (ad 7, aI G 7 q_readDeed), (ad 8, aI G 7 q_readKind), (ad 9, aI G 7 q_readFeeds)] := hD
    refine lv_iconst (v := 0) hx hb dX4_readPart_68 (by decide) ?_
    have hv := Option.some.inj hf
    exact hret _ _ _ _ _ (by rw [← hv]; exact hP) hS rfl (by rw [← hv]) dX4_readPart_69
  have hC40 : ∀ (x1 : Int32) (s_place : Int32) (s_readPeople : Int32) (q_readDeed : Nat → Int32) (q_readKind : Nat → Int32) (q_readFeeds : Nat → Int32) (H : Heap) (locs : List Loc) (ls : Array Slot), va_P (gD G) vwCl [(h0, moE ad s_thrown s_textSize s_place s_people s_readPeople s_acts s_seen s_seed s_rowSize s_feedMany s_feedRow s_restMany s_restFirst), (ad 1, aI G 48 q_text), (ad 7, aI G 7 q_readDeed), (ad 8, aI G 7 q_readKind), (ad 9, aI G 7 q_readFeeds)] H → va_D A [(h0, moE ad s_thrown s_textSize s_place s_people s_readPeople s_acts s_seen s_seed s_rowSize s_feedMany s_feedRow s_restMany s_restFirst), (ad 1, aI G 48 q_text), (ad 7, aI G 7 q_readDeed), (ad 8, aI G 7 q_readKind), (ad 9, aI G 7 q_readFeeds)] → va_S A s.heap H locs → lv_has ls 2 [(0, .ref h0), (1, .int x1)] → fX4_readPart_40 s_textSize q_text x1 s_place s_readPeople q_readDeed q_readKind q_readFeeds = some out → W p l e ({ frames := 3, cells := 0, slots := 0, locals := 68 }) s m args below meth c H locs 0 0 Q (F0 m 40 ls []) := by
    intro x1 s_place s_readPeople q_readDeed q_readKind q_readFeeds H locs ls hP hD hS hl hf
    refine lv_iload_n hx hb dX4_readPart_40 rfl (lv_at hl 1 rfl) ?_
    refine lv_bipush (v := 70) hx hb dX4_readPart_41 (by decide) ?_
    refine lv_icmp_ne (tgt := 58) hx hb dX4_readPart_43 (by decide) (fun c3 => ?_) (fun c3 => ?_)
    · have hf := iteF hf c3
      exact hC58 s_place s_readPeople q_readDeed q_readKind q_readFeeds _ _ _ hP hD hS (lv_sub hl [0] rfl) hf
    · have hf := iteT hf c3
      refine lv_aload_n hx hb dX4_readPart_46 rfl (lv_at hl 0 rfl) ?_
      obtain ⟨o4, hc5, hf⟩ := bindS hf
      refine ro_i (va_runV (C := RX4) (As := []) (rest := []) ⟨hx, hb, hml, hown, hts⟩ (ctX4_isLeft l G h0 ad s_thrown s_textSize s_place s_people s_readPeople s_acts s_seen s_seed s_rowSize s_feedMany s_feedRow s_restMany s_restFirst q_readFeeds o4 hc5) (cwV 0 hts gX4_readPart_X4_isLeft rfl rfl rfl (by decide +kernel) ⟨Nat.le_of_ble_eq_true rfl, Nat.le_of_ble_eq_true rfl⟩) (preR_V (q0 := 0) (ci := 4) (hP.sub (ws' := [(h0, moE ad s_thrown s_textSize s_place s_people s_readPeople s_acts s_seen s_seed s_rowSize s_feedMany s_feedRow s_restMany s_restFirst), (ad 9, aI G 7 q_readFeeds)]) [0, 4] rfl) hK rfl rfl) rfl rfl hl.1 rfl (lv_room (Nat.le_of_ble_eq_true rfl)) dX4_readPart_47 ⟨Nat.zero_le _, Nat.zero_le _⟩) hS hP (fun H locs hP hS => ?_)
      refine lv_if_eq (tgt := 58) hx hb dX4_readPart_50 (by decide) (fun c6 => ?_) (fun c6 => ?_)
      · have hf := iteT hf c6
        exact hC58 s_place s_readPeople q_readDeed q_readKind q_readFeeds _ _ _ hP hD hS (lv_sub hl [0] rfl) hf
      · have hf := iteF hf c6
        refine lv_aload_n hx hb dX4_readPart_53 rfl (lv_at hl 0 rfl) ?_
        obtain ⟨o7, hc8, hf⟩ := bindS hf
        refine rw_i (va_runV (C := RX4) (As := []) (rest := []) ⟨hx, hb, hml, hown, hts⟩ (ctX4_readPair l G h0 ad s_thrown s_textSize s_place s_people s_readPeople s_acts s_seen s_seed s_rowSize s_feedMany s_feedRow s_restMany s_restFirst q_text q_readFeeds o7 hc8) (cwV 0 hts gX4_readPart_X4_readPair rfl rfl rfl (by decide +kernel) ⟨Nat.le_of_ble_eq_true rfl, Nat.le_of_ble_eq_true rfl⟩) (preW_V (q0 := 0) (ci := 4) (hP.sub (ws' := [(h0, moE ad s_thrown s_textSize s_place s_people s_readPeople s_acts s_seen s_seed s_rowSize s_feedMany s_feedRow s_restMany s_restFirst), (ad 1, aI G 48 q_text), (ad 9, aI G 7 q_readFeeds)]) [0, 1, 4] rfl) (hD.sub (ws' := [(h0, moE ad s_thrown s_textSize s_place s_people s_readPeople s_acts s_seen s_seed s_rowSize s_feedMany s_feedRow s_restMany s_restFirst), (ad 1, aI G 48 q_text), (ad 9, aI G 7 q_readFeeds)]) [0, 1, 4] (by decide) rfl) hK rfl rfl) rfl rfl hl.1 rfl (lv_room (Nat.le_of_ble_eq_true rfl)) dX4_readPart_54 ⟨Nat.zero_le _, Nat.zero_le _⟩) hS hP hD [0, 1, 4] rfl rfl rfl (fun H locs hP hD hS => ?_)
        have hP : va_P (gD G) vwCl [(h0, moE ad s_thrown s_textSize o7.2.1 s_people s_readPeople s_acts s_seen s_seed s_rowSize s_feedMany s_feedRow s_restMany s_restFirst), (ad 1, aI G 48 q_text), (ad 7, aI G 7 q_readDeed), (ad 8, aI G 7 q_readKind), (ad 9, aI G 7 o7.2.2)] H := hP
        have hD : va_D A [(h0, moE ad s_thrown s_textSize o7.2.1 s_people s_readPeople s_acts s_seen s_seed s_rowSize s_feedMany s_feedRow s_restMany s_restFirst), (ad 1, aI G 48 q_text), (ad 7, aI G 7 q_readDeed), (ad 8, aI G 7 q_readKind), (ad 9, aI G 7 o7.2.2)] := hD
        obtain ⟨hzr, hf⟩ := zkS hf
        have hv := Option.some.inj hf
        exact hret _ _ _ _ _ (by rw [← hv]; exact hP) hS hzr (by rw [← hv]) dX4_readPart_57
  refine lv_aload_n hx hb dX4_readPart_0 rfl (lv_at hl 0 rfl) ?_
  refine va_get (D := gD G) (ci := 4) (v := .ref (ad 1)) (C := RX4) (T := TX4) (N := 29) hx hb hts hi_X4 hown hK.1 hP 0 rfl rfl 1 (by decide) kl_7 (fun _ h9 => h9) rfl dX4_readPart_1 ?_
  refine lv_aload_n hx hb dX4_readPart_4 rfl (lv_at hl 0 rfl) ?_
  refine va_get (D := gD G) (ci := 4) (v := .int s_place) (C := RX4) (T := TX4) (N := 29) hx hb hts hi_X4 hown hK.1 hP 0 rfl rfl 3 (by decide) kl_76 (fun _ h9 => h9) rfl dX4_readPart_5 ?_
  obtain ⟨hi1, hf⟩ := ckS hf
  refine va_iald hx hb hK.1 hP 1 0 rfl rfl hi1 dX4_readPart_8 ?_
  refine lv_istore_n (lv' := [(1, .int (q_text (Int32.toNatClampNeg s_place))), (0, .ref h0)]) hx hb dX4_readPart_9 rfl hl (by decide) rfl (fun ls hl => ?_)
  refine lv_aload_n hx hb dX4_readPart_10 rfl (lv_at hl 1 rfl) ?_
  refine lv_dup hx hb dX4_readPart_11 rfl ?_
  refine va_get (D := gD G) (ci := 4) (v := .int s_place) (C := RX4) (T := TX4) (N := 29) hx hb hts hi_X4 hown hK.1 hP 0 rfl rfl 3 (by decide) kl_76 (fun _ h9 => h9) rfl dX4_readPart_12 ?_
  refine lv_iconst (v := 1) hx hb dX4_readPart_15 (by decide) ?_
  refine lv_iadd hx hb dX4_readPart_16 ?_
  refine va_put (D := gD G) (ci := 4) (v := .int (s_place + 1)) (ty := .int) (C := RX4) (T := TX4) (N := 29) hx hb hts hi_X4 tyX4 tyX4_ok nmX4 hown hK.1 hP hD hS 0 rfl rfl 3 (by decide) kl_76 (fun _ h9 => h9) rfl (tyX4_ok 3 (by decide)) rfl rfl (Nat.le_of_ble_eq_true rfl) dX4_readPart_17 (fun H locs hP hD hS => ?_)
  have hP : va_P (gD G) vwCl [(h0, moE ad s_thrown s_textSize (s_place + 1) s_people s_readPeople s_acts s_seen s_seed s_rowSize s_feedMany s_feedRow s_restMany s_restFirst), (ad 1, aI G 48 q_text), (ad 7, aI G 7 q_readDeed), (ad 8, aI G 7 q_readKind), (ad 9, aI G 7 q_readFeeds)] H := hP
  have hD : va_D A [(h0, moE ad s_thrown s_textSize (s_place + 1) s_people s_readPeople s_acts s_seen s_seed s_rowSize s_feedMany s_feedRow s_restMany s_restFirst), (ad 1, aI G 48 q_text), (ad 7, aI G 7 q_readDeed), (ad 8, aI G 7 q_readKind), (ad 9, aI G 7 q_readFeeds)] := hD
  refine lv_iload_n hx hb dX4_readPart_20 rfl (lv_at hl 0 rfl) ?_
  refine lv_bipush (v := 80) hx hb dX4_readPart_21 (by decide) ?_
  refine lv_icmp_ne (tgt := 40) hx hb dX4_readPart_23 (by decide) (fun c2 => ?_) (fun c2 => ?_)
  · have hf := iteF hf c2
    exact hC40 (q_text (Int32.toNatClampNeg s_place)) (s_place + 1) s_readPeople q_readDeed q_readKind q_readFeeds _ _ _ hP hD hS (lv_sub hl [1, 0] rfl) hf
  · have hf := iteT hf c2
    refine lv_aload_n hx hb dX4_readPart_26 rfl (lv_at hl 1 rfl) ?_
    refine va_get (D := gD G) (ci := 4) (v := .int s_readPeople) (C := RX4) (T := TX4) (N := 29) hx hb hts hi_X4 hown hK.1 hP 0 rfl rfl 6 (by decide) kl_79 (fun _ h9 => h9) rfl dX4_readPart_27 ?_
    refine lv_bipush (v := 7) hx hb dX4_readPart_30 (by decide) ?_
    refine lv_icmp_ge (tgt := 40) hx hb dX4_readPart_32 (by decide) (fun c9 => ?_) (fun c9 => ?_)
    · have hf := iteT hf c9
      exact hC40 (q_text (Int32.toNatClampNeg s_place)) (s_place + 1) s_readPeople q_readDeed q_readKind q_readFeeds _ _ _ hP hD hS (lv_sub hl [1, 0] rfl) hf
    · have hf := iteF hf c9
      refine lv_aload_n hx hb dX4_readPart_35 rfl (lv_at hl 1 rfl) ?_
      obtain ⟨o10, hc11, hf⟩ := bindS hf
      refine rw_i (va_runV (C := RX4) (As := []) (rest := []) ⟨hx, hb, hml, hown, hts⟩ (ctX4_readPerson l G h0 ad s_thrown s_textSize (s_place + 1) s_people s_readPeople s_acts s_seen s_seed s_rowSize s_feedMany s_feedRow s_restMany s_restFirst q_text q_readDeed q_readKind q_readFeeds o10 hc11) (cwV 0 hts gX4_readPart_X4_readPerson rfl rfl rfl (by decide +kernel) ⟨Nat.le_of_ble_eq_true rfl, Nat.le_of_ble_eq_true rfl⟩) (preW_V (q0 := 0) (ci := 4) (hP.sub (ws' := [(h0, moE ad s_thrown s_textSize (s_place + 1) s_people s_readPeople s_acts s_seen s_seed s_rowSize s_feedMany s_feedRow s_restMany s_restFirst), (ad 1, aI G 48 q_text), (ad 7, aI G 7 q_readDeed), (ad 8, aI G 7 q_readKind), (ad 9, aI G 7 q_readFeeds)]) [0, 1, 2, 3, 4] rfl) (hD.sub (ws' := [(h0, moE ad s_thrown s_textSize (s_place + 1) s_people s_readPeople s_acts s_seen s_seed s_rowSize s_feedMany s_feedRow s_restMany s_restFirst), (ad 1, aI G 48 q_text), (ad 7, aI G 7 q_readDeed), (ad 8, aI G 7 q_readKind), (ad 9, aI G 7 q_readFeeds)]) [0, 1, 2, 3, 4] (by decide) rfl) hK rfl rfl) rfl rfl hl.1 rfl (lv_room (Nat.le_of_ble_eq_true rfl)) dX4_readPart_36 ⟨Nat.zero_le _, Nat.zero_le _⟩) hS hP hD [0, 1, 2, 3, 4] rfl rfl rfl (fun H locs hP hD hS => ?_)
      have hP : va_P (gD G) vwCl [(h0, moE ad s_thrown s_textSize o10.2.1 s_people o10.2.2.1 s_acts s_seen s_seed s_rowSize s_feedMany s_feedRow s_restMany s_restFirst), (ad 1, aI G 48 q_text), (ad 7, aI G 7 o10.2.2.2.1), (ad 8, aI G 7 o10.2.2.2.2.1), (ad 9, aI G 7 o10.2.2.2.2.2)] H := hP
      have hD : va_D A [(h0, moE ad s_thrown s_textSize o10.2.1 s_people o10.2.2.1 s_acts s_seen s_seed s_rowSize s_feedMany s_feedRow s_restMany s_restFirst), (ad 1, aI G 48 q_text), (ad 7, aI G 7 o10.2.2.2.1), (ad 8, aI G 7 o10.2.2.2.2.1), (ad 9, aI G 7 o10.2.2.2.2.2)] := hD
      obtain ⟨hzr, hf⟩ := zkS hf
      have hv := Option.some.inj hf
      exact hret _ _ _ _ _ (by rw [← hv]; exact hP) hS hzr (by rw [← hv]) dX4_readPart_39
def fX4_readCounty_35 (s_textSize : Int32) (q_text : Nat → Int32) : Nat → Int32 → Int32 → (Nat → Int32) → (Nat → Int32) → (Nat → Int32) → Option (Int32 × Int32 × Int32 × (Nat → Int32) × (Nat → Int32) × (Nat → Int32))
  | 0, _, _, _, _, _ => none
  | n + 1, s_place, s_readPeople, q_readDeed, q_readKind, q_readFeeds => (if s_textSize ≤ s_place then some ((-9), s_place, s_readPeople, q_readDeed, q_readKind, q_readFeeds) else (fX4_readPart s_textSize s_place s_readPeople q_text q_readDeed q_readKind q_readFeeds).bind fun o5 => ((if o5.1 = 0 then some (o5.2.1, o5.2.1, o5.2.2.1, o5.2.2.2.1, o5.2.2.2.2.1, o5.2.2.2.2.2) else (fX4_readCounty_35 s_textSize q_text n o5.2.1 o5.2.2.1 o5.2.2.2.1 o5.2.2.2.2.1 o5.2.2.2.2.2))))
def fX4_readCounty (s_textSize : Int32) (s_place : Int32) (s_readPeople : Int32) (q_text : Nat → Int32) (q_readDeed : Nat → Int32) (q_readKind : Nat → Int32) (q_readFeeds : Nat → Int32) : Option (Int32 × Int32 × Int32 × (Nat → Int32) × (Nat → Int32) × (Nat → Int32)) :=
  (if s_textSize = 0 then some (0, 0, 0, q_readDeed, q_readKind, q_readFeeds) else ck 0 48 ((if (q_text (Int32.toNatClampNeg 0)) = 65 then (fX4_readCounty_35 s_textSize q_text 50 1 0 q_readDeed q_readKind q_readFeeds) else some (0, 0, 0, q_readDeed, q_readKind, q_readFeeds))))
set_option maxHeartbeats 4000000 in
set_option maxRecDepth 100000 in
theorem ctX4_readCounty (l : Launch) (G : GG) (h0 : Nat) (ad : Nat → Nat) (s_thrown : Int32) (s_textSize : Int32) (s_place : Int32) (s_people : Int32) (s_readPeople : Int32) (s_acts : Int32) (s_seen : Int32) (s_seed : Int64) (s_rowSize : Int32) (s_feedMany : Int32) (s_feedRow : Int32) (s_restMany : Int32) (s_restFirst : Int32) (q_text : Nat → Int32) (q_readDeed : Nat → Int32) (q_readKind : Nat → Int32) (q_readFeeds : Nat → Int32) (out : Int32 × Int32 × Int32 × (Nat → Int32) × (Nat → Int32) × (Nat → Int32)) (hf : fX4_readCounty s_textSize s_place s_readPeople q_text q_readDeed q_readKind q_readFeeds = some out) : Met l yX4_readCounty wsX4_readCounty ({ frames := 4, cells := 0, slots := 0, locals := 89 }) (PcW G [.ref h0] [(h0, moE ad s_thrown s_textSize s_place s_people s_readPeople s_acts s_seen s_seed s_rowSize s_feedMany s_feedRow s_restMany s_restFirst), (ad 1, aI G 48 q_text), (ad 7, aI G 7 q_readDeed), (ad 8, aI G 7 q_readKind), (ad 9, aI G 7 q_readFeeds)]) (QiW G [(h0, moE ad s_thrown s_textSize s_place s_people s_readPeople s_acts s_seen s_seed s_rowSize s_feedMany s_feedRow s_restMany s_restFirst), (ad 1, aI G 48 q_text), (ad 7, aI G 7 q_readDeed), (ad 8, aI G 7 q_readKind), (ad 9, aI G 7 q_readFeeds)] [(h0, moE ad s_thrown s_textSize out.2.1 s_people out.2.2.1 s_acts s_seen s_seed s_rowSize s_feedMany s_feedRow s_restMany s_restFirst), (ad 1, aI G 48 q_text), (ad 7, aI G 7 out.2.2.2.1), (ad 8, aI G 7 out.2.2.2.2.1), (ad 9, aI G 7 out.2.2.2.2.2)] out.1) 0 0 (inA [(h0, moE ad s_thrown s_textSize s_place s_people s_readPeople s_acts s_seen s_seed s_rowSize s_feedMany s_feedRow s_restMany s_restFirst), (ad 1, aI G 48 q_text), (ad 7, aI G 7 q_readDeed), (ad 8, aI G 7 q_readKind), (ad 9, aI G 7 q_readFeeds)]) := by
  refine mk_Wi (cc := cX4_readCounty) (maxL := 1) (by decide) rfl (Nat.le_of_ble_eq_true rfl) ?_
  intro p e s m args below meth c Q ls A S hP hK hD hl hret
  obtain ⟨hx, hb, hml, hown, hts⟩ := S
  have hown : s.vm.findClass RX4 = some m.cls := hown
  have kl_76 := hts (.fieldLink RX4 76 "ArrestOrderModel" "place" "I") (by decide +kernel)
  have hi_X4 : ∀ w ∈ wsX40, w ∈ wsX4_readCounty := fun _ h => List.mem_cons_of_mem _ (List.mem_append_right _ h)
  have kl_79 := hts (.fieldLink RX4 79 "ArrestOrderModel" "readPeople" "I") (by decide +kernel)
  have kl_73 := hts (.fieldLink RX4 73 "ArrestOrderModel" "textSize" "I") (by decide +kernel)
  have kl_7 := hts (.fieldLink RX4 7 "ArrestOrderModel" "text" "[I") (by decide +kernel)
  have hS : va_S A s.heap s.heap [] := va_S.rf
  have hl : lv_has ls 1 [(0, .ref h0)] := hl
  have hC35 : ∀ (n : Nat) (s_place : Int32) (s_readPeople : Int32) (q_readDeed : Nat → Int32) (q_readKind : Nat → Int32) (q_readFeeds : Nat → Int32) (H : Heap) (locs : List Loc) (ls : Array Slot), va_P (gD G) vwCl [(h0, moE ad s_thrown s_textSize s_place s_people s_readPeople s_acts s_seen s_seed s_rowSize s_feedMany s_feedRow s_restMany s_restFirst), (ad 1, aI G 48 q_text), (ad 7, aI G 7 q_readDeed), (ad 8, aI G 7 q_readKind), (ad 9, aI G 7 q_readFeeds)] H → va_D A [(h0, moE ad s_thrown s_textSize s_place s_people s_readPeople s_acts s_seen s_seed s_rowSize s_feedMany s_feedRow s_restMany s_restFirst), (ad 1, aI G 48 q_text), (ad 7, aI G 7 q_readDeed), (ad 8, aI G 7 q_readKind), (ad 9, aI G 7 q_readFeeds)] → va_S A s.heap H locs → lv_has ls 1 [(0, .ref h0)] → fX4_readCounty_35 s_textSize q_text n s_place s_readPeople q_readDeed q_readKind q_readFeeds = some out → W p l e ({ frames := 4, cells := 0, slots := 0, locals := 89 }) s m args below meth c H locs 0 0 Q (F0 m 35 ls []) := by
    intro n35
    induction n35 with
    | zero => intro s_place s_readPeople q_readDeed q_readKind q_readFeeds H locs ls hP hD hS hl hf; exact absurd (show none = some out from hf) (fun z => by cases z)
    | succ n35 ih35 =>
      intro s_place s_readPeople q_readDeed q_readKind q_readFeeds H locs ls hP hD hS hl hf
      refine lv_aload_n hx hb dX4_readCounty_35 rfl (lv_at hl 0 rfl) ?_
      refine va_get (D := gD G) (ci := 4) (v := .int s_place) (C := RX4) (T := TX4) (N := 29) hx hb hts hi_X4 hown hK.1 hP 0 rfl rfl 3 (by decide) kl_76 (fun _ h9 => h9) rfl dX4_readCounty_36 ?_
      refine lv_aload_n hx hb dX4_readCounty_39 rfl (lv_at hl 0 rfl) ?_
      refine va_get (D := gD G) (ci := 4) (v := .int s_textSize) (C := RX4) (T := TX4) (N := 29) hx hb hts hi_X4 hown hK.1 hP 0 rfl rfl 2 (by decide) kl_73 (fun _ h9 => h9) rfl dX4_readCounty_40 ?_
      refine lv_icmp_ge (tgt := 58) hx hb dX4_readCounty_43 (by decide) (fun c4 => ?_) (fun c4 => ?_)
      · have hf := iteT hf c4
        refine lv_bipush (v := (-9)) hx hb dX4_readCounty_58 (by decide) ?_
        have hv := Option.some.inj hf
        exact hret _ _ _ _ _ (by rw [← hv]; exact hP) hS (by rw [← hv]) dX4_readCounty_60
      · have hf := iteF hf c4
        refine lv_aload_n hx hb dX4_readCounty_46 rfl (lv_at hl 0 rfl) ?_
        obtain ⟨o5, hc6, hf⟩ := bindS hf
        refine rw_i (va_runV (C := RX4) (As := []) (rest := []) ⟨hx, hb, hml, hown, hts⟩ (ctX4_readPart l G h0 ad s_thrown s_textSize s_place s_people s_readPeople s_acts s_seen s_seed s_rowSize s_feedMany s_feedRow s_restMany s_restFirst q_text q_readDeed q_readKind q_readFeeds o5 hc6) (cwV 0 hts gX4_readCounty_X4_readPart rfl rfl rfl (by decide +kernel) ⟨Nat.le_of_ble_eq_true rfl, Nat.le_of_ble_eq_true rfl⟩) (preW_V (q0 := 0) (ci := 4) (hP.sub (ws' := [(h0, moE ad s_thrown s_textSize s_place s_people s_readPeople s_acts s_seen s_seed s_rowSize s_feedMany s_feedRow s_restMany s_restFirst), (ad 1, aI G 48 q_text), (ad 7, aI G 7 q_readDeed), (ad 8, aI G 7 q_readKind), (ad 9, aI G 7 q_readFeeds)]) [0, 1, 2, 3, 4] rfl) (hD.sub (ws' := [(h0, moE ad s_thrown s_textSize s_place s_people s_readPeople s_acts s_seen s_seed s_rowSize s_feedMany s_feedRow s_restMany s_restFirst), (ad 1, aI G 48 q_text), (ad 7, aI G 7 q_readDeed), (ad 8, aI G 7 q_readKind), (ad 9, aI G 7 q_readFeeds)]) [0, 1, 2, 3, 4] (by decide) rfl) hK rfl rfl) rfl rfl hl.1 rfl (lv_room (Nat.le_of_ble_eq_true rfl)) dX4_readCounty_47 ⟨Nat.zero_le _, Nat.zero_le _⟩) hS hP hD [0, 1, 2, 3, 4] rfl rfl rfl (fun H locs hP hD hS => ?_)
        have hP : va_P (gD G) vwCl [(h0, moE ad s_thrown s_textSize o5.2.1 s_people o5.2.2.1 s_acts s_seen s_seed s_rowSize s_feedMany s_feedRow s_restMany s_restFirst), (ad 1, aI G 48 q_text), (ad 7, aI G 7 o5.2.2.2.1), (ad 8, aI G 7 o5.2.2.2.2.1), (ad 9, aI G 7 o5.2.2.2.2.2)] H := hP
        have hD : va_D A [(h0, moE ad s_thrown s_textSize o5.2.1 s_people o5.2.2.1 s_acts s_seen s_seed s_rowSize s_feedMany s_feedRow s_restMany s_restFirst), (ad 1, aI G 48 q_text), (ad 7, aI G 7 o5.2.2.2.1), (ad 8, aI G 7 o5.2.2.2.2.1), (ad 9, aI G 7 o5.2.2.2.2.2)] := hD
        refine lv_if_ne (tgt := 35) hx hb dX4_readCounty_50 (by decide) (fun c7 => ?_) (fun c7 => ?_)
        · have hf := iteF hf c7
          exact ih35 o5.2.1 o5.2.2.1 o5.2.2.2.1 o5.2.2.2.2.1 o5.2.2.2.2.2 _ _ _ hP hD hS (lv_sub hl [0] rfl) hf
        · have hf := iteT hf c7
          refine lv_aload_n hx hb dX4_readCounty_53 rfl (lv_at hl 0 rfl) ?_
          refine va_get (D := gD G) (ci := 4) (v := .int o5.2.1) (C := RX4) (T := TX4) (N := 29) hx hb hts hi_X4 hown hK.1 hP 0 rfl rfl 3 (by decide) kl_76 (fun _ h9 => h9) rfl dX4_readCounty_54 ?_
          have hv := Option.some.inj hf
          exact hret _ _ _ _ _ (by rw [← hv]; exact hP) hS (by rw [← hv]) dX4_readCounty_57
  refine lv_aload_n hx hb dX4_readCounty_0 rfl (lv_at hl 0 rfl) ?_
  refine lv_iconst (v := 0) hx hb dX4_readCounty_1 (by decide) ?_
  refine va_put (D := gD G) (ci := 4) (v := .int 0) (ty := .int) (C := RX4) (T := TX4) (N := 29) hx hb hts hi_X4 tyX4 tyX4_ok nmX4 hown hK.1 hP hD hS 0 rfl rfl 3 (by decide) kl_76 (fun _ h9 => h9) rfl (tyX4_ok 3 (by decide)) rfl rfl (Nat.le_of_ble_eq_true rfl) dX4_readCounty_2 (fun H locs hP hD hS => ?_)
  have hP : va_P (gD G) vwCl [(h0, moE ad s_thrown s_textSize 0 s_people s_readPeople s_acts s_seen s_seed s_rowSize s_feedMany s_feedRow s_restMany s_restFirst), (ad 1, aI G 48 q_text), (ad 7, aI G 7 q_readDeed), (ad 8, aI G 7 q_readKind), (ad 9, aI G 7 q_readFeeds)] H := hP
  have hD : va_D A [(h0, moE ad s_thrown s_textSize 0 s_people s_readPeople s_acts s_seen s_seed s_rowSize s_feedMany s_feedRow s_restMany s_restFirst), (ad 1, aI G 48 q_text), (ad 7, aI G 7 q_readDeed), (ad 8, aI G 7 q_readKind), (ad 9, aI G 7 q_readFeeds)] := hD
  refine lv_aload_n hx hb dX4_readCounty_5 rfl (lv_at hl 0 rfl) ?_
  refine lv_iconst (v := 0) hx hb dX4_readCounty_6 (by decide) ?_
  refine va_put (D := gD G) (ci := 4) (v := .int 0) (ty := .int) (C := RX4) (T := TX4) (N := 29) hx hb hts hi_X4 tyX4 tyX4_ok nmX4 hown hK.1 hP hD hS 0 rfl rfl 6 (by decide) kl_79 (fun _ h9 => h9) rfl (tyX4_ok 6 (by decide)) rfl rfl (Nat.le_of_ble_eq_true rfl) dX4_readCounty_7 (fun H locs hP hD hS => ?_)
  have hP : va_P (gD G) vwCl [(h0, moE ad s_thrown s_textSize 0 s_people 0 s_acts s_seen s_seed s_rowSize s_feedMany s_feedRow s_restMany s_restFirst), (ad 1, aI G 48 q_text), (ad 7, aI G 7 q_readDeed), (ad 8, aI G 7 q_readKind), (ad 9, aI G 7 q_readFeeds)] H := hP
  have hD : va_D A [(h0, moE ad s_thrown s_textSize 0 s_people 0 s_acts s_seen s_seed s_rowSize s_feedMany s_feedRow s_restMany s_restFirst), (ad 1, aI G 48 q_text), (ad 7, aI G 7 q_readDeed), (ad 8, aI G 7 q_readKind), (ad 9, aI G 7 q_readFeeds)] := hD
  refine lv_aload_n hx hb dX4_readCounty_10 rfl (lv_at hl 0 rfl) ?_
  refine va_get (D := gD G) (ci := 4) (v := .int s_textSize) (C := RX4) (T := TX4) (N := 29) hx hb hts hi_X4 hown hK.1 hP 0 rfl rfl 2 (by decide) kl_73 (fun _ h9 => h9) rfl dX4_readCounty_11 ?_
  refine lv_if_eq (tgt := 28) hx hb dX4_readCounty_14 (by decide) (fun c1 => ?_) (fun c1 => ?_)
  · have hf := iteT hf c1
    refine lv_iconst (v := 0) hx hb dX4_readCounty_28 (by decide) ?_
    have hv := Option.some.inj hf
    exact hret _ _ _ _ _ (by rw [← hv]; exact hP) hS (by rw [← hv]) dX4_readCounty_29
  · have hf := iteF hf c1
    refine lv_aload_n hx hb dX4_readCounty_17 rfl (lv_at hl 0 rfl) ?_
    refine va_get (D := gD G) (ci := 4) (v := .ref (ad 1)) (C := RX4) (T := TX4) (N := 29) hx hb hts hi_X4 hown hK.1 hP 0 rfl rfl 1 (by decide) kl_7 (fun _ h9 => h9) rfl dX4_readCounty_18 ?_
    refine lv_iconst (v := 0) hx hb dX4_readCounty_21 (by decide) ?_
    obtain ⟨hi2, hf⟩ := ckS hf
    refine va_iald hx hb hK.1 hP 1 0 rfl rfl hi2 dX4_readCounty_22 ?_
    refine lv_bipush (v := 65) hx hb dX4_readCounty_23 (by decide) ?_
    refine lv_icmp_eq (tgt := 30) hx hb dX4_readCounty_25 (by decide) (fun c3 => ?_) (fun c3 => ?_)
    · have hf := iteT hf c3
      refine lv_aload_n hx hb dX4_readCounty_30 rfl (lv_at hl 0 rfl) ?_
      refine lv_iconst (v := 1) hx hb dX4_readCounty_31 (by decide) ?_
      refine va_put (D := gD G) (ci := 4) (v := .int 1) (ty := .int) (C := RX4) (T := TX4) (N := 29) hx hb hts hi_X4 tyX4 tyX4_ok nmX4 hown hK.1 hP hD hS 0 rfl rfl 3 (by decide) kl_76 (fun _ h9 => h9) rfl (tyX4_ok 3 (by decide)) rfl rfl (Nat.le_of_ble_eq_true rfl) dX4_readCounty_32 (fun H locs hP hD hS => ?_)
      have hP : va_P (gD G) vwCl [(h0, moE ad s_thrown s_textSize 1 s_people 0 s_acts s_seen s_seed s_rowSize s_feedMany s_feedRow s_restMany s_restFirst), (ad 1, aI G 48 q_text), (ad 7, aI G 7 q_readDeed), (ad 8, aI G 7 q_readKind), (ad 9, aI G 7 q_readFeeds)] H := hP
      have hD : va_D A [(h0, moE ad s_thrown s_textSize 1 s_people 0 s_acts s_seen s_seed s_rowSize s_feedMany s_feedRow s_restMany s_restFirst), (ad 1, aI G 48 q_text), (ad 7, aI G 7 q_readDeed), (ad 8, aI G 7 q_readKind), (ad 9, aI G 7 q_readFeeds)] := hD
      exact hC35 50 1 0 q_readDeed q_readKind q_readFeeds _ _ _ hP hD hS (lv_sub hl [0] rfl) hf
    · have hf := iteF hf c3
      refine lv_iconst (v := 0) hx hb dX4_readCounty_28 (by decide) ?_
      have hv := Option.some.inj hf
      exact hret _ _ _ _ _ (by rw [← hv]; exact hP) hS (by rw [← hv]) dX4_readCounty_29
def fX4_fault (s_thrown : Int32) (s_textSize : Int32) (s_place : Int32) (s_readPeople : Int32) (q_text : Nat → Int32) (q_readDeed : Nat → Int32) (q_readKind : Nat → Int32) (q_readFeeds : Nat → Int32) : Option (Int32 × Int32 × Int32 × Int32 × (Nat → Int32) × (Nat → Int32) × (Nat → Int32)) :=
  (fX4_readCounty s_textSize s_place s_readPeople q_text q_readDeed q_readKind q_readFeeds).bind fun o1 => (some (o1.1, 0, o1.2.1, o1.2.2.1, o1.2.2.2.1, o1.2.2.2.2.1, o1.2.2.2.2.2))
set_option maxHeartbeats 4000000 in
set_option maxRecDepth 100000 in
theorem ctX4_fault (l : Launch) (G : GG) (h0 : Nat) (ad : Nat → Nat) (s_thrown : Int32) (s_textSize : Int32) (s_place : Int32) (s_people : Int32) (s_readPeople : Int32) (s_acts : Int32) (s_seen : Int32) (s_seed : Int64) (s_rowSize : Int32) (s_feedMany : Int32) (s_feedRow : Int32) (s_restMany : Int32) (s_restFirst : Int32) (q_text : Nat → Int32) (q_readDeed : Nat → Int32) (q_readKind : Nat → Int32) (q_readFeeds : Nat → Int32) (out : Int32 × Int32 × Int32 × Int32 × (Nat → Int32) × (Nat → Int32) × (Nat → Int32)) (hf : fX4_fault s_thrown s_textSize s_place s_readPeople q_text q_readDeed q_readKind q_readFeeds = some out) : Met l yX4_fault wsX4_fault ({ frames := 5, cells := 0, slots := 0, locals := 109 }) (PcW G [.ref h0] [(h0, moE ad s_thrown s_textSize s_place s_people s_readPeople s_acts s_seen s_seed s_rowSize s_feedMany s_feedRow s_restMany s_restFirst), (ad 1, aI G 48 q_text), (ad 7, aI G 7 q_readDeed), (ad 8, aI G 7 q_readKind), (ad 9, aI G 7 q_readFeeds)]) (QiW G [(h0, moE ad s_thrown s_textSize s_place s_people s_readPeople s_acts s_seen s_seed s_rowSize s_feedMany s_feedRow s_restMany s_restFirst), (ad 1, aI G 48 q_text), (ad 7, aI G 7 q_readDeed), (ad 8, aI G 7 q_readKind), (ad 9, aI G 7 q_readFeeds)] [(h0, moE ad out.2.1 s_textSize out.2.2.1 s_people out.2.2.2.1 s_acts s_seen s_seed s_rowSize s_feedMany s_feedRow s_restMany s_restFirst), (ad 1, aI G 48 q_text), (ad 7, aI G 7 out.2.2.2.2.1), (ad 8, aI G 7 out.2.2.2.2.2.1), (ad 9, aI G 7 out.2.2.2.2.2.2)] out.1) 0 0 (inA [(h0, moE ad s_thrown s_textSize s_place s_people s_readPeople s_acts s_seen s_seed s_rowSize s_feedMany s_feedRow s_restMany s_restFirst), (ad 1, aI G 48 q_text), (ad 7, aI G 7 q_readDeed), (ad 8, aI G 7 q_readKind), (ad 9, aI G 7 q_readFeeds)]) := by
  refine mk_Wi (cc := cX4_fault) (maxL := 1) (by decide) rfl (Nat.le_of_ble_eq_true rfl) ?_
  intro p e s m args below meth c Q ls A S hP hK hD hl hret
  obtain ⟨hx, hb, hml, hown, hts⟩ := S
  have hown : s.vm.findClass RX4 = some m.cls := hown
  have kl_60 := hts (.fieldLink RX4 60 "ArrestOrderModel" "thrown" "I") (by decide +kernel)
  have hi_X4 : ∀ w ∈ wsX40, w ∈ wsX4_fault := fun _ h => List.mem_cons_of_mem _ (List.mem_append_right _ h)
  have hS : va_S A s.heap s.heap [] := va_S.rf
  have hl : lv_has ls 1 [(0, .ref h0)] := hl
  refine lv_aload_n hx hb dX4_fault_0 rfl (lv_at hl 0 rfl) ?_
  refine lv_iconst (v := 0) hx hb dX4_fault_1 (by decide) ?_
  refine va_put (D := gD G) (ci := 4) (v := .int 0) (ty := .int) (C := RX4) (T := TX4) (N := 29) hx hb hts hi_X4 tyX4 tyX4_ok nmX4 hown hK.1 hP hD hS 0 rfl rfl 0 (by decide) kl_60 (fun _ h9 => h9) rfl (tyX4_ok 0 (by decide)) rfl rfl (Nat.le_of_ble_eq_true rfl) dX4_fault_2 (fun H locs hP hD hS => ?_)
  have hP : va_P (gD G) vwCl [(h0, moE ad 0 s_textSize s_place s_people s_readPeople s_acts s_seen s_seed s_rowSize s_feedMany s_feedRow s_restMany s_restFirst), (ad 1, aI G 48 q_text), (ad 7, aI G 7 q_readDeed), (ad 8, aI G 7 q_readKind), (ad 9, aI G 7 q_readFeeds)] H := hP
  have hD : va_D A [(h0, moE ad 0 s_textSize s_place s_people s_readPeople s_acts s_seen s_seed s_rowSize s_feedMany s_feedRow s_restMany s_restFirst), (ad 1, aI G 48 q_text), (ad 7, aI G 7 q_readDeed), (ad 8, aI G 7 q_readKind), (ad 9, aI G 7 q_readFeeds)] := hD
  refine lv_aload_n hx hb dX4_fault_5 rfl (lv_at hl 0 rfl) ?_
  obtain ⟨o1, hc2, hf⟩ := bindS hf
  refine rw_i (va_runV (C := RX4) (As := []) (rest := []) ⟨hx, hb, hml, hown, hts⟩ (ctX4_readCounty l G h0 ad 0 s_textSize s_place s_people s_readPeople s_acts s_seen s_seed s_rowSize s_feedMany s_feedRow s_restMany s_restFirst q_text q_readDeed q_readKind q_readFeeds o1 hc2) (cwV 0 hts gX4_fault_X4_readCounty rfl rfl rfl (by decide +kernel) ⟨Nat.le_of_ble_eq_true rfl, Nat.le_of_ble_eq_true rfl⟩) (preW_V (q0 := 0) (ci := 4) (hP.sub (ws' := [(h0, moE ad 0 s_textSize s_place s_people s_readPeople s_acts s_seen s_seed s_rowSize s_feedMany s_feedRow s_restMany s_restFirst), (ad 1, aI G 48 q_text), (ad 7, aI G 7 q_readDeed), (ad 8, aI G 7 q_readKind), (ad 9, aI G 7 q_readFeeds)]) [0, 1, 2, 3, 4] rfl) (hD.sub (ws' := [(h0, moE ad 0 s_textSize s_place s_people s_readPeople s_acts s_seen s_seed s_rowSize s_feedMany s_feedRow s_restMany s_restFirst), (ad 1, aI G 48 q_text), (ad 7, aI G 7 q_readDeed), (ad 8, aI G 7 q_readKind), (ad 9, aI G 7 q_readFeeds)]) [0, 1, 2, 3, 4] (by decide) rfl) hK rfl rfl) rfl rfl hl.1 rfl (lv_room (Nat.le_of_ble_eq_true rfl)) dX4_fault_6 ⟨Nat.zero_le _, Nat.zero_le _⟩) hS hP hD [0, 1, 2, 3, 4] rfl rfl rfl (fun H locs hP hD hS => ?_)
  have hP : va_P (gD G) vwCl [(h0, moE ad 0 s_textSize o1.2.1 s_people o1.2.2.1 s_acts s_seen s_seed s_rowSize s_feedMany s_feedRow s_restMany s_restFirst), (ad 1, aI G 48 q_text), (ad 7, aI G 7 o1.2.2.2.1), (ad 8, aI G 7 o1.2.2.2.2.1), (ad 9, aI G 7 o1.2.2.2.2.2)] H := hP
  have hD : va_D A [(h0, moE ad 0 s_textSize o1.2.1 s_people o1.2.2.1 s_acts s_seen s_seed s_rowSize s_feedMany s_feedRow s_restMany s_restFirst), (ad 1, aI G 48 q_text), (ad 7, aI G 7 o1.2.2.2.1), (ad 8, aI G 7 o1.2.2.2.2.1), (ad 9, aI G 7 o1.2.2.2.2.2)] := hD
  have hv := Option.some.inj hf
  exact hret _ _ _ _ _ (by rw [← hv]; exact hP) hS (by rw [← hv]) dX4_fault_9
def fX4_county_48 : Nat → Int32 → Int32 → Int32 → Int32 → Int32 → Int32 → (Nat → Int32) → (Nat → Int32) → (Nat → Int32) → (Nat → Int32) → (Nat → Int32) → (Nat → Int32) → Option (Int32 × Int32 × Int32 × Int32 × Int32 × Int32 × (Nat → Int32) × (Nat → Int32) × (Nat → Int32) × (Nat → Int32) × (Nat → Int32) × (Nat → Int32))
  | 0, _, _, _, _, _, _, _, _, _, _, _, _ => none
  | n + 1, x1, s_thrown, s_place, s_people, s_readPeople, s_acts, q_kind, q_readDeed, q_readKind, q_readFeeds, q_page, q_isKept => (if s_people ≤ x1 then ck 14 17 (ck 0 2 (ck 1 2 (some (s_people, s_thrown, s_place, s_people, s_readPeople, 0, q_kind, q_readDeed, q_readKind, q_readFeeds, (upd q_page (Int32.toNatClampNeg 14) (((1 : Int32) <<< (s_people &&& 31)) - 1)), (upd (upd q_isKept (Int32.toNatClampNeg 0) (vp_nar .boolean 0)) (Int32.toNatClampNeg 1) (vp_nar .boolean 0)))))) else ck x1 7 (ck x1 7 (ck x1 7 (ck (0 + x1) 17 (ck x1 7 (ck (7 + x1) 17 ((fX4_county_48 n (x1 + 1) s_thrown s_place s_people s_readPeople s_acts (upd q_kind (Int32.toNatClampNeg x1) (q_readKind (Int32.toNatClampNeg x1))) q_readDeed q_readKind q_readFeeds (upd (upd q_page (Int32.toNatClampNeg (0 + x1)) (q_readDeed (Int32.toNatClampNeg x1))) (Int32.toNatClampNeg (7 + x1)) (q_readFeeds (Int32.toNatClampNeg x1))) q_isKept))))))))
def fX4_county_27 : Nat → Int32 → Int32 → Int32 → Int32 → Int32 → Int32 → (Nat → Int32) → (Nat → Int32) → (Nat → Int32) → (Nat → Int32) → (Nat → Int32) → (Nat → Int32) → Option (Int32 × Int32 × Int32 × Int32 × Int32 × Int32 × (Nat → Int32) × (Nat → Int32) × (Nat → Int32) × (Nat → Int32) × (Nat → Int32) × (Nat → Int32))
  | 0, _, _, _, _, _, _, _, _, _, _, _, _ => none
  | n + 1, x1, s_thrown, s_place, s_people, s_readPeople, s_acts, q_kind, q_readDeed, q_readKind, q_readFeeds, q_page, q_isKept => (if 17 ≤ x1 then (fX4_county_48 20 0 s_thrown s_place s_people s_readPeople s_acts q_kind q_readDeed q_readKind q_readFeeds q_page q_isKept) else ck x1 17 ((fX4_county_27 n (x1 + 1) s_thrown s_place s_people s_readPeople s_acts q_kind q_readDeed q_readKind q_readFeeds (upd q_page (Int32.toNatClampNeg x1) 0) q_isKept)))
def fX4_county (s_thrown : Int32) (s_textSize : Int32) (s_place : Int32) (s_people : Int32) (s_readPeople : Int32) (s_acts : Int32) (q_text : Nat → Int32) (q_kind : Nat → Int32) (q_readDeed : Nat → Int32) (q_readKind : Nat → Int32) (q_readFeeds : Nat → Int32) (q_page : Nat → Int32) (q_isKept : Nat → Int32) : Option (Int32 × Int32 × Int32 × Int32 × Int32 × Int32 × (Nat → Int32) × (Nat → Int32) × (Nat → Int32) × (Nat → Int32) × (Nat → Int32) × (Nat → Int32)) :=
  (fX4_readCounty s_textSize s_place s_readPeople q_text q_readDeed q_readKind q_readFeeds).bind fun o1 => ((if o1.1 = (-9) then (fX4_county_27 20 0 0 o1.2.1 o1.2.2.1 o1.2.2.1 s_acts q_kind o1.2.2.2.1 o1.2.2.2.2.1 o1.2.2.2.2.2 q_page q_isKept) else some ((-3), 0, o1.2.1, s_people, o1.2.2.1, s_acts, q_kind, o1.2.2.2.1, o1.2.2.2.2.1, o1.2.2.2.2.2, q_page, q_isKept)))
set_option maxHeartbeats 4000000 in
set_option maxRecDepth 100000 in
theorem ctX4_county (l : Launch) (G : GG) (h0 : Nat) (ad : Nat → Nat) (s_thrown : Int32) (s_textSize : Int32) (s_place : Int32) (s_people : Int32) (s_readPeople : Int32) (s_acts : Int32) (s_seen : Int32) (s_seed : Int64) (s_rowSize : Int32) (s_feedMany : Int32) (s_feedRow : Int32) (s_restMany : Int32) (s_restFirst : Int32) (q_text : Nat → Int32) (q_kind : Nat → Int32) (q_readDeed : Nat → Int32) (q_readKind : Nat → Int32) (q_readFeeds : Nat → Int32) (q_page : Nat → Int32) (q_isKept : Nat → Int32) (out : Int32 × Int32 × Int32 × Int32 × Int32 × Int32 × (Nat → Int32) × (Nat → Int32) × (Nat → Int32) × (Nat → Int32) × (Nat → Int32) × (Nat → Int32)) (hf : fX4_county s_thrown s_textSize s_place s_people s_readPeople s_acts q_text q_kind q_readDeed q_readKind q_readFeeds q_page q_isKept = some out) : Met l yX4_county wsX4_county ({ frames := 5, cells := 0, slots := 0, locals := 109 }) (PcW G [.ref h0] [(h0, moE ad s_thrown s_textSize s_place s_people s_readPeople s_acts s_seen s_seed s_rowSize s_feedMany s_feedRow s_restMany s_restFirst), (ad 1, aI G 48 q_text), (ad 5, aI G 7 q_kind), (ad 7, aI G 7 q_readDeed), (ad 8, aI G 7 q_readKind), (ad 9, aI G 7 q_readFeeds), (ad 10, aI G 17 q_page), (ad 15, aZ G 2 q_isKept)]) (QiW G [(h0, moE ad s_thrown s_textSize s_place s_people s_readPeople s_acts s_seen s_seed s_rowSize s_feedMany s_feedRow s_restMany s_restFirst), (ad 1, aI G 48 q_text), (ad 5, aI G 7 q_kind), (ad 7, aI G 7 q_readDeed), (ad 8, aI G 7 q_readKind), (ad 9, aI G 7 q_readFeeds), (ad 10, aI G 17 q_page), (ad 15, aZ G 2 q_isKept)] [(h0, moE ad out.2.1 s_textSize out.2.2.1 out.2.2.2.1 out.2.2.2.2.1 out.2.2.2.2.2.1 s_seen s_seed s_rowSize s_feedMany s_feedRow s_restMany s_restFirst), (ad 1, aI G 48 q_text), (ad 5, aI G 7 out.2.2.2.2.2.2.1), (ad 7, aI G 7 out.2.2.2.2.2.2.2.1), (ad 8, aI G 7 out.2.2.2.2.2.2.2.2.1), (ad 9, aI G 7 out.2.2.2.2.2.2.2.2.2.1), (ad 10, aI G 17 out.2.2.2.2.2.2.2.2.2.2.1), (ad 15, aZ G 2 out.2.2.2.2.2.2.2.2.2.2.2)] out.1) 0 0 (inA [(h0, moE ad s_thrown s_textSize s_place s_people s_readPeople s_acts s_seen s_seed s_rowSize s_feedMany s_feedRow s_restMany s_restFirst), (ad 1, aI G 48 q_text), (ad 5, aI G 7 q_kind), (ad 7, aI G 7 q_readDeed), (ad 8, aI G 7 q_readKind), (ad 9, aI G 7 q_readFeeds), (ad 10, aI G 17 q_page), (ad 15, aZ G 2 q_isKept)]) := by
  refine mk_Wi (cc := cX4_county) (maxL := 2) (by decide) rfl (Nat.le_of_ble_eq_true rfl) ?_
  intro p e s m args below meth c Q ls A S hP hK hD hl hret
  obtain ⟨hx, hb, hml, hown, hts⟩ := S
  have hown : s.vm.findClass RX4 = some m.cls := hown
  have kl_60 := hts (.fieldLink RX4 60 "ArrestOrderModel" "thrown" "I") (by decide +kernel)
  have hi_X4 : ∀ w ∈ wsX40, w ∈ wsX4_county := fun _ h => List.mem_cons_of_mem _ (List.mem_append_right _ h)
  have kl_79 := hts (.fieldLink RX4 79 "ArrestOrderModel" "readPeople" "I") (by decide +kernel)
  have kl_64 := hts (.fieldLink RX4 64 "ArrestOrderModel" "people" "I") (by decide +kernel)
  have kl_25 := hts (.fieldLink RX4 25 "ArrestOrderModel" "page" "[I") (by decide +kernel)
  have kl_110 := hts (.fieldLink RX4 110 "ArrestOrderModel" "acts" "I") (by decide +kernel)
  have kl_37 := hts (.fieldLink RX4 37 "ArrestOrderModel" "isKept" "[Z") (by decide +kernel)
  have kl_13 := hts (.fieldLink RX4 13 "ArrestOrderModel" "kind" "[I") (by decide +kernel)
  have kl_19 := hts (.fieldLink RX4 19 "ArrestOrderModel" "readKind" "[I") (by decide +kernel)
  have kl_16 := hts (.fieldLink RX4 16 "ArrestOrderModel" "readDeed" "[I") (by decide +kernel)
  have kl_22 := hts (.fieldLink RX4 22 "ArrestOrderModel" "readFeeds" "[I") (by decide +kernel)
  have hS : va_S A s.heap s.heap [] := va_S.rf
  have hl : lv_has ls 2 [(0, .ref h0)] := hl
  have hC48 : ∀ (n : Nat) (x1 : Int32) (s_thrown : Int32) (s_place : Int32) (s_people : Int32) (s_readPeople : Int32) (s_acts : Int32) (q_kind : Nat → Int32) (q_readDeed : Nat → Int32) (q_readKind : Nat → Int32) (q_readFeeds : Nat → Int32) (q_page : Nat → Int32) (q_isKept : Nat → Int32) (H : Heap) (locs : List Loc) (ls : Array Slot), va_P (gD G) vwCl [(h0, moE ad s_thrown s_textSize s_place s_people s_readPeople s_acts s_seen s_seed s_rowSize s_feedMany s_feedRow s_restMany s_restFirst), (ad 1, aI G 48 q_text), (ad 5, aI G 7 q_kind), (ad 7, aI G 7 q_readDeed), (ad 8, aI G 7 q_readKind), (ad 9, aI G 7 q_readFeeds), (ad 10, aI G 17 q_page), (ad 15, aZ G 2 q_isKept)] H → va_D A [(h0, moE ad s_thrown s_textSize s_place s_people s_readPeople s_acts s_seen s_seed s_rowSize s_feedMany s_feedRow s_restMany s_restFirst), (ad 1, aI G 48 q_text), (ad 5, aI G 7 q_kind), (ad 7, aI G 7 q_readDeed), (ad 8, aI G 7 q_readKind), (ad 9, aI G 7 q_readFeeds), (ad 10, aI G 17 q_page), (ad 15, aZ G 2 q_isKept)] → va_S A s.heap H locs → lv_has ls 2 [(0, .ref h0), (1, .int x1)] → fX4_county_48 n x1 s_thrown s_place s_people s_readPeople s_acts q_kind q_readDeed q_readKind q_readFeeds q_page q_isKept = some out → W p l e ({ frames := 5, cells := 0, slots := 0, locals := 109 }) s m args below meth c H locs 0 0 Q (F0 m 48 ls []) := by
    intro n48
    induction n48 with
    | zero => intro x1 s_thrown s_place s_people s_readPeople s_acts q_kind q_readDeed q_readKind q_readFeeds q_page q_isKept H locs ls hP hD hS hl hf; exact absurd (show none = some out from hf) (fun z => by cases z)
    | succ n48 ih48 =>
      intro x1 s_thrown s_place s_people s_readPeople s_acts q_kind q_readDeed q_readKind q_readFeeds q_page q_isKept H locs ls hP hD hS hl hf
      refine lv_iload_n hx hb dX4_county_48 rfl (lv_at hl 1 rfl) ?_
      refine lv_aload_n hx hb dX4_county_49 rfl (lv_at hl 0 rfl) ?_
      refine va_get (D := gD G) (ci := 4) (v := .int s_people) (C := RX4) (T := TX4) (N := 29) hx hb hts hi_X4 hown hK.1 hP 0 rfl rfl 4 (by decide) kl_64 (fun _ h9 => h9) rfl dX4_county_50 ?_
      refine lv_icmp_ge (tgt := 103) hx hb dX4_county_53 (by decide) (fun c5 => ?_) (fun c5 => ?_)
      · have hf := iteT hf c5
        refine lv_aload_n hx hb dX4_county_103 rfl (lv_at hl 0 rfl) ?_
        refine va_get (D := gD G) (ci := 4) (v := .ref (ad 10)) (C := RX4) (T := TX4) (N := 29) hx hb hts hi_X4 hown hK.1 hP 0 rfl rfl 10 (by decide) kl_25 (fun _ h9 => h9) rfl dX4_county_104 ?_
        refine lv_bipush (v := 14) hx hb dX4_county_107 (by decide) ?_
        refine lv_iconst (v := 1) hx hb dX4_county_109 (by decide) ?_
        refine lv_aload_n hx hb dX4_county_110 rfl (lv_at hl 0 rfl) ?_
        refine va_get (D := gD G) (ci := 4) (v := .int s_people) (C := RX4) (T := TX4) (N := 29) hx hb hts hi_X4 hown hK.1 hP 0 rfl rfl 4 (by decide) kl_64 (fun _ h9 => h9) rfl dX4_county_111 ?_
        refine lv_ishl hx hb dX4_county_114 ?_
        refine lv_iconst (v := 1) hx hb dX4_county_115 (by decide) ?_
        refine lv_isub hx hb dX4_county_116 ?_
        obtain ⟨hi6, hf⟩ := ckS hf
        refine va_iast hx hb hK.1 hP hD hS 6 0 rfl rfl hi6 dX4_county_117 (fun H locs hP hD hS => ?_)
        have hP : va_P (gD G) vwCl [(h0, moE ad s_thrown s_textSize s_place s_people s_readPeople s_acts s_seen s_seed s_rowSize s_feedMany s_feedRow s_restMany s_restFirst), (ad 1, aI G 48 q_text), (ad 5, aI G 7 q_kind), (ad 7, aI G 7 q_readDeed), (ad 8, aI G 7 q_readKind), (ad 9, aI G 7 q_readFeeds), (ad 10, aI G 17 (upd q_page (Int32.toNatClampNeg 14) (((1 : Int32) <<< (s_people &&& 31)) - 1))), (ad 15, aZ G 2 q_isKept)] H := hP
        have hD : va_D A [(h0, moE ad s_thrown s_textSize s_place s_people s_readPeople s_acts s_seen s_seed s_rowSize s_feedMany s_feedRow s_restMany s_restFirst), (ad 1, aI G 48 q_text), (ad 5, aI G 7 q_kind), (ad 7, aI G 7 q_readDeed), (ad 8, aI G 7 q_readKind), (ad 9, aI G 7 q_readFeeds), (ad 10, aI G 17 (upd q_page (Int32.toNatClampNeg 14) (((1 : Int32) <<< (s_people &&& 31)) - 1))), (ad 15, aZ G 2 q_isKept)] := hD
        refine lv_aload_n hx hb dX4_county_118 rfl (lv_at hl 0 rfl) ?_
        refine lv_iconst (v := 0) hx hb dX4_county_119 (by decide) ?_
        refine va_put (D := gD G) (ci := 4) (v := .int 0) (ty := .int) (C := RX4) (T := TX4) (N := 29) hx hb hts hi_X4 tyX4 tyX4_ok nmX4 hown hK.1 hP hD hS 0 rfl rfl 13 (by decide) kl_110 (fun _ h9 => h9) rfl (tyX4_ok 13 (by decide)) rfl rfl (Nat.le_of_ble_eq_true rfl) dX4_county_120 (fun H locs hP hD hS => ?_)
        have hP : va_P (gD G) vwCl [(h0, moE ad s_thrown s_textSize s_place s_people s_readPeople 0 s_seen s_seed s_rowSize s_feedMany s_feedRow s_restMany s_restFirst), (ad 1, aI G 48 q_text), (ad 5, aI G 7 q_kind), (ad 7, aI G 7 q_readDeed), (ad 8, aI G 7 q_readKind), (ad 9, aI G 7 q_readFeeds), (ad 10, aI G 17 (upd q_page (Int32.toNatClampNeg 14) (((1 : Int32) <<< (s_people &&& 31)) - 1))), (ad 15, aZ G 2 q_isKept)] H := hP
        have hD : va_D A [(h0, moE ad s_thrown s_textSize s_place s_people s_readPeople 0 s_seen s_seed s_rowSize s_feedMany s_feedRow s_restMany s_restFirst), (ad 1, aI G 48 q_text), (ad 5, aI G 7 q_kind), (ad 7, aI G 7 q_readDeed), (ad 8, aI G 7 q_readKind), (ad 9, aI G 7 q_readFeeds), (ad 10, aI G 17 (upd q_page (Int32.toNatClampNeg 14) (((1 : Int32) <<< (s_people &&& 31)) - 1))), (ad 15, aZ G 2 q_isKept)] := hD
        refine lv_aload_n hx hb dX4_county_123 rfl (lv_at hl 0 rfl) ?_
        refine va_get (D := gD G) (ci := 4) (v := .ref (ad 15)) (C := RX4) (T := TX4) (N := 29) hx hb hts hi_X4 hown hK.1 hP 0 rfl rfl 15 (by decide) kl_37 (fun _ h9 => h9) rfl dX4_county_124 ?_
        refine lv_iconst (v := 0) hx hb dX4_county_127 (by decide) ?_
        refine lv_iconst (v := 0) hx hb dX4_county_128 (by decide) ?_
        obtain ⟨hi7, hf⟩ := ckS hf
        refine va_zast hx hb hK.1 hP hD hS 7 2 rfl rfl hi7 dX4_county_129 (fun H locs hP hD hS => ?_)
        have hP : va_P (gD G) vwCl [(h0, moE ad s_thrown s_textSize s_place s_people s_readPeople 0 s_seen s_seed s_rowSize s_feedMany s_feedRow s_restMany s_restFirst), (ad 1, aI G 48 q_text), (ad 5, aI G 7 q_kind), (ad 7, aI G 7 q_readDeed), (ad 8, aI G 7 q_readKind), (ad 9, aI G 7 q_readFeeds), (ad 10, aI G 17 (upd q_page (Int32.toNatClampNeg 14) (((1 : Int32) <<< (s_people &&& 31)) - 1))), (ad 15, aZ G 2 (upd q_isKept (Int32.toNatClampNeg 0) (vp_nar .boolean 0)))] H := hP
        have hD : va_D A [(h0, moE ad s_thrown s_textSize s_place s_people s_readPeople 0 s_seen s_seed s_rowSize s_feedMany s_feedRow s_restMany s_restFirst), (ad 1, aI G 48 q_text), (ad 5, aI G 7 q_kind), (ad 7, aI G 7 q_readDeed), (ad 8, aI G 7 q_readKind), (ad 9, aI G 7 q_readFeeds), (ad 10, aI G 17 (upd q_page (Int32.toNatClampNeg 14) (((1 : Int32) <<< (s_people &&& 31)) - 1))), (ad 15, aZ G 2 (upd q_isKept (Int32.toNatClampNeg 0) (vp_nar .boolean 0)))] := hD
        refine lv_aload_n hx hb dX4_county_130 rfl (lv_at hl 0 rfl) ?_
        refine va_get (D := gD G) (ci := 4) (v := .ref (ad 15)) (C := RX4) (T := TX4) (N := 29) hx hb hts hi_X4 hown hK.1 hP 0 rfl rfl 15 (by decide) kl_37 (fun _ h9 => h9) rfl dX4_county_131 ?_
        refine lv_iconst (v := 1) hx hb dX4_county_134 (by decide) ?_
        refine lv_iconst (v := 0) hx hb dX4_county_135 (by decide) ?_
        obtain ⟨hi8, hf⟩ := ckS hf
        refine va_zast hx hb hK.1 hP hD hS 7 2 rfl rfl hi8 dX4_county_136 (fun H locs hP hD hS => ?_)
        have hP : va_P (gD G) vwCl [(h0, moE ad s_thrown s_textSize s_place s_people s_readPeople 0 s_seen s_seed s_rowSize s_feedMany s_feedRow s_restMany s_restFirst), (ad 1, aI G 48 q_text), (ad 5, aI G 7 q_kind), (ad 7, aI G 7 q_readDeed), (ad 8, aI G 7 q_readKind), (ad 9, aI G 7 q_readFeeds), (ad 10, aI G 17 (upd q_page (Int32.toNatClampNeg 14) (((1 : Int32) <<< (s_people &&& 31)) - 1))), (ad 15, aZ G 2 (upd (upd q_isKept (Int32.toNatClampNeg 0) (vp_nar .boolean 0)) (Int32.toNatClampNeg 1) (vp_nar .boolean 0)))] H := hP
        have hD : va_D A [(h0, moE ad s_thrown s_textSize s_place s_people s_readPeople 0 s_seen s_seed s_rowSize s_feedMany s_feedRow s_restMany s_restFirst), (ad 1, aI G 48 q_text), (ad 5, aI G 7 q_kind), (ad 7, aI G 7 q_readDeed), (ad 8, aI G 7 q_readKind), (ad 9, aI G 7 q_readFeeds), (ad 10, aI G 17 (upd q_page (Int32.toNatClampNeg 14) (((1 : Int32) <<< (s_people &&& 31)) - 1))), (ad 15, aZ G 2 (upd (upd q_isKept (Int32.toNatClampNeg 0) (vp_nar .boolean 0)) (Int32.toNatClampNeg 1) (vp_nar .boolean 0)))] := hD
        refine lv_aload_n hx hb dX4_county_137 rfl (lv_at hl 0 rfl) ?_
        refine va_get (D := gD G) (ci := 4) (v := .int s_people) (C := RX4) (T := TX4) (N := 29) hx hb hts hi_X4 hown hK.1 hP 0 rfl rfl 4 (by decide) kl_64 (fun _ h9 => h9) rfl dX4_county_138 ?_
        have hv := Option.some.inj hf
        exact hret _ _ _ _ _ (by rw [← hv]; exact hP) hS (by rw [← hv]) dX4_county_141
      · have hf := iteF hf c5
        refine lv_aload_n hx hb dX4_county_56 rfl (lv_at hl 0 rfl) ?_
        refine va_get (D := gD G) (ci := 4) (v := .ref (ad 5)) (C := RX4) (T := TX4) (N := 29) hx hb hts hi_X4 hown hK.1 hP 0 rfl rfl 5 (by decide) kl_13 (fun _ h9 => h9) rfl dX4_county_57 ?_
        refine lv_iload_n hx hb dX4_county_60 rfl (lv_at hl 1 rfl) ?_
        refine lv_aload_n hx hb dX4_county_61 rfl (lv_at hl 0 rfl) ?_
        refine va_get (D := gD G) (ci := 4) (v := .ref (ad 8)) (C := RX4) (T := TX4) (N := 29) hx hb hts hi_X4 hown hK.1 hP 0 rfl rfl 8 (by decide) kl_19 (fun _ h9 => h9) rfl dX4_county_62 ?_
        refine lv_iload_n hx hb dX4_county_65 rfl (lv_at hl 1 rfl) ?_
        obtain ⟨hi9, hf⟩ := ckS hf
        refine va_iald hx hb hK.1 hP 4 0 rfl rfl hi9 dX4_county_66 ?_
        obtain ⟨hi10, hf⟩ := ckS hf
        refine va_iast hx hb hK.1 hP hD hS 2 0 rfl rfl hi10 dX4_county_67 (fun H locs hP hD hS => ?_)
        have hP : va_P (gD G) vwCl [(h0, moE ad s_thrown s_textSize s_place s_people s_readPeople s_acts s_seen s_seed s_rowSize s_feedMany s_feedRow s_restMany s_restFirst), (ad 1, aI G 48 q_text), (ad 5, aI G 7 (upd q_kind (Int32.toNatClampNeg x1) (q_readKind (Int32.toNatClampNeg x1)))), (ad 7, aI G 7 q_readDeed), (ad 8, aI G 7 q_readKind), (ad 9, aI G 7 q_readFeeds), (ad 10, aI G 17 q_page), (ad 15, aZ G 2 q_isKept)] H := hP
        have hD : va_D A [(h0, moE ad s_thrown s_textSize s_place s_people s_readPeople s_acts s_seen s_seed s_rowSize s_feedMany s_feedRow s_restMany s_restFirst), (ad 1, aI G 48 q_text), (ad 5, aI G 7 (upd q_kind (Int32.toNatClampNeg x1) (q_readKind (Int32.toNatClampNeg x1)))), (ad 7, aI G 7 q_readDeed), (ad 8, aI G 7 q_readKind), (ad 9, aI G 7 q_readFeeds), (ad 10, aI G 17 q_page), (ad 15, aZ G 2 q_isKept)] := hD
        refine lv_aload_n hx hb dX4_county_68 rfl (lv_at hl 0 rfl) ?_
        refine va_get (D := gD G) (ci := 4) (v := .ref (ad 10)) (C := RX4) (T := TX4) (N := 29) hx hb hts hi_X4 hown hK.1 hP 0 rfl rfl 10 (by decide) kl_25 (fun _ h9 => h9) rfl dX4_county_69 ?_
        refine lv_iconst (v := 0) hx hb dX4_county_72 (by decide) ?_
        refine lv_iload_n hx hb dX4_county_73 rfl (lv_at hl 1 rfl) ?_
        refine lv_iadd hx hb dX4_county_74 ?_
        refine lv_aload_n hx hb dX4_county_75 rfl (lv_at hl 0 rfl) ?_
        refine va_get (D := gD G) (ci := 4) (v := .ref (ad 7)) (C := RX4) (T := TX4) (N := 29) hx hb hts hi_X4 hown hK.1 hP 0 rfl rfl 7 (by decide) kl_16 (fun _ h9 => h9) rfl dX4_county_76 ?_
        refine lv_iload_n hx hb dX4_county_79 rfl (lv_at hl 1 rfl) ?_
        obtain ⟨hi11, hf⟩ := ckS hf
        refine va_iald hx hb hK.1 hP 3 0 rfl rfl hi11 dX4_county_80 ?_
        obtain ⟨hi12, hf⟩ := ckS hf
        refine va_iast hx hb hK.1 hP hD hS 6 0 rfl rfl hi12 dX4_county_81 (fun H locs hP hD hS => ?_)
        have hP : va_P (gD G) vwCl [(h0, moE ad s_thrown s_textSize s_place s_people s_readPeople s_acts s_seen s_seed s_rowSize s_feedMany s_feedRow s_restMany s_restFirst), (ad 1, aI G 48 q_text), (ad 5, aI G 7 (upd q_kind (Int32.toNatClampNeg x1) (q_readKind (Int32.toNatClampNeg x1)))), (ad 7, aI G 7 q_readDeed), (ad 8, aI G 7 q_readKind), (ad 9, aI G 7 q_readFeeds), (ad 10, aI G 17 (upd q_page (Int32.toNatClampNeg (0 + x1)) (q_readDeed (Int32.toNatClampNeg x1)))), (ad 15, aZ G 2 q_isKept)] H := hP
        have hD : va_D A [(h0, moE ad s_thrown s_textSize s_place s_people s_readPeople s_acts s_seen s_seed s_rowSize s_feedMany s_feedRow s_restMany s_restFirst), (ad 1, aI G 48 q_text), (ad 5, aI G 7 (upd q_kind (Int32.toNatClampNeg x1) (q_readKind (Int32.toNatClampNeg x1)))), (ad 7, aI G 7 q_readDeed), (ad 8, aI G 7 q_readKind), (ad 9, aI G 7 q_readFeeds), (ad 10, aI G 17 (upd q_page (Int32.toNatClampNeg (0 + x1)) (q_readDeed (Int32.toNatClampNeg x1)))), (ad 15, aZ G 2 q_isKept)] := hD
        refine lv_aload_n hx hb dX4_county_82 rfl (lv_at hl 0 rfl) ?_
        refine va_get (D := gD G) (ci := 4) (v := .ref (ad 10)) (C := RX4) (T := TX4) (N := 29) hx hb hts hi_X4 hown hK.1 hP 0 rfl rfl 10 (by decide) kl_25 (fun _ h9 => h9) rfl dX4_county_83 ?_
        refine lv_bipush (v := 7) hx hb dX4_county_86 (by decide) ?_
        refine lv_iload_n hx hb dX4_county_88 rfl (lv_at hl 1 rfl) ?_
        refine lv_iadd hx hb dX4_county_89 ?_
        refine lv_aload_n hx hb dX4_county_90 rfl (lv_at hl 0 rfl) ?_
        refine va_get (D := gD G) (ci := 4) (v := .ref (ad 9)) (C := RX4) (T := TX4) (N := 29) hx hb hts hi_X4 hown hK.1 hP 0 rfl rfl 9 (by decide) kl_22 (fun _ h9 => h9) rfl dX4_county_91 ?_
        refine lv_iload_n hx hb dX4_county_94 rfl (lv_at hl 1 rfl) ?_
        obtain ⟨hi13, hf⟩ := ckS hf
        refine va_iald hx hb hK.1 hP 5 0 rfl rfl hi13 dX4_county_95 ?_
        obtain ⟨hi14, hf⟩ := ckS hf
        refine va_iast hx hb hK.1 hP hD hS 6 0 rfl rfl hi14 dX4_county_96 (fun H locs hP hD hS => ?_)
        have hP : va_P (gD G) vwCl [(h0, moE ad s_thrown s_textSize s_place s_people s_readPeople s_acts s_seen s_seed s_rowSize s_feedMany s_feedRow s_restMany s_restFirst), (ad 1, aI G 48 q_text), (ad 5, aI G 7 (upd q_kind (Int32.toNatClampNeg x1) (q_readKind (Int32.toNatClampNeg x1)))), (ad 7, aI G 7 q_readDeed), (ad 8, aI G 7 q_readKind), (ad 9, aI G 7 q_readFeeds), (ad 10, aI G 17 (upd (upd q_page (Int32.toNatClampNeg (0 + x1)) (q_readDeed (Int32.toNatClampNeg x1))) (Int32.toNatClampNeg (7 + x1)) (q_readFeeds (Int32.toNatClampNeg x1)))), (ad 15, aZ G 2 q_isKept)] H := hP
        have hD : va_D A [(h0, moE ad s_thrown s_textSize s_place s_people s_readPeople s_acts s_seen s_seed s_rowSize s_feedMany s_feedRow s_restMany s_restFirst), (ad 1, aI G 48 q_text), (ad 5, aI G 7 (upd q_kind (Int32.toNatClampNeg x1) (q_readKind (Int32.toNatClampNeg x1)))), (ad 7, aI G 7 q_readDeed), (ad 8, aI G 7 q_readKind), (ad 9, aI G 7 q_readFeeds), (ad 10, aI G 17 (upd (upd q_page (Int32.toNatClampNeg (0 + x1)) (q_readDeed (Int32.toNatClampNeg x1))) (Int32.toNatClampNeg (7 + x1)) (q_readFeeds (Int32.toNatClampNeg x1)))), (ad 15, aZ G 2 q_isKept)] := hD
        refine lv_iinc (v := (x1 + 1)) (lv' := [(1, .int (x1 + 1)), (0, .ref h0)]) hx hb dX4_county_97 hl (k := 1) rfl rfl (by decide) rfl (fun ls hl => ?_)
        refine lv_goto (tgt := 48) hx hb dX4_county_100 (by decide) ?_
        exact ih48 (x1 + 1) s_thrown s_place s_people s_readPeople s_acts (upd q_kind (Int32.toNatClampNeg x1) (q_readKind (Int32.toNatClampNeg x1))) q_readDeed q_readKind q_readFeeds (upd (upd q_page (Int32.toNatClampNeg (0 + x1)) (q_readDeed (Int32.toNatClampNeg x1))) (Int32.toNatClampNeg (7 + x1)) (q_readFeeds (Int32.toNatClampNeg x1))) q_isKept _ _ _ hP hD hS (lv_sub hl [1, 0] rfl) hf
  have hC27 : ∀ (n : Nat) (x1 : Int32) (s_thrown : Int32) (s_place : Int32) (s_people : Int32) (s_readPeople : Int32) (s_acts : Int32) (q_kind : Nat → Int32) (q_readDeed : Nat → Int32) (q_readKind : Nat → Int32) (q_readFeeds : Nat → Int32) (q_page : Nat → Int32) (q_isKept : Nat → Int32) (H : Heap) (locs : List Loc) (ls : Array Slot), va_P (gD G) vwCl [(h0, moE ad s_thrown s_textSize s_place s_people s_readPeople s_acts s_seen s_seed s_rowSize s_feedMany s_feedRow s_restMany s_restFirst), (ad 1, aI G 48 q_text), (ad 5, aI G 7 q_kind), (ad 7, aI G 7 q_readDeed), (ad 8, aI G 7 q_readKind), (ad 9, aI G 7 q_readFeeds), (ad 10, aI G 17 q_page), (ad 15, aZ G 2 q_isKept)] H → va_D A [(h0, moE ad s_thrown s_textSize s_place s_people s_readPeople s_acts s_seen s_seed s_rowSize s_feedMany s_feedRow s_restMany s_restFirst), (ad 1, aI G 48 q_text), (ad 5, aI G 7 q_kind), (ad 7, aI G 7 q_readDeed), (ad 8, aI G 7 q_readKind), (ad 9, aI G 7 q_readFeeds), (ad 10, aI G 17 q_page), (ad 15, aZ G 2 q_isKept)] → va_S A s.heap H locs → lv_has ls 2 [(0, .ref h0), (1, .int x1)] → fX4_county_27 n x1 s_thrown s_place s_people s_readPeople s_acts q_kind q_readDeed q_readKind q_readFeeds q_page q_isKept = some out → W p l e ({ frames := 5, cells := 0, slots := 0, locals := 109 }) s m args below meth c H locs 0 0 Q (F0 m 27 ls []) := by
    intro n27
    induction n27 with
    | zero => intro x1 s_thrown s_place s_people s_readPeople s_acts q_kind q_readDeed q_readKind q_readFeeds q_page q_isKept H locs ls hP hD hS hl hf; exact absurd (show none = some out from hf) (fun z => by cases z)
    | succ n27 ih27 =>
      intro x1 s_thrown s_place s_people s_readPeople s_acts q_kind q_readDeed q_readKind q_readFeeds q_page q_isKept H locs ls hP hD hS hl hf
      refine lv_iload_n hx hb dX4_county_27 rfl (lv_at hl 1 rfl) ?_
      refine lv_bipush (v := 17) hx hb dX4_county_28 (by decide) ?_
      refine lv_icmp_ge (tgt := 46) hx hb dX4_county_30 (by decide) (fun c4 => ?_) (fun c4 => ?_)
      · have hf := iteT hf c4
        refine lv_iconst (v := 0) hx hb dX4_county_46 (by decide) ?_
        refine lv_istore_n (lv' := [(1, .int 0), (0, .ref h0)]) hx hb dX4_county_47 rfl hl (by decide) rfl (fun ls hl => ?_)
        exact hC48 20 0 s_thrown s_place s_people s_readPeople s_acts q_kind q_readDeed q_readKind q_readFeeds q_page q_isKept _ _ _ hP hD hS (lv_sub hl [1, 0] rfl) hf
      · have hf := iteF hf c4
        refine lv_aload_n hx hb dX4_county_33 rfl (lv_at hl 0 rfl) ?_
        refine va_get (D := gD G) (ci := 4) (v := .ref (ad 10)) (C := RX4) (T := TX4) (N := 29) hx hb hts hi_X4 hown hK.1 hP 0 rfl rfl 10 (by decide) kl_25 (fun _ h9 => h9) rfl dX4_county_34 ?_
        refine lv_iload_n hx hb dX4_county_37 rfl (lv_at hl 1 rfl) ?_
        refine lv_iconst (v := 0) hx hb dX4_county_38 (by decide) ?_
        obtain ⟨hi15, hf⟩ := ckS hf
        refine va_iast hx hb hK.1 hP hD hS 6 0 rfl rfl hi15 dX4_county_39 (fun H locs hP hD hS => ?_)
        have hP : va_P (gD G) vwCl [(h0, moE ad s_thrown s_textSize s_place s_people s_readPeople s_acts s_seen s_seed s_rowSize s_feedMany s_feedRow s_restMany s_restFirst), (ad 1, aI G 48 q_text), (ad 5, aI G 7 q_kind), (ad 7, aI G 7 q_readDeed), (ad 8, aI G 7 q_readKind), (ad 9, aI G 7 q_readFeeds), (ad 10, aI G 17 (upd q_page (Int32.toNatClampNeg x1) 0)), (ad 15, aZ G 2 q_isKept)] H := hP
        have hD : va_D A [(h0, moE ad s_thrown s_textSize s_place s_people s_readPeople s_acts s_seen s_seed s_rowSize s_feedMany s_feedRow s_restMany s_restFirst), (ad 1, aI G 48 q_text), (ad 5, aI G 7 q_kind), (ad 7, aI G 7 q_readDeed), (ad 8, aI G 7 q_readKind), (ad 9, aI G 7 q_readFeeds), (ad 10, aI G 17 (upd q_page (Int32.toNatClampNeg x1) 0)), (ad 15, aZ G 2 q_isKept)] := hD
        refine lv_iinc (v := (x1 + 1)) (lv' := [(1, .int (x1 + 1)), (0, .ref h0)]) hx hb dX4_county_40 hl (k := 1) rfl rfl (by decide) rfl (fun ls hl => ?_)
        refine lv_goto (tgt := 27) hx hb dX4_county_43 (by decide) ?_
        exact ih27 (x1 + 1) s_thrown s_place s_people s_readPeople s_acts q_kind q_readDeed q_readKind q_readFeeds (upd q_page (Int32.toNatClampNeg x1) 0) q_isKept _ _ _ hP hD hS (lv_sub hl [1, 0] rfl) hf
  refine lv_aload_n hx hb dX4_county_0 rfl (lv_at hl 0 rfl) ?_
  refine lv_iconst (v := 0) hx hb dX4_county_1 (by decide) ?_
  refine va_put (D := gD G) (ci := 4) (v := .int 0) (ty := .int) (C := RX4) (T := TX4) (N := 29) hx hb hts hi_X4 tyX4 tyX4_ok nmX4 hown hK.1 hP hD hS 0 rfl rfl 0 (by decide) kl_60 (fun _ h9 => h9) rfl (tyX4_ok 0 (by decide)) rfl rfl (Nat.le_of_ble_eq_true rfl) dX4_county_2 (fun H locs hP hD hS => ?_)
  have hP : va_P (gD G) vwCl [(h0, moE ad 0 s_textSize s_place s_people s_readPeople s_acts s_seen s_seed s_rowSize s_feedMany s_feedRow s_restMany s_restFirst), (ad 1, aI G 48 q_text), (ad 5, aI G 7 q_kind), (ad 7, aI G 7 q_readDeed), (ad 8, aI G 7 q_readKind), (ad 9, aI G 7 q_readFeeds), (ad 10, aI G 17 q_page), (ad 15, aZ G 2 q_isKept)] H := hP
  have hD : va_D A [(h0, moE ad 0 s_textSize s_place s_people s_readPeople s_acts s_seen s_seed s_rowSize s_feedMany s_feedRow s_restMany s_restFirst), (ad 1, aI G 48 q_text), (ad 5, aI G 7 q_kind), (ad 7, aI G 7 q_readDeed), (ad 8, aI G 7 q_readKind), (ad 9, aI G 7 q_readFeeds), (ad 10, aI G 17 q_page), (ad 15, aZ G 2 q_isKept)] := hD
  refine lv_aload_n hx hb dX4_county_5 rfl (lv_at hl 0 rfl) ?_
  obtain ⟨o1, hc2, hf⟩ := bindS hf
  refine rw_i (va_runV (C := RX4) (As := []) (rest := []) ⟨hx, hb, hml, hown, hts⟩ (ctX4_readCounty l G h0 ad 0 s_textSize s_place s_people s_readPeople s_acts s_seen s_seed s_rowSize s_feedMany s_feedRow s_restMany s_restFirst q_text q_readDeed q_readKind q_readFeeds o1 hc2) (cwV 0 hts gX4_county_X4_readCounty rfl rfl rfl (by decide +kernel) ⟨Nat.le_of_ble_eq_true rfl, Nat.le_of_ble_eq_true rfl⟩) (preW_V (q0 := 0) (ci := 4) (hP.sub (ws' := [(h0, moE ad 0 s_textSize s_place s_people s_readPeople s_acts s_seen s_seed s_rowSize s_feedMany s_feedRow s_restMany s_restFirst), (ad 1, aI G 48 q_text), (ad 7, aI G 7 q_readDeed), (ad 8, aI G 7 q_readKind), (ad 9, aI G 7 q_readFeeds)]) [0, 1, 3, 4, 5] rfl) (hD.sub (ws' := [(h0, moE ad 0 s_textSize s_place s_people s_readPeople s_acts s_seen s_seed s_rowSize s_feedMany s_feedRow s_restMany s_restFirst), (ad 1, aI G 48 q_text), (ad 7, aI G 7 q_readDeed), (ad 8, aI G 7 q_readKind), (ad 9, aI G 7 q_readFeeds)]) [0, 1, 3, 4, 5] (by decide) rfl) hK rfl rfl) rfl rfl hl.1 rfl (lv_room (Nat.le_of_ble_eq_true rfl)) dX4_county_6 ⟨Nat.zero_le _, Nat.zero_le _⟩) hS hP hD [0, 1, 3, 4, 5] rfl rfl rfl (fun H locs hP hD hS => ?_)
  have hP : va_P (gD G) vwCl [(h0, moE ad 0 s_textSize o1.2.1 s_people o1.2.2.1 s_acts s_seen s_seed s_rowSize s_feedMany s_feedRow s_restMany s_restFirst), (ad 1, aI G 48 q_text), (ad 5, aI G 7 q_kind), (ad 7, aI G 7 o1.2.2.2.1), (ad 8, aI G 7 o1.2.2.2.2.1), (ad 9, aI G 7 o1.2.2.2.2.2), (ad 10, aI G 17 q_page), (ad 15, aZ G 2 q_isKept)] H := hP
  have hD : va_D A [(h0, moE ad 0 s_textSize o1.2.1 s_people o1.2.2.1 s_acts s_seen s_seed s_rowSize s_feedMany s_feedRow s_restMany s_restFirst), (ad 1, aI G 48 q_text), (ad 5, aI G 7 q_kind), (ad 7, aI G 7 o1.2.2.2.1), (ad 8, aI G 7 o1.2.2.2.2.1), (ad 9, aI G 7 o1.2.2.2.2.2), (ad 10, aI G 17 q_page), (ad 15, aZ G 2 q_isKept)] := hD
  refine lv_bipush (v := (-9)) hx hb dX4_county_9 (by decide) ?_
  refine lv_icmp_eq (tgt := 17) hx hb dX4_county_11 (by decide) (fun c3 => ?_) (fun c3 => ?_)
  · have hf := iteT hf c3
    refine lv_aload_n hx hb dX4_county_17 rfl (lv_at hl 0 rfl) ?_
    refine lv_aload_n hx hb dX4_county_18 rfl (lv_at hl 0 rfl) ?_
    refine va_get (D := gD G) (ci := 4) (v := .int o1.2.2.1) (C := RX4) (T := TX4) (N := 29) hx hb hts hi_X4 hown hK.1 hP 0 rfl rfl 6 (by decide) kl_79 (fun _ h9 => h9) rfl dX4_county_19 ?_
    refine va_put (D := gD G) (ci := 4) (v := .int o1.2.2.1) (ty := .int) (C := RX4) (T := TX4) (N := 29) hx hb hts hi_X4 tyX4 tyX4_ok nmX4 hown hK.1 hP hD hS 0 rfl rfl 4 (by decide) kl_64 (fun _ h9 => h9) rfl (tyX4_ok 4 (by decide)) rfl rfl (Nat.le_of_ble_eq_true rfl) dX4_county_22 (fun H locs hP hD hS => ?_)
    have hP : va_P (gD G) vwCl [(h0, moE ad 0 s_textSize o1.2.1 o1.2.2.1 o1.2.2.1 s_acts s_seen s_seed s_rowSize s_feedMany s_feedRow s_restMany s_restFirst), (ad 1, aI G 48 q_text), (ad 5, aI G 7 q_kind), (ad 7, aI G 7 o1.2.2.2.1), (ad 8, aI G 7 o1.2.2.2.2.1), (ad 9, aI G 7 o1.2.2.2.2.2), (ad 10, aI G 17 q_page), (ad 15, aZ G 2 q_isKept)] H := hP
    have hD : va_D A [(h0, moE ad 0 s_textSize o1.2.1 o1.2.2.1 o1.2.2.1 s_acts s_seen s_seed s_rowSize s_feedMany s_feedRow s_restMany s_restFirst), (ad 1, aI G 48 q_text), (ad 5, aI G 7 q_kind), (ad 7, aI G 7 o1.2.2.2.1), (ad 8, aI G 7 o1.2.2.2.2.1), (ad 9, aI G 7 o1.2.2.2.2.2), (ad 10, aI G 17 q_page), (ad 15, aZ G 2 q_isKept)] := hD
    refine lv_iconst (v := 0) hx hb dX4_county_25 (by decide) ?_
    refine lv_istore_n (lv' := [(1, .int 0), (0, .ref h0)]) hx hb dX4_county_26 rfl hl (by decide) rfl (fun ls hl => ?_)
    exact hC27 20 0 0 o1.2.1 o1.2.2.1 o1.2.2.1 s_acts q_kind o1.2.2.2.1 o1.2.2.2.2.1 o1.2.2.2.2.2 q_page q_isKept _ _ _ hP hD hS (lv_sub hl [1, 0] rfl) hf
  · have hf := iteF hf c3
    refine lv_bipush (v := (-3)) hx hb dX4_county_14 (by decide) ?_
    have hv := Option.some.inj hf
    exact hret _ _ _ _ _ (by rw [← hv]; exact hP) hS (by rw [← hv]) dX4_county_16
def fX4_gradeOf (q_kind : Nat → Int32) (q_a1 : Nat → Int32) (a2 : Int32) : Option (Int32) :=
  ck a2 7 ((if (q_kind (Int32.toNatClampNeg a2)) = 3 then some 0 else ck a2 7 ((if (q_kind (Int32.toNatClampNeg a2)) = 2 then ck (0 + a2) 17 (some ((q_a1 (Int32.toNatClampNeg (0 + a2))) + 2)) else ck (0 + a2) 17 (some (q_a1 (Int32.toNatClampNeg (0 + a2))))))))
set_option maxHeartbeats 4000000 in
set_option maxRecDepth 100000 in
theorem ctX4_gradeOf (l : Launch) (G : GG) (h0 : Nat) (h_a1 : Nat) (ad : Nat → Nat) (s_thrown : Int32) (s_textSize : Int32) (s_place : Int32) (s_people : Int32) (s_readPeople : Int32) (s_acts : Int32) (s_seen : Int32) (s_seed : Int64) (s_rowSize : Int32) (s_feedMany : Int32) (s_feedRow : Int32) (s_restMany : Int32) (s_restFirst : Int32) (q_kind : Nat → Int32) (q_a1 : Nat → Int32) (a2 : Int32) (out : Int32) (hf : fX4_gradeOf q_kind q_a1 a2 = some out) : Met l yX4_gradeOf wsX4_gradeOf ({ frames := 0, cells := 0, slots := 0, locals := 0 }) (PcR G [.ref h0, .ref h_a1, .int a2] [(h0, moE ad s_thrown s_textSize s_place s_people s_readPeople s_acts s_seen s_seed s_rowSize s_feedMany s_feedRow s_restMany s_restFirst), (ad 5, aI G 7 q_kind), (h_a1, aI G 17 q_a1)]) (QiR out) 0 0 noA := by
  refine mk_Ri (cc := cX4_gradeOf) (maxL := 3) (by decide) rfl (Nat.le_of_ble_eq_true rfl) ?_
  intro p e s m args below meth c Q ls S hP hK hl hret
  obtain ⟨hx, hb, hml, hown, hts⟩ := S
  have hown : s.vm.findClass RX4 = some m.cls := hown
  have kl_13 := hts (.fieldLink RX4 13 "ArrestOrderModel" "kind" "[I") (by decide +kernel)
  have hi_X4 : ∀ w ∈ wsX40, w ∈ wsX4_gradeOf := fun _ h => List.mem_cons_of_mem _ (List.mem_append_right _ h)
  have hS : va_S noA s.heap s.heap [] := va_S.rf
  have hl : lv_has ls 3 [(0, .ref h0), (1, .ref h_a1), (2, .int a2)] := hl
  refine lv_aload_n hx hb dX4_gradeOf_0 rfl (lv_at hl 0 rfl) ?_
  refine va_get (D := gD G) (ci := 4) (v := .ref (ad 5)) (C := RX4) (T := TX4) (N := 29) hx hb hts hi_X4 hown hK.1 hP 0 rfl rfl 5 (by decide) kl_13 (fun _ h9 => h9) rfl dX4_gradeOf_1 ?_
  refine lv_iload_n hx hb dX4_gradeOf_4 rfl (lv_at hl 2 rfl) ?_
  obtain ⟨hi1, hf⟩ := ckS hf
  refine va_iald hx hb hK.1 hP 1 0 rfl rfl hi1 dX4_gradeOf_5 ?_
  refine lv_iconst (v := 3) hx hb dX4_gradeOf_6 (by decide) ?_
  refine lv_icmp_ne (tgt := 14) hx hb dX4_gradeOf_7 (by decide) (fun c2 => ?_) (fun c2 => ?_)
  · have hf := iteF hf c2
    refine lv_aload_n hx hb dX4_gradeOf_14 rfl (lv_at hl 0 rfl) ?_
    refine va_get (D := gD G) (ci := 4) (v := .ref (ad 5)) (C := RX4) (T := TX4) (N := 29) hx hb hts hi_X4 hown hK.1 hP 0 rfl rfl 5 (by decide) kl_13 (fun _ h9 => h9) rfl dX4_gradeOf_15 ?_
    refine lv_iload_n hx hb dX4_gradeOf_18 rfl (lv_at hl 2 rfl) ?_
    obtain ⟨hi3, hf⟩ := ckS hf
    refine va_iald hx hb hK.1 hP 1 0 rfl rfl hi3 dX4_gradeOf_19 ?_
    refine lv_iconst (v := 2) hx hb dX4_gradeOf_20 (by decide) ?_
    refine lv_icmp_ne (tgt := 34) hx hb dX4_gradeOf_21 (by decide) (fun c4 => ?_) (fun c4 => ?_)
    · have hf := iteF hf c4
      refine lv_aload_n hx hb dX4_gradeOf_34 rfl (lv_at hl 1 rfl) ?_
      refine lv_iconst (v := 0) hx hb dX4_gradeOf_35 (by decide) ?_
      refine lv_iload_n hx hb dX4_gradeOf_36 rfl (lv_at hl 2 rfl) ?_
      refine lv_iadd hx hb dX4_gradeOf_37 ?_
      obtain ⟨hi5, hf⟩ := ckS hf
      refine va_iald hx hb hK.1 hP 2 0 rfl rfl hi5 dX4_gradeOf_38 ?_
      have hv := Option.some.inj hf
      exact hret _ _ _ _ _ hS hv dX4_gradeOf_39
    · have hf := iteT hf c4
      refine lv_aload_n hx hb dX4_gradeOf_24 rfl (lv_at hl 1 rfl) ?_
      refine lv_iconst (v := 0) hx hb dX4_gradeOf_25 (by decide) ?_
      refine lv_iload_n hx hb dX4_gradeOf_26 rfl (lv_at hl 2 rfl) ?_
      refine lv_iadd hx hb dX4_gradeOf_27 ?_
      obtain ⟨hi6, hf⟩ := ckS hf
      refine va_iald hx hb hK.1 hP 2 0 rfl rfl hi6 dX4_gradeOf_28 ?_
      refine lv_iconst (v := 2) hx hb dX4_gradeOf_29 (by decide) ?_
      refine lv_iadd hx hb dX4_gradeOf_30 ?_
      refine lv_goto (tgt := 39) hx hb dX4_gradeOf_31 (by decide) ?_
      have hv := Option.some.inj hf
      exact hret _ _ _ _ _ hS hv dX4_gradeOf_39
  · have hf := iteT hf c2
    refine lv_iconst (v := 0) hx hb dX4_gradeOf_10 (by decide) ?_
    refine lv_goto (tgt := 39) hx hb dX4_gradeOf_11 (by decide) ?_
    have hv := Option.some.inj hf
    exact hret _ _ _ _ _ hS hv dX4_gradeOf_39
def fX4_isHidden_5 (s_people : Int32) (q_kind : Nat → Int32) (q_a1 : Nat → Int32) (a2 : Int32) : Nat → Int32 → Int32 → Option (Int32)
  | 0, _, _ => none
  | n + 1, x3, x4 => (if s_people ≤ x4 then (if x3 = 0 then some 0 else ck a2 7 ((if (q_kind (Int32.toNatClampNeg a2)) = 1 then some 0 else some 1))) else (if x3 = 0 then (if x4 = a2 then (fX4_isHidden_5 s_people q_kind q_a1 a2 n 0 (x4 + 1)) else ck 14 17 ((fX4_has (q_a1 (Int32.toNatClampNeg 14)) x4).bind fun o8 => ((if o8 = 0 then (fX4_isHidden_5 s_people q_kind q_a1 a2 n 0 (x4 + 1)) else ck (7 + x4) 17 ((fX4_has (q_a1 (Int32.toNatClampNeg (7 + x4))) a2).bind fun o12 => ((if o12 = 0 then (fX4_isHidden_5 s_people q_kind q_a1 a2 n 0 (x4 + 1)) else (fX4_isHidden_5 s_people q_kind q_a1 a2 n 1 (x4 + 1))))))))) else (fX4_isHidden_5 s_people q_kind q_a1 a2 n 1 (x4 + 1))))
def fX4_isHidden (s_people : Int32) (q_kind : Nat → Int32) (q_a1 : Nat → Int32) (a2 : Int32) : Option (Int32) :=
  (fX4_isHidden_5 s_people q_kind q_a1 a2 9 0 0)
set_option maxHeartbeats 4000000 in
set_option maxRecDepth 100000 in
theorem ctX4_isHidden (l : Launch) (G : GG) (h0 : Nat) (h_a1 : Nat) (ad : Nat → Nat) (s_thrown : Int32) (s_textSize : Int32) (s_place : Int32) (s_people : Int32) (s_readPeople : Int32) (s_acts : Int32) (s_seen : Int32) (s_seed : Int64) (s_rowSize : Int32) (s_feedMany : Int32) (s_feedRow : Int32) (s_restMany : Int32) (s_restFirst : Int32) (q_kind : Nat → Int32) (q_a1 : Nat → Int32) (a2 : Int32) (out : Int32) (hf : fX4_isHidden s_people q_kind q_a1 a2 = some out) : Met l yX4_isHidden wsX4_isHidden ({ frames := 1, cells := 0, slots := 0, locals := 21 }) (PcR G [.ref h0, .ref h_a1, .int a2] [(h0, moE ad s_thrown s_textSize s_place s_people s_readPeople s_acts s_seen s_seed s_rowSize s_feedMany s_feedRow s_restMany s_restFirst), (ad 5, aI G 7 q_kind), (h_a1, aI G 17 q_a1)]) (QiR out) 0 0 noA := by
  refine mk_Rz (cc := cX4_isHidden) (maxL := 5) (by decide) rfl (Nat.le_of_ble_eq_true rfl) ?_
  intro p e s m args below meth c Q ls S hP hK hl hret
  obtain ⟨hx, hb, hml, hown, hts⟩ := S
  have hown : s.vm.findClass RX4 = some m.cls := hown
  have kl_64 := hts (.fieldLink RX4 64 "ArrestOrderModel" "people" "I") (by decide +kernel)
  have hi_X4 : ∀ w ∈ wsX40, w ∈ wsX4_isHidden := fun _ h => List.mem_cons_of_mem _ (List.mem_append_right _ h)
  have kl_13 := hts (.fieldLink RX4 13 "ArrestOrderModel" "kind" "[I") (by decide +kernel)
  have hS : va_S noA s.heap s.heap [] := va_S.rf
  have hl : lv_has ls 5 [(0, .ref h0), (1, .ref h_a1), (2, .int a2)] := hl
  have hC5 : ∀ (n : Nat) (x3 : Int32) (x4 : Int32) (H : Heap) (locs : List Loc) (ls : Array Slot), va_P (gD G) vwCl [(h0, moE ad s_thrown s_textSize s_place s_people s_readPeople s_acts s_seen s_seed s_rowSize s_feedMany s_feedRow s_restMany s_restFirst), (ad 5, aI G 7 q_kind), (h_a1, aI G 17 q_a1)] H → va_S noA s.heap H locs → lv_has ls 5 [(0, .ref h0), (1, .ref h_a1), (2, .int a2), (3, .int x3), (4, .int x4)] → fX4_isHidden_5 s_people q_kind q_a1 a2 n x3 x4 = some out → W p l e ({ frames := 1, cells := 0, slots := 0, locals := 21 }) s m args below meth c H locs 0 0 Q (F0 m 5 ls []) := by
    intro n5
    induction n5 with
    | zero => intro x3 x4 H locs ls hP hS hl hf; exact absurd (show none = some out from hf) (fun z => by cases z)
    | succ n5 ih5 =>
      intro x3 x4 H locs ls hP hS hl hf
      refine lv_iload hx hb dX4_isHidden_5 (lv_at hl 4 rfl) ?_
      refine lv_aload_n hx hb dX4_isHidden_7 rfl (lv_at hl 0 rfl) ?_
      refine va_get (D := gD G) (ci := 4) (v := .int s_people) (C := RX4) (T := TX4) (N := 29) hx hb hts hi_X4 hown hK.1 hP 0 rfl rfl 4 (by decide) kl_64 (fun _ h9 => h9) rfl dX4_isHidden_8 ?_
      refine lv_icmp_ge (tgt := 62) hx hb dX4_isHidden_11 (by decide) (fun c1 => ?_) (fun c1 => ?_)
      · have hf := iteT hf c1
        refine lv_iload_n hx hb dX4_isHidden_62 rfl (lv_at hl 3 rfl) ?_
        refine lv_if_eq (tgt := 80) hx hb dX4_isHidden_63 (by decide) (fun c2 => ?_) (fun c2 => ?_)
        · have hf := iteT hf c2
          refine lv_iconst (v := 0) hx hb dX4_isHidden_80 (by decide) ?_
          have hv := Option.some.inj hf
          exact hret _ _ _ _ _ hS rfl hv dX4_isHidden_81
        · have hf := iteF hf c2
          refine lv_aload_n hx hb dX4_isHidden_66 rfl (lv_at hl 0 rfl) ?_
          refine va_get (D := gD G) (ci := 4) (v := .ref (ad 5)) (C := RX4) (T := TX4) (N := 29) hx hb hts hi_X4 hown hK.1 hP 0 rfl rfl 5 (by decide) kl_13 (fun _ h9 => h9) rfl dX4_isHidden_67 ?_
          refine lv_iload_n hx hb dX4_isHidden_70 rfl (lv_at hl 2 rfl) ?_
          obtain ⟨hi3, hf⟩ := ckS hf
          refine va_iald hx hb hK.1 hP 1 0 rfl rfl hi3 dX4_isHidden_71 ?_
          refine lv_iconst (v := 1) hx hb dX4_isHidden_72 (by decide) ?_
          refine lv_icmp_eq (tgt := 80) hx hb dX4_isHidden_73 (by decide) (fun c4 => ?_) (fun c4 => ?_)
          · have hf := iteT hf c4
            refine lv_iconst (v := 0) hx hb dX4_isHidden_80 (by decide) ?_
            have hv := Option.some.inj hf
            exact hret _ _ _ _ _ hS rfl hv dX4_isHidden_81
          · have hf := iteF hf c4
            refine lv_iconst (v := 1) hx hb dX4_isHidden_76 (by decide) ?_
            refine lv_goto (tgt := 81) hx hb dX4_isHidden_77 (by decide) ?_
            have hv := Option.some.inj hf
            exact hret _ _ _ _ _ hS rfl hv dX4_isHidden_81
      · have hf := iteF hf c1
        refine lv_iload_n hx hb dX4_isHidden_14 rfl (lv_at hl 3 rfl) ?_
        refine lv_if_ne (tgt := 50) hx hb dX4_isHidden_15 (by decide) (fun c5 => ?_) (fun c5 => ?_)
        · have hf := iteF hf c5
          refine lv_iconst (v := 1) hx hb dX4_isHidden_50 (by decide) ?_
          refine lv_goto (tgt := 55) hx hb dX4_isHidden_51 (by decide) ?_
          refine lv_istore_n (lv' := [(3, .int 1), (0, .ref h0), (1, .ref h_a1), (2, .int a2), (4, .int x4)]) hx hb dX4_isHidden_55 rfl hl (by decide) rfl (fun ls hl => ?_)
          refine lv_iinc (v := (x4 + 1)) (lv' := [(4, .int (x4 + 1)), (3, .int 1), (0, .ref h0), (1, .ref h_a1), (2, .int a2)]) hx hb dX4_isHidden_56 hl (k := 4) rfl rfl (by decide) rfl (fun ls hl => ?_)
          refine lv_goto (tgt := 5) hx hb dX4_isHidden_59 (by decide) ?_
          exact ih5 1 (x4 + 1) _ _ _ hP hS (lv_sub hl [2, 3, 4, 1, 0] rfl) hf
        · have hf := iteT hf c5
          refine lv_iload hx hb dX4_isHidden_18 (lv_at hl 4 rfl) ?_
          refine lv_iload_n hx hb dX4_isHidden_20 rfl (lv_at hl 2 rfl) ?_
          refine lv_icmp_eq (tgt := 54) hx hb dX4_isHidden_21 (by decide) (fun c6 => ?_) (fun c6 => ?_)
          · have hf := iteT hf c6
            refine lv_iconst (v := 0) hx hb dX4_isHidden_54 (by decide) ?_
            refine lv_istore_n (lv' := [(3, .int 0), (0, .ref h0), (1, .ref h_a1), (2, .int a2), (4, .int x4)]) hx hb dX4_isHidden_55 rfl hl (by decide) rfl (fun ls hl => ?_)
            refine lv_iinc (v := (x4 + 1)) (lv' := [(4, .int (x4 + 1)), (3, .int 0), (0, .ref h0), (1, .ref h_a1), (2, .int a2)]) hx hb dX4_isHidden_56 hl (k := 4) rfl rfl (by decide) rfl (fun ls hl => ?_)
            refine lv_goto (tgt := 5) hx hb dX4_isHidden_59 (by decide) ?_
            exact ih5 0 (x4 + 1) _ _ _ hP hS (lv_sub hl [2, 3, 4, 1, 0] rfl) hf
          · have hf := iteF hf c6
            refine lv_aload_n hx hb dX4_isHidden_24 rfl (lv_at hl 1 rfl) ?_
            refine lv_bipush (v := 14) hx hb dX4_isHidden_25 (by decide) ?_
            obtain ⟨hi7, hf⟩ := ckS hf
            refine va_iald hx hb hK.1 hP 2 0 rfl rfl hi7 dX4_isHidden_27 ?_
            refine lv_iload hx hb dX4_isHidden_28 (lv_at hl 4 rfl) ?_
            obtain ⟨o8, hc9, hf⟩ := bindS hf
            refine ro_i (va_runS (As := [.int (q_a1 (Int32.toNatClampNeg 14)), .int x4]) (rest := []) ⟨hx, hb, hml, hown, hts⟩ (ctX4_has l G (q_a1 (Int32.toNatClampNeg 14)) x4 o8 hc9) (va_cwS 2 hts gX4_isHidden_X4_has rfl rfl rfl (by decide +kernel) ⟨Nat.le_of_ble_eq_true rfl, Nat.le_of_ble_eq_true rfl⟩) (preR_S (hP.sub (ws' := []) [] rfl) hK) rfl rfl hl.1 rfl (lv_room (Nat.le_of_ble_eq_true rfl)) dX4_isHidden_30 ⟨Nat.zero_le _, Nat.zero_le _⟩) hS hP (fun H locs hP hS => ?_)
            refine lv_if_eq (tgt := 54) hx hb dX4_isHidden_33 (by decide) (fun c10 => ?_) (fun c10 => ?_)
            · have hf := iteT hf c10
              refine lv_iconst (v := 0) hx hb dX4_isHidden_54 (by decide) ?_
              refine lv_istore_n (lv' := [(3, .int 0), (0, .ref h0), (1, .ref h_a1), (2, .int a2), (4, .int x4)]) hx hb dX4_isHidden_55 rfl hl (by decide) rfl (fun ls hl => ?_)
              refine lv_iinc (v := (x4 + 1)) (lv' := [(4, .int (x4 + 1)), (3, .int 0), (0, .ref h0), (1, .ref h_a1), (2, .int a2)]) hx hb dX4_isHidden_56 hl (k := 4) rfl rfl (by decide) rfl (fun ls hl => ?_)
              refine lv_goto (tgt := 5) hx hb dX4_isHidden_59 (by decide) ?_
              exact ih5 0 (x4 + 1) _ _ _ hP hS (lv_sub hl [2, 3, 4, 1, 0] rfl) hf
            · have hf := iteF hf c10
              refine lv_aload_n hx hb dX4_isHidden_36 rfl (lv_at hl 1 rfl) ?_
              refine lv_bipush (v := 7) hx hb dX4_isHidden_37 (by decide) ?_
              refine lv_iload hx hb dX4_isHidden_39 (lv_at hl 4 rfl) ?_
              refine lv_iadd hx hb dX4_isHidden_41 ?_
              obtain ⟨hi11, hf⟩ := ckS hf
              refine va_iald hx hb hK.1 hP 2 0 rfl rfl hi11 dX4_isHidden_42 ?_
              refine lv_iload_n hx hb dX4_isHidden_43 rfl (lv_at hl 2 rfl) ?_
              obtain ⟨o12, hc13, hf⟩ := bindS hf
              refine ro_i (va_runS (As := [.int (q_a1 (Int32.toNatClampNeg (7 + x4))), .int a2]) (rest := []) ⟨hx, hb, hml, hown, hts⟩ (ctX4_has l G (q_a1 (Int32.toNatClampNeg (7 + x4))) a2 o12 hc13) (va_cwS 2 hts gX4_isHidden_X4_has rfl rfl rfl (by decide +kernel) ⟨Nat.le_of_ble_eq_true rfl, Nat.le_of_ble_eq_true rfl⟩) (preR_S (hP.sub (ws' := []) [] rfl) hK) rfl rfl hl.1 rfl (lv_room (Nat.le_of_ble_eq_true rfl)) dX4_isHidden_44 ⟨Nat.zero_le _, Nat.zero_le _⟩) hS hP (fun H locs hP hS => ?_)
              refine lv_if_eq (tgt := 54) hx hb dX4_isHidden_47 (by decide) (fun c14 => ?_) (fun c14 => ?_)
              · have hf := iteT hf c14
                refine lv_iconst (v := 0) hx hb dX4_isHidden_54 (by decide) ?_
                refine lv_istore_n (lv' := [(3, .int 0), (0, .ref h0), (1, .ref h_a1), (2, .int a2), (4, .int x4)]) hx hb dX4_isHidden_55 rfl hl (by decide) rfl (fun ls hl => ?_)
                refine lv_iinc (v := (x4 + 1)) (lv' := [(4, .int (x4 + 1)), (3, .int 0), (0, .ref h0), (1, .ref h_a1), (2, .int a2)]) hx hb dX4_isHidden_56 hl (k := 4) rfl rfl (by decide) rfl (fun ls hl => ?_)
                refine lv_goto (tgt := 5) hx hb dX4_isHidden_59 (by decide) ?_
                exact ih5 0 (x4 + 1) _ _ _ hP hS (lv_sub hl [2, 3, 4, 1, 0] rfl) hf
              · have hf := iteF hf c14
                refine lv_iconst (v := 1) hx hb dX4_isHidden_50 (by decide) ?_
                refine lv_goto (tgt := 55) hx hb dX4_isHidden_51 (by decide) ?_
                refine lv_istore_n (lv' := [(3, .int 1), (0, .ref h0), (1, .ref h_a1), (2, .int a2), (4, .int x4)]) hx hb dX4_isHidden_55 rfl hl (by decide) rfl (fun ls hl => ?_)
                refine lv_iinc (v := (x4 + 1)) (lv' := [(4, .int (x4 + 1)), (3, .int 1), (0, .ref h0), (1, .ref h_a1), (2, .int a2)]) hx hb dX4_isHidden_56 hl (k := 4) rfl rfl (by decide) rfl (fun ls hl => ?_)
                refine lv_goto (tgt := 5) hx hb dX4_isHidden_59 (by decide) ?_
                exact ih5 1 (x4 + 1) _ _ _ hP hS (lv_sub hl [2, 3, 4, 1, 0] rfl) hf
  refine lv_iconst (v := 0) hx hb dX4_isHidden_0 (by decide) ?_
  refine lv_istore_n (lv' := [(3, .int 0), (0, .ref h0), (1, .ref h_a1), (2, .int a2)]) hx hb dX4_isHidden_1 rfl hl (by decide) rfl (fun ls hl => ?_)
  refine lv_iconst (v := 0) hx hb dX4_isHidden_2 (by decide) ?_
  refine lv_istore (lv' := [(4, .int 0), (3, .int 0), (0, .ref h0), (1, .ref h_a1), (2, .int a2)]) hx hb dX4_isHidden_3 hl (by decide) rfl (fun ls hl => ?_)
  exact hC5 9 0 0 _ _ _ hP hS (lv_sub hl [2, 3, 4, 1, 0] rfl) hf
def fX4_mayOf_55 (s_people : Int32) (q_kind : Nat → Int32) (q_a1 : Nat → Int32) : Nat → Int32 → Int32 → Int32 → Option (Int32)
  | 0, _, _, _ => none
  | n + 1, x2, x3, x4 => (if s_people ≤ x4 then some x3 else ck 14 17 ((fX4_has (q_a1 (Int32.toNatClampNeg 14)) x4).bind fun o4 => ((if o4 = 0 then (fX4_mayOf_55 s_people q_kind q_a1 n x2 (x3 ||| 0) (x4 + 1)) else (fX4_gradeOf q_kind q_a1 x4).bind fun o7 => ((if o7 = x2 then (fX4_isHidden s_people q_kind q_a1 x4).bind fun o10 => ((if o10 = 0 then (fX4_mayOf_55 s_people q_kind q_a1 n x2 (x3 ||| ((1 : Int32) <<< (x4 &&& 31))) (x4 + 1)) else (fX4_mayOf_55 s_people q_kind q_a1 n x2 (x3 ||| 0) (x4 + 1)))) else (fX4_mayOf_55 s_people q_kind q_a1 n x2 (x3 ||| 0) (x4 + 1))))))))
def fX4_mayOf_4 (s_people : Int32) (q_kind : Nat → Int32) (q_a1 : Nat → Int32) : Nat → Int32 → Int32 → Option (Int32)
  | 0, _, _ => none
  | n + 1, x2, x3 => (if s_people ≤ x3 then (fX4_mayOf_55 s_people q_kind q_a1 9 x2 0 0) else ck 14 17 ((fX4_has (q_a1 (Int32.toNatClampNeg 14)) x3).bind fun o14 => ((if o14 = 0 then (fX4_mayOf_4 s_people q_kind q_a1 n x2 (x3 + 1)) else (fX4_gradeOf q_kind q_a1 x3).bind fun o17 => ((if o17 ≤ x2 then (fX4_mayOf_4 s_people q_kind q_a1 n x2 (x3 + 1)) else (fX4_gradeOf q_kind q_a1 x3).bind fun o20 => ((fX4_mayOf_4 s_people q_kind q_a1 n o20 (x3 + 1)))))))))
def fX4_mayOf (s_people : Int32) (q_kind : Nat → Int32) (q_a1 : Nat → Int32) : Option (Int32) :=
  (fX4_mayOf_4 s_people q_kind q_a1 9 0 0)
set_option maxHeartbeats 4000000 in
set_option maxRecDepth 100000 in
theorem ctX4_mayOf (l : Launch) (G : GG) (h0 : Nat) (h_a1 : Nat) (ad : Nat → Nat) (s_thrown : Int32) (s_textSize : Int32) (s_place : Int32) (s_people : Int32) (s_readPeople : Int32) (s_acts : Int32) (s_seen : Int32) (s_seed : Int64) (s_rowSize : Int32) (s_feedMany : Int32) (s_feedRow : Int32) (s_restMany : Int32) (s_restFirst : Int32) (q_kind : Nat → Int32) (q_a1 : Nat → Int32) (out : Int32) (hf : fX4_mayOf s_people q_kind q_a1 = some out) : Met l yX4_mayOf wsX4_mayOf ({ frames := 2, cells := 0, slots := 0, locals := 45 }) (PcR G [.ref h0, .ref h_a1] [(h0, moE ad s_thrown s_textSize s_place s_people s_readPeople s_acts s_seen s_seed s_rowSize s_feedMany s_feedRow s_restMany s_restFirst), (ad 5, aI G 7 q_kind), (h_a1, aI G 17 q_a1)]) (QiR out) 0 0 noA := by
  refine mk_Ri (cc := cX4_mayOf) (maxL := 5) (by decide) rfl (Nat.le_of_ble_eq_true rfl) ?_
  intro p e s m args below meth c Q ls S hP hK hl hret
  obtain ⟨hx, hb, hml, hown, hts⟩ := S
  have hown : s.vm.findClass RX4 = some m.cls := hown
  have kl_64 := hts (.fieldLink RX4 64 "ArrestOrderModel" "people" "I") (by decide +kernel)
  have hi_X4 : ∀ w ∈ wsX40, w ∈ wsX4_mayOf := fun _ h => List.mem_cons_of_mem _ (List.mem_append_right _ h)
  have hS : va_S noA s.heap s.heap [] := va_S.rf
  have hl : lv_has ls 5 [(0, .ref h0), (1, .ref h_a1)] := hl
  have hC55 : ∀ (n : Nat) (x2 : Int32) (x3 : Int32) (x4 : Int32) (H : Heap) (locs : List Loc) (ls : Array Slot), va_P (gD G) vwCl [(h0, moE ad s_thrown s_textSize s_place s_people s_readPeople s_acts s_seen s_seed s_rowSize s_feedMany s_feedRow s_restMany s_restFirst), (ad 5, aI G 7 q_kind), (h_a1, aI G 17 q_a1)] H → va_S noA s.heap H locs → lv_has ls 5 [(0, .ref h0), (1, .ref h_a1), (2, .int x2), (3, .int x3), (4, .int x4)] → fX4_mayOf_55 s_people q_kind q_a1 n x2 x3 x4 = some out → W p l e ({ frames := 2, cells := 0, slots := 0, locals := 45 }) s m args below meth c H locs 0 0 Q (F0 m 55 ls []) := by
    intro n55
    induction n55 with
    | zero => intro x2 x3 x4 H locs ls hP hS hl hf; exact absurd (show none = some out from hf) (fun z => by cases z)
    | succ n55 ih55 =>
      intro x2 x3 x4 H locs ls hP hS hl hf
      refine lv_iload hx hb dX4_mayOf_55 (lv_at hl 4 rfl) ?_
      refine lv_aload_n hx hb dX4_mayOf_57 rfl (lv_at hl 0 rfl) ?_
      refine va_get (D := gD G) (ci := 4) (v := .int s_people) (C := RX4) (T := TX4) (N := 29) hx hb hts hi_X4 hown hK.1 hP 0 rfl rfl 4 (by decide) kl_64 (fun _ h9 => h9) rfl dX4_mayOf_58 ?_
      refine lv_icmp_ge (tgt := 114) hx hb dX4_mayOf_61 (by decide) (fun c2 => ?_) (fun c2 => ?_)
      · have hf := iteT hf c2
        refine lv_iload_n hx hb dX4_mayOf_114 rfl (lv_at hl 3 rfl) ?_
        have hv := Option.some.inj hf
        exact hret _ _ _ _ _ hS hv dX4_mayOf_115
      · have hf := iteF hf c2
        refine lv_iload_n hx hb dX4_mayOf_64 rfl (lv_at hl 3 rfl) ?_
        refine lv_aload_n hx hb dX4_mayOf_65 rfl (lv_at hl 1 rfl) ?_
        refine lv_bipush (v := 14) hx hb dX4_mayOf_66 (by decide) ?_
        obtain ⟨hi3, hf⟩ := ckS hf
        refine va_iald hx hb hK.1 hP 2 0 rfl rfl hi3 dX4_mayOf_68 ?_
        refine lv_iload hx hb dX4_mayOf_69 (lv_at hl 4 rfl) ?_
        obtain ⟨o4, hc5, hf⟩ := bindS hf
        refine ro_i (va_runS (As := [.int (q_a1 (Int32.toNatClampNeg 14)), .int x4]) (rest := [.int x3]) ⟨hx, hb, hml, hown, hts⟩ (ctX4_has l G (q_a1 (Int32.toNatClampNeg 14)) x4 o4 hc5) (va_cwS 2 hts gX4_mayOf_X4_has rfl rfl rfl (by decide +kernel) ⟨Nat.le_of_ble_eq_true rfl, Nat.le_of_ble_eq_true rfl⟩) (preR_S (hP.sub (ws' := []) [] rfl) hK) rfl rfl hl.1 rfl (lv_room (Nat.le_of_ble_eq_true rfl)) dX4_mayOf_71 ⟨Nat.zero_le _, Nat.zero_le _⟩) hS hP (fun H locs hP hS => ?_)
        refine lv_if_eq (tgt := 105) hx hb dX4_mayOf_74 (by decide) (fun c6 => ?_) (fun c6 => ?_)
        · have hf := iteT hf c6
          refine lv_iconst (v := 0) hx hb dX4_mayOf_105 (by decide) ?_
          refine lv_ior hx hb dX4_mayOf_106 ?_
          refine lv_istore_n (lv' := [(3, .int (x3 ||| 0)), (0, .ref h0), (1, .ref h_a1), (2, .int x2), (4, .int x4)]) hx hb dX4_mayOf_107 rfl hl (by decide) rfl (fun ls hl => ?_)
          refine lv_iinc (v := (x4 + 1)) (lv' := [(4, .int (x4 + 1)), (3, .int (x3 ||| 0)), (0, .ref h0), (1, .ref h_a1), (2, .int x2)]) hx hb dX4_mayOf_108 hl (k := 4) rfl rfl (by decide) rfl (fun ls hl => ?_)
          refine lv_goto (tgt := 55) hx hb dX4_mayOf_111 (by decide) ?_
          exact ih55 x2 (x3 ||| 0) (x4 + 1) _ _ _ hP hS (lv_sub hl [2, 3, 4, 1, 0] rfl) hf
        · have hf := iteF hf c6
          refine lv_aload_n hx hb dX4_mayOf_77 rfl (lv_at hl 0 rfl) ?_
          refine lv_aload_n hx hb dX4_mayOf_78 rfl (lv_at hl 1 rfl) ?_
          refine lv_iload hx hb dX4_mayOf_79 (lv_at hl 4 rfl) ?_
          obtain ⟨o7, hc8, hf⟩ := bindS hf
          refine ro_i (va_runV (C := RX4) (As := [.ref h_a1, .int x4]) (rest := [.int x3]) ⟨hx, hb, hml, hown, hts⟩ (ctX4_gradeOf l G h0 h_a1 ad s_thrown s_textSize s_place s_people s_readPeople s_acts s_seen s_seed s_rowSize s_feedMany s_feedRow s_restMany s_restFirst q_kind q_a1 x4 o7 hc8) (cwV 2 hts gX4_mayOf_X4_gradeOf rfl rfl rfl (by decide +kernel) ⟨Nat.le_of_ble_eq_true rfl, Nat.le_of_ble_eq_true rfl⟩) (preR_V (q0 := 0) (ci := 4) (hP.sub (ws' := [(h0, moE ad s_thrown s_textSize s_place s_people s_readPeople s_acts s_seen s_seed s_rowSize s_feedMany s_feedRow s_restMany s_restFirst), (ad 5, aI G 7 q_kind), (h_a1, aI G 17 q_a1)]) [0, 1, 2] rfl) hK rfl rfl) rfl rfl hl.1 rfl (lv_room (Nat.le_of_ble_eq_true rfl)) dX4_mayOf_81 ⟨Nat.zero_le _, Nat.zero_le _⟩) hS hP (fun H locs hP hS => ?_)
          refine lv_iload_n hx hb dX4_mayOf_84 rfl (lv_at hl 2 rfl) ?_
          refine lv_icmp_ne (tgt := 105) hx hb dX4_mayOf_85 (by decide) (fun c9 => ?_) (fun c9 => ?_)
          · have hf := iteF hf c9
            refine lv_iconst (v := 0) hx hb dX4_mayOf_105 (by decide) ?_
            refine lv_ior hx hb dX4_mayOf_106 ?_
            refine lv_istore_n (lv' := [(3, .int (x3 ||| 0)), (0, .ref h0), (1, .ref h_a1), (2, .int x2), (4, .int x4)]) hx hb dX4_mayOf_107 rfl hl (by decide) rfl (fun ls hl => ?_)
            refine lv_iinc (v := (x4 + 1)) (lv' := [(4, .int (x4 + 1)), (3, .int (x3 ||| 0)), (0, .ref h0), (1, .ref h_a1), (2, .int x2)]) hx hb dX4_mayOf_108 hl (k := 4) rfl rfl (by decide) rfl (fun ls hl => ?_)
            refine lv_goto (tgt := 55) hx hb dX4_mayOf_111 (by decide) ?_
            exact ih55 x2 (x3 ||| 0) (x4 + 1) _ _ _ hP hS (lv_sub hl [2, 3, 4, 1, 0] rfl) hf
          · have hf := iteT hf c9
            refine lv_aload_n hx hb dX4_mayOf_88 rfl (lv_at hl 0 rfl) ?_
            refine lv_aload_n hx hb dX4_mayOf_89 rfl (lv_at hl 1 rfl) ?_
            refine lv_iload hx hb dX4_mayOf_90 (lv_at hl 4 rfl) ?_
            obtain ⟨o10, hc11, hf⟩ := bindS hf
            refine ro_i (va_runV (C := RX4) (As := [.ref h_a1, .int x4]) (rest := [.int x3]) ⟨hx, hb, hml, hown, hts⟩ (ctX4_isHidden l G h0 h_a1 ad s_thrown s_textSize s_place s_people s_readPeople s_acts s_seen s_seed s_rowSize s_feedMany s_feedRow s_restMany s_restFirst q_kind q_a1 x4 o10 hc11) (cwV 2 hts gX4_mayOf_X4_isHidden rfl rfl rfl (by decide +kernel) ⟨Nat.le_of_ble_eq_true rfl, Nat.le_of_ble_eq_true rfl⟩) (preR_V (q0 := 0) (ci := 4) (hP.sub (ws' := [(h0, moE ad s_thrown s_textSize s_place s_people s_readPeople s_acts s_seen s_seed s_rowSize s_feedMany s_feedRow s_restMany s_restFirst), (ad 5, aI G 7 q_kind), (h_a1, aI G 17 q_a1)]) [0, 1, 2] rfl) hK rfl rfl) rfl rfl hl.1 rfl (lv_room (Nat.le_of_ble_eq_true rfl)) dX4_mayOf_92 ⟨Nat.zero_le _, Nat.zero_le _⟩) hS hP (fun H locs hP hS => ?_)
            refine lv_if_ne (tgt := 105) hx hb dX4_mayOf_95 (by decide) (fun c12 => ?_) (fun c12 => ?_)
            · have hf := iteF hf c12
              refine lv_iconst (v := 0) hx hb dX4_mayOf_105 (by decide) ?_
              refine lv_ior hx hb dX4_mayOf_106 ?_
              refine lv_istore_n (lv' := [(3, .int (x3 ||| 0)), (0, .ref h0), (1, .ref h_a1), (2, .int x2), (4, .int x4)]) hx hb dX4_mayOf_107 rfl hl (by decide) rfl (fun ls hl => ?_)
              refine lv_iinc (v := (x4 + 1)) (lv' := [(4, .int (x4 + 1)), (3, .int (x3 ||| 0)), (0, .ref h0), (1, .ref h_a1), (2, .int x2)]) hx hb dX4_mayOf_108 hl (k := 4) rfl rfl (by decide) rfl (fun ls hl => ?_)
              refine lv_goto (tgt := 55) hx hb dX4_mayOf_111 (by decide) ?_
              exact ih55 x2 (x3 ||| 0) (x4 + 1) _ _ _ hP hS (lv_sub hl [2, 3, 4, 1, 0] rfl) hf
            · have hf := iteT hf c12
              refine lv_iconst (v := 1) hx hb dX4_mayOf_98 (by decide) ?_
              refine lv_iload hx hb dX4_mayOf_99 (lv_at hl 4 rfl) ?_
              refine lv_ishl hx hb dX4_mayOf_101 ?_
              refine lv_goto (tgt := 106) hx hb dX4_mayOf_102 (by decide) ?_
              refine lv_ior hx hb dX4_mayOf_106 ?_
              refine lv_istore_n (lv' := [(3, .int (x3 ||| ((1 : Int32) <<< (x4 &&& 31)))), (0, .ref h0), (1, .ref h_a1), (2, .int x2), (4, .int x4)]) hx hb dX4_mayOf_107 rfl hl (by decide) rfl (fun ls hl => ?_)
              refine lv_iinc (v := (x4 + 1)) (lv' := [(4, .int (x4 + 1)), (3, .int (x3 ||| ((1 : Int32) <<< (x4 &&& 31)))), (0, .ref h0), (1, .ref h_a1), (2, .int x2)]) hx hb dX4_mayOf_108 hl (k := 4) rfl rfl (by decide) rfl (fun ls hl => ?_)
              refine lv_goto (tgt := 55) hx hb dX4_mayOf_111 (by decide) ?_
              exact ih55 x2 (x3 ||| ((1 : Int32) <<< (x4 &&& 31))) (x4 + 1) _ _ _ hP hS (lv_sub hl [2, 3, 4, 1, 0] rfl) hf
  have hC4 : ∀ (n : Nat) (x2 : Int32) (x3 : Int32) (H : Heap) (locs : List Loc) (ls : Array Slot), va_P (gD G) vwCl [(h0, moE ad s_thrown s_textSize s_place s_people s_readPeople s_acts s_seen s_seed s_rowSize s_feedMany s_feedRow s_restMany s_restFirst), (ad 5, aI G 7 q_kind), (h_a1, aI G 17 q_a1)] H → va_S noA s.heap H locs → lv_has ls 5 [(0, .ref h0), (1, .ref h_a1), (2, .int x2), (3, .int x3)] → fX4_mayOf_4 s_people q_kind q_a1 n x2 x3 = some out → W p l e ({ frames := 2, cells := 0, slots := 0, locals := 45 }) s m args below meth c H locs 0 0 Q (F0 m 4 ls []) := by
    intro n4
    induction n4 with
    | zero => intro x2 x3 H locs ls hP hS hl hf; exact absurd (show none = some out from hf) (fun z => by cases z)
    | succ n4 ih4 =>
      intro x2 x3 H locs ls hP hS hl hf
      refine lv_iload_n hx hb dX4_mayOf_4 rfl (lv_at hl 3 rfl) ?_
      refine lv_aload_n hx hb dX4_mayOf_5 rfl (lv_at hl 0 rfl) ?_
      refine va_get (D := gD G) (ci := 4) (v := .int s_people) (C := RX4) (T := TX4) (N := 29) hx hb hts hi_X4 hown hK.1 hP 0 rfl rfl 4 (by decide) kl_64 (fun _ h9 => h9) rfl dX4_mayOf_6 ?_
      refine lv_icmp_ge (tgt := 50) hx hb dX4_mayOf_9 (by decide) (fun c1 => ?_) (fun c1 => ?_)
      · have hf := iteT hf c1
        refine lv_iconst (v := 0) hx hb dX4_mayOf_50 (by decide) ?_
        refine lv_istore_n (lv' := [(3, .int 0), (0, .ref h0), (1, .ref h_a1), (2, .int x2)]) hx hb dX4_mayOf_51 rfl hl (by decide) rfl (fun ls hl => ?_)
        refine lv_iconst (v := 0) hx hb dX4_mayOf_52 (by decide) ?_
        refine lv_istore (lv' := [(4, .int 0), (3, .int 0), (0, .ref h0), (1, .ref h_a1), (2, .int x2)]) hx hb dX4_mayOf_53 hl (by decide) rfl (fun ls hl => ?_)
        exact hC55 9 x2 0 0 _ _ _ hP hS (lv_sub hl [2, 3, 4, 1, 0] rfl) hf
      · have hf := iteF hf c1
        refine lv_aload_n hx hb dX4_mayOf_12 rfl (lv_at hl 1 rfl) ?_
        refine lv_bipush (v := 14) hx hb dX4_mayOf_13 (by decide) ?_
        obtain ⟨hi13, hf⟩ := ckS hf
        refine va_iald hx hb hK.1 hP 2 0 rfl rfl hi13 dX4_mayOf_15 ?_
        refine lv_iload_n hx hb dX4_mayOf_16 rfl (lv_at hl 3 rfl) ?_
        obtain ⟨o14, hc15, hf⟩ := bindS hf
        refine ro_i (va_runS (As := [.int (q_a1 (Int32.toNatClampNeg 14)), .int x3]) (rest := []) ⟨hx, hb, hml, hown, hts⟩ (ctX4_has l G (q_a1 (Int32.toNatClampNeg 14)) x3 o14 hc15) (va_cwS 2 hts gX4_mayOf_X4_has rfl rfl rfl (by decide +kernel) ⟨Nat.le_of_ble_eq_true rfl, Nat.le_of_ble_eq_true rfl⟩) (preR_S (hP.sub (ws' := []) [] rfl) hK) rfl rfl hl.1 rfl (lv_room (Nat.le_of_ble_eq_true rfl)) dX4_mayOf_17 ⟨Nat.zero_le _, Nat.zero_le _⟩) hS hP (fun H locs hP hS => ?_)
        refine lv_if_eq (tgt := 42) hx hb dX4_mayOf_20 (by decide) (fun c16 => ?_) (fun c16 => ?_)
        · have hf := iteT hf c16
          refine lv_iload_n hx hb dX4_mayOf_42 rfl (lv_at hl 2 rfl) ?_
          refine lv_istore_n (lv' := [(2, .int x2), (0, .ref h0), (1, .ref h_a1), (3, .int x3)]) hx hb dX4_mayOf_43 rfl hl (by decide) rfl (fun ls hl => ?_)
          refine lv_iinc (v := (x3 + 1)) (lv' := [(3, .int (x3 + 1)), (2, .int x2), (0, .ref h0), (1, .ref h_a1)]) hx hb dX4_mayOf_44 hl (k := 3) rfl rfl (by decide) rfl (fun ls hl => ?_)
          refine lv_goto (tgt := 4) hx hb dX4_mayOf_47 (by decide) ?_
          exact ih4 x2 (x3 + 1) _ _ _ hP hS (lv_sub hl [2, 3, 1, 0] rfl) hf
        · have hf := iteF hf c16
          refine lv_aload_n hx hb dX4_mayOf_23 rfl (lv_at hl 0 rfl) ?_
          refine lv_aload_n hx hb dX4_mayOf_24 rfl (lv_at hl 1 rfl) ?_
          refine lv_iload_n hx hb dX4_mayOf_25 rfl (lv_at hl 3 rfl) ?_
          obtain ⟨o17, hc18, hf⟩ := bindS hf
          refine ro_i (va_runV (C := RX4) (As := [.ref h_a1, .int x3]) (rest := []) ⟨hx, hb, hml, hown, hts⟩ (ctX4_gradeOf l G h0 h_a1 ad s_thrown s_textSize s_place s_people s_readPeople s_acts s_seen s_seed s_rowSize s_feedMany s_feedRow s_restMany s_restFirst q_kind q_a1 x3 o17 hc18) (cwV 2 hts gX4_mayOf_X4_gradeOf rfl rfl rfl (by decide +kernel) ⟨Nat.le_of_ble_eq_true rfl, Nat.le_of_ble_eq_true rfl⟩) (preR_V (q0 := 0) (ci := 4) (hP.sub (ws' := [(h0, moE ad s_thrown s_textSize s_place s_people s_readPeople s_acts s_seen s_seed s_rowSize s_feedMany s_feedRow s_restMany s_restFirst), (ad 5, aI G 7 q_kind), (h_a1, aI G 17 q_a1)]) [0, 1, 2] rfl) hK rfl rfl) rfl rfl hl.1 rfl (lv_room (Nat.le_of_ble_eq_true rfl)) dX4_mayOf_26 ⟨Nat.zero_le _, Nat.zero_le _⟩) hS hP (fun H locs hP hS => ?_)
          refine lv_iload_n hx hb dX4_mayOf_29 rfl (lv_at hl 2 rfl) ?_
          refine lv_icmp_le (tgt := 42) hx hb dX4_mayOf_30 (by decide) (fun c19 => ?_) (fun c19 => ?_)
          · have hf := iteT hf c19
            refine lv_iload_n hx hb dX4_mayOf_42 rfl (lv_at hl 2 rfl) ?_
            refine lv_istore_n (lv' := [(2, .int x2), (0, .ref h0), (1, .ref h_a1), (3, .int x3)]) hx hb dX4_mayOf_43 rfl hl (by decide) rfl (fun ls hl => ?_)
            refine lv_iinc (v := (x3 + 1)) (lv' := [(3, .int (x3 + 1)), (2, .int x2), (0, .ref h0), (1, .ref h_a1)]) hx hb dX4_mayOf_44 hl (k := 3) rfl rfl (by decide) rfl (fun ls hl => ?_)
            refine lv_goto (tgt := 4) hx hb dX4_mayOf_47 (by decide) ?_
            exact ih4 x2 (x3 + 1) _ _ _ hP hS (lv_sub hl [2, 3, 1, 0] rfl) hf
          · have hf := iteF hf c19
            refine lv_aload_n hx hb dX4_mayOf_33 rfl (lv_at hl 0 rfl) ?_
            refine lv_aload_n hx hb dX4_mayOf_34 rfl (lv_at hl 1 rfl) ?_
            refine lv_iload_n hx hb dX4_mayOf_35 rfl (lv_at hl 3 rfl) ?_
            obtain ⟨o20, hc21, hf⟩ := bindS hf
            refine ro_i (va_runV (C := RX4) (As := [.ref h_a1, .int x3]) (rest := []) ⟨hx, hb, hml, hown, hts⟩ (ctX4_gradeOf l G h0 h_a1 ad s_thrown s_textSize s_place s_people s_readPeople s_acts s_seen s_seed s_rowSize s_feedMany s_feedRow s_restMany s_restFirst q_kind q_a1 x3 o20 hc21) (cwV 2 hts gX4_mayOf_X4_gradeOf rfl rfl rfl (by decide +kernel) ⟨Nat.le_of_ble_eq_true rfl, Nat.le_of_ble_eq_true rfl⟩) (preR_V (q0 := 0) (ci := 4) (hP.sub (ws' := [(h0, moE ad s_thrown s_textSize s_place s_people s_readPeople s_acts s_seen s_seed s_rowSize s_feedMany s_feedRow s_restMany s_restFirst), (ad 5, aI G 7 q_kind), (h_a1, aI G 17 q_a1)]) [0, 1, 2] rfl) hK rfl rfl) rfl rfl hl.1 rfl (lv_room (Nat.le_of_ble_eq_true rfl)) dX4_mayOf_36 ⟨Nat.zero_le _, Nat.zero_le _⟩) hS hP (fun H locs hP hS => ?_)
            refine lv_goto (tgt := 43) hx hb dX4_mayOf_39 (by decide) ?_
            refine lv_istore_n (lv' := [(2, .int o20), (0, .ref h0), (1, .ref h_a1), (3, .int x3)]) hx hb dX4_mayOf_43 rfl hl (by decide) rfl (fun ls hl => ?_)
            refine lv_iinc (v := (x3 + 1)) (lv' := [(3, .int (x3 + 1)), (2, .int o20), (0, .ref h0), (1, .ref h_a1)]) hx hb dX4_mayOf_44 hl (k := 3) rfl rfl (by decide) rfl (fun ls hl => ?_)
            refine lv_goto (tgt := 4) hx hb dX4_mayOf_47 (by decide) ?_
            exact ih4 o20 (x3 + 1) _ _ _ hP hS (lv_sub hl [2, 3, 1, 0] rfl) hf
  refine lv_iconst (v := 0) hx hb dX4_mayOf_0 (by decide) ?_
  refine lv_istore_n (lv' := [(2, .int 0), (0, .ref h0), (1, .ref h_a1)]) hx hb dX4_mayOf_1 rfl hl (by decide) rfl (fun ls hl => ?_)
  refine lv_iconst (v := 0) hx hb dX4_mayOf_2 (by decide) ?_
  refine lv_istore_n (lv' := [(3, .int 0), (2, .int 0), (0, .ref h0), (1, .ref h_a1)]) hx hb dX4_mayOf_3 rfl hl (by decide) rfl (fun ls hl => ?_)
  exact hC4 9 0 0 _ _ _ hP hS (lv_sub hl [2, 3, 1, 0] rfl) hf
def fX4_least_2 (a0 : Int32) : Nat → Int32 → Option (Int32)
  | 0, _ => none
  | n + 1, x1 => (fX4_has a0 x1).bind fun o1 => ((if o1 = 0 then (fX4_least_2 a0 n (x1 + 1)) else some x1))
def fX4_least (a0 : Int32) : Option (Int32) :=
  (fX4_least_2 a0 9 0)
set_option maxHeartbeats 4000000 in
set_option maxRecDepth 100000 in
theorem ctX4_least (l : Launch) (G : GG) (a0 : Int32) (out : Int32) (hf : fX4_least a0 = some out) : Met l yX4_least wsX4_least ({ frames := 1, cells := 0, slots := 0, locals := 21 }) (PcR G [.int a0] []) (QiR out) 0 0 noA := by
  refine mk_Ri (cc := cX4_least) (maxL := 2) (by decide) rfl (Nat.le_of_ble_eq_true rfl) ?_
  intro p e s m args below meth c Q ls S hP hK hl hret
  obtain ⟨hx, hb, hml, hown, hts⟩ := S
  have hown : s.vm.findClass RX4 = some m.cls := hown
  have hS : va_S noA s.heap s.heap [] := va_S.rf
  have hl : lv_has ls 2 [(0, .int a0)] := hl
  have hC2 : ∀ (n : Nat) (x1 : Int32) (H : Heap) (locs : List Loc) (ls : Array Slot), va_P (gD G) vwCl [] H → va_S noA s.heap H locs → lv_has ls 2 [(0, .int a0), (1, .int x1)] → fX4_least_2 a0 n x1 = some out → W p l e ({ frames := 1, cells := 0, slots := 0, locals := 21 }) s m args below meth c H locs 0 0 Q (F0 m 2 ls []) := by
    intro n2
    induction n2 with
    | zero => intro x1 H locs ls hP hS hl hf; exact absurd (show none = some out from hf) (fun z => by cases z)
    | succ n2 ih2 =>
      intro x1 H locs ls hP hS hl hf
      refine lv_iload_n hx hb dX4_least_2 rfl (lv_at hl 0 rfl) ?_
      refine lv_iload_n hx hb dX4_least_3 rfl (lv_at hl 1 rfl) ?_
      obtain ⟨o1, hc2, hf⟩ := bindS hf
      refine ro_i (va_runS (As := [.int a0, .int x1]) (rest := []) ⟨hx, hb, hml, hown, hts⟩ (ctX4_has l G a0 x1 o1 hc2) (va_cwS 2 hts gX4_least_X4_has rfl rfl rfl (by decide +kernel) ⟨Nat.le_of_ble_eq_true rfl, Nat.le_of_ble_eq_true rfl⟩) (preR_S (hP.sub (ws' := []) [] rfl) hK) rfl rfl hl.1 rfl (lv_room (Nat.le_of_ble_eq_true rfl)) dX4_least_4 ⟨Nat.zero_le _, Nat.zero_le _⟩) hS hP (fun H locs hP hS => ?_)
      refine lv_if_ne (tgt := 16) hx hb dX4_least_7 (by decide) (fun c3 => ?_) (fun c3 => ?_)
      · have hf := iteF hf c3
        refine lv_iload_n hx hb dX4_least_16 rfl (lv_at hl 1 rfl) ?_
        have hv := Option.some.inj hf
        exact hret _ _ _ _ _ hS hv dX4_least_17
      · have hf := iteT hf c3
        refine lv_iinc (v := (x1 + 1)) (lv' := [(1, .int (x1 + 1)), (0, .int a0)]) hx hb dX4_least_10 hl (k := 1) rfl rfl (by decide) rfl (fun ls hl => ?_)
        refine lv_goto (tgt := 2) hx hb dX4_least_13 (by decide) ?_
        exact ih2 (x1 + 1) _ _ _ hP hS (lv_sub hl [1, 0] rfl) hf
  refine lv_iconst (v := 0) hx hb dX4_least_0 (by decide) ?_
  refine lv_istore_n (lv' := [(1, .int 0), (0, .int a0)]) hx hb dX4_least_1 rfl hl (by decide) rfl (fun ls hl => ?_)
  exact hC2 9 0 _ _ _ hP hS (lv_sub hl [1, 0] rfl) hf
def fX4_begin_2 (q_page : Nat → Int32) : Nat → Int32 → (Nat → Int32) → Option ((Nat → Int32))
  | 0, _, _ => none
  | n + 1, x1, q_trial => (if 17 ≤ x1 then some q_trial else ck x1 17 (ck x1 17 ((fX4_begin_2 q_page n (x1 + 1) (upd q_trial (Int32.toNatClampNeg x1) (q_page (Int32.toNatClampNeg x1)))))))
def fX4_begin (q_page : Nat → Int32) (q_trial : Nat → Int32) : Option ((Nat → Int32)) :=
  (fX4_begin_2 q_page 20 0 q_trial)
set_option maxHeartbeats 4000000 in
set_option maxRecDepth 100000 in
theorem ctX4_begin (l : Launch) (G : GG) (h0 : Nat) (ad : Nat → Nat) (s_thrown : Int32) (s_textSize : Int32) (s_place : Int32) (s_people : Int32) (s_readPeople : Int32) (s_acts : Int32) (s_seen : Int32) (s_seed : Int64) (s_rowSize : Int32) (s_feedMany : Int32) (s_feedRow : Int32) (s_restMany : Int32) (s_restFirst : Int32) (q_page : Nat → Int32) (q_trial : Nat → Int32) (out : (Nat → Int32)) (hf : fX4_begin q_page q_trial = some out) : Met l yX4_begin wsX4_begin ({ frames := 0, cells := 0, slots := 0, locals := 0 }) (PcW G [.ref h0] [(h0, moE ad s_thrown s_textSize s_place s_people s_readPeople s_acts s_seen s_seed s_rowSize s_feedMany s_feedRow s_restMany s_restFirst), (ad 10, aI G 17 q_page), (ad 11, aI G 17 q_trial)]) (QvW G [(h0, moE ad s_thrown s_textSize s_place s_people s_readPeople s_acts s_seen s_seed s_rowSize s_feedMany s_feedRow s_restMany s_restFirst), (ad 10, aI G 17 q_page), (ad 11, aI G 17 q_trial)] [(h0, moE ad s_thrown s_textSize s_place s_people s_readPeople s_acts s_seen s_seed s_rowSize s_feedMany s_feedRow s_restMany s_restFirst), (ad 10, aI G 17 q_page), (ad 11, aI G 17 out)]) 0 0 (inA [(h0, moE ad s_thrown s_textSize s_place s_people s_readPeople s_acts s_seen s_seed s_rowSize s_feedMany s_feedRow s_restMany s_restFirst), (ad 10, aI G 17 q_page), (ad 11, aI G 17 q_trial)]) := by
  refine mk_Wv (cc := cX4_begin) (maxL := 2) (by decide) rfl (Nat.le_of_ble_eq_true rfl) ?_
  intro p e s m args below meth c Q ls A S hP hK hD hl hret
  obtain ⟨hx, hb, hml, hown, hts⟩ := S
  have hown : s.vm.findClass RX4 = some m.cls := hown
  have kl_28 := hts (.fieldLink RX4 28 "ArrestOrderModel" "trial" "[I") (by decide +kernel)
  have hi_X4 : ∀ w ∈ wsX40, w ∈ wsX4_begin := fun _ h => List.mem_cons_of_mem _ (List.mem_append_right _ h)
  have kl_25 := hts (.fieldLink RX4 25 "ArrestOrderModel" "page" "[I") (by decide +kernel)
  have hS : va_S A s.heap s.heap [] := va_S.rf
  have hl : lv_has ls 2 [(0, .ref h0)] := hl
  have hC2 : ∀ (n : Nat) (x1 : Int32) (q_trial : Nat → Int32) (H : Heap) (locs : List Loc) (ls : Array Slot), va_P (gD G) vwCl [(h0, moE ad s_thrown s_textSize s_place s_people s_readPeople s_acts s_seen s_seed s_rowSize s_feedMany s_feedRow s_restMany s_restFirst), (ad 10, aI G 17 q_page), (ad 11, aI G 17 q_trial)] H → va_D A [(h0, moE ad s_thrown s_textSize s_place s_people s_readPeople s_acts s_seen s_seed s_rowSize s_feedMany s_feedRow s_restMany s_restFirst), (ad 10, aI G 17 q_page), (ad 11, aI G 17 q_trial)] → va_S A s.heap H locs → lv_has ls 2 [(0, .ref h0), (1, .int x1)] → fX4_begin_2 q_page n x1 q_trial = some out → W p l e ({ frames := 0, cells := 0, slots := 0, locals := 0 }) s m args below meth c H locs 0 0 Q (F0 m 2 ls []) := by
    intro n2
    induction n2 with
    | zero => intro x1 q_trial H locs ls hP hD hS hl hf; exact absurd (show none = some out from hf) (fun z => by cases z)
    | succ n2 ih2 =>
      intro x1 q_trial H locs ls hP hD hS hl hf
      refine lv_iload_n hx hb dX4_begin_2 rfl (lv_at hl 1 rfl) ?_
      refine lv_bipush (v := 17) hx hb dX4_begin_3 (by decide) ?_
      refine lv_icmp_ge (tgt := 26) hx hb dX4_begin_5 (by decide) (fun c1 => ?_) (fun c1 => ?_)
      · have hf := iteT hf c1
        have hv := Option.some.inj hf
        exact hret _ _ _ _ (by rw [← hv]; exact hP) hS dX4_begin_26
      · have hf := iteF hf c1
        refine lv_aload_n hx hb dX4_begin_8 rfl (lv_at hl 0 rfl) ?_
        refine va_get (D := gD G) (ci := 4) (v := .ref (ad 11)) (C := RX4) (T := TX4) (N := 29) hx hb hts hi_X4 hown hK.1 hP 0 rfl rfl 11 (by decide) kl_28 (fun _ h9 => h9) rfl dX4_begin_9 ?_
        refine lv_iload_n hx hb dX4_begin_12 rfl (lv_at hl 1 rfl) ?_
        refine lv_aload_n hx hb dX4_begin_13 rfl (lv_at hl 0 rfl) ?_
        refine va_get (D := gD G) (ci := 4) (v := .ref (ad 10)) (C := RX4) (T := TX4) (N := 29) hx hb hts hi_X4 hown hK.1 hP 0 rfl rfl 10 (by decide) kl_25 (fun _ h9 => h9) rfl dX4_begin_14 ?_
        refine lv_iload_n hx hb dX4_begin_17 rfl (lv_at hl 1 rfl) ?_
        obtain ⟨hi2, hf⟩ := ckS hf
        refine va_iald hx hb hK.1 hP 1 0 rfl rfl hi2 dX4_begin_18 ?_
        obtain ⟨hi3, hf⟩ := ckS hf
        refine va_iast hx hb hK.1 hP hD hS 2 0 rfl rfl hi3 dX4_begin_19 (fun H locs hP hD hS => ?_)
        have hP : va_P (gD G) vwCl [(h0, moE ad s_thrown s_textSize s_place s_people s_readPeople s_acts s_seen s_seed s_rowSize s_feedMany s_feedRow s_restMany s_restFirst), (ad 10, aI G 17 q_page), (ad 11, aI G 17 (upd q_trial (Int32.toNatClampNeg x1) (q_page (Int32.toNatClampNeg x1))))] H := hP
        have hD : va_D A [(h0, moE ad s_thrown s_textSize s_place s_people s_readPeople s_acts s_seen s_seed s_rowSize s_feedMany s_feedRow s_restMany s_restFirst), (ad 10, aI G 17 q_page), (ad 11, aI G 17 (upd q_trial (Int32.toNatClampNeg x1) (q_page (Int32.toNatClampNeg x1))))] := hD
        refine lv_iinc (v := (x1 + 1)) (lv' := [(1, .int (x1 + 1)), (0, .ref h0)]) hx hb dX4_begin_20 hl (k := 1) rfl rfl (by decide) rfl (fun ls hl => ?_)
        refine lv_goto (tgt := 2) hx hb dX4_begin_23 (by decide) ?_
        exact ih2 (x1 + 1) (upd q_trial (Int32.toNatClampNeg x1) (q_page (Int32.toNatClampNeg x1))) _ _ _ hP hD hS (lv_sub hl [1, 0] rfl) hf
  refine lv_iconst (v := 0) hx hb dX4_begin_0 (by decide) ?_
  refine lv_istore_n (lv' := [(1, .int 0), (0, .ref h0)]) hx hb dX4_begin_1 rfl hl (by decide) rfl (fun ls hl => ?_)
  exact hC2 20 0 q_trial _ _ _ hP hD hS (lv_sub hl [1, 0] rfl) hf
def fX4_layFall_14 (s_people : Int32) (q_kind : Nat → Int32) : Nat → Int32 → Int32 → (Nat → Int32) → (Nat → Int32) → Option (Int32 × (Nat → Int32) × (Nat → Int32))
  | 0, _, _, _, _ => none
  | n + 1, x1, s_rowSize, q_trial, q_row => (if x1 = 0 then some (s_rowSize, q_trial, q_row) else (fX4_least x1).bind fun o4 => (ck s_rowSize 7 (ck 14 17 (ck s_rowSize 7 (ck 14 17 ((fX4_mayOf s_people q_kind (upd q_trial (Int32.toNatClampNeg 14) ((q_trial (Int32.toNatClampNeg 14)) &&& (((1 : Int32) <<< (((upd q_row (Int32.toNatClampNeg s_rowSize) o4) (Int32.toNatClampNeg s_rowSize)) &&& 31)) ^^^ (-1))))).bind fun o10 => ((fX4_layFall_14 s_people q_kind n o10 (s_rowSize + 1) (upd q_trial (Int32.toNatClampNeg 14) ((q_trial (Int32.toNatClampNeg 14)) &&& (((1 : Int32) <<< (((upd q_row (Int32.toNatClampNeg s_rowSize) o4) (Int32.toNatClampNeg s_rowSize)) &&& 31)) ^^^ (-1)))) (upd q_row (Int32.toNatClampNeg s_rowSize) o4)))))))))
def fX4_layFall (s_people : Int32) (s_rowSize : Int32) (q_kind : Nat → Int32) (q_trial : Nat → Int32) (q_row : Nat → Int32) : Option (Int32 × (Nat → Int32) × (Nat → Int32)) :=
  (fX4_mayOf s_people q_kind q_trial).bind fun o1 => ((fX4_layFall_14 s_people q_kind 9 o1 0 q_trial q_row))
set_option maxHeartbeats 4000000 in
set_option maxRecDepth 100000 in
theorem ctX4_layFall (l : Launch) (G : GG) (h0 : Nat) (ad : Nat → Nat) (s_thrown : Int32) (s_textSize : Int32) (s_place : Int32) (s_people : Int32) (s_readPeople : Int32) (s_acts : Int32) (s_seen : Int32) (s_seed : Int64) (s_rowSize : Int32) (s_feedMany : Int32) (s_feedRow : Int32) (s_restMany : Int32) (s_restFirst : Int32) (q_kind : Nat → Int32) (q_trial : Nat → Int32) (q_row : Nat → Int32) (out : Int32 × (Nat → Int32) × (Nat → Int32)) (hf : fX4_layFall s_people s_rowSize q_kind q_trial q_row = some out) : Met l yX4_layFall wsX4_layFall ({ frames := 3, cells := 0, slots := 0, locals := 69 }) (PcW G [.ref h0] [(h0, moE ad s_thrown s_textSize s_place s_people s_readPeople s_acts s_seen s_seed s_rowSize s_feedMany s_feedRow s_restMany s_restFirst), (ad 5, aI G 7 q_kind), (ad 11, aI G 17 q_trial), (ad 20, aI G 7 q_row)]) (QvW G [(h0, moE ad s_thrown s_textSize s_place s_people s_readPeople s_acts s_seen s_seed s_rowSize s_feedMany s_feedRow s_restMany s_restFirst), (ad 5, aI G 7 q_kind), (ad 11, aI G 17 q_trial), (ad 20, aI G 7 q_row)] [(h0, moE ad s_thrown s_textSize s_place s_people s_readPeople s_acts s_seen s_seed out.1 s_feedMany s_feedRow s_restMany s_restFirst), (ad 5, aI G 7 q_kind), (ad 11, aI G 17 out.2.1), (ad 20, aI G 7 out.2.2)]) 0 0 (inA [(h0, moE ad s_thrown s_textSize s_place s_people s_readPeople s_acts s_seen s_seed s_rowSize s_feedMany s_feedRow s_restMany s_restFirst), (ad 5, aI G 7 q_kind), (ad 11, aI G 17 q_trial), (ad 20, aI G 7 q_row)]) := by
  refine mk_Wv (cc := cX4_layFall) (maxL := 2) (by decide) rfl (Nat.le_of_ble_eq_true rfl) ?_
  intro p e s m args below meth c Q ls A S hP hK hD hl hret
  obtain ⟨hx, hb, hml, hown, hts⟩ := S
  have hown : s.vm.findClass RX4 = some m.cls := hown
  have kl_121 := hts (.fieldLink RX4 121 "ArrestOrderModel" "rowSize" "I") (by decide +kernel)
  have hi_X4 : ∀ w ∈ wsX40, w ∈ wsX4_layFall := fun _ h => List.mem_cons_of_mem _ (List.mem_append_right _ h)
  have kl_28 := hts (.fieldLink RX4 28 "ArrestOrderModel" "trial" "[I") (by decide +kernel)
  have kl_47 := hts (.fieldLink RX4 47 "ArrestOrderModel" "row" "[I") (by decide +kernel)
  have hS : va_S A s.heap s.heap [] := va_S.rf
  have hl : lv_has ls 2 [(0, .ref h0)] := hl
  have hC14 : ∀ (n : Nat) (x1 : Int32) (s_rowSize : Int32) (q_trial : Nat → Int32) (q_row : Nat → Int32) (H : Heap) (locs : List Loc) (ls : Array Slot), va_P (gD G) vwCl [(h0, moE ad s_thrown s_textSize s_place s_people s_readPeople s_acts s_seen s_seed s_rowSize s_feedMany s_feedRow s_restMany s_restFirst), (ad 5, aI G 7 q_kind), (ad 11, aI G 17 q_trial), (ad 20, aI G 7 q_row)] H → va_D A [(h0, moE ad s_thrown s_textSize s_place s_people s_readPeople s_acts s_seen s_seed s_rowSize s_feedMany s_feedRow s_restMany s_restFirst), (ad 5, aI G 7 q_kind), (ad 11, aI G 17 q_trial), (ad 20, aI G 7 q_row)] → va_S A s.heap H locs → lv_has ls 2 [(0, .ref h0), (1, .int x1)] → fX4_layFall_14 s_people q_kind n x1 s_rowSize q_trial q_row = some out → W p l e ({ frames := 3, cells := 0, slots := 0, locals := 69 }) s m args below meth c H locs 0 0 Q (F0 m 14 ls []) := by
    intro n14
    induction n14 with
    | zero => intro x1 s_rowSize q_trial q_row H locs ls hP hD hS hl hf; exact absurd (show none = some out from hf) (fun z => by cases z)
    | succ n14 ih14 =>
      intro x1 s_rowSize q_trial q_row H locs ls hP hD hS hl hf
      refine lv_iload_n hx hb dX4_layFall_14 rfl (lv_at hl 1 rfl) ?_
      refine lv_if_eq (tgt := 76) hx hb dX4_layFall_15 (by decide) (fun c3 => ?_) (fun c3 => ?_)
      · have hf := iteT hf c3
        have hv := Option.some.inj hf
        exact hret _ _ _ _ (by rw [← hv]; exact hP) hS dX4_layFall_76
      · have hf := iteF hf c3
        refine lv_aload_n hx hb dX4_layFall_18 rfl (lv_at hl 0 rfl) ?_
        refine va_get (D := gD G) (ci := 4) (v := .ref (ad 20)) (C := RX4) (T := TX4) (N := 29) hx hb hts hi_X4 hown hK.1 hP 0 rfl rfl 20 (by decide) kl_47 (fun _ h9 => h9) rfl dX4_layFall_19 ?_
        refine lv_aload_n hx hb dX4_layFall_22 rfl (lv_at hl 0 rfl) ?_
        refine va_get (D := gD G) (ci := 4) (v := .int s_rowSize) (C := RX4) (T := TX4) (N := 29) hx hb hts hi_X4 hown hK.1 hP 0 rfl rfl 21 (by decide) kl_121 (fun _ h9 => h9) rfl dX4_layFall_23 ?_
        refine lv_iload_n hx hb dX4_layFall_26 rfl (lv_at hl 1 rfl) ?_
        obtain ⟨o4, hc5, hf⟩ := bindS hf
        refine ro_i (va_runS (As := [.int x1]) (rest := [.int s_rowSize, .ref (ad 20)]) ⟨hx, hb, hml, hown, hts⟩ (ctX4_least l G x1 o4 hc5) (va_cwS 1 hts gX4_layFall_X4_least rfl rfl rfl (by decide +kernel) ⟨Nat.le_of_ble_eq_true rfl, Nat.le_of_ble_eq_true rfl⟩) (preR_S (hP.sub (ws' := []) [] rfl) hK) rfl rfl hl.1 rfl (lv_room (Nat.le_of_ble_eq_true rfl)) dX4_layFall_27 ⟨Nat.zero_le _, Nat.zero_le _⟩) hS hP (fun H locs hP hS => ?_)
        obtain ⟨hi6, hf⟩ := ckS hf
        refine va_iast hx hb hK.1 hP hD hS 3 0 rfl rfl hi6 dX4_layFall_30 (fun H locs hP hD hS => ?_)
        have hP : va_P (gD G) vwCl [(h0, moE ad s_thrown s_textSize s_place s_people s_readPeople s_acts s_seen s_seed s_rowSize s_feedMany s_feedRow s_restMany s_restFirst), (ad 5, aI G 7 q_kind), (ad 11, aI G 17 q_trial), (ad 20, aI G 7 (upd q_row (Int32.toNatClampNeg s_rowSize) o4))] H := hP
        have hD : va_D A [(h0, moE ad s_thrown s_textSize s_place s_people s_readPeople s_acts s_seen s_seed s_rowSize s_feedMany s_feedRow s_restMany s_restFirst), (ad 5, aI G 7 q_kind), (ad 11, aI G 17 q_trial), (ad 20, aI G 7 (upd q_row (Int32.toNatClampNeg s_rowSize) o4))] := hD
        refine lv_aload_n hx hb dX4_layFall_31 rfl (lv_at hl 0 rfl) ?_
        refine va_get (D := gD G) (ci := 4) (v := .ref (ad 11)) (C := RX4) (T := TX4) (N := 29) hx hb hts hi_X4 hown hK.1 hP 0 rfl rfl 11 (by decide) kl_28 (fun _ h9 => h9) rfl dX4_layFall_32 ?_
        refine lv_bipush (v := 14) hx hb dX4_layFall_35 (by decide) ?_
        refine lv_dup2_11 hx hb dX4_layFall_37 rfl rfl ?_
        obtain ⟨hi7, hf⟩ := ckS hf
        refine va_iald hx hb hK.1 hP 2 0 rfl rfl hi7 dX4_layFall_38 ?_
        refine lv_iconst (v := 1) hx hb dX4_layFall_39 (by decide) ?_
        refine lv_aload_n hx hb dX4_layFall_40 rfl (lv_at hl 0 rfl) ?_
        refine va_get (D := gD G) (ci := 4) (v := .ref (ad 20)) (C := RX4) (T := TX4) (N := 29) hx hb hts hi_X4 hown hK.1 hP 0 rfl rfl 20 (by decide) kl_47 (fun _ h9 => h9) rfl dX4_layFall_41 ?_
        refine lv_aload_n hx hb dX4_layFall_44 rfl (lv_at hl 0 rfl) ?_
        refine va_get (D := gD G) (ci := 4) (v := .int s_rowSize) (C := RX4) (T := TX4) (N := 29) hx hb hts hi_X4 hown hK.1 hP 0 rfl rfl 21 (by decide) kl_121 (fun _ h9 => h9) rfl dX4_layFall_45 ?_
        obtain ⟨hi8, hf⟩ := ckS hf
        refine va_iald hx hb hK.1 hP 3 0 rfl rfl hi8 dX4_layFall_48 ?_
        refine lv_ishl hx hb dX4_layFall_49 ?_
        refine lv_iconst (v := (-1)) hx hb dX4_layFall_50 (by decide) ?_
        refine lv_ixor hx hb dX4_layFall_51 ?_
        refine lv_iand hx hb dX4_layFall_52 ?_
        obtain ⟨hi9, hf⟩ := ckS hf
        refine va_iast hx hb hK.1 hP hD hS 2 0 rfl rfl hi9 dX4_layFall_53 (fun H locs hP hD hS => ?_)
        have hP : va_P (gD G) vwCl [(h0, moE ad s_thrown s_textSize s_place s_people s_readPeople s_acts s_seen s_seed s_rowSize s_feedMany s_feedRow s_restMany s_restFirst), (ad 5, aI G 7 q_kind), (ad 11, aI G 17 (upd q_trial (Int32.toNatClampNeg 14) ((q_trial (Int32.toNatClampNeg 14)) &&& (((1 : Int32) <<< (((upd q_row (Int32.toNatClampNeg s_rowSize) o4) (Int32.toNatClampNeg s_rowSize)) &&& 31)) ^^^ (-1))))), (ad 20, aI G 7 (upd q_row (Int32.toNatClampNeg s_rowSize) o4))] H := hP
        have hD : va_D A [(h0, moE ad s_thrown s_textSize s_place s_people s_readPeople s_acts s_seen s_seed s_rowSize s_feedMany s_feedRow s_restMany s_restFirst), (ad 5, aI G 7 q_kind), (ad 11, aI G 17 (upd q_trial (Int32.toNatClampNeg 14) ((q_trial (Int32.toNatClampNeg 14)) &&& (((1 : Int32) <<< (((upd q_row (Int32.toNatClampNeg s_rowSize) o4) (Int32.toNatClampNeg s_rowSize)) &&& 31)) ^^^ (-1))))), (ad 20, aI G 7 (upd q_row (Int32.toNatClampNeg s_rowSize) o4))] := hD
        refine lv_aload_n hx hb dX4_layFall_54 rfl (lv_at hl 0 rfl) ?_
        refine lv_dup hx hb dX4_layFall_55 rfl ?_
        refine va_get (D := gD G) (ci := 4) (v := .int s_rowSize) (C := RX4) (T := TX4) (N := 29) hx hb hts hi_X4 hown hK.1 hP 0 rfl rfl 21 (by decide) kl_121 (fun _ h9 => h9) rfl dX4_layFall_56 ?_
        refine lv_iconst (v := 1) hx hb dX4_layFall_59 (by decide) ?_
        refine lv_iadd hx hb dX4_layFall_60 ?_
        refine va_put (D := gD G) (ci := 4) (v := .int (s_rowSize + 1)) (ty := .int) (C := RX4) (T := TX4) (N := 29) hx hb hts hi_X4 tyX4 tyX4_ok nmX4 hown hK.1 hP hD hS 0 rfl rfl 21 (by decide) kl_121 (fun _ h9 => h9) rfl (tyX4_ok 21 (by decide)) rfl rfl (Nat.le_of_ble_eq_true rfl) dX4_layFall_61 (fun H locs hP hD hS => ?_)
        have hP : va_P (gD G) vwCl [(h0, moE ad s_thrown s_textSize s_place s_people s_readPeople s_acts s_seen s_seed (s_rowSize + 1) s_feedMany s_feedRow s_restMany s_restFirst), (ad 5, aI G 7 q_kind), (ad 11, aI G 17 (upd q_trial (Int32.toNatClampNeg 14) ((q_trial (Int32.toNatClampNeg 14)) &&& (((1 : Int32) <<< (((upd q_row (Int32.toNatClampNeg s_rowSize) o4) (Int32.toNatClampNeg s_rowSize)) &&& 31)) ^^^ (-1))))), (ad 20, aI G 7 (upd q_row (Int32.toNatClampNeg s_rowSize) o4))] H := hP
        have hD : va_D A [(h0, moE ad s_thrown s_textSize s_place s_people s_readPeople s_acts s_seen s_seed (s_rowSize + 1) s_feedMany s_feedRow s_restMany s_restFirst), (ad 5, aI G 7 q_kind), (ad 11, aI G 17 (upd q_trial (Int32.toNatClampNeg 14) ((q_trial (Int32.toNatClampNeg 14)) &&& (((1 : Int32) <<< (((upd q_row (Int32.toNatClampNeg s_rowSize) o4) (Int32.toNatClampNeg s_rowSize)) &&& 31)) ^^^ (-1))))), (ad 20, aI G 7 (upd q_row (Int32.toNatClampNeg s_rowSize) o4))] := hD
        refine lv_aload_n hx hb dX4_layFall_64 rfl (lv_at hl 0 rfl) ?_
        refine lv_aload_n hx hb dX4_layFall_65 rfl (lv_at hl 0 rfl) ?_
        refine va_get (D := gD G) (ci := 4) (v := .ref (ad 11)) (C := RX4) (T := TX4) (N := 29) hx hb hts hi_X4 hown hK.1 hP 0 rfl rfl 11 (by decide) kl_28 (fun _ h9 => h9) rfl dX4_layFall_66 ?_
        obtain ⟨o10, hc11, hf⟩ := bindS hf
        refine ro_i (va_runV (C := RX4) (As := [.ref (ad 11)]) (rest := []) ⟨hx, hb, hml, hown, hts⟩ (ctX4_mayOf l G h0 (ad 11) ad s_thrown s_textSize s_place s_people s_readPeople s_acts s_seen s_seed (s_rowSize + 1) s_feedMany s_feedRow s_restMany s_restFirst q_kind (upd q_trial (Int32.toNatClampNeg 14) ((q_trial (Int32.toNatClampNeg 14)) &&& (((1 : Int32) <<< (((upd q_row (Int32.toNatClampNeg s_rowSize) o4) (Int32.toNatClampNeg s_rowSize)) &&& 31)) ^^^ (-1)))) o10 hc11) (cwV 1 hts gX4_layFall_X4_mayOf rfl rfl rfl (by decide +kernel) ⟨Nat.le_of_ble_eq_true rfl, Nat.le_of_ble_eq_true rfl⟩) (preR_V (q0 := 0) (ci := 4) (hP.sub (ws' := [(h0, moE ad s_thrown s_textSize s_place s_people s_readPeople s_acts s_seen s_seed (s_rowSize + 1) s_feedMany s_feedRow s_restMany s_restFirst), (ad 5, aI G 7 q_kind), (ad 11, aI G 17 (upd q_trial (Int32.toNatClampNeg 14) ((q_trial (Int32.toNatClampNeg 14)) &&& (((1 : Int32) <<< (((upd q_row (Int32.toNatClampNeg s_rowSize) o4) (Int32.toNatClampNeg s_rowSize)) &&& 31)) ^^^ (-1)))))]) [0, 1, 2] rfl) hK rfl rfl) rfl rfl hl.1 rfl (lv_room (Nat.le_of_ble_eq_true rfl)) dX4_layFall_69 ⟨Nat.zero_le _, Nat.zero_le _⟩) hS hP (fun H locs hP hS => ?_)
        refine lv_istore_n (lv' := [(1, .int o10), (0, .ref h0)]) hx hb dX4_layFall_72 rfl hl (by decide) rfl (fun ls hl => ?_)
        refine lv_goto (tgt := 14) hx hb dX4_layFall_73 (by decide) ?_
        exact ih14 o10 (s_rowSize + 1) (upd q_trial (Int32.toNatClampNeg 14) ((q_trial (Int32.toNatClampNeg 14)) &&& (((1 : Int32) <<< (((upd q_row (Int32.toNatClampNeg s_rowSize) o4) (Int32.toNatClampNeg s_rowSize)) &&& 31)) ^^^ (-1)))) (upd q_row (Int32.toNatClampNeg s_rowSize) o4) _ _ _ hP hD hS (lv_sub hl [1, 0] rfl) hf
  refine lv_aload_n hx hb dX4_layFall_0 rfl (lv_at hl 0 rfl) ?_
  refine lv_iconst (v := 0) hx hb dX4_layFall_1 (by decide) ?_
  refine va_put (D := gD G) (ci := 4) (v := .int 0) (ty := .int) (C := RX4) (T := TX4) (N := 29) hx hb hts hi_X4 tyX4 tyX4_ok nmX4 hown hK.1 hP hD hS 0 rfl rfl 21 (by decide) kl_121 (fun _ h9 => h9) rfl (tyX4_ok 21 (by decide)) rfl rfl (Nat.le_of_ble_eq_true rfl) dX4_layFall_2 (fun H locs hP hD hS => ?_)
  have hP : va_P (gD G) vwCl [(h0, moE ad s_thrown s_textSize s_place s_people s_readPeople s_acts s_seen s_seed 0 s_feedMany s_feedRow s_restMany s_restFirst), (ad 5, aI G 7 q_kind), (ad 11, aI G 17 q_trial), (ad 20, aI G 7 q_row)] H := hP
  have hD : va_D A [(h0, moE ad s_thrown s_textSize s_place s_people s_readPeople s_acts s_seen s_seed 0 s_feedMany s_feedRow s_restMany s_restFirst), (ad 5, aI G 7 q_kind), (ad 11, aI G 17 q_trial), (ad 20, aI G 7 q_row)] := hD
  refine lv_aload_n hx hb dX4_layFall_5 rfl (lv_at hl 0 rfl) ?_
  refine lv_aload_n hx hb dX4_layFall_6 rfl (lv_at hl 0 rfl) ?_
  refine va_get (D := gD G) (ci := 4) (v := .ref (ad 11)) (C := RX4) (T := TX4) (N := 29) hx hb hts hi_X4 hown hK.1 hP 0 rfl rfl 11 (by decide) kl_28 (fun _ h9 => h9) rfl dX4_layFall_7 ?_
  obtain ⟨o1, hc2, hf⟩ := bindS hf
  refine ro_i (va_runV (C := RX4) (As := [.ref (ad 11)]) (rest := []) ⟨hx, hb, hml, hown, hts⟩ (ctX4_mayOf l G h0 (ad 11) ad s_thrown s_textSize s_place s_people s_readPeople s_acts s_seen s_seed 0 s_feedMany s_feedRow s_restMany s_restFirst q_kind q_trial o1 hc2) (cwV 1 hts gX4_layFall_X4_mayOf rfl rfl rfl (by decide +kernel) ⟨Nat.le_of_ble_eq_true rfl, Nat.le_of_ble_eq_true rfl⟩) (preR_V (q0 := 0) (ci := 4) (hP.sub (ws' := [(h0, moE ad s_thrown s_textSize s_place s_people s_readPeople s_acts s_seen s_seed 0 s_feedMany s_feedRow s_restMany s_restFirst), (ad 5, aI G 7 q_kind), (ad 11, aI G 17 q_trial)]) [0, 1, 2] rfl) hK rfl rfl) rfl rfl hl.1 rfl (lv_room (Nat.le_of_ble_eq_true rfl)) dX4_layFall_10 ⟨Nat.zero_le _, Nat.zero_le _⟩) hS hP (fun H locs hP hS => ?_)
  refine lv_istore_n (lv' := [(1, .int o1), (0, .ref h0)]) hx hb dX4_layFall_13 rfl hl (by decide) rfl (fun ls hl => ?_)
  exact hC14 9 o1 0 q_trial q_row _ _ _ hP hD hS (lv_sub hl [1, 0] rfl) hf
def fX4_placeOf_5 (s_rowSize : Int32) (q_row : Nat → Int32) (a1 : Int32) : Nat → Int32 → Int32 → Option (Int32)
  | 0, _, _ => none
  | n + 1, x2, x3 => (if s_rowSize ≤ x3 then some x2 else ck x3 7 ((if (q_row (Int32.toNatClampNeg x3)) = a1 then (fX4_placeOf_5 s_rowSize q_row a1 n x3 (x3 + 1)) else (fX4_placeOf_5 s_rowSize q_row a1 n x2 (x3 + 1)))))
def fX4_placeOf (s_rowSize : Int32) (q_row : Nat → Int32) (a1 : Int32) : Option (Int32) :=
  (fX4_placeOf_5 s_rowSize q_row a1 9 (-9) 0)
set_option maxHeartbeats 4000000 in
set_option maxRecDepth 100000 in
theorem ctX4_placeOf (l : Launch) (G : GG) (h0 : Nat) (ad : Nat → Nat) (s_thrown : Int32) (s_textSize : Int32) (s_place : Int32) (s_people : Int32) (s_readPeople : Int32) (s_acts : Int32) (s_seen : Int32) (s_seed : Int64) (s_rowSize : Int32) (s_feedMany : Int32) (s_feedRow : Int32) (s_restMany : Int32) (s_restFirst : Int32) (q_row : Nat → Int32) (a1 : Int32) (out : Int32) (hf : fX4_placeOf s_rowSize q_row a1 = some out) : Met l yX4_placeOf wsX4_placeOf ({ frames := 0, cells := 0, slots := 0, locals := 0 }) (PcR G [.ref h0, .int a1] [(h0, moE ad s_thrown s_textSize s_place s_people s_readPeople s_acts s_seen s_seed s_rowSize s_feedMany s_feedRow s_restMany s_restFirst), (ad 20, aI G 7 q_row)]) (QiR out) 0 0 noA := by
  refine mk_Ri (cc := cX4_placeOf) (maxL := 4) (by decide) rfl (Nat.le_of_ble_eq_true rfl) ?_
  intro p e s m args below meth c Q ls S hP hK hl hret
  obtain ⟨hx, hb, hml, hown, hts⟩ := S
  have hown : s.vm.findClass RX4 = some m.cls := hown
  have kl_121 := hts (.fieldLink RX4 121 "ArrestOrderModel" "rowSize" "I") (by decide +kernel)
  have hi_X4 : ∀ w ∈ wsX40, w ∈ wsX4_placeOf := fun _ h => List.mem_cons_of_mem _ (List.mem_append_right _ h)
  have kl_47 := hts (.fieldLink RX4 47 "ArrestOrderModel" "row" "[I") (by decide +kernel)
  have hS : va_S noA s.heap s.heap [] := va_S.rf
  have hl : lv_has ls 4 [(0, .ref h0), (1, .int a1)] := hl
  have hC5 : ∀ (n : Nat) (x2 : Int32) (x3 : Int32) (H : Heap) (locs : List Loc) (ls : Array Slot), va_P (gD G) vwCl [(h0, moE ad s_thrown s_textSize s_place s_people s_readPeople s_acts s_seen s_seed s_rowSize s_feedMany s_feedRow s_restMany s_restFirst), (ad 20, aI G 7 q_row)] H → va_S noA s.heap H locs → lv_has ls 4 [(0, .ref h0), (1, .int a1), (2, .int x2), (3, .int x3)] → fX4_placeOf_5 s_rowSize q_row a1 n x2 x3 = some out → W p l e ({ frames := 0, cells := 0, slots := 0, locals := 0 }) s m args below meth c H locs 0 0 Q (F0 m 5 ls []) := by
    intro n5
    induction n5 with
    | zero => intro x2 x3 H locs ls hP hS hl hf; exact absurd (show none = some out from hf) (fun z => by cases z)
    | succ n5 ih5 =>
      intro x2 x3 H locs ls hP hS hl hf
      refine lv_iload_n hx hb dX4_placeOf_5 rfl (lv_at hl 3 rfl) ?_
      refine lv_aload_n hx hb dX4_placeOf_6 rfl (lv_at hl 0 rfl) ?_
      refine va_get (D := gD G) (ci := 4) (v := .int s_rowSize) (C := RX4) (T := TX4) (N := 29) hx hb hts hi_X4 hown hK.1 hP 0 rfl rfl 21 (by decide) kl_121 (fun _ h9 => h9) rfl dX4_placeOf_7 ?_
      refine lv_icmp_ge (tgt := 35) hx hb dX4_placeOf_10 (by decide) (fun c1 => ?_) (fun c1 => ?_)
      · have hf := iteT hf c1
        refine lv_iload_n hx hb dX4_placeOf_35 rfl (lv_at hl 2 rfl) ?_
        have hv := Option.some.inj hf
        exact hret _ _ _ _ _ hS hv dX4_placeOf_36
      · have hf := iteF hf c1
        refine lv_aload_n hx hb dX4_placeOf_13 rfl (lv_at hl 0 rfl) ?_
        refine va_get (D := gD G) (ci := 4) (v := .ref (ad 20)) (C := RX4) (T := TX4) (N := 29) hx hb hts hi_X4 hown hK.1 hP 0 rfl rfl 20 (by decide) kl_47 (fun _ h9 => h9) rfl dX4_placeOf_14 ?_
        refine lv_iload_n hx hb dX4_placeOf_17 rfl (lv_at hl 3 rfl) ?_
        obtain ⟨hi2, hf⟩ := ckS hf
        refine va_iald hx hb hK.1 hP 1 0 rfl rfl hi2 dX4_placeOf_18 ?_
        refine lv_iload_n hx hb dX4_placeOf_19 rfl (lv_at hl 1 rfl) ?_
        refine lv_icmp_ne (tgt := 27) hx hb dX4_placeOf_20 (by decide) (fun c3 => ?_) (fun c3 => ?_)
        · have hf := iteF hf c3
          refine lv_iload_n hx hb dX4_placeOf_27 rfl (lv_at hl 2 rfl) ?_
          refine lv_istore_n (lv' := [(2, .int x2), (0, .ref h0), (1, .int a1), (3, .int x3)]) hx hb dX4_placeOf_28 rfl hl (by decide) rfl (fun ls hl => ?_)
          refine lv_iinc (v := (x3 + 1)) (lv' := [(3, .int (x3 + 1)), (2, .int x2), (0, .ref h0), (1, .int a1)]) hx hb dX4_placeOf_29 hl (k := 3) rfl rfl (by decide) rfl (fun ls hl => ?_)
          refine lv_goto (tgt := 5) hx hb dX4_placeOf_32 (by decide) ?_
          exact ih5 x2 (x3 + 1) _ _ _ hP hS (lv_sub hl [2, 3, 1, 0] rfl) hf
        · have hf := iteT hf c3
          refine lv_iload_n hx hb dX4_placeOf_23 rfl (lv_at hl 3 rfl) ?_
          refine lv_goto (tgt := 28) hx hb dX4_placeOf_24 (by decide) ?_
          refine lv_istore_n (lv' := [(2, .int x3), (0, .ref h0), (1, .int a1), (3, .int x3)]) hx hb dX4_placeOf_28 rfl hl (by decide) rfl (fun ls hl => ?_)
          refine lv_iinc (v := (x3 + 1)) (lv' := [(3, .int (x3 + 1)), (2, .int x3), (0, .ref h0), (1, .int a1)]) hx hb dX4_placeOf_29 hl (k := 3) rfl rfl (by decide) rfl (fun ls hl => ?_)
          refine lv_goto (tgt := 5) hx hb dX4_placeOf_32 (by decide) ?_
          exact ih5 x3 (x3 + 1) _ _ _ hP hS (lv_sub hl [2, 3, 1, 0] rfl) hf
  refine lv_bipush (v := (-9)) hx hb dX4_placeOf_0 (by decide) ?_
  refine lv_istore_n (lv' := [(2, .int (-9)), (0, .ref h0), (1, .int a1)]) hx hb dX4_placeOf_2 rfl hl (by decide) rfl (fun ls hl => ?_)
  refine lv_iconst (v := 0) hx hb dX4_placeOf_3 (by decide) ?_
  refine lv_istore_n (lv' := [(3, .int 0), (2, .int (-9)), (0, .ref h0), (1, .int a1)]) hx hb dX4_placeOf_4 rfl hl (by decide) rfl (fun ls hl => ?_)
  exact hC5 9 (-9) 0 _ _ _ hP hS (lv_sub hl [2, 3, 1, 0] rfl) hf
def fX4_about_9 (s_textSize : Int32) (s_people : Int32) (s_acts : Int32) (s_seen : Int32) (q_kind : Nat → Int32) (q_page : Nat → Int32) (a1 : Int32) : Nat → Int32 → Int32 → Int32 → Option (Int32 × Int32)
  | 0, _, _, _ => none
  | n + 1, x2, x3, s_thrown => (if s_people ≤ x3 then (if a1 = 0 then some (s_people, s_thrown) else (if a1 = 1 then ck 14 17 (some ((q_page (Int32.toNatClampNeg 14)), s_thrown)) else (if a1 = 2 then (fX4_mayOf s_people q_kind q_page).bind fun o3 => (some (o3, s_thrown)) else (if a1 = 3 then some (x2, s_thrown) else (if a1 = 4 then ck 15 17 (some ((q_page (Int32.toNatClampNeg 15)), s_thrown)) else (if a1 = 5 then ck 16 17 (some ((q_page (Int32.toNatClampNeg 16)), s_thrown)) else (if a1 = 6 then some (s_acts, s_thrown) else (if a1 = 7 then some (s_seen, s_thrown) else (if a1 = 8 then some (s_textSize, s_thrown) else some ((-2), s_thrown)))))))))) else (fX4_isHidden s_people q_kind q_page x3).bind fun o16 => ((if o16 = 0 then (fX4_about_9 s_textSize s_people s_acts s_seen q_kind q_page a1 n (x2 ||| 0) (x3 + 1) s_thrown) else (fX4_about_9 s_textSize s_people s_acts s_seen q_kind q_page a1 n (x2 ||| ((1 : Int32) <<< (x3 &&& 31))) (x3 + 1) s_thrown))))
def fX4_about (s_thrown : Int32) (s_textSize : Int32) (s_people : Int32) (s_acts : Int32) (s_seen : Int32) (q_kind : Nat → Int32) (q_page : Nat → Int32) (a1 : Int32) : Option (Int32 × Int32) :=
  (fX4_about_9 s_textSize s_people s_acts s_seen q_kind q_page a1 9 0 0 0)
set_option maxHeartbeats 4000000 in
set_option maxRecDepth 100000 in
theorem ctX4_about (l : Launch) (G : GG) (h0 : Nat) (ad : Nat → Nat) (s_thrown : Int32) (s_textSize : Int32) (s_place : Int32) (s_people : Int32) (s_readPeople : Int32) (s_acts : Int32) (s_seen : Int32) (s_seed : Int64) (s_rowSize : Int32) (s_feedMany : Int32) (s_feedRow : Int32) (s_restMany : Int32) (s_restFirst : Int32) (q_kind : Nat → Int32) (q_page : Nat → Int32) (a1 : Int32) (out : Int32 × Int32) (hf : fX4_about s_thrown s_textSize s_people s_acts s_seen q_kind q_page a1 = some out) : Met l yX4_about wsX4_about ({ frames := 3, cells := 0, slots := 0, locals := 69 }) (PcW G [.ref h0, .int a1] [(h0, moE ad s_thrown s_textSize s_place s_people s_readPeople s_acts s_seen s_seed s_rowSize s_feedMany s_feedRow s_restMany s_restFirst), (ad 5, aI G 7 q_kind), (ad 10, aI G 17 q_page)]) (QiW G [(h0, moE ad s_thrown s_textSize s_place s_people s_readPeople s_acts s_seen s_seed s_rowSize s_feedMany s_feedRow s_restMany s_restFirst), (ad 5, aI G 7 q_kind), (ad 10, aI G 17 q_page)] [(h0, moE ad out.2 s_textSize s_place s_people s_readPeople s_acts s_seen s_seed s_rowSize s_feedMany s_feedRow s_restMany s_restFirst), (ad 5, aI G 7 q_kind), (ad 10, aI G 17 q_page)] out.1) 0 0 (inA [(h0, moE ad s_thrown s_textSize s_place s_people s_readPeople s_acts s_seen s_seed s_rowSize s_feedMany s_feedRow s_restMany s_restFirst), (ad 5, aI G 7 q_kind), (ad 10, aI G 17 q_page)]) := by
  refine mk_Wi (cc := cX4_about) (maxL := 4) (by decide) rfl (Nat.le_of_ble_eq_true rfl) ?_
  intro p e s m args below meth c Q ls A S hP hK hD hl hret
  obtain ⟨hx, hb, hml, hown, hts⟩ := S
  have hown : s.vm.findClass RX4 = some m.cls := hown
  have kl_60 := hts (.fieldLink RX4 60 "ArrestOrderModel" "thrown" "I") (by decide +kernel)
  have hi_X4 : ∀ w ∈ wsX40, w ∈ wsX4_about := fun _ h => List.mem_cons_of_mem _ (List.mem_append_right _ h)
  have kl_64 := hts (.fieldLink RX4 64 "ArrestOrderModel" "people" "I") (by decide +kernel)
  have kl_25 := hts (.fieldLink RX4 25 "ArrestOrderModel" "page" "[I") (by decide +kernel)
  have kl_110 := hts (.fieldLink RX4 110 "ArrestOrderModel" "acts" "I") (by decide +kernel)
  have kl_131 := hts (.fieldLink RX4 131 "ArrestOrderModel" "seen" "I") (by decide +kernel)
  have kl_73 := hts (.fieldLink RX4 73 "ArrestOrderModel" "textSize" "I") (by decide +kernel)
  have hS : va_S A s.heap s.heap [] := va_S.rf
  have hl : lv_has ls 4 [(0, .ref h0), (1, .int a1)] := hl
  have hC9 : ∀ (n : Nat) (x2 : Int32) (x3 : Int32) (s_thrown : Int32) (H : Heap) (locs : List Loc) (ls : Array Slot), va_P (gD G) vwCl [(h0, moE ad s_thrown s_textSize s_place s_people s_readPeople s_acts s_seen s_seed s_rowSize s_feedMany s_feedRow s_restMany s_restFirst), (ad 5, aI G 7 q_kind), (ad 10, aI G 17 q_page)] H → va_D A [(h0, moE ad s_thrown s_textSize s_place s_people s_readPeople s_acts s_seen s_seed s_rowSize s_feedMany s_feedRow s_restMany s_restFirst), (ad 5, aI G 7 q_kind), (ad 10, aI G 17 q_page)] → va_S A s.heap H locs → lv_has ls 4 [(0, .ref h0), (1, .int a1), (2, .int x2), (3, .int x3)] → fX4_about_9 s_textSize s_people s_acts s_seen q_kind q_page a1 n x2 x3 s_thrown = some out → W p l e ({ frames := 3, cells := 0, slots := 0, locals := 69 }) s m args below meth c H locs 0 0 Q (F0 m 9 ls []) := by
    intro n9
    induction n9 with
    | zero => intro x2 x3 s_thrown H locs ls hP hD hS hl hf; exact absurd (show none = some out from hf) (fun z => by cases z)
    | succ n9 ih9 =>
      intro x2 x3 s_thrown H locs ls hP hD hS hl hf
      refine lv_iload_n hx hb dX4_about_9 rfl (lv_at hl 3 rfl) ?_
      refine lv_aload_n hx hb dX4_about_10 rfl (lv_at hl 0 rfl) ?_
      refine va_get (D := gD G) (ci := 4) (v := .int s_people) (C := RX4) (T := TX4) (N := 29) hx hb hts hi_X4 hown hK.1 hP 0 rfl rfl 4 (by decide) kl_64 (fun _ h9 => h9) rfl dX4_about_11 ?_
      refine lv_icmp_ge (tgt := 45) hx hb dX4_about_14 (by decide) (fun c1 => ?_) (fun c1 => ?_)
      · have hf := iteT hf c1
        refine lv_iload_n hx hb dX4_about_45 rfl (lv_at hl 1 rfl) ?_
        by_cases c7 : a1 = 0
        · have hf := iteT hf c7
          refine lv_tableIn (off := 50) (tgt := 96) hx hb dX4_about_46 (by rw [c7]; decide) (by rw [c7]; decide) (by rw [c7]; rfl) (by decide) ?_
          refine lv_aload_n hx hb dX4_about_96 rfl (lv_at hl 0 rfl) ?_
          refine va_get (D := gD G) (ci := 4) (v := .int s_people) (C := RX4) (T := TX4) (N := 29) hx hb hts hi_X4 hown hK.1 hP 0 rfl rfl 4 (by decide) kl_64 (fun _ h9 => h9) rfl dX4_about_97 ?_
          have hv := Option.some.inj hf
          exact hret _ _ _ _ _ (by rw [← hv]; exact hP) hS (by rw [← hv]) dX4_about_100
        have hf := iteF hf c7
        by_cases c8 : a1 = 1
        · have hf := iteT hf c8
          refine lv_tableIn (off := 55) (tgt := 101) hx hb dX4_about_46 (by rw [c8]; decide) (by rw [c8]; decide) (by rw [c8]; rfl) (by decide) ?_
          refine lv_aload_n hx hb dX4_about_101 rfl (lv_at hl 0 rfl) ?_
          refine va_get (D := gD G) (ci := 4) (v := .ref (ad 10)) (C := RX4) (T := TX4) (N := 29) hx hb hts hi_X4 hown hK.1 hP 0 rfl rfl 10 (by decide) kl_25 (fun _ h9 => h9) rfl dX4_about_102 ?_
          refine lv_bipush (v := 14) hx hb dX4_about_105 (by decide) ?_
          obtain ⟨hi2, hf⟩ := ckS hf
          refine va_iald hx hb hK.1 hP 2 0 rfl rfl hi2 dX4_about_107 ?_
          have hv := Option.some.inj hf
          exact hret _ _ _ _ _ (by rw [← hv]; exact hP) hS (by rw [← hv]) dX4_about_108
        have hf := iteF hf c8
        by_cases c9 : a1 = 2
        · have hf := iteT hf c9
          refine lv_tableIn (off := 63) (tgt := 109) hx hb dX4_about_46 (by rw [c9]; decide) (by rw [c9]; decide) (by rw [c9]; rfl) (by decide) ?_
          refine lv_aload_n hx hb dX4_about_109 rfl (lv_at hl 0 rfl) ?_
          refine lv_aload_n hx hb dX4_about_110 rfl (lv_at hl 0 rfl) ?_
          refine va_get (D := gD G) (ci := 4) (v := .ref (ad 10)) (C := RX4) (T := TX4) (N := 29) hx hb hts hi_X4 hown hK.1 hP 0 rfl rfl 10 (by decide) kl_25 (fun _ h9 => h9) rfl dX4_about_111 ?_
          obtain ⟨o3, hc4, hf⟩ := bindS hf
          refine ro_i (va_runV (C := RX4) (As := [.ref (ad 10)]) (rest := []) ⟨hx, hb, hml, hown, hts⟩ (ctX4_mayOf l G h0 (ad 10) ad s_thrown s_textSize s_place s_people s_readPeople s_acts s_seen s_seed s_rowSize s_feedMany s_feedRow s_restMany s_restFirst q_kind q_page o3 hc4) (cwV 1 hts gX4_about_X4_mayOf rfl rfl rfl (by decide +kernel) ⟨Nat.le_of_ble_eq_true rfl, Nat.le_of_ble_eq_true rfl⟩) (preR_V (q0 := 0) (ci := 4) (hP.sub (ws' := [(h0, moE ad s_thrown s_textSize s_place s_people s_readPeople s_acts s_seen s_seed s_rowSize s_feedMany s_feedRow s_restMany s_restFirst), (ad 5, aI G 7 q_kind), (ad 10, aI G 17 q_page)]) [0, 1, 2] rfl) hK rfl rfl) rfl rfl hl.1 rfl (lv_room (Nat.le_of_ble_eq_true rfl)) dX4_about_114 ⟨Nat.zero_le _, Nat.zero_le _⟩) hS hP (fun H locs hP hS => ?_)
          have hv := Option.some.inj hf
          exact hret _ _ _ _ _ (by rw [← hv]; exact hP) hS (by rw [← hv]) dX4_about_117
        have hf := iteF hf c9
        by_cases c10 : a1 = 3
        · have hf := iteT hf c10
          refine lv_tableIn (off := 72) (tgt := 118) hx hb dX4_about_46 (by rw [c10]; decide) (by rw [c10]; decide) (by rw [c10]; rfl) (by decide) ?_
          refine lv_iload_n hx hb dX4_about_118 rfl (lv_at hl 2 rfl) ?_
          have hv := Option.some.inj hf
          exact hret _ _ _ _ _ (by rw [← hv]; exact hP) hS (by rw [← hv]) dX4_about_119
        have hf := iteF hf c10
        by_cases c11 : a1 = 4
        · have hf := iteT hf c11
          refine lv_tableIn (off := 74) (tgt := 120) hx hb dX4_about_46 (by rw [c11]; decide) (by rw [c11]; decide) (by rw [c11]; rfl) (by decide) ?_
          refine lv_aload_n hx hb dX4_about_120 rfl (lv_at hl 0 rfl) ?_
          refine va_get (D := gD G) (ci := 4) (v := .ref (ad 10)) (C := RX4) (T := TX4) (N := 29) hx hb hts hi_X4 hown hK.1 hP 0 rfl rfl 10 (by decide) kl_25 (fun _ h9 => h9) rfl dX4_about_121 ?_
          refine lv_bipush (v := 15) hx hb dX4_about_124 (by decide) ?_
          obtain ⟨hi5, hf⟩ := ckS hf
          refine va_iald hx hb hK.1 hP 2 0 rfl rfl hi5 dX4_about_126 ?_
          have hv := Option.some.inj hf
          exact hret _ _ _ _ _ (by rw [← hv]; exact hP) hS (by rw [← hv]) dX4_about_127
        have hf := iteF hf c11
        by_cases c12 : a1 = 5
        · have hf := iteT hf c12
          refine lv_tableIn (off := 82) (tgt := 128) hx hb dX4_about_46 (by rw [c12]; decide) (by rw [c12]; decide) (by rw [c12]; rfl) (by decide) ?_
          refine lv_aload_n hx hb dX4_about_128 rfl (lv_at hl 0 rfl) ?_
          refine va_get (D := gD G) (ci := 4) (v := .ref (ad 10)) (C := RX4) (T := TX4) (N := 29) hx hb hts hi_X4 hown hK.1 hP 0 rfl rfl 10 (by decide) kl_25 (fun _ h9 => h9) rfl dX4_about_129 ?_
          refine lv_bipush (v := 16) hx hb dX4_about_132 (by decide) ?_
          obtain ⟨hi6, hf⟩ := ckS hf
          refine va_iald hx hb hK.1 hP 2 0 rfl rfl hi6 dX4_about_134 ?_
          have hv := Option.some.inj hf
          exact hret _ _ _ _ _ (by rw [← hv]; exact hP) hS (by rw [← hv]) dX4_about_135
        have hf := iteF hf c12
        by_cases c13 : a1 = 6
        · have hf := iteT hf c13
          refine lv_tableIn (off := 90) (tgt := 136) hx hb dX4_about_46 (by rw [c13]; decide) (by rw [c13]; decide) (by rw [c13]; rfl) (by decide) ?_
          refine lv_aload_n hx hb dX4_about_136 rfl (lv_at hl 0 rfl) ?_
          refine va_get (D := gD G) (ci := 4) (v := .int s_acts) (C := RX4) (T := TX4) (N := 29) hx hb hts hi_X4 hown hK.1 hP 0 rfl rfl 13 (by decide) kl_110 (fun _ h9 => h9) rfl dX4_about_137 ?_
          have hv := Option.some.inj hf
          exact hret _ _ _ _ _ (by rw [← hv]; exact hP) hS (by rw [← hv]) dX4_about_140
        have hf := iteF hf c13
        by_cases c14 : a1 = 7
        · have hf := iteT hf c14
          refine lv_tableIn (off := 95) (tgt := 141) hx hb dX4_about_46 (by rw [c14]; decide) (by rw [c14]; decide) (by rw [c14]; rfl) (by decide) ?_
          refine lv_aload_n hx hb dX4_about_141 rfl (lv_at hl 0 rfl) ?_
          refine va_get (D := gD G) (ci := 4) (v := .int s_seen) (C := RX4) (T := TX4) (N := 29) hx hb hts hi_X4 hown hK.1 hP 0 rfl rfl 16 (by decide) kl_131 (fun _ h9 => h9) rfl dX4_about_142 ?_
          have hv := Option.some.inj hf
          exact hret _ _ _ _ _ (by rw [← hv]; exact hP) hS (by rw [← hv]) dX4_about_145
        have hf := iteF hf c14
        by_cases c15 : a1 = 8
        · have hf := iteT hf c15
          refine lv_tableIn (off := 100) (tgt := 146) hx hb dX4_about_46 (by rw [c15]; decide) (by rw [c15]; decide) (by rw [c15]; rfl) (by decide) ?_
          refine lv_aload_n hx hb dX4_about_146 rfl (lv_at hl 0 rfl) ?_
          refine va_get (D := gD G) (ci := 4) (v := .int s_textSize) (C := RX4) (T := TX4) (N := 29) hx hb hts hi_X4 hown hK.1 hP 0 rfl rfl 2 (by decide) kl_73 (fun _ h9 => h9) rfl dX4_about_147 ?_
          have hv := Option.some.inj hf
          exact hret _ _ _ _ _ (by rw [← hv]; exact hP) hS (by rw [← hv]) dX4_about_150
        have hf := iteF hf c15
        refine lv_tableOut (tgt := 151) hx hb dX4_about_46 (sw_out 8 [0, 1, 2, 3, 4, 5, 6, 7, 8] rfl (by simp only [List.mem_cons, List.not_mem_nil, or_false, forall_eq_or_imp, forall_eq]; exact ⟨c7, c8, c9, c10, c11, c12, c13, c14, c15⟩)) (by decide) ?_
        refine lv_bipush (v := (-2)) hx hb dX4_about_151 (by decide) ?_
        have hv := Option.some.inj hf
        exact hret _ _ _ _ _ (by rw [← hv]; exact hP) hS (by rw [← hv]) dX4_about_153
      · have hf := iteF hf c1
        refine lv_iload_n hx hb dX4_about_17 rfl (lv_at hl 2 rfl) ?_
        refine lv_aload_n hx hb dX4_about_18 rfl (lv_at hl 0 rfl) ?_
        refine lv_aload_n hx hb dX4_about_19 rfl (lv_at hl 0 rfl) ?_
        refine va_get (D := gD G) (ci := 4) (v := .ref (ad 10)) (C := RX4) (T := TX4) (N := 29) hx hb hts hi_X4 hown hK.1 hP 0 rfl rfl 10 (by decide) kl_25 (fun _ h9 => h9) rfl dX4_about_20 ?_
        refine lv_iload_n hx hb dX4_about_23 rfl (lv_at hl 3 rfl) ?_
        obtain ⟨o16, hc17, hf⟩ := bindS hf
        refine ro_i (va_runV (C := RX4) (As := [.ref (ad 10), .int x3]) (rest := [.int x2]) ⟨hx, hb, hml, hown, hts⟩ (ctX4_isHidden l G h0 (ad 10) ad s_thrown s_textSize s_place s_people s_readPeople s_acts s_seen s_seed s_rowSize s_feedMany s_feedRow s_restMany s_restFirst q_kind q_page x3 o16 hc17) (cwV 2 hts gX4_about_X4_isHidden rfl rfl rfl (by decide +kernel) ⟨Nat.le_of_ble_eq_true rfl, Nat.le_of_ble_eq_true rfl⟩) (preR_V (q0 := 0) (ci := 4) (hP.sub (ws' := [(h0, moE ad s_thrown s_textSize s_place s_people s_readPeople s_acts s_seen s_seed s_rowSize s_feedMany s_feedRow s_restMany s_restFirst), (ad 5, aI G 7 q_kind), (ad 10, aI G 17 q_page)]) [0, 1, 2] rfl) hK rfl rfl) rfl rfl hl.1 rfl (lv_room (Nat.le_of_ble_eq_true rfl)) dX4_about_24 ⟨Nat.zero_le _, Nat.zero_le _⟩) hS hP (fun H locs hP hS => ?_)
        refine lv_if_eq (tgt := 36) hx hb dX4_about_27 (by decide) (fun c18 => ?_) (fun c18 => ?_)
        · have hf := iteT hf c18
          refine lv_iconst (v := 0) hx hb dX4_about_36 (by decide) ?_
          refine lv_ior hx hb dX4_about_37 ?_
          refine lv_istore_n (lv' := [(2, .int (x2 ||| 0)), (0, .ref h0), (1, .int a1), (3, .int x3)]) hx hb dX4_about_38 rfl hl (by decide) rfl (fun ls hl => ?_)
          refine lv_iinc (v := (x3 + 1)) (lv' := [(3, .int (x3 + 1)), (2, .int (x2 ||| 0)), (0, .ref h0), (1, .int a1)]) hx hb dX4_about_39 hl (k := 3) rfl rfl (by decide) rfl (fun ls hl => ?_)
          refine lv_goto (tgt := 9) hx hb dX4_about_42 (by decide) ?_
          exact ih9 (x2 ||| 0) (x3 + 1) s_thrown _ _ _ hP hD hS (lv_sub hl [2, 3, 1, 0] rfl) hf
        · have hf := iteF hf c18
          refine lv_iconst (v := 1) hx hb dX4_about_30 (by decide) ?_
          refine lv_iload_n hx hb dX4_about_31 rfl (lv_at hl 3 rfl) ?_
          refine lv_ishl hx hb dX4_about_32 ?_
          refine lv_goto (tgt := 37) hx hb dX4_about_33 (by decide) ?_
          refine lv_ior hx hb dX4_about_37 ?_
          refine lv_istore_n (lv' := [(2, .int (x2 ||| ((1 : Int32) <<< (x3 &&& 31)))), (0, .ref h0), (1, .int a1), (3, .int x3)]) hx hb dX4_about_38 rfl hl (by decide) rfl (fun ls hl => ?_)
          refine lv_iinc (v := (x3 + 1)) (lv' := [(3, .int (x3 + 1)), (2, .int (x2 ||| ((1 : Int32) <<< (x3 &&& 31)))), (0, .ref h0), (1, .int a1)]) hx hb dX4_about_39 hl (k := 3) rfl rfl (by decide) rfl (fun ls hl => ?_)
          refine lv_goto (tgt := 9) hx hb dX4_about_42 (by decide) ?_
          exact ih9 (x2 ||| ((1 : Int32) <<< (x3 &&& 31))) (x3 + 1) s_thrown _ _ _ hP hD hS (lv_sub hl [2, 3, 1, 0] rfl) hf
  refine lv_aload_n hx hb dX4_about_0 rfl (lv_at hl 0 rfl) ?_
  refine lv_iconst (v := 0) hx hb dX4_about_1 (by decide) ?_
  refine va_put (D := gD G) (ci := 4) (v := .int 0) (ty := .int) (C := RX4) (T := TX4) (N := 29) hx hb hts hi_X4 tyX4 tyX4_ok nmX4 hown hK.1 hP hD hS 0 rfl rfl 0 (by decide) kl_60 (fun _ h9 => h9) rfl (tyX4_ok 0 (by decide)) rfl rfl (Nat.le_of_ble_eq_true rfl) dX4_about_2 (fun H locs hP hD hS => ?_)
  have hP : va_P (gD G) vwCl [(h0, moE ad 0 s_textSize s_place s_people s_readPeople s_acts s_seen s_seed s_rowSize s_feedMany s_feedRow s_restMany s_restFirst), (ad 5, aI G 7 q_kind), (ad 10, aI G 17 q_page)] H := hP
  have hD : va_D A [(h0, moE ad 0 s_textSize s_place s_people s_readPeople s_acts s_seen s_seed s_rowSize s_feedMany s_feedRow s_restMany s_restFirst), (ad 5, aI G 7 q_kind), (ad 10, aI G 17 q_page)] := hD
  refine lv_iconst (v := 0) hx hb dX4_about_5 (by decide) ?_
  refine lv_istore_n (lv' := [(2, .int 0), (0, .ref h0), (1, .int a1)]) hx hb dX4_about_6 rfl hl (by decide) rfl (fun ls hl => ?_)
  refine lv_iconst (v := 0) hx hb dX4_about_7 (by decide) ?_
  refine lv_istore_n (lv' := [(3, .int 0), (2, .int 0), (0, .ref h0), (1, .int a1)]) hx hb dX4_about_8 rfl hl (by decide) rfl (fun ls hl => ?_)
  exact hC9 9 0 0 0 _ _ _ hP hD hS (lv_sub hl [2, 3, 1, 0] rfl) hf
def fX4_person (s_thrown : Int32) (s_people : Int32) (q_kind : Nat → Int32) (q_page : Nat → Int32) (a1 : Int32) (a2 : Int32) : Option (Int32 × Int32) :=
  (fX4_noPerson s_people a1).bind fun o1 => ((if o1 = 0 then (if a2 = 0 then ck (0 + a1) 17 (some ((q_page (Int32.toNatClampNeg (0 + a1))), 0)) else (if a2 = 1 then ck a1 7 (some ((q_kind (Int32.toNatClampNeg a1)), 0)) else (if a2 = 2 then (fX4_gradeOf q_kind q_page a1).bind fun o6 => (some (o6, 0)) else (if a2 = 3 then ck (7 + a1) 17 (some ((q_page (Int32.toNatClampNeg (7 + a1))), 0)) else some ((-2), 0))))) else some ((-1), 0)))
set_option maxHeartbeats 4000000 in
set_option maxRecDepth 100000 in
theorem ctX4_person (l : Launch) (G : GG) (h0 : Nat) (ad : Nat → Nat) (s_thrown : Int32) (s_textSize : Int32) (s_place : Int32) (s_people : Int32) (s_readPeople : Int32) (s_acts : Int32) (s_seen : Int32) (s_seed : Int64) (s_rowSize : Int32) (s_feedMany : Int32) (s_feedRow : Int32) (s_restMany : Int32) (s_restFirst : Int32) (q_kind : Nat → Int32) (q_page : Nat → Int32) (a1 : Int32) (a2 : Int32) (out : Int32 × Int32) (hf : fX4_person s_thrown s_people q_kind q_page a1 a2 = some out) : Met l yX4_person wsX4_person ({ frames := 2, cells := 0, slots := 0, locals := 46 }) (PcW G [.ref h0, .int a1, .int a2] [(h0, moE ad s_thrown s_textSize s_place s_people s_readPeople s_acts s_seen s_seed s_rowSize s_feedMany s_feedRow s_restMany s_restFirst), (ad 5, aI G 7 q_kind), (ad 10, aI G 17 q_page)]) (QiW G [(h0, moE ad s_thrown s_textSize s_place s_people s_readPeople s_acts s_seen s_seed s_rowSize s_feedMany s_feedRow s_restMany s_restFirst), (ad 5, aI G 7 q_kind), (ad 10, aI G 17 q_page)] [(h0, moE ad out.2 s_textSize s_place s_people s_readPeople s_acts s_seen s_seed s_rowSize s_feedMany s_feedRow s_restMany s_restFirst), (ad 5, aI G 7 q_kind), (ad 10, aI G 17 q_page)] out.1) 0 0 (inA [(h0, moE ad s_thrown s_textSize s_place s_people s_readPeople s_acts s_seen s_seed s_rowSize s_feedMany s_feedRow s_restMany s_restFirst), (ad 5, aI G 7 q_kind), (ad 10, aI G 17 q_page)]) := by
  refine mk_Wi (cc := cX4_person) (maxL := 3) (by decide) rfl (Nat.le_of_ble_eq_true rfl) ?_
  intro p e s m args below meth c Q ls A S hP hK hD hl hret
  obtain ⟨hx, hb, hml, hown, hts⟩ := S
  have hown : s.vm.findClass RX4 = some m.cls := hown
  have kl_60 := hts (.fieldLink RX4 60 "ArrestOrderModel" "thrown" "I") (by decide +kernel)
  have hi_X4 : ∀ w ∈ wsX40, w ∈ wsX4_person := fun _ h => List.mem_cons_of_mem _ (List.mem_append_right _ h)
  have kl_25 := hts (.fieldLink RX4 25 "ArrestOrderModel" "page" "[I") (by decide +kernel)
  have kl_13 := hts (.fieldLink RX4 13 "ArrestOrderModel" "kind" "[I") (by decide +kernel)
  have hS : va_S A s.heap s.heap [] := va_S.rf
  have hl : lv_has ls 3 [(0, .ref h0), (1, .int a1), (2, .int a2)] := hl
  refine lv_aload_n hx hb dX4_person_0 rfl (lv_at hl 0 rfl) ?_
  refine lv_iconst (v := 0) hx hb dX4_person_1 (by decide) ?_
  refine va_put (D := gD G) (ci := 4) (v := .int 0) (ty := .int) (C := RX4) (T := TX4) (N := 29) hx hb hts hi_X4 tyX4 tyX4_ok nmX4 hown hK.1 hP hD hS 0 rfl rfl 0 (by decide) kl_60 (fun _ h9 => h9) rfl (tyX4_ok 0 (by decide)) rfl rfl (Nat.le_of_ble_eq_true rfl) dX4_person_2 (fun H locs hP hD hS => ?_)
  have hP : va_P (gD G) vwCl [(h0, moE ad 0 s_textSize s_place s_people s_readPeople s_acts s_seen s_seed s_rowSize s_feedMany s_feedRow s_restMany s_restFirst), (ad 5, aI G 7 q_kind), (ad 10, aI G 17 q_page)] H := hP
  have hD : va_D A [(h0, moE ad 0 s_textSize s_place s_people s_readPeople s_acts s_seen s_seed s_rowSize s_feedMany s_feedRow s_restMany s_restFirst), (ad 5, aI G 7 q_kind), (ad 10, aI G 17 q_page)] := hD
  refine lv_aload_n hx hb dX4_person_5 rfl (lv_at hl 0 rfl) ?_
  refine lv_iload_n hx hb dX4_person_6 rfl (lv_at hl 1 rfl) ?_
  obtain ⟨o1, hc2, hf⟩ := bindS hf
  refine ro_i (va_runV (C := RX4) (As := [.int a1]) (rest := []) ⟨hx, hb, hml, hown, hts⟩ (ctX4_noPerson l G h0 ad 0 s_textSize s_place s_people s_readPeople s_acts s_seen s_seed s_rowSize s_feedMany s_feedRow s_restMany s_restFirst a1 o1 hc2) (cwV 1 hts gX4_person_X4_noPerson rfl rfl rfl (by decide +kernel) ⟨Nat.le_of_ble_eq_true rfl, Nat.le_of_ble_eq_true rfl⟩) (preR_V (q0 := 0) (ci := 4) (hP.sub (ws' := [(h0, moE ad 0 s_textSize s_place s_people s_readPeople s_acts s_seen s_seed s_rowSize s_feedMany s_feedRow s_restMany s_restFirst)]) [0] rfl) hK rfl rfl) rfl rfl hl.1 rfl (lv_room (Nat.le_of_ble_eq_true rfl)) dX4_person_7 ⟨Nat.zero_le _, Nat.zero_le _⟩) hS hP (fun H locs hP hS => ?_)
  refine lv_if_eq (tgt := 15) hx hb dX4_person_10 (by decide) (fun c3 => ?_) (fun c3 => ?_)
  · have hf := iteT hf c3
    refine lv_iload_n hx hb dX4_person_15 rfl (lv_at hl 2 rfl) ?_
    by_cases c9 : a2 = 0
    · have hf := iteT hf c9
      refine lv_tableIn (off := 32) (tgt := 48) hx hb dX4_person_16 (by rw [c9]; decide) (by rw [c9]; decide) (by rw [c9]; rfl) (by decide) ?_
      refine lv_aload_n hx hb dX4_person_48 rfl (lv_at hl 0 rfl) ?_
      refine va_get (D := gD G) (ci := 4) (v := .ref (ad 10)) (C := RX4) (T := TX4) (N := 29) hx hb hts hi_X4 hown hK.1 hP 0 rfl rfl 10 (by decide) kl_25 (fun _ h9 => h9) rfl dX4_person_49 ?_
      refine lv_iconst (v := 0) hx hb dX4_person_52 (by decide) ?_
      refine lv_iload_n hx hb dX4_person_53 rfl (lv_at hl 1 rfl) ?_
      refine lv_iadd hx hb dX4_person_54 ?_
      obtain ⟨hi4, hf⟩ := ckS hf
      refine va_iald hx hb hK.1 hP 2 0 rfl rfl hi4 dX4_person_55 ?_
      have hv := Option.some.inj hf
      exact hret _ _ _ _ _ (by rw [← hv]; exact hP) hS (by rw [← hv]) dX4_person_56
    have hf := iteF hf c9
    by_cases c10 : a2 = 1
    · have hf := iteT hf c10
      refine lv_tableIn (off := 41) (tgt := 57) hx hb dX4_person_16 (by rw [c10]; decide) (by rw [c10]; decide) (by rw [c10]; rfl) (by decide) ?_
      refine lv_aload_n hx hb dX4_person_57 rfl (lv_at hl 0 rfl) ?_
      refine va_get (D := gD G) (ci := 4) (v := .ref (ad 5)) (C := RX4) (T := TX4) (N := 29) hx hb hts hi_X4 hown hK.1 hP 0 rfl rfl 5 (by decide) kl_13 (fun _ h9 => h9) rfl dX4_person_58 ?_
      refine lv_iload_n hx hb dX4_person_61 rfl (lv_at hl 1 rfl) ?_
      obtain ⟨hi5, hf⟩ := ckS hf
      refine va_iald hx hb hK.1 hP 1 0 rfl rfl hi5 dX4_person_62 ?_
      have hv := Option.some.inj hf
      exact hret _ _ _ _ _ (by rw [← hv]; exact hP) hS (by rw [← hv]) dX4_person_63
    have hf := iteF hf c10
    by_cases c11 : a2 = 2
    · have hf := iteT hf c11
      refine lv_tableIn (off := 48) (tgt := 64) hx hb dX4_person_16 (by rw [c11]; decide) (by rw [c11]; decide) (by rw [c11]; rfl) (by decide) ?_
      refine lv_aload_n hx hb dX4_person_64 rfl (lv_at hl 0 rfl) ?_
      refine lv_aload_n hx hb dX4_person_65 rfl (lv_at hl 0 rfl) ?_
      refine va_get (D := gD G) (ci := 4) (v := .ref (ad 10)) (C := RX4) (T := TX4) (N := 29) hx hb hts hi_X4 hown hK.1 hP 0 rfl rfl 10 (by decide) kl_25 (fun _ h9 => h9) rfl dX4_person_66 ?_
      refine lv_iload_n hx hb dX4_person_69 rfl (lv_at hl 1 rfl) ?_
      obtain ⟨o6, hc7, hf⟩ := bindS hf
      refine ro_i (va_runV (C := RX4) (As := [.ref (ad 10), .int a1]) (rest := []) ⟨hx, hb, hml, hown, hts⟩ (ctX4_gradeOf l G h0 (ad 10) ad 0 s_textSize s_place s_people s_readPeople s_acts s_seen s_seed s_rowSize s_feedMany s_feedRow s_restMany s_restFirst q_kind q_page a1 o6 hc7) (cwV 2 hts gX4_person_X4_gradeOf rfl rfl rfl (by decide +kernel) ⟨Nat.le_of_ble_eq_true rfl, Nat.le_of_ble_eq_true rfl⟩) (preR_V (q0 := 0) (ci := 4) (hP.sub (ws' := [(h0, moE ad 0 s_textSize s_place s_people s_readPeople s_acts s_seen s_seed s_rowSize s_feedMany s_feedRow s_restMany s_restFirst), (ad 5, aI G 7 q_kind), (ad 10, aI G 17 q_page)]) [0, 1, 2] rfl) hK rfl rfl) rfl rfl hl.1 rfl (lv_room (Nat.le_of_ble_eq_true rfl)) dX4_person_70 ⟨Nat.zero_le _, Nat.zero_le _⟩) hS hP (fun H locs hP hS => ?_)
      have hv := Option.some.inj hf
      exact hret _ _ _ _ _ (by rw [← hv]; exact hP) hS (by rw [← hv]) dX4_person_73
    have hf := iteF hf c11
    by_cases c12 : a2 = 3
    · have hf := iteT hf c12
      refine lv_tableIn (off := 58) (tgt := 74) hx hb dX4_person_16 (by rw [c12]; decide) (by rw [c12]; decide) (by rw [c12]; rfl) (by decide) ?_
      refine lv_aload_n hx hb dX4_person_74 rfl (lv_at hl 0 rfl) ?_
      refine va_get (D := gD G) (ci := 4) (v := .ref (ad 10)) (C := RX4) (T := TX4) (N := 29) hx hb hts hi_X4 hown hK.1 hP 0 rfl rfl 10 (by decide) kl_25 (fun _ h9 => h9) rfl dX4_person_75 ?_
      refine lv_bipush (v := 7) hx hb dX4_person_78 (by decide) ?_
      refine lv_iload_n hx hb dX4_person_80 rfl (lv_at hl 1 rfl) ?_
      refine lv_iadd hx hb dX4_person_81 ?_
      obtain ⟨hi8, hf⟩ := ckS hf
      refine va_iald hx hb hK.1 hP 2 0 rfl rfl hi8 dX4_person_82 ?_
      have hv := Option.some.inj hf
      exact hret _ _ _ _ _ (by rw [← hv]; exact hP) hS (by rw [← hv]) dX4_person_83
    have hf := iteF hf c12
    refine lv_tableOut (tgt := 84) hx hb dX4_person_16 (sw_out 3 [0, 1, 2, 3] rfl (by simp only [List.mem_cons, List.not_mem_nil, or_false, forall_eq_or_imp, forall_eq]; exact ⟨c9, c10, c11, c12⟩)) (by decide) ?_
    refine lv_bipush (v := (-2)) hx hb dX4_person_84 (by decide) ?_
    have hv := Option.some.inj hf
    exact hret _ _ _ _ _ (by rw [← hv]; exact hP) hS (by rw [← hv]) dX4_person_86
  · have hf := iteF hf c3
    refine lv_iconst (v := (-1)) hx hb dX4_person_13 (by decide) ?_
    have hv := Option.some.inj hf
    exact hret _ _ _ _ _ (by rw [← hv]; exact hP) hS (by rw [← hv]) dX4_person_14
