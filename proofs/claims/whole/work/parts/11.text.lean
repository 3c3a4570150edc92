def fX2_append (s_length : Int32) (q_bytes : Nat → Int32) (a1 : Int32) : Option (Int32 × Int32 × (Nat → Int32)) :=
  (if s_length < 48 then ck s_length 48 (some (1, (s_length + 1), (upd q_bytes (Int32.toNatClampNeg s_length) a1))) else some (0, s_length, q_bytes))
set_option maxHeartbeats 4000000 in
set_option maxRecDepth 100000 in
theorem ctX2_append (l : Launch) (G : GG) (h0 : Nat) (ad : Nat → Nat) (s_length : Int32) (q_bytes : Nat → Int32) (a1 : Int32) (out : Int32 × Int32 × (Nat → Int32)) (hf : fX2_append s_length q_bytes a1 = some out) : Met l yX2_append wsX2_append ({ frames := 0, cells := 0, slots := 0, locals := 0 }) (PcW G [.ref h0, .int a1] [(h0, txE ad s_length), (ad 0, aI G 48 q_bytes)]) (QiW G [(h0, txE ad s_length), (ad 0, aI G 48 q_bytes)] [(h0, txE ad out.2.1), (ad 0, aI G 48 out.2.2)] out.1) 0 0 (inA [(h0, txE ad s_length), (ad 0, aI G 48 q_bytes)]) := by
  refine mk_Wz (cc := cX2_append) (maxL := 2) (by decide) rfl (Nat.le_of_ble_eq_true rfl) ?_
  intro p e s m args below meth c Q ls A S hP hK hD hl hret
  obtain ⟨hx, hb, hml, hown, hts⟩ := S
  have hown : s.vm.findClass RX2 = some m.cls := hown
  have kl_15 := hts (.fieldLink RX2 15 "ArrestOrder$Text" "length" "I") (by decide +kernel)
  have hi_X2 : ∀ w ∈ wsX20, w ∈ wsX2_append := fun _ h => List.mem_cons_of_mem _ (List.mem_append_right _ h)
  have kl_9 := hts (.fieldLink RX2 9 "ArrestOrder$Text" "bytes" "[I") (by decide +kernel)
  have hS : va_S A s.heap s.heap [] := va_S.rf
  have hl : lv_has ls 2 [(0, .ref h0), (1, .int a1)] := hl
  refine lv_aload_n hx hb dX2_append_0 rfl (lv_at hl 0 rfl) ?_
  refine va_get (D := gD G) (ci := 2) (v := .int s_length) (C := RX2) (T := TX2) (N := 2) hx hb hts hi_X2 hown hK.1 hP 0 rfl rfl 1 (by decide) kl_15 (fun _ h9 => h9) rfl dX2_append_1 ?_
  refine lv_bipush (v := 48) hx hb dX2_append_4 (by decide) ?_
  refine lv_icmp_lt (tgt := 11) hx hb dX2_append_6 (by decide) (fun c1 => ?_) (fun c1 => ?_)
  · have hf := iteT hf c1
    refine lv_aload_n hx hb dX2_append_11 rfl (lv_at hl 0 rfl) ?_
    refine va_get (D := gD G) (ci := 2) (v := .ref (ad 0)) (C := RX2) (T := TX2) (N := 2) hx hb hts hi_X2 hown hK.1 hP 0 rfl rfl 0 (by decide) kl_9 (fun _ h9 => h9) rfl dX2_append_12 ?_
    refine lv_aload_n hx hb dX2_append_15 rfl (lv_at hl 0 rfl) ?_
    refine va_get (D := gD G) (ci := 2) (v := .int s_length) (C := RX2) (T := TX2) (N := 2) hx hb hts hi_X2 hown hK.1 hP 0 rfl rfl 1 (by decide) kl_15 (fun _ h9 => h9) rfl dX2_append_16 ?_
    refine lv_iload_n hx hb dX2_append_19 rfl (lv_at hl 1 rfl) ?_
    obtain ⟨hi2, hf⟩ := ckS hf
    refine va_iast hx hb hK.1 hP hD hS 1 0 rfl rfl hi2 dX2_append_20 (fun H locs hP hD hS => ?_)
    have hP : va_P (gD G) vwCl [(h0, txE ad s_length), (ad 0, aI G 48 (upd q_bytes (Int32.toNatClampNeg s_length) a1))] H := hP
    have hD : va_D A [(h0, txE ad s_length), (ad 0, aI G 48 (upd q_bytes (Int32.toNatClampNeg s_length) a1))] := hD
    refine lv_aload_n hx hb dX2_append_21 rfl (lv_at hl 0 rfl) ?_
    refine lv_dup hx hb dX2_append_22 rfl ?_
    refine va_get (D := gD G) (ci := 2) (v := .int s_length) (C := RX2) (T := TX2) (N := 2) hx hb hts hi_X2 hown hK.1 hP 0 rfl rfl 1 (by decide) kl_15 (fun _ h9 => h9) rfl dX2_append_23 ?_
    refine lv_iconst (v := 1) hx hb dX2_append_26 (by decide) ?_
    refine lv_iadd hx hb dX2_append_27 ?_
    refine va_put (D := gD G) (ci := 2) (v := .int (s_length + 1)) (ty := .int) (C := RX2) (T := TX2) (N := 2) hx hb hts hi_X2 tyX2 tyX2_ok nmX2 hown hK.1 hP hD hS 0 rfl rfl 1 (by decide) kl_15 (fun _ h9 => h9) rfl (tyX2_ok 1 (by decide)) rfl rfl (Nat.le_of_ble_eq_true rfl) dX2_append_28 (fun H locs hP hD hS => ?_)
    have hP : va_P (gD G) vwCl [(h0, txE ad (s_length + 1)), (ad 0, aI G 48 (upd q_bytes (Int32.toNatClampNeg s_length) a1))] H := hP
    have hD : va_D A [(h0, txE ad (s_length + 1)), (ad 0, aI G 48 (upd q_bytes (Int32.toNatClampNeg s_length) a1))] := hD
    refine lv_iconst (v := 1) hx hb dX2_append_31 (by decide) ?_
    have hv := Option.some.inj hf
    exact hret _ _ _ _ _ (by rw [← hv]; exact hP) hS rfl (by rw [← hv]) dX2_append_32
  · have hf := iteF hf c1
    refine lv_iconst (v := 0) hx hb dX2_append_9 (by decide) ?_
    have hv := Option.some.inj hf
    exact hret _ _ _ _ _ (by rw [← hv]; exact hP) hS rfl (by rw [← hv]) dX2_append_10
def fX2_byteAt (s_length : Int32) (q_bytes : Nat → Int32) (a1 : Int32) : Option (Int32) :=
  (if a1 < 0 then some (-9) else (if s_length ≤ a1 then some (-9) else (if 48 ≤ a1 then some (-9) else ck a1 48 (some (q_bytes (Int32.toNatClampNeg a1))))))
set_option maxHeartbeats 4000000 in
set_option maxRecDepth 100000 in
theorem ctX2_byteAt (l : Launch) (G : GG) (h0 : Nat) (ad : Nat → Nat) (s_length : Int32) (q_bytes : Nat → Int32) (a1 : Int32) (out : Int32) (hf : fX2_byteAt s_length q_bytes a1 = some out) : Met l yX2_byteAt wsX2_byteAt ({ frames := 0, cells := 0, slots := 0, locals := 0 }) (PcR G [.ref h0, .int a1] [(h0, txE ad s_length), (ad 0, aI G 48 q_bytes)]) (QiR out) 0 0 noA := by
  refine mk_Ri (cc := cX2_byteAt) (maxL := 2) (by decide) rfl (Nat.le_of_ble_eq_true rfl) ?_
  intro p e s m args below meth c Q ls S hP hK hl hret
  obtain ⟨hx, hb, hml, hown, hts⟩ := S
  have hown : s.vm.findClass RX2 = some m.cls := hown
  have kl_15 := hts (.fieldLink RX2 15 "ArrestOrder$Text" "length" "I") (by decide +kernel)
  have hi_X2 : ∀ w ∈ wsX20, w ∈ wsX2_byteAt := fun _ h => List.mem_cons_of_mem _ (List.mem_append_right _ h)
  have kl_9 := hts (.fieldLink RX2 9 "ArrestOrder$Text" "bytes" "[I") (by decide +kernel)
  have hS : va_S noA s.heap s.heap [] := va_S.rf
  have hl : lv_has ls 2 [(0, .ref h0), (1, .int a1)] := hl
  refine lv_iload_n hx hb dX2_byteAt_0 rfl (lv_at hl 1 rfl) ?_
  refine lv_if_lt (tgt := 27) hx hb dX2_byteAt_1 (by decide) (fun c1 => ?_) (fun c1 => ?_)
  · have hf := iteT hf c1
    refine lv_bipush (v := (-9)) hx hb dX2_byteAt_27 (by decide) ?_
    have hv := Option.some.inj hf
    exact hret _ _ _ _ _ hS hv dX2_byteAt_29
  · have hf := iteF hf c1
    refine lv_iload_n hx hb dX2_byteAt_4 rfl (lv_at hl 1 rfl) ?_
    refine lv_aload_n hx hb dX2_byteAt_5 rfl (lv_at hl 0 rfl) ?_
    refine va_get (D := gD G) (ci := 2) (v := .int s_length) (C := RX2) (T := TX2) (N := 2) hx hb hts hi_X2 hown hK.1 hP 0 rfl rfl 1 (by decide) kl_15 (fun _ h9 => h9) rfl dX2_byteAt_6 ?_
    refine lv_icmp_ge (tgt := 27) hx hb dX2_byteAt_9 (by decide) (fun c2 => ?_) (fun c2 => ?_)
    · have hf := iteT hf c2
      refine lv_bipush (v := (-9)) hx hb dX2_byteAt_27 (by decide) ?_
      have hv := Option.some.inj hf
      exact hret _ _ _ _ _ hS hv dX2_byteAt_29
    · have hf := iteF hf c2
      refine lv_iload_n hx hb dX2_byteAt_12 rfl (lv_at hl 1 rfl) ?_
      refine lv_bipush (v := 48) hx hb dX2_byteAt_13 (by decide) ?_
      refine lv_icmp_ge (tgt := 27) hx hb dX2_byteAt_15 (by decide) (fun c3 => ?_) (fun c3 => ?_)
      · have hf := iteT hf c3
        refine lv_bipush (v := (-9)) hx hb dX2_byteAt_27 (by decide) ?_
        have hv := Option.some.inj hf
        exact hret _ _ _ _ _ hS hv dX2_byteAt_29
      · have hf := iteF hf c3
        refine lv_aload_n hx hb dX2_byteAt_18 rfl (lv_at hl 0 rfl) ?_
        refine va_get (D := gD G) (ci := 2) (v := .ref (ad 0)) (C := RX2) (T := TX2) (N := 2) hx hb hts hi_X2 hown hK.1 hP 0 rfl rfl 0 (by decide) kl_9 (fun _ h9 => h9) rfl dX2_byteAt_19 ?_
        refine lv_iload_n hx hb dX2_byteAt_22 rfl (lv_at hl 1 rfl) ?_
        obtain ⟨hi4, hf⟩ := ckS hf
        refine va_iald hx hb hK.1 hP 1 0 rfl rfl hi4 dX2_byteAt_23 ?_
        refine lv_goto (tgt := 29) hx hb dX2_byteAt_24 (by decide) ?_
        have hv := Option.some.inj hf
        exact hret _ _ _ _ _ hS hv dX2_byteAt_29
def fX2_figureAt (s_length : Int32) (q_bytes : Nat → Int32) (a1 : Int32) : Option (Int32) :=
  (fX2_byteAt s_length q_bytes a1).bind fun o1 => ((if o1 < 48 then some (-9) else (if 57 < o1 then some (-9) else some (o1 - 48))))
set_option maxHeartbeats 4000000 in
set_option maxRecDepth 100000 in
theorem ctX2_figureAt (l : Launch) (G : GG) (h0 : Nat) (ad : Nat → Nat) (s_length : Int32) (q_bytes : Nat → Int32) (a1 : Int32) (out : Int32) (hf : fX2_figureAt s_length q_bytes a1 = some out) : Met l yX2_figureAt wsX2_figureAt ({ frames := 1, cells := 0, slots := 0, locals := 21 }) (PcR G [.ref h0, .int a1] [(h0, txE ad s_length), (ad 0, aI G 48 q_bytes)]) (QiR out) 0 0 noA := by
  refine mk_Ri (cc := cX2_figureAt) (maxL := 3) (by decide) rfl (Nat.le_of_ble_eq_true rfl) ?_
  intro p e s m args below meth c Q ls S hP hK hl hret
  obtain ⟨hx, hb, hml, hown, hts⟩ := S
  have hown : s.vm.findClass RX2 = some m.cls := hown
  have hS : va_S noA s.heap s.heap [] := va_S.rf
  have hl : lv_has ls 3 [(0, .ref h0), (1, .int a1)] := hl
  refine lv_aload_n hx hb dX2_figureAt_0 rfl (lv_at hl 0 rfl) ?_
  refine lv_iload_n hx hb dX2_figureAt_1 rfl (lv_at hl 1 rfl) ?_
  obtain ⟨o1, hc2, hf⟩ := bindS hf
  refine ro_i (va_runV (C := RX2) (As := [.int a1]) (rest := []) ⟨hx, hb, hml, hown, hts⟩ (ctX2_byteAt l G h0 ad s_length q_bytes a1 o1 hc2) (cwV 1 hts gX2_figureAt_X2_byteAt rfl rfl rfl (by decide +kernel) ⟨Nat.le_of_ble_eq_true rfl, Nat.le_of_ble_eq_true rfl⟩) (preR_V (q0 := 0) (ci := 2) (hP.sub (ws' := [(h0, txE ad s_length), (ad 0, aI G 48 q_bytes)]) [0, 1] rfl) hK rfl rfl) rfl rfl hl.1 rfl (lv_room (Nat.le_of_ble_eq_true rfl)) dX2_figureAt_2 ⟨Nat.zero_le _, Nat.zero_le _⟩) hS hP (fun H locs hP hS => ?_)
  refine lv_istore_n (lv' := [(2, .int o1), (0, .ref h0), (1, .int a1)]) hx hb dX2_figureAt_5 rfl hl (by decide) rfl (fun ls hl => ?_)
  refine lv_iload_n hx hb dX2_figureAt_6 rfl (lv_at hl 0 rfl) ?_
  refine lv_bipush (v := 48) hx hb dX2_figureAt_7 (by decide) ?_
  refine lv_icmp_lt (tgt := 25) hx hb dX2_figureAt_9 (by decide) (fun c3 => ?_) (fun c3 => ?_)
  · have hf := iteT hf c3
    refine lv_bipush (v := (-9)) hx hb dX2_figureAt_25 (by decide) ?_
    have hv := Option.some.inj hf
    exact hret _ _ _ _ _ hS hv dX2_figureAt_27
  · have hf := iteF hf c3
    refine lv_iload_n hx hb dX2_figureAt_12 rfl (lv_at hl 0 rfl) ?_
    refine lv_bipush (v := 57) hx hb dX2_figureAt_13 (by decide) ?_
    refine lv_icmp_gt (tgt := 25) hx hb dX2_figureAt_15 (by decide) (fun c4 => ?_) (fun c4 => ?_)
    · have hf := iteT hf c4
      refine lv_bipush (v := (-9)) hx hb dX2_figureAt_25 (by decide) ?_
      have hv := Option.some.inj hf
      exact hret _ _ _ _ _ hS hv dX2_figureAt_27
    · have hf := iteF hf c4
      refine lv_iload_n hx hb dX2_figureAt_18 rfl (lv_at hl 0 rfl) ?_
      refine lv_bipush (v := 48) hx hb dX2_figureAt_19 (by decide) ?_
      refine lv_isub hx hb dX2_figureAt_21 ?_
      refine lv_goto (tgt := 27) hx hb dX2_figureAt_22 (by decide) ?_
      have hv := Option.some.inj hf
      exact hret _ _ _ _ _ hS hv dX2_figureAt_27
def fX2_readPerson (s_length : Int32) (q_bytes : Nat → Int32) (s_a2_people : Int32) (s_a2_kinds : Int32) (s_a2_deeds : Int32) (s_a2_large : Int32) (a1 : Int32) : Option (Int32 × Int32 × Int32 × Int32 × Int32) :=
  (fX2_figureAt s_length q_bytes a1).bind fun o1 => ((if o1 = (-9) then some (a1, s_a2_people, s_a2_kinds, s_a2_deeds, s_a2_large) else (fX2_figureAt s_length q_bytes (a1 + 1)).bind fun o4 => ((if o4 = (-9) then some ((a1 + 1), s_a2_people, s_a2_kinds, s_a2_deeds, s_a2_large) else (if o4 < 4 then (fX1_add s_a2_people s_a2_kinds s_a2_deeds s_a2_large o1 o4).bind fun o8 => (some ((-9), o8.1, o8.2.1, o8.2.2.1, o8.2.2.2)) else some ((a1 + 1), s_a2_people, s_a2_kinds, s_a2_deeds, s_a2_large))))))
set_option maxHeartbeats 4000000 in
set_option maxRecDepth 100000 in
theorem ctX2_readPerson (l : Launch) (G : GG) (h0 : Nat) (h_a2 : Nat) (ad : Nat → Nat) (s_length : Int32) (q_bytes : Nat → Int32) (s_a2_people : Int32) (s_a2_kinds : Int32) (s_a2_deeds : Int32) (s_a2_feeding : Int64) (s_a2_large : Int32) (s_a2_dead : Int32) (s_a2_dayNumber : Int32) (a1 : Int32) (out : Int32 × Int32 × Int32 × Int32 × Int32) (hf : fX2_readPerson s_length q_bytes s_a2_people s_a2_kinds s_a2_deeds s_a2_large a1 = some out) : Met l yX2_readPerson wsX2_readPerson ({ frames := 2, cells := 0, slots := 0, locals := 43 }) (PcW G [.ref h0, .int a1, .ref h_a2] [(h0, txE ad s_length), (ad 0, aI G 48 q_bytes), (h_a2, stE s_a2_people s_a2_kinds s_a2_deeds s_a2_feeding s_a2_large s_a2_dead s_a2_dayNumber)]) (QiW G [(h0, txE ad s_length), (ad 0, aI G 48 q_bytes), (h_a2, stE s_a2_people s_a2_kinds s_a2_deeds s_a2_feeding s_a2_large s_a2_dead s_a2_dayNumber)] [(h0, txE ad s_length), (ad 0, aI G 48 q_bytes), (h_a2, stE out.2.1 out.2.2.1 out.2.2.2.1 s_a2_feeding out.2.2.2.2 s_a2_dead s_a2_dayNumber)] out.1) 0 0 (inA [(h0, txE ad s_length), (ad 0, aI G 48 q_bytes), (h_a2, stE s_a2_people s_a2_kinds s_a2_deeds s_a2_feeding s_a2_large s_a2_dead s_a2_dayNumber)]) := by
  refine mk_Wi (cc := cX2_readPerson) (maxL := 5) (by decide) rfl (Nat.le_of_ble_eq_true rfl) ?_
  intro p e s m args below meth c Q ls A S hP hK hD hl hret
  obtain ⟨hx, hb, hml, hown, hts⟩ := S
  have hown : s.vm.findClass RX2 = some m.cls := hown
  have hS : va_S A s.heap s.heap [] := va_S.rf
  have hl : lv_has ls 5 [(0, .ref h0), (1, .int a1), (2, .ref h_a2)] := hl
  refine lv_aload_n hx hb dX2_readPerson_0 rfl (lv_at hl 0 rfl) ?_
  refine lv_iload_n hx hb dX2_readPerson_1 rfl (lv_at hl 1 rfl) ?_
  obtain ⟨o1, hc2, hf⟩ := bindS hf
  refine ro_i (va_runV (C := RX2) (As := [.int a1]) (rest := []) ⟨hx, hb, hml, hown, hts⟩ (ctX2_figureAt l G h0 ad s_length q_bytes a1 o1 hc2) (cwV 1 hts gX2_readPerson_X2_figureAt rfl rfl rfl (by decide +kernel) ⟨Nat.le_of_ble_eq_true rfl, Nat.le_of_ble_eq_true rfl⟩) (preR_V (q0 := 0) (ci := 2) (hP.sub (ws' := [(h0, txE ad s_length), (ad 0, aI G 48 q_bytes)]) [0, 1] rfl) hK rfl rfl) rfl rfl hl.1 rfl (lv_room (Nat.le_of_ble_eq_true rfl)) dX2_readPerson_2 ⟨Nat.zero_le _, Nat.zero_le _⟩) hS hP (fun H locs hP hS => ?_)
  refine lv_istore_n (lv' := [(3, .int o1), (0, .ref h0), (1, .int a1), (2, .ref h_a2)]) hx hb dX2_readPerson_5 rfl hl (by decide) rfl (fun ls hl => ?_)
  refine lv_iload_n hx hb dX2_readPerson_6 rfl (lv_at hl 0 rfl) ?_
  refine lv_bipush (v := (-9)) hx hb dX2_readPerson_7 (by decide) ?_
  refine lv_icmp_ne (tgt := 14) hx hb dX2_readPerson_9 (by decide) (fun c3 => ?_) (fun c3 => ?_)
  · have hf := iteF hf c3
    refine lv_aload_n hx hb dX2_readPerson_14 rfl (lv_at hl 1 rfl) ?_
    refine lv_iload_n hx hb dX2_readPerson_15 rfl (lv_at hl 2 rfl) ?_
    refine lv_iconst (v := 1) hx hb dX2_readPerson_16 (by decide) ?_
    refine lv_iadd hx hb dX2_readPerson_17 ?_
    obtain ⟨o4, hc5, hf⟩ := bindS hf
    refine ro_i (va_runV (C := RX2) (As := [.int (a1 + 1)]) (rest := []) ⟨hx, hb, hml, hown, hts⟩ (ctX2_figureAt l G h0 ad s_length q_bytes (a1 + 1) o4 hc5) (cwV 1 hts gX2_readPerson_X2_figureAt rfl rfl rfl (by decide +kernel) ⟨Nat.le_of_ble_eq_true rfl, Nat.le_of_ble_eq_true rfl⟩) (preR_V (q0 := 0) (ci := 2) (hP.sub (ws' := [(h0, txE ad s_length), (ad 0, aI G 48 q_bytes)]) [0, 1] rfl) hK rfl rfl) rfl rfl hl.1 rfl (lv_room (Nat.le_of_ble_eq_true rfl)) dX2_readPerson_18 ⟨Nat.zero_le _, Nat.zero_le _⟩) hS hP (fun H locs hP hS => ?_)
    refine lv_istore (lv' := [(4, .int o4), (3, .int o1), (0, .ref h0), (1, .int a1), (2, .ref h_a2)]) hx hb dX2_readPerson_21 hl (by decide) rfl (fun ls hl => ?_)
    refine lv_iload hx hb dX2_readPerson_23 (lv_at hl 0 rfl) ?_
    refine lv_bipush (v := (-9)) hx hb dX2_readPerson_25 (by decide) ?_
    refine lv_icmp_eq (tgt := 36) hx hb dX2_readPerson_27 (by decide) (fun c6 => ?_) (fun c6 => ?_)
    · have hf := iteT hf c6
      refine lv_iload_n hx hb dX2_readPerson_36 rfl (lv_at hl 3 rfl) ?_
      refine lv_iconst (v := 1) hx hb dX2_readPerson_37 (by decide) ?_
      refine lv_iadd hx hb dX2_readPerson_38 ?_
      have hv := Option.some.inj hf
      exact hret _ _ _ _ _ (by rw [← hv]; exact hP) hS (by rw [← hv]) dX2_readPerson_39
    · have hf := iteF hf c6
      refine lv_iload hx hb dX2_readPerson_30 (lv_at hl 0 rfl) ?_
      refine lv_iconst (v := 4) hx hb dX2_readPerson_32 (by decide) ?_
      refine lv_icmp_lt (tgt := 40) hx hb dX2_readPerson_33 (by decide) (fun c7 => ?_) (fun c7 => ?_)
      · have hf := iteT hf c7
        refine lv_aload_n hx hb dX2_readPerson_40 rfl (lv_at hl 4 rfl) ?_
        refine lv_iload_n hx hb dX2_readPerson_41 rfl (lv_at hl 1 rfl) ?_
        refine lv_iload hx hb dX2_readPerson_42 (lv_at hl 0 rfl) ?_
        obtain ⟨o8, hc9, hf⟩ := bindS hf
        refine rw_v (va_runVN (C := RX1) (As := [.int o1, .int o4]) (rest := []) ⟨hx, hb, hml, hown, hts⟩ (ctX1_add l G h_a2 s_a2_people s_a2_kinds s_a2_deeds s_a2_feeding s_a2_large s_a2_dead s_a2_dayNumber o1 o4 o8 hc9) ⟨va_cnB 2 hts gX2_readPerson_X1_add_n48 rfl rfl rfl (nm_X2_48 hK.2) (hts (.initialized RX1) (by decide +kernel)) (by decide +kernel) ⟨Nat.le_of_ble_eq_true rfl, Nat.le_of_ble_eq_true rfl⟩, hts (.instanceMethod yX1_add) (by decide +kernel), hts (.selects RX1 yX1_add yX1_add) (by decide +kernel)⟩ (preW_V (q0 := 0) (ci := 1) (hP.sub (ws' := [(h_a2, stE s_a2_people s_a2_kinds s_a2_deeds s_a2_feeding s_a2_large s_a2_dead s_a2_dayNumber)]) [2] rfl) (hD.sub (ws' := [(h_a2, stE s_a2_people s_a2_kinds s_a2_deeds s_a2_feeding s_a2_large s_a2_dead s_a2_dayNumber)]) [2] (by decide) rfl) hK rfl rfl) rfl rfl hl.1 rfl (lv_room (Nat.le_of_ble_eq_true rfl)) dX2_readPerson_44 ⟨Nat.zero_le _, Nat.zero_le _⟩) hS hP hD [2] rfl rfl rfl (fun H locs hP hD hS => ?_)
        have hP : va_P (gD G) vwCl [(h0, txE ad s_length), (ad 0, aI G 48 q_bytes), (h_a2, stE o8.1 o8.2.1 o8.2.2.1 s_a2_feeding o8.2.2.2 s_a2_dead s_a2_dayNumber)] H := hP
        have hD : va_D A [(h0, txE ad s_length), (ad 0, aI G 48 q_bytes), (h_a2, stE o8.1 o8.2.1 o8.2.2.1 s_a2_feeding o8.2.2.2 s_a2_dead s_a2_dayNumber)] := hD
        refine lv_bipush (v := (-9)) hx hb dX2_readPerson_47 (by decide) ?_
        have hv := Option.some.inj hf
        exact hret _ _ _ _ _ (by rw [← hv]; exact hP) hS (by rw [← hv]) dX2_readPerson_49
      · have hf := iteF hf c7
        refine lv_iload_n hx hb dX2_readPerson_36 rfl (lv_at hl 3 rfl) ?_
        refine lv_iconst (v := 1) hx hb dX2_readPerson_37 (by decide) ?_
        refine lv_iadd hx hb dX2_readPerson_38 ?_
        have hv := Option.some.inj hf
        exact hret _ _ _ _ _ (by rw [← hv]; exact hP) hS (by rw [← hv]) dX2_readPerson_39
  · have hf := iteT hf c3
    refine lv_iload_n hx hb dX2_readPerson_12 rfl (lv_at hl 2 rfl) ?_
    have hv := Option.some.inj hf
    exact hret _ _ _ _ _ (by rw [← hv]; exact hP) hS (by rw [← hv]) dX2_readPerson_13
def fX2_readPair (s_length : Int32) (q_bytes : Nat → Int32) (s_a2_people : Int32) (s_a2_feeding : Int64) (a1 : Int32) : Option (Int32 × Int64) :=
  (fX2_figureAt s_length q_bytes a1).bind fun o1 => ((fX1_has s_a2_people o1).bind fun o3 => ((if o3 = 0 then some (a1, s_a2_feeding) else (fX1_whomFeeds s_a2_people s_a2_feeding o1).bind fun o6 => ((fJ6_bitCount_0f7a4 o6).bind fun o8 => ((if o8 < (s_a2_people - 1) then (fX2_figureAt s_length q_bytes (a1 + 1)).bind fun o11 => ((fX1_has s_a2_people o11).bind fun o13 => ((if o13 = 0 then some ((a1 + 1), s_a2_feeding) else (if o1 = o11 then some ((a1 + 1), s_a2_feeding) else (fX1_feeds s_a2_feeding o1 o11).bind fun o17 => ((if o17 = 0 then (fX3_pair o1 o11).bind fun o20 => (some ((-9), (s_a2_feeding ||| o20))) else some ((a1 + 1), s_a2_feeding))))))) else some (a1, s_a2_feeding)))))))
set_option maxHeartbeats 4000000 in
set_option maxRecDepth 100000 in
theorem ctX2_readPair (l : Launch) (G : GG) (h0 : Nat) (h_a2 : Nat) (ad : Nat → Nat) (s_length : Int32) (q_bytes : Nat → Int32) (s_a2_people : Int32) (s_a2_kinds : Int32) (s_a2_deeds : Int32) (s_a2_feeding : Int64) (s_a2_large : Int32) (s_a2_dead : Int32) (s_a2_dayNumber : Int32) (a1 : Int32) (out : Int32 × Int64) (hf : fX2_readPair s_length q_bytes s_a2_people s_a2_feeding a1 = some out) : Met l yX2_readPair wsX2_readPair ({ frames := 3, cells := 0, slots := 0, locals := 66 }) (PcW G [.ref h0, .int a1, .ref h_a2] [(h0, txE ad s_length), (ad 0, aI G 48 q_bytes), (h_a2, stE s_a2_people s_a2_kinds s_a2_deeds s_a2_feeding s_a2_large s_a2_dead s_a2_dayNumber)]) (QiW G [(h0, txE ad s_length), (ad 0, aI G 48 q_bytes), (h_a2, stE s_a2_people s_a2_kinds s_a2_deeds s_a2_feeding s_a2_large s_a2_dead s_a2_dayNumber)] [(h0, txE ad s_length), (ad 0, aI G 48 q_bytes), (h_a2, stE s_a2_people s_a2_kinds s_a2_deeds out.2 s_a2_large s_a2_dead s_a2_dayNumber)] out.1) 0 0 (inA [(h0, txE ad s_length), (ad 0, aI G 48 q_bytes), (h_a2, stE s_a2_people s_a2_kinds s_a2_deeds s_a2_feeding s_a2_large s_a2_dead s_a2_dayNumber)]) := by
  refine mk_Wi (cc := cX2_readPair) (maxL := 5) (by decide) rfl (Nat.le_of_ble_eq_true rfl) ?_
  intro p e s m args below meth c Q ls A S hP hK hD hl hret
  obtain ⟨hx, hb, hml, hown, hts⟩ := S
  have hown : s.vm.findClass RX2 = some m.cls := hown
  have hi_X1 : ∀ w ∈ wsX10, w ∈ wsX2_readPair := fun _ h => List.mem_cons_of_mem _ (List.mem_append_left _ (List.mem_append_right _ h))
  have hS : va_S A s.heap s.heap [] := va_S.rf
  have hl : lv_has ls 5 [(0, .ref h0), (1, .int a1), (2, .ref h_a2)] := hl
  refine lv_aload_n hx hb dX2_readPair_0 rfl (lv_at hl 0 rfl) ?_
  refine lv_iload_n hx hb dX2_readPair_1 rfl (lv_at hl 1 rfl) ?_
  obtain ⟨o1, hc2, hf⟩ := bindS hf
  refine ro_i (va_runV (C := RX2) (As := [.int a1]) (rest := []) ⟨hx, hb, hml, hown, hts⟩ (ctX2_figureAt l G h0 ad s_length q_bytes a1 o1 hc2) (cwV 1 hts gX2_readPair_X2_figureAt rfl rfl rfl (by decide +kernel) ⟨Nat.le_of_ble_eq_true rfl, Nat.le_of_ble_eq_true rfl⟩) (preR_V (q0 := 0) (ci := 2) (hP.sub (ws' := [(h0, txE ad s_length), (ad 0, aI G 48 q_bytes)]) [0, 1] rfl) hK rfl rfl) rfl rfl hl.1 rfl (lv_room (Nat.le_of_ble_eq_true rfl)) dX2_readPair_2 ⟨Nat.zero_le _, Nat.zero_le _⟩) hS hP (fun H locs hP hS => ?_)
  refine lv_istore_n (lv' := [(3, .int o1), (0, .ref h0), (1, .int a1), (2, .ref h_a2)]) hx hb dX2_readPair_5 rfl hl (by decide) rfl (fun ls hl => ?_)
  refine lv_aload_n hx hb dX2_readPair_6 rfl (lv_at hl 3 rfl) ?_
  refine lv_iload_n hx hb dX2_readPair_7 rfl (lv_at hl 0 rfl) ?_
  obtain ⟨o3, hc4, hf⟩ := bindS hf
  refine ro_i (va_runVN (C := RX1) (As := [.int o1]) (rest := []) ⟨hx, hb, hml, hown, hts⟩ (ctX1_has l G h_a2 s_a2_people s_a2_kinds s_a2_deeds s_a2_feeding s_a2_large s_a2_dead s_a2_dayNumber o1 o3 hc4) ⟨va_cnB 1 hts gX2_readPair_X1_has_n52 rfl rfl rfl (nm_X2_52 hK.2) (hts (.initialized RX1) (by decide +kernel)) (by decide +kernel) ⟨Nat.le_of_ble_eq_true rfl, Nat.le_of_ble_eq_true rfl⟩, hts (.instanceMethod yX1_has) (by decide +kernel), hts (.selects RX1 yX1_has yX1_has) (by decide +kernel)⟩ (preR_V (q0 := 0) (ci := 1) (hP.sub (ws' := [(h_a2, stE s_a2_people s_a2_kinds s_a2_deeds s_a2_feeding s_a2_large s_a2_dead s_a2_dayNumber)]) [2] rfl) hK rfl rfl) rfl rfl hl.1 rfl (lv_room (Nat.le_of_ble_eq_true rfl)) dX2_readPair_8 ⟨Nat.zero_le _, Nat.zero_le _⟩) hS hP (fun H locs hP hS => ?_)
  refine lv_if_eq (tgt := 31) hx hb dX2_readPair_11 (by decide) (fun c5 => ?_) (fun c5 => ?_)
  · have hf := iteT hf c5
    refine lv_iload_n hx hb dX2_readPair_31 rfl (lv_at hl 2 rfl) ?_
    have hv := Option.some.inj hf
    exact hret _ _ _ _ _ (by rw [← hv]; exact hP) hS (by rw [← hv]) dX2_readPair_32
  · have hf := iteF hf c5
    refine lv_aload_n hx hb dX2_readPair_14 rfl (lv_at hl 3 rfl) ?_
    refine lv_iload_n hx hb dX2_readPair_15 rfl (lv_at hl 0 rfl) ?_
    obtain ⟨o6, hc7, hf⟩ := bindS hf
    refine ro_i (va_runVN (C := RX1) (As := [.int o1]) (rest := []) ⟨hx, hb, hml, hown, hts⟩ (ctX1_whomFeeds l G h_a2 s_a2_people s_a2_kinds s_a2_deeds s_a2_feeding s_a2_large s_a2_dead s_a2_dayNumber o1 o6 hc7) ⟨va_cnB 1 hts gX2_readPair_X1_whomFeeds_n56 rfl rfl rfl (nm_X2_56 hK.2) (hts (.initialized RX1) (by decide +kernel)) (by decide +kernel) ⟨Nat.le_of_ble_eq_true rfl, Nat.le_of_ble_eq_true rfl⟩, hts (.instanceMethod yX1_whomFeeds) (by decide +kernel), hts (.selects RX1 yX1_whomFeeds yX1_whomFeeds) (by decide +kernel)⟩ (preR_V (q0 := 0) (ci := 1) (hP.sub (ws' := [(h_a2, stE s_a2_people s_a2_kinds s_a2_deeds s_a2_feeding s_a2_large s_a2_dead s_a2_dayNumber)]) [2] rfl) hK rfl rfl) rfl rfl hl.1 rfl (lv_room (Nat.le_of_ble_eq_true rfl)) dX2_readPair_16 ⟨Nat.zero_le _, Nat.zero_le _⟩) hS hP (fun H locs hP hS => ?_)
    obtain ⟨o8, hc9, hf⟩ := bindS hf
    refine ro_i (va_runS (As := [.int o6]) (rest := []) ⟨hx, hb, hml, hown, hts⟩ (ctJ6_bitCount_0f7a4 l G o6 o8 hc9) (va_cwS 1 hts gX2_readPair_J6_bitCount_0f7a4 rfl rfl rfl (by decide +kernel) ⟨Nat.le_of_ble_eq_true rfl, Nat.le_of_ble_eq_true rfl⟩) (preR_S (hP.sub (ws' := []) [] rfl) hK) rfl rfl hl.1 rfl (lv_room (Nat.le_of_ble_eq_true rfl)) dX2_readPair_19 ⟨Nat.zero_le _, Nat.zero_le _⟩) hS hP (fun H locs hP hS => ?_)
    refine lv_aload_n hx hb dX2_readPair_22 rfl (lv_at hl 3 rfl) ?_
    refine va_getN (D := gD G) (ci := 1) (v := .int s_a2_people) (C := RX1) (T := TX1) (N := 7) hx hb hts hi_X1 hown hK.1 hP 2 rfl rfl 0 (by decide) (nf_X2_32 hK.2) (fun _ h9 => h9) rfl dX2_readPair_23 ?_
    refine lv_iconst (v := 1) hx hb dX2_readPair_26 (by decide) ?_
    refine lv_isub hx hb dX2_readPair_27 ?_
    refine lv_icmp_lt (tgt := 33) hx hb dX2_readPair_28 (by decide) (fun c10 => ?_) (fun c10 => ?_)
    · have hf := iteT hf c10
      refine lv_aload_n hx hb dX2_readPair_33 rfl (lv_at hl 1 rfl) ?_
      refine lv_iload_n hx hb dX2_readPair_34 rfl (lv_at hl 2 rfl) ?_
      refine lv_iconst (v := 1) hx hb dX2_readPair_35 (by decide) ?_
      refine lv_iadd hx hb dX2_readPair_36 ?_
      obtain ⟨o11, hc12, hf⟩ := bindS hf
      refine ro_i (va_runV (C := RX2) (As := [.int (a1 + 1)]) (rest := []) ⟨hx, hb, hml, hown, hts⟩ (ctX2_figureAt l G h0 ad s_length q_bytes (a1 + 1) o11 hc12) (cwV 1 hts gX2_readPair_X2_figureAt rfl rfl rfl (by decide +kernel) ⟨Nat.le_of_ble_eq_true rfl, Nat.le_of_ble_eq_true rfl⟩) (preR_V (q0 := 0) (ci := 2) (hP.sub (ws' := [(h0, txE ad s_length), (ad 0, aI G 48 q_bytes)]) [0, 1] rfl) hK rfl rfl) rfl rfl hl.1 rfl (lv_room (Nat.le_of_ble_eq_true rfl)) dX2_readPair_37 ⟨Nat.zero_le _, Nat.zero_le _⟩) hS hP (fun H locs hP hS => ?_)
      refine lv_istore (lv' := [(4, .int o11), (3, .int o1), (0, .ref h0), (1, .int a1), (2, .ref h_a2)]) hx hb dX2_readPair_40 hl (by decide) rfl (fun ls hl => ?_)
      refine lv_aload_n hx hb dX2_readPair_42 rfl (lv_at hl 4 rfl) ?_
      refine lv_iload hx hb dX2_readPair_43 (lv_at hl 0 rfl) ?_
      obtain ⟨o13, hc14, hf⟩ := bindS hf
      refine ro_i (va_runVN (C := RX1) (As := [.int o11]) (rest := []) ⟨hx, hb, hml, hown, hts⟩ (ctX1_has l G h_a2 s_a2_people s_a2_kinds s_a2_deeds s_a2_feeding s_a2_large s_a2_dead s_a2_dayNumber o11 o13 hc14) ⟨va_cnB 1 hts gX2_readPair_X1_has_n52 rfl rfl rfl (nm_X2_52 hK.2) (hts (.initialized RX1) (by decide +kernel)) (by decide +kernel) ⟨Nat.le_of_ble_eq_true rfl, Nat.le_of_ble_eq_true rfl⟩, hts (.instanceMethod yX1_has) (by decide +kernel), hts (.selects RX1 yX1_has yX1_has) (by decide +kernel)⟩ (preR_V (q0 := 0) (ci := 1) (hP.sub (ws' := [(h_a2, stE s_a2_people s_a2_kinds s_a2_deeds s_a2_feeding s_a2_large s_a2_dead s_a2_dayNumber)]) [2] rfl) hK rfl rfl) rfl rfl hl.1 rfl (lv_room (Nat.le_of_ble_eq_true rfl)) dX2_readPair_45 ⟨Nat.zero_le _, Nat.zero_le _⟩) hS hP (fun H locs hP hS => ?_)
      refine lv_if_eq (tgt := 67) hx hb dX2_readPair_48 (by decide) (fun c15 => ?_) (fun c15 => ?_)
      · have hf := iteT hf c15
        refine lv_iload_n hx hb dX2_readPair_67 rfl (lv_at hl 3 rfl) ?_
        refine lv_iconst (v := 1) hx hb dX2_readPair_68 (by decide) ?_
        refine lv_iadd hx hb dX2_readPair_69 ?_
        have hv := Option.some.inj hf
        exact hret _ _ _ _ _ (by rw [← hv]; exact hP) hS (by rw [← hv]) dX2_readPair_70
      · have hf := iteF hf c15
        refine lv_iload_n hx hb dX2_readPair_51 rfl (lv_at hl 1 rfl) ?_
        refine lv_iload hx hb dX2_readPair_52 (lv_at hl 0 rfl) ?_
        refine lv_icmp_eq (tgt := 67) hx hb dX2_readPair_54 (by decide) (fun c16 => ?_) (fun c16 => ?_)
        · have hf := iteT hf c16
          refine lv_iload_n hx hb dX2_readPair_67 rfl (lv_at hl 3 rfl) ?_
          refine lv_iconst (v := 1) hx hb dX2_readPair_68 (by decide) ?_
          refine lv_iadd hx hb dX2_readPair_69 ?_
          have hv := Option.some.inj hf
          exact hret _ _ _ _ _ (by rw [← hv]; exact hP) hS (by rw [← hv]) dX2_readPair_70
        · have hf := iteF hf c16
          refine lv_aload_n hx hb dX2_readPair_57 rfl (lv_at hl 4 rfl) ?_
          refine lv_iload_n hx hb dX2_readPair_58 rfl (lv_at hl 1 rfl) ?_
          refine lv_iload hx hb dX2_readPair_59 (lv_at hl 0 rfl) ?_
          obtain ⟨o17, hc18, hf⟩ := bindS hf
          refine ro_i (va_runVN (C := RX1) (As := [.int o1, .int o11]) (rest := []) ⟨hx, hb, hml, hown, hts⟩ (ctX1_feeds l G h_a2 s_a2_people s_a2_kinds s_a2_deeds s_a2_feeding s_a2_large s_a2_dead s_a2_dayNumber o1 o11 o17 hc18) ⟨va_cnB 2 hts gX2_readPair_X1_feeds_n64 rfl rfl rfl (nm_X2_64 hK.2) (hts (.initialized RX1) (by decide +kernel)) (by decide +kernel) ⟨Nat.le_of_ble_eq_true rfl, Nat.le_of_ble_eq_true rfl⟩, hts (.instanceMethod yX1_feeds) (by decide +kernel), hts (.selects RX1 yX1_feeds yX1_feeds) (by decide +kernel)⟩ (preR_V (q0 := 0) (ci := 1) (hP.sub (ws' := [(h_a2, stE s_a2_people s_a2_kinds s_a2_deeds s_a2_feeding s_a2_large s_a2_dead s_a2_dayNumber)]) [2] rfl) hK rfl rfl) rfl rfl hl.1 rfl (lv_room (Nat.le_of_ble_eq_true rfl)) dX2_readPair_61 ⟨Nat.zero_le _, Nat.zero_le _⟩) hS hP (fun H locs hP hS => ?_)
          refine lv_if_eq (tgt := 71) hx hb dX2_readPair_64 (by decide) (fun c19 => ?_) (fun c19 => ?_)
          · have hf := iteT hf c19
            refine lv_aload_n hx hb dX2_readPair_71 rfl (lv_at hl 4 rfl) ?_
            refine lv_dup hx hb dX2_readPair_72 rfl ?_
            refine va_getN (D := gD G) (ci := 1) (v := .long s_a2_feeding) (C := RX1) (T := TX1) (N := 7) hx hb hts hi_X1 hown hK.1 hP 2 rfl rfl 3 (by decide) (nf_X2_68 hK.2) (fun _ h9 => h9) rfl dX2_readPair_73 ?_
            refine lv_iload_n hx hb dX2_readPair_76 rfl (lv_at hl 1 rfl) ?_
            refine lv_iload hx hb dX2_readPair_77 (lv_at hl 0 rfl) ?_
            obtain ⟨o20, hc21, hf⟩ := bindS hf
            refine ro_l (va_runSN (As := [.int o1, .int o11]) (rest := [.long s_a2_feeding, .ref h_a2]) ⟨hx, hb, hml, hown, hts⟩ (ctX3_pair l G o1 o11 o20 hc21) ⟨va_cnB 2 hts gX2_readPair_X3_pair_n72 rfl rfl rfl (nm_X2_72 hK.2) (hts (.initialized RX3) (by decide +kernel)) (by decide +kernel) ⟨Nat.le_of_ble_eq_true rfl, Nat.le_of_ble_eq_true rfl⟩, hts (.static yX3_pair) (by decide +kernel), trivial⟩ (preR_S (hP.sub (ws' := []) [] rfl) hK) rfl rfl hl.1 rfl (lv_room (Nat.le_of_ble_eq_true rfl)) dX2_readPair_79 ⟨Nat.zero_le _, Nat.zero_le _⟩) hS hP (fun H locs hP hS => ?_)
            refine lv_lor hx hb dX2_readPair_82 ?_
            refine va_putN (D := gD G) (ci := 1) (v := .long (s_a2_feeding ||| o20)) (ty := .long) (C := RX1) (T := TX1) (N := 7) hx hb hts hi_X1 tyX1 tyX1_ok nmX1 hown hK.1 hP hD hS 2 rfl rfl 3 (by decide) (nf_X2_68 hK.2) (fun _ h9 => h9) rfl (tyX1_ok 3 (by decide)) rfl rfl (Nat.le_of_ble_eq_true rfl) dX2_readPair_83 (fun H locs hP hD hS => ?_)
            have hP : va_P (gD G) vwCl [(h0, txE ad s_length), (ad 0, aI G 48 q_bytes), (h_a2, stE s_a2_people s_a2_kinds s_a2_deeds (s_a2_feeding ||| o20) s_a2_large s_a2_dead s_a2_dayNumber)] H := hP
            have hD : va_D A [(h0, txE ad s_length), (ad 0, aI G 48 q_bytes), (h_a2, stE s_a2_people s_a2_kinds s_a2_deeds (s_a2_feeding ||| o20) s_a2_large s_a2_dead s_a2_dayNumber)] := hD
            refine lv_bipush (v := (-9)) hx hb dX2_readPair_86 (by decide) ?_
            have hv := Option.some.inj hf
            exact hret _ _ _ _ _ (by rw [← hv]; exact hP) hS (by rw [← hv]) dX2_readPair_88
          · have hf := iteF hf c19
            refine lv_iload_n hx hb dX2_readPair_67 rfl (lv_at hl 3 rfl) ?_
            refine lv_iconst (v := 1) hx hb dX2_readPair_68 (by decide) ?_
            refine lv_iadd hx hb dX2_readPair_69 ?_
            have hv := Option.some.inj hf
            exact hret _ _ _ _ _ (by rw [← hv]; exact hP) hS (by rw [← hv]) dX2_readPair_70
    · have hf := iteF hf c10
      refine lv_iload_n hx hb dX2_readPair_31 rfl (lv_at hl 2 rfl) ?_
      have hv := Option.some.inj hf
      exact hret _ _ _ _ _ (by rw [← hv]; exact hP) hS (by rw [← hv]) dX2_readPair_32
def fX2_readPart_28 (s_length : Int32) (q_bytes : Nat → Int32) (a1 : Int32) (s_a2_people : Int32) (s_a2_kinds : Int32) (s_a2_deeds : Int32) (s_a2_feeding : Int64) (s_a2_large : Int32) : Option (Int32 × Int32 × Int32 × Int32 × Int64 × Int32) :=
  (fX2_byteAt s_length q_bytes a1).bind fun o4 => ((if o4 = 70 then (fX1_hasPairLeft s_a2_people s_a2_feeding).bind fun o7 => ((if o7 = 0 then some (a1, s_a2_people, s_a2_kinds, s_a2_deeds, s_a2_feeding, s_a2_large) else (fX2_readPair s_length q_bytes s_a2_people s_a2_feeding (a1 + 1)).bind fun o10 => (some (o10.1, s_a2_people, s_a2_kinds, s_a2_deeds, o10.2, s_a2_large)))) else some (a1, s_a2_people, s_a2_kinds, s_a2_deeds, s_a2_feeding, s_a2_large)))
def fX2_readPart (s_length : Int32) (q_bytes : Nat → Int32) (s_a2_people : Int32) (s_a2_kinds : Int32) (s_a2_deeds : Int32) (s_a2_feeding : Int64) (s_a2_large : Int32) (a1 : Int32) : Option (Int32 × Int32 × Int32 × Int32 × Int64 × Int32) :=
  (fX2_byteAt s_length q_bytes a1).bind fun o1 => ((if o1 = 80 then (if 7 ≤ s_a2_people then (fX2_readPart_28 s_length q_bytes a1 s_a2_people s_a2_kinds s_a2_deeds s_a2_feeding s_a2_large) else (fX2_readPerson s_length q_bytes s_a2_people s_a2_kinds s_a2_deeds s_a2_large (a1 + 1)).bind fun o13 => (some (o13.1, o13.2.1, o13.2.2.1, o13.2.2.2.1, s_a2_feeding, o13.2.2.2.2))) else (fX2_readPart_28 s_length q_bytes a1 s_a2_people s_a2_kinds s_a2_deeds s_a2_feeding s_a2_large)))
set_option maxHeartbeats 4000000 in
set_option maxRecDepth 100000 in
theorem ctX2_readPart (l : Launch) (G : GG) (h0 : Nat) (h_a2 : Nat) (ad : Nat → Nat) (s_length : Int32) (q_bytes : Nat → Int32) (s_a2_people : Int32) (s_a2_kinds : Int32) (s_a2_deeds : Int32) (s_a2_feeding : Int64) (s_a2_large : Int32) (s_a2_dead : Int32) (s_a2_dayNumber : Int32) (a1 : Int32) (out : Int32 × Int32 × Int32 × Int32 × Int64 × Int32) (hf : fX2_readPart s_length q_bytes s_a2_people s_a2_kinds s_a2_deeds s_a2_feeding s_a2_large a1 = some out) : Met l yX2_readPart wsX2_readPart ({ frames := 4, cells := 0, slots := 0, locals := 90 }) (PcW G [.ref h0, .int a1, .ref h_a2] [(h0, txE ad s_length), (ad 0, aI G 48 q_bytes), (h_a2, stE s_a2_people s_a2_kinds s_a2_deeds s_a2_feeding s_a2_large s_a2_dead s_a2_dayNumber)]) (QiW G [(h0, txE ad s_length), (ad 0, aI G 48 q_bytes), (h_a2, stE s_a2_people s_a2_kinds s_a2_deeds s_a2_feeding s_a2_large s_a2_dead s_a2_dayNumber)] [(h0, txE ad s_length), (ad 0, aI G 48 q_bytes), (h_a2, stE out.2.1 out.2.2.1 out.2.2.2.1 out.2.2.2.2.1 out.2.2.2.2.2 s_a2_dead s_a2_dayNumber)] out.1) 0 0 (inA [(h0, txE ad s_length), (ad 0, aI G 48 q_bytes), (h_a2, stE s_a2_people s_a2_kinds s_a2_deeds s_a2_feeding s_a2_large s_a2_dead s_a2_dayNumber)]) := by
  refine mk_Wi (cc := cX2_readPart) (maxL := 3) (by decide) rfl (Nat.le_of_ble_eq_true rfl) ?_
  intro p e s m args below meth c Q ls A S hP hK hD hl hret
  obtain ⟨hx, hb, hml, hown, hts⟩ := S
  have hown : s.vm.findClass RX2 = some m.cls := hown
  have hi_X1 : ∀ w ∈ wsX10, w ∈ wsX2_readPart := fun _ h => List.mem_cons_of_mem _ (List.mem_append_left _ (List.mem_append_right _ h))
  have hS : va_S A s.heap s.heap [] := va_S.rf
  have hl : lv_has ls 3 [(0, .ref h0), (1, .int a1), (2, .ref h_a2)] := hl
  have hC28 : ∀ (s_a2_people : Int32) (s_a2_kinds : Int32) (s_a2_deeds : Int32) (s_a2_feeding : Int64) (s_a2_large : Int32) (H : Heap) (locs : List Loc) (ls : Array Slot), va_P (gD G) vwCl [(h0, txE ad s_length), (ad 0, aI G 48 q_bytes), (h_a2, stE s_a2_people s_a2_kinds s_a2_deeds s_a2_feeding s_a2_large s_a2_dead s_a2_dayNumber)] H → va_D A [(h0, txE ad s_length), (ad 0, aI G 48 q_bytes), (h_a2, stE s_a2_people s_a2_kinds s_a2_deeds s_a2_feeding s_a2_large s_a2_dead s_a2_dayNumber)] → va_S A s.heap H locs → lv_has ls 3 [(0, .ref h0), (1, .int a1), (2, .ref h_a2)] → fX2_readPart_28 s_length q_bytes a1 s_a2_people s_a2_kinds s_a2_deeds s_a2_feeding s_a2_large = some out → W p l e ({ frames := 4, cells := 0, slots := 0, locals := 90 }) s m args below meth c H locs 0 0 Q (F0 m 28 ls []) := by
    intro s_a2_people s_a2_kinds s_a2_deeds s_a2_feeding s_a2_large H locs ls hP hD hS hl hf
    refine lv_aload_n hx hb dX2_readPart_28 rfl (lv_at hl 0 rfl) ?_
    refine lv_iload_n hx hb dX2_readPart_29 rfl (lv_at hl 1 rfl) ?_
    obtain ⟨o4, hc5, hf⟩ := bindS hf
    refine ro_i (va_runV (C := RX2) (As := [.int a1]) (rest := []) ⟨hx, hb, hml, hown, hts⟩ (ctX2_byteAt l G h0 ad s_length q_bytes a1 o4 hc5) (cwV 1 hts gX2_readPart_X2_byteAt rfl rfl rfl (by decide +kernel) ⟨Nat.le_of_ble_eq_true rfl, Nat.le_of_ble_eq_true rfl⟩) (preR_V (q0 := 0) (ci := 2) (hP.sub (ws' := [(h0, txE ad s_length), (ad 0, aI G 48 q_bytes)]) [0, 1] rfl) hK rfl rfl) rfl rfl hl.1 rfl (lv_room (Nat.le_of_ble_eq_true rfl)) dX2_readPart_30 ⟨Nat.zero_le _, Nat.zero_le _⟩) hS hP (fun H locs hP hS => ?_)
    refine lv_bipush (v := 70) hx hb dX2_readPart_33 (by decide) ?_
    refine lv_icmp_ne (tgt := 54) hx hb dX2_readPart_35 (by decide) (fun c6 => ?_) (fun c6 => ?_)
    · have hf := iteF hf c6
      refine lv_iload_n hx hb dX2_readPart_54 rfl (lv_at hl 1 rfl) ?_
      have hv := Option.some.inj hf
      exact hret _ _ _ _ _ (by rw [← hv]; exact hP) hS (by rw [← hv]) dX2_readPart_55
    · have hf := iteT hf c6
      refine lv_aload_n hx hb dX2_readPart_38 rfl (lv_at hl 2 rfl) ?_
      obtain ⟨o7, hc8, hf⟩ := bindS hf
      refine ro_i (va_runVN (C := RX1) (As := []) (rest := []) ⟨hx, hb, hml, hown, hts⟩ (ctX1_hasPairLeft l G h_a2 s_a2_people s_a2_kinds s_a2_deeds s_a2_feeding s_a2_large s_a2_dead s_a2_dayNumber o7 hc8) ⟨va_cnB 0 hts gX2_readPart_X1_hasPairLeft_n38 rfl rfl rfl (nm_X2_38 hK.2) (hts (.initialized RX1) (by decide +kernel)) (by decide +kernel) ⟨Nat.le_of_ble_eq_true rfl, Nat.le_of_ble_eq_true rfl⟩, hts (.instanceMethod yX1_hasPairLeft) (by decide +kernel), hts (.selects RX1 yX1_hasPairLeft yX1_hasPairLeft) (by decide +kernel)⟩ (preR_V (q0 := 0) (ci := 1) (hP.sub (ws' := [(h_a2, stE s_a2_people s_a2_kinds s_a2_deeds s_a2_feeding s_a2_large s_a2_dead s_a2_dayNumber)]) [2] rfl) hK rfl rfl) rfl rfl hl.1 rfl (lv_room (Nat.le_of_ble_eq_true rfl)) dX2_readPart_39 ⟨Nat.zero_le _, Nat.zero_le _⟩) hS hP (fun H locs hP hS => ?_)
      refine lv_if_eq (tgt := 54) hx hb dX2_readPart_42 (by decide) (fun c9 => ?_) (fun c9 => ?_)
      · have hf := iteT hf c9
        refine lv_iload_n hx hb dX2_readPart_54 rfl (lv_at hl 1 rfl) ?_
        have hv := Option.some.inj hf
        exact hret _ _ _ _ _ (by rw [← hv]; exact hP) hS (by rw [← hv]) dX2_readPart_55
      · have hf := iteF hf c9
        refine lv_aload_n hx hb dX2_readPart_45 rfl (lv_at hl 0 rfl) ?_
        refine lv_iload_n hx hb dX2_readPart_46 rfl (lv_at hl 1 rfl) ?_
        refine lv_iconst (v := 1) hx hb dX2_readPart_47 (by decide) ?_
        refine lv_iadd hx hb dX2_readPart_48 ?_
        refine lv_aload_n hx hb dX2_readPart_49 rfl (lv_at hl 2 rfl) ?_
        obtain ⟨o10, hc11, hf⟩ := bindS hf
        refine rw_i (va_runV (C := RX2) (As := [.int (a1 + 1), .ref h_a2]) (rest := []) ⟨hx, hb, hml, hown, hts⟩ (ctX2_readPair l G h0 h_a2 ad s_length q_bytes s_a2_people s_a2_kinds s_a2_deeds s_a2_feeding s_a2_large s_a2_dead s_a2_dayNumber (a1 + 1) o10 hc11) (cwV 2 hts gX2_readPart_X2_readPair rfl rfl rfl (by decide +kernel) ⟨Nat.le_of_ble_eq_true rfl, Nat.le_of_ble_eq_true rfl⟩) (preW_V (q0 := 0) (ci := 2) (hP.sub (ws' := [(h0, txE ad s_length), (ad 0, aI G 48 q_bytes), (h_a2, stE s_a2_people s_a2_kinds s_a2_deeds s_a2_feeding s_a2_large s_a2_dead s_a2_dayNumber)]) [0, 1, 2] rfl) (hD.sub (ws' := [(h0, txE ad s_length), (ad 0, aI G 48 q_bytes), (h_a2, stE s_a2_people s_a2_kinds s_a2_deeds s_a2_feeding s_a2_large s_a2_dead s_a2_dayNumber)]) [0, 1, 2] (by decide) rfl) hK rfl rfl) rfl rfl hl.1 rfl (lv_room (Nat.le_of_ble_eq_true rfl)) dX2_readPart_50 ⟨Nat.zero_le _, Nat.zero_le _⟩) hS hP hD [0, 1, 2] rfl rfl rfl (fun H locs hP hD hS => ?_)
        have hP : va_P (gD G) vwCl [(h0, txE ad s_length), (ad 0, aI G 48 q_bytes), (h_a2, stE s_a2_people s_a2_kinds s_a2_deeds o10.2 s_a2_large s_a2_dead s_a2_dayNumber)] H := hP
        have hD : va_D A [(h0, txE ad s_length), (ad 0, aI G 48 q_bytes), (h_a2, stE s_a2_people s_a2_kinds s_a2_deeds o10.2 s_a2_large s_a2_dead s_a2_dayNumber)] := hD
        have hv := Option.some.inj hf
        exact hret _ _ _ _ _ (by rw [← hv]; exact hP) hS (by rw [← hv]) dX2_readPart_53
  refine lv_aload_n hx hb dX2_readPart_0 rfl (lv_at hl 0 rfl) ?_
  refine lv_iload_n hx hb dX2_readPart_1 rfl (lv_at hl 1 rfl) ?_
  obtain ⟨o1, hc2, hf⟩ := bindS hf
  refine ro_i (va_runV (C := RX2) (As := [.int a1]) (rest := []) ⟨hx, hb, hml, hown, hts⟩ (ctX2_byteAt l G h0 ad s_length q_bytes a1 o1 hc2) (cwV 1 hts gX2_readPart_X2_byteAt rfl rfl rfl (by decide +kernel) ⟨Nat.le_of_ble_eq_true rfl, Nat.le_of_ble_eq_true rfl⟩) (preR_V (q0 := 0) (ci := 2) (hP.sub (ws' := [(h0, txE ad s_length), (ad 0, aI G 48 q_bytes)]) [0, 1] rfl) hK rfl rfl) rfl rfl hl.1 rfl (lv_room (Nat.le_of_ble_eq_true rfl)) dX2_readPart_2 ⟨Nat.zero_le _, Nat.zero_le _⟩) hS hP (fun H locs hP hS => ?_)
  refine lv_bipush (v := 80) hx hb dX2_readPart_5 (by decide) ?_
  refine lv_icmp_ne (tgt := 28) hx hb dX2_readPart_7 (by decide) (fun c3 => ?_) (fun c3 => ?_)
  · have hf := iteF hf c3
    exact hC28 s_a2_people s_a2_kinds s_a2_deeds s_a2_feeding s_a2_large _ _ _ hP hD hS (lv_sub hl [0, 1, 2] rfl) hf
  · have hf := iteT hf c3
    refine lv_aload_n hx hb dX2_readPart_10 rfl (lv_at hl 2 rfl) ?_
    refine va_getN (D := gD G) (ci := 1) (v := .int s_a2_people) (C := RX1) (T := TX1) (N := 7) hx hb hts hi_X1 hown hK.1 hP 2 rfl rfl 0 (by decide) (nf_X2_32 hK.2) (fun _ h9 => h9) rfl dX2_readPart_11 ?_
    refine lv_bipush (v := 7) hx hb dX2_readPart_14 (by decide) ?_
    refine lv_icmp_ge (tgt := 28) hx hb dX2_readPart_16 (by decide) (fun c12 => ?_) (fun c12 => ?_)
    · have hf := iteT hf c12
      exact hC28 s_a2_people s_a2_kinds s_a2_deeds s_a2_feeding s_a2_large _ _ _ hP hD hS (lv_sub hl [0, 1, 2] rfl) hf
    · have hf := iteF hf c12
      refine lv_aload_n hx hb dX2_readPart_19 rfl (lv_at hl 0 rfl) ?_
      refine lv_iload_n hx hb dX2_readPart_20 rfl (lv_at hl 1 rfl) ?_
      refine lv_iconst (v := 1) hx hb dX2_readPart_21 (by decide) ?_
      refine lv_iadd hx hb dX2_readPart_22 ?_
      refine lv_aload_n hx hb dX2_readPart_23 rfl (lv_at hl 2 rfl) ?_
      obtain ⟨o13, hc14, hf⟩ := bindS hf
      refine rw_i (va_runV (C := RX2) (As := [.int (a1 + 1), .ref h_a2]) (rest := []) ⟨hx, hb, hml, hown, hts⟩ (ctX2_readPerson l G h0 h_a2 ad s_length q_bytes s_a2_people s_a2_kinds s_a2_deeds s_a2_feeding s_a2_large s_a2_dead s_a2_dayNumber (a1 + 1) o13 hc14) (cwV 2 hts gX2_readPart_X2_readPerson rfl rfl rfl (by decide +kernel) ⟨Nat.le_of_ble_eq_true rfl, Nat.le_of_ble_eq_true rfl⟩) (preW_V (q0 := 0) (ci := 2) (hP.sub (ws' := [(h0, txE ad s_length), (ad 0, aI G 48 q_bytes), (h_a2, stE s_a2_people s_a2_kinds s_a2_deeds s_a2_feeding s_a2_large s_a2_dead s_a2_dayNumber)]) [0, 1, 2] rfl) (hD.sub (ws' := [(h0, txE ad s_length), (ad 0, aI G 48 q_bytes), (h_a2, stE s_a2_people s_a2_kinds s_a2_deeds s_a2_feeding s_a2_large s_a2_dead s_a2_dayNumber)]) [0, 1, 2] (by decide) rfl) hK rfl rfl) rfl rfl hl.1 rfl (lv_room (Nat.le_of_ble_eq_true rfl)) dX2_readPart_24 ⟨Nat.zero_le _, Nat.zero_le _⟩) hS hP hD [0, 1, 2] rfl rfl rfl (fun H locs hP hD hS => ?_)
      have hP : va_P (gD G) vwCl [(h0, txE ad s_length), (ad 0, aI G 48 q_bytes), (h_a2, stE o13.2.1 o13.2.2.1 o13.2.2.2.1 s_a2_feeding o13.2.2.2.2 s_a2_dead s_a2_dayNumber)] H := hP
      have hD : va_D A [(h0, txE ad s_length), (ad 0, aI G 48 q_bytes), (h_a2, stE o13.2.1 o13.2.2.1 o13.2.2.2.1 s_a2_feeding o13.2.2.2.2 s_a2_dead s_a2_dayNumber)] := hD
      have hv := Option.some.inj hf
      exact hret _ _ _ _ _ (by rw [← hv]; exact hP) hS (by rw [← hv]) dX2_readPart_27
def fX2_readInto_18 (s_length : Int32) (q_bytes : Nat → Int32) : Nat → Int32 → Int32 → Int32 → Int32 → Int64 → Int32 → Int32 → Int32 → Option (Int32 × Int32 × Int32 × Int32 × Int64 × Int32 × Int32 × Int32)
  | 0, _, _, _, _, _, _, _, _ => none
  | n + 1, x2, s_a1_people, s_a1_kinds, s_a1_deeds, s_a1_feeding, s_a1_large, s_a1_dead, s_a1_dayNumber => (if s_length ≤ x2 then some ((-9), s_a1_people, s_a1_kinds, s_a1_deeds, s_a1_feeding, s_a1_large, s_a1_dead, s_a1_dayNumber) else (fX2_readPart s_length q_bytes s_a1_people s_a1_kinds s_a1_deeds s_a1_feeding s_a1_large x2).bind fun o7 => ((if o7.1 = (-9) then (fX2_readInto_18 s_length q_bytes n (x2 + 3) o7.2.1 o7.2.2.1 o7.2.2.2.1 o7.2.2.2.2.1 o7.2.2.2.2.2 s_a1_dead s_a1_dayNumber) else some (o7.1, o7.2.1, o7.2.2.1, o7.2.2.2.1, o7.2.2.2.2.1, o7.2.2.2.2.2, s_a1_dead, s_a1_dayNumber))))
def fX2_readInto (s_length : Int32) (q_bytes : Nat → Int32) (s_a1_people : Int32) (s_a1_kinds : Int32) (s_a1_deeds : Int32) (s_a1_feeding : Int64) (s_a1_large : Int32) (s_a1_dead : Int32) (s_a1_dayNumber : Int32) : Option (Int32 × Int32 × Int32 × Int32 × Int64 × Int32 × Int32 × Int32) :=
  (fX1_clear s_a1_people s_a1_kinds s_a1_deeds s_a1_feeding s_a1_large s_a1_dead s_a1_dayNumber).bind fun o1 => ((fX2_byteAt s_length q_bytes 0).bind fun o3 => ((if o3 = 65 then (fX2_readInto_18 s_length q_bytes 20 1 o1.1 o1.2.1 o1.2.2.1 o1.2.2.2.1 o1.2.2.2.2.1 o1.2.2.2.2.2.1 o1.2.2.2.2.2.2) else some (0, o1.1, o1.2.1, o1.2.2.1, o1.2.2.2.1, o1.2.2.2.2.1, o1.2.2.2.2.2.1, o1.2.2.2.2.2.2))))
set_option maxHeartbeats 4000000 in
set_option maxRecDepth 100000 in
theorem ctX2_readInto (l : Launch) (G : GG) (h0 : Nat) (h_a1 : Nat) (ad : Nat → Nat) (s_length : Int32) (q_bytes : Nat → Int32) (s_a1_people : Int32) (s_a1_kinds : Int32) (s_a1_deeds : Int32) (s_a1_feeding : Int64) (s_a1_large : Int32) (s_a1_dead : Int32) (s_a1_dayNumber : Int32) (out : Int32 × Int32 × Int32 × Int32 × Int64 × Int32 × Int32 × Int32) (hf : fX2_readInto s_length q_bytes s_a1_people s_a1_kinds s_a1_deeds s_a1_feeding s_a1_large s_a1_dead s_a1_dayNumber = some out) : Met l yX2_readInto wsX2_readInto ({ frames := 5, cells := 0, slots := 0, locals := 112 }) (PcW G [.ref h0, .ref h_a1] [(h0, txE ad s_length), (ad 0, aI G 48 q_bytes), (h_a1, stE s_a1_people s_a1_kinds s_a1_deeds s_a1_feeding s_a1_large s_a1_dead s_a1_dayNumber)]) (QiW G [(h0, txE ad s_length), (ad 0, aI G 48 q_bytes), (h_a1, stE s_a1_people s_a1_kinds s_a1_deeds s_a1_feeding s_a1_large s_a1_dead s_a1_dayNumber)] [(h0, txE ad s_length), (ad 0, aI G 48 q_bytes), (h_a1, stE out.2.1 out.2.2.1 out.2.2.2.1 out.2.2.2.2.1 out.2.2.2.2.2.1 out.2.2.2.2.2.2.1 out.2.2.2.2.2.2.2)] out.1) 0 0 (inA [(h0, txE ad s_length), (ad 0, aI G 48 q_bytes), (h_a1, stE s_a1_people s_a1_kinds s_a1_deeds s_a1_feeding s_a1_large s_a1_dead s_a1_dayNumber)]) := by
  refine mk_Wi (cc := cX2_readInto) (maxL := 4) (by decide) rfl (Nat.le_of_ble_eq_true rfl) ?_
  intro p e s m args below meth c Q ls A S hP hK hD hl hret
  obtain ⟨hx, hb, hml, hown, hts⟩ := S
  have hown : s.vm.findClass RX2 = some m.cls := hown
  have kl_15 := hts (.fieldLink RX2 15 "ArrestOrder$Text" "length" "I") (by decide +kernel)
  have hi_X2 : ∀ w ∈ wsX20, w ∈ wsX2_readInto := fun _ h => List.mem_cons_of_mem _ (List.mem_append_left _ (List.mem_append_right _ h))
  have hS : va_S A s.heap s.heap [] := va_S.rf
  have hl : lv_has ls 4 [(0, .ref h0), (1, .ref h_a1)] := hl
  have hC18 : ∀ (n : Nat) (x2 : Int32) (s_a1_people : Int32) (s_a1_kinds : Int32) (s_a1_deeds : Int32) (s_a1_feeding : Int64) (s_a1_large : Int32) (s_a1_dead : Int32) (s_a1_dayNumber : Int32) (H : Heap) (locs : List Loc) (ls : Array Slot), va_P (gD G) vwCl [(h0, txE ad s_length), (ad 0, aI G 48 q_bytes), (h_a1, stE s_a1_people s_a1_kinds s_a1_deeds s_a1_feeding s_a1_large s_a1_dead s_a1_dayNumber)] H → va_D A [(h0, txE ad s_length), (ad 0, aI G 48 q_bytes), (h_a1, stE s_a1_people s_a1_kinds s_a1_deeds s_a1_feeding s_a1_large s_a1_dead s_a1_dayNumber)] → va_S A s.heap H locs → lv_has ls 4 [(0, .ref h0), (1, .ref h_a1), (2, .int x2)] → fX2_readInto_18 s_length q_bytes n x2 s_a1_people s_a1_kinds s_a1_deeds s_a1_feeding s_a1_large s_a1_dead s_a1_dayNumber = some out → W p l e ({ frames := 5, cells := 0, slots := 0, locals := 112 }) s m args below meth c H locs 0 0 Q (F0 m 18 ls []) := by
    intro n18
    induction n18 with
    | zero => intro x2 s_a1_people s_a1_kinds s_a1_deeds s_a1_feeding s_a1_large s_a1_dead s_a1_dayNumber H locs ls hP hD hS hl hf; exact absurd (show none = some out from hf) (fun z => by cases z)
    | succ n18 ih18 =>
      intro x2 s_a1_people s_a1_kinds s_a1_deeds s_a1_feeding s_a1_large s_a1_dead s_a1_dayNumber H locs ls hP hD hS hl hf
      refine lv_iload_n hx hb dX2_readInto_18 rfl (lv_at hl 2 rfl) ?_
      refine lv_aload_n hx hb dX2_readInto_19 rfl (lv_at hl 0 rfl) ?_
      refine va_get (D := gD G) (ci := 2) (v := .int s_length) (C := RX2) (T := TX2) (N := 2) hx hb hts hi_X2 hown hK.1 hP 0 rfl rfl 1 (by decide) kl_15 (fun _ h9 => h9) rfl dX2_readInto_20 ?_
      refine lv_icmp_ge (tgt := 47) hx hb dX2_readInto_23 (by decide) (fun c6 => ?_) (fun c6 => ?_)
      · have hf := iteT hf c6
        refine lv_bipush (v := (-9)) hx hb dX2_readInto_47 (by decide) ?_
        have hv := Option.some.inj hf
        exact hret _ _ _ _ _ (by rw [← hv]; exact hP) hS (by rw [← hv]) dX2_readInto_49
      · have hf := iteF hf c6
        refine lv_aload_n hx hb dX2_readInto_26 rfl (lv_at hl 0 rfl) ?_
        refine lv_iload_n hx hb dX2_readInto_27 rfl (lv_at hl 2 rfl) ?_
        refine lv_aload_n hx hb dX2_readInto_28 rfl (lv_at hl 1 rfl) ?_
        obtain ⟨o7, hc8, hf⟩ := bindS hf
        refine rw_i (va_runV (C := RX2) (As := [.int x2, .ref h_a1]) (rest := []) ⟨hx, hb, hml, hown, hts⟩ (ctX2_readPart l G h0 h_a1 ad s_length q_bytes s_a1_people s_a1_kinds s_a1_deeds s_a1_feeding s_a1_large s_a1_dead s_a1_dayNumber x2 o7 hc8) (cwV 2 hts gX2_readInto_X2_readPart rfl rfl rfl (by decide +kernel) ⟨Nat.le_of_ble_eq_true rfl, Nat.le_of_ble_eq_true rfl⟩) (preW_V (q0 := 0) (ci := 2) (hP.sub (ws' := [(h0, txE ad s_length), (ad 0, aI G 48 q_bytes), (h_a1, stE s_a1_people s_a1_kinds s_a1_deeds s_a1_feeding s_a1_large s_a1_dead s_a1_dayNumber)]) [0, 1, 2] rfl) (hD.sub (ws' := [(h0, txE ad s_length), (ad 0, aI G 48 q_bytes), (h_a1, stE s_a1_people s_a1_kinds s_a1_deeds s_a1_feeding s_a1_large s_a1_dead s_a1_dayNumber)]) [0, 1, 2] (by decide) rfl) hK rfl rfl) rfl rfl hl.1 rfl (lv_room (Nat.le_of_ble_eq_true rfl)) dX2_readInto_29 ⟨Nat.zero_le _, Nat.zero_le _⟩) hS hP hD [0, 1, 2] rfl rfl rfl (fun H locs hP hD hS => ?_)
        have hP : va_P (gD G) vwCl [(h0, txE ad s_length), (ad 0, aI G 48 q_bytes), (h_a1, stE o7.2.1 o7.2.2.1 o7.2.2.2.1 o7.2.2.2.2.1 o7.2.2.2.2.2 s_a1_dead s_a1_dayNumber)] H := hP
        have hD : va_D A [(h0, txE ad s_length), (ad 0, aI G 48 q_bytes), (h_a1, stE o7.2.1 o7.2.2.1 o7.2.2.2.1 o7.2.2.2.2.1 o7.2.2.2.2.2 s_a1_dead s_a1_dayNumber)] := hD
        refine lv_istore_n (lv' := [(3, .int o7.1), (0, .ref h0), (1, .ref h_a1), (2, .int x2)]) hx hb dX2_readInto_32 rfl hl (by decide) rfl (fun ls hl => ?_)
        refine lv_iload_n hx hb dX2_readInto_33 rfl (lv_at hl 0 rfl) ?_
        refine lv_bipush (v := (-9)) hx hb dX2_readInto_34 (by decide) ?_
        refine lv_icmp_eq (tgt := 41) hx hb dX2_readInto_36 (by decide) (fun c9 => ?_) (fun c9 => ?_)
        · have hf := iteT hf c9
          refine lv_iinc (v := (x2 + 3)) (lv' := [(2, .int (x2 + 3)), (3, .int o7.1), (0, .ref h0), (1, .ref h_a1)]) hx hb dX2_readInto_41 hl (k := 3) rfl rfl (by decide) rfl (fun ls hl => ?_)
          refine lv_goto (tgt := 18) hx hb dX2_readInto_44 (by decide) ?_
          exact ih18 (x2 + 3) o7.2.1 o7.2.2.1 o7.2.2.2.1 o7.2.2.2.2.1 o7.2.2.2.2.2 s_a1_dead s_a1_dayNumber _ _ _ hP hD hS (lv_sub hl [2, 3, 0] rfl) hf
        · have hf := iteF hf c9
          refine lv_iload_n hx hb dX2_readInto_39 rfl (lv_at hl 0 rfl) ?_
          have hv := Option.some.inj hf
          exact hret _ _ _ _ _ (by rw [← hv]; exact hP) hS (by rw [← hv]) dX2_readInto_40
  refine lv_aload_n hx hb dX2_readInto_0 rfl (lv_at hl 1 rfl) ?_
  obtain ⟨o1, hc2, hf⟩ := bindS hf
  refine rw_v (va_runVN (C := RX1) (As := []) (rest := []) ⟨hx, hb, hml, hown, hts⟩ (ctX1_clear l G h_a1 s_a1_people s_a1_kinds s_a1_deeds s_a1_feeding s_a1_large s_a1_dead s_a1_dayNumber o1 hc2) ⟨va_cnB 0 hts gX2_readInto_X1_clear_n19 rfl rfl rfl (nm_X2_19 hK.2) (hts (.initialized RX1) (by decide +kernel)) (by decide +kernel) ⟨Nat.le_of_ble_eq_true rfl, Nat.le_of_ble_eq_true rfl⟩, hts (.instanceMethod yX1_clear) (by decide +kernel), hts (.selects RX1 yX1_clear yX1_clear) (by decide +kernel)⟩ (preW_V (q0 := 0) (ci := 1) (hP.sub (ws' := [(h_a1, stE s_a1_people s_a1_kinds s_a1_deeds s_a1_feeding s_a1_large s_a1_dead s_a1_dayNumber)]) [2] rfl) (hD.sub (ws' := [(h_a1, stE s_a1_people s_a1_kinds s_a1_deeds s_a1_feeding s_a1_large s_a1_dead s_a1_dayNumber)]) [2] (by decide) rfl) hK rfl rfl) rfl rfl hl.1 rfl (lv_room (Nat.le_of_ble_eq_true rfl)) dX2_readInto_1 ⟨Nat.zero_le _, Nat.zero_le _⟩) hS hP hD [2] rfl rfl rfl (fun H locs hP hD hS => ?_)
  have hP : va_P (gD G) vwCl [(h0, txE ad s_length), (ad 0, aI G 48 q_bytes), (h_a1, stE o1.1 o1.2.1 o1.2.2.1 o1.2.2.2.1 o1.2.2.2.2.1 o1.2.2.2.2.2.1 o1.2.2.2.2.2.2)] H := hP
  have hD : va_D A [(h0, txE ad s_length), (ad 0, aI G 48 q_bytes), (h_a1, stE o1.1 o1.2.1 o1.2.2.1 o1.2.2.2.1 o1.2.2.2.2.1 o1.2.2.2.2.2.1 o1.2.2.2.2.2.2)] := hD
  refine lv_aload_n hx hb dX2_readInto_4 rfl (lv_at hl 0 rfl) ?_
  refine lv_iconst (v := 0) hx hb dX2_readInto_5 (by decide) ?_
  obtain ⟨o3, hc4, hf⟩ := bindS hf
  refine ro_i (va_runV (C := RX2) (As := [.int 0]) (rest := []) ⟨hx, hb, hml, hown, hts⟩ (ctX2_byteAt l G h0 ad s_length q_bytes 0 o3 hc4) (cwV 1 hts gX2_readInto_X2_byteAt rfl rfl rfl (by decide +kernel) ⟨Nat.le_of_ble_eq_true rfl, Nat.le_of_ble_eq_true rfl⟩) (preR_V (q0 := 0) (ci := 2) (hP.sub (ws' := [(h0, txE ad s_length), (ad 0, aI G 48 q_bytes)]) [0, 1] rfl) hK rfl rfl) rfl rfl hl.1 rfl (lv_room (Nat.le_of_ble_eq_true rfl)) dX2_readInto_6 ⟨Nat.zero_le _, Nat.zero_le _⟩) hS hP (fun H locs hP hS => ?_)
  refine lv_bipush (v := 65) hx hb dX2_readInto_9 (by decide) ?_
  refine lv_icmp_eq (tgt := 16) hx hb dX2_readInto_11 (by decide) (fun c5 => ?_) (fun c5 => ?_)
  · have hf := iteT hf c5
    refine lv_iconst (v := 1) hx hb dX2_readInto_16 (by decide) ?_
    refine lv_istore_n (lv' := [(2, .int 1), (0, .ref h0), (1, .ref h_a1)]) hx hb dX2_readInto_17 rfl hl (by decide) rfl (fun ls hl => ?_)
    exact hC18 20 1 o1.1 o1.2.1 o1.2.2.1 o1.2.2.2.1 o1.2.2.2.2.1 o1.2.2.2.2.2.1 o1.2.2.2.2.2.2 _ _ _ hP hD hS (lv_sub hl [1, 2, 0] rfl) hf
  · have hf := iteF hf c5
    refine lv_iconst (v := 0) hx hb dX2_readInto_14 (by decide) ?_
    have hv := Option.some.inj hf
    exact hret _ _ _ _ _ (by rw [← hv]; exact hP) hS (by rw [← hv]) dX2_readInto_15
