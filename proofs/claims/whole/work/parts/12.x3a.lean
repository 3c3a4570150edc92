def fX3_write (s_text_length : Int32) (q_text_bytes : Nat → Int32) (a1 : Int32) : Option (Int32 × Int32 × (Nat → Int32)) :=
  (if a1 < 0 then some ((-2), s_text_length, q_text_bytes) else (if a1 ≤ 255 then (fX2_append s_text_length q_text_bytes a1).bind fun o3 => ((if o3.1 = 0 then some ((-4), o3.2.1, o3.2.2) else some (o3.2.1, o3.2.1, o3.2.2))) else some ((-2), s_text_length, q_text_bytes)))
set_option maxHeartbeats 4000000 in
set_option maxRecDepth 100000 in
theorem ctX3_write (l : Launch) (G : GG) (h0 : Nat) (ad : Nat → Nat) (ad_text : Nat → Nat) (s_keptSlots : Int32) (s_seenCount : Int32) (s_seed : Int64) (s_text_length : Int32) (q_text_bytes : Nat → Int32) (a1 : Int32) (out : Int32 × Int32 × (Nat → Int32)) (hf : fX3_write s_text_length q_text_bytes a1 = some out) : Met l yX3_write wsX3_write ({ frames := 1, cells := 0, slots := 0, locals := 21 }) (PcW G [.ref h0, .int a1] [(h0, xoE ad s_keptSlots s_seenCount s_seed), (ad 0, txE ad_text s_text_length), (ad_text 0, aI G 48 q_text_bytes)]) (QiW G [(h0, xoE ad s_keptSlots s_seenCount s_seed), (ad 0, txE ad_text s_text_length), (ad_text 0, aI G 48 q_text_bytes)] [(h0, xoE ad s_keptSlots s_seenCount s_seed), (ad 0, txE ad_text out.2.1), (ad_text 0, aI G 48 out.2.2)] out.1) 0 0 (inA [(h0, xoE ad s_keptSlots s_seenCount s_seed), (ad 0, txE ad_text s_text_length), (ad_text 0, aI G 48 q_text_bytes)]) := by
  refine mk_Wi (cc := cX3_write) (maxL := 2) (by decide) rfl (Nat.le_of_ble_eq_true rfl) ?_
  intro p e s m args below meth c Q ls A S hP hK hD hl hret
  obtain ⟨hx, hb, hml, hown, hts⟩ := S
  have hown : s.vm.findClass RX3 = some m.cls := hown
  have kl_12 := hts (.fieldLink RX3 12 "ArrestOrder" "text" "LArrestOrder$Text;") (by decide +kernel)
  have hi_X3 : ∀ w ∈ wsX30, w ∈ wsX3_write := fun _ h => List.mem_cons_of_mem _ (List.mem_append_left _ (List.mem_append_right _ h))
  have hi_X2 : ∀ w ∈ wsX20, w ∈ wsX3_write := fun _ h => List.mem_cons_of_mem _ (List.mem_append_right _ h)
  have hS : va_S A s.heap s.heap [] := va_S.rf
  have hl : lv_has ls 2 [(0, .ref h0), (1, .int a1)] := hl
  refine lv_iload_n hx hb dX3_write_0 rfl (lv_at hl 1 rfl) ?_
  refine lv_if_lt (tgt := 11) hx hb dX3_write_1 (by decide) (fun c1 => ?_) (fun c1 => ?_)
  · have hf := iteT hf c1
    refine lv_bipush (v := (-2)) hx hb dX3_write_11 (by decide) ?_
    have hv := Option.some.inj hf
    exact hret _ _ _ _ _ (by rw [← hv]; exact hP) hS (by rw [← hv]) dX3_write_13
  · have hf := iteF hf c1
    refine lv_iload_n hx hb dX3_write_4 rfl (lv_at hl 1 rfl) ?_
    refine lv_sipush (v := 255) hx hb dX3_write_5 (by decide) ?_
    refine lv_icmp_le (tgt := 14) hx hb dX3_write_8 (by decide) (fun c2 => ?_) (fun c2 => ?_)
    · have hf := iteT hf c2
      refine lv_aload_n hx hb dX3_write_14 rfl (lv_at hl 0 rfl) ?_
      refine va_get (D := gD G) (ci := 3) (v := .ref (ad 0)) (C := RX3) (T := TX3) (N := 11) hx hb hts hi_X3 hown hK.1 hP 0 rfl rfl 0 (by decide) kl_12 (fun _ h9 => h9) rfl dX3_write_15 ?_
      refine lv_iload_n hx hb dX3_write_18 rfl (lv_at hl 1 rfl) ?_
      obtain ⟨o3, hc4, hf⟩ := bindS hf
      refine rw_i (va_runVN (C := RX2) (As := [.int a1]) (rest := []) ⟨hx, hb, hml, hown, hts⟩ (ctX2_append l G (ad 0) ad_text s_text_length q_text_bytes a1 o3 hc4) ⟨va_cnB 1 hts gX3_write_X2_append_n47 rfl rfl rfl (nm_X3_47 hK.2) (hts (.initialized RX2) (by decide +kernel)) (by decide +kernel) ⟨Nat.le_of_ble_eq_true rfl, Nat.le_of_ble_eq_true rfl⟩, hts (.instanceMethod yX2_append) (by decide +kernel), hts (.selects RX2 yX2_append yX2_append) (by decide +kernel)⟩ (preW_V (q0 := 0) (ci := 2) (hP.sub (ws' := [(ad 0, txE ad_text s_text_length), (ad_text 0, aI G 48 q_text_bytes)]) [1, 2] rfl) (hD.sub (ws' := [(ad 0, txE ad_text s_text_length), (ad_text 0, aI G 48 q_text_bytes)]) [1, 2] (by decide) rfl) hK rfl rfl) rfl rfl hl.1 rfl (lv_room (Nat.le_of_ble_eq_true rfl)) dX3_write_19 ⟨Nat.zero_le _, Nat.zero_le _⟩) hS hP hD [1, 2] rfl rfl rfl (fun H locs hP hD hS => ?_)
      have hP : va_P (gD G) vwCl [(h0, xoE ad s_keptSlots s_seenCount s_seed), (ad 0, txE ad_text o3.2.1), (ad_text 0, aI G 48 o3.2.2)] H := hP
      have hD : va_D A [(h0, xoE ad s_keptSlots s_seenCount s_seed), (ad 0, txE ad_text o3.2.1), (ad_text 0, aI G 48 o3.2.2)] := hD
      refine lv_if_eq (tgt := 35) hx hb dX3_write_22 (by decide) (fun c5 => ?_) (fun c5 => ?_)
      · have hf := iteT hf c5
        refine lv_bipush (v := (-4)) hx hb dX3_write_35 (by decide) ?_
        have hv := Option.some.inj hf
        exact hret _ _ _ _ _ (by rw [← hv]; exact hP) hS (by rw [← hv]) dX3_write_37
      · have hf := iteF hf c5
        refine lv_aload_n hx hb dX3_write_25 rfl (lv_at hl 0 rfl) ?_
        refine va_get (D := gD G) (ci := 3) (v := .ref (ad 0)) (C := RX3) (T := TX3) (N := 11) hx hb hts hi_X3 hown hK.1 hP 0 rfl rfl 0 (by decide) kl_12 (fun _ h9 => h9) rfl dX3_write_26 ?_
        refine va_getN (D := gD G) (ci := 2) (v := .int o3.2.1) (C := RX2) (T := TX2) (N := 2) hx hb hts hi_X2 hown hK.1 hP 1 rfl rfl 1 (by decide) (nf_X3_51 hK.2) (fun _ h9 => h9) rfl dX3_write_29 ?_
        refine lv_goto (tgt := 37) hx hb dX3_write_32 (by decide) ?_
        have hv := Option.some.inj hf
        exact hret _ _ _ _ _ (by rw [← hv]; exact hP) hS (by rw [← hv]) dX3_write_37
    · have hf := iteF hf c2
      refine lv_bipush (v := (-2)) hx hb dX3_write_11 (by decide) ?_
      have hv := Option.some.inj hf
      exact hret _ _ _ _ _ (by rw [← hv]; exact hP) hS (by rw [← hv]) dX3_write_13
def fX3_wipe (s_text_length : Int32) : Option (Int32 × Int32) :=
  some (s_text_length, 0)
set_option maxHeartbeats 4000000 in
set_option maxRecDepth 100000 in
theorem ctX3_wipe (l : Launch) (G : GG) (h0 : Nat) (ad : Nat → Nat) (ad_text : Nat → Nat) (s_keptSlots : Int32) (s_seenCount : Int32) (s_seed : Int64) (s_text_length : Int32) (out : Int32 × Int32) (hf : fX3_wipe s_text_length = some out) : Met l yX3_wipe wsX3_wipe ({ frames := 0, cells := 0, slots := 0, locals := 0 }) (PcW G [.ref h0] [(h0, xoE ad s_keptSlots s_seenCount s_seed), (ad 0, txE ad_text s_text_length)]) (QiW G [(h0, xoE ad s_keptSlots s_seenCount s_seed), (ad 0, txE ad_text s_text_length)] [(h0, xoE ad s_keptSlots s_seenCount s_seed), (ad 0, txE ad_text out.2)] out.1) 0 0 (inA [(h0, xoE ad s_keptSlots s_seenCount s_seed), (ad 0, txE ad_text s_text_length)]) := by
  refine mk_Wi (cc := cX3_wipe) (maxL := 2) (by decide) rfl (Nat.le_of_ble_eq_true rfl) ?_
  intro p e s m args below meth c Q ls A S hP hK hD hl hret
  obtain ⟨hx, hb, hml, hown, hts⟩ := S
  have hown : s.vm.findClass RX3 = some m.cls := hown
  have kl_12 := hts (.fieldLink RX3 12 "ArrestOrder" "text" "LArrestOrder$Text;") (by decide +kernel)
  have hi_X3 : ∀ w ∈ wsX30, w ∈ wsX3_wipe := fun _ h => List.mem_cons_of_mem _ (List.mem_append_left _ (List.mem_append_right _ h))
  have hi_X2 : ∀ w ∈ wsX20, w ∈ wsX3_wipe := fun _ h => List.mem_cons_of_mem _ (List.mem_append_right _ h)
  have hS : va_S A s.heap s.heap [] := va_S.rf
  have hl : lv_has ls 2 [(0, .ref h0)] := hl
  refine lv_aload_n hx hb dX3_wipe_0 rfl (lv_at hl 0 rfl) ?_
  refine va_get (D := gD G) (ci := 3) (v := .ref (ad 0)) (C := RX3) (T := TX3) (N := 11) hx hb hts hi_X3 hown hK.1 hP 0 rfl rfl 0 (by decide) kl_12 (fun _ h9 => h9) rfl dX3_wipe_1 ?_
  refine va_getN (D := gD G) (ci := 2) (v := .int s_text_length) (C := RX2) (T := TX2) (N := 2) hx hb hts hi_X2 hown hK.1 hP 1 rfl rfl 1 (by decide) (nf_X3_51 hK.2) (fun _ h9 => h9) rfl dX3_wipe_4 ?_
  refine lv_istore_n (lv' := [(1, .int s_text_length), (0, .ref h0)]) hx hb dX3_wipe_7 rfl hl (by decide) rfl (fun ls hl => ?_)
  refine lv_aload_n hx hb dX3_wipe_8 rfl (lv_at hl 1 rfl) ?_
  refine va_get (D := gD G) (ci := 3) (v := .ref (ad 0)) (C := RX3) (T := TX3) (N := 11) hx hb hts hi_X3 hown hK.1 hP 0 rfl rfl 0 (by decide) kl_12 (fun _ h9 => h9) rfl dX3_wipe_9 ?_
  refine lv_iconst (v := 0) hx hb dX3_wipe_12 (by decide) ?_
  refine va_putN (D := gD G) (ci := 2) (v := .int 0) (ty := .int) (C := RX2) (T := TX2) (N := 2) hx hb hts hi_X2 tyX2 tyX2_ok nmX2 hown hK.1 hP hD hS 1 rfl rfl 1 (by decide) (nf_X3_51 hK.2) (fun _ h9 => h9) rfl (tyX2_ok 1 (by decide)) rfl rfl (Nat.le_of_ble_eq_true rfl) dX3_wipe_13 (fun H locs hP hD hS => ?_)
  have hP : va_P (gD G) vwCl [(h0, xoE ad s_keptSlots s_seenCount s_seed), (ad 0, txE ad_text 0)] H := hP
  have hD : va_D A [(h0, xoE ad s_keptSlots s_seenCount s_seed), (ad 0, txE ad_text 0)] := hD
  refine lv_iload_n hx hb dX3_wipe_16 rfl (lv_at hl 0 rfl) ?_
  have hv := Option.some.inj hf
  exact hret _ _ _ _ _ (by rw [← hv]; exact hP) hS (by rw [← hv]) dX3_wipe_17
def fX3_fault (s_text_length : Int32) (q_text_bytes : Nat → Int32) (s_trial_people : Int32) (s_trial_kinds : Int32) (s_trial_deeds : Int32) (s_trial_feeding : Int64) (s_trial_large : Int32) (s_trial_dead : Int32) (s_trial_dayNumber : Int32) : Option (Int32 × Int32 × Int32 × Int32 × Int64 × Int32 × Int32 × Int32) :=
  (fX2_readInto s_text_length q_text_bytes s_trial_people s_trial_kinds s_trial_deeds s_trial_feeding s_trial_large s_trial_dead s_trial_dayNumber).bind fun o1 => (some (o1.1, o1.2.1, o1.2.2.1, o1.2.2.2.1, o1.2.2.2.2.1, o1.2.2.2.2.2.1, o1.2.2.2.2.2.2.1, o1.2.2.2.2.2.2.2))
set_option maxHeartbeats 4000000 in
set_option maxRecDepth 100000 in
theorem ctX3_fault (l : Launch) (G : GG) (h0 : Nat) (ad : Nat → Nat) (ad_text : Nat → Nat) (s_keptSlots : Int32) (s_seenCount : Int32) (s_seed : Int64) (s_text_length : Int32) (q_text_bytes : Nat → Int32) (s_trial_people : Int32) (s_trial_kinds : Int32) (s_trial_deeds : Int32) (s_trial_feeding : Int64) (s_trial_large : Int32) (s_trial_dead : Int32) (s_trial_dayNumber : Int32) (out : Int32 × Int32 × Int32 × Int32 × Int64 × Int32 × Int32 × Int32) (hf : fX3_fault s_text_length q_text_bytes s_trial_people s_trial_kinds s_trial_deeds s_trial_feeding s_trial_large s_trial_dead s_trial_dayNumber = some out) : Met l yX3_fault wsX3_fault ({ frames := 6, cells := 0, slots := 0, locals := 135 }) (PcW G [.ref h0] [(h0, xoE ad s_keptSlots s_seenCount s_seed), (ad 0, txE ad_text s_text_length), (ad_text 0, aI G 48 q_text_bytes), (ad 2, stE s_trial_people s_trial_kinds s_trial_deeds s_trial_feeding s_trial_large s_trial_dead s_trial_dayNumber)]) (QiW G [(h0, xoE ad s_keptSlots s_seenCount s_seed), (ad 0, txE ad_text s_text_length), (ad_text 0, aI G 48 q_text_bytes), (ad 2, stE s_trial_people s_trial_kinds s_trial_deeds s_trial_feeding s_trial_large s_trial_dead s_trial_dayNumber)] [(h0, xoE ad s_keptSlots s_seenCount s_seed), (ad 0, txE ad_text s_text_length), (ad_text 0, aI G 48 q_text_bytes), (ad 2, stE out.2.1 out.2.2.1 out.2.2.2.1 out.2.2.2.2.1 out.2.2.2.2.2.1 out.2.2.2.2.2.2.1 out.2.2.2.2.2.2.2)] out.1) 0 0 (inA [(h0, xoE ad s_keptSlots s_seenCount s_seed), (ad 0, txE ad_text s_text_length), (ad_text 0, aI G 48 q_text_bytes), (ad 2, stE s_trial_people s_trial_kinds s_trial_deeds s_trial_feeding s_trial_large s_trial_dead s_trial_dayNumber)]) := by
  refine mk_Wi (cc := cX3_fault) (maxL := 1) (by decide) rfl (Nat.le_of_ble_eq_true rfl) ?_
  intro p e s m args below meth c Q ls A S hP hK hD hl hret
  obtain ⟨hx, hb, hml, hown, hts⟩ := S
  have hown : s.vm.findClass RX3 = some m.cls := hown
  have kl_12 := hts (.fieldLink RX3 12 "ArrestOrder" "text" "LArrestOrder$Text;") (by decide +kernel)
  have hi_X3 : ∀ w ∈ wsX30, w ∈ wsX3_fault := fun _ h => List.mem_cons_of_mem _ (List.mem_append_left _ (List.mem_append_left _ (List.mem_append_right _ h)))
  have kl_23 := hts (.fieldLink RX3 23 "ArrestOrder" "trial" "LArrestOrder$Standing;") (by decide +kernel)
  have hS : va_S A s.heap s.heap [] := va_S.rf
  have hl : lv_has ls 1 [(0, .ref h0)] := hl
  refine lv_aload_n hx hb dX3_fault_0 rfl (lv_at hl 0 rfl) ?_
  refine va_get (D := gD G) (ci := 3) (v := .ref (ad 0)) (C := RX3) (T := TX3) (N := 11) hx hb hts hi_X3 hown hK.1 hP 0 rfl rfl 0 (by decide) kl_12 (fun _ h9 => h9) rfl dX3_fault_1 ?_
  refine lv_aload_n hx hb dX3_fault_4 rfl (lv_at hl 0 rfl) ?_
  refine va_get (D := gD G) (ci := 3) (v := .ref (ad 2)) (C := RX3) (T := TX3) (N := 11) hx hb hts hi_X3 hown hK.1 hP 0 rfl rfl 2 (by decide) kl_23 (fun _ h9 => h9) rfl dX3_fault_5 ?_
  obtain ⟨o1, hc2, hf⟩ := bindS hf
  refine rw_i (va_runVN (C := RX2) (As := [.ref (ad 2)]) (rest := []) ⟨hx, hb, hml, hown, hts⟩ (ctX2_readInto l G (ad 0) (ad 2) ad_text s_text_length q_text_bytes s_trial_people s_trial_kinds s_trial_deeds s_trial_feeding s_trial_large s_trial_dead s_trial_dayNumber o1 hc2) ⟨va_cnB 1 hts gX3_fault_X2_readInto_n55 rfl rfl rfl (nm_X3_55 hK.2) (hts (.initialized RX2) (by decide +kernel)) (by decide +kernel) ⟨Nat.le_of_ble_eq_true rfl, Nat.le_of_ble_eq_true rfl⟩, hts (.instanceMethod yX2_readInto) (by decide +kernel), hts (.selects RX2 yX2_readInto yX2_readInto) (by decide +kernel)⟩ (preW_V (q0 := 0) (ci := 2) (hP.sub (ws' := [(ad 0, txE ad_text s_text_length), (ad_text 0, aI G 48 q_text_bytes), (ad 2, stE s_trial_people s_trial_kinds s_trial_deeds s_trial_feeding s_trial_large s_trial_dead s_trial_dayNumber)]) [1, 2, 3] rfl) (hD.sub (ws' := [(ad 0, txE ad_text s_text_length), (ad_text 0, aI G 48 q_text_bytes), (ad 2, stE s_trial_people s_trial_kinds s_trial_deeds s_trial_feeding s_trial_large s_trial_dead s_trial_dayNumber)]) [1, 2, 3] (by decide) rfl) hK rfl rfl) rfl rfl hl.1 rfl (lv_room (Nat.le_of_ble_eq_true rfl)) dX3_fault_8 ⟨Nat.zero_le _, Nat.zero_le _⟩) hS hP hD [1, 2, 3] rfl rfl rfl (fun H locs hP hD hS => ?_)
  have hP : va_P (gD G) vwCl [(h0, xoE ad s_keptSlots s_seenCount s_seed), (ad 0, txE ad_text s_text_length), (ad_text 0, aI G 48 q_text_bytes), (ad 2, stE o1.2.1 o1.2.2.1 o1.2.2.2.1 o1.2.2.2.2.1 o1.2.2.2.2.2.1 o1.2.2.2.2.2.2.1 o1.2.2.2.2.2.2.2)] H := hP
  have hD : va_D A [(h0, xoE ad s_keptSlots s_seenCount s_seed), (ad 0, txE ad_text s_text_length), (ad_text 0, aI G 48 q_text_bytes), (ad 2, stE o1.2.1 o1.2.2.1 o1.2.2.2.1 o1.2.2.2.2.1 o1.2.2.2.2.2.1 o1.2.2.2.2.2.2.1 o1.2.2.2.2.2.2.2)] := hD
  have hv := Option.some.inj hf
  exact hret _ _ _ _ _ (by rw [← hv]; exact hP) hS (by rw [← hv]) dX3_fault_11
def fX3_county (s_keptSlots : Int32) (s_text_length : Int32) (q_text_bytes : Nat → Int32) (s_now_people : Int32) (s_now_kinds : Int32) (s_now_deeds : Int32) (s_now_feeding : Int64) (s_now_large : Int32) (s_now_dead : Int32) (s_now_dayNumber : Int32) (s_trial_people : Int32) (s_trial_kinds : Int32) (s_trial_deeds : Int32) (s_trial_feeding : Int64) (s_trial_large : Int32) (s_trial_dead : Int32) (s_trial_dayNumber : Int32) (s_acts_count : Int32) : Option (Int32 × Int32 × Int32 × Int32 × Int32 × Int64 × Int32 × Int32 × Int32 × Int32 × Int32 × Int32 × Int64 × Int32 × Int32 × Int32 × Int32) :=
  (fX2_readInto s_text_length q_text_bytes s_trial_people s_trial_kinds s_trial_deeds s_trial_feeding s_trial_large s_trial_dead s_trial_dayNumber).bind fun o1 => ((if o1.1 = (-9) then (fX1_copy s_now_people s_now_kinds s_now_deeds s_now_feeding s_now_large s_now_dead s_now_dayNumber o1.2.1 o1.2.2.1 o1.2.2.2.1 o1.2.2.2.2.1 o1.2.2.2.2.2.1 o1.2.2.2.2.2.2.1 o1.2.2.2.2.2.2.2).bind fun o4 => (some (o4.1, 0, o4.1, o4.2.1, o4.2.2.1, o4.2.2.2.1, o4.2.2.2.2.1, o4.2.2.2.2.2.1, o4.2.2.2.2.2.2, o1.2.1, o1.2.2.1, o1.2.2.2.1, o1.2.2.2.2.1, o1.2.2.2.2.2.1, o1.2.2.2.2.2.2.1, o1.2.2.2.2.2.2.2, 0)) else some ((-3), s_keptSlots, s_now_people, s_now_kinds, s_now_deeds, s_now_feeding, s_now_large, s_now_dead, s_now_dayNumber, o1.2.1, o1.2.2.1, o1.2.2.2.1, o1.2.2.2.2.1, o1.2.2.2.2.2.1, o1.2.2.2.2.2.2.1, o1.2.2.2.2.2.2.2, s_acts_count)))
set_option maxHeartbeats 4000000 in
set_option maxRecDepth 100000 in
theorem ctX3_county (l : Launch) (G : GG) (h0 : Nat) (ad : Nat → Nat) (ad_text : Nat → Nat) (ad_acts : Nat → Nat) (s_keptSlots : Int32) (s_seenCount : Int32) (s_seed : Int64) (s_text_length : Int32) (q_text_bytes : Nat → Int32) (s_now_people : Int32) (s_now_kinds : Int32) (s_now_deeds : Int32) (s_now_feeding : Int64) (s_now_large : Int32) (s_now_dead : Int32) (s_now_dayNumber : Int32) (s_trial_people : Int32) (s_trial_kinds : Int32) (s_trial_deeds : Int32) (s_trial_feeding : Int64) (s_trial_large : Int32) (s_trial_dead : Int32) (s_trial_dayNumber : Int32) (s_acts_first : Int32) (s_acts_count : Int32) (out : Int32 × Int32 × Int32 × Int32 × Int32 × Int64 × Int32 × Int32 × Int32 × Int32 × Int32 × Int32 × Int64 × Int32 × Int32 × Int32 × Int32) (hf : fX3_county s_keptSlots s_text_length q_text_bytes s_now_people s_now_kinds s_now_deeds s_now_feeding s_now_large s_now_dead s_now_dayNumber s_trial_people s_trial_kinds s_trial_deeds s_trial_feeding s_trial_large s_trial_dead s_trial_dayNumber s_acts_count = some out) : Met l yX3_county wsX3_county ({ frames := 6, cells := 0, slots := 0, locals := 135 }) (PcW G [.ref h0] [(h0, xoE ad s_keptSlots s_seenCount s_seed), (ad 0, txE ad_text s_text_length), (ad_text 0, aI G 48 q_text_bytes), (ad 1, stE s_now_people s_now_kinds s_now_deeds s_now_feeding s_now_large s_now_dead s_now_dayNumber), (ad 2, stE s_trial_people s_trial_kinds s_trial_deeds s_trial_feeding s_trial_large s_trial_dead s_trial_dayNumber), (ad 3, acE ad_acts s_acts_first s_acts_count)]) (QiW G [(h0, xoE ad s_keptSlots s_seenCount s_seed), (ad 0, txE ad_text s_text_length), (ad_text 0, aI G 48 q_text_bytes), (ad 1, stE s_now_people s_now_kinds s_now_deeds s_now_feeding s_now_large s_now_dead s_now_dayNumber), (ad 2, stE s_trial_people s_trial_kinds s_trial_deeds s_trial_feeding s_trial_large s_trial_dead s_trial_dayNumber), (ad 3, acE ad_acts s_acts_first s_acts_count)] [(h0, xoE ad out.2.1 s_seenCount s_seed), (ad 0, txE ad_text s_text_length), (ad_text 0, aI G 48 q_text_bytes), (ad 1, stE out.2.2.1 out.2.2.2.1 out.2.2.2.2.1 out.2.2.2.2.2.1 out.2.2.2.2.2.2.1 out.2.2.2.2.2.2.2.1 out.2.2.2.2.2.2.2.2.1), (ad 2, stE out.2.2.2.2.2.2.2.2.2.1 out.2.2.2.2.2.2.2.2.2.2.1 out.2.2.2.2.2.2.2.2.2.2.2.1 out.2.2.2.2.2.2.2.2.2.2.2.2.1 out.2.2.2.2.2.2.2.2.2.2.2.2.2.1 out.2.2.2.2.2.2.2.2.2.2.2.2.2.2.1 out.2.2.2.2.2.2.2.2.2.2.2.2.2.2.2.1), (ad 3, acE ad_acts s_acts_first out.2.2.2.2.2.2.2.2.2.2.2.2.2.2.2.2)] out.1) 0 0 (inA [(h0, xoE ad s_keptSlots s_seenCount s_seed), (ad 0, txE ad_text s_text_length), (ad_text 0, aI G 48 q_text_bytes), (ad 1, stE s_now_people s_now_kinds s_now_deeds s_now_feeding s_now_large s_now_dead s_now_dayNumber), (ad 2, stE s_trial_people s_trial_kinds s_trial_deeds s_trial_feeding s_trial_large s_trial_dead s_trial_dayNumber), (ad 3, acE ad_acts s_acts_first s_acts_count)]) := by
  refine mk_Wi (cc := cX3_county) (maxL := 1) (by decide) rfl (Nat.le_of_ble_eq_true rfl) ?_
  intro p e s m args below meth c Q ls A S hP hK hD hl hret
  obtain ⟨hx, hb, hml, hown, hts⟩ := S
  have hown : s.vm.findClass RX3 = some m.cls := hown
  have kl_12 := hts (.fieldLink RX3 12 "ArrestOrder" "text" "LArrestOrder$Text;") (by decide +kernel)
  have hi_X3 : ∀ w ∈ wsX30, w ∈ wsX3_county := fun _ h => List.mem_cons_of_mem _ (List.mem_append_left _ (List.mem_append_left _ (List.mem_append_left _ (List.mem_append_right _ h))))
  have kl_23 := hts (.fieldLink RX3 23 "ArrestOrder" "trial" "LArrestOrder$Standing;") (by decide +kernel)
  have kl_19 := hts (.fieldLink RX3 19 "ArrestOrder" "now" "LArrestOrder$Standing;") (by decide +kernel)
  have kl_29 := hts (.fieldLink RX3 29 "ArrestOrder" "acts" "LArrestOrder$Acts;") (by decide +kernel)
  have hi_X0 : ∀ w ∈ wsX00, w ∈ wsX3_county := fun _ h => List.mem_cons_of_mem _ (List.mem_append_left _ (List.mem_append_left _ (List.mem_append_right _ h)))
  have kl_66 := hts (.fieldLink RX3 66 "ArrestOrder" "keptSlots" "I") (by decide +kernel)
  have hi_X1 : ∀ w ∈ wsX10, w ∈ wsX3_county := fun _ h => List.mem_cons_of_mem _ (List.mem_append_left _ (List.mem_append_right _ h))
  have hS : va_S A s.heap s.heap [] := va_S.rf
  have hl : lv_has ls 1 [(0, .ref h0)] := hl
  refine lv_aload_n hx hb dX3_county_0 rfl (lv_at hl 0 rfl) ?_
  refine va_get (D := gD G) (ci := 3) (v := .ref (ad 0)) (C := RX3) (T := TX3) (N := 11) hx hb hts hi_X3 hown hK.1 hP 0 rfl rfl 0 (by decide) kl_12 (fun _ h9 => h9) rfl dX3_county_1 ?_
  refine lv_aload_n hx hb dX3_county_4 rfl (lv_at hl 0 rfl) ?_
  refine va_get (D := gD G) (ci := 3) (v := .ref (ad 2)) (C := RX3) (T := TX3) (N := 11) hx hb hts hi_X3 hown hK.1 hP 0 rfl rfl 2 (by decide) kl_23 (fun _ h9 => h9) rfl dX3_county_5 ?_
  obtain ⟨o1, hc2, hf⟩ := bindS hf
  refine rw_i (va_runVN (C := RX2) (As := [.ref (ad 2)]) (rest := []) ⟨hx, hb, hml, hown, hts⟩ (ctX2_readInto l G (ad 0) (ad 2) ad_text s_text_length q_text_bytes s_trial_people s_trial_kinds s_trial_deeds s_trial_feeding s_trial_large s_trial_dead s_trial_dayNumber o1 hc2) ⟨va_cnB 1 hts gX3_county_X2_readInto_n55 rfl rfl rfl (nm_X3_55 hK.2) (hts (.initialized RX2) (by decide +kernel)) (by decide +kernel) ⟨Nat.le_of_ble_eq_true rfl, Nat.le_of_ble_eq_true rfl⟩, hts (.instanceMethod yX2_readInto) (by decide +kernel), hts (.selects RX2 yX2_readInto yX2_readInto) (by decide +kernel)⟩ (preW_V (q0 := 0) (ci := 2) (hP.sub (ws' := [(ad 0, txE ad_text s_text_length), (ad_text 0, aI G 48 q_text_bytes), (ad 2, stE s_trial_people s_trial_kinds s_trial_deeds s_trial_feeding s_trial_large s_trial_dead s_trial_dayNumber)]) [1, 2, 4] rfl) (hD.sub (ws' := [(ad 0, txE ad_text s_text_length), (ad_text 0, aI G 48 q_text_bytes), (ad 2, stE s_trial_people s_trial_kinds s_trial_deeds s_trial_feeding s_trial_large s_trial_dead s_trial_dayNumber)]) [1, 2, 4] (by decide) rfl) hK rfl rfl) rfl rfl hl.1 rfl (lv_room (Nat.le_of_ble_eq_true rfl)) dX3_county_8 ⟨Nat.zero_le _, Nat.zero_le _⟩) hS hP hD [1, 2, 4] rfl rfl rfl (fun H locs hP hD hS => ?_)
  have hP : va_P (gD G) vwCl [(h0, xoE ad s_keptSlots s_seenCount s_seed), (ad 0, txE ad_text s_text_length), (ad_text 0, aI G 48 q_text_bytes), (ad 1, stE s_now_people s_now_kinds s_now_deeds s_now_feeding s_now_large s_now_dead s_now_dayNumber), (ad 2, stE o1.2.1 o1.2.2.1 o1.2.2.2.1 o1.2.2.2.2.1 o1.2.2.2.2.2.1 o1.2.2.2.2.2.2.1 o1.2.2.2.2.2.2.2), (ad 3, acE ad_acts s_acts_first s_acts_count)] H := hP
  have hD : va_D A [(h0, xoE ad s_keptSlots s_seenCount s_seed), (ad 0, txE ad_text s_text_length), (ad_text 0, aI G 48 q_text_bytes), (ad 1, stE s_now_people s_now_kinds s_now_deeds s_now_feeding s_now_large s_now_dead s_now_dayNumber), (ad 2, stE o1.2.1 o1.2.2.1 o1.2.2.2.1 o1.2.2.2.2.1 o1.2.2.2.2.2.1 o1.2.2.2.2.2.2.1 o1.2.2.2.2.2.2.2), (ad 3, acE ad_acts s_acts_first s_acts_count)] := hD
  refine lv_bipush (v := (-9)) hx hb dX3_county_11 (by decide) ?_
  refine lv_icmp_eq (tgt := 19) hx hb dX3_county_13 (by decide) (fun c3 => ?_) (fun c3 => ?_)
  · have hf := iteT hf c3
    refine lv_aload_n hx hb dX3_county_19 rfl (lv_at hl 0 rfl) ?_
    refine va_get (D := gD G) (ci := 3) (v := .ref (ad 1)) (C := RX3) (T := TX3) (N := 11) hx hb hts hi_X3 hown hK.1 hP 0 rfl rfl 1 (by decide) kl_19 (fun _ h9 => h9) rfl dX3_county_20 ?_
    refine lv_aload_n hx hb dX3_county_23 rfl (lv_at hl 0 rfl) ?_
    refine va_get (D := gD G) (ci := 3) (v := .ref (ad 2)) (C := RX3) (T := TX3) (N := 11) hx hb hts hi_X3 hown hK.1 hP 0 rfl rfl 2 (by decide) kl_23 (fun _ h9 => h9) rfl dX3_county_24 ?_
    obtain ⟨o4, hc5, hf⟩ := bindS hf
    refine rw_v (va_runVN (C := RX1) (As := [.ref (ad 2)]) (rest := []) ⟨hx, hb, hml, hown, hts⟩ (ctX1_copy l G (ad 1) (ad 2) s_now_people s_now_kinds s_now_deeds s_now_feeding s_now_large s_now_dead s_now_dayNumber o1.2.1 o1.2.2.1 o1.2.2.2.1 o1.2.2.2.2.1 o1.2.2.2.2.2.1 o1.2.2.2.2.2.2.1 o1.2.2.2.2.2.2.2 o4 hc5) ⟨va_cnB 1 hts gX3_county_X1_copy_n59 rfl rfl rfl (nm_X3_59 hK.2) (hts (.initialized RX1) (by decide +kernel)) (by decide +kernel) ⟨Nat.le_of_ble_eq_true rfl, Nat.le_of_ble_eq_true rfl⟩, hts (.instanceMethod yX1_copy) (by decide +kernel), hts (.selects RX1 yX1_copy yX1_copy) (by decide +kernel)⟩ (preW_V (q0 := 0) (ci := 1) (hP.sub (ws' := [(ad 1, stE s_now_people s_now_kinds s_now_deeds s_now_feeding s_now_large s_now_dead s_now_dayNumber), (ad 2, stE o1.2.1 o1.2.2.1 o1.2.2.2.1 o1.2.2.2.2.1 o1.2.2.2.2.2.1 o1.2.2.2.2.2.2.1 o1.2.2.2.2.2.2.2)]) [3, 4] rfl) (hD.sub (ws' := [(ad 1, stE s_now_people s_now_kinds s_now_deeds s_now_feeding s_now_large s_now_dead s_now_dayNumber), (ad 2, stE o1.2.1 o1.2.2.1 o1.2.2.2.1 o1.2.2.2.2.1 o1.2.2.2.2.2.1 o1.2.2.2.2.2.2.1 o1.2.2.2.2.2.2.2)]) [3, 4] (by decide) rfl) hK rfl rfl) rfl rfl hl.1 rfl (lv_room (Nat.le_of_ble_eq_true rfl)) dX3_county_27 ⟨Nat.zero_le _, Nat.zero_le _⟩) hS hP hD [3, 4] rfl rfl rfl (fun H locs hP hD hS => ?_)
    have hP : va_P (gD G) vwCl [(h0, xoE ad s_keptSlots s_seenCount s_seed), (ad 0, txE ad_text s_text_length), (ad_text 0, aI G 48 q_text_bytes), (ad 1, stE o4.1 o4.2.1 o4.2.2.1 o4.2.2.2.1 o4.2.2.2.2.1 o4.2.2.2.2.2.1 o4.2.2.2.2.2.2), (ad 2, stE o1.2.1 o1.2.2.1 o1.2.2.2.1 o1.2.2.2.2.1 o1.2.2.2.2.2.1 o1.2.2.2.2.2.2.1 o1.2.2.2.2.2.2.2), (ad 3, acE ad_acts s_acts_first s_acts_count)] H := hP
    have hD : va_D A [(h0, xoE ad s_keptSlots s_seenCount s_seed), (ad 0, txE ad_text s_text_length), (ad_text 0, aI G 48 q_text_bytes), (ad 1, stE o4.1 o4.2.1 o4.2.2.1 o4.2.2.2.1 o4.2.2.2.2.1 o4.2.2.2.2.2.1 o4.2.2.2.2.2.2), (ad 2, stE o1.2.1 o1.2.2.1 o1.2.2.2.1 o1.2.2.2.2.1 o1.2.2.2.2.2.1 o1.2.2.2.2.2.2.1 o1.2.2.2.2.2.2.2), (ad 3, acE ad_acts s_acts_first s_acts_count)] := hD
    refine lv_aload_n hx hb dX3_county_30 rfl (lv_at hl 0 rfl) ?_
    refine va_get (D := gD G) (ci := 3) (v := .ref (ad 3)) (C := RX3) (T := TX3) (N := 11) hx hb hts hi_X3 hown hK.1 hP 0 rfl rfl 3 (by decide) kl_29 (fun _ h9 => h9) rfl dX3_county_31 ?_
    refine lv_iconst (v := 0) hx hb dX3_county_34 (by decide) ?_
    refine va_putN (D := gD G) (ci := 0) (v := .int 0) (ty := .int) (C := RX0) (T := TX0) (N := 3) hx hb hts hi_X0 tyX0 tyX0_ok nmX0 hown hK.1 hP hD hS 5 rfl rfl 2 (by decide) (nf_X3_63 hK.2) (fun _ h9 => h9) rfl (tyX0_ok 2 (by decide)) rfl rfl (Nat.le_of_ble_eq_true rfl) dX3_county_35 (fun H locs hP hD hS => ?_)
    have hP : va_P (gD G) vwCl [(h0, xoE ad s_keptSlots s_seenCount s_seed), (ad 0, txE ad_text s_text_length), (ad_text 0, aI G 48 q_text_bytes), (ad 1, stE o4.1 o4.2.1 o4.2.2.1 o4.2.2.2.1 o4.2.2.2.2.1 o4.2.2.2.2.2.1 o4.2.2.2.2.2.2), (ad 2, stE o1.2.1 o1.2.2.1 o1.2.2.2.1 o1.2.2.2.2.1 o1.2.2.2.2.2.1 o1.2.2.2.2.2.2.1 o1.2.2.2.2.2.2.2), (ad 3, acE ad_acts s_acts_first 0)] H := hP
    have hD : va_D A [(h0, xoE ad s_keptSlots s_seenCount s_seed), (ad 0, txE ad_text s_text_length), (ad_text 0, aI G 48 q_text_bytes), (ad 1, stE o4.1 o4.2.1 o4.2.2.1 o4.2.2.2.1 o4.2.2.2.2.1 o4.2.2.2.2.2.1 o4.2.2.2.2.2.2), (ad 2, stE o1.2.1 o1.2.2.1 o1.2.2.2.1 o1.2.2.2.2.1 o1.2.2.2.2.2.1 o1.2.2.2.2.2.2.1 o1.2.2.2.2.2.2.2), (ad 3, acE ad_acts s_acts_first 0)] := hD
    refine lv_aload_n hx hb dX3_county_38 rfl (lv_at hl 0 rfl) ?_
    refine lv_iconst (v := 0) hx hb dX3_county_39 (by decide) ?_
    refine va_put (D := gD G) (ci := 3) (v := .int 0) (ty := .int) (C := RX3) (T := TX3) (N := 11) hx hb hts hi_X3 tyX3 tyX3_ok nmX3 hown hK.1 hP hD hS 0 rfl rfl 5 (by decide) kl_66 (fun _ h9 => h9) rfl (tyX3_ok 5 (by decide)) rfl rfl (Nat.le_of_ble_eq_true rfl) dX3_county_40 (fun H locs hP hD hS => ?_)
    have hP : va_P (gD G) vwCl [(h0, xoE ad 0 s_seenCount s_seed), (ad 0, txE ad_text s_text_length), (ad_text 0, aI G 48 q_text_bytes), (ad 1, stE o4.1 o4.2.1 o4.2.2.1 o4.2.2.2.1 o4.2.2.2.2.1 o4.2.2.2.2.2.1 o4.2.2.2.2.2.2), (ad 2, stE o1.2.1 o1.2.2.1 o1.2.2.2.1 o1.2.2.2.2.1 o1.2.2.2.2.2.1 o1.2.2.2.2.2.2.1 o1.2.2.2.2.2.2.2), (ad 3, acE ad_acts s_acts_first 0)] H := hP
    have hD : va_D A [(h0, xoE ad 0 s_seenCount s_seed), (ad 0, txE ad_text s_text_length), (ad_text 0, aI G 48 q_text_bytes), (ad 1, stE o4.1 o4.2.1 o4.2.2.1 o4.2.2.2.1 o4.2.2.2.2.1 o4.2.2.2.2.2.1 o4.2.2.2.2.2.2), (ad 2, stE o1.2.1 o1.2.2.1 o1.2.2.2.1 o1.2.2.2.2.1 o1.2.2.2.2.2.1 o1.2.2.2.2.2.2.1 o1.2.2.2.2.2.2.2), (ad 3, acE ad_acts s_acts_first 0)] := hD
    refine lv_aload_n hx hb dX3_county_43 rfl (lv_at hl 0 rfl) ?_
    refine va_get (D := gD G) (ci := 3) (v := .ref (ad 1)) (C := RX3) (T := TX3) (N := 11) hx hb hts hi_X3 hown hK.1 hP 0 rfl rfl 1 (by decide) kl_19 (fun _ h9 => h9) rfl dX3_county_44 ?_
    refine va_getN (D := gD G) (ci := 1) (v := .int o4.1) (C := RX1) (T := TX1) (N := 7) hx hb hts hi_X1 hown hK.1 hP 3 rfl rfl 0 (by decide) (nf_X3_69 hK.2) (fun _ h9 => h9) rfl dX3_county_47 ?_
    have hv := Option.some.inj hf
    exact hret _ _ _ _ _ (by rw [← hv]; exact hP) hS (by rw [← hv]) dX3_county_50
  · have hf := iteF hf c3
    refine lv_bipush (v := (-3)) hx hb dX3_county_16 (by decide) ?_
    have hv := Option.some.inj hf
    exact hret _ _ _ _ _ (by rw [← hv]; exact hP) hS (by rw [← hv]) dX3_county_18
def fX3_about (s_seenCount : Int32) (s_text_length : Int32) (s_now_people : Int32) (s_now_kinds : Int32) (s_now_deeds : Int32) (s_now_feeding : Int64) (s_now_large : Int32) (s_now_dead : Int32) (s_now_dayNumber : Int32) (s_acts_count : Int32) (a1 : Int32) : Option (Int32) :=
  (if a1 = 0 then some s_now_people else (if a1 = 1 then some s_now_large else (if a1 = 2 then (fX1_mayBeTaken s_now_people s_now_kinds s_now_deeds s_now_feeding s_now_large).bind fun o1 => (some o1) else (if a1 = 3 then (fX1_hiddenOnes s_now_people s_now_kinds s_now_feeding s_now_large).bind fun o3 => (some o3) else (if a1 = 4 then some s_now_dead else (if a1 = 5 then some s_now_dayNumber else (if a1 = 6 then some s_acts_count else (if a1 = 7 then some s_seenCount else (if a1 = 8 then some s_text_length else some (-2))))))))))
set_option maxHeartbeats 4000000 in
set_option maxRecDepth 100000 in
theorem ctX3_about (l : Launch) (G : GG) (h0 : Nat) (ad : Nat → Nat) (ad_text : Nat → Nat) (ad_acts : Nat → Nat) (s_keptSlots : Int32) (s_seenCount : Int32) (s_seed : Int64) (s_text_length : Int32) (s_now_people : Int32) (s_now_kinds : Int32) (s_now_deeds : Int32) (s_now_feeding : Int64) (s_now_large : Int32) (s_now_dead : Int32) (s_now_dayNumber : Int32) (s_acts_first : Int32) (s_acts_count : Int32) (a1 : Int32) (out : Int32) (hf : fX3_about s_seenCount s_text_length s_now_people s_now_kinds s_now_deeds s_now_feeding s_now_large s_now_dead s_now_dayNumber s_acts_count a1 = some out) : Met l yX3_about wsX3_about ({ frames := 3, cells := 0, slots := 0, locals := 69 }) (PcR G [.ref h0, .int a1] [(h0, xoE ad s_keptSlots s_seenCount s_seed), (ad 0, txE ad_text s_text_length), (ad 1, stE s_now_people s_now_kinds s_now_deeds s_now_feeding s_now_large s_now_dead s_now_dayNumber), (ad 3, acE ad_acts s_acts_first s_acts_count)]) (QiR out) 0 0 noA := by
  refine mk_Ri (cc := cX3_about) (maxL := 2) (by decide) rfl (Nat.le_of_ble_eq_true rfl) ?_
  intro p e s m args below meth c Q ls S hP hK hl hret
  obtain ⟨hx, hb, hml, hown, hts⟩ := S
  have hown : s.vm.findClass RX3 = some m.cls := hown
  have kl_19 := hts (.fieldLink RX3 19 "ArrestOrder" "now" "LArrestOrder$Standing;") (by decide +kernel)
  have hi_X3 : ∀ w ∈ wsX30, w ∈ wsX3_about := fun _ h => List.mem_cons_of_mem _ (List.mem_append_left _ (List.mem_append_left _ (List.mem_append_left _ (List.mem_append_right _ h))))
  have hi_X1 : ∀ w ∈ wsX10, w ∈ wsX3_about := fun _ h => List.mem_cons_of_mem _ (List.mem_append_left _ (List.mem_append_left _ (List.mem_append_right _ h)))
  have kl_29 := hts (.fieldLink RX3 29 "ArrestOrder" "acts" "LArrestOrder$Acts;") (by decide +kernel)
  have hi_X0 : ∀ w ∈ wsX00, w ∈ wsX3_about := fun _ h => List.mem_cons_of_mem _ (List.mem_append_left _ (List.mem_append_right _ h))
  have kl_89 := hts (.fieldLink RX3 89 "ArrestOrder" "seenCount" "I") (by decide +kernel)
  have kl_12 := hts (.fieldLink RX3 12 "ArrestOrder" "text" "LArrestOrder$Text;") (by decide +kernel)
  have hi_X2 : ∀ w ∈ wsX20, w ∈ wsX3_about := fun _ h => List.mem_cons_of_mem _ (List.mem_append_right _ h)
  have hS : va_S noA s.heap s.heap [] := va_S.rf
  have hl : lv_has ls 2 [(0, .ref h0), (1, .int a1)] := hl
  refine lv_iload_n hx hb dX3_about_0 rfl (lv_at hl 1 rfl) ?_
  by_cases c5 : a1 = 0
  · have hf := iteT hf c5
    refine lv_tableIn (off := 51) (tgt := 52) hx hb dX3_about_1 (by rw [c5]; decide) (by rw [c5]; decide) (by rw [c5]; rfl) (by decide) ?_
    refine lv_aload_n hx hb dX3_about_52 rfl (lv_at hl 0 rfl) ?_
    refine va_get (D := gD G) (ci := 3) (v := .ref (ad 1)) (C := RX3) (T := TX3) (N := 11) hx hb hts hi_X3 hown hK.1 hP 0 rfl rfl 1 (by decide) kl_19 (fun _ h9 => h9) rfl dX3_about_53 ?_
    refine va_getN (D := gD G) (ci := 1) (v := .int s_now_people) (C := RX1) (T := TX1) (N := 7) hx hb hts hi_X1 hown hK.1 hP 2 rfl rfl 0 (by decide) (nf_X3_69 hK.2) (fun _ h9 => h9) rfl dX3_about_56 ?_
    have hv := Option.some.inj hf
    exact hret _ _ _ _ _ hS hv dX3_about_59
  have hf := iteF hf c5
  by_cases c6 : a1 = 1
  · have hf := iteT hf c6
    refine lv_tableIn (off := 59) (tgt := 60) hx hb dX3_about_1 (by rw [c6]; decide) (by rw [c6]; decide) (by rw [c6]; rfl) (by decide) ?_
    refine lv_aload_n hx hb dX3_about_60 rfl (lv_at hl 0 rfl) ?_
    refine va_get (D := gD G) (ci := 3) (v := .ref (ad 1)) (C := RX3) (T := TX3) (N := 11) hx hb hts hi_X3 hown hK.1 hP 0 rfl rfl 1 (by decide) kl_19 (fun _ h9 => h9) rfl dX3_about_61 ?_
    refine va_getN (D := gD G) (ci := 1) (v := .int s_now_large) (C := RX1) (T := TX1) (N := 7) hx hb hts hi_X1 hown hK.1 hP 2 rfl rfl 4 (by decide) (nf_X3_72 hK.2) (fun _ h9 => h9) rfl dX3_about_64 ?_
    have hv := Option.some.inj hf
    exact hret _ _ _ _ _ hS hv dX3_about_67
  have hf := iteF hf c6
  by_cases c7 : a1 = 2
  · have hf := iteT hf c7
    refine lv_tableIn (off := 67) (tgt := 68) hx hb dX3_about_1 (by rw [c7]; decide) (by rw [c7]; decide) (by rw [c7]; rfl) (by decide) ?_
    refine lv_aload_n hx hb dX3_about_68 rfl (lv_at hl 0 rfl) ?_
    refine va_get (D := gD G) (ci := 3) (v := .ref (ad 1)) (C := RX3) (T := TX3) (N := 11) hx hb hts hi_X3 hown hK.1 hP 0 rfl rfl 1 (by decide) kl_19 (fun _ h9 => h9) rfl dX3_about_69 ?_
    refine lv_aload_n hx hb dX3_about_72 rfl (lv_at hl 0 rfl) ?_
    refine va_get (D := gD G) (ci := 3) (v := .ref (ad 1)) (C := RX3) (T := TX3) (N := 11) hx hb hts hi_X3 hown hK.1 hP 0 rfl rfl 1 (by decide) kl_19 (fun _ h9 => h9) rfl dX3_about_73 ?_
    refine va_getN (D := gD G) (ci := 1) (v := .int s_now_large) (C := RX1) (T := TX1) (N := 7) hx hb hts hi_X1 hown hK.1 hP 2 rfl rfl 4 (by decide) (nf_X3_72 hK.2) (fun _ h9 => h9) rfl dX3_about_76 ?_
    obtain ⟨o1, hc2, hf⟩ := bindS hf
    refine ro_i (va_runVN (C := RX1) (As := [.int s_now_large]) (rest := []) ⟨hx, hb, hml, hown, hts⟩ (ctX1_mayBeTaken l G (ad 1) s_now_people s_now_kinds s_now_deeds s_now_feeding s_now_large s_now_dead s_now_dayNumber s_now_large o1 hc2) ⟨va_cnB 1 hts gX3_about_X1_mayBeTaken_n75 rfl rfl rfl (nm_X3_75 hK.2) (hts (.initialized RX1) (by decide +kernel)) (by decide +kernel) ⟨Nat.le_of_ble_eq_true rfl, Nat.le_of_ble_eq_true rfl⟩, hts (.instanceMethod yX1_mayBeTaken) (by decide +kernel), hts (.selects RX1 yX1_mayBeTaken yX1_mayBeTaken) (by decide +kernel)⟩ (preR_V (q0 := 0) (ci := 1) (hP.sub (ws' := [(ad 1, stE s_now_people s_now_kinds s_now_deeds s_now_feeding s_now_large s_now_dead s_now_dayNumber)]) [2] rfl) hK rfl rfl) rfl rfl hl.1 rfl (lv_room (Nat.le_of_ble_eq_true rfl)) dX3_about_79 ⟨Nat.zero_le _, Nat.zero_le _⟩) hS hP (fun H locs hP hS => ?_)
    have hv := Option.some.inj hf
    exact hret _ _ _ _ _ hS hv dX3_about_82
  have hf := iteF hf c7
  by_cases c8 : a1 = 3
  · have hf := iteT hf c8
    refine lv_tableIn (off := 82) (tgt := 83) hx hb dX3_about_1 (by rw [c8]; decide) (by rw [c8]; decide) (by rw [c8]; rfl) (by decide) ?_
    refine lv_aload_n hx hb dX3_about_83 rfl (lv_at hl 0 rfl) ?_
    refine va_get (D := gD G) (ci := 3) (v := .ref (ad 1)) (C := RX3) (T := TX3) (N := 11) hx hb hts hi_X3 hown hK.1 hP 0 rfl rfl 1 (by decide) kl_19 (fun _ h9 => h9) rfl dX3_about_84 ?_
    obtain ⟨o3, hc4, hf⟩ := bindS hf
    refine ro_i (va_runVN (C := RX1) (As := []) (rest := []) ⟨hx, hb, hml, hown, hts⟩ (ctX1_hiddenOnes l G (ad 1) s_now_people s_now_kinds s_now_deeds s_now_feeding s_now_large s_now_dead s_now_dayNumber o3 hc4) ⟨va_cnB 0 hts gX3_about_X1_hiddenOnes_n79 rfl rfl rfl (nm_X3_79 hK.2) (hts (.initialized RX1) (by decide +kernel)) (by decide +kernel) ⟨Nat.le_of_ble_eq_true rfl, Nat.le_of_ble_eq_true rfl⟩, hts (.instanceMethod yX1_hiddenOnes) (by decide +kernel), hts (.selects RX1 yX1_hiddenOnes yX1_hiddenOnes) (by decide +kernel)⟩ (preR_V (q0 := 0) (ci := 1) (hP.sub (ws' := [(ad 1, stE s_now_people s_now_kinds s_now_deeds s_now_feeding s_now_large s_now_dead s_now_dayNumber)]) [2] rfl) hK rfl rfl) rfl rfl hl.1 rfl (lv_room (Nat.le_of_ble_eq_true rfl)) dX3_about_87 ⟨Nat.zero_le _, Nat.zero_le _⟩) hS hP (fun H locs hP hS => ?_)
    have hv := Option.some.inj hf
    exact hret _ _ _ _ _ hS hv dX3_about_90
  have hf := iteF hf c8
  by_cases c9 : a1 = 4
  · have hf := iteT hf c9
    refine lv_tableIn (off := 90) (tgt := 91) hx hb dX3_about_1 (by rw [c9]; decide) (by rw [c9]; decide) (by rw [c9]; rfl) (by decide) ?_
    refine lv_aload_n hx hb dX3_about_91 rfl (lv_at hl 0 rfl) ?_
    refine va_get (D := gD G) (ci := 3) (v := .ref (ad 1)) (C := RX3) (T := TX3) (N := 11) hx hb hts hi_X3 hown hK.1 hP 0 rfl rfl 1 (by decide) kl_19 (fun _ h9 => h9) rfl dX3_about_92 ?_
    refine va_getN (D := gD G) (ci := 1) (v := .int s_now_dead) (C := RX1) (T := TX1) (N := 7) hx hb hts hi_X1 hown hK.1 hP 2 rfl rfl 5 (by decide) (nf_X3_83 hK.2) (fun _ h9 => h9) rfl dX3_about_95 ?_
    have hv := Option.some.inj hf
    exact hret _ _ _ _ _ hS hv dX3_about_98
  have hf := iteF hf c9
  by_cases c10 : a1 = 5
  · have hf := iteT hf c10
    refine lv_tableIn (off := 98) (tgt := 99) hx hb dX3_about_1 (by rw [c10]; decide) (by rw [c10]; decide) (by rw [c10]; rfl) (by decide) ?_
    refine lv_aload_n hx hb dX3_about_99 rfl (lv_at hl 0 rfl) ?_
    refine va_get (D := gD G) (ci := 3) (v := .ref (ad 1)) (C := RX3) (T := TX3) (N := 11) hx hb hts hi_X3 hown hK.1 hP 0 rfl rfl 1 (by decide) kl_19 (fun _ h9 => h9) rfl dX3_about_100 ?_
    refine va_getN (D := gD G) (ci := 1) (v := .int s_now_dayNumber) (C := RX1) (T := TX1) (N := 7) hx hb hts hi_X1 hown hK.1 hP 2 rfl rfl 6 (by decide) (nf_X3_86 hK.2) (fun _ h9 => h9) rfl dX3_about_103 ?_
    have hv := Option.some.inj hf
    exact hret _ _ _ _ _ hS hv dX3_about_106
  have hf := iteF hf c10
  by_cases c11 : a1 = 6
  · have hf := iteT hf c11
    refine lv_tableIn (off := 106) (tgt := 107) hx hb dX3_about_1 (by rw [c11]; decide) (by rw [c11]; decide) (by rw [c11]; rfl) (by decide) ?_
    refine lv_aload_n hx hb dX3_about_107 rfl (lv_at hl 0 rfl) ?_
    refine va_get (D := gD G) (ci := 3) (v := .ref (ad 3)) (C := RX3) (T := TX3) (N := 11) hx hb hts hi_X3 hown hK.1 hP 0 rfl rfl 3 (by decide) kl_29 (fun _ h9 => h9) rfl dX3_about_108 ?_
    refine va_getN (D := gD G) (ci := 0) (v := .int s_acts_count) (C := RX0) (T := TX0) (N := 3) hx hb hts hi_X0 hown hK.1 hP 3 rfl rfl 2 (by decide) (nf_X3_63 hK.2) (fun _ h9 => h9) rfl dX3_about_111 ?_
    have hv := Option.some.inj hf
    exact hret _ _ _ _ _ hS hv dX3_about_114
  have hf := iteF hf c11
  by_cases c12 : a1 = 7
  · have hf := iteT hf c12
    refine lv_tableIn (off := 114) (tgt := 115) hx hb dX3_about_1 (by rw [c12]; decide) (by rw [c12]; decide) (by rw [c12]; rfl) (by decide) ?_
    refine lv_aload_n hx hb dX3_about_115 rfl (lv_at hl 0 rfl) ?_
    refine va_get (D := gD G) (ci := 3) (v := .int s_seenCount) (C := RX3) (T := TX3) (N := 11) hx hb hts hi_X3 hown hK.1 hP 0 rfl rfl 7 (by decide) kl_89 (fun _ h9 => h9) rfl dX3_about_116 ?_
    have hv := Option.some.inj hf
    exact hret _ _ _ _ _ hS hv dX3_about_119
  have hf := iteF hf c12
  by_cases c13 : a1 = 8
  · have hf := iteT hf c13
    refine lv_tableIn (off := 119) (tgt := 120) hx hb dX3_about_1 (by rw [c13]; decide) (by rw [c13]; decide) (by rw [c13]; rfl) (by decide) ?_
    refine lv_aload_n hx hb dX3_about_120 rfl (lv_at hl 0 rfl) ?_
    refine va_get (D := gD G) (ci := 3) (v := .ref (ad 0)) (C := RX3) (T := TX3) (N := 11) hx hb hts hi_X3 hown hK.1 hP 0 rfl rfl 0 (by decide) kl_12 (fun _ h9 => h9) rfl dX3_about_121 ?_
    refine va_getN (D := gD G) (ci := 2) (v := .int s_text_length) (C := RX2) (T := TX2) (N := 2) hx hb hts hi_X2 hown hK.1 hP 1 rfl rfl 1 (by decide) (nf_X3_51 hK.2) (fun _ h9 => h9) rfl dX3_about_124 ?_
    have hv := Option.some.inj hf
    exact hret _ _ _ _ _ hS hv dX3_about_127
  have hf := iteF hf c13
  refine lv_tableOut (tgt := 128) hx hb dX3_about_1 (sw_out 8 [0, 1, 2, 3, 4, 5, 6, 7, 8] rfl (by simp only [List.mem_cons, List.not_mem_nil, or_false, forall_eq_or_imp, forall_eq]; exact ⟨c5, c6, c7, c8, c9, c10, c11, c12, c13⟩)) (by decide) ?_
  refine lv_bipush (v := (-2)) hx hb dX3_about_128 (by decide) ?_
  have hv := Option.some.inj hf
  exact hret _ _ _ _ _ hS hv dX3_about_130
def fX3_person (s_now_people : Int32) (s_now_kinds : Int32) (s_now_deeds : Int32) (s_now_feeding : Int64) (a1 : Int32) (a2 : Int32) : Option (Int32) :=
  (fX1_has s_now_people a1).bind fun o1 => ((if o1 = 0 then some (-1) else (if a2 = 0 then (fX1_deedOf s_now_deeds a1).bind fun o4 => (some o4) else (if a2 = 1 then (fX1_kindOf s_now_kinds a1).bind fun o6 => (some o6) else (if a2 = 2 then (fX1_gradeOf s_now_kinds s_now_deeds a1).bind fun o8 => (some o8) else (if a2 = 3 then (fX1_whomFeeds s_now_people s_now_feeding a1).bind fun o10 => (some o10) else some (-2)))))))
set_option maxHeartbeats 4000000 in
set_option maxRecDepth 100000 in
theorem ctX3_person (l : Launch) (G : GG) (h0 : Nat) (ad : Nat → Nat) (s_keptSlots : Int32) (s_seenCount : Int32) (s_seed : Int64) (s_now_people : Int32) (s_now_kinds : Int32) (s_now_deeds : Int32) (s_now_feeding : Int64) (s_now_large : Int32) (s_now_dead : Int32) (s_now_dayNumber : Int32) (a1 : Int32) (a2 : Int32) (out : Int32) (hf : fX3_person s_now_people s_now_kinds s_now_deeds s_now_feeding a1 a2 = some out) : Met l yX3_person wsX3_person ({ frames := 3, cells := 0, slots := 0, locals := 66 }) (PcR G [.ref h0, .int a1, .int a2] [(h0, xoE ad s_keptSlots s_seenCount s_seed), (ad 1, stE s_now_people s_now_kinds s_now_deeds s_now_feeding s_now_large s_now_dead s_now_dayNumber)]) (QiR out) 0 0 noA := by
  refine mk_Ri (cc := cX3_person) (maxL := 3) (by decide) rfl (Nat.le_of_ble_eq_true rfl) ?_
  intro p e s m args below meth c Q ls S hP hK hl hret
  obtain ⟨hx, hb, hml, hown, hts⟩ := S
  have hown : s.vm.findClass RX3 = some m.cls := hown
  have kl_19 := hts (.fieldLink RX3 19 "ArrestOrder" "now" "LArrestOrder$Standing;") (by decide +kernel)
  have hi_X3 : ∀ w ∈ wsX30, w ∈ wsX3_person := fun _ h => List.mem_cons_of_mem _ (List.mem_append_left _ (List.mem_append_right _ h))
  have hS : va_S noA s.heap s.heap [] := va_S.rf
  have hl : lv_has ls 3 [(0, .ref h0), (1, .int a1), (2, .int a2)] := hl
  refine lv_aload_n hx hb dX3_person_0 rfl (lv_at hl 0 rfl) ?_
  refine va_get (D := gD G) (ci := 3) (v := .ref (ad 1)) (C := RX3) (T := TX3) (N := 11) hx hb hts hi_X3 hown hK.1 hP 0 rfl rfl 1 (by decide) kl_19 (fun _ h9 => h9) rfl dX3_person_1 ?_
  refine lv_iload_n hx hb dX3_person_4 rfl (lv_at hl 1 rfl) ?_
  obtain ⟨o1, hc2, hf⟩ := bindS hf
  refine ro_i (va_runVN (C := RX1) (As := [.int a1]) (rest := []) ⟨hx, hb, hml, hown, hts⟩ (ctX1_has l G (ad 1) s_now_people s_now_kinds s_now_deeds s_now_feeding s_now_large s_now_dead s_now_dayNumber a1 o1 hc2) ⟨va_cnB 1 hts gX3_person_X1_has_n92 rfl rfl rfl (nm_X3_92 hK.2) (hts (.initialized RX1) (by decide +kernel)) (by decide +kernel) ⟨Nat.le_of_ble_eq_true rfl, Nat.le_of_ble_eq_true rfl⟩, hts (.instanceMethod yX1_has) (by decide +kernel), hts (.selects RX1 yX1_has yX1_has) (by decide +kernel)⟩ (preR_V (q0 := 0) (ci := 1) (hP.sub (ws' := [(ad 1, stE s_now_people s_now_kinds s_now_deeds s_now_feeding s_now_large s_now_dead s_now_dayNumber)]) [1] rfl) hK rfl rfl) rfl rfl hl.1 rfl (lv_room (Nat.le_of_ble_eq_true rfl)) dX3_person_5 ⟨Nat.zero_le _, Nat.zero_le _⟩) hS hP (fun H locs hP hS => ?_)
  refine lv_if_ne (tgt := 13) hx hb dX3_person_8 (by decide) (fun c3 => ?_) (fun c3 => ?_)
  · have hf := iteF hf c3
    refine lv_iload_n hx hb dX3_person_13 rfl (lv_at hl 2 rfl) ?_
    by_cases c12 : a2 = 0
    · have hf := iteT hf c12
      refine lv_tableIn (off := 30) (tgt := 44) hx hb dX3_person_14 (by rw [c12]; decide) (by rw [c12]; decide) (by rw [c12]; rfl) (by decide) ?_
      refine lv_aload_n hx hb dX3_person_44 rfl (lv_at hl 0 rfl) ?_
      refine va_get (D := gD G) (ci := 3) (v := .ref (ad 1)) (C := RX3) (T := TX3) (N := 11) hx hb hts hi_X3 hown hK.1 hP 0 rfl rfl 1 (by decide) kl_19 (fun _ h9 => h9) rfl dX3_person_45 ?_
      refine lv_iload_n hx hb dX3_person_48 rfl (lv_at hl 1 rfl) ?_
      obtain ⟨o4, hc5, hf⟩ := bindS hf
      refine ro_i (va_runVN (C := RX1) (As := [.int a1]) (rest := []) ⟨hx, hb, hml, hown, hts⟩ (ctX1_deedOf l G (ad 1) s_now_people s_now_kinds s_now_deeds s_now_feeding s_now_large s_now_dead s_now_dayNumber a1 o4 hc5) ⟨va_cnB 1 hts gX3_person_X1_deedOf_n95 rfl rfl rfl (nm_X3_95 hK.2) (hts (.initialized RX1) (by decide +kernel)) (by decide +kernel) ⟨Nat.le_of_ble_eq_true rfl, Nat.le_of_ble_eq_true rfl⟩, hts (.instanceMethod yX1_deedOf) (by decide +kernel), hts (.selects RX1 yX1_deedOf yX1_deedOf) (by decide +kernel)⟩ (preR_V (q0 := 0) (ci := 1) (hP.sub (ws' := [(ad 1, stE s_now_people s_now_kinds s_now_deeds s_now_feeding s_now_large s_now_dead s_now_dayNumber)]) [1] rfl) hK rfl rfl) rfl rfl hl.1 rfl (lv_room (Nat.le_of_ble_eq_true rfl)) dX3_person_49 ⟨Nat.zero_le _, Nat.zero_le _⟩) hS hP (fun H locs hP hS => ?_)
      have hv := Option.some.inj hf
      exact hret _ _ _ _ _ hS hv dX3_person_52
    have hf := iteF hf c12
    by_cases c13 : a2 = 1
    · have hf := iteT hf c13
      refine lv_tableIn (off := 39) (tgt := 53) hx hb dX3_person_14 (by rw [c13]; decide) (by rw [c13]; decide) (by rw [c13]; rfl) (by decide) ?_
      refine lv_aload_n hx hb dX3_person_53 rfl (lv_at hl 0 rfl) ?_
      refine va_get (D := gD G) (ci := 3) (v := .ref (ad 1)) (C := RX3) (T := TX3) (N := 11) hx hb hts hi_X3 hown hK.1 hP 0 rfl rfl 1 (by decide) kl_19 (fun _ h9 => h9) rfl dX3_person_54 ?_
      refine lv_iload_n hx hb dX3_person_57 rfl (lv_at hl 1 rfl) ?_
      obtain ⟨o6, hc7, hf⟩ := bindS hf
      refine ro_i (va_runVN (C := RX1) (As := [.int a1]) (rest := []) ⟨hx, hb, hml, hown, hts⟩ (ctX1_kindOf l G (ad 1) s_now_people s_now_kinds s_now_deeds s_now_feeding s_now_large s_now_dead s_now_dayNumber a1 o6 hc7) ⟨va_cnB 1 hts gX3_person_X1_kindOf_n98 rfl rfl rfl (nm_X3_98 hK.2) (hts (.initialized RX1) (by decide +kernel)) (by decide +kernel) ⟨Nat.le_of_ble_eq_true rfl, Nat.le_of_ble_eq_true rfl⟩, hts (.instanceMethod yX1_kindOf) (by decide +kernel), hts (.selects RX1 yX1_kindOf yX1_kindOf) (by decide +kernel)⟩ (preR_V (q0 := 0) (ci := 1) (hP.sub (ws' := [(ad 1, stE s_now_people s_now_kinds s_now_deeds s_now_feeding s_now_large s_now_dead s_now_dayNumber)]) [1] rfl) hK rfl rfl) rfl rfl hl.1 rfl (lv_room (Nat.le_of_ble_eq_true rfl)) dX3_person_58 ⟨Nat.zero_le _, Nat.zero_le _⟩) hS hP (fun H locs hP hS => ?_)
      have hv := Option.some.inj hf
      exact hret _ _ _ _ _ hS hv dX3_person_61
    have hf := iteF hf c13
    by_cases c14 : a2 = 2
    · have hf := iteT hf c14
      refine lv_tableIn (off := 48) (tgt := 62) hx hb dX3_person_14 (by rw [c14]; decide) (by rw [c14]; decide) (by rw [c14]; rfl) (by decide) ?_
      refine lv_aload_n hx hb dX3_person_62 rfl (lv_at hl 0 rfl) ?_
      refine va_get (D := gD G) (ci := 3) (v := .ref (ad 1)) (C := RX3) (T := TX3) (N := 11) hx hb hts hi_X3 hown hK.1 hP 0 rfl rfl 1 (by decide) kl_19 (fun _ h9 => h9) rfl dX3_person_63 ?_
      refine lv_iload_n hx hb dX3_person_66 rfl (lv_at hl 1 rfl) ?_
      obtain ⟨o8, hc9, hf⟩ := bindS hf
      refine ro_i (va_runVN (C := RX1) (As := [.int a1]) (rest := []) ⟨hx, hb, hml, hown, hts⟩ (ctX1_gradeOf l G (ad 1) s_now_people s_now_kinds s_now_deeds s_now_feeding s_now_large s_now_dead s_now_dayNumber a1 o8 hc9) ⟨va_cnB 1 hts gX3_person_X1_gradeOf_n101 rfl rfl rfl (nm_X3_101 hK.2) (hts (.initialized RX1) (by decide +kernel)) (by decide +kernel) ⟨Nat.le_of_ble_eq_true rfl, Nat.le_of_ble_eq_true rfl⟩, hts (.instanceMethod yX1_gradeOf) (by decide +kernel), hts (.selects RX1 yX1_gradeOf yX1_gradeOf) (by decide +kernel)⟩ (preR_V (q0 := 0) (ci := 1) (hP.sub (ws' := [(ad 1, stE s_now_people s_now_kinds s_now_deeds s_now_feeding s_now_large s_now_dead s_now_dayNumber)]) [1] rfl) hK rfl rfl) rfl rfl hl.1 rfl (lv_room (Nat.le_of_ble_eq_true rfl)) dX3_person_67 ⟨Nat.zero_le _, Nat.zero_le _⟩) hS hP (fun H locs hP hS => ?_)
      have hv := Option.some.inj hf
      exact hret _ _ _ _ _ hS hv dX3_person_70
    have hf := iteF hf c14
    by_cases c15 : a2 = 3
    · have hf := iteT hf c15
      refine lv_tableIn (off := 57) (tgt := 71) hx hb dX3_person_14 (by rw [c15]; decide) (by rw [c15]; decide) (by rw [c15]; rfl) (by decide) ?_
      refine lv_aload_n hx hb dX3_person_71 rfl (lv_at hl 0 rfl) ?_
      refine va_get (D := gD G) (ci := 3) (v := .ref (ad 1)) (C := RX3) (T := TX3) (N := 11) hx hb hts hi_X3 hown hK.1 hP 0 rfl rfl 1 (by decide) kl_19 (fun _ h9 => h9) rfl dX3_person_72 ?_
      refine lv_iload_n hx hb dX3_person_75 rfl (lv_at hl 1 rfl) ?_
      obtain ⟨o10, hc11, hf⟩ := bindS hf
      refine ro_i (va_runVN (C := RX1) (As := [.int a1]) (rest := []) ⟨hx, hb, hml, hown, hts⟩ (ctX1_whomFeeds l G (ad 1) s_now_people s_now_kinds s_now_deeds s_now_feeding s_now_large s_now_dead s_now_dayNumber a1 o10 hc11) ⟨va_cnB 1 hts gX3_person_X1_whomFeeds_n104 rfl rfl rfl (nm_X3_104 hK.2) (hts (.initialized RX1) (by decide +kernel)) (by decide +kernel) ⟨Nat.le_of_ble_eq_true rfl, Nat.le_of_ble_eq_true rfl⟩, hts (.instanceMethod yX1_whomFeeds) (by decide +kernel), hts (.selects RX1 yX1_whomFeeds yX1_whomFeeds) (by decide +kernel)⟩ (preR_V (q0 := 0) (ci := 1) (hP.sub (ws' := [(ad 1, stE s_now_people s_now_kinds s_now_deeds s_now_feeding s_now_large s_now_dead s_now_dayNumber)]) [1] rfl) hK rfl rfl) rfl rfl hl.1 rfl (lv_room (Nat.le_of_ble_eq_true rfl)) dX3_person_76 ⟨Nat.zero_le _, Nat.zero_le _⟩) hS hP (fun H locs hP hS => ?_)
      have hv := Option.some.inj hf
      exact hret _ _ _ _ _ hS hv dX3_person_79
    have hf := iteF hf c15
    refine lv_tableOut (tgt := 80) hx hb dX3_person_14 (sw_out 3 [0, 1, 2, 3] rfl (by simp only [List.mem_cons, List.not_mem_nil, or_false, forall_eq_or_imp, forall_eq]; exact ⟨c12, c13, c14, c15⟩)) (by decide) ?_
    refine lv_bipush (v := (-2)) hx hb dX3_person_80 (by decide) ?_
    have hv := Option.some.inj hf
    exact hret _ _ _ _ _ hS hv dX3_person_82
  · have hf := iteT hf c3
    refine lv_iconst (v := (-1)) hx hb dX3_person_11 (by decide) ?_
    have hv := Option.some.inj hf
    exact hret _ _ _ _ _ hS hv dX3_person_12
def fX3_fall (s_now_people : Int32) (s_now_kinds : Int32) (s_now_deeds : Int32) (s_now_feeding : Int64) (s_now_large : Int32) : Option (Int32) :=
  (fX1_fallRow s_now_people s_now_kinds s_now_deeds s_now_feeding s_now_large).bind fun o1 => (some o1)
set_option maxHeartbeats 4000000 in
set_option maxRecDepth 100000 in
theorem ctX3_fall (l : Launch) (G : GG) (h0 : Nat) (ad : Nat → Nat) (s_keptSlots : Int32) (s_seenCount : Int32) (s_seed : Int64) (s_now_people : Int32) (s_now_kinds : Int32) (s_now_deeds : Int32) (s_now_feeding : Int64) (s_now_large : Int32) (s_now_dead : Int32) (s_now_dayNumber : Int32) (out : Int32) (hf : fX3_fall s_now_people s_now_kinds s_now_deeds s_now_feeding s_now_large = some out) : Met l yX3_fall wsX3_fall ({ frames := 4, cells := 0, slots := 0, locals := 93 }) (PcR G [.ref h0] [(h0, xoE ad s_keptSlots s_seenCount s_seed), (ad 1, stE s_now_people s_now_kinds s_now_deeds s_now_feeding s_now_large s_now_dead s_now_dayNumber)]) (QiR out) 0 0 noA := by
  refine mk_Ri (cc := cX3_fall) (maxL := 1) (by decide) rfl (Nat.le_of_ble_eq_true rfl) ?_
  intro p e s m args below meth c Q ls S hP hK hl hret
  obtain ⟨hx, hb, hml, hown, hts⟩ := S
  have hown : s.vm.findClass RX3 = some m.cls := hown
  have kl_19 := hts (.fieldLink RX3 19 "ArrestOrder" "now" "LArrestOrder$Standing;") (by decide +kernel)
  have hi_X3 : ∀ w ∈ wsX30, w ∈ wsX3_fall := fun _ h => List.mem_cons_of_mem _ (List.mem_append_left _ (List.mem_append_right _ h))
  have hS : va_S noA s.heap s.heap [] := va_S.rf
  have hl : lv_has ls 1 [(0, .ref h0)] := hl
  refine lv_aload_n hx hb dX3_fall_0 rfl (lv_at hl 0 rfl) ?_
  refine va_get (D := gD G) (ci := 3) (v := .ref (ad 1)) (C := RX3) (T := TX3) (N := 11) hx hb hts hi_X3 hown hK.1 hP 0 rfl rfl 1 (by decide) kl_19 (fun _ h9 => h9) rfl dX3_fall_1 ?_
  obtain ⟨o1, hc2, hf⟩ := bindS hf
  refine ro_i (va_runVN (C := RX1) (As := []) (rest := []) ⟨hx, hb, hml, hown, hts⟩ (ctX1_fallRow l G (ad 1) s_now_people s_now_kinds s_now_deeds s_now_feeding s_now_large s_now_dead s_now_dayNumber o1 hc2) ⟨va_cnB 0 hts gX3_fall_X1_fallRow_n152 rfl rfl rfl (nm_X3_152 hK.2) (hts (.initialized RX1) (by decide +kernel)) (by decide +kernel) ⟨Nat.le_of_ble_eq_true rfl, Nat.le_of_ble_eq_true rfl⟩, hts (.instanceMethod yX1_fallRow) (by decide +kernel), hts (.selects RX1 yX1_fallRow yX1_fallRow) (by decide +kernel)⟩ (preR_V (q0 := 0) (ci := 1) (hP.sub (ws' := [(ad 1, stE s_now_people s_now_kinds s_now_deeds s_now_feeding s_now_large s_now_dead s_now_dayNumber)]) [1] rfl) hK rfl rfl) rfl rfl hl.1 rfl (lv_room (Nat.le_of_ble_eq_true rfl)) dX3_fall_4 ⟨Nat.zero_le _, Nat.zero_le _⟩) hS hP (fun H locs hP hS => ?_)
  have hv := Option.some.inj hf
  exact hret _ _ _ _ _ hS hv dX3_fall_7
def fX3_place (s_now_people : Int32) (s_now_kinds : Int32) (s_now_deeds : Int32) (s_now_feeding : Int64) (s_now_large : Int32) (a1 : Int32) : Option (Int32) :=
  (fX1_has s_now_people a1).bind fun o1 => ((if o1 = 0 then some (-1) else (fX1_placeOf s_now_people s_now_kinds s_now_deeds s_now_feeding s_now_large a1).bind fun o4 => (some o4)))
set_option maxHeartbeats 4000000 in
set_option maxRecDepth 100000 in
theorem ctX3_place (l : Launch) (G : GG) (h0 : Nat) (ad : Nat → Nat) (s_keptSlots : Int32) (s_seenCount : Int32) (s_seed : Int64) (s_now_people : Int32) (s_now_kinds : Int32) (s_now_deeds : Int32) (s_now_feeding : Int64) (s_now_large : Int32) (s_now_dead : Int32) (s_now_dayNumber : Int32) (a1 : Int32) (out : Int32) (hf : fX3_place s_now_people s_now_kinds s_now_deeds s_now_feeding s_now_large a1 = some out) : Met l yX3_place wsX3_place ({ frames := 4, cells := 0, slots := 0, locals := 93 }) (PcR G [.ref h0, .int a1] [(h0, xoE ad s_keptSlots s_seenCount s_seed), (ad 1, stE s_now_people s_now_kinds s_now_deeds s_now_feeding s_now_large s_now_dead s_now_dayNumber)]) (QiR out) 0 0 noA := by
  refine mk_Ri (cc := cX3_place) (maxL := 2) (by decide) rfl (Nat.le_of_ble_eq_true rfl) ?_
  intro p e s m args below meth c Q ls S hP hK hl hret
  obtain ⟨hx, hb, hml, hown, hts⟩ := S
  have hown : s.vm.findClass RX3 = some m.cls := hown
  have kl_19 := hts (.fieldLink RX3 19 "ArrestOrder" "now" "LArrestOrder$Standing;") (by decide +kernel)
  have hi_X3 : ∀ w ∈ wsX30, w ∈ wsX3_place := fun _ h => List.mem_cons_of_mem _ (List.mem_append_left _ (List.mem_append_right _ h))
  have hS : va_S noA s.heap s.heap [] := va_S.rf
  have hl : lv_has ls 2 [(0, .ref h0), (1, .int a1)] := hl
  refine lv_aload_n hx hb dX3_place_0 rfl (lv_at hl 0 rfl) ?_
  refine va_get (D := gD G) (ci := 3) (v := .ref (ad 1)) (C := RX3) (T := TX3) (N := 11) hx hb hts hi_X3 hown hK.1 hP 0 rfl rfl 1 (by decide) kl_19 (fun _ h9 => h9) rfl dX3_place_1 ?_
  refine lv_iload_n hx hb dX3_place_4 rfl (lv_at hl 1 rfl) ?_
  obtain ⟨o1, hc2, hf⟩ := bindS hf
  refine ro_i (va_runVN (C := RX1) (As := [.int a1]) (rest := []) ⟨hx, hb, hml, hown, hts⟩ (ctX1_has l G (ad 1) s_now_people s_now_kinds s_now_deeds s_now_feeding s_now_large s_now_dead s_now_dayNumber a1 o1 hc2) ⟨va_cnB 1 hts gX3_place_X1_has_n92 rfl rfl rfl (nm_X3_92 hK.2) (hts (.initialized RX1) (by decide +kernel)) (by decide +kernel) ⟨Nat.le_of_ble_eq_true rfl, Nat.le_of_ble_eq_true rfl⟩, hts (.instanceMethod yX1_has) (by decide +kernel), hts (.selects RX1 yX1_has yX1_has) (by decide +kernel)⟩ (preR_V (q0 := 0) (ci := 1) (hP.sub (ws' := [(ad 1, stE s_now_people s_now_kinds s_now_deeds s_now_feeding s_now_large s_now_dead s_now_dayNumber)]) [1] rfl) hK rfl rfl) rfl rfl hl.1 rfl (lv_room (Nat.le_of_ble_eq_true rfl)) dX3_place_5 ⟨Nat.zero_le _, Nat.zero_le _⟩) hS hP (fun H locs hP hS => ?_)
  refine lv_if_eq (tgt := 22) hx hb dX3_place_8 (by decide) (fun c3 => ?_) (fun c3 => ?_)
  · have hf := iteT hf c3
    refine lv_iconst (v := (-1)) hx hb dX3_place_22 (by decide) ?_
    have hv := Option.some.inj hf
    exact hret _ _ _ _ _ hS hv dX3_place_23
  · have hf := iteF hf c3
    refine lv_aload_n hx hb dX3_place_11 rfl (lv_at hl 0 rfl) ?_
    refine va_get (D := gD G) (ci := 3) (v := .ref (ad 1)) (C := RX3) (T := TX3) (N := 11) hx hb hts hi_X3 hown hK.1 hP 0 rfl rfl 1 (by decide) kl_19 (fun _ h9 => h9) rfl dX3_place_12 ?_
    refine lv_iload_n hx hb dX3_place_15 rfl (lv_at hl 1 rfl) ?_
    obtain ⟨o4, hc5, hf⟩ := bindS hf
    refine ro_i (va_runVN (C := RX1) (As := [.int a1]) (rest := []) ⟨hx, hb, hml, hown, hts⟩ (ctX1_placeOf l G (ad 1) s_now_people s_now_kinds s_now_deeds s_now_feeding s_now_large s_now_dead s_now_dayNumber a1 o4 hc5) ⟨va_cnB 1 hts gX3_place_X1_placeOf_n155 rfl rfl rfl (nm_X3_155 hK.2) (hts (.initialized RX1) (by decide +kernel)) (by decide +kernel) ⟨Nat.le_of_ble_eq_true rfl, Nat.le_of_ble_eq_true rfl⟩, hts (.instanceMethod yX1_placeOf) (by decide +kernel), hts (.selects RX1 yX1_placeOf yX1_placeOf) (by decide +kernel)⟩ (preR_V (q0 := 0) (ci := 1) (hP.sub (ws' := [(ad 1, stE s_now_people s_now_kinds s_now_deeds s_now_feeding s_now_large s_now_dead s_now_dayNumber)]) [1] rfl) hK rfl rfl) rfl rfl hl.1 rfl (lv_room (Nat.le_of_ble_eq_true rfl)) dX3_place_16 ⟨Nat.zero_le _, Nat.zero_le _⟩) hS hP (fun H locs hP hS => ?_)
    refine lv_goto (tgt := 23) hx hb dX3_place_19 (by decide) ?_
    have hv := Option.some.inj hf
    exact hret _ _ _ _ _ hS hv dX3_place_23
def fX3_last (s_now_people : Int32) (s_now_kinds : Int32) (s_now_deeds : Int32) (s_now_feeding : Int64) (s_now_large : Int32) : Option (Int32) :=
  (fX1_leftBehind s_now_people s_now_kinds s_now_deeds s_now_feeding s_now_large).bind fun o1 => (some o1)
set_option maxHeartbeats 4000000 in
set_option maxRecDepth 100000 in
theorem ctX3_last (l : Launch) (G : GG) (h0 : Nat) (ad : Nat → Nat) (s_keptSlots : Int32) (s_seenCount : Int32) (s_seed : Int64) (s_now_people : Int32) (s_now_kinds : Int32) (s_now_deeds : Int32) (s_now_feeding : Int64) (s_now_large : Int32) (s_now_dead : Int32) (s_now_dayNumber : Int32) (out : Int32) (hf : fX3_last s_now_people s_now_kinds s_now_deeds s_now_feeding s_now_large = some out) : Met l yX3_last wsX3_last ({ frames := 4, cells := 0, slots := 0, locals := 93 }) (PcR G [.ref h0] [(h0, xoE ad s_keptSlots s_seenCount s_seed), (ad 1, stE s_now_people s_now_kinds s_now_deeds s_now_feeding s_now_large s_now_dead s_now_dayNumber)]) (QiR out) 0 0 noA := by
  refine mk_Ri (cc := cX3_last) (maxL := 1) (by decide) rfl (Nat.le_of_ble_eq_true rfl) ?_
  intro p e s m args below meth c Q ls S hP hK hl hret
  obtain ⟨hx, hb, hml, hown, hts⟩ := S
  have hown : s.vm.findClass RX3 = some m.cls := hown
  have kl_19 := hts (.fieldLink RX3 19 "ArrestOrder" "now" "LArrestOrder$Standing;") (by decide +kernel)
  have hi_X3 : ∀ w ∈ wsX30, w ∈ wsX3_last := fun _ h => List.mem_cons_of_mem _ (List.mem_append_left _ (List.mem_append_right _ h))
  have hi_X1 : ∀ w ∈ wsX10, w ∈ wsX3_last := fun _ h => List.mem_cons_of_mem _ (List.mem_append_right _ h)
  have hS : va_S noA s.heap s.heap [] := va_S.rf
  have hl : lv_has ls 1 [(0, .ref h0)] := hl
  refine lv_aload_n hx hb dX3_last_0 rfl (lv_at hl 0 rfl) ?_
  refine va_get (D := gD G) (ci := 3) (v := .ref (ad 1)) (C := RX3) (T := TX3) (N := 11) hx hb hts hi_X3 hown hK.1 hP 0 rfl rfl 1 (by decide) kl_19 (fun _ h9 => h9) rfl dX3_last_1 ?_
  refine lv_aload_n hx hb dX3_last_4 rfl (lv_at hl 0 rfl) ?_
  refine va_get (D := gD G) (ci := 3) (v := .ref (ad 1)) (C := RX3) (T := TX3) (N := 11) hx hb hts hi_X3 hown hK.1 hP 0 rfl rfl 1 (by decide) kl_19 (fun _ h9 => h9) rfl dX3_last_5 ?_
  refine va_getN (D := gD G) (ci := 1) (v := .int s_now_large) (C := RX1) (T := TX1) (N := 7) hx hb hts hi_X1 hown hK.1 hP 1 rfl rfl 4 (by decide) (nf_X3_72 hK.2) (fun _ h9 => h9) rfl dX3_last_8 ?_
  obtain ⟨o1, hc2, hf⟩ := bindS hf
  refine ro_i (va_runVN (C := RX1) (As := [.int s_now_large]) (rest := []) ⟨hx, hb, hml, hown, hts⟩ (ctX1_leftBehind l G (ad 1) s_now_people s_now_kinds s_now_deeds s_now_feeding s_now_large s_now_dead s_now_dayNumber s_now_large o1 hc2) ⟨va_cnB 1 hts gX3_last_X1_leftBehind_n158 rfl rfl rfl (nm_X3_158 hK.2) (hts (.initialized RX1) (by decide +kernel)) (by decide +kernel) ⟨Nat.le_of_ble_eq_true rfl, Nat.le_of_ble_eq_true rfl⟩, hts (.instanceMethod yX1_leftBehind) (by decide +kernel), hts (.selects RX1 yX1_leftBehind yX1_leftBehind) (by decide +kernel)⟩ (preR_V (q0 := 0) (ci := 1) (hP.sub (ws' := [(ad 1, stE s_now_people s_now_kinds s_now_deeds s_now_feeding s_now_large s_now_dead s_now_dayNumber)]) [1] rfl) hK rfl rfl) rfl rfl hl.1 rfl (lv_room (Nat.le_of_ble_eq_true rfl)) dX3_last_11 ⟨Nat.zero_le _, Nat.zero_le _⟩) hS hP (fun H locs hP hS => ?_)
  have hv := Option.some.inj hf
  exact hret _ _ _ _ _ hS hv dX3_last_14
def fX3_newPair_54 (x2 : Int32) (x3 : Int32) (y0 : Int32) : Option (Int64) :=
  (if y0 = 0 then some 0 else (fX3_pair x2 x3).bind fun o5 => (some o5))
def fX3_newPair_53 (x2 : Int32) (x3 : Int32) : Option (Int64) :=
  (fX3_newPair_54 x2 x3 0)
def fX3_newPair (s_now_people : Int32) (s_now_feeding : Int64) (a1 : Int32) : Option (Int64) :=
  (fX1_has s_now_people (a1 / 10)).bind fun o1 => ((if o1 = 0 then (fX3_newPair_53 (a1 / 10) (a1 - a1 / 10 * 10)) else (fX1_has s_now_people (a1 - a1 / 10 * 10)).bind fun o7 => ((if o7 = 0 then (fX3_newPair_53 (a1 / 10) (a1 - a1 / 10 * 10)) else (if (a1 / 10) = (a1 - a1 / 10 * 10) then (fX3_newPair_53 (a1 / 10) (a1 - a1 / 10 * 10)) else (fX1_feeds s_now_feeding (a1 / 10) (a1 - a1 / 10 * 10)).bind fun o11 => ((if o11 = 0 then (fX3_newPair_54 (a1 / 10) (a1 - a1 / 10 * 10) 1) else (fX3_newPair_53 (a1 / 10) (a1 - a1 / 10 * 10)))))))))
set_option maxHeartbeats 4000000 in
set_option maxRecDepth 100000 in
theorem ctX3_newPair (l : Launch) (G : GG) (h0 : Nat) (ad : Nat → Nat) (s_keptSlots : Int32) (s_seenCount : Int32) (s_seed : Int64) (s_now_people : Int32) (s_now_kinds : Int32) (s_now_deeds : Int32) (s_now_feeding : Int64) (s_now_large : Int32) (s_now_dead : Int32) (s_now_dayNumber : Int32) (a1 : Int32) (out : Int64) (hf : fX3_newPair s_now_people s_now_feeding a1 = some out) : Met l yX3_newPair wsX3_newPair ({ frames := 2, cells := 0, slots := 0, locals := 43 }) (PcR G [.ref h0, .int a1] [(h0, xoE ad s_keptSlots s_seenCount s_seed), (ad 1, stE s_now_people s_now_kinds s_now_deeds s_now_feeding s_now_large s_now_dead s_now_dayNumber)]) (QlR out) 0 0 noA := by
  refine mk_Rl (cc := cX3_newPair) (maxL := 5) (by decide) rfl (Nat.le_of_ble_eq_true rfl) ?_
  intro p e s m args below meth c Q ls S hP hK hl hret
  obtain ⟨hx, hb, hml, hown, hts⟩ := S
  have hown : s.vm.findClass RX3 = some m.cls := hown
  have kl_19 := hts (.fieldLink RX3 19 "ArrestOrder" "now" "LArrestOrder$Standing;") (by decide +kernel)
  have hi_X3 : ∀ w ∈ wsX30, w ∈ wsX3_newPair := fun _ h => List.mem_cons_of_mem _ (List.mem_append_left _ (List.mem_append_right _ h))
  have hS : va_S noA s.heap s.heap [] := va_S.rf
  have hl : lv_has ls 5 [(0, .ref h0), (1, .int a1)] := hl
  have hC54 : ∀ (x2 : Int32) (x3 : Int32) (y0 : Int32) (H : Heap) (locs : List Loc) (ls : Array Slot), va_P (gD G) vwCl [(h0, xoE ad s_keptSlots s_seenCount s_seed), (ad 1, stE s_now_people s_now_kinds s_now_deeds s_now_feeding s_now_large s_now_dead s_now_dayNumber)] H → va_S noA s.heap H locs → lv_has ls 5 [(2, .int x2), (3, .int x3)] → fX3_newPair_54 x2 x3 y0 = some out → W p l e ({ frames := 2, cells := 0, slots := 0, locals := 43 }) s m args below meth c H locs 0 0 Q (F0 m 54 ls [.int y0]) := by
    intro x2 x3 y0 H locs ls hP hS hl hf
    refine lv_istore (lv' := [(4, .int y0), (2, .int x2), (3, .int x3)]) hx hb dX3_newPair_54 hl (by decide) rfl (fun ls hl => ?_)
    refine lv_iload hx hb dX3_newPair_56 (lv_at hl 0 rfl) ?_
    refine lv_if_eq (tgt := 69) hx hb dX3_newPair_58 (by decide) (fun c4 => ?_) (fun c4 => ?_)
    · have hf := iteT hf c4
      refine lv_lconst (v := 0) hx hb dX3_newPair_69 (by decide) ?_
      have hv := Option.some.inj hf
      exact hret _ _ _ _ _ hS hv dX3_newPair_70
    · have hf := iteF hf c4
      refine lv_iload_n hx hb dX3_newPair_61 rfl (lv_at hl 1 rfl) ?_
      refine lv_iload_n hx hb dX3_newPair_62 rfl (lv_at hl 2 rfl) ?_
      obtain ⟨o5, hc6, hf⟩ := bindS hf
      refine ro_l (va_runS (As := [.int x2, .int x3]) (rest := []) ⟨hx, hb, hml, hown, hts⟩ (ctX3_pair l G x2 x3 o5 hc6) (va_cwS 2 hts gX3_newPair_X3_pair rfl rfl rfl (by decide +kernel) ⟨Nat.le_of_ble_eq_true rfl, Nat.le_of_ble_eq_true rfl⟩) (preR_S (hP.sub (ws' := []) [] rfl) hK) rfl rfl hl.1 rfl (lv_room (Nat.le_of_ble_eq_true rfl)) dX3_newPair_63 ⟨Nat.zero_le _, Nat.zero_le _⟩) hS hP (fun H locs hP hS => ?_)
      refine lv_goto (tgt := 70) hx hb dX3_newPair_66 (by decide) ?_
      have hv := Option.some.inj hf
      exact hret _ _ _ _ _ hS hv dX3_newPair_70
  have hC53 : ∀ (x2 : Int32) (x3 : Int32) (H : Heap) (locs : List Loc) (ls : Array Slot), va_P (gD G) vwCl [(h0, xoE ad s_keptSlots s_seenCount s_seed), (ad 1, stE s_now_people s_now_kinds s_now_deeds s_now_feeding s_now_large s_now_dead s_now_dayNumber)] H → va_S noA s.heap H locs → lv_has ls 5 [(2, .int x2), (3, .int x3)] → fX3_newPair_53 x2 x3 = some out → W p l e ({ frames := 2, cells := 0, slots := 0, locals := 43 }) s m args below meth c H locs 0 0 Q (F0 m 53 ls []) := by
    intro x2 x3 H locs ls hP hS hl hf
    refine lv_iconst (v := 0) hx hb dX3_newPair_53 (by decide) ?_
    exact hC54 x2 x3 0 _ _ _ hP hS (lv_sub hl [0, 1] rfl) hf
  refine lv_iload_n hx hb dX3_newPair_0 rfl (lv_at hl 1 rfl) ?_
  refine lv_bipush (v := 10) hx hb dX3_newPair_1 (by decide) ?_
  refine lv_idiv hx hb dX3_newPair_3 (by decide) ?_
  refine lv_istore_n (lv' := [(2, .int (a1 / 10)), (0, .ref h0), (1, .int a1)]) hx hb dX3_newPair_4 rfl hl (by decide) rfl (fun ls hl => ?_)
  refine lv_iload_n hx hb dX3_newPair_5 rfl (lv_at hl 2 rfl) ?_
  refine lv_bipush (v := 10) hx hb dX3_newPair_6 (by decide) ?_
  refine lv_irem hx hb dX3_newPair_8 (by decide) ?_
  refine lv_istore_n (lv' := [(3, .int (a1 - a1 / 10 * 10)), (2, .int (a1 / 10)), (0, .ref h0), (1, .int a1)]) hx hb dX3_newPair_9 rfl hl (by decide) rfl (fun ls hl => ?_)
  refine lv_aload_n hx hb dX3_newPair_10 rfl (lv_at hl 2 rfl) ?_
  refine va_get (D := gD G) (ci := 3) (v := .ref (ad 1)) (C := RX3) (T := TX3) (N := 11) hx hb hts hi_X3 hown hK.1 hP 0 rfl rfl 1 (by decide) kl_19 (fun _ h9 => h9) rfl dX3_newPair_11 ?_
  refine lv_iload_n hx hb dX3_newPair_14 rfl (lv_at hl 1 rfl) ?_
  obtain ⟨o1, hc2, hf⟩ := bindS hf
  refine ro_i (va_runVN (C := RX1) (As := [.int (a1 / 10)]) (rest := []) ⟨hx, hb, hml, hown, hts⟩ (ctX1_has l G (ad 1) s_now_people s_now_kinds s_now_deeds s_now_feeding s_now_large s_now_dead s_now_dayNumber (a1 / 10) o1 hc2) ⟨va_cnB 1 hts gX3_newPair_X1_has_n92 rfl rfl rfl (nm_X3_92 hK.2) (hts (.initialized RX1) (by decide +kernel)) (by decide +kernel) ⟨Nat.le_of_ble_eq_true rfl, Nat.le_of_ble_eq_true rfl⟩, hts (.instanceMethod yX1_has) (by decide +kernel), hts (.selects RX1 yX1_has yX1_has) (by decide +kernel)⟩ (preR_V (q0 := 0) (ci := 1) (hP.sub (ws' := [(ad 1, stE s_now_people s_now_kinds s_now_deeds s_now_feeding s_now_large s_now_dead s_now_dayNumber)]) [1] rfl) hK rfl rfl) rfl rfl hl.1 rfl (lv_room (Nat.le_of_ble_eq_true rfl)) dX3_newPair_15 ⟨Nat.zero_le _, Nat.zero_le _⟩) hS hP (fun H locs hP hS => ?_)
  refine lv_if_eq (tgt := 53) hx hb dX3_newPair_18 (by decide) (fun c3 => ?_) (fun c3 => ?_)
  · have hf := iteT hf c3
    exact hC53 (a1 / 10) (a1 - a1 / 10 * 10) _ _ _ hP hS (lv_sub hl [1, 0] rfl) hf
  · have hf := iteF hf c3
    refine lv_aload_n hx hb dX3_newPair_21 rfl (lv_at hl 2 rfl) ?_
    refine va_get (D := gD G) (ci := 3) (v := .ref (ad 1)) (C := RX3) (T := TX3) (N := 11) hx hb hts hi_X3 hown hK.1 hP 0 rfl rfl 1 (by decide) kl_19 (fun _ h9 => h9) rfl dX3_newPair_22 ?_
    refine lv_iload_n hx hb dX3_newPair_25 rfl (lv_at hl 0 rfl) ?_
    obtain ⟨o7, hc8, hf⟩ := bindS hf
    refine ro_i (va_runVN (C := RX1) (As := [.int (a1 - a1 / 10 * 10)]) (rest := []) ⟨hx, hb, hml, hown, hts⟩ (ctX1_has l G (ad 1) s_now_people s_now_kinds s_now_deeds s_now_feeding s_now_large s_now_dead s_now_dayNumber (a1 - a1 / 10 * 10) o7 hc8) ⟨va_cnB 1 hts gX3_newPair_X1_has_n92 rfl rfl rfl (nm_X3_92 hK.2) (hts (.initialized RX1) (by decide +kernel)) (by decide +kernel) ⟨Nat.le_of_ble_eq_true rfl, Nat.le_of_ble_eq_true rfl⟩, hts (.instanceMethod yX1_has) (by decide +kernel), hts (.selects RX1 yX1_has yX1_has) (by decide +kernel)⟩ (preR_V (q0 := 0) (ci := 1) (hP.sub (ws' := [(ad 1, stE s_now_people s_now_kinds s_now_deeds s_now_feeding s_now_large s_now_dead s_now_dayNumber)]) [1] rfl) hK rfl rfl) rfl rfl hl.1 rfl (lv_room (Nat.le_of_ble_eq_true rfl)) dX3_newPair_26 ⟨Nat.zero_le _, Nat.zero_le _⟩) hS hP (fun H locs hP hS => ?_)
    refine lv_if_eq (tgt := 53) hx hb dX3_newPair_29 (by decide) (fun c9 => ?_) (fun c9 => ?_)
    · have hf := iteT hf c9
      exact hC53 (a1 / 10) (a1 - a1 / 10 * 10) _ _ _ hP hS (lv_sub hl [1, 0] rfl) hf
    · have hf := iteF hf c9
      refine lv_iload_n hx hb dX3_newPair_32 rfl (lv_at hl 1 rfl) ?_
      refine lv_iload_n hx hb dX3_newPair_33 rfl (lv_at hl 0 rfl) ?_
      refine lv_icmp_eq (tgt := 53) hx hb dX3_newPair_34 (by decide) (fun c10 => ?_) (fun c10 => ?_)
      · have hf := iteT hf c10
        exact hC53 (a1 / 10) (a1 - a1 / 10 * 10) _ _ _ hP hS (lv_sub hl [1, 0] rfl) hf
      · have hf := iteF hf c10
        refine lv_aload_n hx hb dX3_newPair_37 rfl (lv_at hl 2 rfl) ?_
        refine va_get (D := gD G) (ci := 3) (v := .ref (ad 1)) (C := RX3) (T := TX3) (N := 11) hx hb hts hi_X3 hown hK.1 hP 0 rfl rfl 1 (by decide) kl_19 (fun _ h9 => h9) rfl dX3_newPair_38 ?_
        refine lv_iload_n hx hb dX3_newPair_41 rfl (lv_at hl 1 rfl) ?_
        refine lv_iload_n hx hb dX3_newPair_42 rfl (lv_at hl 0 rfl) ?_
        obtain ⟨o11, hc12, hf⟩ := bindS hf
        refine ro_i (va_runVN (C := RX1) (As := [.int (a1 / 10), .int (a1 - a1 / 10 * 10)]) (rest := []) ⟨hx, hb, hml, hown, hts⟩ (ctX1_feeds l G (ad 1) s_now_people s_now_kinds s_now_deeds s_now_feeding s_now_large s_now_dead s_now_dayNumber (a1 / 10) (a1 - a1 / 10 * 10) o11 hc12) ⟨va_cnB 2 hts gX3_newPair_X1_feeds_n138 rfl rfl rfl (nm_X3_138 hK.2) (hts (.initialized RX1) (by decide +kernel)) (by decide +kernel) ⟨Nat.le_of_ble_eq_true rfl, Nat.le_of_ble_eq_true rfl⟩, hts (.instanceMethod yX1_feeds) (by decide +kernel), hts (.selects RX1 yX1_feeds yX1_feeds) (by decide +kernel)⟩ (preR_V (q0 := 0) (ci := 1) (hP.sub (ws' := [(ad 1, stE s_now_people s_now_kinds s_now_deeds s_now_feeding s_now_large s_now_dead s_now_dayNumber)]) [1] rfl) hK rfl rfl) rfl rfl hl.1 rfl (lv_room (Nat.le_of_ble_eq_true rfl)) dX3_newPair_43 ⟨Nat.zero_le _, Nat.zero_le _⟩) hS hP (fun H locs hP hS => ?_)
        refine lv_if_ne (tgt := 53) hx hb dX3_newPair_46 (by decide) (fun c13 => ?_) (fun c13 => ?_)
        · have hf := iteF hf c13
          exact hC53 (a1 / 10) (a1 - a1 / 10 * 10) _ _ _ hP hS (lv_sub hl [1, 0] rfl) hf
        · have hf := iteT hf c13
          refine lv_iconst (v := 1) hx hb dX3_newPair_49 (by decide) ?_
          refine lv_goto (tgt := 54) hx hb dX3_newPair_50 (by decide) ?_
          exact hC54 (a1 / 10) (a1 - a1 / 10 * 10) 1 _ _ _ hP hS (lv_sub hl [1, 0] rfl) hf
def fX3_savesByFeeding (s_now_feeding : Int64) (s_trial_people : Int32) (s_trial_kinds : Int32) (s_trial_deeds : Int32) (s_trial_feeding : Int64) (s_trial_large : Int32) (a1 : Int32) (a2 : Int64) : Option (Int32 × Int64) :=
  (fX1_leftBehind s_trial_people s_trial_kinds s_trial_deeds (s_now_feeding ||| a2) s_trial_large).bind fun o1 => ((fX3_isIn o1 a1).bind fun o3 => (zk o3 (some (o3, (s_now_feeding ||| a2)))))
set_option maxHeartbeats 4000000 in
set_option maxRecDepth 100000 in
theorem ctX3_savesByFeeding (l : Launch) (G : GG) (h0 : Nat) (ad : Nat → Nat) (s_keptSlots : Int32) (s_seenCount : Int32) (s_seed : Int64) (s_now_people : Int32) (s_now_kinds : Int32) (s_now_deeds : Int32) (s_now_feeding : Int64) (s_now_large : Int32) (s_now_dead : Int32) (s_now_dayNumber : Int32) (s_trial_people : Int32) (s_trial_kinds : Int32) (s_trial_deeds : Int32) (s_trial_feeding : Int64) (s_trial_large : Int32) (s_trial_dead : Int32) (s_trial_dayNumber : Int32) (a1 : Int32) (a2 : Int64) (out : Int32 × Int64) (hf : fX3_savesByFeeding s_now_feeding s_trial_people s_trial_kinds s_trial_deeds s_trial_feeding s_trial_large a1 a2 = some out) : Met l yX3_savesByFeeding wsX3_savesByFeeding ({ frames := 4, cells := 0, slots := 0, locals := 93 }) (PcW G [.ref h0, .int a1, .long a2] [(h0, xoE ad s_keptSlots s_seenCount s_seed), (ad 1, stE s_now_people s_now_kinds s_now_deeds s_now_feeding s_now_large s_now_dead s_now_dayNumber), (ad 2, stE s_trial_people s_trial_kinds s_trial_deeds s_trial_feeding s_trial_large s_trial_dead s_trial_dayNumber)]) (QiW G [(h0, xoE ad s_keptSlots s_seenCount s_seed), (ad 1, stE s_now_people s_now_kinds s_now_deeds s_now_feeding s_now_large s_now_dead s_now_dayNumber), (ad 2, stE s_trial_people s_trial_kinds s_trial_deeds s_trial_feeding s_trial_large s_trial_dead s_trial_dayNumber)] [(h0, xoE ad s_keptSlots s_seenCount s_seed), (ad 1, stE s_now_people s_now_kinds s_now_deeds s_now_feeding s_now_large s_now_dead s_now_dayNumber), (ad 2, stE s_trial_people s_trial_kinds s_trial_deeds out.2 s_trial_large s_trial_dead s_trial_dayNumber)] out.1) 0 0 (inA [(h0, xoE ad s_keptSlots s_seenCount s_seed), (ad 1, stE s_now_people s_now_kinds s_now_deeds s_now_feeding s_now_large s_now_dead s_now_dayNumber), (ad 2, stE s_trial_people s_trial_kinds s_trial_deeds s_trial_feeding s_trial_large s_trial_dead s_trial_dayNumber)]) := by
  refine mk_Wz (cc := cX3_savesByFeeding) (maxL := 4) (by decide) rfl (Nat.le_of_ble_eq_true rfl) ?_
  intro p e s m args below meth c Q ls A S hP hK hD hl hret
  obtain ⟨hx, hb, hml, hown, hts⟩ := S
  have hown : s.vm.findClass RX3 = some m.cls := hown
  have kl_23 := hts (.fieldLink RX3 23 "ArrestOrder" "trial" "LArrestOrder$Standing;") (by decide +kernel)
  have hi_X3 : ∀ w ∈ wsX30, w ∈ wsX3_savesByFeeding := fun _ h => List.mem_cons_of_mem _ (List.mem_append_left _ (List.mem_append_right _ h))
  have kl_19 := hts (.fieldLink RX3 19 "ArrestOrder" "now" "LArrestOrder$Standing;") (by decide +kernel)
  have hi_X1 : ∀ w ∈ wsX10, w ∈ wsX3_savesByFeeding := fun _ h => List.mem_cons_of_mem _ (List.mem_append_right _ h)
  have hS : va_S A s.heap s.heap [] := va_S.rf
  have hl : lv_has ls 4 [(0, .ref h0), (1, .int a1), (2, .long a2)] := hl
  refine lv_aload_n hx hb dX3_savesByFeeding_0 rfl (lv_at hl 0 rfl) ?_
  refine va_get (D := gD G) (ci := 3) (v := .ref (ad 2)) (C := RX3) (T := TX3) (N := 11) hx hb hts hi_X3 hown hK.1 hP 0 rfl rfl 2 (by decide) kl_23 (fun _ h9 => h9) rfl dX3_savesByFeeding_1 ?_
  refine lv_aload_n hx hb dX3_savesByFeeding_4 rfl (lv_at hl 0 rfl) ?_
  refine va_get (D := gD G) (ci := 3) (v := .ref (ad 1)) (C := RX3) (T := TX3) (N := 11) hx hb hts hi_X3 hown hK.1 hP 0 rfl rfl 1 (by decide) kl_19 (fun _ h9 => h9) rfl dX3_savesByFeeding_5 ?_
  refine va_getN (D := gD G) (ci := 1) (v := .long s_now_feeding) (C := RX1) (T := TX1) (N := 7) hx hb hts hi_X1 hown hK.1 hP 1 rfl rfl 3 (by decide) (nf_X3_130 hK.2) (fun _ h9 => h9) rfl dX3_savesByFeeding_8 ?_
  refine lv_lload_n hx hb dX3_savesByFeeding_11 rfl (lv_at hl 2 rfl) ?_
  refine lv_lor hx hb dX3_savesByFeeding_12 ?_
  refine va_putN (D := gD G) (ci := 1) (v := .long (s_now_feeding ||| a2)) (ty := .long) (C := RX1) (T := TX1) (N := 7) hx hb hts hi_X1 tyX1 tyX1_ok nmX1 hown hK.1 hP hD hS 2 rfl rfl 3 (by decide) (nf_X3_130 hK.2) (fun _ h9 => h9) rfl (tyX1_ok 3 (by decide)) rfl rfl (Nat.le_of_ble_eq_true rfl) dX3_savesByFeeding_13 (fun H locs hP hD hS => ?_)
  have hP : va_P (gD G) vwCl [(h0, xoE ad s_keptSlots s_seenCount s_seed), (ad 1, stE s_now_people s_now_kinds s_now_deeds s_now_feeding s_now_large s_now_dead s_now_dayNumber), (ad 2, stE s_trial_people s_trial_kinds s_trial_deeds (s_now_feeding ||| a2) s_trial_large s_trial_dead s_trial_dayNumber)] H := hP
  have hD : va_D A [(h0, xoE ad s_keptSlots s_seenCount s_seed), (ad 1, stE s_now_people s_now_kinds s_now_deeds s_now_feeding s_now_large s_now_dead s_now_dayNumber), (ad 2, stE s_trial_people s_trial_kinds s_trial_deeds (s_now_feeding ||| a2) s_trial_large s_trial_dead s_trial_dayNumber)] := hD
  refine lv_aload_n hx hb dX3_savesByFeeding_16 rfl (lv_at hl 0 rfl) ?_
  refine va_get (D := gD G) (ci := 3) (v := .ref (ad 2)) (C := RX3) (T := TX3) (N := 11) hx hb hts hi_X3 hown hK.1 hP 0 rfl rfl 2 (by decide) kl_23 (fun _ h9 => h9) rfl dX3_savesByFeeding_17 ?_
  refine lv_aload_n hx hb dX3_savesByFeeding_20 rfl (lv_at hl 0 rfl) ?_
  refine va_get (D := gD G) (ci := 3) (v := .ref (ad 2)) (C := RX3) (T := TX3) (N := 11) hx hb hts hi_X3 hown hK.1 hP 0 rfl rfl 2 (by decide) kl_23 (fun _ h9 => h9) rfl dX3_savesByFeeding_21 ?_
  refine va_getN (D := gD G) (ci := 1) (v := .int s_trial_large) (C := RX1) (T := TX1) (N := 7) hx hb hts hi_X1 hown hK.1 hP 2 rfl rfl 4 (by decide) (nf_X3_72 hK.2) (fun _ h9 => h9) rfl dX3_savesByFeeding_24 ?_
  obtain ⟨o1, hc2, hf⟩ := bindS hf
  refine ro_i (va_runVN (C := RX1) (As := [.int s_trial_large]) (rest := []) ⟨hx, hb, hml, hown, hts⟩ (ctX1_leftBehind l G (ad 2) s_trial_people s_trial_kinds s_trial_deeds (s_now_feeding ||| a2) s_trial_large s_trial_dead s_trial_dayNumber s_trial_large o1 hc2) ⟨va_cnB 1 hts gX3_savesByFeeding_X1_leftBehind_n158 rfl rfl rfl (nm_X3_158 hK.2) (hts (.initialized RX1) (by decide +kernel)) (by decide +kernel) ⟨Nat.le_of_ble_eq_true rfl, Nat.le_of_ble_eq_true rfl⟩, hts (.instanceMethod yX1_leftBehind) (by decide +kernel), hts (.selects RX1 yX1_leftBehind yX1_leftBehind) (by decide +kernel)⟩ (preR_V (q0 := 0) (ci := 1) (hP.sub (ws' := [(ad 2, stE s_trial_people s_trial_kinds s_trial_deeds (s_now_feeding ||| a2) s_trial_large s_trial_dead s_trial_dayNumber)]) [2] rfl) hK rfl rfl) rfl rfl hl.1 rfl (lv_room (Nat.le_of_ble_eq_true rfl)) dX3_savesByFeeding_27 ⟨Nat.zero_le _, Nat.zero_le _⟩) hS hP (fun H locs hP hS => ?_)
  refine lv_iload_n hx hb dX3_savesByFeeding_30 rfl (lv_at hl 1 rfl) ?_
  obtain ⟨o3, hc4, hf⟩ := bindS hf
  refine ro_i (va_runS (As := [.int o1, .int a1]) (rest := []) ⟨hx, hb, hml, hown, hts⟩ (ctX3_isIn l G o1 a1 o3 hc4) (va_cwS 2 hts gX3_savesByFeeding_X3_isIn rfl rfl rfl (by decide +kernel) ⟨Nat.le_of_ble_eq_true rfl, Nat.le_of_ble_eq_true rfl⟩) (preR_S (hP.sub (ws' := []) [] rfl) hK) rfl rfl hl.1 rfl (lv_room (Nat.le_of_ble_eq_true rfl)) dX3_savesByFeeding_31 ⟨Nat.zero_le _, Nat.zero_le _⟩) hS hP (fun H locs hP hS => ?_)
  obtain ⟨hzr, hf⟩ := zkS hf
  have hv := Option.some.inj hf
  exact hret _ _ _ _ _ (by rw [← hv]; exact hP) hS hzr (by rw [← hv]) dX3_savesByFeeding_34
def fX3_onePair_2 (s_now_people : Int32) (s_now_feeding : Int64) (s_trial_people : Int32) (s_trial_kinds : Int32) (s_trial_deeds : Int32) (s_trial_large : Int32) (a1 : Int32) : Nat → Int32 → Int64 → Option (Int32 × Int64)
  | 0, _, _ => none
  | n + 1, x2, s_trial_feeding => (if (10 * s_now_people) ≤ x2 then some ((-9), s_trial_feeding) else (fX3_newPair s_now_people s_now_feeding x2).bind fun o2 => ((if (lg_cmp o2 0) = 0 then (fX3_onePair_2 s_now_people s_now_feeding s_trial_people s_trial_kinds s_trial_deeds s_trial_large a1 n (x2 + 1) s_trial_feeding) else (fX3_savesByFeeding s_now_feeding s_trial_people s_trial_kinds s_trial_deeds s_trial_feeding s_trial_large a1 o2).bind fun o5 => ((if o5.1 = 0 then (fX3_onePair_2 s_now_people s_now_feeding s_trial_people s_trial_kinds s_trial_deeds s_trial_large a1 n (x2 + 1) o5.2) else some (x2, o5.2))))))
def fX3_onePair (s_now_people : Int32) (s_now_feeding : Int64) (s_trial_people : Int32) (s_trial_kinds : Int32) (s_trial_deeds : Int32) (s_trial_feeding : Int64) (s_trial_large : Int32) (a1 : Int32) : Option (Int32 × Int64) :=
  (fX3_onePair_2 s_now_people s_now_feeding s_trial_people s_trial_kinds s_trial_deeds s_trial_large a1 72 0 s_trial_feeding)
set_option maxHeartbeats 4000000 in
set_option maxRecDepth 100000 in
theorem ctX3_onePair (l : Launch) (G : GG) (h0 : Nat) (ad : Nat → Nat) (s_keptSlots : Int32) (s_seenCount : Int32) (s_seed : Int64) (s_now_people : Int32) (s_now_kinds : Int32) (s_now_deeds : Int32) (s_now_feeding : Int64) (s_now_large : Int32) (s_now_dead : Int32) (s_now_dayNumber : Int32) (s_trial_people : Int32) (s_trial_kinds : Int32) (s_trial_deeds : Int32) (s_trial_feeding : Int64) (s_trial_large : Int32) (s_trial_dead : Int32) (s_trial_dayNumber : Int32) (a1 : Int32) (out : Int32 × Int64) (hf : fX3_onePair s_now_people s_now_feeding s_trial_people s_trial_kinds s_trial_deeds s_trial_feeding s_trial_large a1 = some out) : Met l yX3_onePair wsX3_onePair ({ frames := 5, cells := 0, slots := 0, locals := 116 }) (PcW G [.ref h0, .int a1] [(h0, xoE ad s_keptSlots s_seenCount s_seed), (ad 1, stE s_now_people s_now_kinds s_now_deeds s_now_feeding s_now_large s_now_dead s_now_dayNumber), (ad 2, stE s_trial_people s_trial_kinds s_trial_deeds s_trial_feeding s_trial_large s_trial_dead s_trial_dayNumber)]) (QiW G [(h0, xoE ad s_keptSlots s_seenCount s_seed), (ad 1, stE s_now_people s_now_kinds s_now_deeds s_now_feeding s_now_large s_now_dead s_now_dayNumber), (ad 2, stE s_trial_people s_trial_kinds s_trial_deeds s_trial_feeding s_trial_large s_trial_dead s_trial_dayNumber)] [(h0, xoE ad s_keptSlots s_seenCount s_seed), (ad 1, stE s_now_people s_now_kinds s_now_deeds s_now_feeding s_now_large s_now_dead s_now_dayNumber), (ad 2, stE s_trial_people s_trial_kinds s_trial_deeds out.2 s_trial_large s_trial_dead s_trial_dayNumber)] out.1) 0 0 (inA [(h0, xoE ad s_keptSlots s_seenCount s_seed), (ad 1, stE s_now_people s_now_kinds s_now_deeds s_now_feeding s_now_large s_now_dead s_now_dayNumber), (ad 2, stE s_trial_people s_trial_kinds s_trial_deeds s_trial_feeding s_trial_large s_trial_dead s_trial_dayNumber)]) := by
  refine mk_Wi (cc := cX3_onePair) (maxL := 5) (by decide) rfl (Nat.le_of_ble_eq_true rfl) ?_
  intro p e s m args below meth c Q ls A S hP hK hD hl hret
  obtain ⟨hx, hb, hml, hown, hts⟩ := S
  have hown : s.vm.findClass RX3 = some m.cls := hown
  have kl_19 := hts (.fieldLink RX3 19 "ArrestOrder" "now" "LArrestOrder$Standing;") (by decide +kernel)
  have hi_X3 : ∀ w ∈ wsX30, w ∈ wsX3_onePair := fun _ h => List.mem_cons_of_mem _ (List.mem_append_left _ (List.mem_append_right _ h))
  have hi_X1 : ∀ w ∈ wsX10, w ∈ wsX3_onePair := fun _ h => List.mem_cons_of_mem _ (List.mem_append_right _ h)
  have hS : va_S A s.heap s.heap [] := va_S.rf
  have hl : lv_has ls 5 [(0, .ref h0), (1, .int a1)] := hl
  have hC2 : ∀ (n : Nat) (x2 : Int32) (s_trial_feeding : Int64) (H : Heap) (locs : List Loc) (ls : Array Slot), va_P (gD G) vwCl [(h0, xoE ad s_keptSlots s_seenCount s_seed), (ad 1, stE s_now_people s_now_kinds s_now_deeds s_now_feeding s_now_large s_now_dead s_now_dayNumber), (ad 2, stE s_trial_people s_trial_kinds s_trial_deeds s_trial_feeding s_trial_large s_trial_dead s_trial_dayNumber)] H → va_D A [(h0, xoE ad s_keptSlots s_seenCount s_seed), (ad 1, stE s_now_people s_now_kinds s_now_deeds s_now_feeding s_now_large s_now_dead s_now_dayNumber), (ad 2, stE s_trial_people s_trial_kinds s_trial_deeds s_trial_feeding s_trial_large s_trial_dead s_trial_dayNumber)] → va_S A s.heap H locs → lv_has ls 5 [(0, .ref h0), (1, .int a1), (2, .int x2)] → fX3_onePair_2 s_now_people s_now_feeding s_trial_people s_trial_kinds s_trial_deeds s_trial_large a1 n x2 s_trial_feeding = some out → W p l e ({ frames := 5, cells := 0, slots := 0, locals := 116 }) s m args below meth c H locs 0 0 Q (F0 m 2 ls []) := by
    intro n2
    induction n2 with
    | zero => intro x2 s_trial_feeding H locs ls hP hD hS hl hf; exact absurd (show none = some out from hf) (fun z => by cases z)
    | succ n2 ih2 =>
      intro x2 s_trial_feeding H locs ls hP hD hS hl hf
      refine lv_iload_n hx hb dX3_onePair_2 rfl (lv_at hl 2 rfl) ?_
      refine lv_bipush (v := 10) hx hb dX3_onePair_3 (by decide) ?_
      refine lv_aload_n hx hb dX3_onePair_5 rfl (lv_at hl 0 rfl) ?_
      refine va_get (D := gD G) (ci := 3) (v := .ref (ad 1)) (C := RX3) (T := TX3) (N := 11) hx hb hts hi_X3 hown hK.1 hP 0 rfl rfl 1 (by decide) kl_19 (fun _ h9 => h9) rfl dX3_onePair_6 ?_
      refine va_getN (D := gD G) (ci := 1) (v := .int s_now_people) (C := RX1) (T := TX1) (N := 7) hx hb hts hi_X1 hown hK.1 hP 1 rfl rfl 0 (by decide) (nf_X3_69 hK.2) (fun _ h9 => h9) rfl dX3_onePair_9 ?_
      refine lv_imul hx hb dX3_onePair_12 ?_
      refine lv_icmp_ge (tgt := 45) hx hb dX3_onePair_13 (by decide) (fun c1 => ?_) (fun c1 => ?_)
      · have hf := iteT hf c1
        refine lv_bipush (v := (-9)) hx hb dX3_onePair_45 (by decide) ?_
        have hv := Option.some.inj hf
        exact hret _ _ _ _ _ (by rw [← hv]; exact hP) hS (by rw [← hv]) dX3_onePair_47
      · have hf := iteF hf c1
        refine lv_aload_n hx hb dX3_onePair_16 rfl (lv_at hl 0 rfl) ?_
        refine lv_iload_n hx hb dX3_onePair_17 rfl (lv_at hl 2 rfl) ?_
        obtain ⟨o2, hc3, hf⟩ := bindS hf
        refine ro_l (va_runV (C := RX3) (As := [.int x2]) (rest := []) ⟨hx, hb, hml, hown, hts⟩ (ctX3_newPair l G h0 ad s_keptSlots s_seenCount s_seed s_now_people s_now_kinds s_now_deeds s_now_feeding s_now_large s_now_dead s_now_dayNumber x2 o2 hc3) (cwV 1 hts gX3_onePair_X3_newPair rfl rfl rfl (by decide +kernel) ⟨Nat.le_of_ble_eq_true rfl, Nat.le_of_ble_eq_true rfl⟩) (preR_V (q0 := 0) (ci := 3) (hP.sub (ws' := [(h0, xoE ad s_keptSlots s_seenCount s_seed), (ad 1, stE s_now_people s_now_kinds s_now_deeds s_now_feeding s_now_large s_now_dead s_now_dayNumber)]) [0, 1] rfl) hK rfl rfl) rfl rfl hl.1 rfl (lv_room (Nat.le_of_ble_eq_true rfl)) dX3_onePair_18 ⟨Nat.zero_le _, Nat.zero_le _⟩) hS hP (fun H locs hP hS => ?_)
        refine lv_lstore_n (lv' := [(3, .long o2), (0, .ref h0), (1, .int a1), (2, .int x2)]) hx hb dX3_onePair_21 rfl hl (by decide) rfl (fun ls hl => ?_)
        refine lv_lload_n hx hb dX3_onePair_22 rfl (lv_at hl 0 rfl) ?_
        refine lv_lconst (v := 0) hx hb dX3_onePair_23 (by decide) ?_
        refine W.lcmp hx hb dX3_onePair_24 ?_
        refine lv_if_eq (tgt := 39) hx hb dX3_onePair_25 (by decide) (fun c4 => ?_) (fun c4 => ?_)
        · have hf := iteT hf c4
          refine lv_iinc (v := (x2 + 1)) (lv' := [(2, .int (x2 + 1)), (3, .long o2), (0, .ref h0), (1, .int a1)]) hx hb dX3_onePair_39 hl (k := 3) rfl rfl (by decide) rfl (fun ls hl => ?_)
          refine lv_goto (tgt := 2) hx hb dX3_onePair_42 (by decide) ?_
          exact ih2 (x2 + 1) s_trial_feeding _ _ _ hP hD hS (lv_sub hl [2, 3, 0] rfl) hf
        · have hf := iteF hf c4
          refine lv_aload_n hx hb dX3_onePair_28 rfl (lv_at hl 1 rfl) ?_
          refine lv_iload_n hx hb dX3_onePair_29 rfl (lv_at hl 2 rfl) ?_
          refine lv_lload_n hx hb dX3_onePair_30 rfl (lv_at hl 0 rfl) ?_
          obtain ⟨o5, hc6, hf⟩ := bindS hf
          refine rw_i (va_runV (C := RX3) (As := [.int a1, .long o2]) (rest := []) ⟨hx, hb, hml, hown, hts⟩ (ctX3_savesByFeeding l G h0 ad s_keptSlots s_seenCount s_seed s_now_people s_now_kinds s_now_deeds s_now_feeding s_now_large s_now_dead s_now_dayNumber s_trial_people s_trial_kinds s_trial_deeds s_trial_feeding s_trial_large s_trial_dead s_trial_dayNumber a1 o2 o5 hc6) (cwV 2 hts gX3_onePair_X3_savesByFeeding rfl rfl rfl (by decide +kernel) ⟨Nat.le_of_ble_eq_true rfl, Nat.le_of_ble_eq_true rfl⟩) (preW_V (q0 := 0) (ci := 3) (hP.sub (ws' := [(h0, xoE ad s_keptSlots s_seenCount s_seed), (ad 1, stE s_now_people s_now_kinds s_now_deeds s_now_feeding s_now_large s_now_dead s_now_dayNumber), (ad 2, stE s_trial_people s_trial_kinds s_trial_deeds s_trial_feeding s_trial_large s_trial_dead s_trial_dayNumber)]) [0, 1, 2] rfl) (hD.sub (ws' := [(h0, xoE ad s_keptSlots s_seenCount s_seed), (ad 1, stE s_now_people s_now_kinds s_now_deeds s_now_feeding s_now_large s_now_dead s_now_dayNumber), (ad 2, stE s_trial_people s_trial_kinds s_trial_deeds s_trial_feeding s_trial_large s_trial_dead s_trial_dayNumber)]) [0, 1, 2] (by decide) rfl) hK rfl rfl) rfl rfl hl.1 rfl (lv_room (Nat.le_of_ble_eq_true rfl)) dX3_onePair_31 ⟨Nat.zero_le _, Nat.zero_le _⟩) hS hP hD [0, 1, 2] rfl rfl rfl (fun H locs hP hD hS => ?_)
          have hP : va_P (gD G) vwCl [(h0, xoE ad s_keptSlots s_seenCount s_seed), (ad 1, stE s_now_people s_now_kinds s_now_deeds s_now_feeding s_now_large s_now_dead s_now_dayNumber), (ad 2, stE s_trial_people s_trial_kinds s_trial_deeds o5.2 s_trial_large s_trial_dead s_trial_dayNumber)] H := hP
          have hD : va_D A [(h0, xoE ad s_keptSlots s_seenCount s_seed), (ad 1, stE s_now_people s_now_kinds s_now_deeds s_now_feeding s_now_large s_now_dead s_now_dayNumber), (ad 2, stE s_trial_people s_trial_kinds s_trial_deeds o5.2 s_trial_large s_trial_dead s_trial_dayNumber)] := hD
          refine lv_if_eq (tgt := 39) hx hb dX3_onePair_34 (by decide) (fun c7 => ?_) (fun c7 => ?_)
          · have hf := iteT hf c7
            refine lv_iinc (v := (x2 + 1)) (lv' := [(2, .int (x2 + 1)), (3, .long o2), (0, .ref h0), (1, .int a1)]) hx hb dX3_onePair_39 hl (k := 3) rfl rfl (by decide) rfl (fun ls hl => ?_)
            refine lv_goto (tgt := 2) hx hb dX3_onePair_42 (by decide) ?_
            exact ih2 (x2 + 1) o5.2 _ _ _ hP hD hS (lv_sub hl [2, 3, 0] rfl) hf
          · have hf := iteF hf c7
            refine lv_iload_n hx hb dX3_onePair_37 rfl (lv_at hl 3 rfl) ?_
            have hv := Option.some.inj hf
            exact hret _ _ _ _ _ (by rw [← hv]; exact hP) hS (by rw [← hv]) dX3_onePair_38
  refine lv_iconst (v := 0) hx hb dX3_onePair_0 (by decide) ?_
  refine lv_istore_n (lv' := [(2, .int 0), (0, .ref h0), (1, .int a1)]) hx hb dX3_onePair_1 rfl hl (by decide) rfl (fun ls hl => ?_)
  exact hC2 72 0 s_trial_feeding _ _ _ hP hD hS (lv_sub hl [1, 2, 0] rfl) hf
def fX3_twoPairs_30 (s_now_people : Int32) (s_now_feeding : Int64) (s_trial_people : Int32) (s_trial_kinds : Int32) (s_trial_deeds : Int32) (s_trial_large : Int32) (a1 : Int32) (k13 : Int32 → Int32 → Int64 → Option (Int32 × Int64)) : Nat → Int32 → Int32 → Int64 → Int32 → Int64 → Option (Int32 × Int64)
  | 0, _, _, _, _, _ => none
  | n + 1, x2, x3, x4, x6, s_trial_feeding => (if (lg_cmp x4 0) = 0 then (k13 x2 (x3 + 1) s_trial_feeding) else (if x2 ≤ x6 then (k13 x2 (x3 + 1) s_trial_feeding) else (fX3_newPair s_now_people s_now_feeding x6).bind fun o6 => ((if (lg_cmp o6 0) = 0 then (fX3_twoPairs_30 s_now_people s_now_feeding s_trial_people s_trial_kinds s_trial_deeds s_trial_large a1 k13 n x2 x3 x4 (x6 + 1) s_trial_feeding) else (fX3_savesByFeeding s_now_feeding s_trial_people s_trial_kinds s_trial_deeds s_trial_feeding s_trial_large a1 (x4 ||| o6)).bind fun o9 => ((if o9.1 = 0 then (fX3_twoPairs_30 s_now_people s_now_feeding s_trial_people s_trial_kinds s_trial_deeds s_trial_large a1 k13 n x2 x3 x4 (x6 + 1) o9.2) else some (((100 * x3) + x6), o9.2)))))))
def fX3_twoPairs_13 (s_now_people : Int32) (s_now_feeding : Int64) (s_trial_people : Int32) (s_trial_kinds : Int32) (s_trial_deeds : Int32) (s_trial_large : Int32) (a1 : Int32) : Nat → Int32 → Int32 → Int64 → Option (Int32 × Int64)
  | 0, _, _, _ => none
  | n + 1, x2, x3, s_trial_feeding => (if x2 ≤ x3 then some ((-9), s_trial_feeding) else (fX3_newPair s_now_people s_now_feeding x3).bind fun o2 => ((fX3_twoPairs_30 s_now_people s_now_feeding s_trial_people s_trial_kinds s_trial_deeds s_trial_large a1 (fun x2 x3 s_trial_feeding => fX3_twoPairs_13 s_now_people s_now_feeding s_trial_people s_trial_kinds s_trial_deeds s_trial_large a1 n x2 x3 s_trial_feeding) 72 x2 x3 o2 (x3 + 1) s_trial_feeding)))
def fX3_twoPairs (s_now_people : Int32) (s_now_feeding : Int64) (s_trial_people : Int32) (s_trial_kinds : Int32) (s_trial_deeds : Int32) (s_trial_feeding : Int64) (s_trial_large : Int32) (a1 : Int32) : Option (Int32 × Int64) :=
  (fX3_twoPairs_13 s_now_people s_now_feeding s_trial_people s_trial_kinds s_trial_deeds s_trial_large a1 72 (10 * s_now_people) 0 s_trial_feeding)
set_option maxHeartbeats 4000000 in
set_option maxRecDepth 100000 in
theorem ctX3_twoPairs (l : Launch) (G : GG) (h0 : Nat) (ad : Nat → Nat) (s_keptSlots : Int32) (s_seenCount : Int32) (s_seed : Int64) (s_now_people : Int32) (s_now_kinds : Int32) (s_now_deeds : Int32) (s_now_feeding : Int64) (s_now_large : Int32) (s_now_dead : Int32) (s_now_dayNumber : Int32) (s_trial_people : Int32) (s_trial_kinds : Int32) (s_trial_deeds : Int32) (s_trial_feeding : Int64) (s_trial_large : Int32) (s_trial_dead : Int32) (s_trial_dayNumber : Int32) (a1 : Int32) (out : Int32 × Int64) (hf : fX3_twoPairs s_now_people s_now_feeding s_trial_people s_trial_kinds s_trial_deeds s_trial_feeding s_trial_large a1 = some out) : Met l yX3_twoPairs wsX3_twoPairs ({ frames := 5, cells := 0, slots := 0, locals := 116 }) (PcW G [.ref h0, .int a1] [(h0, xoE ad s_keptSlots s_seenCount s_seed), (ad 1, stE s_now_people s_now_kinds s_now_deeds s_now_feeding s_now_large s_now_dead s_now_dayNumber), (ad 2, stE s_trial_people s_trial_kinds s_trial_deeds s_trial_feeding s_trial_large s_trial_dead s_trial_dayNumber)]) (QiW G [(h0, xoE ad s_keptSlots s_seenCount s_seed), (ad 1, stE s_now_people s_now_kinds s_now_deeds s_now_feeding s_now_large s_now_dead s_now_dayNumber), (ad 2, stE s_trial_people s_trial_kinds s_trial_deeds s_trial_feeding s_trial_large s_trial_dead s_trial_dayNumber)] [(h0, xoE ad s_keptSlots s_seenCount s_seed), (ad 1, stE s_now_people s_now_kinds s_now_deeds s_now_feeding s_now_large s_now_dead s_now_dayNumber), (ad 2, stE s_trial_people s_trial_kinds s_trial_deeds out.2 s_trial_large s_trial_dead s_trial_dayNumber)] out.1) 0 0 (inA [(h0, xoE ad s_keptSlots s_seenCount s_seed), (ad 1, stE s_now_people s_now_kinds s_now_deeds s_now_feeding s_now_large s_now_dead s_now_dayNumber), (ad 2, stE s_trial_people s_trial_kinds s_trial_deeds s_trial_feeding s_trial_large s_trial_dead s_trial_dayNumber)]) := by
  refine mk_Wi (cc := cX3_twoPairs) (maxL := 9) (by decide) rfl (Nat.le_of_ble_eq_true rfl) ?_
  intro p e s m args below meth c Q ls A S hP hK hD hl hret
  obtain ⟨hx, hb, hml, hown, hts⟩ := S
  have hown : s.vm.findClass RX3 = some m.cls := hown
  have kl_19 := hts (.fieldLink RX3 19 "ArrestOrder" "now" "LArrestOrder$Standing;") (by decide +kernel)
  have hi_X3 : ∀ w ∈ wsX30, w ∈ wsX3_twoPairs := fun _ h => List.mem_cons_of_mem _ (List.mem_append_left _ (List.mem_append_right _ h))
  have hi_X1 : ∀ w ∈ wsX10, w ∈ wsX3_twoPairs := fun _ h => List.mem_cons_of_mem _ (List.mem_append_right _ h)
  have hS : va_S A s.heap s.heap [] := va_S.rf
  have hl : lv_has ls 9 [(0, .ref h0), (1, .int a1)] := hl
  have hC13 : ∀ (n : Nat) (x2 : Int32) (x3 : Int32) (s_trial_feeding : Int64) (H : Heap) (locs : List Loc) (ls : Array Slot), va_P (gD G) vwCl [(h0, xoE ad s_keptSlots s_seenCount s_seed), (ad 1, stE s_now_people s_now_kinds s_now_deeds s_now_feeding s_now_large s_now_dead s_now_dayNumber), (ad 2, stE s_trial_people s_trial_kinds s_trial_deeds s_trial_feeding s_trial_large s_trial_dead s_trial_dayNumber)] H → va_D A [(h0, xoE ad s_keptSlots s_seenCount s_seed), (ad 1, stE s_now_people s_now_kinds s_now_deeds s_now_feeding s_now_large s_now_dead s_now_dayNumber), (ad 2, stE s_trial_people s_trial_kinds s_trial_deeds s_trial_feeding s_trial_large s_trial_dead s_trial_dayNumber)] → va_S A s.heap H locs → lv_has ls 9 [(0, .ref h0), (1, .int a1), (2, .int x2), (3, .int x3)] → fX3_twoPairs_13 s_now_people s_now_feeding s_trial_people s_trial_kinds s_trial_deeds s_trial_large a1 n x2 x3 s_trial_feeding = some out → W p l e ({ frames := 5, cells := 0, slots := 0, locals := 116 }) s m args below meth c H locs 0 0 Q (F0 m 13 ls []) := by
    intro n13
    induction n13 with
    | zero => intro x2 x3 s_trial_feeding H locs ls hP hD hS hl hf; exact absurd (show none = some out from hf) (fun z => by cases z)
    | succ n13 ih13 =>
      have hC30 : ∀ (n : Nat) (x2 : Int32) (x3 : Int32) (x4 : Int64) (x6 : Int32) (s_trial_feeding : Int64) (H : Heap) (locs : List Loc) (ls : Array Slot), va_P (gD G) vwCl [(h0, xoE ad s_keptSlots s_seenCount s_seed), (ad 1, stE s_now_people s_now_kinds s_now_deeds s_now_feeding s_now_large s_now_dead s_now_dayNumber), (ad 2, stE s_trial_people s_trial_kinds s_trial_deeds s_trial_feeding s_trial_large s_trial_dead s_trial_dayNumber)] H → va_D A [(h0, xoE ad s_keptSlots s_seenCount s_seed), (ad 1, stE s_now_people s_now_kinds s_now_deeds s_now_feeding s_now_large s_now_dead s_now_dayNumber), (ad 2, stE s_trial_people s_trial_kinds s_trial_deeds s_trial_feeding s_trial_large s_trial_dead s_trial_dayNumber)] → va_S A s.heap H locs → lv_has ls 9 [(0, .ref h0), (1, .int a1), (2, .int x2), (3, .int x3), (4, .long x4), (6, .int x6)] → fX3_twoPairs_30 s_now_people s_now_feeding s_trial_people s_trial_kinds s_trial_deeds s_trial_large a1 (fun x2 x3 s_trial_feeding => fX3_twoPairs_13 s_now_people s_now_feeding s_trial_people s_trial_kinds s_trial_deeds s_trial_large a1 n13 x2 x3 s_trial_feeding) n x2 x3 x4 x6 s_trial_feeding = some out → W p l e ({ frames := 5, cells := 0, slots := 0, locals := 116 }) s m args below meth c H locs 0 0 Q (F0 m 30 ls []) := by
        intro n30
        induction n30 with
        | zero => intro x2 x3 x4 x6 s_trial_feeding H locs ls hP hD hS hl hf; exact absurd (show none = some out from hf) (fun z => by cases z)
        | succ n30 ih30 =>
          intro x2 x3 x4 x6 s_trial_feeding H locs ls hP hD hS hl hf
          refine lv_lload hx hb dX3_twoPairs_30 (lv_at hl 4 rfl) ?_
          refine lv_lconst (v := 0) hx hb dX3_twoPairs_32 (by decide) ?_
          refine W.lcmp hx hb dX3_twoPairs_33 ?_
          refine lv_if_eq (tgt := 85) hx hb dX3_twoPairs_34 (by decide) (fun c4 => ?_) (fun c4 => ?_)
          · have hf := iteT hf c4
            refine lv_iinc (v := (x3 + 1)) (lv' := [(3, .int (x3 + 1)), (0, .ref h0), (1, .int a1), (2, .int x2), (4, .long x4), (6, .int x6)]) hx hb dX3_twoPairs_85 hl (k := 3) rfl rfl (by decide) rfl (fun ls hl => ?_)
            refine lv_goto (tgt := 13) hx hb dX3_twoPairs_88 (by decide) ?_
            exact ih13 x2 (x3 + 1) s_trial_feeding _ _ _ hP hD hS (lv_sub hl [1, 2, 3, 0] rfl) hf
          · have hf := iteF hf c4
            refine lv_iload hx hb dX3_twoPairs_37 (lv_at hl 5 rfl) ?_
            refine lv_iload_n hx hb dX3_twoPairs_39 rfl (lv_at hl 2 rfl) ?_
            refine lv_icmp_ge (tgt := 85) hx hb dX3_twoPairs_40 (by decide) (fun c5 => ?_) (fun c5 => ?_)
            · have hf := iteT hf c5
              refine lv_iinc (v := (x3 + 1)) (lv' := [(3, .int (x3 + 1)), (0, .ref h0), (1, .int a1), (2, .int x2), (4, .long x4), (6, .int x6)]) hx hb dX3_twoPairs_85 hl (k := 3) rfl rfl (by decide) rfl (fun ls hl => ?_)
              refine lv_goto (tgt := 13) hx hb dX3_twoPairs_88 (by decide) ?_
              exact ih13 x2 (x3 + 1) s_trial_feeding _ _ _ hP hD hS (lv_sub hl [1, 2, 3, 0] rfl) hf
            · have hf := iteF hf c5
              refine lv_aload_n hx hb dX3_twoPairs_43 rfl (lv_at hl 0 rfl) ?_
              refine lv_iload hx hb dX3_twoPairs_44 (lv_at hl 5 rfl) ?_
              obtain ⟨o6, hc7, hf⟩ := bindS hf
              refine ro_l (va_runV (C := RX3) (As := [.int x6]) (rest := []) ⟨hx, hb, hml, hown, hts⟩ (ctX3_newPair l G h0 ad s_keptSlots s_seenCount s_seed s_now_people s_now_kinds s_now_deeds s_now_feeding s_now_large s_now_dead s_now_dayNumber x6 o6 hc7) (cwV 1 hts gX3_twoPairs_X3_newPair rfl rfl rfl (by decide +kernel) ⟨Nat.le_of_ble_eq_true rfl, Nat.le_of_ble_eq_true rfl⟩) (preR_V (q0 := 0) (ci := 3) (hP.sub (ws' := [(h0, xoE ad s_keptSlots s_seenCount s_seed), (ad 1, stE s_now_people s_now_kinds s_now_deeds s_now_feeding s_now_large s_now_dead s_now_dayNumber)]) [0, 1] rfl) hK rfl rfl) rfl rfl hl.1 rfl (lv_room (Nat.le_of_ble_eq_true rfl)) dX3_twoPairs_46 ⟨Nat.zero_le _, Nat.zero_le _⟩) hS hP (fun H locs hP hS => ?_)
              refine lv_lstore (lv' := [(7, .long o6), (0, .ref h0), (1, .int a1), (2, .int x2), (3, .int x3), (4, .long x4), (6, .int x6)]) hx hb dX3_twoPairs_49 hl (by decide) rfl (fun ls hl => ?_)
              refine lv_lload hx hb dX3_twoPairs_51 (lv_at hl 0 rfl) ?_
              refine lv_lconst (v := 0) hx hb dX3_twoPairs_53 (by decide) ?_
              refine W.lcmp hx hb dX3_twoPairs_54 ?_
              refine lv_if_eq (tgt := 79) hx hb dX3_twoPairs_55 (by decide) (fun c8 => ?_) (fun c8 => ?_)
              · have hf := iteT hf c8
                refine lv_iinc (v := (x6 + 1)) (lv' := [(6, .int (x6 + 1)), (7, .long o6), (0, .ref h0), (1, .int a1), (2, .int x2), (3, .int x3), (4, .long x4)]) hx hb dX3_twoPairs_79 hl (k := 6) rfl rfl (by decide) rfl (fun ls hl => ?_)
                refine lv_goto (tgt := 30) hx hb dX3_twoPairs_82 (by decide) ?_
                exact ih30 x2 x3 x4 (x6 + 1) s_trial_feeding _ _ _ hP hD hS (lv_sub hl [2, 3, 4, 5, 6, 0] rfl) hf
              · have hf := iteF hf c8
                refine lv_aload_n hx hb dX3_twoPairs_58 rfl (lv_at hl 1 rfl) ?_
                refine lv_iload_n hx hb dX3_twoPairs_59 rfl (lv_at hl 2 rfl) ?_
                refine lv_lload hx hb dX3_twoPairs_60 (lv_at hl 5 rfl) ?_
                refine lv_lload hx hb dX3_twoPairs_62 (lv_at hl 0 rfl) ?_
                refine lv_lor hx hb dX3_twoPairs_64 ?_
                obtain ⟨o9, hc10, hf⟩ := bindS hf
                refine rw_i (va_runV (C := RX3) (As := [.int a1, .long (x4 ||| o6)]) (rest := []) ⟨hx, hb, hml, hown, hts⟩ (ctX3_savesByFeeding l G h0 ad s_keptSlots s_seenCount s_seed s_now_people s_now_kinds s_now_deeds s_now_feeding s_now_large s_now_dead s_now_dayNumber s_trial_people s_trial_kinds s_trial_deeds s_trial_feeding s_trial_large s_trial_dead s_trial_dayNumber a1 (x4 ||| o6) o9 hc10) (cwV 2 hts gX3_twoPairs_X3_savesByFeeding rfl rfl rfl (by decide +kernel) ⟨Nat.le_of_ble_eq_true rfl, Nat.le_of_ble_eq_true rfl⟩) (preW_V (q0 := 0) (ci := 3) (hP.sub (ws' := [(h0, xoE ad s_keptSlots s_seenCount s_seed), (ad 1, stE s_now_people s_now_kinds s_now_deeds s_now_feeding s_now_large s_now_dead s_now_dayNumber), (ad 2, stE s_trial_people s_trial_kinds s_trial_deeds s_trial_feeding s_trial_large s_trial_dead s_trial_dayNumber)]) [0, 1, 2] rfl) (hD.sub (ws' := [(h0, xoE ad s_keptSlots s_seenCount s_seed), (ad 1, stE s_now_people s_now_kinds s_now_deeds s_now_feeding s_now_large s_now_dead s_now_dayNumber), (ad 2, stE s_trial_people s_trial_kinds s_trial_deeds s_trial_feeding s_trial_large s_trial_dead s_trial_dayNumber)]) [0, 1, 2] (by decide) rfl) hK rfl rfl) rfl rfl hl.1 rfl (lv_room (Nat.le_of_ble_eq_true rfl)) dX3_twoPairs_65 ⟨Nat.zero_le _, Nat.zero_le _⟩) hS hP hD [0, 1, 2] rfl rfl rfl (fun H locs hP hD hS => ?_)
                have hP : va_P (gD G) vwCl [(h0, xoE ad s_keptSlots s_seenCount s_seed), (ad 1, stE s_now_people s_now_kinds s_now_deeds s_now_feeding s_now_large s_now_dead s_now_dayNumber), (ad 2, stE s_trial_people s_trial_kinds s_trial_deeds o9.2 s_trial_large s_trial_dead s_trial_dayNumber)] H := hP
                have hD : va_D A [(h0, xoE ad s_keptSlots s_seenCount s_seed), (ad 1, stE s_now_people s_now_kinds s_now_deeds s_now_feeding s_now_large s_now_dead s_now_dayNumber), (ad 2, stE s_trial_people s_trial_kinds s_trial_deeds o9.2 s_trial_large s_trial_dead s_trial_dayNumber)] := hD
                refine lv_if_eq (tgt := 79) hx hb dX3_twoPairs_68 (by decide) (fun c11 => ?_) (fun c11 => ?_)
                · have hf := iteT hf c11
                  refine lv_iinc (v := (x6 + 1)) (lv' := [(6, .int (x6 + 1)), (7, .long o6), (0, .ref h0), (1, .int a1), (2, .int x2), (3, .int x3), (4, .long x4)]) hx hb dX3_twoPairs_79 hl (k := 6) rfl rfl (by decide) rfl (fun ls hl => ?_)
                  refine lv_goto (tgt := 30) hx hb dX3_twoPairs_82 (by decide) ?_
                  exact ih30 x2 x3 x4 (x6 + 1) o9.2 _ _ _ hP hD hS (lv_sub hl [2, 3, 4, 5, 6, 0] rfl) hf
                · have hf := iteF hf c11
                  refine lv_bipush (v := 100) hx hb dX3_twoPairs_71 (by decide) ?_
                  refine lv_iload_n hx hb dX3_twoPairs_73 rfl (lv_at hl 4 rfl) ?_
                  refine lv_imul hx hb dX3_twoPairs_74 ?_
                  refine lv_iload hx hb dX3_twoPairs_75 (lv_at hl 6 rfl) ?_
                  refine lv_iadd hx hb dX3_twoPairs_77 ?_
                  have hv := Option.some.inj hf
                  exact hret _ _ _ _ _ (by rw [← hv]; exact hP) hS (by rw [← hv]) dX3_twoPairs_78
      intro x2 x3 s_trial_feeding H locs ls hP hD hS hl hf
      refine lv_iload_n hx hb dX3_twoPairs_13 rfl (lv_at hl 3 rfl) ?_
      refine lv_iload_n hx hb dX3_twoPairs_14 rfl (lv_at hl 2 rfl) ?_
      refine lv_icmp_ge (tgt := 91) hx hb dX3_twoPairs_15 (by decide) (fun c1 => ?_) (fun c1 => ?_)
      · have hf := iteT hf c1
        refine lv_bipush (v := (-9)) hx hb dX3_twoPairs_91 (by decide) ?_
        have hv := Option.some.inj hf
        exact hret _ _ _ _ _ (by rw [← hv]; exact hP) hS (by rw [← hv]) dX3_twoPairs_93
      · have hf := iteF hf c1
        refine lv_aload_n hx hb dX3_twoPairs_18 rfl (lv_at hl 0 rfl) ?_
        refine lv_iload_n hx hb dX3_twoPairs_19 rfl (lv_at hl 3 rfl) ?_
        obtain ⟨o2, hc3, hf⟩ := bindS hf
        refine ro_l (va_runV (C := RX3) (As := [.int x3]) (rest := []) ⟨hx, hb, hml, hown, hts⟩ (ctX3_newPair l G h0 ad s_keptSlots s_seenCount s_seed s_now_people s_now_kinds s_now_deeds s_now_feeding s_now_large s_now_dead s_now_dayNumber x3 o2 hc3) (cwV 1 hts gX3_twoPairs_X3_newPair rfl rfl rfl (by decide +kernel) ⟨Nat.le_of_ble_eq_true rfl, Nat.le_of_ble_eq_true rfl⟩) (preR_V (q0 := 0) (ci := 3) (hP.sub (ws' := [(h0, xoE ad s_keptSlots s_seenCount s_seed), (ad 1, stE s_now_people s_now_kinds s_now_deeds s_now_feeding s_now_large s_now_dead s_now_dayNumber)]) [0, 1] rfl) hK rfl rfl) rfl rfl hl.1 rfl (lv_room (Nat.le_of_ble_eq_true rfl)) dX3_twoPairs_20 ⟨Nat.zero_le _, Nat.zero_le _⟩) hS hP (fun H locs hP hS => ?_)
        refine lv_lstore (lv' := [(4, .long o2), (0, .ref h0), (1, .int a1), (2, .int x2), (3, .int x3)]) hx hb dX3_twoPairs_23 hl (by decide) rfl (fun ls hl => ?_)
        refine lv_iload_n hx hb dX3_twoPairs_25 rfl (lv_at hl 4 rfl) ?_
        refine lv_iconst (v := 1) hx hb dX3_twoPairs_26 (by decide) ?_
        refine lv_iadd hx hb dX3_twoPairs_27 ?_
        refine lv_istore (lv' := [(6, .int (x3 + 1)), (4, .long o2), (0, .ref h0), (1, .int a1), (2, .int x2), (3, .int x3)]) hx hb dX3_twoPairs_28 hl (by decide) rfl (fun ls hl => ?_)
        exact hC30 72 x2 x3 o2 (x3 + 1) s_trial_feeding _ _ _ hP hD hS (lv_sub hl [2, 3, 4, 5, 1, 0] rfl) hf
  refine lv_bipush (v := 10) hx hb dX3_twoPairs_0 (by decide) ?_
  refine lv_aload_n hx hb dX3_twoPairs_2 rfl (lv_at hl 0 rfl) ?_
  refine va_get (D := gD G) (ci := 3) (v := .ref (ad 1)) (C := RX3) (T := TX3) (N := 11) hx hb hts hi_X3 hown hK.1 hP 0 rfl rfl 1 (by decide) kl_19 (fun _ h9 => h9) rfl dX3_twoPairs_3 ?_
  refine va_getN (D := gD G) (ci := 1) (v := .int s_now_people) (C := RX1) (T := TX1) (N := 7) hx hb hts hi_X1 hown hK.1 hP 1 rfl rfl 0 (by decide) (nf_X3_69 hK.2) (fun _ h9 => h9) rfl dX3_twoPairs_6 ?_
  refine lv_imul hx hb dX3_twoPairs_9 ?_
  refine lv_istore_n (lv' := [(2, .int (10 * s_now_people)), (0, .ref h0), (1, .int a1)]) hx hb dX3_twoPairs_10 rfl hl (by decide) rfl (fun ls hl => ?_)
  refine lv_iconst (v := 0) hx hb dX3_twoPairs_11 (by decide) ?_
  refine lv_istore_n (lv' := [(3, .int 0), (2, .int (10 * s_now_people)), (0, .ref h0), (1, .int a1)]) hx hb dX3_twoPairs_12 rfl hl (by decide) rfl (fun ls hl => ?_)
  exact hC13 72 (10 * s_now_people) 0 s_trial_feeding _ _ _ hP hD hS (lv_sub hl [2, 3, 1, 0] rfl) hf
def fX3_toFeed (s_now_people : Int32) (s_now_kinds : Int32) (s_now_deeds : Int32) (s_now_feeding : Int64) (s_now_large : Int32) (s_now_dead : Int32) (s_now_dayNumber : Int32) (s_trial_people : Int32) (s_trial_kinds : Int32) (s_trial_deeds : Int32) (s_trial_feeding : Int64) (s_trial_large : Int32) (s_trial_dead : Int32) (s_trial_dayNumber : Int32) (a1 : Int32) (a2 : Int32) : Option (Int32 × Int32 × Int32 × Int32 × Int64 × Int32 × Int32 × Int32) :=
  (fX1_has s_now_people a1).bind fun o1 => ((if o1 = 0 then some ((-1), s_trial_people, s_trial_kinds, s_trial_deeds, s_trial_feeding, s_trial_large, s_trial_dead, s_trial_dayNumber) else (if a2 < 0 then some ((-2), s_trial_people, s_trial_kinds, s_trial_deeds, s_trial_feeding, s_trial_large, s_trial_dead, s_trial_dayNumber) else (if a2 ≤ 1 then (fX1_isTaken s_now_people s_now_kinds s_now_deeds s_now_feeding a1 s_now_large).bind fun o6 => ((if o6 = 0 then some (0, s_trial_people, s_trial_kinds, s_trial_deeds, s_trial_feeding, s_trial_large, s_trial_dead, s_trial_dayNumber) else (fX1_copy s_trial_people s_trial_kinds s_trial_deeds s_trial_feeding s_trial_large s_trial_dead s_trial_dayNumber s_now_people s_now_kinds s_now_deeds s_now_feeding s_now_large s_now_dead s_now_dayNumber).bind fun o9 => ((fX3_onePair s_now_people s_now_feeding o9.1 o9.2.1 o9.2.2.1 o9.2.2.2.1 o9.2.2.2.2.1 a1).bind fun o11 => ((if o11.1 = (-9) then (fX3_twoPairs s_now_people s_now_feeding o9.1 o9.2.1 o9.2.2.1 o11.2 o9.2.2.2.2.1 a1).bind fun o14 => ((if a2 = 0 then (if o14.1 = (-9) then some (o14.1, o9.1, o9.2.1, o9.2.2.1, o14.2, o9.2.2.2.2.1, o9.2.2.2.2.2.1, o9.2.2.2.2.2.2) else some (2, o9.1, o9.2.1, o9.2.2.1, o14.2, o9.2.2.2.2.1, o9.2.2.2.2.2.1, o9.2.2.2.2.2.2)) else some (o14.1, o9.1, o9.2.1, o9.2.2.1, o14.2, o9.2.2.2.2.1, o9.2.2.2.2.2.1, o9.2.2.2.2.2.2))) else (if a2 = 0 then some (1, o9.1, o9.2.1, o9.2.2.1, o11.2, o9.2.2.2.2.1, o9.2.2.2.2.2.1, o9.2.2.2.2.2.2) else some (o11.1, o9.1, o9.2.1, o9.2.2.1, o11.2, o9.2.2.2.2.1, o9.2.2.2.2.2.1, o9.2.2.2.2.2.2))))))) else some ((-2), s_trial_people, s_trial_kinds, s_trial_deeds, s_trial_feeding, s_trial_large, s_trial_dead, s_trial_dayNumber)))))
set_option maxHeartbeats 4000000 in
set_option maxRecDepth 100000 in
theorem ctX3_toFeed (l : Launch) (G : GG) (h0 : Nat) (ad : Nat → Nat) (s_keptSlots : Int32) (s_seenCount : Int32) (s_seed : Int64) (s_now_people : Int32) (s_now_kinds : Int32) (s_now_deeds : Int32) (s_now_feeding : Int64) (s_now_large : Int32) (s_now_dead : Int32) (s_now_dayNumber : Int32) (s_trial_people : Int32) (s_trial_kinds : Int32) (s_trial_deeds : Int32) (s_trial_feeding : Int64) (s_trial_large : Int32) (s_trial_dead : Int32) (s_trial_dayNumber : Int32) (a1 : Int32) (a2 : Int32) (out : Int32 × Int32 × Int32 × Int32 × Int64 × Int32 × Int32 × Int32) (hf : fX3_toFeed s_now_people s_now_kinds s_now_deeds s_now_feeding s_now_large s_now_dead s_now_dayNumber s_trial_people s_trial_kinds s_trial_deeds s_trial_feeding s_trial_large s_trial_dead s_trial_dayNumber a1 a2 = some out) : Met l yX3_toFeed wsX3_toFeed ({ frames := 6, cells := 0, slots := 0, locals := 144 }) (PcW G [.ref h0, .int a1, .int a2] [(h0, xoE ad s_keptSlots s_seenCount s_seed), (ad 1, stE s_now_people s_now_kinds s_now_deeds s_now_feeding s_now_large s_now_dead s_now_dayNumber), (ad 2, stE s_trial_people s_trial_kinds s_trial_deeds s_trial_feeding s_trial_large s_trial_dead s_trial_dayNumber)]) (QiW G [(h0, xoE ad s_keptSlots s_seenCount s_seed), (ad 1, stE s_now_people s_now_kinds s_now_deeds s_now_feeding s_now_large s_now_dead s_now_dayNumber), (ad 2, stE s_trial_people s_trial_kinds s_trial_deeds s_trial_feeding s_trial_large s_trial_dead s_trial_dayNumber)] [(h0, xoE ad s_keptSlots s_seenCount s_seed), (ad 1, stE s_now_people s_now_kinds s_now_deeds s_now_feeding s_now_large s_now_dead s_now_dayNumber), (ad 2, stE out.2.1 out.2.2.1 out.2.2.2.1 out.2.2.2.2.1 out.2.2.2.2.2.1 out.2.2.2.2.2.2.1 out.2.2.2.2.2.2.2)] out.1) 0 0 (inA [(h0, xoE ad s_keptSlots s_seenCount s_seed), (ad 1, stE s_now_people s_now_kinds s_now_deeds s_now_feeding s_now_large s_now_dead s_now_dayNumber), (ad 2, stE s_trial_people s_trial_kinds s_trial_deeds s_trial_feeding s_trial_large s_trial_dead s_trial_dayNumber)]) := by
  refine mk_Wi (cc := cX3_toFeed) (maxL := 4) (by decide) rfl (Nat.le_of_ble_eq_true rfl) ?_
  intro p e s m args below meth c Q ls A S hP hK hD hl hret
  obtain ⟨hx, hb, hml, hown, hts⟩ := S
  have hown : s.vm.findClass RX3 = some m.cls := hown
  have kl_19 := hts (.fieldLink RX3 19 "ArrestOrder" "now" "LArrestOrder$Standing;") (by decide +kernel)
  have hi_X3 : ∀ w ∈ wsX30, w ∈ wsX3_toFeed := fun _ h => List.mem_cons_of_mem _ (List.mem_append_left _ (List.mem_append_right _ h))
  have hi_X1 : ∀ w ∈ wsX10, w ∈ wsX3_toFeed := fun _ h => List.mem_cons_of_mem _ (List.mem_append_right _ h)
  have kl_23 := hts (.fieldLink RX3 23 "ArrestOrder" "trial" "LArrestOrder$Standing;") (by decide +kernel)
  have hS : va_S A s.heap s.heap [] := va_S.rf
  have hl : lv_has ls 4 [(0, .ref h0), (1, .int a1), (2, .int a2)] := hl
  refine lv_aload_n hx hb dX3_toFeed_0 rfl (lv_at hl 0 rfl) ?_
  refine va_get (D := gD G) (ci := 3) (v := .ref (ad 1)) (C := RX3) (T := TX3) (N := 11) hx hb hts hi_X3 hown hK.1 hP 0 rfl rfl 1 (by decide) kl_19 (fun _ h9 => h9) rfl dX3_toFeed_1 ?_
  refine lv_iload_n hx hb dX3_toFeed_4 rfl (lv_at hl 1 rfl) ?_
  obtain ⟨o1, hc2, hf⟩ := bindS hf
  refine ro_i (va_runVN (C := RX1) (As := [.int a1]) (rest := []) ⟨hx, hb, hml, hown, hts⟩ (ctX1_has l G (ad 1) s_now_people s_now_kinds s_now_deeds s_now_feeding s_now_large s_now_dead s_now_dayNumber a1 o1 hc2) ⟨va_cnB 1 hts gX3_toFeed_X1_has_n92 rfl rfl rfl (nm_X3_92 hK.2) (hts (.initialized RX1) (by decide +kernel)) (by decide +kernel) ⟨Nat.le_of_ble_eq_true rfl, Nat.le_of_ble_eq_true rfl⟩, hts (.instanceMethod yX1_has) (by decide +kernel), hts (.selects RX1 yX1_has yX1_has) (by decide +kernel)⟩ (preR_V (q0 := 0) (ci := 1) (hP.sub (ws' := [(ad 1, stE s_now_people s_now_kinds s_now_deeds s_now_feeding s_now_large s_now_dead s_now_dayNumber)]) [1] rfl) hK rfl rfl) rfl rfl hl.1 rfl (lv_room (Nat.le_of_ble_eq_true rfl)) dX3_toFeed_5 ⟨Nat.zero_le _, Nat.zero_le _⟩) hS hP (fun H locs hP hS => ?_)
  refine lv_if_ne (tgt := 13) hx hb dX3_toFeed_8 (by decide) (fun c3 => ?_) (fun c3 => ?_)
  · have hf := iteF hf c3
    refine lv_iload_n hx hb dX3_toFeed_13 rfl (lv_at hl 2 rfl) ?_
    refine lv_if_lt (tgt := 22) hx hb dX3_toFeed_14 (by decide) (fun c4 => ?_) (fun c4 => ?_)
    · have hf := iteT hf c4
      refine lv_bipush (v := (-2)) hx hb dX3_toFeed_22 (by decide) ?_
      have hv := Option.some.inj hf
      exact hret _ _ _ _ _ (by rw [← hv]; exact hP) hS (by rw [← hv]) dX3_toFeed_24
    · have hf := iteF hf c4
      refine lv_iload_n hx hb dX3_toFeed_17 rfl (lv_at hl 2 rfl) ?_
      refine lv_iconst (v := 1) hx hb dX3_toFeed_18 (by decide) ?_
      refine lv_icmp_le (tgt := 25) hx hb dX3_toFeed_19 (by decide) (fun c5 => ?_) (fun c5 => ?_)
      · have hf := iteT hf c5
        refine lv_aload_n hx hb dX3_toFeed_25 rfl (lv_at hl 0 rfl) ?_
        refine va_get (D := gD G) (ci := 3) (v := .ref (ad 1)) (C := RX3) (T := TX3) (N := 11) hx hb hts hi_X3 hown hK.1 hP 0 rfl rfl 1 (by decide) kl_19 (fun _ h9 => h9) rfl dX3_toFeed_26 ?_
        refine lv_iload_n hx hb dX3_toFeed_29 rfl (lv_at hl 1 rfl) ?_
        refine lv_aload_n hx hb dX3_toFeed_30 rfl (lv_at hl 0 rfl) ?_
        refine va_get (D := gD G) (ci := 3) (v := .ref (ad 1)) (C := RX3) (T := TX3) (N := 11) hx hb hts hi_X3 hown hK.1 hP 0 rfl rfl 1 (by decide) kl_19 (fun _ h9 => h9) rfl dX3_toFeed_31 ?_
        refine va_getN (D := gD G) (ci := 1) (v := .int s_now_large) (C := RX1) (T := TX1) (N := 7) hx hb hts hi_X1 hown hK.1 hP 1 rfl rfl 4 (by decide) (nf_X3_72 hK.2) (fun _ h9 => h9) rfl dX3_toFeed_34 ?_
        obtain ⟨o6, hc7, hf⟩ := bindS hf
        refine ro_i (va_runVN (C := RX1) (As := [.int a1, .int s_now_large]) (rest := []) ⟨hx, hb, hml, hown, hts⟩ (ctX1_isTaken l G (ad 1) s_now_people s_now_kinds s_now_deeds s_now_feeding s_now_large s_now_dead s_now_dayNumber a1 s_now_large o6 hc7) ⟨va_cnB 2 hts gX3_toFeed_X1_isTaken_n161 rfl rfl rfl (nm_X3_161 hK.2) (hts (.initialized RX1) (by decide +kernel)) (by decide +kernel) ⟨Nat.le_of_ble_eq_true rfl, Nat.le_of_ble_eq_true rfl⟩, hts (.instanceMethod yX1_isTaken) (by decide +kernel), hts (.selects RX1 yX1_isTaken yX1_isTaken) (by decide +kernel)⟩ (preR_V (q0 := 0) (ci := 1) (hP.sub (ws' := [(ad 1, stE s_now_people s_now_kinds s_now_deeds s_now_feeding s_now_large s_now_dead s_now_dayNumber)]) [1] rfl) hK rfl rfl) rfl rfl hl.1 rfl (lv_room (Nat.le_of_ble_eq_true rfl)) dX3_toFeed_37 ⟨Nat.zero_le _, Nat.zero_le _⟩) hS hP (fun H locs hP hS => ?_)
        refine lv_if_ne (tgt := 45) hx hb dX3_toFeed_40 (by decide) (fun c8 => ?_) (fun c8 => ?_)
        · have hf := iteF hf c8
          refine lv_aload_n hx hb dX3_toFeed_45 rfl (lv_at hl 0 rfl) ?_
          refine va_get (D := gD G) (ci := 3) (v := .ref (ad 2)) (C := RX3) (T := TX3) (N := 11) hx hb hts hi_X3 hown hK.1 hP 0 rfl rfl 2 (by decide) kl_23 (fun _ h9 => h9) rfl dX3_toFeed_46 ?_
          refine lv_aload_n hx hb dX3_toFeed_49 rfl (lv_at hl 0 rfl) ?_
          refine va_get (D := gD G) (ci := 3) (v := .ref (ad 1)) (C := RX3) (T := TX3) (N := 11) hx hb hts hi_X3 hown hK.1 hP 0 rfl rfl 1 (by decide) kl_19 (fun _ h9 => h9) rfl dX3_toFeed_50 ?_
          obtain ⟨o9, hc10, hf⟩ := bindS hf
          refine rw_v (va_runVN (C := RX1) (As := [.ref (ad 1)]) (rest := []) ⟨hx, hb, hml, hown, hts⟩ (ctX1_copy l G (ad 2) (ad 1) s_trial_people s_trial_kinds s_trial_deeds s_trial_feeding s_trial_large s_trial_dead s_trial_dayNumber s_now_people s_now_kinds s_now_deeds s_now_feeding s_now_large s_now_dead s_now_dayNumber o9 hc10) ⟨va_cnB 1 hts gX3_toFeed_X1_copy_n59 rfl rfl rfl (nm_X3_59 hK.2) (hts (.initialized RX1) (by decide +kernel)) (by decide +kernel) ⟨Nat.le_of_ble_eq_true rfl, Nat.le_of_ble_eq_true rfl⟩, hts (.instanceMethod yX1_copy) (by decide +kernel), hts (.selects RX1 yX1_copy yX1_copy) (by decide +kernel)⟩ (preW_V (q0 := 0) (ci := 1) (hP.sub (ws' := [(ad 2, stE s_trial_people s_trial_kinds s_trial_deeds s_trial_feeding s_trial_large s_trial_dead s_trial_dayNumber), (ad 1, stE s_now_people s_now_kinds s_now_deeds s_now_feeding s_now_large s_now_dead s_now_dayNumber)]) [2, 1] rfl) (hD.sub (ws' := [(ad 2, stE s_trial_people s_trial_kinds s_trial_deeds s_trial_feeding s_trial_large s_trial_dead s_trial_dayNumber), (ad 1, stE s_now_people s_now_kinds s_now_deeds s_now_feeding s_now_large s_now_dead s_now_dayNumber)]) [2, 1] (by decide) rfl) hK rfl rfl) rfl rfl hl.1 rfl (lv_room (Nat.le_of_ble_eq_true rfl)) dX3_toFeed_53 ⟨Nat.zero_le _, Nat.zero_le _⟩) hS hP hD [2, 1] rfl rfl rfl (fun H locs hP hD hS => ?_)
          have hP : va_P (gD G) vwCl [(h0, xoE ad s_keptSlots s_seenCount s_seed), (ad 1, stE s_now_people s_now_kinds s_now_deeds s_now_feeding s_now_large s_now_dead s_now_dayNumber), (ad 2, stE o9.1 o9.2.1 o9.2.2.1 o9.2.2.2.1 o9.2.2.2.2.1 o9.2.2.2.2.2.1 o9.2.2.2.2.2.2)] H := hP
          have hD : va_D A [(h0, xoE ad s_keptSlots s_seenCount s_seed), (ad 1, stE s_now_people s_now_kinds s_now_deeds s_now_feeding s_now_large s_now_dead s_now_dayNumber), (ad 2, stE o9.1 o9.2.1 o9.2.2.1 o9.2.2.2.1 o9.2.2.2.2.1 o9.2.2.2.2.2.1 o9.2.2.2.2.2.2)] := hD
          refine lv_aload_n hx hb dX3_toFeed_56 rfl (lv_at hl 0 rfl) ?_
          refine lv_iload_n hx hb dX3_toFeed_57 rfl (lv_at hl 1 rfl) ?_
          obtain ⟨o11, hc12, hf⟩ := bindS hf
          refine rw_i (va_runV (C := RX3) (As := [.int a1]) (rest := []) ⟨hx, hb, hml, hown, hts⟩ (ctX3_onePair l G h0 ad s_keptSlots s_seenCount s_seed s_now_people s_now_kinds s_now_deeds s_now_feeding s_now_large s_now_dead s_now_dayNumber o9.1 o9.2.1 o9.2.2.1 o9.2.2.2.1 o9.2.2.2.2.1 o9.2.2.2.2.2.1 o9.2.2.2.2.2.2 a1 o11 hc12) (cwV 1 hts gX3_toFeed_X3_onePair rfl rfl rfl (by decide +kernel) ⟨Nat.le_of_ble_eq_true rfl, Nat.le_of_ble_eq_true rfl⟩) (preW_V (q0 := 0) (ci := 3) (hP.sub (ws' := [(h0, xoE ad s_keptSlots s_seenCount s_seed), (ad 1, stE s_now_people s_now_kinds s_now_deeds s_now_feeding s_now_large s_now_dead s_now_dayNumber), (ad 2, stE o9.1 o9.2.1 o9.2.2.1 o9.2.2.2.1 o9.2.2.2.2.1 o9.2.2.2.2.2.1 o9.2.2.2.2.2.2)]) [0, 1, 2] rfl) (hD.sub (ws' := [(h0, xoE ad s_keptSlots s_seenCount s_seed), (ad 1, stE s_now_people s_now_kinds s_now_deeds s_now_feeding s_now_large s_now_dead s_now_dayNumber), (ad 2, stE o9.1 o9.2.1 o9.2.2.1 o9.2.2.2.1 o9.2.2.2.2.1 o9.2.2.2.2.2.1 o9.2.2.2.2.2.2)]) [0, 1, 2] (by decide) rfl) hK rfl rfl) rfl rfl hl.1 rfl (lv_room (Nat.le_of_ble_eq_true rfl)) dX3_toFeed_58 ⟨Nat.zero_le _, Nat.zero_le _⟩) hS hP hD [0, 1, 2] rfl rfl rfl (fun H locs hP hD hS => ?_)
          have hP : va_P (gD G) vwCl [(h0, xoE ad s_keptSlots s_seenCount s_seed), (ad 1, stE s_now_people s_now_kinds s_now_deeds s_now_feeding s_now_large s_now_dead s_now_dayNumber), (ad 2, stE o9.1 o9.2.1 o9.2.2.1 o11.2 o9.2.2.2.2.1 o9.2.2.2.2.2.1 o9.2.2.2.2.2.2)] H := hP
          have hD : va_D A [(h0, xoE ad s_keptSlots s_seenCount s_seed), (ad 1, stE s_now_people s_now_kinds s_now_deeds s_now_feeding s_now_large s_now_dead s_now_dayNumber), (ad 2, stE o9.1 o9.2.1 o9.2.2.1 o11.2 o9.2.2.2.2.1 o9.2.2.2.2.2.1 o9.2.2.2.2.2.2)] := hD
          refine lv_istore_n (lv' := [(3, .int o11.1), (0, .ref h0), (1, .int a1), (2, .int a2)]) hx hb dX3_toFeed_61 rfl hl (by decide) rfl (fun ls hl => ?_)
          refine lv_iload_n hx hb dX3_toFeed_62 rfl (lv_at hl 0 rfl) ?_
          refine lv_bipush (v := (-9)) hx hb dX3_toFeed_63 (by decide) ?_
          refine lv_icmp_eq (tgt := 78) hx hb dX3_toFeed_65 (by decide) (fun c13 => ?_) (fun c13 => ?_)
          · have hf := iteT hf c13
            refine lv_aload_n hx hb dX3_toFeed_78 rfl (lv_at hl 1 rfl) ?_
            refine lv_iload_n hx hb dX3_toFeed_79 rfl (lv_at hl 2 rfl) ?_
            obtain ⟨o14, hc15, hf⟩ := bindS hf
            refine rw_i (va_runV (C := RX3) (As := [.int a1]) (rest := []) ⟨hx, hb, hml, hown, hts⟩ (ctX3_twoPairs l G h0 ad s_keptSlots s_seenCount s_seed s_now_people s_now_kinds s_now_deeds s_now_feeding s_now_large s_now_dead s_now_dayNumber o9.1 o9.2.1 o9.2.2.1 o11.2 o9.2.2.2.2.1 o9.2.2.2.2.2.1 o9.2.2.2.2.2.2 a1 o14 hc15) (cwV 1 hts gX3_toFeed_X3_twoPairs rfl rfl rfl (by decide +kernel) ⟨Nat.le_of_ble_eq_true rfl, Nat.le_of_ble_eq_true rfl⟩) (preW_V (q0 := 0) (ci := 3) (hP.sub (ws' := [(h0, xoE ad s_keptSlots s_seenCount s_seed), (ad 1, stE s_now_people s_now_kinds s_now_deeds s_now_feeding s_now_large s_now_dead s_now_dayNumber), (ad 2, stE o9.1 o9.2.1 o9.2.2.1 o11.2 o9.2.2.2.2.1 o9.2.2.2.2.2.1 o9.2.2.2.2.2.2)]) [0, 1, 2] rfl) (hD.sub (ws' := [(h0, xoE ad s_keptSlots s_seenCount s_seed), (ad 1, stE s_now_people s_now_kinds s_now_deeds s_now_feeding s_now_large s_now_dead s_now_dayNumber), (ad 2, stE o9.1 o9.2.1 o9.2.2.1 o11.2 o9.2.2.2.2.1 o9.2.2.2.2.2.1 o9.2.2.2.2.2.2)]) [0, 1, 2] (by decide) rfl) hK rfl rfl) rfl rfl hl.1 rfl (lv_room (Nat.le_of_ble_eq_true rfl)) dX3_toFeed_80 ⟨Nat.zero_le _, Nat.zero_le _⟩) hS hP hD [0, 1, 2] rfl rfl rfl (fun H locs hP hD hS => ?_)
            have hP : va_P (gD G) vwCl [(h0, xoE ad s_keptSlots s_seenCount s_seed), (ad 1, stE s_now_people s_now_kinds s_now_deeds s_now_feeding s_now_large s_now_dead s_now_dayNumber), (ad 2, stE o9.1 o9.2.1 o9.2.2.1 o14.2 o9.2.2.2.2.1 o9.2.2.2.2.2.1 o9.2.2.2.2.2.2)] H := hP
            have hD : va_D A [(h0, xoE ad s_keptSlots s_seenCount s_seed), (ad 1, stE s_now_people s_now_kinds s_now_deeds s_now_feeding s_now_large s_now_dead s_now_dayNumber), (ad 2, stE o9.1 o9.2.1 o9.2.2.1 o14.2 o9.2.2.2.2.1 o9.2.2.2.2.2.1 o9.2.2.2.2.2.2)] := hD
            refine lv_istore_n (lv' := [(3, .int o14.1), (0, .ref h0), (1, .int a1), (2, .int a2)]) hx hb dX3_toFeed_83 rfl hl (by decide) rfl (fun ls hl => ?_)
            refine lv_iload_n hx hb dX3_toFeed_84 rfl (lv_at hl 3 rfl) ?_
            refine lv_if_ne (tgt := 98) hx hb dX3_toFeed_85 (by decide) (fun c16 => ?_) (fun c16 => ?_)
            · have hf := iteF hf c16
              refine lv_iload_n hx hb dX3_toFeed_98 rfl (lv_at hl 0 rfl) ?_
              have hv := Option.some.inj hf
              exact hret _ _ _ _ _ (by rw [← hv]; exact hP) hS (by rw [← hv]) dX3_toFeed_99
            · have hf := iteT hf c16
              refine lv_iload_n hx hb dX3_toFeed_88 rfl (lv_at hl 0 rfl) ?_
              refine lv_bipush (v := (-9)) hx hb dX3_toFeed_89 (by decide) ?_
              refine lv_icmp_eq (tgt := 98) hx hb dX3_toFeed_91 (by decide) (fun c17 => ?_) (fun c17 => ?_)
              · have hf := iteT hf c17
                refine lv_iload_n hx hb dX3_toFeed_98 rfl (lv_at hl 0 rfl) ?_
                have hv := Option.some.inj hf
                exact hret _ _ _ _ _ (by rw [← hv]; exact hP) hS (by rw [← hv]) dX3_toFeed_99
              · have hf := iteF hf c17
                refine lv_iconst (v := 2) hx hb dX3_toFeed_94 (by decide) ?_
                refine lv_goto (tgt := 99) hx hb dX3_toFeed_95 (by decide) ?_
                have hv := Option.some.inj hf
                exact hret _ _ _ _ _ (by rw [← hv]; exact hP) hS (by rw [← hv]) dX3_toFeed_99
          · have hf := iteF hf c13
            refine lv_iload_n hx hb dX3_toFeed_68 rfl (lv_at hl 3 rfl) ?_
            refine lv_if_ne (tgt := 76) hx hb dX3_toFeed_69 (by decide) (fun c18 => ?_) (fun c18 => ?_)
            · have hf := iteF hf c18
              refine lv_iload_n hx hb dX3_toFeed_76 rfl (lv_at hl 0 rfl) ?_
              have hv := Option.some.inj hf
              exact hret _ _ _ _ _ (by rw [← hv]; exact hP) hS (by rw [← hv]) dX3_toFeed_77
            · have hf := iteT hf c18
              refine lv_iconst (v := 1) hx hb dX3_toFeed_72 (by decide) ?_
              refine lv_goto (tgt := 77) hx hb dX3_toFeed_73 (by decide) ?_
              have hv := Option.some.inj hf
              exact hret _ _ _ _ _ (by rw [← hv]; exact hP) hS (by rw [← hv]) dX3_toFeed_77
        · have hf := iteT hf c8
          refine lv_iconst (v := 0) hx hb dX3_toFeed_43 (by decide) ?_
          have hv := Option.some.inj hf
          exact hret _ _ _ _ _ (by rw [← hv]; exact hP) hS (by rw [← hv]) dX3_toFeed_44
      · have hf := iteF hf c5
        refine lv_bipush (v := (-2)) hx hb dX3_toFeed_22 (by decide) ?_
        have hv := Option.some.inj hf
        exact hret _ _ _ _ _ (by rw [← hv]; exact hP) hS (by rw [← hv]) dX3_toFeed_24
  · have hf := iteT hf c3
    refine lv_iconst (v := (-1)) hx hb dX3_toFeed_11 (by decide) ?_
    have hv := Option.some.inj hf
    exact hret _ _ _ _ _ (by rw [← hv]; exact hP) hS (by rw [← hv]) dX3_toFeed_12
def fX3_giveUp_77 (s_now_people : Int32) (s_now_kinds : Int32) (s_now_deeds : Int32) (s_now_feeding : Int64) (s_now_large : Int32) (a1 : Int32) (k48 : Int32 → Int32 → Int32 → Option (Int32)) (x2 : Int32) (x3 : Int32) (x4 : Int32) (y0 : Int32) : Option (Int32) :=
  (if (x4 &&& x2) = x4 then (if y0 = 0 then (k48 x2 x3 (x4 + 1)) else (fX1_isTaken s_now_people s_now_kinds s_now_deeds s_now_feeding a1 (s_now_large &&& (x4 ^^^ (-1)))).bind fun o13 => ((if o13 = 0 then (k48 x2 x3 (x4 + 1)) else (k48 x2 x4 (x4 + 1))))) else (k48 x2 x3 (x4 + 1)))
def fX3_giveUp_72 (s_now_people : Int32) (s_now_kinds : Int32) (s_now_deeds : Int32) (s_now_feeding : Int64) (s_now_large : Int32) (a1 : Int32) (k48 : Int32 → Int32 → Int32 → Option (Int32)) (x2 : Int32) (x3 : Int32) (x4 : Int32) : Option (Int32) :=
  (fX3_giveUp_77 s_now_people s_now_kinds s_now_deeds s_now_feeding s_now_large a1 k48 x2 x3 x4 1)
def fX3_giveUp_48 (s_now_people : Int32) (s_now_kinds : Int32) (s_now_deeds : Int32) (s_now_feeding : Int64) (s_now_large : Int32) (a1 : Int32) : Nat → Int32 → Int32 → Int32 → Option (Int32)
  | 0, _, _, _ => none
  | n + 1, x2, x3, x4 => (if x2 < x4 then some x3 else (if x3 = (-9) then (fX3_giveUp_72 s_now_people s_now_kinds s_now_deeds s_now_feeding s_now_large a1 (fun x2 x3 x4 => fX3_giveUp_48 s_now_people s_now_kinds s_now_deeds s_now_feeding s_now_large a1 n x2 x3 x4) x2 x3 x4) else (fJ6_bitCount_0f7a4 x4).bind fun o16 => ((fJ6_bitCount_0f7a4 x3).bind fun o18 => ((if o18 ≤ o16 then (fX3_giveUp_77 s_now_people s_now_kinds s_now_deeds s_now_feeding s_now_large a1 (fun x2 x3 x4 => fX3_giveUp_48 s_now_people s_now_kinds s_now_deeds s_now_feeding s_now_large a1 n x2 x3 x4) x2 x3 x4 0) else (fX3_giveUp_72 s_now_people s_now_kinds s_now_deeds s_now_feeding s_now_large a1 (fun x2 x3 x4 => fX3_giveUp_48 s_now_people s_now_kinds s_now_deeds s_now_feeding s_now_large a1 n x2 x3 x4) x2 x3 x4))))))
def fX3_giveUp (s_now_people : Int32) (s_now_kinds : Int32) (s_now_deeds : Int32) (s_now_feeding : Int64) (s_now_large : Int32) (a1 : Int32) : Option (Int32) :=
  (fX1_has s_now_people a1).bind fun o1 => ((if o1 = 0 then some (-1) else (fX3_isIn s_now_large a1).bind fun o4 => ((if o4 = 0 then some (-3) else (fX3_without s_now_large a1).bind fun o7 => ((fX3_giveUp_48 s_now_people s_now_kinds s_now_deeds s_now_feeding s_now_large a1 130 o7 (-9) 0))))))
set_option maxHeartbeats 4000000 in
set_option maxRecDepth 100000 in
theorem ctX3_giveUp (l : Launch) (G : GG) (h0 : Nat) (ad : Nat → Nat) (s_keptSlots : Int32) (s_seenCount : Int32) (s_seed : Int64) (s_now_people : Int32) (s_now_kinds : Int32) (s_now_deeds : Int32) (s_now_feeding : Int64) (s_now_large : Int32) (s_now_dead : Int32) (s_now_dayNumber : Int32) (a1 : Int32) (out : Int32) (hf : fX3_giveUp s_now_people s_now_kinds s_now_deeds s_now_feeding s_now_large a1 = some out) : Met l yX3_giveUp wsX3_giveUp ({ frames := 5, cells := 0, slots := 0, locals := 115 }) (PcR G [.ref h0, .int a1] [(h0, xoE ad s_keptSlots s_seenCount s_seed), (ad 1, stE s_now_people s_now_kinds s_now_deeds s_now_feeding s_now_large s_now_dead s_now_dayNumber)]) (QiR out) 0 0 noA := by
  refine mk_Ri (cc := cX3_giveUp) (maxL := 6) (by decide) rfl (Nat.le_of_ble_eq_true rfl) ?_
  intro p e s m args below meth c Q ls S hP hK hl hret
  obtain ⟨hx, hb, hml, hown, hts⟩ := S
  have hown : s.vm.findClass RX3 = some m.cls := hown
  have kl_19 := hts (.fieldLink RX3 19 "ArrestOrder" "now" "LArrestOrder$Standing;") (by decide +kernel)
  have hi_X3 : ∀ w ∈ wsX30, w ∈ wsX3_giveUp := fun _ h => List.mem_cons_of_mem _ (List.mem_append_left _ (List.mem_append_right _ h))
  have hi_X1 : ∀ w ∈ wsX10, w ∈ wsX3_giveUp := fun _ h => List.mem_cons_of_mem _ (List.mem_append_right _ h)
  have hS : va_S noA s.heap s.heap [] := va_S.rf
  have hl : lv_has ls 6 [(0, .ref h0), (1, .int a1)] := hl
  have hC48 : ∀ (n : Nat) (x2 : Int32) (x3 : Int32) (x4 : Int32) (H : Heap) (locs : List Loc) (ls : Array Slot), va_P (gD G) vwCl [(h0, xoE ad s_keptSlots s_seenCount s_seed), (ad 1, stE s_now_people s_now_kinds s_now_deeds s_now_feeding s_now_large s_now_dead s_now_dayNumber)] H → va_S noA s.heap H locs → lv_has ls 6 [(0, .ref h0), (1, .int a1), (2, .int x2), (3, .int x3), (4, .int x4)] → fX3_giveUp_48 s_now_people s_now_kinds s_now_deeds s_now_feeding s_now_large a1 n x2 x3 x4 = some out → W p l e ({ frames := 5, cells := 0, slots := 0, locals := 115 }) s m args below meth c H locs 0 0 Q (F0 m 48 ls []) := by
    intro n48
    induction n48 with
    | zero => intro x2 x3 x4 H locs ls hP hS hl hf; exact absurd (show none = some out from hf) (fun z => by cases z)
    | succ n48 ih48 =>
      have hC77 : ∀ (x2 : Int32) (x3 : Int32) (x4 : Int32) (y0 : Int32) (H : Heap) (locs : List Loc) (ls : Array Slot), va_P (gD G) vwCl [(h0, xoE ad s_keptSlots s_seenCount s_seed), (ad 1, stE s_now_people s_now_kinds s_now_deeds s_now_feeding s_now_large s_now_dead s_now_dayNumber)] H → va_S noA s.heap H locs → lv_has ls 6 [(0, .ref h0), (1, .int a1), (2, .int x2), (3, .int x3), (4, .int x4)] → fX3_giveUp_77 s_now_people s_now_kinds s_now_deeds s_now_feeding s_now_large a1 (fun x2 x3 x4 => fX3_giveUp_48 s_now_people s_now_kinds s_now_deeds s_now_feeding s_now_large a1 n48 x2 x3 x4) x2 x3 x4 y0 = some out → W p l e ({ frames := 5, cells := 0, slots := 0, locals := 115 }) s m args below meth c H locs 0 0 Q (F0 m 77 ls [.int y0]) := by
        intro x2 x3 x4 y0 H locs ls hP hS hl hf
        refine lv_istore (lv' := [(5, .int y0), (0, .ref h0), (1, .int a1), (2, .int x2), (3, .int x3), (4, .int x4)]) hx hb dX3_giveUp_77 hl (by decide) rfl (fun ls hl => ?_)
        refine lv_iload hx hb dX3_giveUp_79 (lv_at hl 5 rfl) ?_
        refine lv_iload_n hx hb dX3_giveUp_81 rfl (lv_at hl 3 rfl) ?_
        refine lv_iand hx hb dX3_giveUp_82 ?_
        refine lv_iload hx hb dX3_giveUp_83 (lv_at hl 5 rfl) ?_
        refine lv_icmp_ne (tgt := 119) hx hb dX3_giveUp_85 (by decide) (fun c11 => ?_) (fun c11 => ?_)
        · have hf := iteF hf c11
          refine lv_iinc (v := (x4 + 1)) (lv' := [(4, .int (x4 + 1)), (5, .int y0), (0, .ref h0), (1, .int a1), (2, .int x2), (3, .int x3)]) hx hb dX3_giveUp_119 hl (k := 5) rfl rfl (by decide) rfl (fun ls hl => ?_)
          refine lv_goto (tgt := 48) hx hb dX3_giveUp_122 (by decide) ?_
          exact ih48 x2 x3 (x4 + 1) _ _ _ hP hS (lv_sub hl [2, 3, 4, 5, 0] rfl) hf
        · have hf := iteT hf c11
          refine lv_iload hx hb dX3_giveUp_88 (lv_at hl 0 rfl) ?_
          refine lv_if_eq (tgt := 119) hx hb dX3_giveUp_90 (by decide) (fun c12 => ?_) (fun c12 => ?_)
          · have hf := iteT hf c12
            refine lv_iinc (v := (x4 + 1)) (lv' := [(4, .int (x4 + 1)), (5, .int y0), (0, .ref h0), (1, .int a1), (2, .int x2), (3, .int x3)]) hx hb dX3_giveUp_119 hl (k := 5) rfl rfl (by decide) rfl (fun ls hl => ?_)
            refine lv_goto (tgt := 48) hx hb dX3_giveUp_122 (by decide) ?_
            exact ih48 x2 x3 (x4 + 1) _ _ _ hP hS (lv_sub hl [2, 3, 4, 5, 0] rfl) hf
          · have hf := iteF hf c12
            refine lv_aload_n hx hb dX3_giveUp_93 rfl (lv_at hl 1 rfl) ?_
            refine va_get (D := gD G) (ci := 3) (v := .ref (ad 1)) (C := RX3) (T := TX3) (N := 11) hx hb hts hi_X3 hown hK.1 hP 0 rfl rfl 1 (by decide) kl_19 (fun _ h9 => h9) rfl dX3_giveUp_94 ?_
            refine lv_iload_n hx hb dX3_giveUp_97 rfl (lv_at hl 2 rfl) ?_
            refine lv_aload_n hx hb dX3_giveUp_98 rfl (lv_at hl 1 rfl) ?_
            refine va_get (D := gD G) (ci := 3) (v := .ref (ad 1)) (C := RX3) (T := TX3) (N := 11) hx hb hts hi_X3 hown hK.1 hP 0 rfl rfl 1 (by decide) kl_19 (fun _ h9 => h9) rfl dX3_giveUp_99 ?_
            refine va_getN (D := gD G) (ci := 1) (v := .int s_now_large) (C := RX1) (T := TX1) (N := 7) hx hb hts hi_X1 hown hK.1 hP 1 rfl rfl 4 (by decide) (nf_X3_72 hK.2) (fun _ h9 => h9) rfl dX3_giveUp_102 ?_
            refine lv_iload hx hb dX3_giveUp_105 (lv_at hl 5 rfl) ?_
            refine lv_iconst (v := (-1)) hx hb dX3_giveUp_107 (by decide) ?_
            refine lv_ixor hx hb dX3_giveUp_108 ?_
            refine lv_iand hx hb dX3_giveUp_109 ?_
            obtain ⟨o13, hc14, hf⟩ := bindS hf
            refine ro_i (va_runVN (C := RX1) (As := [.int a1, .int (s_now_large &&& (x4 ^^^ (-1)))]) (rest := []) ⟨hx, hb, hml, hown, hts⟩ (ctX1_isTaken l G (ad 1) s_now_people s_now_kinds s_now_deeds s_now_feeding s_now_large s_now_dead s_now_dayNumber a1 (s_now_large &&& (x4 ^^^ (-1))) o13 hc14) ⟨va_cnB 2 hts gX3_giveUp_X1_isTaken_n161 rfl rfl rfl (nm_X3_161 hK.2) (hts (.initialized RX1) (by decide +kernel)) (by decide +kernel) ⟨Nat.le_of_ble_eq_true rfl, Nat.le_of_ble_eq_true rfl⟩, hts (.instanceMethod yX1_isTaken) (by decide +kernel), hts (.selects RX1 yX1_isTaken yX1_isTaken) (by decide +kernel)⟩ (preR_V (q0 := 0) (ci := 1) (hP.sub (ws' := [(ad 1, stE s_now_people s_now_kinds s_now_deeds s_now_feeding s_now_large s_now_dead s_now_dayNumber)]) [1] rfl) hK rfl rfl) rfl rfl hl.1 rfl (lv_room (Nat.le_of_ble_eq_true rfl)) dX3_giveUp_110 ⟨Nat.zero_le _, Nat.zero_le _⟩) hS hP (fun H locs hP hS => ?_)
            refine lv_if_eq (tgt := 119) hx hb dX3_giveUp_113 (by decide) (fun c15 => ?_) (fun c15 => ?_)
            · have hf := iteT hf c15
              refine lv_iinc (v := (x4 + 1)) (lv' := [(4, .int (x4 + 1)), (5, .int y0), (0, .ref h0), (1, .int a1), (2, .int x2), (3, .int x3)]) hx hb dX3_giveUp_119 hl (k := 5) rfl rfl (by decide) rfl (fun ls hl => ?_)
              refine lv_goto (tgt := 48) hx hb dX3_giveUp_122 (by decide) ?_
              exact ih48 x2 x3 (x4 + 1) _ _ _ hP hS (lv_sub hl [2, 3, 4, 5, 0] rfl) hf
            · have hf := iteF hf c15
              refine lv_iload hx hb dX3_giveUp_116 (lv_at hl 5 rfl) ?_
              refine lv_istore_n (lv' := [(3, .int x4), (5, .int y0), (0, .ref h0), (1, .int a1), (2, .int x2), (4, .int x4)]) hx hb dX3_giveUp_118 rfl hl (by decide) rfl (fun ls hl => ?_)
              refine lv_iinc (v := (x4 + 1)) (lv' := [(4, .int (x4 + 1)), (3, .int x4), (5, .int y0), (0, .ref h0), (1, .int a1), (2, .int x2)]) hx hb dX3_giveUp_119 hl (k := 5) rfl rfl (by decide) rfl (fun ls hl => ?_)
              refine lv_goto (tgt := 48) hx hb dX3_giveUp_122 (by decide) ?_
              exact ih48 x2 x4 (x4 + 1) _ _ _ hP hS (lv_sub hl [3, 4, 5, 1, 0] rfl) hf
      have hC72 : ∀ (x2 : Int32) (x3 : Int32) (x4 : Int32) (H : Heap) (locs : List Loc) (ls : Array Slot), va_P (gD G) vwCl [(h0, xoE ad s_keptSlots s_seenCount s_seed), (ad 1, stE s_now_people s_now_kinds s_now_deeds s_now_feeding s_now_large s_now_dead s_now_dayNumber)] H → va_S noA s.heap H locs → lv_has ls 6 [(0, .ref h0), (1, .int a1), (2, .int x2), (3, .int x3), (4, .int x4)] → fX3_giveUp_72 s_now_people s_now_kinds s_now_deeds s_now_feeding s_now_large a1 (fun x2 x3 x4 => fX3_giveUp_48 s_now_people s_now_kinds s_now_deeds s_now_feeding s_now_large a1 n48 x2 x3 x4) x2 x3 x4 = some out → W p l e ({ frames := 5, cells := 0, slots := 0, locals := 115 }) s m args below meth c H locs 0 0 Q (F0 m 72 ls []) := by
        intro x2 x3 x4 H locs ls hP hS hl hf
        refine lv_iconst (v := 1) hx hb dX3_giveUp_72 (by decide) ?_
        refine lv_goto (tgt := 77) hx hb dX3_giveUp_73 (by decide) ?_
        exact hC77 x2 x3 x4 1 _ _ _ hP hS (lv_sub hl [0, 1, 2, 3, 4] rfl) hf
      intro x2 x3 x4 H locs ls hP hS hl hf
      refine lv_iload hx hb dX3_giveUp_48 (lv_at hl 4 rfl) ?_
      refine lv_iload_n hx hb dX3_giveUp_50 rfl (lv_at hl 2 rfl) ?_
      refine lv_icmp_gt (tgt := 125) hx hb dX3_giveUp_51 (by decide) (fun c9 => ?_) (fun c9 => ?_)
      · have hf := iteT hf c9
        refine lv_iload_n hx hb dX3_giveUp_125 rfl (lv_at hl 3 rfl) ?_
        have hv := Option.some.inj hf
        exact hret _ _ _ _ _ hS hv dX3_giveUp_126
      · have hf := iteF hf c9
        refine lv_iload_n hx hb dX3_giveUp_54 rfl (lv_at hl 3 rfl) ?_
        refine lv_bipush (v := (-9)) hx hb dX3_giveUp_55 (by decide) ?_
        refine lv_icmp_eq (tgt := 72) hx hb dX3_giveUp_57 (by decide) (fun c10 => ?_) (fun c10 => ?_)
        · have hf := iteT hf c10
          exact hC72 x2 x3 x4 _ _ _ hP hS (lv_sub hl [0, 1, 2, 3, 4] rfl) hf
        · have hf := iteF hf c10
          refine lv_iload hx hb dX3_giveUp_60 (lv_at hl 4 rfl) ?_
          obtain ⟨o16, hc17, hf⟩ := bindS hf
          refine ro_i (va_runS (As := [.int x4]) (rest := []) ⟨hx, hb, hml, hown, hts⟩ (ctJ6_bitCount_0f7a4 l G x4 o16 hc17) (va_cwS 1 hts gX3_giveUp_J6_bitCount_0f7a4 rfl rfl rfl (by decide +kernel) ⟨Nat.le_of_ble_eq_true rfl, Nat.le_of_ble_eq_true rfl⟩) (preR_S (hP.sub (ws' := []) [] rfl) hK) rfl rfl hl.1 rfl (lv_room (Nat.le_of_ble_eq_true rfl)) dX3_giveUp_62 ⟨Nat.zero_le _, Nat.zero_le _⟩) hS hP (fun H locs hP hS => ?_)
          refine lv_iload_n hx hb dX3_giveUp_65 rfl (lv_at hl 3 rfl) ?_
          obtain ⟨o18, hc19, hf⟩ := bindS hf
          refine ro_i (va_runS (As := [.int x3]) (rest := [.int o16]) ⟨hx, hb, hml, hown, hts⟩ (ctJ6_bitCount_0f7a4 l G x3 o18 hc19) (va_cwS 1 hts gX3_giveUp_J6_bitCount_0f7a4 rfl rfl rfl (by decide +kernel) ⟨Nat.le_of_ble_eq_true rfl, Nat.le_of_ble_eq_true rfl⟩) (preR_S (hP.sub (ws' := []) [] rfl) hK) rfl rfl hl.1 rfl (lv_room (Nat.le_of_ble_eq_true rfl)) dX3_giveUp_66 ⟨Nat.zero_le _, Nat.zero_le _⟩) hS hP (fun H locs hP hS => ?_)
          refine lv_icmp_ge (tgt := 76) hx hb dX3_giveUp_69 (by decide) (fun c20 => ?_) (fun c20 => ?_)
          · have hf := iteT hf c20
            refine lv_iconst (v := 0) hx hb dX3_giveUp_76 (by decide) ?_
            exact hC77 x2 x3 x4 0 _ _ _ hP hS (lv_sub hl [0, 1, 2, 3, 4] rfl) hf
          · have hf := iteF hf c20
            exact hC72 x2 x3 x4 _ _ _ hP hS (lv_sub hl [0, 1, 2, 3, 4] rfl) hf
  refine lv_aload_n hx hb dX3_giveUp_0 rfl (lv_at hl 0 rfl) ?_
  refine va_get (D := gD G) (ci := 3) (v := .ref (ad 1)) (C := RX3) (T := TX3) (N := 11) hx hb hts hi_X3 hown hK.1 hP 0 rfl rfl 1 (by decide) kl_19 (fun _ h9 => h9) rfl dX3_giveUp_1 ?_
  refine lv_iload_n hx hb dX3_giveUp_4 rfl (lv_at hl 1 rfl) ?_
  obtain ⟨o1, hc2, hf⟩ := bindS hf
  refine ro_i (va_runVN (C := RX1) (As := [.int a1]) (rest := []) ⟨hx, hb, hml, hown, hts⟩ (ctX1_has l G (ad 1) s_now_people s_now_kinds s_now_deeds s_now_feeding s_now_large s_now_dead s_now_dayNumber a1 o1 hc2) ⟨va_cnB 1 hts gX3_giveUp_X1_has_n92 rfl rfl rfl (nm_X3_92 hK.2) (hts (.initialized RX1) (by decide +kernel)) (by decide +kernel) ⟨Nat.le_of_ble_eq_true rfl, Nat.le_of_ble_eq_true rfl⟩, hts (.instanceMethod yX1_has) (by decide +kernel), hts (.selects RX1 yX1_has yX1_has) (by decide +kernel)⟩ (preR_V (q0 := 0) (ci := 1) (hP.sub (ws' := [(ad 1, stE s_now_people s_now_kinds s_now_deeds s_now_feeding s_now_large s_now_dead s_now_dayNumber)]) [1] rfl) hK rfl rfl) rfl rfl hl.1 rfl (lv_room (Nat.le_of_ble_eq_true rfl)) dX3_giveUp_5 ⟨Nat.zero_le _, Nat.zero_le _⟩) hS hP (fun H locs hP hS => ?_)
  refine lv_if_ne (tgt := 13) hx hb dX3_giveUp_8 (by decide) (fun c3 => ?_) (fun c3 => ?_)
  · have hf := iteF hf c3
    refine lv_aload_n hx hb dX3_giveUp_13 rfl (lv_at hl 0 rfl) ?_
    refine va_get (D := gD G) (ci := 3) (v := .ref (ad 1)) (C := RX3) (T := TX3) (N := 11) hx hb hts hi_X3 hown hK.1 hP 0 rfl rfl 1 (by decide) kl_19 (fun _ h9 => h9) rfl dX3_giveUp_14 ?_
    refine va_getN (D := gD G) (ci := 1) (v := .int s_now_large) (C := RX1) (T := TX1) (N := 7) hx hb hts hi_X1 hown hK.1 hP 1 rfl rfl 4 (by decide) (nf_X3_72 hK.2) (fun _ h9 => h9) rfl dX3_giveUp_17 ?_
    refine lv_iload_n hx hb dX3_giveUp_20 rfl (lv_at hl 1 rfl) ?_
    obtain ⟨o4, hc5, hf⟩ := bindS hf
    refine ro_i (va_runS (As := [.int s_now_large, .int a1]) (rest := []) ⟨hx, hb, hml, hown, hts⟩ (ctX3_isIn l G s_now_large a1 o4 hc5) (va_cwS 2 hts gX3_giveUp_X3_isIn rfl rfl rfl (by decide +kernel) ⟨Nat.le_of_ble_eq_true rfl, Nat.le_of_ble_eq_true rfl⟩) (preR_S (hP.sub (ws' := []) [] rfl) hK) rfl rfl hl.1 rfl (lv_room (Nat.le_of_ble_eq_true rfl)) dX3_giveUp_21 ⟨Nat.zero_le _, Nat.zero_le _⟩) hS hP (fun H locs hP hS => ?_)
    refine lv_if_ne (tgt := 30) hx hb dX3_giveUp_24 (by decide) (fun c6 => ?_) (fun c6 => ?_)
    · have hf := iteF hf c6
      refine lv_aload_n hx hb dX3_giveUp_30 rfl (lv_at hl 0 rfl) ?_
      refine va_get (D := gD G) (ci := 3) (v := .ref (ad 1)) (C := RX3) (T := TX3) (N := 11) hx hb hts hi_X3 hown hK.1 hP 0 rfl rfl 1 (by decide) kl_19 (fun _ h9 => h9) rfl dX3_giveUp_31 ?_
      refine va_getN (D := gD G) (ci := 1) (v := .int s_now_large) (C := RX1) (T := TX1) (N := 7) hx hb hts hi_X1 hown hK.1 hP 1 rfl rfl 4 (by decide) (nf_X3_72 hK.2) (fun _ h9 => h9) rfl dX3_giveUp_34 ?_
      refine lv_iload_n hx hb dX3_giveUp_37 rfl (lv_at hl 1 rfl) ?_
      obtain ⟨o7, hc8, hf⟩ := bindS hf
      refine ro_i (va_runS (As := [.int s_now_large, .int a1]) (rest := []) ⟨hx, hb, hml, hown, hts⟩ (ctX3_without l G s_now_large a1 o7 hc8) (va_cwS 2 hts gX3_giveUp_X3_without rfl rfl rfl (by decide +kernel) ⟨Nat.le_of_ble_eq_true rfl, Nat.le_of_ble_eq_true rfl⟩) (preR_S (hP.sub (ws' := []) [] rfl) hK) rfl rfl hl.1 rfl (lv_room (Nat.le_of_ble_eq_true rfl)) dX3_giveUp_38 ⟨Nat.zero_le _, Nat.zero_le _⟩) hS hP (fun H locs hP hS => ?_)
      refine lv_istore_n (lv' := [(2, .int o7), (0, .ref h0), (1, .int a1)]) hx hb dX3_giveUp_41 rfl hl (by decide) rfl (fun ls hl => ?_)
      refine lv_bipush (v := (-9)) hx hb dX3_giveUp_42 (by decide) ?_
      refine lv_istore_n (lv' := [(3, .int (-9)), (2, .int o7), (0, .ref h0), (1, .int a1)]) hx hb dX3_giveUp_44 rfl hl (by decide) rfl (fun ls hl => ?_)
      refine lv_iconst (v := 0) hx hb dX3_giveUp_45 (by decide) ?_
      refine lv_istore (lv' := [(4, .int 0), (3, .int (-9)), (2, .int o7), (0, .ref h0), (1, .int a1)]) hx hb dX3_giveUp_46 hl (by decide) rfl (fun ls hl => ?_)
      exact hC48 130 o7 (-9) 0 _ _ _ hP hS (lv_sub hl [3, 4, 2, 1, 0] rfl) hf
    · have hf := iteT hf c6
      refine lv_bipush (v := (-3)) hx hb dX3_giveUp_27 (by decide) ?_
      have hv := Option.some.inj hf
      exact hret _ _ _ _ _ hS hv dX3_giveUp_29
  · have hf := iteT hf c3
    refine lv_iconst (v := (-1)) hx hb dX3_giveUp_11 (by decide) ?_
    have hv := Option.some.inj hf
    exact hret _ _ _ _ _ hS hv dX3_giveUp_12
def fX3_claim_48 (a1 : Int32) : Nat → Int32 → Int32 → Int32 → Int32 → Int32 → Int32 → Int64 → Int32 → Int32 → Int32 → Option (Int32 × Int32 × Int32 × Int32 × Int64 × Int32 × Int32 × Int32)
  | 0, _, _, _, _, _, _, _, _, _, _ => none
  | n + 1, x2, x3, x4, s_trial_people, s_trial_kinds, s_trial_deeds, s_trial_feeding, s_trial_large, s_trial_dead, s_trial_dayNumber => (if 10 ≤ x4 then some (x2, s_trial_people, s_trial_kinds, s_trial_deeds, s_trial_feeding, s_trial_large, s_trial_dead, s_trial_dayNumber) else (fX1_setDeed s_trial_deeds a1 x4).bind fun o10 => ((fX1_worthOf s_trial_people s_trial_kinds o10 s_trial_feeding s_trial_large a1).bind fun o12 => ((if o12 ≤ x3 then (fX3_claim_48 a1 n x2 x3 (x4 + 1) s_trial_people s_trial_kinds o10 s_trial_feeding s_trial_large s_trial_dead s_trial_dayNumber) else (fX3_claim_48 a1 n x4 o12 (x4 + 1) s_trial_people s_trial_kinds o10 s_trial_feeding s_trial_large s_trial_dead s_trial_dayNumber)))))
def fX3_claim (s_now_people : Int32) (s_now_kinds : Int32) (s_now_deeds : Int32) (s_now_feeding : Int64) (s_now_large : Int32) (s_now_dead : Int32) (s_now_dayNumber : Int32) (s_trial_people : Int32) (s_trial_kinds : Int32) (s_trial_deeds : Int32) (s_trial_feeding : Int64) (s_trial_large : Int32) (s_trial_dead : Int32) (s_trial_dayNumber : Int32) (a1 : Int32) : Option (Int32 × Int32 × Int32 × Int32 × Int64 × Int32 × Int32 × Int32) :=
  (fX1_has s_now_people a1).bind fun o1 => ((if o1 = 0 then some ((-1), s_trial_people, s_trial_kinds, s_trial_deeds, s_trial_feeding, s_trial_large, s_trial_dead, s_trial_dayNumber) else (fX3_isIn s_now_large a1).bind fun o4 => ((if o4 = 0 then some ((-3), s_trial_people, s_trial_kinds, s_trial_deeds, s_trial_feeding, s_trial_large, s_trial_dead, s_trial_dayNumber) else (fX1_copy s_trial_people s_trial_kinds s_trial_deeds s_trial_feeding s_trial_large s_trial_dead s_trial_dayNumber s_now_people s_now_kinds s_now_deeds s_now_feeding s_now_large s_now_dead s_now_dayNumber).bind fun o7 => ((fX3_claim_48 a1 12 0 (-1) 0 o7.1 o7.2.1 o7.2.2.1 o7.2.2.2.1 o7.2.2.2.2.1 o7.2.2.2.2.2.1 o7.2.2.2.2.2.2))))))
set_option maxHeartbeats 4000000 in
set_option maxRecDepth 100000 in
theorem ctX3_claim (l : Launch) (G : GG) (h0 : Nat) (ad : Nat → Nat) (s_keptSlots : Int32) (s_seenCount : Int32) (s_seed : Int64) (s_now_people : Int32) (s_now_kinds : Int32) (s_now_deeds : Int32) (s_now_feeding : Int64) (s_now_large : Int32) (s_now_dead : Int32) (s_now_dayNumber : Int32) (s_trial_people : Int32) (s_trial_kinds : Int32) (s_trial_deeds : Int32) (s_trial_feeding : Int64) (s_trial_large : Int32) (s_trial_dead : Int32) (s_trial_dayNumber : Int32) (a1 : Int32) (out : Int32 × Int32 × Int32 × Int32 × Int64 × Int32 × Int32 × Int32) (hf : fX3_claim s_now_people s_now_kinds s_now_deeds s_now_feeding s_now_large s_now_dead s_now_dayNumber s_trial_people s_trial_kinds s_trial_deeds s_trial_feeding s_trial_large s_trial_dead s_trial_dayNumber a1 = some out) : Met l yX3_claim wsX3_claim ({ frames := 5, cells := 0, slots := 0, locals := 115 }) (PcW G [.ref h0, .int a1] [(h0, xoE ad s_keptSlots s_seenCount s_seed), (ad 1, stE s_now_people s_now_kinds s_now_deeds s_now_feeding s_now_large s_now_dead s_now_dayNumber), (ad 2, stE s_trial_people s_trial_kinds s_trial_deeds s_trial_feeding s_trial_large s_trial_dead s_trial_dayNumber)]) (QiW G [(h0, xoE ad s_keptSlots s_seenCount s_seed), (ad 1, stE s_now_people s_now_kinds s_now_deeds s_now_feeding s_now_large s_now_dead s_now_dayNumber), (ad 2, stE s_trial_people s_trial_kinds s_trial_deeds s_trial_feeding s_trial_large s_trial_dead s_trial_dayNumber)] [(h0, xoE ad s_keptSlots s_seenCount s_seed), (ad 1, stE s_now_people s_now_kinds s_now_deeds s_now_feeding s_now_large s_now_dead s_now_dayNumber), (ad 2, stE out.2.1 out.2.2.1 out.2.2.2.1 out.2.2.2.2.1 out.2.2.2.2.2.1 out.2.2.2.2.2.2.1 out.2.2.2.2.2.2.2)] out.1) 0 0 (inA [(h0, xoE ad s_keptSlots s_seenCount s_seed), (ad 1, stE s_now_people s_now_kinds s_now_deeds s_now_feeding s_now_large s_now_dead s_now_dayNumber), (ad 2, stE s_trial_people s_trial_kinds s_trial_deeds s_trial_feeding s_trial_large s_trial_dead s_trial_dayNumber)]) := by
  refine mk_Wi (cc := cX3_claim) (maxL := 6) (by decide) rfl (Nat.le_of_ble_eq_true rfl) ?_
  intro p e s m args below meth c Q ls A S hP hK hD hl hret
  obtain ⟨hx, hb, hml, hown, hts⟩ := S
  have hown : s.vm.findClass RX3 = some m.cls := hown
  have kl_19 := hts (.fieldLink RX3 19 "ArrestOrder" "now" "LArrestOrder$Standing;") (by decide +kernel)
  have hi_X3 : ∀ w ∈ wsX30, w ∈ wsX3_claim := fun _ h => List.mem_cons_of_mem _ (List.mem_append_left _ (List.mem_append_right _ h))
  have hi_X1 : ∀ w ∈ wsX10, w ∈ wsX3_claim := fun _ h => List.mem_cons_of_mem _ (List.mem_append_right _ h)
  have kl_23 := hts (.fieldLink RX3 23 "ArrestOrder" "trial" "LArrestOrder$Standing;") (by decide +kernel)
  have hS : va_S A s.heap s.heap [] := va_S.rf
  have hl : lv_has ls 6 [(0, .ref h0), (1, .int a1)] := hl
  have hC48 : ∀ (n : Nat) (x2 : Int32) (x3 : Int32) (x4 : Int32) (s_trial_people : Int32) (s_trial_kinds : Int32) (s_trial_deeds : Int32) (s_trial_feeding : Int64) (s_trial_large : Int32) (s_trial_dead : Int32) (s_trial_dayNumber : Int32) (H : Heap) (locs : List Loc) (ls : Array Slot), va_P (gD G) vwCl [(h0, xoE ad s_keptSlots s_seenCount s_seed), (ad 1, stE s_now_people s_now_kinds s_now_deeds s_now_feeding s_now_large s_now_dead s_now_dayNumber), (ad 2, stE s_trial_people s_trial_kinds s_trial_deeds s_trial_feeding s_trial_large s_trial_dead s_trial_dayNumber)] H → va_D A [(h0, xoE ad s_keptSlots s_seenCount s_seed), (ad 1, stE s_now_people s_now_kinds s_now_deeds s_now_feeding s_now_large s_now_dead s_now_dayNumber), (ad 2, stE s_trial_people s_trial_kinds s_trial_deeds s_trial_feeding s_trial_large s_trial_dead s_trial_dayNumber)] → va_S A s.heap H locs → lv_has ls 6 [(0, .ref h0), (1, .int a1), (2, .int x2), (3, .int x3), (4, .int x4)] → fX3_claim_48 a1 n x2 x3 x4 s_trial_people s_trial_kinds s_trial_deeds s_trial_feeding s_trial_large s_trial_dead s_trial_dayNumber = some out → W p l e ({ frames := 5, cells := 0, slots := 0, locals := 115 }) s m args below meth c H locs 0 0 Q (F0 m 48 ls []) := by
    intro n48
    induction n48 with
    | zero => intro x2 x3 x4 s_trial_people s_trial_kinds s_trial_deeds s_trial_feeding s_trial_large s_trial_dead s_trial_dayNumber H locs ls hP hD hS hl hf; exact absurd (show none = some out from hf) (fun z => by cases z)
    | succ n48 ih48 =>
      intro x2 x3 x4 s_trial_people s_trial_kinds s_trial_deeds s_trial_feeding s_trial_large s_trial_dead s_trial_dayNumber H locs ls hP hD hS hl hf
      refine lv_iload hx hb dX3_claim_48 (lv_at hl 4 rfl) ?_
      refine lv_bipush (v := 10) hx hb dX3_claim_50 (by decide) ?_
      refine lv_icmp_ge (tgt := 93) hx hb dX3_claim_52 (by decide) (fun c9 => ?_) (fun c9 => ?_)
      · have hf := iteT hf c9
        refine lv_iload_n hx hb dX3_claim_93 rfl (lv_at hl 2 rfl) ?_
        have hv := Option.some.inj hf
        exact hret _ _ _ _ _ (by rw [← hv]; exact hP) hS (by rw [← hv]) dX3_claim_94
      · have hf := iteF hf c9
        refine lv_aload_n hx hb dX3_claim_55 rfl (lv_at hl 0 rfl) ?_
        refine va_get (D := gD G) (ci := 3) (v := .ref (ad 2)) (C := RX3) (T := TX3) (N := 11) hx hb hts hi_X3 hown hK.1 hP 0 rfl rfl 2 (by decide) kl_23 (fun _ h9 => h9) rfl dX3_claim_56 ?_
        refine lv_iload_n hx hb dX3_claim_59 rfl (lv_at hl 1 rfl) ?_
        refine lv_iload hx hb dX3_claim_60 (lv_at hl 4 rfl) ?_
        obtain ⟨o10, hc11, hf⟩ := bindS hf
        refine rw_v (va_runVN (C := RX1) (As := [.int a1, .int x4]) (rest := []) ⟨hx, hb, hml, hown, hts⟩ (ctX1_setDeed l G (ad 2) s_trial_people s_trial_kinds s_trial_deeds s_trial_feeding s_trial_large s_trial_dead s_trial_dayNumber a1 x4 o10 hc11) ⟨va_cnB 2 hts gX3_claim_X1_setDeed_n141 rfl rfl rfl (nm_X3_141 hK.2) (hts (.initialized RX1) (by decide +kernel)) (by decide +kernel) ⟨Nat.le_of_ble_eq_true rfl, Nat.le_of_ble_eq_true rfl⟩, hts (.instanceMethod yX1_setDeed) (by decide +kernel), hts (.selects RX1 yX1_setDeed yX1_setDeed) (by decide +kernel)⟩ (preW_V (q0 := 0) (ci := 1) (hP.sub (ws' := [(ad 2, stE s_trial_people s_trial_kinds s_trial_deeds s_trial_feeding s_trial_large s_trial_dead s_trial_dayNumber)]) [2] rfl) (hD.sub (ws' := [(ad 2, stE s_trial_people s_trial_kinds s_trial_deeds s_trial_feeding s_trial_large s_trial_dead s_trial_dayNumber)]) [2] (by decide) rfl) hK rfl rfl) rfl rfl hl.1 rfl (lv_room (Nat.le_of_ble_eq_true rfl)) dX3_claim_62 ⟨Nat.zero_le _, Nat.zero_le _⟩) hS hP hD [2] rfl rfl rfl (fun H locs hP hD hS => ?_)
        have hP : va_P (gD G) vwCl [(h0, xoE ad s_keptSlots s_seenCount s_seed), (ad 1, stE s_now_people s_now_kinds s_now_deeds s_now_feeding s_now_large s_now_dead s_now_dayNumber), (ad 2, stE s_trial_people s_trial_kinds o10 s_trial_feeding s_trial_large s_trial_dead s_trial_dayNumber)] H := hP
        have hD : va_D A [(h0, xoE ad s_keptSlots s_seenCount s_seed), (ad 1, stE s_now_people s_now_kinds s_now_deeds s_now_feeding s_now_large s_now_dead s_now_dayNumber), (ad 2, stE s_trial_people s_trial_kinds o10 s_trial_feeding s_trial_large s_trial_dead s_trial_dayNumber)] := hD
        refine lv_aload_n hx hb dX3_claim_65 rfl (lv_at hl 0 rfl) ?_
        refine va_get (D := gD G) (ci := 3) (v := .ref (ad 2)) (C := RX3) (T := TX3) (N := 11) hx hb hts hi_X3 hown hK.1 hP 0 rfl rfl 2 (by decide) kl_23 (fun _ h9 => h9) rfl dX3_claim_66 ?_
        refine lv_iload_n hx hb dX3_claim_69 rfl (lv_at hl 1 rfl) ?_
        obtain ⟨o12, hc13, hf⟩ := bindS hf
        refine ro_i (va_runVN (C := RX1) (As := [.int a1]) (rest := []) ⟨hx, hb, hml, hown, hts⟩ (ctX1_worthOf l G (ad 2) s_trial_people s_trial_kinds o10 s_trial_feeding s_trial_large s_trial_dead s_trial_dayNumber a1 o12 hc13) ⟨va_cnB 1 hts gX3_claim_X1_worthOf_n170 rfl rfl rfl (nm_X3_170 hK.2) (hts (.initialized RX1) (by decide +kernel)) (by decide +kernel) ⟨Nat.le_of_ble_eq_true rfl, Nat.le_of_ble_eq_true rfl⟩, hts (.instanceMethod yX1_worthOf) (by decide +kernel), hts (.selects RX1 yX1_worthOf yX1_worthOf) (by decide +kernel)⟩ (preR_V (q0 := 0) (ci := 1) (hP.sub (ws' := [(ad 2, stE s_trial_people s_trial_kinds o10 s_trial_feeding s_trial_large s_trial_dead s_trial_dayNumber)]) [2] rfl) hK rfl rfl) rfl rfl hl.1 rfl (lv_room (Nat.le_of_ble_eq_true rfl)) dX3_claim_70 ⟨Nat.zero_le _, Nat.zero_le _⟩) hS hP (fun H locs hP hS => ?_)
        refine lv_istore (lv' := [(5, .int o12), (0, .ref h0), (1, .int a1), (2, .int x2), (3, .int x3), (4, .int x4)]) hx hb dX3_claim_73 hl (by decide) rfl (fun ls hl => ?_)
        refine lv_iload hx hb dX3_claim_75 (lv_at hl 0 rfl) ?_
        refine lv_iload_n hx hb dX3_claim_77 rfl (lv_at hl 4 rfl) ?_
        refine lv_icmp_le (tgt := 87) hx hb dX3_claim_78 (by decide) (fun c14 => ?_) (fun c14 => ?_)
        · have hf := iteT hf c14
          refine lv_iinc (v := (x4 + 1)) (lv' := [(4, .int (x4 + 1)), (5, .int o12), (0, .ref h0), (1, .int a1), (2, .int x2), (3, .int x3)]) hx hb dX3_claim_87 hl (k := 5) rfl rfl (by decide) rfl (fun ls hl => ?_)
          refine lv_goto (tgt := 48) hx hb dX3_claim_90 (by decide) ?_
          exact ih48 x2 x3 (x4 + 1) s_trial_people s_trial_kinds o10 s_trial_feeding s_trial_large s_trial_dead s_trial_dayNumber _ _ _ hP hD hS (lv_sub hl [2, 3, 4, 5, 0] rfl) hf
        · have hf := iteF hf c14
          refine lv_iload hx hb dX3_claim_81 (lv_at hl 0 rfl) ?_
          refine lv_istore_n (lv' := [(3, .int o12), (5, .int o12), (0, .ref h0), (1, .int a1), (2, .int x2), (4, .int x4)]) hx hb dX3_claim_83 rfl hl (by decide) rfl (fun ls hl => ?_)
          refine lv_iload hx hb dX3_claim_84 (lv_at hl 5 rfl) ?_
          refine lv_istore_n (lv' := [(2, .int x4), (3, .int o12), (5, .int o12), (0, .ref h0), (1, .int a1), (4, .int x4)]) hx hb dX3_claim_86 rfl hl (by decide) rfl (fun ls hl => ?_)
          refine lv_iinc (v := (x4 + 1)) (lv' := [(4, .int (x4 + 1)), (2, .int x4), (3, .int o12), (5, .int o12), (0, .ref h0), (1, .int a1)]) hx hb dX3_claim_87 hl (k := 5) rfl rfl (by decide) rfl (fun ls hl => ?_)
          refine lv_goto (tgt := 48) hx hb dX3_claim_90 (by decide) ?_
          exact ih48 x4 o12 (x4 + 1) s_trial_people s_trial_kinds o10 s_trial_feeding s_trial_large s_trial_dead s_trial_dayNumber _ _ _ hP hD hS (lv_sub hl [4, 5, 1, 2, 0] rfl) hf
  refine lv_aload_n hx hb dX3_claim_0 rfl (lv_at hl 0 rfl) ?_
  refine va_get (D := gD G) (ci := 3) (v := .ref (ad 1)) (C := RX3) (T := TX3) (N := 11) hx hb hts hi_X3 hown hK.1 hP 0 rfl rfl 1 (by decide) kl_19 (fun _ h9 => h9) rfl dX3_claim_1 ?_
  refine lv_iload_n hx hb dX3_claim_4 rfl (lv_at hl 1 rfl) ?_
  obtain ⟨o1, hc2, hf⟩ := bindS hf
  refine ro_i (va_runVN (C := RX1) (As := [.int a1]) (rest := []) ⟨hx, hb, hml, hown, hts⟩ (ctX1_has l G (ad 1) s_now_people s_now_kinds s_now_deeds s_now_feeding s_now_large s_now_dead s_now_dayNumber a1 o1 hc2) ⟨va_cnB 1 hts gX3_claim_X1_has_n92 rfl rfl rfl (nm_X3_92 hK.2) (hts (.initialized RX1) (by decide +kernel)) (by decide +kernel) ⟨Nat.le_of_ble_eq_true rfl, Nat.le_of_ble_eq_true rfl⟩, hts (.instanceMethod yX1_has) (by decide +kernel), hts (.selects RX1 yX1_has yX1_has) (by decide +kernel)⟩ (preR_V (q0 := 0) (ci := 1) (hP.sub (ws' := [(ad 1, stE s_now_people s_now_kinds s_now_deeds s_now_feeding s_now_large s_now_dead s_now_dayNumber)]) [1] rfl) hK rfl rfl) rfl rfl hl.1 rfl (lv_room (Nat.le_of_ble_eq_true rfl)) dX3_claim_5 ⟨Nat.zero_le _, Nat.zero_le _⟩) hS hP (fun H locs hP hS => ?_)
  refine lv_if_ne (tgt := 13) hx hb dX3_claim_8 (by decide) (fun c3 => ?_) (fun c3 => ?_)
  · have hf := iteF hf c3
    refine lv_aload_n hx hb dX3_claim_13 rfl (lv_at hl 0 rfl) ?_
    refine va_get (D := gD G) (ci := 3) (v := .ref (ad 1)) (C := RX3) (T := TX3) (N := 11) hx hb hts hi_X3 hown hK.1 hP 0 rfl rfl 1 (by decide) kl_19 (fun _ h9 => h9) rfl dX3_claim_14 ?_
    refine va_getN (D := gD G) (ci := 1) (v := .int s_now_large) (C := RX1) (T := TX1) (N := 7) hx hb hts hi_X1 hown hK.1 hP 1 rfl rfl 4 (by decide) (nf_X3_72 hK.2) (fun _ h9 => h9) rfl dX3_claim_17 ?_
    refine lv_iload_n hx hb dX3_claim_20 rfl (lv_at hl 1 rfl) ?_
    obtain ⟨o4, hc5, hf⟩ := bindS hf
    refine ro_i (va_runS (As := [.int s_now_large, .int a1]) (rest := []) ⟨hx, hb, hml, hown, hts⟩ (ctX3_isIn l G s_now_large a1 o4 hc5) (va_cwS 2 hts gX3_claim_X3_isIn rfl rfl rfl (by decide +kernel) ⟨Nat.le_of_ble_eq_true rfl, Nat.le_of_ble_eq_true rfl⟩) (preR_S (hP.sub (ws' := []) [] rfl) hK) rfl rfl hl.1 rfl (lv_room (Nat.le_of_ble_eq_true rfl)) dX3_claim_21 ⟨Nat.zero_le _, Nat.zero_le _⟩) hS hP (fun H locs hP hS => ?_)
    refine lv_if_ne (tgt := 30) hx hb dX3_claim_24 (by decide) (fun c6 => ?_) (fun c6 => ?_)
    · have hf := iteF hf c6
      refine lv_aload_n hx hb dX3_claim_30 rfl (lv_at hl 0 rfl) ?_
      refine va_get (D := gD G) (ci := 3) (v := .ref (ad 2)) (C := RX3) (T := TX3) (N := 11) hx hb hts hi_X3 hown hK.1 hP 0 rfl rfl 2 (by decide) kl_23 (fun _ h9 => h9) rfl dX3_claim_31 ?_
      refine lv_aload_n hx hb dX3_claim_34 rfl (lv_at hl 0 rfl) ?_
      refine va_get (D := gD G) (ci := 3) (v := .ref (ad 1)) (C := RX3) (T := TX3) (N := 11) hx hb hts hi_X3 hown hK.1 hP 0 rfl rfl 1 (by decide) kl_19 (fun _ h9 => h9) rfl dX3_claim_35 ?_
      obtain ⟨o7, hc8, hf⟩ := bindS hf
      refine rw_v (va_runVN (C := RX1) (As := [.ref (ad 1)]) (rest := []) ⟨hx, hb, hml, hown, hts⟩ (ctX1_copy l G (ad 2) (ad 1) s_trial_people s_trial_kinds s_trial_deeds s_trial_feeding s_trial_large s_trial_dead s_trial_dayNumber s_now_people s_now_kinds s_now_deeds s_now_feeding s_now_large s_now_dead s_now_dayNumber o7 hc8) ⟨va_cnB 1 hts gX3_claim_X1_copy_n59 rfl rfl rfl (nm_X3_59 hK.2) (hts (.initialized RX1) (by decide +kernel)) (by decide +kernel) ⟨Nat.le_of_ble_eq_true rfl, Nat.le_of_ble_eq_true rfl⟩, hts (.instanceMethod yX1_copy) (by decide +kernel), hts (.selects RX1 yX1_copy yX1_copy) (by decide +kernel)⟩ (preW_V (q0 := 0) (ci := 1) (hP.sub (ws' := [(ad 2, stE s_trial_people s_trial_kinds s_trial_deeds s_trial_feeding s_trial_large s_trial_dead s_trial_dayNumber), (ad 1, stE s_now_people s_now_kinds s_now_deeds s_now_feeding s_now_large s_now_dead s_now_dayNumber)]) [2, 1] rfl) (hD.sub (ws' := [(ad 2, stE s_trial_people s_trial_kinds s_trial_deeds s_trial_feeding s_trial_large s_trial_dead s_trial_dayNumber), (ad 1, stE s_now_people s_now_kinds s_now_deeds s_now_feeding s_now_large s_now_dead s_now_dayNumber)]) [2, 1] (by decide) rfl) hK rfl rfl) rfl rfl hl.1 rfl (lv_room (Nat.le_of_ble_eq_true rfl)) dX3_claim_38 ⟨Nat.zero_le _, Nat.zero_le _⟩) hS hP hD [2, 1] rfl rfl rfl (fun H locs hP hD hS => ?_)
      have hP : va_P (gD G) vwCl [(h0, xoE ad s_keptSlots s_seenCount s_seed), (ad 1, stE s_now_people s_now_kinds s_now_deeds s_now_feeding s_now_large s_now_dead s_now_dayNumber), (ad 2, stE o7.1 o7.2.1 o7.2.2.1 o7.2.2.2.1 o7.2.2.2.2.1 o7.2.2.2.2.2.1 o7.2.2.2.2.2.2)] H := hP
      have hD : va_D A [(h0, xoE ad s_keptSlots s_seenCount s_seed), (ad 1, stE s_now_people s_now_kinds s_now_deeds s_now_feeding s_now_large s_now_dead s_now_dayNumber), (ad 2, stE o7.1 o7.2.1 o7.2.2.1 o7.2.2.2.1 o7.2.2.2.2.1 o7.2.2.2.2.2.1 o7.2.2.2.2.2.2)] := hD
      refine lv_iconst (v := 0) hx hb dX3_claim_41 (by decide) ?_
      refine lv_istore_n (lv' := [(2, .int 0), (0, .ref h0), (1, .int a1)]) hx hb dX3_claim_42 rfl hl (by decide) rfl (fun ls hl => ?_)
      refine lv_iconst (v := (-1)) hx hb dX3_claim_43 (by decide) ?_
      refine lv_istore_n (lv' := [(3, .int (-1)), (2, .int 0), (0, .ref h0), (1, .int a1)]) hx hb dX3_claim_44 rfl hl (by decide) rfl (fun ls hl => ?_)
      refine lv_iconst (v := 0) hx hb dX3_claim_45 (by decide) ?_
      refine lv_istore (lv' := [(4, .int 0), (3, .int (-1)), (2, .int 0), (0, .ref h0), (1, .int a1)]) hx hb dX3_claim_46 hl (by decide) rfl (fun ls hl => ?_)
      exact hC48 12 0 (-1) 0 o7.1 o7.2.1 o7.2.2.1 o7.2.2.2.1 o7.2.2.2.2.1 o7.2.2.2.2.2.1 o7.2.2.2.2.2.2 _ _ _ hP hD hS (lv_sub hl [3, 4, 2, 1, 0] rfl) hf
    · have hf := iteT hf c6
      refine lv_bipush (v := (-3)) hx hb dX3_claim_27 (by decide) ?_
      have hv := Option.some.inj hf
      exact hret _ _ _ _ _ (by rw [← hv]; exact hP) hS (by rw [← hv]) dX3_claim_29
  · have hf := iteT hf c3
    refine lv_iconst (v := (-1)) hx hb dX3_claim_11 (by decide) ?_
    have hv := Option.some.inj hf
    exact hret _ _ _ _ _ (by rw [← hv]; exact hP) hS (by rw [← hv]) dX3_claim_12
def fX3_share_58 (s_now_people : Int32) (s_now_kinds : Int32) (s_now_deeds : Int32) (s_now_feeding : Int64) (a1 : Int32) (a2 : Int32) : Nat → Int32 → Int32 → Int32 → Int32 → Option (Int32)
  | 0, _, _, _, _ => none
  | n + 1, x3, x4, x5, x6 => (if x3 < x6 then (fX3_factorial (x4 + 1)).bind fun o12 => ((fX3_inLeastTerms x5 o12 a2).bind fun o14 => (some o14)) else (if (x6 &&& x3) = x6 then (fJ6_bitCount_0f7a4 x6).bind fun o17 => ((fX3_factorial o17).bind fun o19 => ((fX3_factorial (x4 - o17)).bind fun o21 => ((fX3_bit a1).bind fun o23 => ((fX1_countTaken s_now_people s_now_kinds s_now_deeds s_now_feeding (x6 ||| o23)).bind fun o25 => ((fX1_countTaken s_now_people s_now_kinds s_now_deeds s_now_feeding x6).bind fun o27 => ((fX3_share_58 s_now_people s_now_kinds s_now_deeds s_now_feeding a1 a2 n x3 x4 (x5 + ((o19 * o21) * (o25 - o27))) (x6 + 1)))))))) else (fX3_share_58 s_now_people s_now_kinds s_now_deeds s_now_feeding a1 a2 n x3 x4 x5 (x6 + 1))))
def fX3_share (s_now_people : Int32) (s_now_kinds : Int32) (s_now_deeds : Int32) (s_now_feeding : Int64) (s_now_large : Int32) (a1 : Int32) (a2 : Int32) : Option (Int32) :=
  (fX1_has s_now_people a1).bind fun o1 => ((if o1 = 0 then some (-1) else (fX3_isIn s_now_large a1).bind fun o4 => ((if o4 = 0 then (fX3_inLeastTerms 0 1 a2).bind fun o29 => (some o29) else (fX3_without s_now_large a1).bind fun o7 => ((fJ6_bitCount_0f7a4 o7).bind fun o9 => ((fX3_share_58 s_now_people s_now_kinds s_now_deeds s_now_feeding a1 a2 130 o7 o9 0 0)))))))
set_option maxHeartbeats 4000000 in
set_option maxRecDepth 100000 in
theorem ctX3_share (l : Launch) (G : GG) (h0 : Nat) (ad : Nat → Nat) (s_keptSlots : Int32) (s_seenCount : Int32) (s_seed : Int64) (s_now_people : Int32) (s_now_kinds : Int32) (s_now_deeds : Int32) (s_now_feeding : Int64) (s_now_large : Int32) (s_now_dead : Int32) (s_now_dayNumber : Int32) (a1 : Int32) (a2 : Int32) (out : Int32) (hf : fX3_share s_now_people s_now_kinds s_now_deeds s_now_feeding s_now_large a1 a2 = some out) : Met l yX3_share wsX3_share ({ frames := 5, cells := 0, slots := 0, locals := 114 }) (PcR G [.ref h0, .int a1, .int a2] [(h0, xoE ad s_keptSlots s_seenCount s_seed), (ad 1, stE s_now_people s_now_kinds s_now_deeds s_now_feeding s_now_large s_now_dead s_now_dayNumber)]) (QiR out) 0 0 noA := by
  refine mk_Ri (cc := cX3_share) (maxL := 9) (by decide) rfl (Nat.le_of_ble_eq_true rfl) ?_
  intro p e s m args below meth c Q ls S hP hK hl hret
  obtain ⟨hx, hb, hml, hown, hts⟩ := S
  have hown : s.vm.findClass RX3 = some m.cls := hown
  have kl_19 := hts (.fieldLink RX3 19 "ArrestOrder" "now" "LArrestOrder$Standing;") (by decide +kernel)
  have hi_X3 : ∀ w ∈ wsX30, w ∈ wsX3_share := fun _ h => List.mem_cons_of_mem _ (List.mem_append_left _ (List.mem_append_right _ h))
  have hi_X1 : ∀ w ∈ wsX10, w ∈ wsX3_share := fun _ h => List.mem_cons_of_mem _ (List.mem_append_right _ h)
  have hS : va_S noA s.heap s.heap [] := va_S.rf
  have hl : lv_has ls 9 [(0, .ref h0), (1, .int a1), (2, .int a2)] := hl
  have hC58 : ∀ (n : Nat) (x3 : Int32) (x4 : Int32) (x5 : Int32) (x6 : Int32) (H : Heap) (locs : List Loc) (ls : Array Slot), va_P (gD G) vwCl [(h0, xoE ad s_keptSlots s_seenCount s_seed), (ad 1, stE s_now_people s_now_kinds s_now_deeds s_now_feeding s_now_large s_now_dead s_now_dayNumber)] H → va_S noA s.heap H locs → lv_has ls 9 [(0, .ref h0), (1, .int a1), (2, .int a2), (3, .int x3), (4, .int x4), (5, .int x5), (6, .int x6)] → fX3_share_58 s_now_people s_now_kinds s_now_deeds s_now_feeding a1 a2 n x3 x4 x5 x6 = some out → W p l e ({ frames := 5, cells := 0, slots := 0, locals := 114 }) s m args below meth c H locs 0 0 Q (F0 m 58 ls []) := by
    intro n58
    induction n58 with
    | zero => intro x3 x4 x5 x6 H locs ls hP hS hl hf; exact absurd (show none = some out from hf) (fun z => by cases z)
    | succ n58 ih58 =>
      intro x3 x4 x5 x6 H locs ls hP hS hl hf
      refine lv_iload hx hb dX3_share_58 (lv_at hl 6 rfl) ?_
      refine lv_iload_n hx hb dX3_share_60 rfl (lv_at hl 3 rfl) ?_
      refine lv_icmp_gt (tgt := 134) hx hb dX3_share_61 (by decide) (fun c11 => ?_) (fun c11 => ?_)
      · have hf := iteT hf c11
        refine lv_iload hx hb dX3_share_134 (lv_at hl 5 rfl) ?_
        refine lv_iload hx hb dX3_share_136 (lv_at hl 4 rfl) ?_
        refine lv_iconst (v := 1) hx hb dX3_share_138 (by decide) ?_
        refine lv_iadd hx hb dX3_share_139 ?_
        obtain ⟨o12, hc13, hf⟩ := bindS hf
        refine ro_i (va_runS (As := [.int (x4 + 1)]) (rest := [.int x5]) ⟨hx, hb, hml, hown, hts⟩ (ctX3_factorial l G (x4 + 1) o12 hc13) (va_cwS 1 hts gX3_share_X3_factorial rfl rfl rfl (by decide +kernel) ⟨Nat.le_of_ble_eq_true rfl, Nat.le_of_ble_eq_true rfl⟩) (preR_S (hP.sub (ws' := []) [] rfl) hK) rfl rfl hl.1 rfl (lv_room (Nat.le_of_ble_eq_true rfl)) dX3_share_140 ⟨Nat.zero_le _, Nat.zero_le _⟩) hS hP (fun H locs hP hS => ?_)
        refine lv_iload_n hx hb dX3_share_143 rfl (lv_at hl 2 rfl) ?_
        obtain ⟨o14, hc15, hf⟩ := bindS hf
        refine ro_i (va_runS (As := [.int x5, .int o12, .int a2]) (rest := []) ⟨hx, hb, hml, hown, hts⟩ (ctX3_inLeastTerms l G x5 o12 a2 o14 hc15) (va_cwS 3 hts gX3_share_X3_inLeastTerms rfl rfl rfl (by decide +kernel) ⟨Nat.le_of_ble_eq_true rfl, Nat.le_of_ble_eq_true rfl⟩) (preR_S (hP.sub (ws' := []) [] rfl) hK) rfl rfl hl.1 rfl (lv_room (Nat.le_of_ble_eq_true rfl)) dX3_share_144 ⟨Nat.zero_le _, Nat.zero_le _⟩) hS hP (fun H locs hP hS => ?_)
        have hv := Option.some.inj hf
        exact hret _ _ _ _ _ hS hv dX3_share_147
      · have hf := iteF hf c11
        refine lv_iload hx hb dX3_share_64 (lv_at hl 6 rfl) ?_
        refine lv_iload_n hx hb dX3_share_66 rfl (lv_at hl 3 rfl) ?_
        refine lv_iand hx hb dX3_share_67 ?_
        refine lv_iload hx hb dX3_share_68 (lv_at hl 6 rfl) ?_
        refine lv_icmp_ne (tgt := 128) hx hb dX3_share_70 (by decide) (fun c16 => ?_) (fun c16 => ?_)
        · have hf := iteF hf c16
          refine lv_iinc (v := (x6 + 1)) (lv' := [(6, .int (x6 + 1)), (0, .ref h0), (1, .int a1), (2, .int a2), (3, .int x3), (4, .int x4), (5, .int x5)]) hx hb dX3_share_128 hl (k := 6) rfl rfl (by decide) rfl (fun ls hl => ?_)
          refine lv_goto (tgt := 58) hx hb dX3_share_131 (by decide) ?_
          exact ih58 x3 x4 x5 (x6 + 1) _ _ _ hP hS (lv_sub hl [1, 2, 3, 4, 5, 6, 0] rfl) hf
        · have hf := iteT hf c16
          refine lv_iload hx hb dX3_share_73 (lv_at hl 6 rfl) ?_
          obtain ⟨o17, hc18, hf⟩ := bindS hf
          refine ro_i (va_runS (As := [.int x6]) (rest := []) ⟨hx, hb, hml, hown, hts⟩ (ctJ6_bitCount_0f7a4 l G x6 o17 hc18) (va_cwS 1 hts gX3_share_J6_bitCount_0f7a4 rfl rfl rfl (by decide +kernel) ⟨Nat.le_of_ble_eq_true rfl, Nat.le_of_ble_eq_true rfl⟩) (preR_S (hP.sub (ws' := []) [] rfl) hK) rfl rfl hl.1 rfl (lv_room (Nat.le_of_ble_eq_true rfl)) dX3_share_75 ⟨Nat.zero_le _, Nat.zero_le _⟩) hS hP (fun H locs hP hS => ?_)
          refine lv_istore (lv' := [(7, .int o17), (0, .ref h0), (1, .int a1), (2, .int a2), (3, .int x3), (4, .int x4), (5, .int x5), (6, .int x6)]) hx hb dX3_share_78 hl (by decide) rfl (fun ls hl => ?_)
          refine lv_iload hx hb dX3_share_80 (lv_at hl 0 rfl) ?_
          obtain ⟨o19, hc20, hf⟩ := bindS hf
          refine ro_i (va_runS (As := [.int o17]) (rest := []) ⟨hx, hb, hml, hown, hts⟩ (ctX3_factorial l G o17 o19 hc20) (va_cwS 1 hts gX3_share_X3_factorial rfl rfl rfl (by decide +kernel) ⟨Nat.le_of_ble_eq_true rfl, Nat.le_of_ble_eq_true rfl⟩) (preR_S (hP.sub (ws' := []) [] rfl) hK) rfl rfl hl.1 rfl (lv_room (Nat.le_of_ble_eq_true rfl)) dX3_share_82 ⟨Nat.zero_le _, Nat.zero_le _⟩) hS hP (fun H locs hP hS => ?_)
          refine lv_iload hx hb dX3_share_85 (lv_at hl 5 rfl) ?_
          refine lv_iload hx hb dX3_share_87 (lv_at hl 0 rfl) ?_
          refine lv_isub hx hb dX3_share_89 ?_
          obtain ⟨o21, hc22, hf⟩ := bindS hf
          refine ro_i (va_runS (As := [.int (x4 - o17)]) (rest := [.int o19]) ⟨hx, hb, hml, hown, hts⟩ (ctX3_factorial l G (x4 - o17) o21 hc22) (va_cwS 1 hts gX3_share_X3_factorial rfl rfl rfl (by decide +kernel) ⟨Nat.le_of_ble_eq_true rfl, Nat.le_of_ble_eq_true rfl⟩) (preR_S (hP.sub (ws' := []) [] rfl) hK) rfl rfl hl.1 rfl (lv_room (Nat.le_of_ble_eq_true rfl)) dX3_share_90 ⟨Nat.zero_le _, Nat.zero_le _⟩) hS hP (fun H locs hP hS => ?_)
          refine lv_imul hx hb dX3_share_93 ?_
          refine lv_istore (lv' := [(8, .int (o19 * o21)), (7, .int o17), (0, .ref h0), (1, .int a1), (2, .int a2), (3, .int x3), (4, .int x4), (5, .int x5), (6, .int x6)]) hx hb dX3_share_94 hl (by decide) rfl (fun ls hl => ?_)
          refine lv_iload hx hb dX3_share_96 (lv_at hl 7 rfl) ?_
          refine lv_iload hx hb dX3_share_98 (lv_at hl 0 rfl) ?_
          refine lv_aload_n hx hb dX3_share_100 rfl (lv_at hl 2 rfl) ?_
          refine va_get (D := gD G) (ci := 3) (v := .ref (ad 1)) (C := RX3) (T := TX3) (N := 11) hx hb hts hi_X3 hown hK.1 hP 0 rfl rfl 1 (by decide) kl_19 (fun _ h9 => h9) rfl dX3_share_101 ?_
          refine lv_iload hx hb dX3_share_104 (lv_at hl 8 rfl) ?_
          refine lv_iload_n hx hb dX3_share_106 rfl (lv_at hl 3 rfl) ?_
          obtain ⟨o23, hc24, hf⟩ := bindS hf
          refine ro_i (va_runS (As := [.int a1]) (rest := [.int x6, .ref (ad 1), .int (o19 * o21), .int x5]) ⟨hx, hb, hml, hown, hts⟩ (ctX3_bit l G a1 o23 hc24) (va_cwS 1 hts gX3_share_X3_bit rfl rfl rfl (by decide +kernel) ⟨Nat.le_of_ble_eq_true rfl, Nat.le_of_ble_eq_true rfl⟩) (preR_S (hP.sub (ws' := []) [] rfl) hK) rfl rfl hl.1 rfl (lv_room (Nat.le_of_ble_eq_true rfl)) dX3_share_107 ⟨Nat.zero_le _, Nat.zero_le _⟩) hS hP (fun H locs hP hS => ?_)
          refine lv_ior hx hb dX3_share_110 ?_
          obtain ⟨o25, hc26, hf⟩ := bindS hf
          refine ro_i (va_runVN (C := RX1) (As := [.int (x6 ||| o23)]) (rest := [.int (o19 * o21), .int x5]) ⟨hx, hb, hml, hown, hts⟩ (ctX1_countTaken l G (ad 1) s_now_people s_now_kinds s_now_deeds s_now_feeding s_now_large s_now_dead s_now_dayNumber (x6 ||| o23) o25 hc26) ⟨va_cnB 1 hts gX3_share_X1_countTaken_n180 rfl rfl rfl (nm_X3_180 hK.2) (hts (.initialized RX1) (by decide +kernel)) (by decide +kernel) ⟨Nat.le_of_ble_eq_true rfl, Nat.le_of_ble_eq_true rfl⟩, hts (.instanceMethod yX1_countTaken) (by decide +kernel), hts (.selects RX1 yX1_countTaken yX1_countTaken) (by decide +kernel)⟩ (preR_V (q0 := 0) (ci := 1) (hP.sub (ws' := [(ad 1, stE s_now_people s_now_kinds s_now_deeds s_now_feeding s_now_large s_now_dead s_now_dayNumber)]) [1] rfl) hK rfl rfl) rfl rfl hl.1 rfl (lv_room (Nat.le_of_ble_eq_true rfl)) dX3_share_111 ⟨Nat.zero_le _, Nat.zero_le _⟩) hS hP (fun H locs hP hS => ?_)
          refine lv_aload_n hx hb dX3_share_114 rfl (lv_at hl 2 rfl) ?_
          refine va_get (D := gD G) (ci := 3) (v := .ref (ad 1)) (C := RX3) (T := TX3) (N := 11) hx hb hts hi_X3 hown hK.1 hP 0 rfl rfl 1 (by decide) kl_19 (fun _ h9 => h9) rfl dX3_share_115 ?_
          refine lv_iload hx hb dX3_share_118 (lv_at hl 8 rfl) ?_
          obtain ⟨o27, hc28, hf⟩ := bindS hf
          refine ro_i (va_runVN (C := RX1) (As := [.int x6]) (rest := [.int o25, .int (o19 * o21), .int x5]) ⟨hx, hb, hml, hown, hts⟩ (ctX1_countTaken l G (ad 1) s_now_people s_now_kinds s_now_deeds s_now_feeding s_now_large s_now_dead s_now_dayNumber x6 o27 hc28) ⟨va_cnB 1 hts gX3_share_X1_countTaken_n180 rfl rfl rfl (nm_X3_180 hK.2) (hts (.initialized RX1) (by decide +kernel)) (by decide +kernel) ⟨Nat.le_of_ble_eq_true rfl, Nat.le_of_ble_eq_true rfl⟩, hts (.instanceMethod yX1_countTaken) (by decide +kernel), hts (.selects RX1 yX1_countTaken yX1_countTaken) (by decide +kernel)⟩ (preR_V (q0 := 0) (ci := 1) (hP.sub (ws' := [(ad 1, stE s_now_people s_now_kinds s_now_deeds s_now_feeding s_now_large s_now_dead s_now_dayNumber)]) [1] rfl) hK rfl rfl) rfl rfl hl.1 rfl (lv_room (Nat.le_of_ble_eq_true rfl)) dX3_share_120 ⟨Nat.zero_le _, Nat.zero_le _⟩) hS hP (fun H locs hP hS => ?_)
          refine lv_isub hx hb dX3_share_123 ?_
          refine lv_imul hx hb dX3_share_124 ?_
          refine lv_iadd hx hb dX3_share_125 ?_
          refine lv_istore (lv' := [(5, .int (x5 + ((o19 * o21) * (o25 - o27)))), (8, .int (o19 * o21)), (7, .int o17), (0, .ref h0), (1, .int a1), (2, .int a2), (3, .int x3), (4, .int x4), (6, .int x6)]) hx hb dX3_share_126 hl (by decide) rfl (fun ls hl => ?_)
          refine lv_iinc (v := (x6 + 1)) (lv' := [(6, .int (x6 + 1)), (5, .int (x5 + ((o19 * o21) * (o25 - o27)))), (8, .int (o19 * o21)), (7, .int o17), (0, .ref h0), (1, .int a1), (2, .int a2), (3, .int x3), (4, .int x4)]) hx hb dX3_share_128 hl (k := 8) rfl rfl (by decide) rfl (fun ls hl => ?_)
          refine lv_goto (tgt := 58) hx hb dX3_share_131 (by decide) ?_
          exact ih58 x3 x4 (x5 + ((o19 * o21) * (o25 - o27))) (x6 + 1) _ _ _ hP hS (lv_sub hl [4, 5, 6, 7, 8, 1, 0] rfl) hf
  refine lv_aload_n hx hb dX3_share_0 rfl (lv_at hl 0 rfl) ?_
  refine va_get (D := gD G) (ci := 3) (v := .ref (ad 1)) (C := RX3) (T := TX3) (N := 11) hx hb hts hi_X3 hown hK.1 hP 0 rfl rfl 1 (by decide) kl_19 (fun _ h9 => h9) rfl dX3_share_1 ?_
  refine lv_iload_n hx hb dX3_share_4 rfl (lv_at hl 1 rfl) ?_
  obtain ⟨o1, hc2, hf⟩ := bindS hf
  refine ro_i (va_runVN (C := RX1) (As := [.int a1]) (rest := []) ⟨hx, hb, hml, hown, hts⟩ (ctX1_has l G (ad 1) s_now_people s_now_kinds s_now_deeds s_now_feeding s_now_large s_now_dead s_now_dayNumber a1 o1 hc2) ⟨va_cnB 1 hts gX3_share_X1_has_n92 rfl rfl rfl (nm_X3_92 hK.2) (hts (.initialized RX1) (by decide +kernel)) (by decide +kernel) ⟨Nat.le_of_ble_eq_true rfl, Nat.le_of_ble_eq_true rfl⟩, hts (.instanceMethod yX1_has) (by decide +kernel), hts (.selects RX1 yX1_has yX1_has) (by decide +kernel)⟩ (preR_V (q0 := 0) (ci := 1) (hP.sub (ws' := [(ad 1, stE s_now_people s_now_kinds s_now_deeds s_now_feeding s_now_large s_now_dead s_now_dayNumber)]) [1] rfl) hK rfl rfl) rfl rfl hl.1 rfl (lv_room (Nat.le_of_ble_eq_true rfl)) dX3_share_5 ⟨Nat.zero_le _, Nat.zero_le _⟩) hS hP (fun H locs hP hS => ?_)
  refine lv_if_ne (tgt := 13) hx hb dX3_share_8 (by decide) (fun c3 => ?_) (fun c3 => ?_)
  · have hf := iteF hf c3
    refine lv_aload_n hx hb dX3_share_13 rfl (lv_at hl 0 rfl) ?_
    refine va_get (D := gD G) (ci := 3) (v := .ref (ad 1)) (C := RX3) (T := TX3) (N := 11) hx hb hts hi_X3 hown hK.1 hP 0 rfl rfl 1 (by decide) kl_19 (fun _ h9 => h9) rfl dX3_share_14 ?_
    refine va_getN (D := gD G) (ci := 1) (v := .int s_now_large) (C := RX1) (T := TX1) (N := 7) hx hb hts hi_X1 hown hK.1 hP 1 rfl rfl 4 (by decide) (nf_X3_72 hK.2) (fun _ h9 => h9) rfl dX3_share_17 ?_
    refine lv_iload_n hx hb dX3_share_20 rfl (lv_at hl 1 rfl) ?_
    obtain ⟨o4, hc5, hf⟩ := bindS hf
    refine ro_i (va_runS (As := [.int s_now_large, .int a1]) (rest := []) ⟨hx, hb, hml, hown, hts⟩ (ctX3_isIn l G s_now_large a1 o4 hc5) (va_cwS 2 hts gX3_share_X3_isIn rfl rfl rfl (by decide +kernel) ⟨Nat.le_of_ble_eq_true rfl, Nat.le_of_ble_eq_true rfl⟩) (preR_S (hP.sub (ws' := []) [] rfl) hK) rfl rfl hl.1 rfl (lv_room (Nat.le_of_ble_eq_true rfl)) dX3_share_21 ⟨Nat.zero_le _, Nat.zero_le _⟩) hS hP (fun H locs hP hS => ?_)
    refine lv_if_ne (tgt := 34) hx hb dX3_share_24 (by decide) (fun c6 => ?_) (fun c6 => ?_)
    · have hf := iteF hf c6
      refine lv_aload_n hx hb dX3_share_34 rfl (lv_at hl 0 rfl) ?_
      refine va_get (D := gD G) (ci := 3) (v := .ref (ad 1)) (C := RX3) (T := TX3) (N := 11) hx hb hts hi_X3 hown hK.1 hP 0 rfl rfl 1 (by decide) kl_19 (fun _ h9 => h9) rfl dX3_share_35 ?_
      refine va_getN (D := gD G) (ci := 1) (v := .int s_now_large) (C := RX1) (T := TX1) (N := 7) hx hb hts hi_X1 hown hK.1 hP 1 rfl rfl 4 (by decide) (nf_X3_72 hK.2) (fun _ h9 => h9) rfl dX3_share_38 ?_
      refine lv_iload_n hx hb dX3_share_41 rfl (lv_at hl 1 rfl) ?_
      obtain ⟨o7, hc8, hf⟩ := bindS hf
      refine ro_i (va_runS (As := [.int s_now_large, .int a1]) (rest := []) ⟨hx, hb, hml, hown, hts⟩ (ctX3_without l G s_now_large a1 o7 hc8) (va_cwS 2 hts gX3_share_X3_without rfl rfl rfl (by decide +kernel) ⟨Nat.le_of_ble_eq_true rfl, Nat.le_of_ble_eq_true rfl⟩) (preR_S (hP.sub (ws' := []) [] rfl) hK) rfl rfl hl.1 rfl (lv_room (Nat.le_of_ble_eq_true rfl)) dX3_share_42 ⟨Nat.zero_le _, Nat.zero_le _⟩) hS hP (fun H locs hP hS => ?_)
      refine lv_istore_n (lv' := [(3, .int o7), (0, .ref h0), (1, .int a1), (2, .int a2)]) hx hb dX3_share_45 rfl hl (by decide) rfl (fun ls hl => ?_)
      refine lv_iload_n hx hb dX3_share_46 rfl (lv_at hl 0 rfl) ?_
      obtain ⟨o9, hc10, hf⟩ := bindS hf
      refine ro_i (va_runS (As := [.int o7]) (rest := []) ⟨hx, hb, hml, hown, hts⟩ (ctJ6_bitCount_0f7a4 l G o7 o9 hc10) (va_cwS 1 hts gX3_share_J6_bitCount_0f7a4 rfl rfl rfl (by decide +kernel) ⟨Nat.le_of_ble_eq_true rfl, Nat.le_of_ble_eq_true rfl⟩) (preR_S (hP.sub (ws' := []) [] rfl) hK) rfl rfl hl.1 rfl (lv_room (Nat.le_of_ble_eq_true rfl)) dX3_share_47 ⟨Nat.zero_le _, Nat.zero_le _⟩) hS hP (fun H locs hP hS => ?_)
      refine lv_istore (lv' := [(4, .int o9), (3, .int o7), (0, .ref h0), (1, .int a1), (2, .int a2)]) hx hb dX3_share_50 hl (by decide) rfl (fun ls hl => ?_)
      refine lv_iconst (v := 0) hx hb dX3_share_52 (by decide) ?_
      refine lv_istore (lv' := [(5, .int 0), (4, .int o9), (3, .int o7), (0, .ref h0), (1, .int a1), (2, .int a2)]) hx hb dX3_share_53 hl (by decide) rfl (fun ls hl => ?_)
      refine lv_iconst (v := 0) hx hb dX3_share_55 (by decide) ?_
      refine lv_istore (lv' := [(6, .int 0), (5, .int 0), (4, .int o9), (3, .int o7), (0, .ref h0), (1, .int a1), (2, .int a2)]) hx hb dX3_share_56 hl (by decide) rfl (fun ls hl => ?_)
      exact hC58 130 o7 o9 0 0 _ _ _ hP hS (lv_sub hl [4, 5, 6, 3, 2, 1, 0] rfl) hf
    · have hf := iteT hf c6
      refine lv_iconst (v := 0) hx hb dX3_share_27 (by decide) ?_
      refine lv_iconst (v := 1) hx hb dX3_share_28 (by decide) ?_
      refine lv_iload_n hx hb dX3_share_29 rfl (lv_at hl 2 rfl) ?_
      obtain ⟨o29, hc30, hf⟩ := bindS hf
      refine ro_i (va_runS (As := [.int 0, .int 1, .int a2]) (rest := []) ⟨hx, hb, hml, hown, hts⟩ (ctX3_inLeastTerms l G 0 1 a2 o29 hc30) (va_cwS 3 hts gX3_share_X3_inLeastTerms rfl rfl rfl (by decide +kernel) ⟨Nat.le_of_ble_eq_true rfl, Nat.le_of_ble_eq_true rfl⟩) (preR_S (hP.sub (ws' := []) [] rfl) hK) rfl rfl hl.1 rfl (lv_room (Nat.le_of_ble_eq_true rfl)) dX3_share_30 ⟨Nat.zero_le _, Nat.zero_le _⟩) hS hP (fun H locs hP hS => ?_)
      have hv := Option.some.inj hf
      exact hret _ _ _ _ _ hS hv dX3_share_33
  · have hf := iteT hf c3
    refine lv_iconst (v := (-1)) hx hb dX3_share_11 (by decide) ?_
    have hv := Option.some.inj hf
    exact hret _ _ _ _ _ hS hv dX3_share_12
def fX3_see (s_seenCount : Int32) (s_now_people : Int32) (q_seen : Nat → Int32) (a1 : Int32) (a2 : Int32) : Option (Int32 × Int32 × (Nat → Int32)) :=
  (fX1_has s_now_people a1).bind fun o1 => ((if o1 = 0 then some ((-1), s_seenCount, q_seen) else (fX1_has s_now_people a2).bind fun o4 => ((if o4 = 0 then some ((-1), s_seenCount, q_seen) else (if a1 = a2 then some ((-2), s_seenCount, q_seen) else (if s_seenCount < 6 then ck s_seenCount 6 (some ((s_seenCount + 1), (s_seenCount + 1), (upd q_seen (Int32.toNatClampNeg s_seenCount) ((10 * a1) + a2)))) else some ((-4), s_seenCount, q_seen)))))))
set_option maxHeartbeats 4000000 in
set_option maxRecDepth 100000 in
theorem ctX3_see (l : Launch) (G : GG) (h0 : Nat) (ad : Nat → Nat) (s_keptSlots : Int32) (s_seenCount : Int32) (s_seed : Int64) (s_now_people : Int32) (s_now_kinds : Int32) (s_now_deeds : Int32) (s_now_feeding : Int64) (s_now_large : Int32) (s_now_dead : Int32) (s_now_dayNumber : Int32) (q_seen : Nat → Int32) (a1 : Int32) (a2 : Int32) (out : Int32 × Int32 × (Nat → Int32)) (hf : fX3_see s_seenCount s_now_people q_seen a1 a2 = some out) : Met l yX3_see wsX3_see ({ frames := 1, cells := 0, slots := 0, locals := 21 }) (PcW G [.ref h0, .int a1, .int a2] [(h0, xoE ad s_keptSlots s_seenCount s_seed), (ad 1, stE s_now_people s_now_kinds s_now_deeds s_now_feeding s_now_large s_now_dead s_now_dayNumber), (ad 6, aI G 6 q_seen)]) (QiW G [(h0, xoE ad s_keptSlots s_seenCount s_seed), (ad 1, stE s_now_people s_now_kinds s_now_deeds s_now_feeding s_now_large s_now_dead s_now_dayNumber), (ad 6, aI G 6 q_seen)] [(h0, xoE ad s_keptSlots out.2.1 s_seed), (ad 1, stE s_now_people s_now_kinds s_now_deeds s_now_feeding s_now_large s_now_dead s_now_dayNumber), (ad 6, aI G 6 out.2.2)] out.1) 0 0 (inA [(h0, xoE ad s_keptSlots s_seenCount s_seed), (ad 1, stE s_now_people s_now_kinds s_now_deeds s_now_feeding s_now_large s_now_dead s_now_dayNumber), (ad 6, aI G 6 q_seen)]) := by
  refine mk_Wi (cc := cX3_see) (maxL := 3) (by decide) rfl (Nat.le_of_ble_eq_true rfl) ?_
  intro p e s m args below meth c Q ls A S hP hK hD hl hret
  obtain ⟨hx, hb, hml, hown, hts⟩ := S
  have hown : s.vm.findClass RX3 = some m.cls := hown
  have kl_19 := hts (.fieldLink RX3 19 "ArrestOrder" "now" "LArrestOrder$Standing;") (by decide +kernel)
  have hi_X3 : ∀ w ∈ wsX30, w ∈ wsX3_see := fun _ h => List.mem_cons_of_mem _ (List.mem_append_left _ (List.mem_append_right _ h))
  have kl_89 := hts (.fieldLink RX3 89 "ArrestOrder" "seenCount" "I") (by decide +kernel)
  have kl_37 := hts (.fieldLink RX3 37 "ArrestOrder" "seen" "[I") (by decide +kernel)
  have hS : va_S A s.heap s.heap [] := va_S.rf
  have hl : lv_has ls 3 [(0, .ref h0), (1, .int a1), (2, .int a2)] := hl
  refine lv_aload_n hx hb dX3_see_0 rfl (lv_at hl 0 rfl) ?_
  refine va_get (D := gD G) (ci := 3) (v := .ref (ad 1)) (C := RX3) (T := TX3) (N := 11) hx hb hts hi_X3 hown hK.1 hP 0 rfl rfl 1 (by decide) kl_19 (fun _ h9 => h9) rfl dX3_see_1 ?_
  refine lv_iload_n hx hb dX3_see_4 rfl (lv_at hl 1 rfl) ?_
  obtain ⟨o1, hc2, hf⟩ := bindS hf
  refine ro_i (va_runVN (C := RX1) (As := [.int a1]) (rest := []) ⟨hx, hb, hml, hown, hts⟩ (ctX1_has l G (ad 1) s_now_people s_now_kinds s_now_deeds s_now_feeding s_now_large s_now_dead s_now_dayNumber a1 o1 hc2) ⟨va_cnB 1 hts gX3_see_X1_has_n92 rfl rfl rfl (nm_X3_92 hK.2) (hts (.initialized RX1) (by decide +kernel)) (by decide +kernel) ⟨Nat.le_of_ble_eq_true rfl, Nat.le_of_ble_eq_true rfl⟩, hts (.instanceMethod yX1_has) (by decide +kernel), hts (.selects RX1 yX1_has yX1_has) (by decide +kernel)⟩ (preR_V (q0 := 0) (ci := 1) (hP.sub (ws' := [(ad 1, stE s_now_people s_now_kinds s_now_deeds s_now_feeding s_now_large s_now_dead s_now_dayNumber)]) [1] rfl) hK rfl rfl) rfl rfl hl.1 rfl (lv_room (Nat.le_of_ble_eq_true rfl)) dX3_see_5 ⟨Nat.zero_le _, Nat.zero_le _⟩) hS hP (fun H locs hP hS => ?_)
  refine lv_if_eq (tgt := 22) hx hb dX3_see_8 (by decide) (fun c3 => ?_) (fun c3 => ?_)
  · have hf := iteT hf c3
    refine lv_iconst (v := (-1)) hx hb dX3_see_22 (by decide) ?_
    have hv := Option.some.inj hf
    exact hret _ _ _ _ _ (by rw [← hv]; exact hP) hS (by rw [← hv]) dX3_see_23
  · have hf := iteF hf c3
    refine lv_aload_n hx hb dX3_see_11 rfl (lv_at hl 0 rfl) ?_
    refine va_get (D := gD G) (ci := 3) (v := .ref (ad 1)) (C := RX3) (T := TX3) (N := 11) hx hb hts hi_X3 hown hK.1 hP 0 rfl rfl 1 (by decide) kl_19 (fun _ h9 => h9) rfl dX3_see_12 ?_
    refine lv_iload_n hx hb dX3_see_15 rfl (lv_at hl 2 rfl) ?_
    obtain ⟨o4, hc5, hf⟩ := bindS hf
    refine ro_i (va_runVN (C := RX1) (As := [.int a2]) (rest := []) ⟨hx, hb, hml, hown, hts⟩ (ctX1_has l G (ad 1) s_now_people s_now_kinds s_now_deeds s_now_feeding s_now_large s_now_dead s_now_dayNumber a2 o4 hc5) ⟨va_cnB 1 hts gX3_see_X1_has_n92 rfl rfl rfl (nm_X3_92 hK.2) (hts (.initialized RX1) (by decide +kernel)) (by decide +kernel) ⟨Nat.le_of_ble_eq_true rfl, Nat.le_of_ble_eq_true rfl⟩, hts (.instanceMethod yX1_has) (by decide +kernel), hts (.selects RX1 yX1_has yX1_has) (by decide +kernel)⟩ (preR_V (q0 := 0) (ci := 1) (hP.sub (ws' := [(ad 1, stE s_now_people s_now_kinds s_now_deeds s_now_feeding s_now_large s_now_dead s_now_dayNumber)]) [1] rfl) hK rfl rfl) rfl rfl hl.1 rfl (lv_room (Nat.le_of_ble_eq_true rfl)) dX3_see_16 ⟨Nat.zero_le _, Nat.zero_le _⟩) hS hP (fun H locs hP hS => ?_)
    refine lv_if_ne (tgt := 24) hx hb dX3_see_19 (by decide) (fun c6 => ?_) (fun c6 => ?_)
    · have hf := iteF hf c6
      refine lv_iload_n hx hb dX3_see_24 rfl (lv_at hl 1 rfl) ?_
      refine lv_iload_n hx hb dX3_see_25 rfl (lv_at hl 2 rfl) ?_
      refine lv_icmp_ne (tgt := 32) hx hb dX3_see_26 (by decide) (fun c7 => ?_) (fun c7 => ?_)
      · have hf := iteF hf c7
        refine lv_aload_n hx hb dX3_see_32 rfl (lv_at hl 0 rfl) ?_
        refine va_get (D := gD G) (ci := 3) (v := .int s_seenCount) (C := RX3) (T := TX3) (N := 11) hx hb hts hi_X3 hown hK.1 hP 0 rfl rfl 7 (by decide) kl_89 (fun _ h9 => h9) rfl dX3_see_33 ?_
        refine lv_bipush (v := 6) hx hb dX3_see_36 (by decide) ?_
        refine lv_icmp_lt (tgt := 44) hx hb dX3_see_38 (by decide) (fun c8 => ?_) (fun c8 => ?_)
        · have hf := iteT hf c8
          refine lv_aload_n hx hb dX3_see_44 rfl (lv_at hl 0 rfl) ?_
          refine va_get (D := gD G) (ci := 3) (v := .ref (ad 6)) (C := RX3) (T := TX3) (N := 11) hx hb hts hi_X3 hown hK.1 hP 0 rfl rfl 6 (by decide) kl_37 (fun _ h9 => h9) rfl dX3_see_45 ?_
          refine lv_aload_n hx hb dX3_see_48 rfl (lv_at hl 0 rfl) ?_
          refine va_get (D := gD G) (ci := 3) (v := .int s_seenCount) (C := RX3) (T := TX3) (N := 11) hx hb hts hi_X3 hown hK.1 hP 0 rfl rfl 7 (by decide) kl_89 (fun _ h9 => h9) rfl dX3_see_49 ?_
          refine lv_bipush (v := 10) hx hb dX3_see_52 (by decide) ?_
          refine lv_iload_n hx hb dX3_see_54 rfl (lv_at hl 1 rfl) ?_
          refine lv_imul hx hb dX3_see_55 ?_
          refine lv_iload_n hx hb dX3_see_56 rfl (lv_at hl 2 rfl) ?_
          refine lv_iadd hx hb dX3_see_57 ?_
          obtain ⟨hi9, hf⟩ := ckS hf
          refine va_iast hx hb hK.1 hP hD hS 2 0 rfl rfl hi9 dX3_see_58 (fun H locs hP hD hS => ?_)
          have hP : va_P (gD G) vwCl [(h0, xoE ad s_keptSlots s_seenCount s_seed), (ad 1, stE s_now_people s_now_kinds s_now_deeds s_now_feeding s_now_large s_now_dead s_now_dayNumber), (ad 6, aI G 6 (upd q_seen (Int32.toNatClampNeg s_seenCount) ((10 * a1) + a2)))] H := hP
          have hD : va_D A [(h0, xoE ad s_keptSlots s_seenCount s_seed), (ad 1, stE s_now_people s_now_kinds s_now_deeds s_now_feeding s_now_large s_now_dead s_now_dayNumber), (ad 6, aI G 6 (upd q_seen (Int32.toNatClampNeg s_seenCount) ((10 * a1) + a2)))] := hD
          refine lv_aload_n hx hb dX3_see_59 rfl (lv_at hl 0 rfl) ?_
          refine lv_dup hx hb dX3_see_60 rfl ?_
          refine va_get (D := gD G) (ci := 3) (v := .int s_seenCount) (C := RX3) (T := TX3) (N := 11) hx hb hts hi_X3 hown hK.1 hP 0 rfl rfl 7 (by decide) kl_89 (fun _ h9 => h9) rfl dX3_see_61 ?_
          refine lv_iconst (v := 1) hx hb dX3_see_64 (by decide) ?_
          refine lv_iadd hx hb dX3_see_65 ?_
          refine va_put (D := gD G) (ci := 3) (v := .int (s_seenCount + 1)) (ty := .int) (C := RX3) (T := TX3) (N := 11) hx hb hts hi_X3 tyX3 tyX3_ok nmX3 hown hK.1 hP hD hS 0 rfl rfl 7 (by decide) kl_89 (fun _ h9 => h9) rfl (tyX3_ok 7 (by decide)) rfl rfl (Nat.le_of_ble_eq_true rfl) dX3_see_66 (fun H locs hP hD hS => ?_)
          have hP : va_P (gD G) vwCl [(h0, xoE ad s_keptSlots (s_seenCount + 1) s_seed), (ad 1, stE s_now_people s_now_kinds s_now_deeds s_now_feeding s_now_large s_now_dead s_now_dayNumber), (ad 6, aI G 6 (upd q_seen (Int32.toNatClampNeg s_seenCount) ((10 * a1) + a2)))] H := hP
          have hD : va_D A [(h0, xoE ad s_keptSlots (s_seenCount + 1) s_seed), (ad 1, stE s_now_people s_now_kinds s_now_deeds s_now_feeding s_now_large s_now_dead s_now_dayNumber), (ad 6, aI G 6 (upd q_seen (Int32.toNatClampNeg s_seenCount) ((10 * a1) + a2)))] := hD
          refine lv_aload_n hx hb dX3_see_69 rfl (lv_at hl 0 rfl) ?_
          refine va_get (D := gD G) (ci := 3) (v := .int (s_seenCount + 1)) (C := RX3) (T := TX3) (N := 11) hx hb hts hi_X3 hown hK.1 hP 0 rfl rfl 7 (by decide) kl_89 (fun _ h9 => h9) rfl dX3_see_70 ?_
          have hv := Option.some.inj hf
          exact hret _ _ _ _ _ (by rw [← hv]; exact hP) hS (by rw [← hv]) dX3_see_73
        · have hf := iteF hf c8
          refine lv_bipush (v := (-4)) hx hb dX3_see_41 (by decide) ?_
          have hv := Option.some.inj hf
          exact hret _ _ _ _ _ (by rw [← hv]; exact hP) hS (by rw [← hv]) dX3_see_43
      · have hf := iteT hf c7
        refine lv_bipush (v := (-2)) hx hb dX3_see_29 (by decide) ?_
        have hv := Option.some.inj hf
        exact hret _ _ _ _ _ (by rw [← hv]; exact hP) hS (by rw [← hv]) dX3_see_31
    · have hf := iteT hf c6
      refine lv_iconst (v := (-1)) hx hb dX3_see_22 (by decide) ?_
      have hv := Option.some.inj hf
      exact hret _ _ _ _ _ (by rw [← hv]; exact hP) hS (by rw [← hv]) dX3_see_23
def fX3_unsee (s_seenCount : Int32) : Option (Int32 × Int32) :=
  some (s_seenCount, 0)
set_option maxHeartbeats 4000000 in
set_option maxRecDepth 100000 in
theorem ctX3_unsee (l : Launch) (G : GG) (h0 : Nat) (ad : Nat → Nat) (s_keptSlots : Int32) (s_seenCount : Int32) (s_seed : Int64) (out : Int32 × Int32) (hf : fX3_unsee s_seenCount = some out) : Met l yX3_unsee wsX3_unsee ({ frames := 0, cells := 0, slots := 0, locals := 0 }) (PcW G [.ref h0] [(h0, xoE ad s_keptSlots s_seenCount s_seed)]) (QiW G [(h0, xoE ad s_keptSlots s_seenCount s_seed)] [(h0, xoE ad s_keptSlots out.2 s_seed)] out.1) 0 0 (inA [(h0, xoE ad s_keptSlots s_seenCount s_seed)]) := by
  refine mk_Wi (cc := cX3_unsee) (maxL := 2) (by decide) rfl (Nat.le_of_ble_eq_true rfl) ?_
  intro p e s m args below meth c Q ls A S hP hK hD hl hret
  obtain ⟨hx, hb, hml, hown, hts⟩ := S
  have hown : s.vm.findClass RX3 = some m.cls := hown
  have kl_89 := hts (.fieldLink RX3 89 "ArrestOrder" "seenCount" "I") (by decide +kernel)
  have hi_X3 : ∀ w ∈ wsX30, w ∈ wsX3_unsee := fun _ h => List.mem_cons_of_mem _ (List.mem_append_right _ h)
  have hS : va_S A s.heap s.heap [] := va_S.rf
  have hl : lv_has ls 2 [(0, .ref h0)] := hl
  refine lv_aload_n hx hb dX3_unsee_0 rfl (lv_at hl 0 rfl) ?_
  refine va_get (D := gD G) (ci := 3) (v := .int s_seenCount) (C := RX3) (T := TX3) (N := 11) hx hb hts hi_X3 hown hK.1 hP 0 rfl rfl 7 (by decide) kl_89 (fun _ h9 => h9) rfl dX3_unsee_1 ?_
  refine lv_istore_n (lv' := [(1, .int s_seenCount), (0, .ref h0)]) hx hb dX3_unsee_4 rfl hl (by decide) rfl (fun ls hl => ?_)
  refine lv_aload_n hx hb dX3_unsee_5 rfl (lv_at hl 1 rfl) ?_
  refine lv_iconst (v := 0) hx hb dX3_unsee_6 (by decide) ?_
  refine va_put (D := gD G) (ci := 3) (v := .int 0) (ty := .int) (C := RX3) (T := TX3) (N := 11) hx hb hts hi_X3 tyX3 tyX3_ok nmX3 hown hK.1 hP hD hS 0 rfl rfl 7 (by decide) kl_89 (fun _ h9 => h9) rfl (tyX3_ok 7 (by decide)) rfl rfl (Nat.le_of_ble_eq_true rfl) dX3_unsee_7 (fun H locs hP hD hS => ?_)
  have hP : va_P (gD G) vwCl [(h0, xoE ad s_keptSlots 0 s_seed)] H := hP
  have hD : va_D A [(h0, xoE ad s_keptSlots 0 s_seed)] := hD
  refine lv_iload_n hx hb dX3_unsee_10 rfl (lv_at hl 0 rfl) ?_
  have hv := Option.some.inj hf
  exact hret _ _ _ _ _ (by rw [← hv]; exact hP) hS (by rw [← hv]) dX3_unsee_11
def fX3_isSo (s_trial_people : Int32) (s_trial_kinds : Int32) (s_trial_deeds : Int32) (s_trial_feeding : Int64) (s_trial_large : Int32) (a1 : Int32) (a2 : Int32) : Option (Int32) :=
  (fX1_has s_trial_people a1).bind fun o1 => ((if o1 = 0 then some 1 else (fX1_has s_trial_people a2).bind fun o4 => ((if o4 = 0 then some 1 else (fX1_placeOf s_trial_people s_trial_kinds s_trial_deeds s_trial_feeding s_trial_large a1).bind fun o7 => ((fX1_placeOf s_trial_people s_trial_kinds s_trial_deeds s_trial_feeding s_trial_large a2).bind fun o9 => ((if o7 = (-9) then some 0 else (if o9 = (-9) then some 1 else (if o9 ≤ o7 then some 0 else some 1)))))))))
set_option maxHeartbeats 4000000 in
set_option maxRecDepth 100000 in
theorem ctX3_isSo (l : Launch) (G : GG) (h0 : Nat) (ad : Nat → Nat) (s_keptSlots : Int32) (s_seenCount : Int32) (s_seed : Int64) (s_trial_people : Int32) (s_trial_kinds : Int32) (s_trial_deeds : Int32) (s_trial_feeding : Int64) (s_trial_large : Int32) (s_trial_dead : Int32) (s_trial_dayNumber : Int32) (a1 : Int32) (a2 : Int32) (out : Int32) (hf : fX3_isSo s_trial_people s_trial_kinds s_trial_deeds s_trial_feeding s_trial_large a1 a2 = some out) : Met l yX3_isSo wsX3_isSo ({ frames := 4, cells := 0, slots := 0, locals := 93 }) (PcR G [.ref h0, .int a1, .int a2] [(h0, xoE ad s_keptSlots s_seenCount s_seed), (ad 2, stE s_trial_people s_trial_kinds s_trial_deeds s_trial_feeding s_trial_large s_trial_dead s_trial_dayNumber)]) (QiR out) 0 0 noA := by
  refine mk_Rz (cc := cX3_isSo) (maxL := 5) (by decide) rfl (Nat.le_of_ble_eq_true rfl) ?_
  intro p e s m args below meth c Q ls S hP hK hl hret
  obtain ⟨hx, hb, hml, hown, hts⟩ := S
  have hown : s.vm.findClass RX3 = some m.cls := hown
  have kl_23 := hts (.fieldLink RX3 23 "ArrestOrder" "trial" "LArrestOrder$Standing;") (by decide +kernel)
  have hi_X3 : ∀ w ∈ wsX30, w ∈ wsX3_isSo := fun _ h => List.mem_cons_of_mem _ (List.mem_append_left _ (List.mem_append_right _ h))
  have hS : va_S noA s.heap s.heap [] := va_S.rf
  have hl : lv_has ls 5 [(0, .ref h0), (1, .int a1), (2, .int a2)] := hl
  refine lv_aload_n hx hb dX3_isSo_0 rfl (lv_at hl 0 rfl) ?_
  refine va_get (D := gD G) (ci := 3) (v := .ref (ad 2)) (C := RX3) (T := TX3) (N := 11) hx hb hts hi_X3 hown hK.1 hP 0 rfl rfl 2 (by decide) kl_23 (fun _ h9 => h9) rfl dX3_isSo_1 ?_
  refine lv_iload_n hx hb dX3_isSo_4 rfl (lv_at hl 1 rfl) ?_
  obtain ⟨o1, hc2, hf⟩ := bindS hf
  refine ro_i (va_runVN (C := RX1) (As := [.int a1]) (rest := []) ⟨hx, hb, hml, hown, hts⟩ (ctX1_has l G (ad 2) s_trial_people s_trial_kinds s_trial_deeds s_trial_feeding s_trial_large s_trial_dead s_trial_dayNumber a1 o1 hc2) ⟨va_cnB 1 hts gX3_isSo_X1_has_n92 rfl rfl rfl (nm_X3_92 hK.2) (hts (.initialized RX1) (by decide +kernel)) (by decide +kernel) ⟨Nat.le_of_ble_eq_true rfl, Nat.le_of_ble_eq_true rfl⟩, hts (.instanceMethod yX1_has) (by decide +kernel), hts (.selects RX1 yX1_has yX1_has) (by decide +kernel)⟩ (preR_V (q0 := 0) (ci := 1) (hP.sub (ws' := [(ad 2, stE s_trial_people s_trial_kinds s_trial_deeds s_trial_feeding s_trial_large s_trial_dead s_trial_dayNumber)]) [1] rfl) hK rfl rfl) rfl rfl hl.1 rfl (lv_room (Nat.le_of_ble_eq_true rfl)) dX3_isSo_5 ⟨Nat.zero_le _, Nat.zero_le _⟩) hS hP (fun H locs hP hS => ?_)
  refine lv_if_eq (tgt := 22) hx hb dX3_isSo_8 (by decide) (fun c3 => ?_) (fun c3 => ?_)
  · have hf := iteT hf c3
    refine lv_iconst (v := 1) hx hb dX3_isSo_22 (by decide) ?_
    have hv := Option.some.inj hf
    exact hret _ _ _ _ _ hS rfl hv dX3_isSo_23
  · have hf := iteF hf c3
    refine lv_aload_n hx hb dX3_isSo_11 rfl (lv_at hl 0 rfl) ?_
    refine va_get (D := gD G) (ci := 3) (v := .ref (ad 2)) (C := RX3) (T := TX3) (N := 11) hx hb hts hi_X3 hown hK.1 hP 0 rfl rfl 2 (by decide) kl_23 (fun _ h9 => h9) rfl dX3_isSo_12 ?_
    refine lv_iload_n hx hb dX3_isSo_15 rfl (lv_at hl 2 rfl) ?_
    obtain ⟨o4, hc5, hf⟩ := bindS hf
    refine ro_i (va_runVN (C := RX1) (As := [.int a2]) (rest := []) ⟨hx, hb, hml, hown, hts⟩ (ctX1_has l G (ad 2) s_trial_people s_trial_kinds s_trial_deeds s_trial_feeding s_trial_large s_trial_dead s_trial_dayNumber a2 o4 hc5) ⟨va_cnB 1 hts gX3_isSo_X1_has_n92 rfl rfl rfl (nm_X3_92 hK.2) (hts (.initialized RX1) (by decide +kernel)) (by decide +kernel) ⟨Nat.le_of_ble_eq_true rfl, Nat.le_of_ble_eq_true rfl⟩, hts (.instanceMethod yX1_has) (by decide +kernel), hts (.selects RX1 yX1_has yX1_has) (by decide +kernel)⟩ (preR_V (q0 := 0) (ci := 1) (hP.sub (ws' := [(ad 2, stE s_trial_people s_trial_kinds s_trial_deeds s_trial_feeding s_trial_large s_trial_dead s_trial_dayNumber)]) [1] rfl) hK rfl rfl) rfl rfl hl.1 rfl (lv_room (Nat.le_of_ble_eq_true rfl)) dX3_isSo_16 ⟨Nat.zero_le _, Nat.zero_le _⟩) hS hP (fun H locs hP hS => ?_)
    refine lv_if_ne (tgt := 24) hx hb dX3_isSo_19 (by decide) (fun c6 => ?_) (fun c6 => ?_)
    · have hf := iteF hf c6
      refine lv_aload_n hx hb dX3_isSo_24 rfl (lv_at hl 0 rfl) ?_
      refine va_get (D := gD G) (ci := 3) (v := .ref (ad 2)) (C := RX3) (T := TX3) (N := 11) hx hb hts hi_X3 hown hK.1 hP 0 rfl rfl 2 (by decide) kl_23 (fun _ h9 => h9) rfl dX3_isSo_25 ?_
      refine lv_iload_n hx hb dX3_isSo_28 rfl (lv_at hl 1 rfl) ?_
      obtain ⟨o7, hc8, hf⟩ := bindS hf
      refine ro_i (va_runVN (C := RX1) (As := [.int a1]) (rest := []) ⟨hx, hb, hml, hown, hts⟩ (ctX1_placeOf l G (ad 2) s_trial_people s_trial_kinds s_trial_deeds s_trial_feeding s_trial_large s_trial_dead s_trial_dayNumber a1 o7 hc8) ⟨va_cnB 1 hts gX3_isSo_X1_placeOf_n155 rfl rfl rfl (nm_X3_155 hK.2) (hts (.initialized RX1) (by decide +kernel)) (by decide +kernel) ⟨Nat.le_of_ble_eq_true rfl, Nat.le_of_ble_eq_true rfl⟩, hts (.instanceMethod yX1_placeOf) (by decide +kernel), hts (.selects RX1 yX1_placeOf yX1_placeOf) (by decide +kernel)⟩ (preR_V (q0 := 0) (ci := 1) (hP.sub (ws' := [(ad 2, stE s_trial_people s_trial_kinds s_trial_deeds s_trial_feeding s_trial_large s_trial_dead s_trial_dayNumber)]) [1] rfl) hK rfl rfl) rfl rfl hl.1 rfl (lv_room (Nat.le_of_ble_eq_true rfl)) dX3_isSo_29 ⟨Nat.zero_le _, Nat.zero_le _⟩) hS hP (fun H locs hP hS => ?_)
      refine lv_istore_n (lv' := [(3, .int o7), (0, .ref h0), (1, .int a1), (2, .int a2)]) hx hb dX3_isSo_32 rfl hl (by decide) rfl (fun ls hl => ?_)
      refine lv_aload_n hx hb dX3_isSo_33 rfl (lv_at hl 1 rfl) ?_
      refine va_get (D := gD G) (ci := 3) (v := .ref (ad 2)) (C := RX3) (T := TX3) (N := 11) hx hb hts hi_X3 hown hK.1 hP 0 rfl rfl 2 (by decide) kl_23 (fun _ h9 => h9) rfl dX3_isSo_34 ?_
      refine lv_iload_n hx hb dX3_isSo_37 rfl (lv_at hl 3 rfl) ?_
      obtain ⟨o9, hc10, hf⟩ := bindS hf
      refine ro_i (va_runVN (C := RX1) (As := [.int a2]) (rest := []) ⟨hx, hb, hml, hown, hts⟩ (ctX1_placeOf l G (ad 2) s_trial_people s_trial_kinds s_trial_deeds s_trial_feeding s_trial_large s_trial_dead s_trial_dayNumber a2 o9 hc10) ⟨va_cnB 1 hts gX3_isSo_X1_placeOf_n155 rfl rfl rfl (nm_X3_155 hK.2) (hts (.initialized RX1) (by decide +kernel)) (by decide +kernel) ⟨Nat.le_of_ble_eq_true rfl, Nat.le_of_ble_eq_true rfl⟩, hts (.instanceMethod yX1_placeOf) (by decide +kernel), hts (.selects RX1 yX1_placeOf yX1_placeOf) (by decide +kernel)⟩ (preR_V (q0 := 0) (ci := 1) (hP.sub (ws' := [(ad 2, stE s_trial_people s_trial_kinds s_trial_deeds s_trial_feeding s_trial_large s_trial_dead s_trial_dayNumber)]) [1] rfl) hK rfl rfl) rfl rfl hl.1 rfl (lv_room (Nat.le_of_ble_eq_true rfl)) dX3_isSo_38 ⟨Nat.zero_le _, Nat.zero_le _⟩) hS hP (fun H locs hP hS => ?_)
      refine lv_istore (lv' := [(4, .int o9), (3, .int o7), (0, .ref h0), (1, .int a1), (2, .int a2)]) hx hb dX3_isSo_41 hl (by decide) rfl (fun ls hl => ?_)
      refine lv_iload_n hx hb dX3_isSo_43 rfl (lv_at hl 1 rfl) ?_
      refine lv_bipush (v := (-9)) hx hb dX3_isSo_44 (by decide) ?_
      refine lv_icmp_eq (tgt := 66) hx hb dX3_isSo_46 (by decide) (fun c11 => ?_) (fun c11 => ?_)
      · have hf := iteT hf c11
        refine lv_iconst (v := 0) hx hb dX3_isSo_66 (by decide) ?_
        have hv := Option.some.inj hf
        exact hret _ _ _ _ _ hS rfl hv dX3_isSo_67
      · have hf := iteF hf c11
        refine lv_iload hx hb dX3_isSo_49 (lv_at hl 0 rfl) ?_
        refine lv_bipush (v := (-9)) hx hb dX3_isSo_51 (by decide) ?_
        refine lv_icmp_eq (tgt := 62) hx hb dX3_isSo_53 (by decide) (fun c12 => ?_) (fun c12 => ?_)
        · have hf := iteT hf c12
          refine lv_iconst (v := 1) hx hb dX3_isSo_62 (by decide) ?_
          refine lv_goto (tgt := 67) hx hb dX3_isSo_63 (by decide) ?_
          have hv := Option.some.inj hf
          exact hret _ _ _ _ _ hS rfl hv dX3_isSo_67
        · have hf := iteF hf c12
          refine lv_iload hx hb dX3_isSo_56 (lv_at hl 0 rfl) ?_
          refine lv_iload_n hx hb dX3_isSo_58 rfl (lv_at hl 1 rfl) ?_
          refine lv_icmp_le (tgt := 66) hx hb dX3_isSo_59 (by decide) (fun c13 => ?_) (fun c13 => ?_)
          · have hf := iteT hf c13
            refine lv_iconst (v := 0) hx hb dX3_isSo_66 (by decide) ?_
            have hv := Option.some.inj hf
            exact hret _ _ _ _ _ hS rfl hv dX3_isSo_67
          · have hf := iteF hf c13
            refine lv_iconst (v := 1) hx hb dX3_isSo_62 (by decide) ?_
            refine lv_goto (tgt := 67) hx hb dX3_isSo_63 (by decide) ?_
            have hv := Option.some.inj hf
            exact hret _ _ _ _ _ hS rfl hv dX3_isSo_67
    · have hf := iteT hf c6
      refine lv_iconst (v := 1) hx hb dX3_isSo_22 (by decide) ?_
      have hv := Option.some.inj hf
      exact hret _ _ _ _ _ hS rfl hv dX3_isSo_23
def fX3_allSeenIsSo_2 (s_seenCount : Int32) (s_trial_people : Int32) (s_trial_kinds : Int32) (s_trial_deeds : Int32) (s_trial_feeding : Int64) (s_trial_large : Int32) (q_seen : Nat → Int32) : Nat → Int32 → Option (Int32)
  | 0, _ => none
  | n + 1, x1 => (if s_seenCount ≤ x1 then some 1 else ck x1 6 (ck x1 6 ((fX3_isSo s_trial_people s_trial_kinds s_trial_deeds s_trial_feeding s_trial_large ((q_seen (Int32.toNatClampNeg x1)) / 10) ((q_seen (Int32.toNatClampNeg x1)) - (q_seen (Int32.toNatClampNeg x1)) / 10 * 10)).bind fun o4 => ((if o4 = 0 then some 0 else (fX3_allSeenIsSo_2 s_seenCount s_trial_people s_trial_kinds s_trial_deeds s_trial_feeding s_trial_large q_seen n (x1 + 1)))))))
def fX3_allSeenIsSo (s_seenCount : Int32) (s_trial_people : Int32) (s_trial_kinds : Int32) (s_trial_deeds : Int32) (s_trial_feeding : Int64) (s_trial_large : Int32) (q_seen : Nat → Int32) : Option (Int32) :=
  (fX3_allSeenIsSo_2 s_seenCount s_trial_people s_trial_kinds s_trial_deeds s_trial_feeding s_trial_large q_seen 8 0)
set_option maxHeartbeats 4000000 in
set_option maxRecDepth 100000 in
theorem ctX3_allSeenIsSo (l : Launch) (G : GG) (h0 : Nat) (ad : Nat → Nat) (s_keptSlots : Int32) (s_seenCount : Int32) (s_seed : Int64) (s_trial_people : Int32) (s_trial_kinds : Int32) (s_trial_deeds : Int32) (s_trial_feeding : Int64) (s_trial_large : Int32) (s_trial_dead : Int32) (s_trial_dayNumber : Int32) (q_seen : Nat → Int32) (out : Int32) (hf : fX3_allSeenIsSo s_seenCount s_trial_people s_trial_kinds s_trial_deeds s_trial_feeding s_trial_large q_seen = some out) : Met l yX3_allSeenIsSo wsX3_allSeenIsSo ({ frames := 5, cells := 0, slots := 0, locals := 117 }) (PcR G [.ref h0] [(h0, xoE ad s_keptSlots s_seenCount s_seed), (ad 2, stE s_trial_people s_trial_kinds s_trial_deeds s_trial_feeding s_trial_large s_trial_dead s_trial_dayNumber), (ad 6, aI G 6 q_seen)]) (QiR out) 0 0 noA := by
  refine mk_Rz (cc := cX3_allSeenIsSo) (maxL := 2) (by decide) rfl (Nat.le_of_ble_eq_true rfl) ?_
  intro p e s m args below meth c Q ls S hP hK hl hret
  obtain ⟨hx, hb, hml, hown, hts⟩ := S
  have hown : s.vm.findClass RX3 = some m.cls := hown
  have kl_89 := hts (.fieldLink RX3 89 "ArrestOrder" "seenCount" "I") (by decide +kernel)
  have hi_X3 : ∀ w ∈ wsX30, w ∈ wsX3_allSeenIsSo := fun _ h => List.mem_cons_of_mem _ (List.mem_append_left _ (List.mem_append_right _ h))
  have kl_37 := hts (.fieldLink RX3 37 "ArrestOrder" "seen" "[I") (by decide +kernel)
  have hS : va_S noA s.heap s.heap [] := va_S.rf
  have hl : lv_has ls 2 [(0, .ref h0)] := hl
  have hC2 : ∀ (n : Nat) (x1 : Int32) (H : Heap) (locs : List Loc) (ls : Array Slot), va_P (gD G) vwCl [(h0, xoE ad s_keptSlots s_seenCount s_seed), (ad 2, stE s_trial_people s_trial_kinds s_trial_deeds s_trial_feeding s_trial_large s_trial_dead s_trial_dayNumber), (ad 6, aI G 6 q_seen)] H → va_S noA s.heap H locs → lv_has ls 2 [(0, .ref h0), (1, .int x1)] → fX3_allSeenIsSo_2 s_seenCount s_trial_people s_trial_kinds s_trial_deeds s_trial_feeding s_trial_large q_seen n x1 = some out → W p l e ({ frames := 5, cells := 0, slots := 0, locals := 117 }) s m args below meth c H locs 0 0 Q (F0 m 2 ls []) := by
    intro n2
    induction n2 with
    | zero => intro x1 H locs ls hP hS hl hf; exact absurd (show none = some out from hf) (fun z => by cases z)
    | succ n2 ih2 =>
      intro x1 H locs ls hP hS hl hf
      refine lv_iload_n hx hb dX3_allSeenIsSo_2 rfl (lv_at hl 1 rfl) ?_
      refine lv_aload_n hx hb dX3_allSeenIsSo_3 rfl (lv_at hl 0 rfl) ?_
      refine va_get (D := gD G) (ci := 3) (v := .int s_seenCount) (C := RX3) (T := TX3) (N := 11) hx hb hts hi_X3 hown hK.1 hP 0 rfl rfl 7 (by decide) kl_89 (fun _ h9 => h9) rfl dX3_allSeenIsSo_4 ?_
      refine lv_icmp_ge (tgt := 43) hx hb dX3_allSeenIsSo_7 (by decide) (fun c1 => ?_) (fun c1 => ?_)
      · have hf := iteT hf c1
        refine lv_iconst (v := 1) hx hb dX3_allSeenIsSo_43 (by decide) ?_
        have hv := Option.some.inj hf
        exact hret _ _ _ _ _ hS rfl hv dX3_allSeenIsSo_44
      · have hf := iteF hf c1
        refine lv_aload_n hx hb dX3_allSeenIsSo_10 rfl (lv_at hl 0 rfl) ?_
        refine lv_aload_n hx hb dX3_allSeenIsSo_11 rfl (lv_at hl 0 rfl) ?_
        refine va_get (D := gD G) (ci := 3) (v := .ref (ad 6)) (C := RX3) (T := TX3) (N := 11) hx hb hts hi_X3 hown hK.1 hP 0 rfl rfl 6 (by decide) kl_37 (fun _ h9 => h9) rfl dX3_allSeenIsSo_12 ?_
        refine lv_iload_n hx hb dX3_allSeenIsSo_15 rfl (lv_at hl 1 rfl) ?_
        obtain ⟨hi2, hf⟩ := ckS hf
        refine va_iald hx hb hK.1 hP 2 0 rfl rfl hi2 dX3_allSeenIsSo_16 ?_
        refine lv_bipush (v := 10) hx hb dX3_allSeenIsSo_17 (by decide) ?_
        refine lv_idiv hx hb dX3_allSeenIsSo_19 (by decide) ?_
        refine lv_aload_n hx hb dX3_allSeenIsSo_20 rfl (lv_at hl 0 rfl) ?_
        refine va_get (D := gD G) (ci := 3) (v := .ref (ad 6)) (C := RX3) (T := TX3) (N := 11) hx hb hts hi_X3 hown hK.1 hP 0 rfl rfl 6 (by decide) kl_37 (fun _ h9 => h9) rfl dX3_allSeenIsSo_21 ?_
        refine lv_iload_n hx hb dX3_allSeenIsSo_24 rfl (lv_at hl 1 rfl) ?_
        obtain ⟨hi3, hf⟩ := ckS hf
        refine va_iald hx hb hK.1 hP 2 0 rfl rfl hi3 dX3_allSeenIsSo_25 ?_
        refine lv_bipush (v := 10) hx hb dX3_allSeenIsSo_26 (by decide) ?_
        refine lv_irem hx hb dX3_allSeenIsSo_28 (by decide) ?_
        obtain ⟨o4, hc5, hf⟩ := bindS hf
        refine ro_i (va_runV (C := RX3) (As := [.int ((q_seen (Int32.toNatClampNeg x1)) / 10), .int ((q_seen (Int32.toNatClampNeg x1)) - (q_seen (Int32.toNatClampNeg x1)) / 10 * 10)]) (rest := []) ⟨hx, hb, hml, hown, hts⟩ (ctX3_isSo l G h0 ad s_keptSlots s_seenCount s_seed s_trial_people s_trial_kinds s_trial_deeds s_trial_feeding s_trial_large s_trial_dead s_trial_dayNumber ((q_seen (Int32.toNatClampNeg x1)) / 10) ((q_seen (Int32.toNatClampNeg x1)) - (q_seen (Int32.toNatClampNeg x1)) / 10 * 10) o4 hc5) (cwV 2 hts gX3_allSeenIsSo_X3_isSo rfl rfl rfl (by decide +kernel) ⟨Nat.le_of_ble_eq_true rfl, Nat.le_of_ble_eq_true rfl⟩) (preR_V (q0 := 0) (ci := 3) (hP.sub (ws' := [(h0, xoE ad s_keptSlots s_seenCount s_seed), (ad 2, stE s_trial_people s_trial_kinds s_trial_deeds s_trial_feeding s_trial_large s_trial_dead s_trial_dayNumber)]) [0, 1] rfl) hK rfl rfl) rfl rfl hl.1 rfl (lv_room (Nat.le_of_ble_eq_true rfl)) dX3_allSeenIsSo_29 ⟨Nat.zero_le _, Nat.zero_le _⟩) hS hP (fun H locs hP hS => ?_)
        refine lv_if_ne (tgt := 37) hx hb dX3_allSeenIsSo_32 (by decide) (fun c6 => ?_) (fun c6 => ?_)
        · have hf := iteF hf c6
          refine lv_iinc (v := (x1 + 1)) (lv' := [(1, .int (x1 + 1)), (0, .ref h0)]) hx hb dX3_allSeenIsSo_37 hl (k := 1) rfl rfl (by decide) rfl (fun ls hl => ?_)
          refine lv_goto (tgt := 2) hx hb dX3_allSeenIsSo_40 (by decide) ?_
          exact ih2 (x1 + 1) _ _ _ hP hS (lv_sub hl [1, 0] rfl) hf
        · have hf := iteT hf c6
          refine lv_iconst (v := 0) hx hb dX3_allSeenIsSo_35 (by decide) ?_
          have hv := Option.some.inj hf
          exact hret _ _ _ _ _ hS rfl hv dX3_allSeenIsSo_36
  refine lv_iconst (v := 0) hx hb dX3_allSeenIsSo_0 (by decide) ?_
  refine lv_istore_n (lv' := [(1, .int 0), (0, .ref h0)]) hx hb dX3_allSeenIsSo_1 rfl hl (by decide) rfl (fun ls hl => ?_)
  exact hC2 8 0 _ _ _ hP hS (lv_sub hl [1, 0] rfl) hf
def fX3_did_28 (s_seenCount : Int32) (q_seen : Nat → Int32) (a1 : Int32) : Nat → Int32 → Int32 → Int32 → Int32 → Int32 → Int64 → Int32 → Int32 → Int32 → Option (Int32 × Int32 × Int32 × Int32 × Int64 × Int32 × Int32 × Int32)
  | 0, _, _, _, _, _, _, _, _, _ => none
  | n + 1, x2, x3, s_trial_people, s_trial_kinds, s_trial_deeds, s_trial_feeding, s_trial_large, s_trial_dead, s_trial_dayNumber => (if 10 ≤ x3 then some (x2, s_trial_people, s_trial_kinds, s_trial_deeds, s_trial_feeding, s_trial_large, s_trial_dead, s_trial_dayNumber) else (fX1_setDeed s_trial_deeds a1 x3).bind fun o7 => ((fX3_allSeenIsSo s_seenCount s_trial_people s_trial_kinds o7 s_trial_feeding s_trial_large q_seen).bind fun o9 => ((if o9 = 0 then (fX3_did_28 s_seenCount q_seen a1 n x2 (x3 + 1) s_trial_people s_trial_kinds o7 s_trial_feeding s_trial_large s_trial_dead s_trial_dayNumber) else (fX3_bit x3).bind fun o12 => ((fX3_did_28 s_seenCount q_seen a1 n (x2 ||| o12) (x3 + 1) s_trial_people s_trial_kinds o7 s_trial_feeding s_trial_large s_trial_dead s_trial_dayNumber))))))
def fX3_did (s_seenCount : Int32) (s_now_people : Int32) (s_now_kinds : Int32) (s_now_deeds : Int32) (s_now_feeding : Int64) (s_now_large : Int32) (s_now_dead : Int32) (s_now_dayNumber : Int32) (s_trial_people : Int32) (s_trial_kinds : Int32) (s_trial_deeds : Int32) (s_trial_feeding : Int64) (s_trial_large : Int32) (s_trial_dead : Int32) (s_trial_dayNumber : Int32) (q_seen : Nat → Int32) (a1 : Int32) : Option (Int32 × Int32 × Int32 × Int32 × Int64 × Int32 × Int32 × Int32) :=
  (fX1_has s_now_people a1).bind fun o1 => ((if o1 = 0 then some ((-1), s_trial_people, s_trial_kinds, s_trial_deeds, s_trial_feeding, s_trial_large, s_trial_dead, s_trial_dayNumber) else (fX1_copy s_trial_people s_trial_kinds s_trial_deeds s_trial_feeding s_trial_large s_trial_dead s_trial_dayNumber s_now_people s_now_kinds s_now_deeds s_now_feeding s_now_large s_now_dead s_now_dayNumber).bind fun o4 => ((fX3_did_28 s_seenCount q_seen a1 12 0 0 o4.1 o4.2.1 o4.2.2.1 o4.2.2.2.1 o4.2.2.2.2.1 o4.2.2.2.2.2.1 o4.2.2.2.2.2.2))))
set_option maxHeartbeats 4000000 in
set_option maxRecDepth 100000 in
theorem ctX3_did (l : Launch) (G : GG) (h0 : Nat) (ad : Nat → Nat) (s_keptSlots : Int32) (s_seenCount : Int32) (s_seed : Int64) (s_now_people : Int32) (s_now_kinds : Int32) (s_now_deeds : Int32) (s_now_feeding : Int64) (s_now_large : Int32) (s_now_dead : Int32) (s_now_dayNumber : Int32) (s_trial_people : Int32) (s_trial_kinds : Int32) (s_trial_deeds : Int32) (s_trial_feeding : Int64) (s_trial_large : Int32) (s_trial_dead : Int32) (s_trial_dayNumber : Int32) (q_seen : Nat → Int32) (a1 : Int32) (out : Int32 × Int32 × Int32 × Int32 × Int64 × Int32 × Int32 × Int32) (hf : fX3_did s_seenCount s_now_people s_now_kinds s_now_deeds s_now_feeding s_now_large s_now_dead s_now_dayNumber s_trial_people s_trial_kinds s_trial_deeds s_trial_feeding s_trial_large s_trial_dead s_trial_dayNumber q_seen a1 = some out) : Met l yX3_did wsX3_did ({ frames := 6, cells := 0, slots := 0, locals := 138 }) (PcW G [.ref h0, .int a1] [(h0, xoE ad s_keptSlots s_seenCount s_seed), (ad 1, stE s_now_people s_now_kinds s_now_deeds s_now_feeding s_now_large s_now_dead s_now_dayNumber), (ad 2, stE s_trial_people s_trial_kinds s_trial_deeds s_trial_feeding s_trial_large s_trial_dead s_trial_dayNumber), (ad 6, aI G 6 q_seen)]) (QiW G [(h0, xoE ad s_keptSlots s_seenCount s_seed), (ad 1, stE s_now_people s_now_kinds s_now_deeds s_now_feeding s_now_large s_now_dead s_now_dayNumber), (ad 2, stE s_trial_people s_trial_kinds s_trial_deeds s_trial_feeding s_trial_large s_trial_dead s_trial_dayNumber), (ad 6, aI G 6 q_seen)] [(h0, xoE ad s_keptSlots s_seenCount s_seed), (ad 1, stE s_now_people s_now_kinds s_now_deeds s_now_feeding s_now_large s_now_dead s_now_dayNumber), (ad 2, stE out.2.1 out.2.2.1 out.2.2.2.1 out.2.2.2.2.1 out.2.2.2.2.2.1 out.2.2.2.2.2.2.1 out.2.2.2.2.2.2.2), (ad 6, aI G 6 q_seen)] out.1) 0 0 (inA [(h0, xoE ad s_keptSlots s_seenCount s_seed), (ad 1, stE s_now_people s_now_kinds s_now_deeds s_now_feeding s_now_large s_now_dead s_now_dayNumber), (ad 2, stE s_trial_people s_trial_kinds s_trial_deeds s_trial_feeding s_trial_large s_trial_dead s_trial_dayNumber), (ad 6, aI G 6 q_seen)]) := by
  refine mk_Wi (cc := cX3_did) (maxL := 4) (by decide) rfl (Nat.le_of_ble_eq_true rfl) ?_
  intro p e s m args below meth c Q ls A S hP hK hD hl hret
  obtain ⟨hx, hb, hml, hown, hts⟩ := S
  have hown : s.vm.findClass RX3 = some m.cls := hown
  have kl_19 := hts (.fieldLink RX3 19 "ArrestOrder" "now" "LArrestOrder$Standing;") (by decide +kernel)
  have hi_X3 : ∀ w ∈ wsX30, w ∈ wsX3_did := fun _ h => List.mem_cons_of_mem _ (List.mem_append_left _ (List.mem_append_right _ h))
  have kl_23 := hts (.fieldLink RX3 23 "ArrestOrder" "trial" "LArrestOrder$Standing;") (by decide +kernel)
  have hS : va_S A s.heap s.heap [] := va_S.rf
  have hl : lv_has ls 4 [(0, .ref h0), (1, .int a1)] := hl
  have hC28 : ∀ (n : Nat) (x2 : Int32) (x3 : Int32) (s_trial_people : Int32) (s_trial_kinds : Int32) (s_trial_deeds : Int32) (s_trial_feeding : Int64) (s_trial_large : Int32) (s_trial_dead : Int32) (s_trial_dayNumber : Int32) (H : Heap) (locs : List Loc) (ls : Array Slot), va_P (gD G) vwCl [(h0, xoE ad s_keptSlots s_seenCount s_seed), (ad 1, stE s_now_people s_now_kinds s_now_deeds s_now_feeding s_now_large s_now_dead s_now_dayNumber), (ad 2, stE s_trial_people s_trial_kinds s_trial_deeds s_trial_feeding s_trial_large s_trial_dead s_trial_dayNumber), (ad 6, aI G 6 q_seen)] H → va_D A [(h0, xoE ad s_keptSlots s_seenCount s_seed), (ad 1, stE s_now_people s_now_kinds s_now_deeds s_now_feeding s_now_large s_now_dead s_now_dayNumber), (ad 2, stE s_trial_people s_trial_kinds s_trial_deeds s_trial_feeding s_trial_large s_trial_dead s_trial_dayNumber), (ad 6, aI G 6 q_seen)] → va_S A s.heap H locs → lv_has ls 4 [(0, .ref h0), (1, .int a1), (2, .int x2), (3, .int x3)] → fX3_did_28 s_seenCount q_seen a1 n x2 x3 s_trial_people s_trial_kinds s_trial_deeds s_trial_feeding s_trial_large s_trial_dead s_trial_dayNumber = some out → W p l e ({ frames := 6, cells := 0, slots := 0, locals := 138 }) s m args below meth c H locs 0 0 Q (F0 m 28 ls []) := by
    intro n28
    induction n28 with
    | zero => intro x2 x3 s_trial_people s_trial_kinds s_trial_deeds s_trial_feeding s_trial_large s_trial_dead s_trial_dayNumber H locs ls hP hD hS hl hf; exact absurd (show none = some out from hf) (fun z => by cases z)
    | succ n28 ih28 =>
      intro x2 x3 s_trial_people s_trial_kinds s_trial_deeds s_trial_feeding s_trial_large s_trial_dead s_trial_dayNumber H locs ls hP hD hS hl hf
      refine lv_iload_n hx hb dX3_did_28 rfl (lv_at hl 3 rfl) ?_
      refine lv_bipush (v := 10) hx hb dX3_did_29 (by decide) ?_
      refine lv_icmp_ge (tgt := 63) hx hb dX3_did_31 (by decide) (fun c6 => ?_) (fun c6 => ?_)
      · have hf := iteT hf c6
        refine lv_iload_n hx hb dX3_did_63 rfl (lv_at hl 2 rfl) ?_
        have hv := Option.some.inj hf
        exact hret _ _ _ _ _ (by rw [← hv]; exact hP) hS (by rw [← hv]) dX3_did_64
      · have hf := iteF hf c6
        refine lv_aload_n hx hb dX3_did_34 rfl (lv_at hl 0 rfl) ?_
        refine va_get (D := gD G) (ci := 3) (v := .ref (ad 2)) (C := RX3) (T := TX3) (N := 11) hx hb hts hi_X3 hown hK.1 hP 0 rfl rfl 2 (by decide) kl_23 (fun _ h9 => h9) rfl dX3_did_35 ?_
        refine lv_iload_n hx hb dX3_did_38 rfl (lv_at hl 1 rfl) ?_
        refine lv_iload_n hx hb dX3_did_39 rfl (lv_at hl 3 rfl) ?_
        obtain ⟨o7, hc8, hf⟩ := bindS hf
        refine rw_v (va_runVN (C := RX1) (As := [.int a1, .int x3]) (rest := []) ⟨hx, hb, hml, hown, hts⟩ (ctX1_setDeed l G (ad 2) s_trial_people s_trial_kinds s_trial_deeds s_trial_feeding s_trial_large s_trial_dead s_trial_dayNumber a1 x3 o7 hc8) ⟨va_cnB 2 hts gX3_did_X1_setDeed_n141 rfl rfl rfl (nm_X3_141 hK.2) (hts (.initialized RX1) (by decide +kernel)) (by decide +kernel) ⟨Nat.le_of_ble_eq_true rfl, Nat.le_of_ble_eq_true rfl⟩, hts (.instanceMethod yX1_setDeed) (by decide +kernel), hts (.selects RX1 yX1_setDeed yX1_setDeed) (by decide +kernel)⟩ (preW_V (q0 := 0) (ci := 1) (hP.sub (ws' := [(ad 2, stE s_trial_people s_trial_kinds s_trial_deeds s_trial_feeding s_trial_large s_trial_dead s_trial_dayNumber)]) [2] rfl) (hD.sub (ws' := [(ad 2, stE s_trial_people s_trial_kinds s_trial_deeds s_trial_feeding s_trial_large s_trial_dead s_trial_dayNumber)]) [2] (by decide) rfl) hK rfl rfl) rfl rfl hl.1 rfl (lv_room (Nat.le_of_ble_eq_true rfl)) dX3_did_40 ⟨Nat.zero_le _, Nat.zero_le _⟩) hS hP hD [2] rfl rfl rfl (fun H locs hP hD hS => ?_)
        have hP : va_P (gD G) vwCl [(h0, xoE ad s_keptSlots s_seenCount s_seed), (ad 1, stE s_now_people s_now_kinds s_now_deeds s_now_feeding s_now_large s_now_dead s_now_dayNumber), (ad 2, stE s_trial_people s_trial_kinds o7 s_trial_feeding s_trial_large s_trial_dead s_trial_dayNumber), (ad 6, aI G 6 q_seen)] H := hP
        have hD : va_D A [(h0, xoE ad s_keptSlots s_seenCount s_seed), (ad 1, stE s_now_people s_now_kinds s_now_deeds s_now_feeding s_now_large s_now_dead s_now_dayNumber), (ad 2, stE s_trial_people s_trial_kinds o7 s_trial_feeding s_trial_large s_trial_dead s_trial_dayNumber), (ad 6, aI G 6 q_seen)] := hD
        refine lv_aload_n hx hb dX3_did_43 rfl (lv_at hl 0 rfl) ?_
        obtain ⟨o9, hc10, hf⟩ := bindS hf
        refine ro_i (va_runV (C := RX3) (As := []) (rest := []) ⟨hx, hb, hml, hown, hts⟩ (ctX3_allSeenIsSo l G h0 ad s_keptSlots s_seenCount s_seed s_trial_people s_trial_kinds o7 s_trial_feeding s_trial_large s_trial_dead s_trial_dayNumber q_seen o9 hc10) (cwV 0 hts gX3_did_X3_allSeenIsSo rfl rfl rfl (by decide +kernel) ⟨Nat.le_of_ble_eq_true rfl, Nat.le_of_ble_eq_true rfl⟩) (preR_V (q0 := 0) (ci := 3) (hP.sub (ws' := [(h0, xoE ad s_keptSlots s_seenCount s_seed), (ad 2, stE s_trial_people s_trial_kinds o7 s_trial_feeding s_trial_large s_trial_dead s_trial_dayNumber), (ad 6, aI G 6 q_seen)]) [0, 2, 3] rfl) hK rfl rfl) rfl rfl hl.1 rfl (lv_room (Nat.le_of_ble_eq_true rfl)) dX3_did_44 ⟨Nat.zero_le _, Nat.zero_le _⟩) hS hP (fun H locs hP hS => ?_)
        refine lv_if_eq (tgt := 57) hx hb dX3_did_47 (by decide) (fun c11 => ?_) (fun c11 => ?_)
        · have hf := iteT hf c11
          refine lv_iinc (v := (x3 + 1)) (lv' := [(3, .int (x3 + 1)), (0, .ref h0), (1, .int a1), (2, .int x2)]) hx hb dX3_did_57 hl (k := 3) rfl rfl (by decide) rfl (fun ls hl => ?_)
          refine lv_goto (tgt := 28) hx hb dX3_did_60 (by decide) ?_
          exact ih28 x2 (x3 + 1) s_trial_people s_trial_kinds o7 s_trial_feeding s_trial_large s_trial_dead s_trial_dayNumber _ _ _ hP hD hS (lv_sub hl [1, 2, 3, 0] rfl) hf
        · have hf := iteF hf c11
          refine lv_iload_n hx hb dX3_did_50 rfl (lv_at hl 2 rfl) ?_
          refine lv_iload_n hx hb dX3_did_51 rfl (lv_at hl 3 rfl) ?_
          obtain ⟨o12, hc13, hf⟩ := bindS hf
          refine ro_i (va_runS (As := [.int x3]) (rest := [.int x2]) ⟨hx, hb, hml, hown, hts⟩ (ctX3_bit l G x3 o12 hc13) (va_cwS 1 hts gX3_did_X3_bit rfl rfl rfl (by decide +kernel) ⟨Nat.le_of_ble_eq_true rfl, Nat.le_of_ble_eq_true rfl⟩) (preR_S (hP.sub (ws' := []) [] rfl) hK) rfl rfl hl.1 rfl (lv_room (Nat.le_of_ble_eq_true rfl)) dX3_did_52 ⟨Nat.zero_le _, Nat.zero_le _⟩) hS hP (fun H locs hP hS => ?_)
          refine lv_ior hx hb dX3_did_55 ?_
          refine lv_istore_n (lv' := [(2, .int (x2 ||| o12)), (0, .ref h0), (1, .int a1), (3, .int x3)]) hx hb dX3_did_56 rfl hl (by decide) rfl (fun ls hl => ?_)
          refine lv_iinc (v := (x3 + 1)) (lv' := [(3, .int (x3 + 1)), (2, .int (x2 ||| o12)), (0, .ref h0), (1, .int a1)]) hx hb dX3_did_57 hl (k := 3) rfl rfl (by decide) rfl (fun ls hl => ?_)
          refine lv_goto (tgt := 28) hx hb dX3_did_60 (by decide) ?_
          exact ih28 (x2 ||| o12) (x3 + 1) s_trial_people s_trial_kinds o7 s_trial_feeding s_trial_large s_trial_dead s_trial_dayNumber _ _ _ hP hD hS (lv_sub hl [2, 3, 1, 0] rfl) hf
  refine lv_aload_n hx hb dX3_did_0 rfl (lv_at hl 0 rfl) ?_
  refine va_get (D := gD G) (ci := 3) (v := .ref (ad 1)) (C := RX3) (T := TX3) (N := 11) hx hb hts hi_X3 hown hK.1 hP 0 rfl rfl 1 (by decide) kl_19 (fun _ h9 => h9) rfl dX3_did_1 ?_
  refine lv_iload_n hx hb dX3_did_4 rfl (lv_at hl 1 rfl) ?_
  obtain ⟨o1, hc2, hf⟩ := bindS hf
  refine ro_i (va_runVN (C := RX1) (As := [.int a1]) (rest := []) ⟨hx, hb, hml, hown, hts⟩ (ctX1_has l G (ad 1) s_now_people s_now_kinds s_now_deeds s_now_feeding s_now_large s_now_dead s_now_dayNumber a1 o1 hc2) ⟨va_cnB 1 hts gX3_did_X1_has_n92 rfl rfl rfl (nm_X3_92 hK.2) (hts (.initialized RX1) (by decide +kernel)) (by decide +kernel) ⟨Nat.le_of_ble_eq_true rfl, Nat.le_of_ble_eq_true rfl⟩, hts (.instanceMethod yX1_has) (by decide +kernel), hts (.selects RX1 yX1_has yX1_has) (by decide +kernel)⟩ (preR_V (q0 := 0) (ci := 1) (hP.sub (ws' := [(ad 1, stE s_now_people s_now_kinds s_now_deeds s_now_feeding s_now_large s_now_dead s_now_dayNumber)]) [1] rfl) hK rfl rfl) rfl rfl hl.1 rfl (lv_room (Nat.le_of_ble_eq_true rfl)) dX3_did_5 ⟨Nat.zero_le _, Nat.zero_le _⟩) hS hP (fun H locs hP hS => ?_)
  refine lv_if_ne (tgt := 13) hx hb dX3_did_8 (by decide) (fun c3 => ?_) (fun c3 => ?_)
  · have hf := iteF hf c3
    refine lv_aload_n hx hb dX3_did_13 rfl (lv_at hl 0 rfl) ?_
    refine va_get (D := gD G) (ci := 3) (v := .ref (ad 2)) (C := RX3) (T := TX3) (N := 11) hx hb hts hi_X3 hown hK.1 hP 0 rfl rfl 2 (by decide) kl_23 (fun _ h9 => h9) rfl dX3_did_14 ?_
    refine lv_aload_n hx hb dX3_did_17 rfl (lv_at hl 0 rfl) ?_
    refine va_get (D := gD G) (ci := 3) (v := .ref (ad 1)) (C := RX3) (T := TX3) (N := 11) hx hb hts hi_X3 hown hK.1 hP 0 rfl rfl 1 (by decide) kl_19 (fun _ h9 => h9) rfl dX3_did_18 ?_
    obtain ⟨o4, hc5, hf⟩ := bindS hf
    refine rw_v (va_runVN (C := RX1) (As := [.ref (ad 1)]) (rest := []) ⟨hx, hb, hml, hown, hts⟩ (ctX1_copy l G (ad 2) (ad 1) s_trial_people s_trial_kinds s_trial_deeds s_trial_feeding s_trial_large s_trial_dead s_trial_dayNumber s_now_people s_now_kinds s_now_deeds s_now_feeding s_now_large s_now_dead s_now_dayNumber o4 hc5) ⟨va_cnB 1 hts gX3_did_X1_copy_n59 rfl rfl rfl (nm_X3_59 hK.2) (hts (.initialized RX1) (by decide +kernel)) (by decide +kernel) ⟨Nat.le_of_ble_eq_true rfl, Nat.le_of_ble_eq_true rfl⟩, hts (.instanceMethod yX1_copy) (by decide +kernel), hts (.selects RX1 yX1_copy yX1_copy) (by decide +kernel)⟩ (preW_V (q0 := 0) (ci := 1) (hP.sub (ws' := [(ad 2, stE s_trial_people s_trial_kinds s_trial_deeds s_trial_feeding s_trial_large s_trial_dead s_trial_dayNumber), (ad 1, stE s_now_people s_now_kinds s_now_deeds s_now_feeding s_now_large s_now_dead s_now_dayNumber)]) [2, 1] rfl) (hD.sub (ws' := [(ad 2, stE s_trial_people s_trial_kinds s_trial_deeds s_trial_feeding s_trial_large s_trial_dead s_trial_dayNumber), (ad 1, stE s_now_people s_now_kinds s_now_deeds s_now_feeding s_now_large s_now_dead s_now_dayNumber)]) [2, 1] (by decide) rfl) hK rfl rfl) rfl rfl hl.1 rfl (lv_room (Nat.le_of_ble_eq_true rfl)) dX3_did_21 ⟨Nat.zero_le _, Nat.zero_le _⟩) hS hP hD [2, 1] rfl rfl rfl (fun H locs hP hD hS => ?_)
    have hP : va_P (gD G) vwCl [(h0, xoE ad s_keptSlots s_seenCount s_seed), (ad 1, stE s_now_people s_now_kinds s_now_deeds s_now_feeding s_now_large s_now_dead s_now_dayNumber), (ad 2, stE o4.1 o4.2.1 o4.2.2.1 o4.2.2.2.1 o4.2.2.2.2.1 o4.2.2.2.2.2.1 o4.2.2.2.2.2.2), (ad 6, aI G 6 q_seen)] H := hP
    have hD : va_D A [(h0, xoE ad s_keptSlots s_seenCount s_seed), (ad 1, stE s_now_people s_now_kinds s_now_deeds s_now_feeding s_now_large s_now_dead s_now_dayNumber), (ad 2, stE o4.1 o4.2.1 o4.2.2.1 o4.2.2.2.1 o4.2.2.2.2.1 o4.2.2.2.2.2.1 o4.2.2.2.2.2.2), (ad 6, aI G 6 q_seen)] := hD
    refine lv_iconst (v := 0) hx hb dX3_did_24 (by decide) ?_
    refine lv_istore_n (lv' := [(2, .int 0), (0, .ref h0), (1, .int a1)]) hx hb dX3_did_25 rfl hl (by decide) rfl (fun ls hl => ?_)
    refine lv_iconst (v := 0) hx hb dX3_did_26 (by decide) ?_
    refine lv_istore_n (lv' := [(3, .int 0), (2, .int 0), (0, .ref h0), (1, .int a1)]) hx hb dX3_did_27 rfl hl (by decide) rfl (fun ls hl => ?_)
    exact hC28 12 0 0 o4.1 o4.2.1 o4.2.2.1 o4.2.2.2.1 o4.2.2.2.2.1 o4.2.2.2.2.2.1 o4.2.2.2.2.2.2 _ _ _ hP hD hS (lv_sub hl [2, 3, 1, 0] rfl) hf
  · have hf := iteT hf c3
    refine lv_iconst (v := (-1)) hx hb dX3_did_11 (by decide) ?_
    have hv := Option.some.inj hf
    exact hret _ _ _ _ _ (by rw [← hv]; exact hP) hS (by rw [← hv]) dX3_did_12
def fX3_weighChoices_142 (k27 : Int32 → Int32 → Int32 → Int32 → Int32 → Int64 → Int32 → Int32 → Int32 → (Nat → Int32) → (Nat → Int32) → Option (Int32 × Int32 × Int32 × Int64 × Int32 × Int32 × Int32 × (Nat → Int32) × (Nat → Int32))) (x3 : Int32) (x4 : Int32) (y0 : Int32) (y1 : Int32) (s_trial_people : Int32) (s_trial_kinds : Int32) (s_trial_deeds : Int32) (s_trial_feeding : Int64) (s_trial_large : Int32) (s_trial_dead : Int32) (s_trial_dayNumber : Int32) (q_oneHas : Nat → Int32) (q_otherHas : Nat → Int32) : Option (Int32 × Int32 × Int32 × Int64 × Int32 × Int32 × Int32 × (Nat → Int32) × (Nat → Int32)) :=
  ck y1 64 ((k27 x3 (x4 + 1) s_trial_people s_trial_kinds s_trial_deeds s_trial_feeding s_trial_large s_trial_dead s_trial_dayNumber q_oneHas (upd q_otherHas (Int32.toNatClampNeg y1) y0)))
def fX3_weighChoices_107 (a2 : Int32) (k27 : Int32 → Int32 → Int32 → Int32 → Int32 → Int64 → Int32 → Int32 → Int32 → (Nat → Int32) → (Nat → Int32) → Option (Int32 × Int32 × Int32 × Int64 × Int32 × Int32 × Int32 × (Nat → Int32) × (Nat → Int32))) (x3 : Int32) (x4 : Int32) (x5 : Int32) (y0 : Int32) (y1 : Int32) (s_trial_people : Int32) (s_trial_kinds : Int32) (s_trial_deeds : Int32) (s_trial_feeding : Int64) (s_trial_large : Int32) (s_trial_dead : Int32) (s_trial_dayNumber : Int32) (q_oneHas : Nat → Int32) (q_otherHas : Nat → Int32) : Option (Int32 × Int32 × Int32 × Int64 × Int32 × Int32 × Int32 × (Nat → Int32) × (Nat → Int32)) :=
  ck y1 64 ((fX3_isOpen a2 x4).bind fun o13 => ((if o13 = 0 then (fX3_weighChoices_142 k27 x3 x4 (-9) x5 s_trial_people s_trial_kinds s_trial_deeds s_trial_feeding s_trial_large s_trial_dead s_trial_dayNumber (upd q_oneHas (Int32.toNatClampNeg y1) y0) q_otherHas) else (fX1_worthOf s_trial_people s_trial_kinds s_trial_deeds s_trial_feeding s_trial_large a2).bind fun o17 => ((fX3_cost x4).bind fun o19 => ((fX3_weighChoices_142 k27 x3 x4 (o17 - o19) x5 s_trial_people s_trial_kinds s_trial_deeds s_trial_feeding s_trial_large s_trial_dead s_trial_dayNumber (upd q_oneHas (Int32.toNatClampNeg y1) y0) q_otherHas))))))
def fX3_weighChoices_27 (s_now_people : Int32) (s_now_feeding : Int64) (a1 : Int32) (a2 : Int32) (k13 : Int32 → Int32 → Int32 → Int32 → Int64 → Int32 → Int32 → Int32 → (Nat → Int32) → (Nat → Int32) → Option (Int32 × Int32 × Int32 × Int64 × Int32 × Int32 × Int32 × (Nat → Int32) × (Nat → Int32))) : Nat → Int32 → Int32 → Int32 → Int32 → Int32 → Int64 → Int32 → Int32 → Int32 → (Nat → Int32) → (Nat → Int32) → Option (Int32 × Int32 × Int32 × Int64 × Int32 × Int32 × Int32 × (Nat → Int32) × (Nat → Int32))
  | 0, _, _, _, _, _, _, _, _, _, _, _ => none
  | n + 1, x3, x4, s_trial_people, s_trial_kinds, s_trial_deeds, s_trial_feeding, s_trial_large, s_trial_dead, s_trial_dayNumber, q_oneHas, q_otherHas => (if s_now_people < x4 then (k13 (x3 + 1) s_trial_people s_trial_kinds s_trial_deeds s_trial_feeding s_trial_large s_trial_dead s_trial_dayNumber q_oneHas q_otherHas) else (fX3_chosen a1 x3).bind fun o5 => ((fX3_chosen a2 x4).bind fun o7 => ((fX3_isOpen a1 x3).bind fun o9 => ((if o9 = 0 then (fX3_weighChoices_107 a2 (fun x3 x4 s_trial_people s_trial_kinds s_trial_deeds s_trial_feeding s_trial_large s_trial_dead s_trial_dayNumber q_oneHas q_otherHas => fX3_weighChoices_27 s_now_people s_now_feeding a1 a2 k13 n x3 x4 s_trial_people s_trial_kinds s_trial_deeds s_trial_feeding s_trial_large s_trial_dead s_trial_dayNumber q_oneHas q_otherHas) x3 x4 ((8 * x3) + x4) (-9) ((8 * x3) + x4) s_trial_people s_trial_kinds s_trial_deeds ((s_now_feeding ||| o5) ||| o7) s_trial_large s_trial_dead s_trial_dayNumber q_oneHas q_otherHas) else (fX1_worthOf s_trial_people s_trial_kinds s_trial_deeds ((s_now_feeding ||| o5) ||| o7) s_trial_large a1).bind fun o21 => ((fX3_cost x3).bind fun o23 => ((fX3_weighChoices_107 a2 (fun x3 x4 s_trial_people s_trial_kinds s_trial_deeds s_trial_feeding s_trial_large s_trial_dead s_trial_dayNumber q_oneHas q_otherHas => fX3_weighChoices_27 s_now_people s_now_feeding a1 a2 k13 n x3 x4 s_trial_people s_trial_kinds s_trial_deeds s_trial_feeding s_trial_large s_trial_dead s_trial_dayNumber q_oneHas q_otherHas) x3 x4 ((8 * x3) + x4) (o21 - o23) ((8 * x3) + x4) s_trial_people s_trial_kinds s_trial_deeds ((s_now_feeding ||| o5) ||| o7) s_trial_large s_trial_dead s_trial_dayNumber q_oneHas q_otherHas))))))))
def fX3_weighChoices_13 (s_now_people : Int32) (s_now_feeding : Int64) (a1 : Int32) (a2 : Int32) : Nat → Int32 → Int32 → Int32 → Int32 → Int64 → Int32 → Int32 → Int32 → (Nat → Int32) → (Nat → Int32) → Option (Int32 × Int32 × Int32 × Int64 × Int32 × Int32 × Int32 × (Nat → Int32) × (Nat → Int32))
  | 0, _, _, _, _, _, _, _, _, _, _ => none
  | n + 1, x3, s_trial_people, s_trial_kinds, s_trial_deeds, s_trial_feeding, s_trial_large, s_trial_dead, s_trial_dayNumber, q_oneHas, q_otherHas => (if s_now_people < x3 then some (s_trial_people, s_trial_kinds, s_trial_deeds, s_trial_feeding, s_trial_large, s_trial_dead, s_trial_dayNumber, q_oneHas, q_otherHas) else (fX3_weighChoices_27 s_now_people s_now_feeding a1 a2 (fun x3 s_trial_people s_trial_kinds s_trial_deeds s_trial_feeding s_trial_large s_trial_dead s_trial_dayNumber q_oneHas q_otherHas => fX3_weighChoices_13 s_now_people s_now_feeding a1 a2 n x3 s_trial_people s_trial_kinds s_trial_deeds s_trial_feeding s_trial_large s_trial_dead s_trial_dayNumber q_oneHas q_otherHas) 10 x3 0 s_trial_people s_trial_kinds s_trial_deeds s_trial_feeding s_trial_large s_trial_dead s_trial_dayNumber q_oneHas q_otherHas))
def fX3_weighChoices (s_now_people : Int32) (s_now_kinds : Int32) (s_now_deeds : Int32) (s_now_feeding : Int64) (s_now_large : Int32) (s_now_dead : Int32) (s_now_dayNumber : Int32) (s_trial_people : Int32) (s_trial_kinds : Int32) (s_trial_deeds : Int32) (s_trial_feeding : Int64) (s_trial_large : Int32) (s_trial_dead : Int32) (s_trial_dayNumber : Int32) (q_oneHas : Nat → Int32) (q_otherHas : Nat → Int32) (a1 : Int32) (a2 : Int32) : Option (Int32 × Int32 × Int32 × Int64 × Int32 × Int32 × Int32 × (Nat → Int32) × (Nat → Int32)) :=
  (fX1_copy s_trial_people s_trial_kinds s_trial_deeds s_trial_feeding s_trial_large s_trial_dead s_trial_dayNumber s_now_people s_now_kinds s_now_deeds s_now_feeding s_now_large s_now_dead s_now_dayNumber).bind fun o1 => ((fX3_weighChoices_13 s_now_people s_now_feeding a1 a2 10 0 o1.1 o1.2.1 o1.2.2.1 o1.2.2.2.1 o1.2.2.2.2.1 o1.2.2.2.2.2.1 o1.2.2.2.2.2.2 q_oneHas q_otherHas))
set_option maxHeartbeats 4000000 in
set_option maxRecDepth 100000 in
theorem ctX3_weighChoices (l : Launch) (G : GG) (h0 : Nat) (ad : Nat → Nat) (s_keptSlots : Int32) (s_seenCount : Int32) (s_seed : Int64) (s_now_people : Int32) (s_now_kinds : Int32) (s_now_deeds : Int32) (s_now_feeding : Int64) (s_now_large : Int32) (s_now_dead : Int32) (s_now_dayNumber : Int32) (s_trial_people : Int32) (s_trial_kinds : Int32) (s_trial_deeds : Int32) (s_trial_feeding : Int64) (s_trial_large : Int32) (s_trial_dead : Int32) (s_trial_dayNumber : Int32) (q_oneHas : Nat → Int32) (q_otherHas : Nat → Int32) (a1 : Int32) (a2 : Int32) (out : Int32 × Int32 × Int32 × Int64 × Int32 × Int32 × Int32 × (Nat → Int32) × (Nat → Int32)) (hf : fX3_weighChoices s_now_people s_now_kinds s_now_deeds s_now_feeding s_now_large s_now_dead s_now_dayNumber s_trial_people s_trial_kinds s_trial_deeds s_trial_feeding s_trial_large s_trial_dead s_trial_dayNumber q_oneHas q_otherHas a1 a2 = some out) : Met l yX3_weighChoices wsX3_weighChoices ({ frames := 5, cells := 0, slots := 0, locals := 115 }) (PcW G [.ref h0, .int a1, .int a2] [(h0, xoE ad s_keptSlots s_seenCount s_seed), (ad 1, stE s_now_people s_now_kinds s_now_deeds s_now_feeding s_now_large s_now_dead s_now_dayNumber), (ad 2, stE s_trial_people s_trial_kinds s_trial_deeds s_trial_feeding s_trial_large s_trial_dead s_trial_dayNumber), (ad 9, aI G 64 q_oneHas), (ad 10, aI G 64 q_otherHas)]) (QvW G [(h0, xoE ad s_keptSlots s_seenCount s_seed), (ad 1, stE s_now_people s_now_kinds s_now_deeds s_now_feeding s_now_large s_now_dead s_now_dayNumber), (ad 2, stE s_trial_people s_trial_kinds s_trial_deeds s_trial_feeding s_trial_large s_trial_dead s_trial_dayNumber), (ad 9, aI G 64 q_oneHas), (ad 10, aI G 64 q_otherHas)] [(h0, xoE ad s_keptSlots s_seenCount s_seed), (ad 1, stE s_now_people s_now_kinds s_now_deeds s_now_feeding s_now_large s_now_dead s_now_dayNumber), (ad 2, stE out.1 out.2.1 out.2.2.1 out.2.2.2.1 out.2.2.2.2.1 out.2.2.2.2.2.1 out.2.2.2.2.2.2.1), (ad 9, aI G 64 out.2.2.2.2.2.2.2.1), (ad 10, aI G 64 out.2.2.2.2.2.2.2.2)]) 0 0 (inA [(h0, xoE ad s_keptSlots s_seenCount s_seed), (ad 1, stE s_now_people s_now_kinds s_now_deeds s_now_feeding s_now_large s_now_dead s_now_dayNumber), (ad 2, stE s_trial_people s_trial_kinds s_trial_deeds s_trial_feeding s_trial_large s_trial_dead s_trial_dayNumber), (ad 9, aI G 64 q_oneHas), (ad 10, aI G 64 q_otherHas)]) := by
  refine mk_Wv (cc := cX3_weighChoices) (maxL := 6) (by decide) rfl (Nat.le_of_ble_eq_true rfl) ?_
  intro p e s m args below meth c Q ls A S hP hK hD hl hret
  obtain ⟨hx, hb, hml, hown, hts⟩ := S
  have hown : s.vm.findClass RX3 = some m.cls := hown
  have kl_23 := hts (.fieldLink RX3 23 "ArrestOrder" "trial" "LArrestOrder$Standing;") (by decide +kernel)
  have hi_X3 : ∀ w ∈ wsX30, w ∈ wsX3_weighChoices := fun _ h => List.mem_cons_of_mem _ (List.mem_append_left _ (List.mem_append_right _ h))
  have kl_19 := hts (.fieldLink RX3 19 "ArrestOrder" "now" "LArrestOrder$Standing;") (by decide +kernel)
  have hi_X1 : ∀ w ∈ wsX10, w ∈ wsX3_weighChoices := fun _ h => List.mem_cons_of_mem _ (List.mem_append_right _ h)
  have kl_41 := hts (.fieldLink RX3 41 "ArrestOrder" "oneHas" "[I") (by decide +kernel)
  have kl_44 := hts (.fieldLink RX3 44 "ArrestOrder" "otherHas" "[I") (by decide +kernel)
  have hS : va_S A s.heap s.heap [] := va_S.rf
  have hl : lv_has ls 6 [(0, .ref h0), (1, .int a1), (2, .int a2)] := hl
  have hC13 : ∀ (n : Nat) (x3 : Int32) (s_trial_people : Int32) (s_trial_kinds : Int32) (s_trial_deeds : Int32) (s_trial_feeding : Int64) (s_trial_large : Int32) (s_trial_dead : Int32) (s_trial_dayNumber : Int32) (q_oneHas : Nat → Int32) (q_otherHas : Nat → Int32) (H : Heap) (locs : List Loc) (ls : Array Slot), va_P (gD G) vwCl [(h0, xoE ad s_keptSlots s_seenCount s_seed), (ad 1, stE s_now_people s_now_kinds s_now_deeds s_now_feeding s_now_large s_now_dead s_now_dayNumber), (ad 2, stE s_trial_people s_trial_kinds s_trial_deeds s_trial_feeding s_trial_large s_trial_dead s_trial_dayNumber), (ad 9, aI G 64 q_oneHas), (ad 10, aI G 64 q_otherHas)] H → va_D A [(h0, xoE ad s_keptSlots s_seenCount s_seed), (ad 1, stE s_now_people s_now_kinds s_now_deeds s_now_feeding s_now_large s_now_dead s_now_dayNumber), (ad 2, stE s_trial_people s_trial_kinds s_trial_deeds s_trial_feeding s_trial_large s_trial_dead s_trial_dayNumber), (ad 9, aI G 64 q_oneHas), (ad 10, aI G 64 q_otherHas)] → va_S A s.heap H locs → lv_has ls 6 [(0, .ref h0), (1, .int a1), (2, .int a2), (3, .int x3)] → fX3_weighChoices_13 s_now_people s_now_feeding a1 a2 n x3 s_trial_people s_trial_kinds s_trial_deeds s_trial_feeding s_trial_large s_trial_dead s_trial_dayNumber q_oneHas q_otherHas = some out → W p l e ({ frames := 5, cells := 0, slots := 0, locals := 115 }) s m args below meth c H locs 0 0 Q (F0 m 13 ls []) := by
    intro n13
    induction n13 with
    | zero => intro x3 s_trial_people s_trial_kinds s_trial_deeds s_trial_feeding s_trial_large s_trial_dead s_trial_dayNumber q_oneHas q_otherHas H locs ls hP hD hS hl hf; exact absurd (show none = some out from hf) (fun z => by cases z)
    | succ n13 ih13 =>
      have hC27 : ∀ (n : Nat) (x3 : Int32) (x4 : Int32) (s_trial_people : Int32) (s_trial_kinds : Int32) (s_trial_deeds : Int32) (s_trial_feeding : Int64) (s_trial_large : Int32) (s_trial_dead : Int32) (s_trial_dayNumber : Int32) (q_oneHas : Nat → Int32) (q_otherHas : Nat → Int32) (H : Heap) (locs : List Loc) (ls : Array Slot), va_P (gD G) vwCl [(h0, xoE ad s_keptSlots s_seenCount s_seed), (ad 1, stE s_now_people s_now_kinds s_now_deeds s_now_feeding s_now_large s_now_dead s_now_dayNumber), (ad 2, stE s_trial_people s_trial_kinds s_trial_deeds s_trial_feeding s_trial_large s_trial_dead s_trial_dayNumber), (ad 9, aI G 64 q_oneHas), (ad 10, aI G 64 q_otherHas)] H → va_D A [(h0, xoE ad s_keptSlots s_seenCount s_seed), (ad 1, stE s_now_people s_now_kinds s_now_deeds s_now_feeding s_now_large s_now_dead s_now_dayNumber), (ad 2, stE s_trial_people s_trial_kinds s_trial_deeds s_trial_feeding s_trial_large s_trial_dead s_trial_dayNumber), (ad 9, aI G 64 q_oneHas), (ad 10, aI G 64 q_otherHas)] → va_S A s.heap H locs → lv_has ls 6 [(0, .ref h0), (1, .int a1), (2, .int a2), (3, .int x3), (4, .int x4)] → fX3_weighChoices_27 s_now_people s_now_feeding a1 a2 (fun x3 s_trial_people s_trial_kinds s_trial_deeds s_trial_feeding s_trial_large s_trial_dead s_trial_dayNumber q_oneHas q_otherHas => fX3_weighChoices_13 s_now_people s_now_feeding a1 a2 n13 x3 s_trial_people s_trial_kinds s_trial_deeds s_trial_feeding s_trial_large s_trial_dead s_trial_dayNumber q_oneHas q_otherHas) n x3 x4 s_trial_people s_trial_kinds s_trial_deeds s_trial_feeding s_trial_large s_trial_dead s_trial_dayNumber q_oneHas q_otherHas = some out → W p l e ({ frames := 5, cells := 0, slots := 0, locals := 115 }) s m args below meth c H locs 0 0 Q (F0 m 27 ls []) := by
        intro n27
        induction n27 with
        | zero => intro x3 x4 s_trial_people s_trial_kinds s_trial_deeds s_trial_feeding s_trial_large s_trial_dead s_trial_dayNumber q_oneHas q_otherHas H locs ls hP hD hS hl hf; exact absurd (show none = some out from hf) (fun z => by cases z)
        | succ n27 ih27 =>
          have hC142 : ∀ (x3 : Int32) (x4 : Int32) (y0 : Int32) (y1 : Int32) (s_trial_people : Int32) (s_trial_kinds : Int32) (s_trial_deeds : Int32) (s_trial_feeding : Int64) (s_trial_large : Int32) (s_trial_dead : Int32) (s_trial_dayNumber : Int32) (q_oneHas : Nat → Int32) (q_otherHas : Nat → Int32) (H : Heap) (locs : List Loc) (ls : Array Slot), va_P (gD G) vwCl [(h0, xoE ad s_keptSlots s_seenCount s_seed), (ad 1, stE s_now_people s_now_kinds s_now_deeds s_now_feeding s_now_large s_now_dead s_now_dayNumber), (ad 2, stE s_trial_people s_trial_kinds s_trial_deeds s_trial_feeding s_trial_large s_trial_dead s_trial_dayNumber), (ad 9, aI G 64 q_oneHas), (ad 10, aI G 64 q_otherHas)] H → va_D A [(h0, xoE ad s_keptSlots s_seenCount s_seed), (ad 1, stE s_now_people s_now_kinds s_now_deeds s_now_feeding s_now_large s_now_dead s_now_dayNumber), (ad 2, stE s_trial_people s_trial_kinds s_trial_deeds s_trial_feeding s_trial_large s_trial_dead s_trial_dayNumber), (ad 9, aI G 64 q_oneHas), (ad 10, aI G 64 q_otherHas)] → va_S A s.heap H locs → lv_has ls 6 [(0, .ref h0), (1, .int a1), (2, .int a2), (3, .int x3), (4, .int x4)] → fX3_weighChoices_142 (fun x3 x4 s_trial_people s_trial_kinds s_trial_deeds s_trial_feeding s_trial_large s_trial_dead s_trial_dayNumber q_oneHas q_otherHas => fX3_weighChoices_27 s_now_people s_now_feeding a1 a2 (fun x3 s_trial_people s_trial_kinds s_trial_deeds s_trial_feeding s_trial_large s_trial_dead s_trial_dayNumber q_oneHas q_otherHas => fX3_weighChoices_13 s_now_people s_now_feeding a1 a2 n13 x3 s_trial_people s_trial_kinds s_trial_deeds s_trial_feeding s_trial_large s_trial_dead s_trial_dayNumber q_oneHas q_otherHas) n27 x3 x4 s_trial_people s_trial_kinds s_trial_deeds s_trial_feeding s_trial_large s_trial_dead s_trial_dayNumber q_oneHas q_otherHas) x3 x4 y0 y1 s_trial_people s_trial_kinds s_trial_deeds s_trial_feeding s_trial_large s_trial_dead s_trial_dayNumber q_oneHas q_otherHas = some out → W p l e ({ frames := 5, cells := 0, slots := 0, locals := 115 }) s m args below meth c H locs 0 0 Q (F0 m 142 ls [.int y0, .int y1, .ref (ad 10)]) := by
            intro x3 x4 y0 y1 s_trial_people s_trial_kinds s_trial_deeds s_trial_feeding s_trial_large s_trial_dead s_trial_dayNumber q_oneHas q_otherHas H locs ls hP hD hS hl hf
            obtain ⟨hi16, hf⟩ := ckS hf
            refine va_iast hx hb hK.1 hP hD hS 4 0 rfl rfl hi16 dX3_weighChoices_142 (fun H locs hP hD hS => ?_)
            have hP : va_P (gD G) vwCl [(h0, xoE ad s_keptSlots s_seenCount s_seed), (ad 1, stE s_now_people s_now_kinds s_now_deeds s_now_feeding s_now_large s_now_dead s_now_dayNumber), (ad 2, stE s_trial_people s_trial_kinds s_trial_deeds s_trial_feeding s_trial_large s_trial_dead s_trial_dayNumber), (ad 9, aI G 64 q_oneHas), (ad 10, aI G 64 (upd q_otherHas (Int32.toNatClampNeg y1) y0))] H := hP
            have hD : va_D A [(h0, xoE ad s_keptSlots s_seenCount s_seed), (ad 1, stE s_now_people s_now_kinds s_now_deeds s_now_feeding s_now_large s_now_dead s_now_dayNumber), (ad 2, stE s_trial_people s_trial_kinds s_trial_deeds s_trial_feeding s_trial_large s_trial_dead s_trial_dayNumber), (ad 9, aI G 64 q_oneHas), (ad 10, aI G 64 (upd q_otherHas (Int32.toNatClampNeg y1) y0))] := hD
            refine lv_iinc (v := (x4 + 1)) (lv' := [(4, .int (x4 + 1)), (0, .ref h0), (1, .int a1), (2, .int a2), (3, .int x3)]) hx hb dX3_weighChoices_143 hl (k := 4) rfl rfl (by decide) rfl (fun ls hl => ?_)
            refine lv_goto (tgt := 27) hx hb dX3_weighChoices_146 (by decide) ?_
            exact ih27 x3 (x4 + 1) s_trial_people s_trial_kinds s_trial_deeds s_trial_feeding s_trial_large s_trial_dead s_trial_dayNumber q_oneHas (upd q_otherHas (Int32.toNatClampNeg y1) y0) _ _ _ hP hD hS (lv_sub hl [1, 2, 3, 4, 0] rfl) hf
          have hC107 : ∀ (x3 : Int32) (x4 : Int32) (x5 : Int32) (y0 : Int32) (y1 : Int32) (s_trial_people : Int32) (s_trial_kinds : Int32) (s_trial_deeds : Int32) (s_trial_feeding : Int64) (s_trial_large : Int32) (s_trial_dead : Int32) (s_trial_dayNumber : Int32) (q_oneHas : Nat → Int32) (q_otherHas : Nat → Int32) (H : Heap) (locs : List Loc) (ls : Array Slot), va_P (gD G) vwCl [(h0, xoE ad s_keptSlots s_seenCount s_seed), (ad 1, stE s_now_people s_now_kinds s_now_deeds s_now_feeding s_now_large s_now_dead s_now_dayNumber), (ad 2, stE s_trial_people s_trial_kinds s_trial_deeds s_trial_feeding s_trial_large s_trial_dead s_trial_dayNumber), (ad 9, aI G 64 q_oneHas), (ad 10, aI G 64 q_otherHas)] H → va_D A [(h0, xoE ad s_keptSlots s_seenCount s_seed), (ad 1, stE s_now_people s_now_kinds s_now_deeds s_now_feeding s_now_large s_now_dead s_now_dayNumber), (ad 2, stE s_trial_people s_trial_kinds s_trial_deeds s_trial_feeding s_trial_large s_trial_dead s_trial_dayNumber), (ad 9, aI G 64 q_oneHas), (ad 10, aI G 64 q_otherHas)] → va_S A s.heap H locs → lv_has ls 6 [(0, .ref h0), (1, .int a1), (2, .int a2), (3, .int x3), (4, .int x4), (5, .int x5)] → fX3_weighChoices_107 a2 (fun x3 x4 s_trial_people s_trial_kinds s_trial_deeds s_trial_feeding s_trial_large s_trial_dead s_trial_dayNumber q_oneHas q_otherHas => fX3_weighChoices_27 s_now_people s_now_feeding a1 a2 (fun x3 s_trial_people s_trial_kinds s_trial_deeds s_trial_feeding s_trial_large s_trial_dead s_trial_dayNumber q_oneHas q_otherHas => fX3_weighChoices_13 s_now_people s_now_feeding a1 a2 n13 x3 s_trial_people s_trial_kinds s_trial_deeds s_trial_feeding s_trial_large s_trial_dead s_trial_dayNumber q_oneHas q_otherHas) n27 x3 x4 s_trial_people s_trial_kinds s_trial_deeds s_trial_feeding s_trial_large s_trial_dead s_trial_dayNumber q_oneHas q_otherHas) x3 x4 x5 y0 y1 s_trial_people s_trial_kinds s_trial_deeds s_trial_feeding s_trial_large s_trial_dead s_trial_dayNumber q_oneHas q_otherHas = some out → W p l e ({ frames := 5, cells := 0, slots := 0, locals := 115 }) s m args below meth c H locs 0 0 Q (F0 m 107 ls [.int y0, .int y1, .ref (ad 9)]) := by
            intro x3 x4 x5 y0 y1 s_trial_people s_trial_kinds s_trial_deeds s_trial_feeding s_trial_large s_trial_dead s_trial_dayNumber q_oneHas q_otherHas H locs ls hP hD hS hl hf
            obtain ⟨hi12, hf⟩ := ckS hf
            refine va_iast hx hb hK.1 hP hD hS 3 0 rfl rfl hi12 dX3_weighChoices_107 (fun H locs hP hD hS => ?_)
            have hP : va_P (gD G) vwCl [(h0, xoE ad s_keptSlots s_seenCount s_seed), (ad 1, stE s_now_people s_now_kinds s_now_deeds s_now_feeding s_now_large s_now_dead s_now_dayNumber), (ad 2, stE s_trial_people s_trial_kinds s_trial_deeds s_trial_feeding s_trial_large s_trial_dead s_trial_dayNumber), (ad 9, aI G 64 (upd q_oneHas (Int32.toNatClampNeg y1) y0)), (ad 10, aI G 64 q_otherHas)] H := hP
            have hD : va_D A [(h0, xoE ad s_keptSlots s_seenCount s_seed), (ad 1, stE s_now_people s_now_kinds s_now_deeds s_now_feeding s_now_large s_now_dead s_now_dayNumber), (ad 2, stE s_trial_people s_trial_kinds s_trial_deeds s_trial_feeding s_trial_large s_trial_dead s_trial_dayNumber), (ad 9, aI G 64 (upd q_oneHas (Int32.toNatClampNeg y1) y0)), (ad 10, aI G 64 q_otherHas)] := hD
            refine lv_aload_n hx hb dX3_weighChoices_108 rfl (lv_at hl 0 rfl) ?_
            refine va_get (D := gD G) (ci := 3) (v := .ref (ad 10)) (C := RX3) (T := TX3) (N := 11) hx hb hts hi_X3 hown hK.1 hP 0 rfl rfl 10 (by decide) kl_44 (fun _ h9 => h9) rfl dX3_weighChoices_109 ?_
            refine lv_iload hx hb dX3_weighChoices_112 (lv_at hl 5 rfl) ?_
            refine lv_iload_n hx hb dX3_weighChoices_114 rfl (lv_at hl 2 rfl) ?_
            refine lv_iload hx hb dX3_weighChoices_115 (lv_at hl 4 rfl) ?_
            obtain ⟨o13, hc14, hf⟩ := bindS hf
            refine ro_i (va_runS (As := [.int a2, .int x4]) (rest := [.int x5, .ref (ad 10)]) ⟨hx, hb, hml, hown, hts⟩ (ctX3_isOpen l G a2 x4 o13 hc14) (va_cwS 2 hts gX3_weighChoices_X3_isOpen rfl rfl rfl (by decide +kernel) ⟨Nat.le_of_ble_eq_true rfl, Nat.le_of_ble_eq_true rfl⟩) (preR_S (hP.sub (ws' := []) [] rfl) hK) rfl rfl hl.1 rfl (lv_room (Nat.le_of_ble_eq_true rfl)) dX3_weighChoices_117 ⟨Nat.zero_le _, Nat.zero_le _⟩) hS hP (fun H locs hP hS => ?_)
            refine lv_if_eq (tgt := 140) hx hb dX3_weighChoices_120 (by decide) (fun c15 => ?_) (fun c15 => ?_)
            · have hf := iteT hf c15
              refine lv_bipush (v := (-9)) hx hb dX3_weighChoices_140 (by decide) ?_
              exact hC142 x3 x4 (-9) x5 s_trial_people s_trial_kinds s_trial_deeds s_trial_feeding s_trial_large s_trial_dead s_trial_dayNumber (upd q_oneHas (Int32.toNatClampNeg y1) y0) q_otherHas _ _ _ hP hD hS (lv_sub hl [0, 1, 2, 3, 4] rfl) hf
            · have hf := iteF hf c15
              refine lv_aload_n hx hb dX3_weighChoices_123 rfl (lv_at hl 0 rfl) ?_
              refine va_get (D := gD G) (ci := 3) (v := .ref (ad 2)) (C := RX3) (T := TX3) (N := 11) hx hb hts hi_X3 hown hK.1 hP 0 rfl rfl 2 (by decide) kl_23 (fun _ h9 => h9) rfl dX3_weighChoices_124 ?_
              refine lv_iload_n hx hb dX3_weighChoices_127 rfl (lv_at hl 2 rfl) ?_
              obtain ⟨o17, hc18, hf⟩ := bindS hf
              refine ro_i (va_runVN (C := RX1) (As := [.int a2]) (rest := [.int x5, .ref (ad 10)]) ⟨hx, hb, hml, hown, hts⟩ (ctX1_worthOf l G (ad 2) s_trial_people s_trial_kinds s_trial_deeds s_trial_feeding s_trial_large s_trial_dead s_trial_dayNumber a2 o17 hc18) ⟨va_cnB 1 hts gX3_weighChoices_X1_worthOf_n170 rfl rfl rfl (nm_X3_170 hK.2) (hts (.initialized RX1) (by decide +kernel)) (by decide +kernel) ⟨Nat.le_of_ble_eq_true rfl, Nat.le_of_ble_eq_true rfl⟩, hts (.instanceMethod yX1_worthOf) (by decide +kernel), hts (.selects RX1 yX1_worthOf yX1_worthOf) (by decide +kernel)⟩ (preR_V (q0 := 0) (ci := 1) (hP.sub (ws' := [(ad 2, stE s_trial_people s_trial_kinds s_trial_deeds s_trial_feeding s_trial_large s_trial_dead s_trial_dayNumber)]) [2] rfl) hK rfl rfl) rfl rfl hl.1 rfl (lv_room (Nat.le_of_ble_eq_true rfl)) dX3_weighChoices_128 ⟨Nat.zero_le _, Nat.zero_le _⟩) hS hP (fun H locs hP hS => ?_)
              refine lv_iload hx hb dX3_weighChoices_131 (lv_at hl 4 rfl) ?_
              obtain ⟨o19, hc20, hf⟩ := bindS hf
              refine ro_i (va_runS (As := [.int x4]) (rest := [.int o17, .int x5, .ref (ad 10)]) ⟨hx, hb, hml, hown, hts⟩ (ctX3_cost l G x4 o19 hc20) (va_cwS 1 hts gX3_weighChoices_X3_cost rfl rfl rfl (by decide +kernel) ⟨Nat.le_of_ble_eq_true rfl, Nat.le_of_ble_eq_true rfl⟩) (preR_S (hP.sub (ws' := []) [] rfl) hK) rfl rfl hl.1 rfl (lv_room (Nat.le_of_ble_eq_true rfl)) dX3_weighChoices_133 ⟨Nat.zero_le _, Nat.zero_le _⟩) hS hP (fun H locs hP hS => ?_)
              refine lv_isub hx hb dX3_weighChoices_136 ?_
              refine lv_goto (tgt := 142) hx hb dX3_weighChoices_137 (by decide) ?_
              exact hC142 x3 x4 (o17 - o19) x5 s_trial_people s_trial_kinds s_trial_deeds s_trial_feeding s_trial_large s_trial_dead s_trial_dayNumber (upd q_oneHas (Int32.toNatClampNeg y1) y0) q_otherHas _ _ _ hP hD hS (lv_sub hl [0, 1, 2, 3, 4] rfl) hf
          intro x3 x4 s_trial_people s_trial_kinds s_trial_deeds s_trial_feeding s_trial_large s_trial_dead s_trial_dayNumber q_oneHas q_otherHas H locs ls hP hD hS hl hf
          refine lv_iload hx hb dX3_weighChoices_27 (lv_at hl 4 rfl) ?_
          refine lv_aload_n hx hb dX3_weighChoices_29 rfl (lv_at hl 0 rfl) ?_
          refine va_get (D := gD G) (ci := 3) (v := .ref (ad 1)) (C := RX3) (T := TX3) (N := 11) hx hb hts hi_X3 hown hK.1 hP 0 rfl rfl 1 (by decide) kl_19 (fun _ h9 => h9) rfl dX3_weighChoices_30 ?_
          refine va_getN (D := gD G) (ci := 1) (v := .int s_now_people) (C := RX1) (T := TX1) (N := 7) hx hb hts hi_X1 hown hK.1 hP 1 rfl rfl 0 (by decide) (nf_X3_69 hK.2) (fun _ h9 => h9) rfl dX3_weighChoices_33 ?_
          refine lv_icmp_gt (tgt := 149) hx hb dX3_weighChoices_36 (by decide) (fun c4 => ?_) (fun c4 => ?_)
          · have hf := iteT hf c4
            refine lv_iinc (v := (x3 + 1)) (lv' := [(3, .int (x3 + 1)), (0, .ref h0), (1, .int a1), (2, .int a2), (4, .int x4)]) hx hb dX3_weighChoices_149 hl (k := 3) rfl rfl (by decide) rfl (fun ls hl => ?_)
            refine lv_goto (tgt := 13) hx hb dX3_weighChoices_152 (by decide) ?_
            exact ih13 (x3 + 1) s_trial_people s_trial_kinds s_trial_deeds s_trial_feeding s_trial_large s_trial_dead s_trial_dayNumber q_oneHas q_otherHas _ _ _ hP hD hS (lv_sub hl [1, 2, 3, 0] rfl) hf
          · have hf := iteF hf c4
            refine lv_bipush (v := 8) hx hb dX3_weighChoices_39 (by decide) ?_
            refine lv_iload_n hx hb dX3_weighChoices_41 rfl (lv_at hl 3 rfl) ?_
            refine lv_imul hx hb dX3_weighChoices_42 ?_
            refine lv_iload hx hb dX3_weighChoices_43 (lv_at hl 4 rfl) ?_
            refine lv_iadd hx hb dX3_weighChoices_45 ?_
            refine lv_istore (lv' := [(5, .int ((8 * x3) + x4)), (0, .ref h0), (1, .int a1), (2, .int a2), (3, .int x3), (4, .int x4)]) hx hb dX3_weighChoices_46 hl (by decide) rfl (fun ls hl => ?_)
            refine lv_aload_n hx hb dX3_weighChoices_48 rfl (lv_at hl 1 rfl) ?_
            refine va_get (D := gD G) (ci := 3) (v := .ref (ad 2)) (C := RX3) (T := TX3) (N := 11) hx hb hts hi_X3 hown hK.1 hP 0 rfl rfl 2 (by decide) kl_23 (fun _ h9 => h9) rfl dX3_weighChoices_49 ?_
            refine lv_aload_n hx hb dX3_weighChoices_52 rfl (lv_at hl 1 rfl) ?_
            refine va_get (D := gD G) (ci := 3) (v := .ref (ad 1)) (C := RX3) (T := TX3) (N := 11) hx hb hts hi_X3 hown hK.1 hP 0 rfl rfl 1 (by decide) kl_19 (fun _ h9 => h9) rfl dX3_weighChoices_53 ?_
            refine va_getN (D := gD G) (ci := 1) (v := .long s_now_feeding) (C := RX1) (T := TX1) (N := 7) hx hb hts hi_X1 hown hK.1 hP 1 rfl rfl 3 (by decide) (nf_X3_130 hK.2) (fun _ h9 => h9) rfl dX3_weighChoices_56 ?_
            refine lv_iload_n hx hb dX3_weighChoices_59 rfl (lv_at hl 2 rfl) ?_
            refine lv_iload_n hx hb dX3_weighChoices_60 rfl (lv_at hl 4 rfl) ?_
            obtain ⟨o5, hc6, hf⟩ := bindS hf
            refine ro_l (va_runS (As := [.int a1, .int x3]) (rest := [.long s_now_feeding, .ref (ad 2)]) ⟨hx, hb, hml, hown, hts⟩ (ctX3_chosen l G a1 x3 o5 hc6) (va_cwS 2 hts gX3_weighChoices_X3_chosen rfl rfl rfl (by decide +kernel) ⟨Nat.le_of_ble_eq_true rfl, Nat.le_of_ble_eq_true rfl⟩) (preR_S (hP.sub (ws' := []) [] rfl) hK) rfl rfl hl.1 rfl (lv_room (Nat.le_of_ble_eq_true rfl)) dX3_weighChoices_61 ⟨Nat.zero_le _, Nat.zero_le _⟩) hS hP (fun H locs hP hS => ?_)
            refine lv_lor hx hb dX3_weighChoices_64 ?_
            refine lv_iload_n hx hb dX3_weighChoices_65 rfl (lv_at hl 3 rfl) ?_
            refine lv_iload hx hb dX3_weighChoices_66 (lv_at hl 5 rfl) ?_
            obtain ⟨o7, hc8, hf⟩ := bindS hf
            refine ro_l (va_runS (As := [.int a2, .int x4]) (rest := [.long (s_now_feeding ||| o5), .ref (ad 2)]) ⟨hx, hb, hml, hown, hts⟩ (ctX3_chosen l G a2 x4 o7 hc8) (va_cwS 2 hts gX3_weighChoices_X3_chosen rfl rfl rfl (by decide +kernel) ⟨Nat.le_of_ble_eq_true rfl, Nat.le_of_ble_eq_true rfl⟩) (preR_S (hP.sub (ws' := []) [] rfl) hK) rfl rfl hl.1 rfl (lv_room (Nat.le_of_ble_eq_true rfl)) dX3_weighChoices_68 ⟨Nat.zero_le _, Nat.zero_le _⟩) hS hP (fun H locs hP hS => ?_)
            refine lv_lor hx hb dX3_weighChoices_71 ?_
            refine va_putN (D := gD G) (ci := 1) (v := .long ((s_now_feeding ||| o5) ||| o7)) (ty := .long) (C := RX1) (T := TX1) (N := 7) hx hb hts hi_X1 tyX1 tyX1_ok nmX1 hown hK.1 hP hD hS 2 rfl rfl 3 (by decide) (nf_X3_130 hK.2) (fun _ h9 => h9) rfl (tyX1_ok 3 (by decide)) rfl rfl (Nat.le_of_ble_eq_true rfl) dX3_weighChoices_72 (fun H locs hP hD hS => ?_)
            have hP : va_P (gD G) vwCl [(h0, xoE ad s_keptSlots s_seenCount s_seed), (ad 1, stE s_now_people s_now_kinds s_now_deeds s_now_feeding s_now_large s_now_dead s_now_dayNumber), (ad 2, stE s_trial_people s_trial_kinds s_trial_deeds ((s_now_feeding ||| o5) ||| o7) s_trial_large s_trial_dead s_trial_dayNumber), (ad 9, aI G 64 q_oneHas), (ad 10, aI G 64 q_otherHas)] H := hP
            have hD : va_D A [(h0, xoE ad s_keptSlots s_seenCount s_seed), (ad 1, stE s_now_people s_now_kinds s_now_deeds s_now_feeding s_now_large s_now_dead s_now_dayNumber), (ad 2, stE s_trial_people s_trial_kinds s_trial_deeds ((s_now_feeding ||| o5) ||| o7) s_trial_large s_trial_dead s_trial_dayNumber), (ad 9, aI G 64 q_oneHas), (ad 10, aI G 64 q_otherHas)] := hD
            refine lv_aload_n hx hb dX3_weighChoices_75 rfl (lv_at hl 1 rfl) ?_
            refine va_get (D := gD G) (ci := 3) (v := .ref (ad 9)) (C := RX3) (T := TX3) (N := 11) hx hb hts hi_X3 hown hK.1 hP 0 rfl rfl 9 (by decide) kl_41 (fun _ h9 => h9) rfl dX3_weighChoices_76 ?_
            refine lv_iload hx hb dX3_weighChoices_79 (lv_at hl 0 rfl) ?_
            refine lv_iload_n hx hb dX3_weighChoices_81 rfl (lv_at hl 2 rfl) ?_
            refine lv_iload_n hx hb dX3_weighChoices_82 rfl (lv_at hl 4 rfl) ?_
            obtain ⟨o9, hc10, hf⟩ := bindS hf
            refine ro_i (va_runS (As := [.int a1, .int x3]) (rest := [.int ((8 * x3) + x4), .ref (ad 9)]) ⟨hx, hb, hml, hown, hts⟩ (ctX3_isOpen l G a1 x3 o9 hc10) (va_cwS 2 hts gX3_weighChoices_X3_isOpen rfl rfl rfl (by decide +kernel) ⟨Nat.le_of_ble_eq_true rfl, Nat.le_of_ble_eq_true rfl⟩) (preR_S (hP.sub (ws' := []) [] rfl) hK) rfl rfl hl.1 rfl (lv_room (Nat.le_of_ble_eq_true rfl)) dX3_weighChoices_83 ⟨Nat.zero_le _, Nat.zero_le _⟩) hS hP (fun H locs hP hS => ?_)
            refine lv_if_eq (tgt := 105) hx hb dX3_weighChoices_86 (by decide) (fun c11 => ?_) (fun c11 => ?_)
            · have hf := iteT hf c11
              refine lv_bipush (v := (-9)) hx hb dX3_weighChoices_105 (by decide) ?_
              exact hC107 x3 x4 ((8 * x3) + x4) (-9) ((8 * x3) + x4) s_trial_people s_trial_kinds s_trial_deeds ((s_now_feeding ||| o5) ||| o7) s_trial_large s_trial_dead s_trial_dayNumber q_oneHas q_otherHas _ _ _ hP hD hS (lv_sub hl [1, 2, 3, 4, 5, 0] rfl) hf
            · have hf := iteF hf c11
              refine lv_aload_n hx hb dX3_weighChoices_89 rfl (lv_at hl 1 rfl) ?_
              refine va_get (D := gD G) (ci := 3) (v := .ref (ad 2)) (C := RX3) (T := TX3) (N := 11) hx hb hts hi_X3 hown hK.1 hP 0 rfl rfl 2 (by decide) kl_23 (fun _ h9 => h9) rfl dX3_weighChoices_90 ?_
              refine lv_iload_n hx hb dX3_weighChoices_93 rfl (lv_at hl 2 rfl) ?_
              obtain ⟨o21, hc22, hf⟩ := bindS hf
              refine ro_i (va_runVN (C := RX1) (As := [.int a1]) (rest := [.int ((8 * x3) + x4), .ref (ad 9)]) ⟨hx, hb, hml, hown, hts⟩ (ctX1_worthOf l G (ad 2) s_trial_people s_trial_kinds s_trial_deeds ((s_now_feeding ||| o5) ||| o7) s_trial_large s_trial_dead s_trial_dayNumber a1 o21 hc22) ⟨va_cnB 1 hts gX3_weighChoices_X1_worthOf_n170 rfl rfl rfl (nm_X3_170 hK.2) (hts (.initialized RX1) (by decide +kernel)) (by decide +kernel) ⟨Nat.le_of_ble_eq_true rfl, Nat.le_of_ble_eq_true rfl⟩, hts (.instanceMethod yX1_worthOf) (by decide +kernel), hts (.selects RX1 yX1_worthOf yX1_worthOf) (by decide +kernel)⟩ (preR_V (q0 := 0) (ci := 1) (hP.sub (ws' := [(ad 2, stE s_trial_people s_trial_kinds s_trial_deeds ((s_now_feeding ||| o5) ||| o7) s_trial_large s_trial_dead s_trial_dayNumber)]) [2] rfl) hK rfl rfl) rfl rfl hl.1 rfl (lv_room (Nat.le_of_ble_eq_true rfl)) dX3_weighChoices_94 ⟨Nat.zero_le _, Nat.zero_le _⟩) hS hP (fun H locs hP hS => ?_)
              refine lv_iload_n hx hb dX3_weighChoices_97 rfl (lv_at hl 4 rfl) ?_
              obtain ⟨o23, hc24, hf⟩ := bindS hf
              refine ro_i (va_runS (As := [.int x3]) (rest := [.int o21, .int ((8 * x3) + x4), .ref (ad 9)]) ⟨hx, hb, hml, hown, hts⟩ (ctX3_cost l G x3 o23 hc24) (va_cwS 1 hts gX3_weighChoices_X3_cost rfl rfl rfl (by decide +kernel) ⟨Nat.le_of_ble_eq_true rfl, Nat.le_of_ble_eq_true rfl⟩) (preR_S (hP.sub (ws' := []) [] rfl) hK) rfl rfl hl.1 rfl (lv_room (Nat.le_of_ble_eq_true rfl)) dX3_weighChoices_98 ⟨Nat.zero_le _, Nat.zero_le _⟩) hS hP (fun H locs hP hS => ?_)
              refine lv_isub hx hb dX3_weighChoices_101 ?_
              refine lv_goto (tgt := 107) hx hb dX3_weighChoices_102 (by decide) ?_
              exact hC107 x3 x4 ((8 * x3) + x4) (o21 - o23) ((8 * x3) + x4) s_trial_people s_trial_kinds s_trial_deeds ((s_now_feeding ||| o5) ||| o7) s_trial_large s_trial_dead s_trial_dayNumber q_oneHas q_otherHas _ _ _ hP hD hS (lv_sub hl [1, 2, 3, 4, 5, 0] rfl) hf
      intro x3 s_trial_people s_trial_kinds s_trial_deeds s_trial_feeding s_trial_large s_trial_dead s_trial_dayNumber q_oneHas q_otherHas H locs ls hP hD hS hl hf
      refine lv_iload_n hx hb dX3_weighChoices_13 rfl (lv_at hl 3 rfl) ?_
      refine lv_aload_n hx hb dX3_weighChoices_14 rfl (lv_at hl 0 rfl) ?_
      refine va_get (D := gD G) (ci := 3) (v := .ref (ad 1)) (C := RX3) (T := TX3) (N := 11) hx hb hts hi_X3 hown hK.1 hP 0 rfl rfl 1 (by decide) kl_19 (fun _ h9 => h9) rfl dX3_weighChoices_15 ?_
      refine va_getN (D := gD G) (ci := 1) (v := .int s_now_people) (C := RX1) (T := TX1) (N := 7) hx hb hts hi_X1 hown hK.1 hP 1 rfl rfl 0 (by decide) (nf_X3_69 hK.2) (fun _ h9 => h9) rfl dX3_weighChoices_18 ?_
      refine lv_icmp_gt (tgt := 155) hx hb dX3_weighChoices_21 (by decide) (fun c3 => ?_) (fun c3 => ?_)
      · have hf := iteT hf c3
        have hv := Option.some.inj hf
        exact hret _ _ _ _ (by rw [← hv]; exact hP) hS dX3_weighChoices_155
      · have hf := iteF hf c3
        refine lv_iconst (v := 0) hx hb dX3_weighChoices_24 (by decide) ?_
        refine lv_istore (lv' := [(4, .int 0), (0, .ref h0), (1, .int a1), (2, .int a2), (3, .int x3)]) hx hb dX3_weighChoices_25 hl (by decide) rfl (fun ls hl => ?_)
        exact hC27 10 x3 0 s_trial_people s_trial_kinds s_trial_deeds s_trial_feeding s_trial_large s_trial_dead s_trial_dayNumber q_oneHas q_otherHas _ _ _ hP hD hS (lv_sub hl [1, 2, 3, 4, 0] rfl) hf
  refine lv_aload_n hx hb dX3_weighChoices_0 rfl (lv_at hl 0 rfl) ?_
  refine va_get (D := gD G) (ci := 3) (v := .ref (ad 2)) (C := RX3) (T := TX3) (N := 11) hx hb hts hi_X3 hown hK.1 hP 0 rfl rfl 2 (by decide) kl_23 (fun _ h9 => h9) rfl dX3_weighChoices_1 ?_
  refine lv_aload_n hx hb dX3_weighChoices_4 rfl (lv_at hl 0 rfl) ?_
  refine va_get (D := gD G) (ci := 3) (v := .ref (ad 1)) (C := RX3) (T := TX3) (N := 11) hx hb hts hi_X3 hown hK.1 hP 0 rfl rfl 1 (by decide) kl_19 (fun _ h9 => h9) rfl dX3_weighChoices_5 ?_
  obtain ⟨o1, hc2, hf⟩ := bindS hf
  refine rw_v (va_runVN (C := RX1) (As := [.ref (ad 1)]) (rest := []) ⟨hx, hb, hml, hown, hts⟩ (ctX1_copy l G (ad 2) (ad 1) s_trial_people s_trial_kinds s_trial_deeds s_trial_feeding s_trial_large s_trial_dead s_trial_dayNumber s_now_people s_now_kinds s_now_deeds s_now_feeding s_now_large s_now_dead s_now_dayNumber o1 hc2) ⟨va_cnB 1 hts gX3_weighChoices_X1_copy_n59 rfl rfl rfl (nm_X3_59 hK.2) (hts (.initialized RX1) (by decide +kernel)) (by decide +kernel) ⟨Nat.le_of_ble_eq_true rfl, Nat.le_of_ble_eq_true rfl⟩, hts (.instanceMethod yX1_copy) (by decide +kernel), hts (.selects RX1 yX1_copy yX1_copy) (by decide +kernel)⟩ (preW_V (q0 := 0) (ci := 1) (hP.sub (ws' := [(ad 2, stE s_trial_people s_trial_kinds s_trial_deeds s_trial_feeding s_trial_large s_trial_dead s_trial_dayNumber), (ad 1, stE s_now_people s_now_kinds s_now_deeds s_now_feeding s_now_large s_now_dead s_now_dayNumber)]) [2, 1] rfl) (hD.sub (ws' := [(ad 2, stE s_trial_people s_trial_kinds s_trial_deeds s_trial_feeding s_trial_large s_trial_dead s_trial_dayNumber), (ad 1, stE s_now_people s_now_kinds s_now_deeds s_now_feeding s_now_large s_now_dead s_now_dayNumber)]) [2, 1] (by decide) rfl) hK rfl rfl) rfl rfl hl.1 rfl (lv_room (Nat.le_of_ble_eq_true rfl)) dX3_weighChoices_8 ⟨Nat.zero_le _, Nat.zero_le _⟩) hS hP hD [2, 1] rfl rfl rfl (fun H locs hP hD hS => ?_)
  have hP : va_P (gD G) vwCl [(h0, xoE ad s_keptSlots s_seenCount s_seed), (ad 1, stE s_now_people s_now_kinds s_now_deeds s_now_feeding s_now_large s_now_dead s_now_dayNumber), (ad 2, stE o1.1 o1.2.1 o1.2.2.1 o1.2.2.2.1 o1.2.2.2.2.1 o1.2.2.2.2.2.1 o1.2.2.2.2.2.2), (ad 9, aI G 64 q_oneHas), (ad 10, aI G 64 q_otherHas)] H := hP
  have hD : va_D A [(h0, xoE ad s_keptSlots s_seenCount s_seed), (ad 1, stE s_now_people s_now_kinds s_now_deeds s_now_feeding s_now_large s_now_dead s_now_dayNumber), (ad 2, stE o1.1 o1.2.1 o1.2.2.1 o1.2.2.2.1 o1.2.2.2.2.1 o1.2.2.2.2.2.1 o1.2.2.2.2.2.2), (ad 9, aI G 64 q_oneHas), (ad 10, aI G 64 q_otherHas)] := hD
  refine lv_iconst (v := 0) hx hb dX3_weighChoices_11 (by decide) ?_
  refine lv_istore_n (lv' := [(3, .int 0), (0, .ref h0), (1, .int a1), (2, .int a2)]) hx hb dX3_weighChoices_12 rfl hl (by decide) rfl (fun ls hl => ?_)
  exact hC13 10 0 o1.1 o1.2.1 o1.2.2.1 o1.2.2.2.1 o1.2.2.2.2.1 o1.2.2.2.2.2.1 o1.2.2.2.2.2.2 q_oneHas q_otherHas _ _ _ hP hD hS (lv_sub hl [1, 2, 3, 0] rfl) hf
def fX3_isRest_10 (s_now_people : Int32) (q_oneHas : Nat → Int32) (q_otherHas : Nat → Int32) (a1 : Int32) (a2 : Int32) : Nat → Int32 → Int32 → Option (Int32)
  | 0, _, _ => none
  | n + 1, x3, x4 => (if s_now_people < x4 then some 1 else ck ((8 * x4) + a2) 64 (ck x3 64 ((if (q_oneHas (Int32.toNatClampNeg ((8 * x4) + a2))) ≤ (q_oneHas (Int32.toNatClampNeg x3)) then ck ((8 * a1) + x4) 64 (ck x3 64 ((if (q_otherHas (Int32.toNatClampNeg ((8 * a1) + x4))) ≤ (q_otherHas (Int32.toNatClampNeg x3)) then (fX3_isRest_10 s_now_people q_oneHas q_otherHas a1 a2 n x3 (x4 + 1)) else some 0))) else some 0))))
def fX3_isRest (s_now_people : Int32) (q_oneHas : Nat → Int32) (q_otherHas : Nat → Int32) (a1 : Int32) (a2 : Int32) : Option (Int32) :=
  (fX3_isRest_10 s_now_people q_oneHas q_otherHas a1 a2 10 ((8 * a1) + a2) 0)
set_option maxHeartbeats 4000000 in
set_option maxRecDepth 100000 in
theorem ctX3_isRest (l : Launch) (G : GG) (h0 : Nat) (ad : Nat → Nat) (s_keptSlots : Int32) (s_seenCount : Int32) (s_seed : Int64) (s_now_people : Int32) (s_now_kinds : Int32) (s_now_deeds : Int32) (s_now_feeding : Int64) (s_now_large : Int32) (s_now_dead : Int32) (s_now_dayNumber : Int32) (q_oneHas : Nat → Int32) (q_otherHas : Nat → Int32) (a1 : Int32) (a2 : Int32) (out : Int32) (hf : fX3_isRest s_now_people q_oneHas q_otherHas a1 a2 = some out) : Met l yX3_isRest wsX3_isRest ({ frames := 0, cells := 0, slots := 0, locals := 0 }) (PcR G [.ref h0, .int a1, .int a2] [(h0, xoE ad s_keptSlots s_seenCount s_seed), (ad 1, stE s_now_people s_now_kinds s_now_deeds s_now_feeding s_now_large s_now_dead s_now_dayNumber), (ad 9, aI G 64 q_oneHas), (ad 10, aI G 64 q_otherHas)]) (QiR out) 0 0 noA := by
  refine mk_Rz (cc := cX3_isRest) (maxL := 5) (by decide) rfl (Nat.le_of_ble_eq_true rfl) ?_
  intro p e s m args below meth c Q ls S hP hK hl hret
  obtain ⟨hx, hb, hml, hown, hts⟩ := S
  have hown : s.vm.findClass RX3 = some m.cls := hown
  have kl_19 := hts (.fieldLink RX3 19 "ArrestOrder" "now" "LArrestOrder$Standing;") (by decide +kernel)
  have hi_X3 : ∀ w ∈ wsX30, w ∈ wsX3_isRest := fun _ h => List.mem_cons_of_mem _ (List.mem_append_left _ (List.mem_append_right _ h))
  have hi_X1 : ∀ w ∈ wsX10, w ∈ wsX3_isRest := fun _ h => List.mem_cons_of_mem _ (List.mem_append_right _ h)
  have kl_41 := hts (.fieldLink RX3 41 "ArrestOrder" "oneHas" "[I") (by decide +kernel)
  have kl_44 := hts (.fieldLink RX3 44 "ArrestOrder" "otherHas" "[I") (by decide +kernel)
  have hS : va_S noA s.heap s.heap [] := va_S.rf
  have hl : lv_has ls 5 [(0, .ref h0), (1, .int a1), (2, .int a2)] := hl
  have hC10 : ∀ (n : Nat) (x3 : Int32) (x4 : Int32) (H : Heap) (locs : List Loc) (ls : Array Slot), va_P (gD G) vwCl [(h0, xoE ad s_keptSlots s_seenCount s_seed), (ad 1, stE s_now_people s_now_kinds s_now_deeds s_now_feeding s_now_large s_now_dead s_now_dayNumber), (ad 9, aI G 64 q_oneHas), (ad 10, aI G 64 q_otherHas)] H → va_S noA s.heap H locs → lv_has ls 5 [(0, .ref h0), (1, .int a1), (2, .int a2), (3, .int x3), (4, .int x4)] → fX3_isRest_10 s_now_people q_oneHas q_otherHas a1 a2 n x3 x4 = some out → W p l e ({ frames := 0, cells := 0, slots := 0, locals := 0 }) s m args below meth c H locs 0 0 Q (F0 m 10 ls []) := by
    intro n10
    induction n10 with
    | zero => intro x3 x4 H locs ls hP hS hl hf; exact absurd (show none = some out from hf) (fun z => by cases z)
    | succ n10 ih10 =>
      intro x3 x4 H locs ls hP hS hl hf
      refine lv_iload hx hb dX3_isRest_10 (lv_at hl 4 rfl) ?_
      refine lv_aload_n hx hb dX3_isRest_12 rfl (lv_at hl 0 rfl) ?_
      refine va_get (D := gD G) (ci := 3) (v := .ref (ad 1)) (C := RX3) (T := TX3) (N := 11) hx hb hts hi_X3 hown hK.1 hP 0 rfl rfl 1 (by decide) kl_19 (fun _ h9 => h9) rfl dX3_isRest_13 ?_
      refine va_getN (D := gD G) (ci := 1) (v := .int s_now_people) (C := RX1) (T := TX1) (N := 7) hx hb hts hi_X1 hown hK.1 hP 1 rfl rfl 0 (by decide) (nf_X3_69 hK.2) (fun _ h9 => h9) rfl dX3_isRest_16 ?_
      refine lv_icmp_gt (tgt := 74) hx hb dX3_isRest_19 (by decide) (fun c1 => ?_) (fun c1 => ?_)
      · have hf := iteT hf c1
        refine lv_iconst (v := 1) hx hb dX3_isRest_74 (by decide) ?_
        have hv := Option.some.inj hf
        exact hret _ _ _ _ _ hS rfl hv dX3_isRest_75
      · have hf := iteF hf c1
        refine lv_aload_n hx hb dX3_isRest_22 rfl (lv_at hl 0 rfl) ?_
        refine va_get (D := gD G) (ci := 3) (v := .ref (ad 9)) (C := RX3) (T := TX3) (N := 11) hx hb hts hi_X3 hown hK.1 hP 0 rfl rfl 9 (by decide) kl_41 (fun _ h9 => h9) rfl dX3_isRest_23 ?_
        refine lv_bipush (v := 8) hx hb dX3_isRest_26 (by decide) ?_
        refine lv_iload hx hb dX3_isRest_28 (lv_at hl 4 rfl) ?_
        refine lv_imul hx hb dX3_isRest_30 ?_
        refine lv_iload_n hx hb dX3_isRest_31 rfl (lv_at hl 2 rfl) ?_
        refine lv_iadd hx hb dX3_isRest_32 ?_
        obtain ⟨hi2, hf⟩ := ckS hf
        refine va_iald hx hb hK.1 hP 2 0 rfl rfl hi2 dX3_isRest_33 ?_
        refine lv_aload_n hx hb dX3_isRest_34 rfl (lv_at hl 0 rfl) ?_
        refine va_get (D := gD G) (ci := 3) (v := .ref (ad 9)) (C := RX3) (T := TX3) (N := 11) hx hb hts hi_X3 hown hK.1 hP 0 rfl rfl 9 (by decide) kl_41 (fun _ h9 => h9) rfl dX3_isRest_35 ?_
        refine lv_iload_n hx hb dX3_isRest_38 rfl (lv_at hl 3 rfl) ?_
        obtain ⟨hi3, hf⟩ := ckS hf
        refine va_iald hx hb hK.1 hP 2 0 rfl rfl hi3 dX3_isRest_39 ?_
        refine lv_icmp_le (tgt := 45) hx hb dX3_isRest_40 (by decide) (fun c4 => ?_) (fun c4 => ?_)
        · have hf := iteT hf c4
          refine lv_aload_n hx hb dX3_isRest_45 rfl (lv_at hl 0 rfl) ?_
          refine va_get (D := gD G) (ci := 3) (v := .ref (ad 10)) (C := RX3) (T := TX3) (N := 11) hx hb hts hi_X3 hown hK.1 hP 0 rfl rfl 10 (by decide) kl_44 (fun _ h9 => h9) rfl dX3_isRest_46 ?_
          refine lv_bipush (v := 8) hx hb dX3_isRest_49 (by decide) ?_
          refine lv_iload_n hx hb dX3_isRest_51 rfl (lv_at hl 1 rfl) ?_
          refine lv_imul hx hb dX3_isRest_52 ?_
          refine lv_iload hx hb dX3_isRest_53 (lv_at hl 4 rfl) ?_
          refine lv_iadd hx hb dX3_isRest_55 ?_
          obtain ⟨hi5, hf⟩ := ckS hf
          refine va_iald hx hb hK.1 hP 3 0 rfl rfl hi5 dX3_isRest_56 ?_
          refine lv_aload_n hx hb dX3_isRest_57 rfl (lv_at hl 0 rfl) ?_
          refine va_get (D := gD G) (ci := 3) (v := .ref (ad 10)) (C := RX3) (T := TX3) (N := 11) hx hb hts hi_X3 hown hK.1 hP 0 rfl rfl 10 (by decide) kl_44 (fun _ h9 => h9) rfl dX3_isRest_58 ?_
          refine lv_iload_n hx hb dX3_isRest_61 rfl (lv_at hl 3 rfl) ?_
          obtain ⟨hi6, hf⟩ := ckS hf
          refine va_iald hx hb hK.1 hP 3 0 rfl rfl hi6 dX3_isRest_62 ?_
          refine lv_icmp_le (tgt := 68) hx hb dX3_isRest_63 (by decide) (fun c7 => ?_) (fun c7 => ?_)
          · have hf := iteT hf c7
            refine lv_iinc (v := (x4 + 1)) (lv' := [(4, .int (x4 + 1)), (0, .ref h0), (1, .int a1), (2, .int a2), (3, .int x3)]) hx hb dX3_isRest_68 hl (k := 4) rfl rfl (by decide) rfl (fun ls hl => ?_)
            refine lv_goto (tgt := 10) hx hb dX3_isRest_71 (by decide) ?_
            exact ih10 x3 (x4 + 1) _ _ _ hP hS (lv_sub hl [1, 2, 3, 4, 0] rfl) hf
          · have hf := iteF hf c7
            refine lv_iconst (v := 0) hx hb dX3_isRest_66 (by decide) ?_
            have hv := Option.some.inj hf
            exact hret _ _ _ _ _ hS rfl hv dX3_isRest_67
        · have hf := iteF hf c4
          refine lv_iconst (v := 0) hx hb dX3_isRest_43 (by decide) ?_
          have hv := Option.some.inj hf
          exact hret _ _ _ _ _ hS rfl hv dX3_isRest_44
  refine lv_bipush (v := 8) hx hb dX3_isRest_0 (by decide) ?_
  refine lv_iload_n hx hb dX3_isRest_2 rfl (lv_at hl 1 rfl) ?_
  refine lv_imul hx hb dX3_isRest_3 ?_
  refine lv_iload_n hx hb dX3_isRest_4 rfl (lv_at hl 2 rfl) ?_
  refine lv_iadd hx hb dX3_isRest_5 ?_
  refine lv_istore_n (lv' := [(3, .int ((8 * a1) + a2)), (0, .ref h0), (1, .int a1), (2, .int a2)]) hx hb dX3_isRest_6 rfl hl (by decide) rfl (fun ls hl => ?_)
  refine lv_iconst (v := 0) hx hb dX3_isRest_7 (by decide) ?_
  refine lv_istore (lv' := [(4, .int 0), (3, .int ((8 * a1) + a2)), (0, .ref h0), (1, .int a1), (2, .int a2)]) hx hb dX3_isRest_8 hl (by decide) rfl (fun ls hl => ?_)
  exact hC10 10 ((8 * a1) + a2) 0 _ _ _ hP hS (lv_sub hl [2, 3, 4, 1, 0] rfl) hf
def fX3_rests_103 (s_now_people : Int32) (k88 : Int32 → Int32 → Int32 → Int32 → Int32 → Int32 → Int64 → Int32 → Int32 → Int32 → (Nat → Int32) → (Nat → Int32) → Option (Int32 × Int32 × Int32 × Int32 × Int64 × Int32 × Int32 × Int32 × (Nat → Int32) × (Nat → Int32))) : Nat → Int32 → Int32 → Int32 → Int32 → Int32 → Int32 → Int32 → Int64 → Int32 → Int32 → Int32 → (Nat → Int32) → (Nat → Int32) → Option (Int32 × Int32 × Int32 × Int32 × Int64 × Int32 × Int32 × Int32 × (Nat → Int32) × (Nat → Int32))
  | 0, _, _, _, _, _, _, _, _, _, _, _, _, _ => none
  | n + 1, x4, x5, x6, x7, s_trial_people, s_trial_kinds, s_trial_deeds, s_trial_feeding, s_trial_large, s_trial_dead, s_trial_dayNumber, q_oneHas, q_otherHas => (if s_now_people < x7 then (k88 x4 x5 (x6 + 1) s_trial_people s_trial_kinds s_trial_deeds s_trial_feeding s_trial_large s_trial_dead s_trial_dayNumber q_oneHas q_otherHas) else (fX3_isRest s_now_people q_oneHas q_otherHas x6 x7).bind fun o21 => ((if o21 = 0 then (fX3_rests_103 s_now_people k88 n x4 x5 x6 (x7 + 1) s_trial_people s_trial_kinds s_trial_deeds s_trial_feeding s_trial_large s_trial_dead s_trial_dayNumber q_oneHas q_otherHas) else (if x4 = 0 then (fX3_rests_103 s_now_people k88 n (x4 + 1) ((10 * x6) + x7) x6 (x7 + 1) s_trial_people s_trial_kinds s_trial_deeds s_trial_feeding s_trial_large s_trial_dead s_trial_dayNumber q_oneHas q_otherHas) else (fX3_rests_103 s_now_people k88 n (x4 + 1) x5 x6 (x7 + 1) s_trial_people s_trial_kinds s_trial_deeds s_trial_feeding s_trial_large s_trial_dead s_trial_dayNumber q_oneHas q_otherHas)))))
def fX3_rests_88 (s_now_people : Int32) (a3 : Int32) : Nat → Int32 → Int32 → Int32 → Int32 → Int32 → Int32 → Int64 → Int32 → Int32 → Int32 → (Nat → Int32) → (Nat → Int32) → Option (Int32 × Int32 × Int32 × Int32 × Int64 × Int32 × Int32 × Int32 × (Nat → Int32) × (Nat → Int32))
  | 0, _, _, _, _, _, _, _, _, _, _, _, _ => none
  | n + 1, x4, x5, x6, s_trial_people, s_trial_kinds, s_trial_deeds, s_trial_feeding, s_trial_large, s_trial_dead, s_trial_dayNumber, q_oneHas, q_otherHas => (if s_now_people < x6 then (if a3 = 0 then some (x4, s_trial_people, s_trial_kinds, s_trial_deeds, s_trial_feeding, s_trial_large, s_trial_dead, s_trial_dayNumber, q_oneHas, q_otherHas) else some (x5, s_trial_people, s_trial_kinds, s_trial_deeds, s_trial_feeding, s_trial_large, s_trial_dead, s_trial_dayNumber, q_oneHas, q_otherHas)) else (fX3_rests_103 s_now_people (fun x4 x5 x6 s_trial_people s_trial_kinds s_trial_deeds s_trial_feeding s_trial_large s_trial_dead s_trial_dayNumber q_oneHas q_otherHas => fX3_rests_88 s_now_people a3 n x4 x5 x6 s_trial_people s_trial_kinds s_trial_deeds s_trial_feeding s_trial_large s_trial_dead s_trial_dayNumber q_oneHas q_otherHas) 10 x4 x5 x6 0 s_trial_people s_trial_kinds s_trial_deeds s_trial_feeding s_trial_large s_trial_dead s_trial_dayNumber q_oneHas q_otherHas))
def fX3_rests (s_now_people : Int32) (s_now_kinds : Int32) (s_now_deeds : Int32) (s_now_feeding : Int64) (s_now_large : Int32) (s_now_dead : Int32) (s_now_dayNumber : Int32) (s_trial_people : Int32) (s_trial_kinds : Int32) (s_trial_deeds : Int32) (s_trial_feeding : Int64) (s_trial_large : Int32) (s_trial_dead : Int32) (s_trial_dayNumber : Int32) (q_oneHas : Nat → Int32) (q_otherHas : Nat → Int32) (a1 : Int32) (a2 : Int32) (a3 : Int32) : Option (Int32 × Int32 × Int32 × Int32 × Int64 × Int32 × Int32 × Int32 × (Nat → Int32) × (Nat → Int32)) :=
  (fX1_has s_now_people a1).bind fun o1 => ((if o1 = 0 then some ((-1), s_trial_people, s_trial_kinds, s_trial_deeds, s_trial_feeding, s_trial_large, s_trial_dead, s_trial_dayNumber, q_oneHas, q_otherHas) else (fX1_has s_now_people a2).bind fun o4 => ((if o4 = 0 then some ((-1), s_trial_people, s_trial_kinds, s_trial_deeds, s_trial_feeding, s_trial_large, s_trial_dead, s_trial_dayNumber, q_oneHas, q_otherHas) else (if a1 = a2 then some ((-2), s_trial_people, s_trial_kinds, s_trial_deeds, s_trial_feeding, s_trial_large, s_trial_dead, s_trial_dayNumber, q_oneHas, q_otherHas) else (if a3 < 0 then some ((-2), s_trial_people, s_trial_kinds, s_trial_deeds, s_trial_feeding, s_trial_large, s_trial_dead, s_trial_dayNumber, q_oneHas, q_otherHas) else (if a3 ≤ 1 then (fX3_isIn s_now_large a1).bind fun o10 => ((if o10 = 0 then some ((-3), s_trial_people, s_trial_kinds, s_trial_deeds, s_trial_feeding, s_trial_large, s_trial_dead, s_trial_dayNumber, q_oneHas, q_otherHas) else (fX3_isIn s_now_large a2).bind fun o13 => ((if o13 = 0 then some ((-3), s_trial_people, s_trial_kinds, s_trial_deeds, s_trial_feeding, s_trial_large, s_trial_dead, s_trial_dayNumber, q_oneHas, q_otherHas) else (fX3_weighChoices s_now_people s_now_kinds s_now_deeds s_now_feeding s_now_large s_now_dead s_now_dayNumber s_trial_people s_trial_kinds s_trial_deeds s_trial_feeding s_trial_large s_trial_dead s_trial_dayNumber q_oneHas q_otherHas a1 a2).bind fun o16 => ((fX3_rests_88 s_now_people a3 10 0 (-9) 0 o16.1 o16.2.1 o16.2.2.1 o16.2.2.2.1 o16.2.2.2.2.1 o16.2.2.2.2.2.1 o16.2.2.2.2.2.2.1 o16.2.2.2.2.2.2.2.1 o16.2.2.2.2.2.2.2.2)))))) else some ((-2), s_trial_people, s_trial_kinds, s_trial_deeds, s_trial_feeding, s_trial_large, s_trial_dead, s_trial_dayNumber, q_oneHas, q_otherHas))))))))
set_option maxHeartbeats 4000000 in
set_option maxRecDepth 100000 in
theorem ctX3_rests (l : Launch) (G : GG) (h0 : Nat) (ad : Nat → Nat) (s_keptSlots : Int32) (s_seenCount : Int32) (s_seed : Int64) (s_now_people : Int32) (s_now_kinds : Int32) (s_now_deeds : Int32) (s_now_feeding : Int64) (s_now_large : Int32) (s_now_dead : Int32) (s_now_dayNumber : Int32) (s_trial_people : Int32) (s_trial_kinds : Int32) (s_trial_deeds : Int32) (s_trial_feeding : Int64) (s_trial_large : Int32) (s_trial_dead : Int32) (s_trial_dayNumber : Int32) (q_oneHas : Nat → Int32) (q_otherHas : Nat → Int32) (a1 : Int32) (a2 : Int32) (a3 : Int32) (out : Int32 × Int32 × Int32 × Int32 × Int64 × Int32 × Int32 × Int32 × (Nat → Int32) × (Nat → Int32)) (hf : fX3_rests s_now_people s_now_kinds s_now_deeds s_now_feeding s_now_large s_now_dead s_now_dayNumber s_trial_people s_trial_kinds s_trial_deeds s_trial_feeding s_trial_large s_trial_dead s_trial_dayNumber q_oneHas q_otherHas a1 a2 a3 = some out) : Met l yX3_rests wsX3_rests ({ frames := 6, cells := 0, slots := 0, locals := 140 }) (PcW G [.ref h0, .int a1, .int a2, .int a3] [(h0, xoE ad s_keptSlots s_seenCount s_seed), (ad 1, stE s_now_people s_now_kinds s_now_deeds s_now_feeding s_now_large s_now_dead s_now_dayNumber), (ad 2, stE s_trial_people s_trial_kinds s_trial_deeds s_trial_feeding s_trial_large s_trial_dead s_trial_dayNumber), (ad 9, aI G 64 q_oneHas), (ad 10, aI G 64 q_otherHas)]) (QiW G [(h0, xoE ad s_keptSlots s_seenCount s_seed), (ad 1, stE s_now_people s_now_kinds s_now_deeds s_now_feeding s_now_large s_now_dead s_now_dayNumber), (ad 2, stE s_trial_people s_trial_kinds s_trial_deeds s_trial_feeding s_trial_large s_trial_dead s_trial_dayNumber), (ad 9, aI G 64 q_oneHas), (ad 10, aI G 64 q_otherHas)] [(h0, xoE ad s_keptSlots s_seenCount s_seed), (ad 1, stE s_now_people s_now_kinds s_now_deeds s_now_feeding s_now_large s_now_dead s_now_dayNumber), (ad 2, stE out.2.1 out.2.2.1 out.2.2.2.1 out.2.2.2.2.1 out.2.2.2.2.2.1 out.2.2.2.2.2.2.1 out.2.2.2.2.2.2.2.1), (ad 9, aI G 64 out.2.2.2.2.2.2.2.2.1), (ad 10, aI G 64 out.2.2.2.2.2.2.2.2.2)] out.1) 0 0 (inA [(h0, xoE ad s_keptSlots s_seenCount s_seed), (ad 1, stE s_now_people s_now_kinds s_now_deeds s_now_feeding s_now_large s_now_dead s_now_dayNumber), (ad 2, stE s_trial_people s_trial_kinds s_trial_deeds s_trial_feeding s_trial_large s_trial_dead s_trial_dayNumber), (ad 9, aI G 64 q_oneHas), (ad 10, aI G 64 q_otherHas)]) := by
  refine mk_Wi (cc := cX3_rests) (maxL := 8) (by decide) rfl (Nat.le_of_ble_eq_true rfl) ?_
  intro p e s m args below meth c Q ls A S hP hK hD hl hret
  obtain ⟨hx, hb, hml, hown, hts⟩ := S
  have hown : s.vm.findClass RX3 = some m.cls := hown
  have kl_19 := hts (.fieldLink RX3 19 "ArrestOrder" "now" "LArrestOrder$Standing;") (by decide +kernel)
  have hi_X3 : ∀ w ∈ wsX30, w ∈ wsX3_rests := fun _ h => List.mem_cons_of_mem _ (List.mem_append_left _ (List.mem_append_right _ h))
  have hi_X1 : ∀ w ∈ wsX10, w ∈ wsX3_rests := fun _ h => List.mem_cons_of_mem _ (List.mem_append_right _ h)
  have hS : va_S A s.heap s.heap [] := va_S.rf
  have hl : lv_has ls 8 [(0, .ref h0), (1, .int a1), (2, .int a2), (3, .int a3)] := hl
  have hC88 : ∀ (n : Nat) (x4 : Int32) (x5 : Int32) (x6 : Int32) (s_trial_people : Int32) (s_trial_kinds : Int32) (s_trial_deeds : Int32) (s_trial_feeding : Int64) (s_trial_large : Int32) (s_trial_dead : Int32) (s_trial_dayNumber : Int32) (q_oneHas : Nat → Int32) (q_otherHas : Nat → Int32) (H : Heap) (locs : List Loc) (ls : Array Slot), va_P (gD G) vwCl [(h0, xoE ad s_keptSlots s_seenCount s_seed), (ad 1, stE s_now_people s_now_kinds s_now_deeds s_now_feeding s_now_large s_now_dead s_now_dayNumber), (ad 2, stE s_trial_people s_trial_kinds s_trial_deeds s_trial_feeding s_trial_large s_trial_dead s_trial_dayNumber), (ad 9, aI G 64 q_oneHas), (ad 10, aI G 64 q_otherHas)] H → va_D A [(h0, xoE ad s_keptSlots s_seenCount s_seed), (ad 1, stE s_now_people s_now_kinds s_now_deeds s_now_feeding s_now_large s_now_dead s_now_dayNumber), (ad 2, stE s_trial_people s_trial_kinds s_trial_deeds s_trial_feeding s_trial_large s_trial_dead s_trial_dayNumber), (ad 9, aI G 64 q_oneHas), (ad 10, aI G 64 q_otherHas)] → va_S A s.heap H locs → lv_has ls 8 [(0, .ref h0), (3, .int a3), (4, .int x4), (5, .int x5), (6, .int x6)] → fX3_rests_88 s_now_people a3 n x4 x5 x6 s_trial_people s_trial_kinds s_trial_deeds s_trial_feeding s_trial_large s_trial_dead s_trial_dayNumber q_oneHas q_otherHas = some out → W p l e ({ frames := 6, cells := 0, slots := 0, locals := 140 }) s m args below meth c H locs 0 0 Q (F0 m 88 ls []) := by
    intro n88
    induction n88 with
    | zero => intro x4 x5 x6 s_trial_people s_trial_kinds s_trial_deeds s_trial_feeding s_trial_large s_trial_dead s_trial_dayNumber q_oneHas q_otherHas H locs ls hP hD hS hl hf; exact absurd (show none = some out from hf) (fun z => by cases z)
    | succ n88 ih88 =>
      have hC103 : ∀ (n : Nat) (x4 : Int32) (x5 : Int32) (x6 : Int32) (x7 : Int32) (s_trial_people : Int32) (s_trial_kinds : Int32) (s_trial_deeds : Int32) (s_trial_feeding : Int64) (s_trial_large : Int32) (s_trial_dead : Int32) (s_trial_dayNumber : Int32) (q_oneHas : Nat → Int32) (q_otherHas : Nat → Int32) (H : Heap) (locs : List Loc) (ls : Array Slot), va_P (gD G) vwCl [(h0, xoE ad s_keptSlots s_seenCount s_seed), (ad 1, stE s_now_people s_now_kinds s_now_deeds s_now_feeding s_now_large s_now_dead s_now_dayNumber), (ad 2, stE s_trial_people s_trial_kinds s_trial_deeds s_trial_feeding s_trial_large s_trial_dead s_trial_dayNumber), (ad 9, aI G 64 q_oneHas), (ad 10, aI G 64 q_otherHas)] H → va_D A [(h0, xoE ad s_keptSlots s_seenCount s_seed), (ad 1, stE s_now_people s_now_kinds s_now_deeds s_now_feeding s_now_large s_now_dead s_now_dayNumber), (ad 2, stE s_trial_people s_trial_kinds s_trial_deeds s_trial_feeding s_trial_large s_trial_dead s_trial_dayNumber), (ad 9, aI G 64 q_oneHas), (ad 10, aI G 64 q_otherHas)] → va_S A s.heap H locs → lv_has ls 8 [(0, .ref h0), (3, .int a3), (4, .int x4), (5, .int x5), (6, .int x6), (7, .int x7)] → fX3_rests_103 s_now_people (fun x4 x5 x6 s_trial_people s_trial_kinds s_trial_deeds s_trial_feeding s_trial_large s_trial_dead s_trial_dayNumber q_oneHas q_otherHas => fX3_rests_88 s_now_people a3 n88 x4 x5 x6 s_trial_people s_trial_kinds s_trial_deeds s_trial_feeding s_trial_large s_trial_dead s_trial_dayNumber q_oneHas q_otherHas) n x4 x5 x6 x7 s_trial_people s_trial_kinds s_trial_deeds s_trial_feeding s_trial_large s_trial_dead s_trial_dayNumber q_oneHas q_otherHas = some out → W p l e ({ frames := 6, cells := 0, slots := 0, locals := 140 }) s m args below meth c H locs 0 0 Q (F0 m 103 ls []) := by
        intro n103
        induction n103 with
        | zero => intro x4 x5 x6 x7 s_trial_people s_trial_kinds s_trial_deeds s_trial_feeding s_trial_large s_trial_dead s_trial_dayNumber q_oneHas q_otherHas H locs ls hP hD hS hl hf; exact absurd (show none = some out from hf) (fun z => by cases z)
        | succ n103 ih103 =>
          intro x4 x5 x6 x7 s_trial_people s_trial_kinds s_trial_deeds s_trial_feeding s_trial_large s_trial_dead s_trial_dayNumber q_oneHas q_otherHas H locs ls hP hD hS hl hf
          refine lv_iload hx hb dX3_rests_103 (lv_at hl 5 rfl) ?_
          refine lv_aload_n hx hb dX3_rests_105 rfl (lv_at hl 0 rfl) ?_
          refine va_get (D := gD G) (ci := 3) (v := .ref (ad 1)) (C := RX3) (T := TX3) (N := 11) hx hb hts hi_X3 hown hK.1 hP 0 rfl rfl 1 (by decide) kl_19 (fun _ h9 => h9) rfl dX3_rests_106 ?_
          refine va_getN (D := gD G) (ci := 1) (v := .int s_now_people) (C := RX1) (T := TX1) (N := 7) hx hb hts hi_X1 hown hK.1 hP 1 rfl rfl 0 (by decide) (nf_X3_69 hK.2) (fun _ h9 => h9) rfl dX3_rests_109 ?_
          refine lv_icmp_gt (tgt := 155) hx hb dX3_rests_112 (by decide) (fun c20 => ?_) (fun c20 => ?_)
          · have hf := iteT hf c20
            refine lv_iinc (v := (x6 + 1)) (lv' := [(6, .int (x6 + 1)), (0, .ref h0), (3, .int a3), (4, .int x4), (5, .int x5), (7, .int x7)]) hx hb dX3_rests_155 hl (k := 4) rfl rfl (by decide) rfl (fun ls hl => ?_)
            refine lv_goto (tgt := 88) hx hb dX3_rests_158 (by decide) ?_
            exact ih88 x4 x5 (x6 + 1) s_trial_people s_trial_kinds s_trial_deeds s_trial_feeding s_trial_large s_trial_dead s_trial_dayNumber q_oneHas q_otherHas _ _ _ hP hD hS (lv_sub hl [1, 2, 3, 4, 0] rfl) hf
          · have hf := iteF hf c20
            refine lv_aload_n hx hb dX3_rests_115 rfl (lv_at hl 0 rfl) ?_
            refine lv_iload hx hb dX3_rests_116 (lv_at hl 4 rfl) ?_
            refine lv_iload hx hb dX3_rests_118 (lv_at hl 5 rfl) ?_
            obtain ⟨o21, hc22, hf⟩ := bindS hf
            refine ro_i (va_runV (C := RX3) (As := [.int x6, .int x7]) (rest := []) ⟨hx, hb, hml, hown, hts⟩ (ctX3_isRest l G h0 ad s_keptSlots s_seenCount s_seed s_now_people s_now_kinds s_now_deeds s_now_feeding s_now_large s_now_dead s_now_dayNumber q_oneHas q_otherHas x6 x7 o21 hc22) (cwV 2 hts gX3_rests_X3_isRest rfl rfl rfl (by decide +kernel) ⟨Nat.le_of_ble_eq_true rfl, Nat.le_of_ble_eq_true rfl⟩) (preR_V (q0 := 0) (ci := 3) (hP.sub (ws' := [(h0, xoE ad s_keptSlots s_seenCount s_seed), (ad 1, stE s_now_people s_now_kinds s_now_deeds s_now_feeding s_now_large s_now_dead s_now_dayNumber), (ad 9, aI G 64 q_oneHas), (ad 10, aI G 64 q_otherHas)]) [0, 1, 3, 4] rfl) hK rfl rfl) rfl rfl hl.1 rfl (lv_room (Nat.le_of_ble_eq_true rfl)) dX3_rests_120 ⟨Nat.zero_le _, Nat.zero_le _⟩) hS hP (fun H locs hP hS => ?_)
            refine lv_if_eq (tgt := 149) hx hb dX3_rests_123 (by decide) (fun c23 => ?_) (fun c23 => ?_)
            · have hf := iteT hf c23
              refine lv_iinc (v := (x7 + 1)) (lv' := [(7, .int (x7 + 1)), (0, .ref h0), (3, .int a3), (4, .int x4), (5, .int x5), (6, .int x6)]) hx hb dX3_rests_149 hl (k := 5) rfl rfl (by decide) rfl (fun ls hl => ?_)
              refine lv_goto (tgt := 103) hx hb dX3_rests_152 (by decide) ?_
              exact ih103 x4 x5 x6 (x7 + 1) s_trial_people s_trial_kinds s_trial_deeds s_trial_feeding s_trial_large s_trial_dead s_trial_dayNumber q_oneHas q_otherHas _ _ _ hP hD hS (lv_sub hl [1, 2, 3, 4, 5, 0] rfl) hf
            · have hf := iteF hf c23
              refine lv_iload hx hb dX3_rests_126 (lv_at hl 2 rfl) ?_
              refine lv_if_ne (tgt := 142) hx hb dX3_rests_128 (by decide) (fun c24 => ?_) (fun c24 => ?_)
              · have hf := iteF hf c24
                refine lv_iload hx hb dX3_rests_142 (lv_at hl 3 rfl) ?_
                refine lv_istore (lv' := [(5, .int x5), (0, .ref h0), (3, .int a3), (4, .int x4), (6, .int x6), (7, .int x7)]) hx hb dX3_rests_144 hl (by decide) rfl (fun ls hl => ?_)
                refine lv_iinc (v := (x4 + 1)) (lv' := [(4, .int (x4 + 1)), (5, .int x5), (0, .ref h0), (3, .int a3), (6, .int x6), (7, .int x7)]) hx hb dX3_rests_146 hl (k := 3) rfl rfl (by decide) rfl (fun ls hl => ?_)
                refine lv_iinc (v := (x7 + 1)) (lv' := [(7, .int (x7 + 1)), (4, .int (x4 + 1)), (5, .int x5), (0, .ref h0), (3, .int a3), (6, .int x6)]) hx hb dX3_rests_149 hl (k := 5) rfl rfl (by decide) rfl (fun ls hl => ?_)
                refine lv_goto (tgt := 103) hx hb dX3_rests_152 (by decide) ?_
                exact ih103 (x4 + 1) x5 x6 (x7 + 1) s_trial_people s_trial_kinds s_trial_deeds s_trial_feeding s_trial_large s_trial_dead s_trial_dayNumber q_oneHas q_otherHas _ _ _ hP hD hS (lv_sub hl [3, 4, 1, 2, 5, 0] rfl) hf
              · have hf := iteT hf c24
                refine lv_bipush (v := 10) hx hb dX3_rests_131 (by decide) ?_
                refine lv_iload hx hb dX3_rests_133 (lv_at hl 4 rfl) ?_
                refine lv_imul hx hb dX3_rests_135 ?_
                refine lv_iload hx hb dX3_rests_136 (lv_at hl 5 rfl) ?_
                refine lv_iadd hx hb dX3_rests_138 ?_
                refine lv_goto (tgt := 144) hx hb dX3_rests_139 (by decide) ?_
                refine lv_istore (lv' := [(5, .int ((10 * x6) + x7)), (0, .ref h0), (3, .int a3), (4, .int x4), (6, .int x6), (7, .int x7)]) hx hb dX3_rests_144 hl (by decide) rfl (fun ls hl => ?_)
                refine lv_iinc (v := (x4 + 1)) (lv' := [(4, .int (x4 + 1)), (5, .int ((10 * x6) + x7)), (0, .ref h0), (3, .int a3), (6, .int x6), (7, .int x7)]) hx hb dX3_rests_146 hl (k := 3) rfl rfl (by decide) rfl (fun ls hl => ?_)
                refine lv_iinc (v := (x7 + 1)) (lv' := [(7, .int (x7 + 1)), (4, .int (x4 + 1)), (5, .int ((10 * x6) + x7)), (0, .ref h0), (3, .int a3), (6, .int x6)]) hx hb dX3_rests_149 hl (k := 5) rfl rfl (by decide) rfl (fun ls hl => ?_)
                refine lv_goto (tgt := 103) hx hb dX3_rests_152 (by decide) ?_
                exact ih103 (x4 + 1) ((10 * x6) + x7) x6 (x7 + 1) s_trial_people s_trial_kinds s_trial_deeds s_trial_feeding s_trial_large s_trial_dead s_trial_dayNumber q_oneHas q_otherHas _ _ _ hP hD hS (lv_sub hl [3, 4, 1, 2, 5, 0] rfl) hf
      intro x4 x5 x6 s_trial_people s_trial_kinds s_trial_deeds s_trial_feeding s_trial_large s_trial_dead s_trial_dayNumber q_oneHas q_otherHas H locs ls hP hD hS hl hf
      refine lv_iload hx hb dX3_rests_88 (lv_at hl 4 rfl) ?_
      refine lv_aload_n hx hb dX3_rests_90 rfl (lv_at hl 0 rfl) ?_
      refine va_get (D := gD G) (ci := 3) (v := .ref (ad 1)) (C := RX3) (T := TX3) (N := 11) hx hb hts hi_X3 hown hK.1 hP 0 rfl rfl 1 (by decide) kl_19 (fun _ h9 => h9) rfl dX3_rests_91 ?_
      refine va_getN (D := gD G) (ci := 1) (v := .int s_now_people) (C := RX1) (T := TX1) (N := 7) hx hb hts hi_X1 hown hK.1 hP 1 rfl rfl 0 (by decide) (nf_X3_69 hK.2) (fun _ h9 => h9) rfl dX3_rests_94 ?_
      refine lv_icmp_gt (tgt := 161) hx hb dX3_rests_97 (by decide) (fun c18 => ?_) (fun c18 => ?_)
      · have hf := iteT hf c18
        refine lv_iload_n hx hb dX3_rests_161 rfl (lv_at hl 1 rfl) ?_
        refine lv_if_ne (tgt := 170) hx hb dX3_rests_162 (by decide) (fun c19 => ?_) (fun c19 => ?_)
        · have hf := iteF hf c19
          refine lv_iload hx hb dX3_rests_170 (lv_at hl 3 rfl) ?_
          have hv := Option.some.inj hf
          exact hret _ _ _ _ _ (by rw [← hv]; exact hP) hS (by rw [← hv]) dX3_rests_172
        · have hf := iteT hf c19
          refine lv_iload hx hb dX3_rests_165 (lv_at hl 2 rfl) ?_
          refine lv_goto (tgt := 172) hx hb dX3_rests_167 (by decide) ?_
          have hv := Option.some.inj hf
          exact hret _ _ _ _ _ (by rw [← hv]; exact hP) hS (by rw [← hv]) dX3_rests_172
      · have hf := iteF hf c18
        refine lv_iconst (v := 0) hx hb dX3_rests_100 (by decide) ?_
        refine lv_istore (lv' := [(7, .int 0), (0, .ref h0), (3, .int a3), (4, .int x4), (5, .int x5), (6, .int x6)]) hx hb dX3_rests_101 hl (by decide) rfl (fun ls hl => ?_)
        exact hC103 10 x4 x5 x6 0 s_trial_people s_trial_kinds s_trial_deeds s_trial_feeding s_trial_large s_trial_dead s_trial_dayNumber q_oneHas q_otherHas _ _ _ hP hD hS (lv_sub hl [1, 2, 3, 4, 5, 0] rfl) hf
  refine lv_aload_n hx hb dX3_rests_0 rfl (lv_at hl 0 rfl) ?_
  refine va_get (D := gD G) (ci := 3) (v := .ref (ad 1)) (C := RX3) (T := TX3) (N := 11) hx hb hts hi_X3 hown hK.1 hP 0 rfl rfl 1 (by decide) kl_19 (fun _ h9 => h9) rfl dX3_rests_1 ?_
  refine lv_iload_n hx hb dX3_rests_4 rfl (lv_at hl 1 rfl) ?_
  obtain ⟨o1, hc2, hf⟩ := bindS hf
  refine ro_i (va_runVN (C := RX1) (As := [.int a1]) (rest := []) ⟨hx, hb, hml, hown, hts⟩ (ctX1_has l G (ad 1) s_now_people s_now_kinds s_now_deeds s_now_feeding s_now_large s_now_dead s_now_dayNumber a1 o1 hc2) ⟨va_cnB 1 hts gX3_rests_X1_has_n92 rfl rfl rfl (nm_X3_92 hK.2) (hts (.initialized RX1) (by decide +kernel)) (by decide +kernel) ⟨Nat.le_of_ble_eq_true rfl, Nat.le_of_ble_eq_true rfl⟩, hts (.instanceMethod yX1_has) (by decide +kernel), hts (.selects RX1 yX1_has yX1_has) (by decide +kernel)⟩ (preR_V (q0 := 0) (ci := 1) (hP.sub (ws' := [(ad 1, stE s_now_people s_now_kinds s_now_deeds s_now_feeding s_now_large s_now_dead s_now_dayNumber)]) [1] rfl) hK rfl rfl) rfl rfl hl.1 rfl (lv_room (Nat.le_of_ble_eq_true rfl)) dX3_rests_5 ⟨Nat.zero_le _, Nat.zero_le _⟩) hS hP (fun H locs hP hS => ?_)
  refine lv_if_eq (tgt := 22) hx hb dX3_rests_8 (by decide) (fun c3 => ?_) (fun c3 => ?_)
  · have hf := iteT hf c3
    refine lv_iconst (v := (-1)) hx hb dX3_rests_22 (by decide) ?_
    have hv := Option.some.inj hf
    exact hret _ _ _ _ _ (by rw [← hv]; exact hP) hS (by rw [← hv]) dX3_rests_23
  · have hf := iteF hf c3
    refine lv_aload_n hx hb dX3_rests_11 rfl (lv_at hl 0 rfl) ?_
    refine va_get (D := gD G) (ci := 3) (v := .ref (ad 1)) (C := RX3) (T := TX3) (N := 11) hx hb hts hi_X3 hown hK.1 hP 0 rfl rfl 1 (by decide) kl_19 (fun _ h9 => h9) rfl dX3_rests_12 ?_
    refine lv_iload_n hx hb dX3_rests_15 rfl (lv_at hl 2 rfl) ?_
    obtain ⟨o4, hc5, hf⟩ := bindS hf
    refine ro_i (va_runVN (C := RX1) (As := [.int a2]) (rest := []) ⟨hx, hb, hml, hown, hts⟩ (ctX1_has l G (ad 1) s_now_people s_now_kinds s_now_deeds s_now_feeding s_now_large s_now_dead s_now_dayNumber a2 o4 hc5) ⟨va_cnB 1 hts gX3_rests_X1_has_n92 rfl rfl rfl (nm_X3_92 hK.2) (hts (.initialized RX1) (by decide +kernel)) (by decide +kernel) ⟨Nat.le_of_ble_eq_true rfl, Nat.le_of_ble_eq_true rfl⟩, hts (.instanceMethod yX1_has) (by decide +kernel), hts (.selects RX1 yX1_has yX1_has) (by decide +kernel)⟩ (preR_V (q0 := 0) (ci := 1) (hP.sub (ws' := [(ad 1, stE s_now_people s_now_kinds s_now_deeds s_now_feeding s_now_large s_now_dead s_now_dayNumber)]) [1] rfl) hK rfl rfl) rfl rfl hl.1 rfl (lv_room (Nat.le_of_ble_eq_true rfl)) dX3_rests_16 ⟨Nat.zero_le _, Nat.zero_le _⟩) hS hP (fun H locs hP hS => ?_)
    refine lv_if_ne (tgt := 24) hx hb dX3_rests_19 (by decide) (fun c6 => ?_) (fun c6 => ?_)
    · have hf := iteF hf c6
      refine lv_iload_n hx hb dX3_rests_24 rfl (lv_at hl 1 rfl) ?_
      refine lv_iload_n hx hb dX3_rests_25 rfl (lv_at hl 2 rfl) ?_
      refine lv_icmp_eq (tgt := 38) hx hb dX3_rests_26 (by decide) (fun c7 => ?_) (fun c7 => ?_)
      · have hf := iteT hf c7
        refine lv_bipush (v := (-2)) hx hb dX3_rests_38 (by decide) ?_
        have hv := Option.some.inj hf
        exact hret _ _ _ _ _ (by rw [← hv]; exact hP) hS (by rw [← hv]) dX3_rests_40
      · have hf := iteF hf c7
        refine lv_iload_n hx hb dX3_rests_29 rfl (lv_at hl 3 rfl) ?_
        refine lv_if_lt (tgt := 38) hx hb dX3_rests_30 (by decide) (fun c8 => ?_) (fun c8 => ?_)
        · have hf := iteT hf c8
          refine lv_bipush (v := (-2)) hx hb dX3_rests_38 (by decide) ?_
          have hv := Option.some.inj hf
          exact hret _ _ _ _ _ (by rw [← hv]; exact hP) hS (by rw [← hv]) dX3_rests_40
        · have hf := iteF hf c8
          refine lv_iload_n hx hb dX3_rests_33 rfl (lv_at hl 3 rfl) ?_
          refine lv_iconst (v := 1) hx hb dX3_rests_34 (by decide) ?_
          refine lv_icmp_le (tgt := 41) hx hb dX3_rests_35 (by decide) (fun c9 => ?_) (fun c9 => ?_)
          · have hf := iteT hf c9
            refine lv_aload_n hx hb dX3_rests_41 rfl (lv_at hl 0 rfl) ?_
            refine va_get (D := gD G) (ci := 3) (v := .ref (ad 1)) (C := RX3) (T := TX3) (N := 11) hx hb hts hi_X3 hown hK.1 hP 0 rfl rfl 1 (by decide) kl_19 (fun _ h9 => h9) rfl dX3_rests_42 ?_
            refine va_getN (D := gD G) (ci := 1) (v := .int s_now_large) (C := RX1) (T := TX1) (N := 7) hx hb hts hi_X1 hown hK.1 hP 1 rfl rfl 4 (by decide) (nf_X3_72 hK.2) (fun _ h9 => h9) rfl dX3_rests_45 ?_
            refine lv_iload_n hx hb dX3_rests_48 rfl (lv_at hl 1 rfl) ?_
            obtain ⟨o10, hc11, hf⟩ := bindS hf
            refine ro_i (va_runS (As := [.int s_now_large, .int a1]) (rest := []) ⟨hx, hb, hml, hown, hts⟩ (ctX3_isIn l G s_now_large a1 o10 hc11) (va_cwS 2 hts gX3_rests_X3_isIn rfl rfl rfl (by decide +kernel) ⟨Nat.le_of_ble_eq_true rfl, Nat.le_of_ble_eq_true rfl⟩) (preR_S (hP.sub (ws' := []) [] rfl) hK) rfl rfl hl.1 rfl (lv_room (Nat.le_of_ble_eq_true rfl)) dX3_rests_49 ⟨Nat.zero_le _, Nat.zero_le _⟩) hS hP (fun H locs hP hS => ?_)
            refine lv_if_eq (tgt := 69) hx hb dX3_rests_52 (by decide) (fun c12 => ?_) (fun c12 => ?_)
            · have hf := iteT hf c12
              refine lv_bipush (v := (-3)) hx hb dX3_rests_69 (by decide) ?_
              have hv := Option.some.inj hf
              exact hret _ _ _ _ _ (by rw [← hv]; exact hP) hS (by rw [← hv]) dX3_rests_71
            · have hf := iteF hf c12
              refine lv_aload_n hx hb dX3_rests_55 rfl (lv_at hl 0 rfl) ?_
              refine va_get (D := gD G) (ci := 3) (v := .ref (ad 1)) (C := RX3) (T := TX3) (N := 11) hx hb hts hi_X3 hown hK.1 hP 0 rfl rfl 1 (by decide) kl_19 (fun _ h9 => h9) rfl dX3_rests_56 ?_
              refine va_getN (D := gD G) (ci := 1) (v := .int s_now_large) (C := RX1) (T := TX1) (N := 7) hx hb hts hi_X1 hown hK.1 hP 1 rfl rfl 4 (by decide) (nf_X3_72 hK.2) (fun _ h9 => h9) rfl dX3_rests_59 ?_
              refine lv_iload_n hx hb dX3_rests_62 rfl (lv_at hl 2 rfl) ?_
              obtain ⟨o13, hc14, hf⟩ := bindS hf
              refine ro_i (va_runS (As := [.int s_now_large, .int a2]) (rest := []) ⟨hx, hb, hml, hown, hts⟩ (ctX3_isIn l G s_now_large a2 o13 hc14) (va_cwS 2 hts gX3_rests_X3_isIn rfl rfl rfl (by decide +kernel) ⟨Nat.le_of_ble_eq_true rfl, Nat.le_of_ble_eq_true rfl⟩) (preR_S (hP.sub (ws' := []) [] rfl) hK) rfl rfl hl.1 rfl (lv_room (Nat.le_of_ble_eq_true rfl)) dX3_rests_63 ⟨Nat.zero_le _, Nat.zero_le _⟩) hS hP (fun H locs hP hS => ?_)
              refine lv_if_ne (tgt := 72) hx hb dX3_rests_66 (by decide) (fun c15 => ?_) (fun c15 => ?_)
              · have hf := iteF hf c15
                refine lv_aload_n hx hb dX3_rests_72 rfl (lv_at hl 0 rfl) ?_
                refine lv_iload_n hx hb dX3_rests_73 rfl (lv_at hl 1 rfl) ?_
                refine lv_iload_n hx hb dX3_rests_74 rfl (lv_at hl 2 rfl) ?_
                obtain ⟨o16, hc17, hf⟩ := bindS hf
                refine rw_v (va_runV (C := RX3) (As := [.int a1, .int a2]) (rest := []) ⟨hx, hb, hml, hown, hts⟩ (ctX3_weighChoices l G h0 ad s_keptSlots s_seenCount s_seed s_now_people s_now_kinds s_now_deeds s_now_feeding s_now_large s_now_dead s_now_dayNumber s_trial_people s_trial_kinds s_trial_deeds s_trial_feeding s_trial_large s_trial_dead s_trial_dayNumber q_oneHas q_otherHas a1 a2 o16 hc17) (cwV 2 hts gX3_rests_X3_weighChoices rfl rfl rfl (by decide +kernel) ⟨Nat.le_of_ble_eq_true rfl, Nat.le_of_ble_eq_true rfl⟩) (preW_V (q0 := 0) (ci := 3) (hP.sub (ws' := [(h0, xoE ad s_keptSlots s_seenCount s_seed), (ad 1, stE s_now_people s_now_kinds s_now_deeds s_now_feeding s_now_large s_now_dead s_now_dayNumber), (ad 2, stE s_trial_people s_trial_kinds s_trial_deeds s_trial_feeding s_trial_large s_trial_dead s_trial_dayNumber), (ad 9, aI G 64 q_oneHas), (ad 10, aI G 64 q_otherHas)]) [0, 1, 2, 3, 4] rfl) (hD.sub (ws' := [(h0, xoE ad s_keptSlots s_seenCount s_seed), (ad 1, stE s_now_people s_now_kinds s_now_deeds s_now_feeding s_now_large s_now_dead s_now_dayNumber), (ad 2, stE s_trial_people s_trial_kinds s_trial_deeds s_trial_feeding s_trial_large s_trial_dead s_trial_dayNumber), (ad 9, aI G 64 q_oneHas), (ad 10, aI G 64 q_otherHas)]) [0, 1, 2, 3, 4] (by decide) rfl) hK rfl rfl) rfl rfl hl.1 rfl (lv_room (Nat.le_of_ble_eq_true rfl)) dX3_rests_75 ⟨Nat.zero_le _, Nat.zero_le _⟩) hS hP hD [0, 1, 2, 3, 4] rfl rfl rfl (fun H locs hP hD hS => ?_)
                have hP : va_P (gD G) vwCl [(h0, xoE ad s_keptSlots s_seenCount s_seed), (ad 1, stE s_now_people s_now_kinds s_now_deeds s_now_feeding s_now_large s_now_dead s_now_dayNumber), (ad 2, stE o16.1 o16.2.1 o16.2.2.1 o16.2.2.2.1 o16.2.2.2.2.1 o16.2.2.2.2.2.1 o16.2.2.2.2.2.2.1), (ad 9, aI G 64 o16.2.2.2.2.2.2.2.1), (ad 10, aI G 64 o16.2.2.2.2.2.2.2.2)] H := hP
                have hD : va_D A [(h0, xoE ad s_keptSlots s_seenCount s_seed), (ad 1, stE s_now_people s_now_kinds s_now_deeds s_now_feeding s_now_large s_now_dead s_now_dayNumber), (ad 2, stE o16.1 o16.2.1 o16.2.2.1 o16.2.2.2.1 o16.2.2.2.2.1 o16.2.2.2.2.2.1 o16.2.2.2.2.2.2.1), (ad 9, aI G 64 o16.2.2.2.2.2.2.2.1), (ad 10, aI G 64 o16.2.2.2.2.2.2.2.2)] := hD
                refine lv_iconst (v := 0) hx hb dX3_rests_78 (by decide) ?_
                refine lv_istore (lv' := [(4, .int 0), (0, .ref h0), (1, .int a1), (2, .int a2), (3, .int a3)]) hx hb dX3_rests_79 hl (by decide) rfl (fun ls hl => ?_)
                refine lv_bipush (v := (-9)) hx hb dX3_rests_81 (by decide) ?_
                refine lv_istore (lv' := [(5, .int (-9)), (4, .int 0), (0, .ref h0), (1, .int a1), (2, .int a2), (3, .int a3)]) hx hb dX3_rests_83 hl (by decide) rfl (fun ls hl => ?_)
                refine lv_iconst (v := 0) hx hb dX3_rests_85 (by decide) ?_
                refine lv_istore (lv' := [(6, .int 0), (5, .int (-9)), (4, .int 0), (0, .ref h0), (1, .int a1), (2, .int a2), (3, .int a3)]) hx hb dX3_rests_86 hl (by decide) rfl (fun ls hl => ?_)
                exact hC88 10 0 (-9) 0 o16.1 o16.2.1 o16.2.2.1 o16.2.2.2.1 o16.2.2.2.2.1 o16.2.2.2.2.2.1 o16.2.2.2.2.2.2.1 o16.2.2.2.2.2.2.2.1 o16.2.2.2.2.2.2.2.2 _ _ _ hP hD hS (lv_sub hl [3, 6, 2, 1, 0] rfl) hf
              · have hf := iteT hf c15
                refine lv_bipush (v := (-3)) hx hb dX3_rests_69 (by decide) ?_
                have hv := Option.some.inj hf
                exact hret _ _ _ _ _ (by rw [← hv]; exact hP) hS (by rw [← hv]) dX3_rests_71
          · have hf := iteF hf c9
            refine lv_bipush (v := (-2)) hx hb dX3_rests_38 (by decide) ?_
            have hv := Option.some.inj hf
            exact hret _ _ _ _ _ (by rw [← hv]; exact hP) hS (by rw [← hv]) dX3_rests_40
    · have hf := iteT hf c6
      refine lv_iconst (v := (-1)) hx hb dX3_rests_22 (by decide) ?_
      have hv := Option.some.inj hf
      exact hret _ _ _ _ _ (by rw [← hv]; exact hP) hS (by rw [← hv]) dX3_rests_23
def fX3_toss_36 (a2 : Int32) (y0 : Int32) : Option (Int32) :=
  (fX3_inLeastTerms y0 1 a2).bind fun o7 => (some o7)
def fX3_toss (s_now_people : Int32) (s_now_kinds : Int32) (s_now_deeds : Int32) (s_now_feeding : Int64) (s_now_large : Int32) (a1 : Int32) (a2 : Int32) : Option (Int32) :=
  (fX1_has s_now_people a1).bind fun o1 => ((if o1 = 0 then some (-1) else (fX1_isTaken s_now_people s_now_kinds s_now_deeds s_now_feeding a1 s_now_large).bind fun o4 => ((if o4 = 0 then (fX3_toss_36 a2 0) else (fX3_toss_36 a2 1)))))
set_option maxHeartbeats 4000000 in
set_option maxRecDepth 100000 in
theorem ctX3_toss (l : Launch) (G : GG) (h0 : Nat) (ad : Nat → Nat) (s_keptSlots : Int32) (s_seenCount : Int32) (s_seed : Int64) (s_now_people : Int32) (s_now_kinds : Int32) (s_now_deeds : Int32) (s_now_feeding : Int64) (s_now_large : Int32) (s_now_dead : Int32) (s_now_dayNumber : Int32) (a1 : Int32) (a2 : Int32) (out : Int32) (hf : fX3_toss s_now_people s_now_kinds s_now_deeds s_now_feeding s_now_large a1 a2 = some out) : Met l yX3_toss wsX3_toss ({ frames := 5, cells := 0, slots := 0, locals := 115 }) (PcR G [.ref h0, .int a1, .int a2] [(h0, xoE ad s_keptSlots s_seenCount s_seed), (ad 1, stE s_now_people s_now_kinds s_now_deeds s_now_feeding s_now_large s_now_dead s_now_dayNumber)]) (QiR out) 0 0 noA := by
  refine mk_Ri (cc := cX3_toss) (maxL := 3) (by decide) rfl (Nat.le_of_ble_eq_true rfl) ?_
  intro p e s m args below meth c Q ls S hP hK hl hret
  obtain ⟨hx, hb, hml, hown, hts⟩ := S
  have hown : s.vm.findClass RX3 = some m.cls := hown
  have kl_19 := hts (.fieldLink RX3 19 "ArrestOrder" "now" "LArrestOrder$Standing;") (by decide +kernel)
  have hi_X3 : ∀ w ∈ wsX30, w ∈ wsX3_toss := fun _ h => List.mem_cons_of_mem _ (List.mem_append_left _ (List.mem_append_right _ h))
  have hi_X1 : ∀ w ∈ wsX10, w ∈ wsX3_toss := fun _ h => List.mem_cons_of_mem _ (List.mem_append_right _ h)
  have hS : va_S noA s.heap s.heap [] := va_S.rf
  have hl : lv_has ls 3 [(0, .ref h0), (1, .int a1), (2, .int a2)] := hl
  have hC36 : ∀ (y0 : Int32) (H : Heap) (locs : List Loc) (ls : Array Slot), va_P (gD G) vwCl [(h0, xoE ad s_keptSlots s_seenCount s_seed), (ad 1, stE s_now_people s_now_kinds s_now_deeds s_now_feeding s_now_large s_now_dead s_now_dayNumber)] H → va_S noA s.heap H locs → lv_has ls 3 [(2, .int a2)] → fX3_toss_36 a2 y0 = some out → W p l e ({ frames := 5, cells := 0, slots := 0, locals := 115 }) s m args below meth c H locs 0 0 Q (F0 m 36 ls [.int y0]) := by
    intro y0 H locs ls hP hS hl hf
    refine lv_iconst (v := 1) hx hb dX3_toss_36 (by decide) ?_
    refine lv_iload_n hx hb dX3_toss_37 rfl (lv_at hl 0 rfl) ?_
    obtain ⟨o7, hc8, hf⟩ := bindS hf
    refine ro_i (va_runS (As := [.int y0, .int 1, .int a2]) (rest := []) ⟨hx, hb, hml, hown, hts⟩ (ctX3_inLeastTerms l G y0 1 a2 o7 hc8) (va_cwS 3 hts gX3_toss_X3_inLeastTerms rfl rfl rfl (by decide +kernel) ⟨Nat.le_of_ble_eq_true rfl, Nat.le_of_ble_eq_true rfl⟩) (preR_S (hP.sub (ws' := []) [] rfl) hK) rfl rfl hl.1 rfl (lv_room (Nat.le_of_ble_eq_true rfl)) dX3_toss_38 ⟨Nat.zero_le _, Nat.zero_le _⟩) hS hP (fun H locs hP hS => ?_)
    have hv := Option.some.inj hf
    exact hret _ _ _ _ _ hS hv dX3_toss_41
  refine lv_aload_n hx hb dX3_toss_0 rfl (lv_at hl 0 rfl) ?_
  refine va_get (D := gD G) (ci := 3) (v := .ref (ad 1)) (C := RX3) (T := TX3) (N := 11) hx hb hts hi_X3 hown hK.1 hP 0 rfl rfl 1 (by decide) kl_19 (fun _ h9 => h9) rfl dX3_toss_1 ?_
  refine lv_iload_n hx hb dX3_toss_4 rfl (lv_at hl 1 rfl) ?_
  obtain ⟨o1, hc2, hf⟩ := bindS hf
  refine ro_i (va_runVN (C := RX1) (As := [.int a1]) (rest := []) ⟨hx, hb, hml, hown, hts⟩ (ctX1_has l G (ad 1) s_now_people s_now_kinds s_now_deeds s_now_feeding s_now_large s_now_dead s_now_dayNumber a1 o1 hc2) ⟨va_cnB 1 hts gX3_toss_X1_has_n92 rfl rfl rfl (nm_X3_92 hK.2) (hts (.initialized RX1) (by decide +kernel)) (by decide +kernel) ⟨Nat.le_of_ble_eq_true rfl, Nat.le_of_ble_eq_true rfl⟩, hts (.instanceMethod yX1_has) (by decide +kernel), hts (.selects RX1 yX1_has yX1_has) (by decide +kernel)⟩ (preR_V (q0 := 0) (ci := 1) (hP.sub (ws' := [(ad 1, stE s_now_people s_now_kinds s_now_deeds s_now_feeding s_now_large s_now_dead s_now_dayNumber)]) [1] rfl) hK rfl rfl) rfl rfl hl.1 rfl (lv_room (Nat.le_of_ble_eq_true rfl)) dX3_toss_5 ⟨Nat.zero_le _, Nat.zero_le _⟩) hS hP (fun H locs hP hS => ?_)
  refine lv_if_ne (tgt := 13) hx hb dX3_toss_8 (by decide) (fun c3 => ?_) (fun c3 => ?_)
  · have hf := iteF hf c3
    refine lv_aload_n hx hb dX3_toss_13 rfl (lv_at hl 0 rfl) ?_
    refine va_get (D := gD G) (ci := 3) (v := .ref (ad 1)) (C := RX3) (T := TX3) (N := 11) hx hb hts hi_X3 hown hK.1 hP 0 rfl rfl 1 (by decide) kl_19 (fun _ h9 => h9) rfl dX3_toss_14 ?_
    refine lv_iload_n hx hb dX3_toss_17 rfl (lv_at hl 1 rfl) ?_
    refine lv_aload_n hx hb dX3_toss_18 rfl (lv_at hl 0 rfl) ?_
    refine va_get (D := gD G) (ci := 3) (v := .ref (ad 1)) (C := RX3) (T := TX3) (N := 11) hx hb hts hi_X3 hown hK.1 hP 0 rfl rfl 1 (by decide) kl_19 (fun _ h9 => h9) rfl dX3_toss_19 ?_
    refine va_getN (D := gD G) (ci := 1) (v := .int s_now_large) (C := RX1) (T := TX1) (N := 7) hx hb hts hi_X1 hown hK.1 hP 1 rfl rfl 4 (by decide) (nf_X3_72 hK.2) (fun _ h9 => h9) rfl dX3_toss_22 ?_
    obtain ⟨o4, hc5, hf⟩ := bindS hf
    refine ro_i (va_runVN (C := RX1) (As := [.int a1, .int s_now_large]) (rest := []) ⟨hx, hb, hml, hown, hts⟩ (ctX1_isTaken l G (ad 1) s_now_people s_now_kinds s_now_deeds s_now_feeding s_now_large s_now_dead s_now_dayNumber a1 s_now_large o4 hc5) ⟨va_cnB 2 hts gX3_toss_X1_isTaken_n161 rfl rfl rfl (nm_X3_161 hK.2) (hts (.initialized RX1) (by decide +kernel)) (by decide +kernel) ⟨Nat.le_of_ble_eq_true rfl, Nat.le_of_ble_eq_true rfl⟩, hts (.instanceMethod yX1_isTaken) (by decide +kernel), hts (.selects RX1 yX1_isTaken yX1_isTaken) (by decide +kernel)⟩ (preR_V (q0 := 0) (ci := 1) (hP.sub (ws' := [(ad 1, stE s_now_people s_now_kinds s_now_deeds s_now_feeding s_now_large s_now_dead s_now_dayNumber)]) [1] rfl) hK rfl rfl) rfl rfl hl.1 rfl (lv_room (Nat.le_of_ble_eq_true rfl)) dX3_toss_25 ⟨Nat.zero_le _, Nat.zero_le _⟩) hS hP (fun H locs hP hS => ?_)
    refine lv_if_eq (tgt := 35) hx hb dX3_toss_28 (by decide) (fun c6 => ?_) (fun c6 => ?_)
    · have hf := iteT hf c6
      refine lv_iconst (v := 0) hx hb dX3_toss_35 (by decide) ?_
      exact hC36 0 _ _ _ hP hS (lv_sub hl [2] rfl) hf
    · have hf := iteF hf c6
      refine lv_iconst (v := 1) hx hb dX3_toss_31 (by decide) ?_
      refine lv_goto (tgt := 36) hx hb dX3_toss_32 (by decide) ?_
      exact hC36 1 _ _ _ hP hS (lv_sub hl [2] rfl) hf
  · have hf := iteT hf c3
    refine lv_iconst (v := (-1)) hx hb dX3_toss_11 (by decide) ?_
    have hv := Option.some.inj hf
    exact hret _ _ _ _ _ hS hv dX3_toss_12
def fX3_seed (s_seed : Int64) (a1 : Int64) : Option (Int64 × Int64) :=
  some (s_seed, a1)
set_option maxHeartbeats 4000000 in
set_option maxRecDepth 100000 in
theorem ctX3_seed (l : Launch) (G : GG) (h0 : Nat) (ad : Nat → Nat) (s_keptSlots : Int32) (s_seenCount : Int32) (s_seed : Int64) (a1 : Int64) (out : Int64 × Int64) (hf : fX3_seed s_seed a1 = some out) : Met l yX3_seed wsX3_seed ({ frames := 0, cells := 0, slots := 0, locals := 0 }) (PcW G [.ref h0, .long a1] [(h0, xoE ad s_keptSlots s_seenCount s_seed)]) (QlW G [(h0, xoE ad s_keptSlots s_seenCount s_seed)] [(h0, xoE ad s_keptSlots s_seenCount out.2)] out.1) 0 0 (inA [(h0, xoE ad s_keptSlots s_seenCount s_seed)]) := by
  refine mk_Wl (cc := cX3_seed) (maxL := 5) (by decide) rfl (Nat.le_of_ble_eq_true rfl) ?_
  intro p e s m args below meth c Q ls A S hP hK hD hl hret
  obtain ⟨hx, hb, hml, hown, hts⟩ := S
  have hown : s.vm.findClass RX3 = some m.cls := hown
  have kl_193 := hts (.fieldLink RX3 193 "ArrestOrder" "seed" "J") (by decide +kernel)
  have hi_X3 : ∀ w ∈ wsX30, w ∈ wsX3_seed := fun _ h => List.mem_cons_of_mem _ (List.mem_append_right _ h)
  have hS : va_S A s.heap s.heap [] := va_S.rf
  have hl : lv_has ls 5 [(0, .ref h0), (1, .long a1)] := hl
  refine lv_aload_n hx hb dX3_seed_0 rfl (lv_at hl 0 rfl) ?_
  refine va_get (D := gD G) (ci := 3) (v := .long s_seed) (C := RX3) (T := TX3) (N := 11) hx hb hts hi_X3 hown hK.1 hP 0 rfl rfl 8 (by decide) kl_193 (fun _ h9 => h9) rfl dX3_seed_1 ?_
  refine lv_lstore_n (lv' := [(3, .long s_seed), (0, .ref h0), (1, .long a1)]) hx hb dX3_seed_4 rfl hl (by decide) rfl (fun ls hl => ?_)
  refine lv_aload_n hx hb dX3_seed_5 rfl (lv_at hl 1 rfl) ?_
  refine lv_lload_n hx hb dX3_seed_6 rfl (lv_at hl 2 rfl) ?_
  refine va_put (D := gD G) (ci := 3) (v := .long a1) (ty := .long) (C := RX3) (T := TX3) (N := 11) hx hb hts hi_X3 tyX3 tyX3_ok nmX3 hown hK.1 hP hD hS 0 rfl rfl 8 (by decide) kl_193 (fun _ h9 => h9) rfl (tyX3_ok 8 (by decide)) rfl rfl (Nat.le_of_ble_eq_true rfl) dX3_seed_7 (fun H locs hP hD hS => ?_)
  have hP : va_P (gD G) vwCl [(h0, xoE ad s_keptSlots s_seenCount a1)] H := hP
  have hD : va_D A [(h0, xoE ad s_keptSlots s_seenCount a1)] := hD
  refine lv_lload_n hx hb dX3_seed_10 rfl (lv_at hl 0 rfl) ?_
  have hv := Option.some.inj hf
  exact hret _ _ _ _ _ (by rw [← hv]; exact hP) hS (by rw [← hv]) dX3_seed_11
def fX3_days_29 (a1 : Int32) : Nat → Int32 → Int32 → Int64 → Int32 → Int32 → Int32 → Int64 → Int32 → Int32 → Int32 → Option (Int32 × Int64 × Int32 × Int32 × Int32 × Int64 × Int32 × Int32 × Int32)
  | 0, _, _, _, _, _, _, _, _, _, _ => none
  | n + 1, x2, x3, s_seed, s_trial_people, s_trial_kinds, s_trial_deeds, s_trial_feeding, s_trial_large, s_trial_dead, s_trial_dayNumber => (if a1 ≤ x3 then some (x2, s_seed, s_trial_people, s_trial_kinds, s_trial_deeds, s_trial_feeding, s_trial_large, s_trial_dead, s_trial_dayNumber) else (if ((Int64.toInt32 (j_lushr ((s_seed * 6364136223846793005) + 1442695040888963407) 33)) - (Int64.toInt32 (j_lushr ((s_seed * 6364136223846793005) + 1442695040888963407) 33)) / 12 * 12) < 7 then (fX1_has s_trial_people ((Int64.toInt32 (j_lushr ((s_seed * 6364136223846793005) + 1442695040888963407) 33)) - (Int64.toInt32 (j_lushr ((s_seed * 6364136223846793005) + 1442695040888963407) 33)) / 12 * 12)).bind fun o7 => ((if o7 = 0 then (fX3_days_29 a1 n x2 (x3 + 1) ((s_seed * 6364136223846793005) + 1442695040888963407) s_trial_people s_trial_kinds s_trial_deeds s_trial_feeding s_trial_large s_trial_dead s_trial_dayNumber) else (fX1_bury s_trial_large s_trial_dead ((Int64.toInt32 (j_lushr ((s_seed * 6364136223846793005) + 1442695040888963407) 33)) - (Int64.toInt32 (j_lushr ((s_seed * 6364136223846793005) + 1442695040888963407) 33)) / 12 * 12)).bind fun o10 => ((fX3_days_29 a1 n x2 (x3 + 1) ((s_seed * 6364136223846793005) + 1442695040888963407) s_trial_people s_trial_kinds s_trial_deeds s_trial_feeding o10.1 o10.2 s_trial_dayNumber)))) else (fX1_passDay s_trial_people s_trial_kinds s_trial_deeds s_trial_feeding s_trial_large s_trial_dayNumber).bind fun o12 => ((if o12.1 = (-9) then (fX3_days_29 a1 n (x2 + 0) (x3 + 1) ((s_seed * 6364136223846793005) + 1442695040888963407) s_trial_people s_trial_kinds s_trial_deeds s_trial_feeding o12.2.1 s_trial_dead o12.2.2) else (fX3_days_29 a1 n (x2 + 1) (x3 + 1) ((s_seed * 6364136223846793005) + 1442695040888963407) s_trial_people s_trial_kinds s_trial_deeds s_trial_feeding o12.2.1 s_trial_dead o12.2.2)))))
def fX3_days (s_seed : Int64) (s_now_people : Int32) (s_now_kinds : Int32) (s_now_deeds : Int32) (s_now_feeding : Int64) (s_now_large : Int32) (s_now_dead : Int32) (s_now_dayNumber : Int32) (s_trial_people : Int32) (s_trial_kinds : Int32) (s_trial_deeds : Int32) (s_trial_feeding : Int64) (s_trial_large : Int32) (s_trial_dead : Int32) (s_trial_dayNumber : Int32) (a1 : Int32) : Option (Int32 × Int64 × Int32 × Int32 × Int32 × Int64 × Int32 × Int32 × Int32) :=
  (if a1 < 1 then some ((-2), s_seed, s_trial_people, s_trial_kinds, s_trial_deeds, s_trial_feeding, s_trial_large, s_trial_dead, s_trial_dayNumber) else (if a1 ≤ 30 then (fX1_copy s_trial_people s_trial_kinds s_trial_deeds s_trial_feeding s_trial_large s_trial_dead s_trial_dayNumber s_now_people s_now_kinds s_now_deeds s_now_feeding s_now_large s_now_dead s_now_dayNumber).bind fun o3 => ((fX3_days_29 a1 32 0 0 s_seed o3.1 o3.2.1 o3.2.2.1 o3.2.2.2.1 o3.2.2.2.2.1 o3.2.2.2.2.2.1 o3.2.2.2.2.2.2)) else some ((-2), s_seed, s_trial_people, s_trial_kinds, s_trial_deeds, s_trial_feeding, s_trial_large, s_trial_dead, s_trial_dayNumber)))
set_option maxHeartbeats 4000000 in
set_option maxRecDepth 100000 in
theorem ctX3_days (l : Launch) (G : GG) (h0 : Nat) (ad : Nat → Nat) (s_keptSlots : Int32) (s_seenCount : Int32) (s_seed : Int64) (s_now_people : Int32) (s_now_kinds : Int32) (s_now_deeds : Int32) (s_now_feeding : Int64) (s_now_large : Int32) (s_now_dead : Int32) (s_now_dayNumber : Int32) (s_trial_people : Int32) (s_trial_kinds : Int32) (s_trial_deeds : Int32) (s_trial_feeding : Int64) (s_trial_large : Int32) (s_trial_dead : Int32) (s_trial_dayNumber : Int32) (a1 : Int32) (out : Int32 × Int64 × Int32 × Int32 × Int32 × Int64 × Int32 × Int32 × Int32) (hf : fX3_days s_seed s_now_people s_now_kinds s_now_deeds s_now_feeding s_now_large s_now_dead s_now_dayNumber s_trial_people s_trial_kinds s_trial_deeds s_trial_feeding s_trial_large s_trial_dead s_trial_dayNumber a1 = some out) : Met l yX3_days wsX3_days ({ frames := 4, cells := 0, slots := 0, locals := 90 }) (PcW G [.ref h0, .int a1] [(h0, xoE ad s_keptSlots s_seenCount s_seed), (ad 1, stE s_now_people s_now_kinds s_now_deeds s_now_feeding s_now_large s_now_dead s_now_dayNumber), (ad 2, stE s_trial_people s_trial_kinds s_trial_deeds s_trial_feeding s_trial_large s_trial_dead s_trial_dayNumber)]) (QiW G [(h0, xoE ad s_keptSlots s_seenCount s_seed), (ad 1, stE s_now_people s_now_kinds s_now_deeds s_now_feeding s_now_large s_now_dead s_now_dayNumber), (ad 2, stE s_trial_people s_trial_kinds s_trial_deeds s_trial_feeding s_trial_large s_trial_dead s_trial_dayNumber)] [(h0, xoE ad s_keptSlots s_seenCount out.2.1), (ad 1, stE s_now_people s_now_kinds s_now_deeds s_now_feeding s_now_large s_now_dead s_now_dayNumber), (ad 2, stE out.2.2.1 out.2.2.2.1 out.2.2.2.2.1 out.2.2.2.2.2.1 out.2.2.2.2.2.2.1 out.2.2.2.2.2.2.2.1 out.2.2.2.2.2.2.2.2)] out.1) 0 0 (inA [(h0, xoE ad s_keptSlots s_seenCount s_seed), (ad 1, stE s_now_people s_now_kinds s_now_deeds s_now_feeding s_now_large s_now_dead s_now_dayNumber), (ad 2, stE s_trial_people s_trial_kinds s_trial_deeds s_trial_feeding s_trial_large s_trial_dead s_trial_dayNumber)]) := by
  refine mk_Wi (cc := cX3_days) (maxL := 5) (by decide) rfl (Nat.le_of_ble_eq_true rfl) ?_
  intro p e s m args below meth c Q ls A S hP hK hD hl hret
  obtain ⟨hx, hb, hml, hown, hts⟩ := S
  have hown : s.vm.findClass RX3 = some m.cls := hown
  have kl_23 := hts (.fieldLink RX3 23 "ArrestOrder" "trial" "LArrestOrder$Standing;") (by decide +kernel)
  have hi_X3 : ∀ w ∈ wsX30, w ∈ wsX3_days := fun _ h => List.mem_cons_of_mem _ (List.mem_append_left _ (List.mem_append_right _ h))
  have kl_19 := hts (.fieldLink RX3 19 "ArrestOrder" "now" "LArrestOrder$Standing;") (by decide +kernel)
  have kl_193 := hts (.fieldLink RX3 193 "ArrestOrder" "seed" "J") (by decide +kernel)
  have hS : va_S A s.heap s.heap [] := va_S.rf
  have hl : lv_has ls 5 [(0, .ref h0), (1, .int a1)] := hl
  have hC29 : ∀ (n : Nat) (x2 : Int32) (x3 : Int32) (s_seed : Int64) (s_trial_people : Int32) (s_trial_kinds : Int32) (s_trial_deeds : Int32) (s_trial_feeding : Int64) (s_trial_large : Int32) (s_trial_dead : Int32) (s_trial_dayNumber : Int32) (H : Heap) (locs : List Loc) (ls : Array Slot), va_P (gD G) vwCl [(h0, xoE ad s_keptSlots s_seenCount s_seed), (ad 1, stE s_now_people s_now_kinds s_now_deeds s_now_feeding s_now_large s_now_dead s_now_dayNumber), (ad 2, stE s_trial_people s_trial_kinds s_trial_deeds s_trial_feeding s_trial_large s_trial_dead s_trial_dayNumber)] H → va_D A [(h0, xoE ad s_keptSlots s_seenCount s_seed), (ad 1, stE s_now_people s_now_kinds s_now_deeds s_now_feeding s_now_large s_now_dead s_now_dayNumber), (ad 2, stE s_trial_people s_trial_kinds s_trial_deeds s_trial_feeding s_trial_large s_trial_dead s_trial_dayNumber)] → va_S A s.heap H locs → lv_has ls 5 [(0, .ref h0), (1, .int a1), (2, .int x2), (3, .int x3)] → fX3_days_29 a1 n x2 x3 s_seed s_trial_people s_trial_kinds s_trial_deeds s_trial_feeding s_trial_large s_trial_dead s_trial_dayNumber = some out → W p l e ({ frames := 4, cells := 0, slots := 0, locals := 90 }) s m args below meth c H locs 0 0 Q (F0 m 29 ls []) := by
    intro n29
    induction n29 with
    | zero => intro x2 x3 s_seed s_trial_people s_trial_kinds s_trial_deeds s_trial_feeding s_trial_large s_trial_dead s_trial_dayNumber H locs ls hP hD hS hl hf; exact absurd (show none = some out from hf) (fun z => by cases z)
    | succ n29 ih29 =>
      intro x2 x3 s_seed s_trial_people s_trial_kinds s_trial_deeds s_trial_feeding s_trial_large s_trial_dead s_trial_dayNumber H locs ls hP hD hS hl hf
      refine lv_iload_n hx hb dX3_days_29 rfl (lv_at hl 3 rfl) ?_
      refine lv_iload_n hx hb dX3_days_30 rfl (lv_at hl 1 rfl) ?_
      refine lv_icmp_ge (tgt := 120) hx hb dX3_days_31 (by decide) (fun c5 => ?_) (fun c5 => ?_)
      · have hf := iteT hf c5
        refine lv_iload_n hx hb dX3_days_120 rfl (lv_at hl 2 rfl) ?_
        have hv := Option.some.inj hf
        exact hret _ _ _ _ _ (by rw [← hv]; exact hP) hS (by rw [← hv]) dX3_days_121
      · have hf := iteF hf c5
        refine lv_aload_n hx hb dX3_days_34 rfl (lv_at hl 0 rfl) ?_
        refine lv_aload_n hx hb dX3_days_35 rfl (lv_at hl 0 rfl) ?_
        refine va_get (D := gD G) (ci := 3) (v := .long s_seed) (C := RX3) (T := TX3) (N := 11) hx hb hts hi_X3 hown hK.1 hP 0 rfl rfl 8 (by decide) kl_193 (fun _ h9 => h9) rfl dX3_days_36 ?_
        refine lv_ldc2 (v := 6364136223846793005) hx hb hown (hts (.constantLong RX3 196 (6364136223846793005)) (by decide +kernel)) dX3_days_39 ?_
        refine lv_lmul hx hb dX3_days_42 ?_
        refine lv_ldc2 (v := 1442695040888963407) hx hb hown (hts (.constantLong RX3 198 (1442695040888963407)) (by decide +kernel)) dX3_days_43 ?_
        refine lv_ladd hx hb dX3_days_46 ?_
        refine va_put (D := gD G) (ci := 3) (v := .long ((s_seed * 6364136223846793005) + 1442695040888963407)) (ty := .long) (C := RX3) (T := TX3) (N := 11) hx hb hts hi_X3 tyX3 tyX3_ok nmX3 hown hK.1 hP hD hS 0 rfl rfl 8 (by decide) kl_193 (fun _ h9 => h9) rfl (tyX3_ok 8 (by decide)) rfl rfl (Nat.le_of_ble_eq_true rfl) dX3_days_47 (fun H locs hP hD hS => ?_)
        have hP : va_P (gD G) vwCl [(h0, xoE ad s_keptSlots s_seenCount ((s_seed * 6364136223846793005) + 1442695040888963407)), (ad 1, stE s_now_people s_now_kinds s_now_deeds s_now_feeding s_now_large s_now_dead s_now_dayNumber), (ad 2, stE s_trial_people s_trial_kinds s_trial_deeds s_trial_feeding s_trial_large s_trial_dead s_trial_dayNumber)] H := hP
        have hD : va_D A [(h0, xoE ad s_keptSlots s_seenCount ((s_seed * 6364136223846793005) + 1442695040888963407)), (ad 1, stE s_now_people s_now_kinds s_now_deeds s_now_feeding s_now_large s_now_dead s_now_dayNumber), (ad 2, stE s_trial_people s_trial_kinds s_trial_deeds s_trial_feeding s_trial_large s_trial_dead s_trial_dayNumber)] := hD
        refine lv_aload_n hx hb dX3_days_50 rfl (lv_at hl 0 rfl) ?_
        refine va_get (D := gD G) (ci := 3) (v := .long ((s_seed * 6364136223846793005) + 1442695040888963407)) (C := RX3) (T := TX3) (N := 11) hx hb hts hi_X3 hown hK.1 hP 0 rfl rfl 8 (by decide) kl_193 (fun _ h9 => h9) rfl dX3_days_51 ?_
        refine lv_bipush (v := 33) hx hb dX3_days_54 (by decide) ?_
        refine lv_lushr (v := (j_lushr ((s_seed * 6364136223846793005) + 1442695040888963407) 33)) hx hb dX3_days_56 rfl ?_
        refine lv_l2i (v := (Int64.toInt32 (j_lushr ((s_seed * 6364136223846793005) + 1442695040888963407) 33))) hx hb dX3_days_57 rfl ?_
        refine lv_bipush (v := 12) hx hb dX3_days_58 (by decide) ?_
        refine lv_irem hx hb dX3_days_60 (by decide) ?_
        refine lv_istore (lv' := [(4, .int ((Int64.toInt32 (j_lushr ((s_seed * 6364136223846793005) + 1442695040888963407) 33)) - (Int64.toInt32 (j_lushr ((s_seed * 6364136223846793005) + 1442695040888963407) 33)) / 12 * 12)), (0, .ref h0), (1, .int a1), (2, .int x2), (3, .int x3)]) hx hb dX3_days_61 hl (by decide) rfl (fun ls hl => ?_)
        refine lv_iload hx hb dX3_days_63 (lv_at hl 0 rfl) ?_
        refine lv_bipush (v := 7) hx hb dX3_days_65 (by decide) ?_
        refine lv_icmp_lt (tgt := 93) hx hb dX3_days_67 (by decide) (fun c6 => ?_) (fun c6 => ?_)
        · have hf := iteT hf c6
          refine lv_aload_n hx hb dX3_days_93 rfl (lv_at hl 1 rfl) ?_
          refine va_get (D := gD G) (ci := 3) (v := .ref (ad 2)) (C := RX3) (T := TX3) (N := 11) hx hb hts hi_X3 hown hK.1 hP 0 rfl rfl 2 (by decide) kl_23 (fun _ h9 => h9) rfl dX3_days_94 ?_
          refine lv_iload hx hb dX3_days_97 (lv_at hl 0 rfl) ?_
          obtain ⟨o7, hc8, hf⟩ := bindS hf
          refine ro_i (va_runVN (C := RX1) (As := [.int ((Int64.toInt32 (j_lushr ((s_seed * 6364136223846793005) + 1442695040888963407) 33)) - (Int64.toInt32 (j_lushr ((s_seed * 6364136223846793005) + 1442695040888963407) 33)) / 12 * 12)]) (rest := []) ⟨hx, hb, hml, hown, hts⟩ (ctX1_has l G (ad 2) s_trial_people s_trial_kinds s_trial_deeds s_trial_feeding s_trial_large s_trial_dead s_trial_dayNumber ((Int64.toInt32 (j_lushr ((s_seed * 6364136223846793005) + 1442695040888963407) 33)) - (Int64.toInt32 (j_lushr ((s_seed * 6364136223846793005) + 1442695040888963407) 33)) / 12 * 12) o7 hc8) ⟨va_cnB 1 hts gX3_days_X1_has_n92 rfl rfl rfl (nm_X3_92 hK.2) (hts (.initialized RX1) (by decide +kernel)) (by decide +kernel) ⟨Nat.le_of_ble_eq_true rfl, Nat.le_of_ble_eq_true rfl⟩, hts (.instanceMethod yX1_has) (by decide +kernel), hts (.selects RX1 yX1_has yX1_has) (by decide +kernel)⟩ (preR_V (q0 := 0) (ci := 1) (hP.sub (ws' := [(ad 2, stE s_trial_people s_trial_kinds s_trial_deeds s_trial_feeding s_trial_large s_trial_dead s_trial_dayNumber)]) [2] rfl) hK rfl rfl) rfl rfl hl.1 rfl (lv_room (Nat.le_of_ble_eq_true rfl)) dX3_days_99 ⟨Nat.zero_le _, Nat.zero_le _⟩) hS hP (fun H locs hP hS => ?_)
          refine lv_if_eq (tgt := 114) hx hb dX3_days_102 (by decide) (fun c9 => ?_) (fun c9 => ?_)
          · have hf := iteT hf c9
            refine lv_iinc (v := (x3 + 1)) (lv' := [(3, .int (x3 + 1)), (4, .int ((Int64.toInt32 (j_lushr ((s_seed * 6364136223846793005) + 1442695040888963407) 33)) - (Int64.toInt32 (j_lushr ((s_seed * 6364136223846793005) + 1442695040888963407) 33)) / 12 * 12)), (0, .ref h0), (1, .int a1), (2, .int x2)]) hx hb dX3_days_114 hl (k := 4) rfl rfl (by decide) rfl (fun ls hl => ?_)
            refine lv_goto (tgt := 29) hx hb dX3_days_117 (by decide) ?_
            exact ih29 x2 (x3 + 1) ((s_seed * 6364136223846793005) + 1442695040888963407) s_trial_people s_trial_kinds s_trial_deeds s_trial_feeding s_trial_large s_trial_dead s_trial_dayNumber _ _ _ hP hD hS (lv_sub hl [2, 3, 4, 0] rfl) hf
          · have hf := iteF hf c9
            refine lv_aload_n hx hb dX3_days_105 rfl (lv_at hl 1 rfl) ?_
            refine va_get (D := gD G) (ci := 3) (v := .ref (ad 2)) (C := RX3) (T := TX3) (N := 11) hx hb hts hi_X3 hown hK.1 hP 0 rfl rfl 2 (by decide) kl_23 (fun _ h9 => h9) rfl dX3_days_106 ?_
            refine lv_iload hx hb dX3_days_109 (lv_at hl 0 rfl) ?_
            obtain ⟨o10, hc11, hf⟩ := bindS hf
            refine rw_v (va_runVN (C := RX1) (As := [.int ((Int64.toInt32 (j_lushr ((s_seed * 6364136223846793005) + 1442695040888963407) 33)) - (Int64.toInt32 (j_lushr ((s_seed * 6364136223846793005) + 1442695040888963407) 33)) / 12 * 12)]) (rest := []) ⟨hx, hb, hml, hown, hts⟩ (ctX1_bury l G (ad 2) s_trial_people s_trial_kinds s_trial_deeds s_trial_feeding s_trial_large s_trial_dead s_trial_dayNumber ((Int64.toInt32 (j_lushr ((s_seed * 6364136223846793005) + 1442695040888963407) 33)) - (Int64.toInt32 (j_lushr ((s_seed * 6364136223846793005) + 1442695040888963407) 33)) / 12 * 12) o10 hc11) ⟨va_cnB 1 hts gX3_days_X1_bury_n126 rfl rfl rfl (nm_X3_126 hK.2) (hts (.initialized RX1) (by decide +kernel)) (by decide +kernel) ⟨Nat.le_of_ble_eq_true rfl, Nat.le_of_ble_eq_true rfl⟩, hts (.instanceMethod yX1_bury) (by decide +kernel), hts (.selects RX1 yX1_bury yX1_bury) (by decide +kernel)⟩ (preW_V (q0 := 0) (ci := 1) (hP.sub (ws' := [(ad 2, stE s_trial_people s_trial_kinds s_trial_deeds s_trial_feeding s_trial_large s_trial_dead s_trial_dayNumber)]) [2] rfl) (hD.sub (ws' := [(ad 2, stE s_trial_people s_trial_kinds s_trial_deeds s_trial_feeding s_trial_large s_trial_dead s_trial_dayNumber)]) [2] (by decide) rfl) hK rfl rfl) rfl rfl hl.1 rfl (lv_room (Nat.le_of_ble_eq_true rfl)) dX3_days_111 ⟨Nat.zero_le _, Nat.zero_le _⟩) hS hP hD [2] rfl rfl rfl (fun H locs hP hD hS => ?_)
            have hP : va_P (gD G) vwCl [(h0, xoE ad s_keptSlots s_seenCount ((s_seed * 6364136223846793005) + 1442695040888963407)), (ad 1, stE s_now_people s_now_kinds s_now_deeds s_now_feeding s_now_large s_now_dead s_now_dayNumber), (ad 2, stE s_trial_people s_trial_kinds s_trial_deeds s_trial_feeding o10.1 o10.2 s_trial_dayNumber)] H := hP
            have hD : va_D A [(h0, xoE ad s_keptSlots s_seenCount ((s_seed * 6364136223846793005) + 1442695040888963407)), (ad 1, stE s_now_people s_now_kinds s_now_deeds s_now_feeding s_now_large s_now_dead s_now_dayNumber), (ad 2, stE s_trial_people s_trial_kinds s_trial_deeds s_trial_feeding o10.1 o10.2 s_trial_dayNumber)] := hD
            refine lv_iinc (v := (x3 + 1)) (lv' := [(3, .int (x3 + 1)), (4, .int ((Int64.toInt32 (j_lushr ((s_seed * 6364136223846793005) + 1442695040888963407) 33)) - (Int64.toInt32 (j_lushr ((s_seed * 6364136223846793005) + 1442695040888963407) 33)) / 12 * 12)), (0, .ref h0), (1, .int a1), (2, .int x2)]) hx hb dX3_days_114 hl (k := 4) rfl rfl (by decide) rfl (fun ls hl => ?_)
            refine lv_goto (tgt := 29) hx hb dX3_days_117 (by decide) ?_
            exact ih29 x2 (x3 + 1) ((s_seed * 6364136223846793005) + 1442695040888963407) s_trial_people s_trial_kinds s_trial_deeds s_trial_feeding o10.1 o10.2 s_trial_dayNumber _ _ _ hP hD hS (lv_sub hl [2, 3, 4, 0] rfl) hf
        · have hf := iteF hf c6
          refine lv_iload_n hx hb dX3_days_70 rfl (lv_at hl 3 rfl) ?_
          refine lv_aload_n hx hb dX3_days_71 rfl (lv_at hl 1 rfl) ?_
          refine va_get (D := gD G) (ci := 3) (v := .ref (ad 2)) (C := RX3) (T := TX3) (N := 11) hx hb hts hi_X3 hown hK.1 hP 0 rfl rfl 2 (by decide) kl_23 (fun _ h9 => h9) rfl dX3_days_72 ?_
          obtain ⟨o12, hc13, hf⟩ := bindS hf
          refine rw_i (va_runVN (C := RX1) (As := []) (rest := [.int x2]) ⟨hx, hb, hml, hown, hts⟩ (ctX1_passDay l G (ad 2) s_trial_people s_trial_kinds s_trial_deeds s_trial_feeding s_trial_large s_trial_dead s_trial_dayNumber o12 hc13) ⟨va_cnB 0 hts gX3_days_X1_passDay_n145 rfl rfl rfl (nm_X3_145 hK.2) (hts (.initialized RX1) (by decide +kernel)) (by decide +kernel) ⟨Nat.le_of_ble_eq_true rfl, Nat.le_of_ble_eq_true rfl⟩, hts (.instanceMethod yX1_passDay) (by decide +kernel), hts (.selects RX1 yX1_passDay yX1_passDay) (by decide +kernel)⟩ (preW_V (q0 := 0) (ci := 1) (hP.sub (ws' := [(ad 2, stE s_trial_people s_trial_kinds s_trial_deeds s_trial_feeding s_trial_large s_trial_dead s_trial_dayNumber)]) [2] rfl) (hD.sub (ws' := [(ad 2, stE s_trial_people s_trial_kinds s_trial_deeds s_trial_feeding s_trial_large s_trial_dead s_trial_dayNumber)]) [2] (by decide) rfl) hK rfl rfl) rfl rfl hl.1 rfl (lv_room (Nat.le_of_ble_eq_true rfl)) dX3_days_75 ⟨Nat.zero_le _, Nat.zero_le _⟩) hS hP hD [2] rfl rfl rfl (fun H locs hP hD hS => ?_)
          have hP : va_P (gD G) vwCl [(h0, xoE ad s_keptSlots s_seenCount ((s_seed * 6364136223846793005) + 1442695040888963407)), (ad 1, stE s_now_people s_now_kinds s_now_deeds s_now_feeding s_now_large s_now_dead s_now_dayNumber), (ad 2, stE s_trial_people s_trial_kinds s_trial_deeds s_trial_feeding o12.2.1 s_trial_dead o12.2.2)] H := hP
          have hD : va_D A [(h0, xoE ad s_keptSlots s_seenCount ((s_seed * 6364136223846793005) + 1442695040888963407)), (ad 1, stE s_now_people s_now_kinds s_now_deeds s_now_feeding s_now_large s_now_dead s_now_dayNumber), (ad 2, stE s_trial_people s_trial_kinds s_trial_deeds s_trial_feeding o12.2.1 s_trial_dead o12.2.2)] := hD
          refine lv_bipush (v := (-9)) hx hb dX3_days_78 (by decide) ?_
          refine lv_icmp_ne (tgt := 87) hx hb dX3_days_80 (by decide) (fun c14 => ?_) (fun c14 => ?_)
          · have hf := iteF hf c14
            refine lv_iconst (v := 1) hx hb dX3_days_87 (by decide) ?_
            refine lv_iadd hx hb dX3_days_88 ?_
            refine lv_istore_n (lv' := [(2, .int (x2 + 1)), (4, .int ((Int64.toInt32 (j_lushr ((s_seed * 6364136223846793005) + 1442695040888963407) 33)) - (Int64.toInt32 (j_lushr ((s_seed * 6364136223846793005) + 1442695040888963407) 33)) / 12 * 12)), (0, .ref h0), (1, .int a1), (3, .int x3)]) hx hb dX3_days_89 rfl hl (by decide) rfl (fun ls hl => ?_)
            refine lv_goto (tgt := 114) hx hb dX3_days_90 (by decide) ?_
            refine lv_iinc (v := (x3 + 1)) (lv' := [(3, .int (x3 + 1)), (2, .int (x2 + 1)), (4, .int ((Int64.toInt32 (j_lushr ((s_seed * 6364136223846793005) + 1442695040888963407) 33)) - (Int64.toInt32 (j_lushr ((s_seed * 6364136223846793005) + 1442695040888963407) 33)) / 12 * 12)), (0, .ref h0), (1, .int a1)]) hx hb dX3_days_114 hl (k := 4) rfl rfl (by decide) rfl (fun ls hl => ?_)
            refine lv_goto (tgt := 29) hx hb dX3_days_117 (by decide) ?_
            exact ih29 (x2 + 1) (x3 + 1) ((s_seed * 6364136223846793005) + 1442695040888963407) s_trial_people s_trial_kinds s_trial_deeds s_trial_feeding o12.2.1 s_trial_dead o12.2.2 _ _ _ hP hD hS (lv_sub hl [3, 4, 1, 0] rfl) hf
          · have hf := iteT hf c14
            refine lv_iconst (v := 0) hx hb dX3_days_83 (by decide) ?_
            refine lv_goto (tgt := 88) hx hb dX3_days_84 (by decide) ?_
            refine lv_iadd hx hb dX3_days_88 ?_
            refine lv_istore_n (lv' := [(2, .int (x2 + 0)), (4, .int ((Int64.toInt32 (j_lushr ((s_seed * 6364136223846793005) + 1442695040888963407) 33)) - (Int64.toInt32 (j_lushr ((s_seed * 6364136223846793005) + 1442695040888963407) 33)) / 12 * 12)), (0, .ref h0), (1, .int a1), (3, .int x3)]) hx hb dX3_days_89 rfl hl (by decide) rfl (fun ls hl => ?_)
            refine lv_goto (tgt := 114) hx hb dX3_days_90 (by decide) ?_
            refine lv_iinc (v := (x3 + 1)) (lv' := [(3, .int (x3 + 1)), (2, .int (x2 + 0)), (4, .int ((Int64.toInt32 (j_lushr ((s_seed * 6364136223846793005) + 1442695040888963407) 33)) - (Int64.toInt32 (j_lushr ((s_seed * 6364136223846793005) + 1442695040888963407) 33)) / 12 * 12)), (0, .ref h0), (1, .int a1)]) hx hb dX3_days_114 hl (k := 4) rfl rfl (by decide) rfl (fun ls hl => ?_)
            refine lv_goto (tgt := 29) hx hb dX3_days_117 (by decide) ?_
            exact ih29 (x2 + 0) (x3 + 1) ((s_seed * 6364136223846793005) + 1442695040888963407) s_trial_people s_trial_kinds s_trial_deeds s_trial_feeding o12.2.1 s_trial_dead o12.2.2 _ _ _ hP hD hS (lv_sub hl [3, 4, 1, 0] rfl) hf
  refine lv_iload_n hx hb dX3_days_0 rfl (lv_at hl 1 rfl) ?_
  refine lv_iconst (v := 1) hx hb dX3_days_1 (by decide) ?_
  refine lv_icmp_lt (tgt := 11) hx hb dX3_days_2 (by decide) (fun c1 => ?_) (fun c1 => ?_)
  · have hf := iteT hf c1
    refine lv_bipush (v := (-2)) hx hb dX3_days_11 (by decide) ?_
    have hv := Option.some.inj hf
    exact hret _ _ _ _ _ (by rw [← hv]; exact hP) hS (by rw [← hv]) dX3_days_13
  · have hf := iteF hf c1
    refine lv_iload_n hx hb dX3_days_5 rfl (lv_at hl 1 rfl) ?_
    refine lv_bipush (v := 30) hx hb dX3_days_6 (by decide) ?_
    refine lv_icmp_le (tgt := 14) hx hb dX3_days_8 (by decide) (fun c2 => ?_) (fun c2 => ?_)
    · have hf := iteT hf c2
      refine lv_aload_n hx hb dX3_days_14 rfl (lv_at hl 0 rfl) ?_
      refine va_get (D := gD G) (ci := 3) (v := .ref (ad 2)) (C := RX3) (T := TX3) (N := 11) hx hb hts hi_X3 hown hK.1 hP 0 rfl rfl 2 (by decide) kl_23 (fun _ h9 => h9) rfl dX3_days_15 ?_
      refine lv_aload_n hx hb dX3_days_18 rfl (lv_at hl 0 rfl) ?_
      refine va_get (D := gD G) (ci := 3) (v := .ref (ad 1)) (C := RX3) (T := TX3) (N := 11) hx hb hts hi_X3 hown hK.1 hP 0 rfl rfl 1 (by decide) kl_19 (fun _ h9 => h9) rfl dX3_days_19 ?_
      obtain ⟨o3, hc4, hf⟩ := bindS hf
      refine rw_v (va_runVN (C := RX1) (As := [.ref (ad 1)]) (rest := []) ⟨hx, hb, hml, hown, hts⟩ (ctX1_copy l G (ad 2) (ad 1) s_trial_people s_trial_kinds s_trial_deeds s_trial_feeding s_trial_large s_trial_dead s_trial_dayNumber s_now_people s_now_kinds s_now_deeds s_now_feeding s_now_large s_now_dead s_now_dayNumber o3 hc4) ⟨va_cnB 1 hts gX3_days_X1_copy_n59 rfl rfl rfl (nm_X3_59 hK.2) (hts (.initialized RX1) (by decide +kernel)) (by decide +kernel) ⟨Nat.le_of_ble_eq_true rfl, Nat.le_of_ble_eq_true rfl⟩, hts (.instanceMethod yX1_copy) (by decide +kernel), hts (.selects RX1 yX1_copy yX1_copy) (by decide +kernel)⟩ (preW_V (q0 := 0) (ci := 1) (hP.sub (ws' := [(ad 2, stE s_trial_people s_trial_kinds s_trial_deeds s_trial_feeding s_trial_large s_trial_dead s_trial_dayNumber), (ad 1, stE s_now_people s_now_kinds s_now_deeds s_now_feeding s_now_large s_now_dead s_now_dayNumber)]) [2, 1] rfl) (hD.sub (ws' := [(ad 2, stE s_trial_people s_trial_kinds s_trial_deeds s_trial_feeding s_trial_large s_trial_dead s_trial_dayNumber), (ad 1, stE s_now_people s_now_kinds s_now_deeds s_now_feeding s_now_large s_now_dead s_now_dayNumber)]) [2, 1] (by decide) rfl) hK rfl rfl) rfl rfl hl.1 rfl (lv_room (Nat.le_of_ble_eq_true rfl)) dX3_days_22 ⟨Nat.zero_le _, Nat.zero_le _⟩) hS hP hD [2, 1] rfl rfl rfl (fun H locs hP hD hS => ?_)
      have hP : va_P (gD G) vwCl [(h0, xoE ad s_keptSlots s_seenCount s_seed), (ad 1, stE s_now_people s_now_kinds s_now_deeds s_now_feeding s_now_large s_now_dead s_now_dayNumber), (ad 2, stE o3.1 o3.2.1 o3.2.2.1 o3.2.2.2.1 o3.2.2.2.2.1 o3.2.2.2.2.2.1 o3.2.2.2.2.2.2)] H := hP
      have hD : va_D A [(h0, xoE ad s_keptSlots s_seenCount s_seed), (ad 1, stE s_now_people s_now_kinds s_now_deeds s_now_feeding s_now_large s_now_dead s_now_dayNumber), (ad 2, stE o3.1 o3.2.1 o3.2.2.1 o3.2.2.2.1 o3.2.2.2.2.1 o3.2.2.2.2.2.1 o3.2.2.2.2.2.2)] := hD
      refine lv_iconst (v := 0) hx hb dX3_days_25 (by decide) ?_
      refine lv_istore_n (lv' := [(2, .int 0), (0, .ref h0), (1, .int a1)]) hx hb dX3_days_26 rfl hl (by decide) rfl (fun ls hl => ?_)
      refine lv_iconst (v := 0) hx hb dX3_days_27 (by decide) ?_
      refine lv_istore_n (lv' := [(3, .int 0), (2, .int 0), (0, .ref h0), (1, .int a1)]) hx hb dX3_days_28 rfl hl (by decide) rfl (fun ls hl => ?_)
      exact hC29 32 0 0 s_seed o3.1 o3.2.1 o3.2.2.1 o3.2.2.2.1 o3.2.2.2.2.1 o3.2.2.2.2.2.1 o3.2.2.2.2.2.2 _ _ _ hP hD hS (lv_sub hl [2, 3, 1, 0] rfl) hf
    · have hf := iteF hf c2
      refine lv_bipush (v := (-2)) hx hb dX3_days_11 (by decide) ?_
      have hv := Option.some.inj hf
      exact hret _ _ _ _ _ (by rw [← hv]; exact hP) hS (by rw [← hv]) dX3_days_13
