def fX0_remember (s_first : Int32) (s_count : Int32) (s_a1_people : Int32) (s_a1_kinds : Int32) (s_a1_deeds : Int32) (s_a1_feeding : Int64) (s_a1_large : Int32) (s_a1_dead : Int32) (s_a1_dayNumber : Int32) (p_before : Nat → St) : Option (Int32 × Int32 × (Nat → St)) :=
  ck ((s_first + s_count) - (s_first + s_count) / 14 * 14) 14 ((fX1_copy ((p_before (Int32.toNatClampNeg ((s_first + s_count) - (s_first + s_count) / 14 * 14))).1) ((p_before (Int32.toNatClampNeg ((s_first + s_count) - (s_first + s_count) / 14 * 14))).2.1) ((p_before (Int32.toNatClampNeg ((s_first + s_count) - (s_first + s_count) / 14 * 14))).2.2.1) ((p_before (Int32.toNatClampNeg ((s_first + s_count) - (s_first + s_count) / 14 * 14))).2.2.2.1) ((p_before (Int32.toNatClampNeg ((s_first + s_count) - (s_first + s_count) / 14 * 14))).2.2.2.2.1) ((p_before (Int32.toNatClampNeg ((s_first + s_count) - (s_first + s_count) / 14 * 14))).2.2.2.2.2.1) ((p_before (Int32.toNatClampNeg ((s_first + s_count) - (s_first + s_count) / 14 * 14))).2.2.2.2.2.2) s_a1_people s_a1_kinds s_a1_deeds s_a1_feeding s_a1_large s_a1_dead s_a1_dayNumber).bind fun o2 => ((if 14 ≤ s_count then some (((s_first + 1) - (s_first + 1) / 14 * 14), s_count, (va_up p_before (Int32.toNatClampNeg ((s_first + s_count) - (s_first + s_count) / 14 * 14)) o2)) else some (s_first, (s_count + 1), (va_up p_before (Int32.toNatClampNeg ((s_first + s_count) - (s_first + s_count) / 14 * 14)) o2)))))
set_option maxHeartbeats 4000000 in
set_option maxRecDepth 100000 in
theorem ctX0_remember (l : Launch) (G : GG) (h0 : Nat) (h_a1 : Nat) (ad : Nat → Nat) (ra_before : Nat → Nat) (s_first : Int32) (s_count : Int32) (s_a1_people : Int32) (s_a1_kinds : Int32) (s_a1_deeds : Int32) (s_a1_feeding : Int64) (s_a1_large : Int32) (s_a1_dead : Int32) (s_a1_dayNumber : Int32) (p_before : Nat → St) (out : Int32 × Int32 × (Nat → St)) (hf : fX0_remember s_first s_count s_a1_people s_a1_kinds s_a1_deeds s_a1_feeding s_a1_large s_a1_dead s_a1_dayNumber p_before = some out) : Met l yX0_remember wsX0_remember ({ frames := 1, cells := 0, slots := 0, locals := 21 }) (PcW G [.ref h0, .ref h_a1] ([(h0, acE ad s_first s_count), (ad 0, aO G 14 (fun j => some (ra_before j))), (h_a1, stE s_a1_people s_a1_kinds s_a1_deeds s_a1_feeding s_a1_large s_a1_dead s_a1_dayNumber)] ++ plist ra_before p_before 14)) (QvW G ([(h0, acE ad s_first s_count), (ad 0, aO G 14 (fun j => some (ra_before j))), (h_a1, stE s_a1_people s_a1_kinds s_a1_deeds s_a1_feeding s_a1_large s_a1_dead s_a1_dayNumber)] ++ plist ra_before p_before 14) ([(h0, acE ad out.1 out.2.1), (ad 0, aO G 14 (fun j => some (ra_before j))), (h_a1, stE s_a1_people s_a1_kinds s_a1_deeds s_a1_feeding s_a1_large s_a1_dead s_a1_dayNumber)] ++ plist ra_before out.2.2 14)) 0 0 (inA ([(h0, acE ad s_first s_count), (ad 0, aO G 14 (fun j => some (ra_before j))), (h_a1, stE s_a1_people s_a1_kinds s_a1_deeds s_a1_feeding s_a1_large s_a1_dead s_a1_dayNumber)] ++ plist ra_before p_before 14)) := by
  refine mk_Wv (cc := cX0_remember) (maxL := 2) (by decide) rfl (Nat.le_of_ble_eq_true rfl) ?_
  intro p e s m args below meth c Q ls A S hP hK hD hl hret
  obtain ⟨hx, hb, hml, hown, hts⟩ := S
  have hown : s.vm.findClass RX0 = some m.cls := hown
  have kl_11 := hts (.fieldLink RX0 11 "ArrestOrder$Acts" "before" "[LArrestOrder$Standing;") (by decide +kernel)
  have hi_X0 : ∀ w ∈ wsX00, w ∈ wsX0_remember := fun _ h => List.mem_cons_of_mem _ (List.mem_append_left _ (List.mem_append_right _ h))
  have kl_18 := hts (.fieldLink RX0 18 "ArrestOrder$Acts" "first" "I") (by decide +kernel)
  have kl_22 := hts (.fieldLink RX0 22 "ArrestOrder$Acts" "count" "I") (by decide +kernel)
  have hS : va_S A s.heap s.heap [] := va_S.rf
  have hl : lv_has ls 2 [(0, .ref h0), (1, .ref h_a1)] := hl
  refine lv_aload_n hx hb dX0_remember_0 rfl (lv_at hl 0 rfl) ?_
  refine va_get (D := gD G) (ci := 0) (v := .ref (ad 0)) (C := RX0) (T := TX0) (N := 3) hx hb hts hi_X0 hown hK.1 hP 0 rfl rfl 0 (by decide) kl_11 (fun _ h9 => h9) rfl dX0_remember_1 ?_
  refine lv_aload_n hx hb dX0_remember_4 rfl (lv_at hl 0 rfl) ?_
  refine va_get (D := gD G) (ci := 0) (v := .int s_first) (C := RX0) (T := TX0) (N := 3) hx hb hts hi_X0 hown hK.1 hP 0 rfl rfl 1 (by decide) kl_18 (fun _ h9 => h9) rfl dX0_remember_5 ?_
  refine lv_aload_n hx hb dX0_remember_8 rfl (lv_at hl 0 rfl) ?_
  refine va_get (D := gD G) (ci := 0) (v := .int s_count) (C := RX0) (T := TX0) (N := 3) hx hb hts hi_X0 hown hK.1 hP 0 rfl rfl 2 (by decide) kl_22 (fun _ h9 => h9) rfl dX0_remember_9 ?_
  refine lv_iadd hx hb dX0_remember_12 ?_
  refine lv_bipush (v := 14) hx hb dX0_remember_13 (by decide) ?_
  refine lv_irem hx hb dX0_remember_15 (by decide) ?_
  obtain ⟨hi1, hf⟩ := ckS hf
  refine va_aldq hx hb hK.1 hP 1 3 rfl rfl hi1 dX0_remember_16 ?_
  refine W.eq (g2 := F0 m 17 ls [.ref (ra_before (Int32.toNatClampNeg ((s_first + s_count) - (s_first + s_count) / 14 * 14)))]) rfl ?_
  refine lv_aload_n hx hb dX0_remember_17 rfl (lv_at hl 1 rfl) ?_
  obtain ⟨o2, hc3, hf⟩ := bindS hf
  obtain ⟨hp41, hp42, hp43, hp44⟩ := pl_two hP hD (j := 2) (vp_lt hi1) rfl
  refine rw_pT (Int32.toNatClampNeg ((s_first + s_count) - (s_first + s_count) / 14 * 14)) 2 (o := o2) (va_runVN (C := RX1) (As := [.ref h_a1]) (rest := []) ⟨hx, hb, hml, hown, hts⟩ (ctX1_copy l G (ra_before (Int32.toNatClampNeg ((s_first + s_count) - (s_first + s_count) / 14 * 14))) h_a1 ((p_before (Int32.toNatClampNeg ((s_first + s_count) - (s_first + s_count) / 14 * 14))).1) ((p_before (Int32.toNatClampNeg ((s_first + s_count) - (s_first + s_count) / 14 * 14))).2.1) ((p_before (Int32.toNatClampNeg ((s_first + s_count) - (s_first + s_count) / 14 * 14))).2.2.1) ((p_before (Int32.toNatClampNeg ((s_first + s_count) - (s_first + s_count) / 14 * 14))).2.2.2.1) ((p_before (Int32.toNatClampNeg ((s_first + s_count) - (s_first + s_count) / 14 * 14))).2.2.2.2.1) ((p_before (Int32.toNatClampNeg ((s_first + s_count) - (s_first + s_count) / 14 * 14))).2.2.2.2.2.1) ((p_before (Int32.toNatClampNeg ((s_first + s_count) - (s_first + s_count) / 14 * 14))).2.2.2.2.2.2) s_a1_people s_a1_kinds s_a1_deeds s_a1_feeding s_a1_large s_a1_dead s_a1_dayNumber o2 hc3) ⟨va_cnB 1 hts gX0_remember_X1_copy_n25 rfl rfl rfl (nm_X0_25 hK.2) (hts (.initialized RX1) (by decide +kernel)) (by decide +kernel) ⟨Nat.le_of_ble_eq_true rfl, Nat.le_of_ble_eq_true rfl⟩, hts (.instanceMethod yX1_copy) (by decide +kernel), hts (.selects RX1 yX1_copy yX1_copy) (by decide +kernel)⟩ (preW_V (q0 := 0) (ci := 1) hp41 hp42 hK rfl rfl) rfl rfl hl.1 rfl (lv_room (Nat.le_of_ble_eq_true rfl)) dX0_remember_18 ⟨Nat.zero_le _, Nat.zero_le _⟩) hS hP hD (vp_lt hi1) rfl rfl (fun H locs hP hD hS => ?_)
  have hP : va_P (gD G) vwCl ([(h0, acE ad s_first s_count), (ad 0, aO G 14 (fun j => some (ra_before j))), (h_a1, stE s_a1_people s_a1_kinds s_a1_deeds s_a1_feeding s_a1_large s_a1_dead s_a1_dayNumber)] ++ plist ra_before (va_up p_before (Int32.toNatClampNeg ((s_first + s_count) - (s_first + s_count) / 14 * 14)) o2) 14) H := hP
  have hD : va_D A ([(h0, acE ad s_first s_count), (ad 0, aO G 14 (fun j => some (ra_before j))), (h_a1, stE s_a1_people s_a1_kinds s_a1_deeds s_a1_feeding s_a1_large s_a1_dead s_a1_dayNumber)] ++ plist ra_before (va_up p_before (Int32.toNatClampNeg ((s_first + s_count) - (s_first + s_count) / 14 * 14)) o2) 14) := hD
  refine lv_aload_n hx hb dX0_remember_21 rfl (lv_at hl 0 rfl) ?_
  refine va_get (D := gD G) (ci := 0) (v := .int s_count) (C := RX0) (T := TX0) (N := 3) hx hb hts hi_X0 hown hK.1 hP 0 rfl rfl 2 (by decide) kl_22 (fun _ h9 => h9) rfl dX0_remember_22 ?_
  refine lv_bipush (v := 14) hx hb dX0_remember_25 (by decide) ?_
  refine lv_icmp_ge (tgt := 43) hx hb dX0_remember_27 (by decide) (fun c5 => ?_) (fun c5 => ?_)
  · have hf := iteT hf c5
    refine lv_aload_n hx hb dX0_remember_43 rfl (lv_at hl 0 rfl) ?_
    refine lv_aload_n hx hb dX0_remember_44 rfl (lv_at hl 0 rfl) ?_
    refine va_get (D := gD G) (ci := 0) (v := .int s_first) (C := RX0) (T := TX0) (N := 3) hx hb hts hi_X0 hown hK.1 hP 0 rfl rfl 1 (by decide) kl_18 (fun _ h9 => h9) rfl dX0_remember_45 ?_
    refine lv_iconst (v := 1) hx hb dX0_remember_48 (by decide) ?_
    refine lv_iadd hx hb dX0_remember_49 ?_
    refine lv_bipush (v := 14) hx hb dX0_remember_50 (by decide) ?_
    refine lv_irem hx hb dX0_remember_52 (by decide) ?_
    refine va_put (D := gD G) (ci := 0) (v := .int ((s_first + 1) - (s_first + 1) / 14 * 14)) (ty := .int) (C := RX0) (T := TX0) (N := 3) hx hb hts hi_X0 tyX0 tyX0_ok nmX0 hown hK.1 hP hD hS 0 rfl rfl 1 (by decide) kl_18 (fun _ h9 => h9) rfl (tyX0_ok 1 (by decide)) rfl rfl (Nat.le_of_ble_eq_true rfl) dX0_remember_53 (fun H locs hP hD hS => ?_)
    have hP : va_P (gD G) vwCl ([(h0, acE ad ((s_first + 1) - (s_first + 1) / 14 * 14) s_count), (ad 0, aO G 14 (fun j => some (ra_before j))), (h_a1, stE s_a1_people s_a1_kinds s_a1_deeds s_a1_feeding s_a1_large s_a1_dead s_a1_dayNumber)] ++ plist ra_before (va_up p_before (Int32.toNatClampNeg ((s_first + s_count) - (s_first + s_count) / 14 * 14)) o2) 14) H := hP
    have hD : va_D A ([(h0, acE ad ((s_first + 1) - (s_first + 1) / 14 * 14) s_count), (ad 0, aO G 14 (fun j => some (ra_before j))), (h_a1, stE s_a1_people s_a1_kinds s_a1_deeds s_a1_feeding s_a1_large s_a1_dead s_a1_dayNumber)] ++ plist ra_before (va_up p_before (Int32.toNatClampNeg ((s_first + s_count) - (s_first + s_count) / 14 * 14)) o2) 14) := hD
    have hv := Option.some.inj hf
    exact hret _ _ _ _ (by rw [← hv]; exact hP) hS dX0_remember_56
  · have hf := iteF hf c5
    refine lv_aload_n hx hb dX0_remember_30 rfl (lv_at hl 0 rfl) ?_
    refine lv_dup hx hb dX0_remember_31 rfl ?_
    refine va_get (D := gD G) (ci := 0) (v := .int s_count) (C := RX0) (T := TX0) (N := 3) hx hb hts hi_X0 hown hK.1 hP 0 rfl rfl 2 (by decide) kl_22 (fun _ h9 => h9) rfl dX0_remember_32 ?_
    refine lv_iconst (v := 1) hx hb dX0_remember_35 (by decide) ?_
    refine lv_iadd hx hb dX0_remember_36 ?_
    refine va_put (D := gD G) (ci := 0) (v := .int (s_count + 1)) (ty := .int) (C := RX0) (T := TX0) (N := 3) hx hb hts hi_X0 tyX0 tyX0_ok nmX0 hown hK.1 hP hD hS 0 rfl rfl 2 (by decide) kl_22 (fun _ h9 => h9) rfl (tyX0_ok 2 (by decide)) rfl rfl (Nat.le_of_ble_eq_true rfl) dX0_remember_37 (fun H locs hP hD hS => ?_)
    have hP : va_P (gD G) vwCl ([(h0, acE ad s_first (s_count + 1)), (ad 0, aO G 14 (fun j => some (ra_before j))), (h_a1, stE s_a1_people s_a1_kinds s_a1_deeds s_a1_feeding s_a1_large s_a1_dead s_a1_dayNumber)] ++ plist ra_before (va_up p_before (Int32.toNatClampNeg ((s_first + s_count) - (s_first + s_count) / 14 * 14)) o2) 14) H := hP
    have hD : va_D A ([(h0, acE ad s_first (s_count + 1)), (ad 0, aO G 14 (fun j => some (ra_before j))), (h_a1, stE s_a1_people s_a1_kinds s_a1_deeds s_a1_feeding s_a1_large s_a1_dead s_a1_dayNumber)] ++ plist ra_before (va_up p_before (Int32.toNatClampNeg ((s_first + s_count) - (s_first + s_count) / 14 * 14)) o2) 14) := hD
    refine lv_goto (tgt := 56) hx hb dX0_remember_40 (by decide) ?_
    have hv := Option.some.inj hf
    exact hret _ _ _ _ (by rw [← hv]; exact hP) hS dX0_remember_56
def fX0_takeBackInto (s_first : Int32) (s_count : Int32) (s_a1_people : Int32) (s_a1_kinds : Int32) (s_a1_deeds : Int32) (s_a1_feeding : Int64) (s_a1_large : Int32) (s_a1_dead : Int32) (s_a1_dayNumber : Int32) (p_before : Nat → St) : Option (Int32 × Int32 × Int32 × Int32 × Int32 × Int64 × Int32 × Int32 × Int32) :=
  (if s_count = 0 then some (0, s_count, s_a1_people, s_a1_kinds, s_a1_deeds, s_a1_feeding, s_a1_large, s_a1_dead, s_a1_dayNumber) else ck ((s_first + (s_count - 1)) - (s_first + (s_count - 1)) / 14 * 14) 14 ((fX1_copy s_a1_people s_a1_kinds s_a1_deeds s_a1_feeding s_a1_large s_a1_dead s_a1_dayNumber ((p_before (Int32.toNatClampNeg ((s_first + (s_count - 1)) - (s_first + (s_count - 1)) / 14 * 14))).1) ((p_before (Int32.toNatClampNeg ((s_first + (s_count - 1)) - (s_first + (s_count - 1)) / 14 * 14))).2.1) ((p_before (Int32.toNatClampNeg ((s_first + (s_count - 1)) - (s_first + (s_count - 1)) / 14 * 14))).2.2.1) ((p_before (Int32.toNatClampNeg ((s_first + (s_count - 1)) - (s_first + (s_count - 1)) / 14 * 14))).2.2.2.1) ((p_before (Int32.toNatClampNeg ((s_first + (s_count - 1)) - (s_first + (s_count - 1)) / 14 * 14))).2.2.2.2.1) ((p_before (Int32.toNatClampNeg ((s_first + (s_count - 1)) - (s_first + (s_count - 1)) / 14 * 14))).2.2.2.2.2.1) ((p_before (Int32.toNatClampNeg ((s_first + (s_count - 1)) - (s_first + (s_count - 1)) / 14 * 14))).2.2.2.2.2.2)).bind fun o3 => (some (1, (s_count - 1), o3.1, o3.2.1, o3.2.2.1, o3.2.2.2.1, o3.2.2.2.2.1, o3.2.2.2.2.2.1, o3.2.2.2.2.2.2))))
set_option maxHeartbeats 4000000 in
set_option maxRecDepth 100000 in
theorem ctX0_takeBackInto (l : Launch) (G : GG) (h0 : Nat) (h_a1 : Nat) (ad : Nat → Nat) (ra_before : Nat → Nat) (s_first : Int32) (s_count : Int32) (s_a1_people : Int32) (s_a1_kinds : Int32) (s_a1_deeds : Int32) (s_a1_feeding : Int64) (s_a1_large : Int32) (s_a1_dead : Int32) (s_a1_dayNumber : Int32) (p_before : Nat → St) (out : Int32 × Int32 × Int32 × Int32 × Int32 × Int64 × Int32 × Int32 × Int32) (hf : fX0_takeBackInto s_first s_count s_a1_people s_a1_kinds s_a1_deeds s_a1_feeding s_a1_large s_a1_dead s_a1_dayNumber p_before = some out) : Met l yX0_takeBackInto wsX0_takeBackInto ({ frames := 1, cells := 0, slots := 0, locals := 21 }) (PcW G [.ref h0, .ref h_a1] ([(h0, acE ad s_first s_count), (ad 0, aO G 14 (fun j => some (ra_before j))), (h_a1, stE s_a1_people s_a1_kinds s_a1_deeds s_a1_feeding s_a1_large s_a1_dead s_a1_dayNumber)] ++ plist ra_before p_before 14)) (QiW G ([(h0, acE ad s_first s_count), (ad 0, aO G 14 (fun j => some (ra_before j))), (h_a1, stE s_a1_people s_a1_kinds s_a1_deeds s_a1_feeding s_a1_large s_a1_dead s_a1_dayNumber)] ++ plist ra_before p_before 14) ([(h0, acE ad s_first out.2.1), (ad 0, aO G 14 (fun j => some (ra_before j))), (h_a1, stE out.2.2.1 out.2.2.2.1 out.2.2.2.2.1 out.2.2.2.2.2.1 out.2.2.2.2.2.2.1 out.2.2.2.2.2.2.2.1 out.2.2.2.2.2.2.2.2)] ++ plist ra_before p_before 14) out.1) 0 0 (inA ([(h0, acE ad s_first s_count), (ad 0, aO G 14 (fun j => some (ra_before j))), (h_a1, stE s_a1_people s_a1_kinds s_a1_deeds s_a1_feeding s_a1_large s_a1_dead s_a1_dayNumber)] ++ plist ra_before p_before 14)) := by
  refine mk_Wz (cc := cX0_takeBackInto) (maxL := 2) (by decide) rfl (Nat.le_of_ble_eq_true rfl) ?_
  intro p e s m args below meth c Q ls A S hP hK hD hl hret
  obtain ⟨hx, hb, hml, hown, hts⟩ := S
  have hown : s.vm.findClass RX0 = some m.cls := hown
  have kl_22 := hts (.fieldLink RX0 22 "ArrestOrder$Acts" "count" "I") (by decide +kernel)
  have hi_X0 : ∀ w ∈ wsX00, w ∈ wsX0_takeBackInto := fun _ h => List.mem_cons_of_mem _ (List.mem_append_left _ (List.mem_append_right _ h))
  have kl_11 := hts (.fieldLink RX0 11 "ArrestOrder$Acts" "before" "[LArrestOrder$Standing;") (by decide +kernel)
  have kl_18 := hts (.fieldLink RX0 18 "ArrestOrder$Acts" "first" "I") (by decide +kernel)
  have hS : va_S A s.heap s.heap [] := va_S.rf
  have hl : lv_has ls 2 [(0, .ref h0), (1, .ref h_a1)] := hl
  refine lv_aload_n hx hb dX0_takeBackInto_0 rfl (lv_at hl 0 rfl) ?_
  refine va_get (D := gD G) (ci := 0) (v := .int s_count) (C := RX0) (T := TX0) (N := 3) hx hb hts hi_X0 hown hK.1 hP 0 rfl rfl 2 (by decide) kl_22 (fun _ h9 => h9) rfl dX0_takeBackInto_1 ?_
  refine lv_if_ne (tgt := 9) hx hb dX0_takeBackInto_4 (by decide) (fun c1 => ?_) (fun c1 => ?_)
  · have hf := iteF hf c1
    refine lv_aload_n hx hb dX0_takeBackInto_9 rfl (lv_at hl 0 rfl) ?_
    refine lv_dup hx hb dX0_takeBackInto_10 rfl ?_
    refine va_get (D := gD G) (ci := 0) (v := .int s_count) (C := RX0) (T := TX0) (N := 3) hx hb hts hi_X0 hown hK.1 hP 0 rfl rfl 2 (by decide) kl_22 (fun _ h9 => h9) rfl dX0_takeBackInto_11 ?_
    refine lv_iconst (v := 1) hx hb dX0_takeBackInto_14 (by decide) ?_
    refine lv_isub hx hb dX0_takeBackInto_15 ?_
    refine va_put (D := gD G) (ci := 0) (v := .int (s_count - 1)) (ty := .int) (C := RX0) (T := TX0) (N := 3) hx hb hts hi_X0 tyX0 tyX0_ok nmX0 hown hK.1 hP hD hS 0 rfl rfl 2 (by decide) kl_22 (fun _ h9 => h9) rfl (tyX0_ok 2 (by decide)) rfl rfl (Nat.le_of_ble_eq_true rfl) dX0_takeBackInto_16 (fun H locs hP hD hS => ?_)
    have hP : va_P (gD G) vwCl ([(h0, acE ad s_first (s_count - 1)), (ad 0, aO G 14 (fun j => some (ra_before j))), (h_a1, stE s_a1_people s_a1_kinds s_a1_deeds s_a1_feeding s_a1_large s_a1_dead s_a1_dayNumber)] ++ plist ra_before p_before 14) H := hP
    have hD : va_D A ([(h0, acE ad s_first (s_count - 1)), (ad 0, aO G 14 (fun j => some (ra_before j))), (h_a1, stE s_a1_people s_a1_kinds s_a1_deeds s_a1_feeding s_a1_large s_a1_dead s_a1_dayNumber)] ++ plist ra_before p_before 14) := hD
    refine lv_aload_n hx hb dX0_takeBackInto_19 rfl (lv_at hl 1 rfl) ?_
    refine lv_aload_n hx hb dX0_takeBackInto_20 rfl (lv_at hl 0 rfl) ?_
    refine va_get (D := gD G) (ci := 0) (v := .ref (ad 0)) (C := RX0) (T := TX0) (N := 3) hx hb hts hi_X0 hown hK.1 hP 0 rfl rfl 0 (by decide) kl_11 (fun _ h9 => h9) rfl dX0_takeBackInto_21 ?_
    refine lv_aload_n hx hb dX0_takeBackInto_24 rfl (lv_at hl 0 rfl) ?_
    refine va_get (D := gD G) (ci := 0) (v := .int s_first) (C := RX0) (T := TX0) (N := 3) hx hb hts hi_X0 hown hK.1 hP 0 rfl rfl 1 (by decide) kl_18 (fun _ h9 => h9) rfl dX0_takeBackInto_25 ?_
    refine lv_aload_n hx hb dX0_takeBackInto_28 rfl (lv_at hl 0 rfl) ?_
    refine va_get (D := gD G) (ci := 0) (v := .int (s_count - 1)) (C := RX0) (T := TX0) (N := 3) hx hb hts hi_X0 hown hK.1 hP 0 rfl rfl 2 (by decide) kl_22 (fun _ h9 => h9) rfl dX0_takeBackInto_29 ?_
    refine lv_iadd hx hb dX0_takeBackInto_32 ?_
    refine lv_bipush (v := 14) hx hb dX0_takeBackInto_33 (by decide) ?_
    refine lv_irem hx hb dX0_takeBackInto_35 (by decide) ?_
    obtain ⟨hi2, hf⟩ := ckS hf
    refine va_aldq hx hb hK.1 hP 1 3 rfl rfl hi2 dX0_takeBackInto_36 ?_
    refine W.eq (g2 := F0 m 37 ls [.ref (ra_before (Int32.toNatClampNeg ((s_first + (s_count - 1)) - (s_first + (s_count - 1)) / 14 * 14))), .ref h_a1]) rfl ?_
    obtain ⟨o3, hc4, hf⟩ := bindS hf
    obtain ⟨hp51, hp52, hp53, hp54⟩ := pl_two hP hD (j := 2) (vp_lt hi2) rfl
    refine rw_pF (Int32.toNatClampNeg ((s_first + (s_count - 1)) - (s_first + (s_count - 1)) / 14 * 14)) 2 (va_runVN (C := RX1) (As := [.ref (ra_before (Int32.toNatClampNeg ((s_first + (s_count - 1)) - (s_first + (s_count - 1)) / 14 * 14)))]) (rest := []) ⟨hx, hb, hml, hown, hts⟩ (ctX1_copy l G h_a1 (ra_before (Int32.toNatClampNeg ((s_first + (s_count - 1)) - (s_first + (s_count - 1)) / 14 * 14))) s_a1_people s_a1_kinds s_a1_deeds s_a1_feeding s_a1_large s_a1_dead s_a1_dayNumber ((p_before (Int32.toNatClampNeg ((s_first + (s_count - 1)) - (s_first + (s_count - 1)) / 14 * 14))).1) ((p_before (Int32.toNatClampNeg ((s_first + (s_count - 1)) - (s_first + (s_count - 1)) / 14 * 14))).2.1) ((p_before (Int32.toNatClampNeg ((s_first + (s_count - 1)) - (s_first + (s_count - 1)) / 14 * 14))).2.2.1) ((p_before (Int32.toNatClampNeg ((s_first + (s_count - 1)) - (s_first + (s_count - 1)) / 14 * 14))).2.2.2.1) ((p_before (Int32.toNatClampNeg ((s_first + (s_count - 1)) - (s_first + (s_count - 1)) / 14 * 14))).2.2.2.2.1) ((p_before (Int32.toNatClampNeg ((s_first + (s_count - 1)) - (s_first + (s_count - 1)) / 14 * 14))).2.2.2.2.2.1) ((p_before (Int32.toNatClampNeg ((s_first + (s_count - 1)) - (s_first + (s_count - 1)) / 14 * 14))).2.2.2.2.2.2) o3 hc4) ⟨va_cnB 1 hts gX0_takeBackInto_X1_copy_n25 rfl rfl rfl (nm_X0_25 hK.2) (hts (.initialized RX1) (by decide +kernel)) (by decide +kernel) ⟨Nat.le_of_ble_eq_true rfl, Nat.le_of_ble_eq_true rfl⟩, hts (.instanceMethod yX1_copy) (by decide +kernel), hts (.selects RX1 yX1_copy yX1_copy) (by decide +kernel)⟩ (preW_V (q0 := 0) (ci := 1) hp53 hp54 hK rfl rfl) rfl rfl hl.1 rfl (lv_room (Nat.le_of_ble_eq_true rfl)) dX0_takeBackInto_37 ⟨Nat.zero_le _, Nat.zero_le _⟩) hS hP hD (vp_lt hi2) rfl rfl (fun H locs hP hD hS => ?_)
    have hP : va_P (gD G) vwCl ([(h0, acE ad s_first (s_count - 1)), (ad 0, aO G 14 (fun j => some (ra_before j))), (h_a1, stE o3.1 o3.2.1 o3.2.2.1 o3.2.2.2.1 o3.2.2.2.2.1 o3.2.2.2.2.2.1 o3.2.2.2.2.2.2)] ++ plist ra_before p_before 14) H := hP
    have hD : va_D A ([(h0, acE ad s_first (s_count - 1)), (ad 0, aO G 14 (fun j => some (ra_before j))), (h_a1, stE o3.1 o3.2.1 o3.2.2.1 o3.2.2.2.1 o3.2.2.2.2.1 o3.2.2.2.2.2.1 o3.2.2.2.2.2.2)] ++ plist ra_before p_before 14) := hD
    refine lv_iconst (v := 1) hx hb dX0_takeBackInto_40 (by decide) ?_
    have hv := Option.some.inj hf
    exact hret _ _ _ _ _ (by rw [← hv]; exact hP) hS rfl (by rw [← hv]) dX0_takeBackInto_41
  · have hf := iteT hf c1
    refine lv_iconst (v := 0) hx hb dX0_takeBackInto_7 (by decide) ?_
    have hv := Option.some.inj hf
    exact hret _ _ _ _ _ (by rw [← hv]; exact hP) hS rfl (by rw [← hv]) dX0_takeBackInto_8
def fX3_day (s_now_people : Int32) (s_now_kinds : Int32) (s_now_deeds : Int32) (s_now_feeding : Int64) (s_now_large : Int32) (s_now_dead : Int32) (s_now_dayNumber : Int32) (s_acts_first : Int32) (s_acts_count : Int32) (p_acts_before : Nat → St) : Option (Int32 × Int32 × Int32 × Int32 × Int32 × (Nat → St)) :=
  (fX0_remember s_acts_first s_acts_count s_now_people s_now_kinds s_now_deeds s_now_feeding s_now_large s_now_dead s_now_dayNumber p_acts_before).bind fun o1 => ((fX1_passDay s_now_people s_now_kinds s_now_deeds s_now_feeding s_now_large s_now_dayNumber).bind fun o3 => (some (o3.1, o3.2.1, o3.2.2, o1.1, o1.2.1, o1.2.2)))
set_option maxHeartbeats 4000000 in
set_option maxRecDepth 100000 in
theorem ctX3_day (l : Launch) (G : GG) (h0 : Nat) (ad : Nat → Nat) (ad_acts : Nat → Nat) (ra_acts_before : Nat → Nat) (s_keptSlots : Int32) (s_seenCount : Int32) (s_seed : Int64) (s_now_people : Int32) (s_now_kinds : Int32) (s_now_deeds : Int32) (s_now_feeding : Int64) (s_now_large : Int32) (s_now_dead : Int32) (s_now_dayNumber : Int32) (s_acts_first : Int32) (s_acts_count : Int32) (p_acts_before : Nat → St) (out : Int32 × Int32 × Int32 × Int32 × Int32 × (Nat → St)) (hf : fX3_day s_now_people s_now_kinds s_now_deeds s_now_feeding s_now_large s_now_dead s_now_dayNumber s_acts_first s_acts_count p_acts_before = some out) : Met l yX3_day wsX3_day ({ frames := 4, cells := 0, slots := 0, locals := 90 }) (PcW G [.ref h0] ([(h0, xoE ad s_keptSlots s_seenCount s_seed), (ad 1, stE s_now_people s_now_kinds s_now_deeds s_now_feeding s_now_large s_now_dead s_now_dayNumber), (ad 3, acE ad_acts s_acts_first s_acts_count), (ad_acts 0, aO G 14 (fun j => some (ra_acts_before j)))] ++ plist ra_acts_before p_acts_before 14)) (QiW G ([(h0, xoE ad s_keptSlots s_seenCount s_seed), (ad 1, stE s_now_people s_now_kinds s_now_deeds s_now_feeding s_now_large s_now_dead s_now_dayNumber), (ad 3, acE ad_acts s_acts_first s_acts_count), (ad_acts 0, aO G 14 (fun j => some (ra_acts_before j)))] ++ plist ra_acts_before p_acts_before 14) ([(h0, xoE ad s_keptSlots s_seenCount s_seed), (ad 1, stE s_now_people s_now_kinds s_now_deeds s_now_feeding out.2.1 s_now_dead out.2.2.1), (ad 3, acE ad_acts out.2.2.2.1 out.2.2.2.2.1), (ad_acts 0, aO G 14 (fun j => some (ra_acts_before j)))] ++ plist ra_acts_before out.2.2.2.2.2 14) out.1) 0 0 (inA ([(h0, xoE ad s_keptSlots s_seenCount s_seed), (ad 1, stE s_now_people s_now_kinds s_now_deeds s_now_feeding s_now_large s_now_dead s_now_dayNumber), (ad 3, acE ad_acts s_acts_first s_acts_count), (ad_acts 0, aO G 14 (fun j => some (ra_acts_before j)))] ++ plist ra_acts_before p_acts_before 14)) := by
  refine mk_Wi (cc := cX3_day) (maxL := 1) (by decide) rfl (Nat.le_of_ble_eq_true rfl) ?_
  intro p e s m args below meth c Q ls A S hP hK hD hl hret
  obtain ⟨hx, hb, hml, hown, hts⟩ := S
  have hown : s.vm.findClass RX3 = some m.cls := hown
  have kl_29 := hts (.fieldLink RX3 29 "ArrestOrder" "acts" "LArrestOrder$Acts;") (by decide +kernel)
  have hi_X3 : ∀ w ∈ wsX30, w ∈ wsX3_day := fun _ h => List.mem_cons_of_mem _ (List.mem_append_left _ (List.mem_append_left _ (List.mem_append_right _ h)))
  have kl_19 := hts (.fieldLink RX3 19 "ArrestOrder" "now" "LArrestOrder$Standing;") (by decide +kernel)
  have hS : va_S A s.heap s.heap [] := va_S.rf
  have hl : lv_has ls 1 [(0, .ref h0)] := hl
  refine lv_aload_n hx hb dX3_day_0 rfl (lv_at hl 0 rfl) ?_
  refine va_get (D := gD G) (ci := 3) (v := .ref (ad 3)) (C := RX3) (T := TX3) (N := 11) hx hb hts hi_X3 hown hK.1 hP 0 rfl rfl 3 (by decide) kl_29 (fun _ h9 => h9) rfl dX3_day_1 ?_
  refine lv_aload_n hx hb dX3_day_4 rfl (lv_at hl 0 rfl) ?_
  refine va_get (D := gD G) (ci := 3) (v := .ref (ad 1)) (C := RX3) (T := TX3) (N := 11) hx hb hts hi_X3 hown hK.1 hP 0 rfl rfl 1 (by decide) kl_19 (fun _ h9 => h9) rfl dX3_day_5 ?_
  obtain ⟨o1, hc2, hf⟩ := bindS hf
  refine rw_vT (va_runVN (C := RX0) (As := [.ref (ad 1)]) (rest := []) ⟨hx, hb, hml, hown, hts⟩ (ctX0_remember l G (ad 3) (ad 1) ad_acts ra_acts_before s_acts_first s_acts_count s_now_people s_now_kinds s_now_deeds s_now_feeding s_now_large s_now_dead s_now_dayNumber p_acts_before o1 hc2) ⟨va_cnB 1 hts gX3_day_X0_remember_n111 rfl rfl rfl (nm_X3_111 hK.2) (hts (.initialized RX0) (by decide +kernel)) (by decide +kernel) ⟨Nat.le_of_ble_eq_true rfl, Nat.le_of_ble_eq_true rfl⟩, hts (.instanceMethod yX0_remember) (by decide +kernel), hts (.selects RX0 yX0_remember yX0_remember) (by decide +kernel)⟩ (preW_V (q0 := 0) (ci := 0) (P_tsub (Y := [(ad 3, acE ad_acts s_acts_first s_acts_count), (ad_acts 0, aO G 14 (fun j => some (ra_acts_before j))), (ad 1, stE s_now_people s_now_kinds s_now_deeds s_now_feeding s_now_large s_now_dead s_now_dayNumber)]) hP [2, 3, 1] rfl) (D_tsub (Y := [(ad 3, acE ad_acts s_acts_first s_acts_count), (ad_acts 0, aO G 14 (fun j => some (ra_acts_before j))), (ad 1, stE s_now_people s_now_kinds s_now_deeds s_now_feeding s_now_large s_now_dead s_now_dayNumber)]) hD [2, 3, 1] (by decide) rfl) hK rfl rfl) rfl rfl hl.1 rfl (lv_room (Nat.le_of_ble_eq_true rfl)) dX3_day_8 ⟨Nat.zero_le _, Nat.zero_le _⟩) hS hP hD [2, 3, 1] rfl rfl rfl plist_addr (fun H locs hP hD hS => ?_)
  have hP : va_P (gD G) vwCl ([(h0, xoE ad s_keptSlots s_seenCount s_seed), (ad 1, stE s_now_people s_now_kinds s_now_deeds s_now_feeding s_now_large s_now_dead s_now_dayNumber), (ad 3, acE ad_acts o1.1 o1.2.1), (ad_acts 0, aO G 14 (fun j => some (ra_acts_before j)))] ++ plist ra_acts_before o1.2.2 14) H := hP
  have hD : va_D A ([(h0, xoE ad s_keptSlots s_seenCount s_seed), (ad 1, stE s_now_people s_now_kinds s_now_deeds s_now_feeding s_now_large s_now_dead s_now_dayNumber), (ad 3, acE ad_acts o1.1 o1.2.1), (ad_acts 0, aO G 14 (fun j => some (ra_acts_before j)))] ++ plist ra_acts_before o1.2.2 14) := hD
  refine lv_aload_n hx hb dX3_day_11 rfl (lv_at hl 0 rfl) ?_
  refine va_get (D := gD G) (ci := 3) (v := .ref (ad 1)) (C := RX3) (T := TX3) (N := 11) hx hb hts hi_X3 hown hK.1 hP 0 rfl rfl 1 (by decide) kl_19 (fun _ h9 => h9) rfl dX3_day_12 ?_
  obtain ⟨o3, hc4, hf⟩ := bindS hf
  refine rw_i (va_runVN (C := RX1) (As := []) (rest := []) ⟨hx, hb, hml, hown, hts⟩ (ctX1_passDay l G (ad 1) s_now_people s_now_kinds s_now_deeds s_now_feeding s_now_large s_now_dead s_now_dayNumber o3 hc4) ⟨va_cnB 0 hts gX3_day_X1_passDay_n145 rfl rfl rfl (nm_X3_145 hK.2) (hts (.initialized RX1) (by decide +kernel)) (by decide +kernel) ⟨Nat.le_of_ble_eq_true rfl, Nat.le_of_ble_eq_true rfl⟩, hts (.instanceMethod yX1_passDay) (by decide +kernel), hts (.selects RX1 yX1_passDay yX1_passDay) (by decide +kernel)⟩ (preW_V (q0 := 0) (ci := 1) (hP.sub (ws' := [(ad 1, stE s_now_people s_now_kinds s_now_deeds s_now_feeding s_now_large s_now_dead s_now_dayNumber)]) [1] rfl) (hD.sub (ws' := [(ad 1, stE s_now_people s_now_kinds s_now_deeds s_now_feeding s_now_large s_now_dead s_now_dayNumber)]) [1] (by decide) rfl) hK rfl rfl) rfl rfl hl.1 rfl (lv_room (Nat.le_of_ble_eq_true rfl)) dX3_day_15 ⟨Nat.zero_le _, Nat.zero_le _⟩) hS hP hD [1] rfl rfl rfl (fun H locs hP hD hS => ?_)
  have hP : va_P (gD G) vwCl ([(h0, xoE ad s_keptSlots s_seenCount s_seed), (ad 1, stE s_now_people s_now_kinds s_now_deeds s_now_feeding o3.2.1 s_now_dead o3.2.2), (ad 3, acE ad_acts o1.1 o1.2.1), (ad_acts 0, aO G 14 (fun j => some (ra_acts_before j)))] ++ plist ra_acts_before o1.2.2 14) H := hP
  have hD : va_D A ([(h0, xoE ad s_keptSlots s_seenCount s_seed), (ad 1, stE s_now_people s_now_kinds s_now_deeds s_now_feeding o3.2.1 s_now_dead o3.2.2), (ad 3, acE ad_acts o1.1 o1.2.1), (ad_acts 0, aO G 14 (fun j => some (ra_acts_before j)))] ++ plist ra_acts_before o1.2.2 14) := hD
  have hv := Option.some.inj hf
  exact hret _ _ _ _ _ (by rw [← hv]; exact hP) hS (by rw [← hv]) dX3_day_18
def fX3_undo (s_now_people : Int32) (s_now_kinds : Int32) (s_now_deeds : Int32) (s_now_feeding : Int64) (s_now_large : Int32) (s_now_dead : Int32) (s_now_dayNumber : Int32) (s_acts_first : Int32) (s_acts_count : Int32) (p_acts_before : Nat → St) : Option (Int32 × Int32 × Int32 × Int32 × Int64 × Int32 × Int32 × Int32 × Int32) :=
  (fX0_takeBackInto s_acts_first s_acts_count s_now_people s_now_kinds s_now_deeds s_now_feeding s_now_large s_now_dead s_now_dayNumber p_acts_before).bind fun o1 => ((if o1.1 = 0 then some ((-3), o1.2.2.1, o1.2.2.2.1, o1.2.2.2.2.1, o1.2.2.2.2.2.1, o1.2.2.2.2.2.2.1, o1.2.2.2.2.2.2.2.1, o1.2.2.2.2.2.2.2.2, o1.2.1) else some (o1.2.1, o1.2.2.1, o1.2.2.2.1, o1.2.2.2.2.1, o1.2.2.2.2.2.1, o1.2.2.2.2.2.2.1, o1.2.2.2.2.2.2.2.1, o1.2.2.2.2.2.2.2.2, o1.2.1)))
set_option maxHeartbeats 4000000 in
set_option maxRecDepth 100000 in
theorem ctX3_undo (l : Launch) (G : GG) (h0 : Nat) (ad : Nat → Nat) (ad_acts : Nat → Nat) (ra_acts_before : Nat → Nat) (s_keptSlots : Int32) (s_seenCount : Int32) (s_seed : Int64) (s_now_people : Int32) (s_now_kinds : Int32) (s_now_deeds : Int32) (s_now_feeding : Int64) (s_now_large : Int32) (s_now_dead : Int32) (s_now_dayNumber : Int32) (s_acts_first : Int32) (s_acts_count : Int32) (p_acts_before : Nat → St) (out : Int32 × Int32 × Int32 × Int32 × Int64 × Int32 × Int32 × Int32 × Int32) (hf : fX3_undo s_now_people s_now_kinds s_now_deeds s_now_feeding s_now_large s_now_dead s_now_dayNumber s_acts_first s_acts_count p_acts_before = some out) : Met l yX3_undo wsX3_undo ({ frames := 2, cells := 0, slots := 0, locals := 42 }) (PcW G [.ref h0] ([(h0, xoE ad s_keptSlots s_seenCount s_seed), (ad 1, stE s_now_people s_now_kinds s_now_deeds s_now_feeding s_now_large s_now_dead s_now_dayNumber), (ad 3, acE ad_acts s_acts_first s_acts_count), (ad_acts 0, aO G 14 (fun j => some (ra_acts_before j)))] ++ plist ra_acts_before p_acts_before 14)) (QiW G ([(h0, xoE ad s_keptSlots s_seenCount s_seed), (ad 1, stE s_now_people s_now_kinds s_now_deeds s_now_feeding s_now_large s_now_dead s_now_dayNumber), (ad 3, acE ad_acts s_acts_first s_acts_count), (ad_acts 0, aO G 14 (fun j => some (ra_acts_before j)))] ++ plist ra_acts_before p_acts_before 14) ([(h0, xoE ad s_keptSlots s_seenCount s_seed), (ad 1, stE out.2.1 out.2.2.1 out.2.2.2.1 out.2.2.2.2.1 out.2.2.2.2.2.1 out.2.2.2.2.2.2.1 out.2.2.2.2.2.2.2.1), (ad 3, acE ad_acts s_acts_first out.2.2.2.2.2.2.2.2), (ad_acts 0, aO G 14 (fun j => some (ra_acts_before j)))] ++ plist ra_acts_before p_acts_before 14) out.1) 0 0 (inA ([(h0, xoE ad s_keptSlots s_seenCount s_seed), (ad 1, stE s_now_people s_now_kinds s_now_deeds s_now_feeding s_now_large s_now_dead s_now_dayNumber), (ad 3, acE ad_acts s_acts_first s_acts_count), (ad_acts 0, aO G 14 (fun j => some (ra_acts_before j)))] ++ plist ra_acts_before p_acts_before 14)) := by
  refine mk_Wi (cc := cX3_undo) (maxL := 1) (by decide) rfl (Nat.le_of_ble_eq_true rfl) ?_
  intro p e s m args below meth c Q ls A S hP hK hD hl hret
  obtain ⟨hx, hb, hml, hown, hts⟩ := S
  have hown : s.vm.findClass RX3 = some m.cls := hown
  have kl_29 := hts (.fieldLink RX3 29 "ArrestOrder" "acts" "LArrestOrder$Acts;") (by decide +kernel)
  have hi_X3 : ∀ w ∈ wsX30, w ∈ wsX3_undo := fun _ h => List.mem_cons_of_mem _ (List.mem_append_left _ (List.mem_append_left _ (List.mem_append_right _ h)))
  have kl_19 := hts (.fieldLink RX3 19 "ArrestOrder" "now" "LArrestOrder$Standing;") (by decide +kernel)
  have hi_X0 : ∀ w ∈ wsX00, w ∈ wsX3_undo := fun _ h => List.mem_cons_of_mem _ (List.mem_append_left _ (List.mem_append_right _ h))
  have hS : va_S A s.heap s.heap [] := va_S.rf
  have hl : lv_has ls 1 [(0, .ref h0)] := hl
  refine lv_aload_n hx hb dX3_undo_0 rfl (lv_at hl 0 rfl) ?_
  refine va_get (D := gD G) (ci := 3) (v := .ref (ad 3)) (C := RX3) (T := TX3) (N := 11) hx hb hts hi_X3 hown hK.1 hP 0 rfl rfl 3 (by decide) kl_29 (fun _ h9 => h9) rfl dX3_undo_1 ?_
  refine lv_aload_n hx hb dX3_undo_4 rfl (lv_at hl 0 rfl) ?_
  refine va_get (D := gD G) (ci := 3) (v := .ref (ad 1)) (C := RX3) (T := TX3) (N := 11) hx hb hts hi_X3 hown hK.1 hP 0 rfl rfl 1 (by decide) kl_19 (fun _ h9 => h9) rfl dX3_undo_5 ?_
  obtain ⟨o1, hc2, hf⟩ := bindS hf
  refine rw_iT (va_runVN (C := RX0) (As := [.ref (ad 1)]) (rest := []) ⟨hx, hb, hml, hown, hts⟩ (ctX0_takeBackInto l G (ad 3) (ad 1) ad_acts ra_acts_before s_acts_first s_acts_count s_now_people s_now_kinds s_now_deeds s_now_feeding s_now_large s_now_dead s_now_dayNumber p_acts_before o1 hc2) ⟨va_cnB 1 hts gX3_undo_X0_takeBackInto_n148 rfl rfl rfl (nm_X3_148 hK.2) (hts (.initialized RX0) (by decide +kernel)) (by decide +kernel) ⟨Nat.le_of_ble_eq_true rfl, Nat.le_of_ble_eq_true rfl⟩, hts (.instanceMethod yX0_takeBackInto) (by decide +kernel), hts (.selects RX0 yX0_takeBackInto yX0_takeBackInto) (by decide +kernel)⟩ (preW_V (q0 := 0) (ci := 0) (P_tsub (Y := [(ad 3, acE ad_acts s_acts_first s_acts_count), (ad_acts 0, aO G 14 (fun j => some (ra_acts_before j))), (ad 1, stE s_now_people s_now_kinds s_now_deeds s_now_feeding s_now_large s_now_dead s_now_dayNumber)]) hP [2, 3, 1] rfl) (D_tsub (Y := [(ad 3, acE ad_acts s_acts_first s_acts_count), (ad_acts 0, aO G 14 (fun j => some (ra_acts_before j))), (ad 1, stE s_now_people s_now_kinds s_now_deeds s_now_feeding s_now_large s_now_dead s_now_dayNumber)]) hD [2, 3, 1] (by decide) rfl) hK rfl rfl) rfl rfl hl.1 rfl (lv_room (Nat.le_of_ble_eq_true rfl)) dX3_undo_8 ⟨Nat.zero_le _, Nat.zero_le _⟩) hS hP hD [2, 3, 1] rfl rfl rfl plist_addr (fun H locs hP hD hS => ?_)
  have hP : va_P (gD G) vwCl ([(h0, xoE ad s_keptSlots s_seenCount s_seed), (ad 1, stE o1.2.2.1 o1.2.2.2.1 o1.2.2.2.2.1 o1.2.2.2.2.2.1 o1.2.2.2.2.2.2.1 o1.2.2.2.2.2.2.2.1 o1.2.2.2.2.2.2.2.2), (ad 3, acE ad_acts s_acts_first o1.2.1), (ad_acts 0, aO G 14 (fun j => some (ra_acts_before j)))] ++ plist ra_acts_before p_acts_before 14) H := hP
  have hD : va_D A ([(h0, xoE ad s_keptSlots s_seenCount s_seed), (ad 1, stE o1.2.2.1 o1.2.2.2.1 o1.2.2.2.2.1 o1.2.2.2.2.2.1 o1.2.2.2.2.2.2.1 o1.2.2.2.2.2.2.2.1 o1.2.2.2.2.2.2.2.2), (ad 3, acE ad_acts s_acts_first o1.2.1), (ad_acts 0, aO G 14 (fun j => some (ra_acts_before j)))] ++ plist ra_acts_before p_acts_before 14) := hD
  refine lv_if_eq (tgt := 24) hx hb dX3_undo_11 (by decide) (fun c3 => ?_) (fun c3 => ?_)
  · have hf := iteT hf c3
    refine lv_bipush (v := (-3)) hx hb dX3_undo_24 (by decide) ?_
    have hv := Option.some.inj hf
    exact hret _ _ _ _ _ (by rw [← hv]; exact hP) hS (by rw [← hv]) dX3_undo_26
  · have hf := iteF hf c3
    refine lv_aload_n hx hb dX3_undo_14 rfl (lv_at hl 0 rfl) ?_
    refine va_get (D := gD G) (ci := 3) (v := .ref (ad 3)) (C := RX3) (T := TX3) (N := 11) hx hb hts hi_X3 hown hK.1 hP 0 rfl rfl 3 (by decide) kl_29 (fun _ h9 => h9) rfl dX3_undo_15 ?_
    refine va_getN (D := gD G) (ci := 0) (v := .int o1.2.1) (C := RX0) (T := TX0) (N := 3) hx hb hts hi_X0 hown hK.1 hP 2 rfl rfl 2 (by decide) (nf_X3_63 hK.2) (fun _ h9 => h9) rfl dX3_undo_18 ?_
    refine lv_goto (tgt := 26) hx hb dX3_undo_21 (by decide) ?_
    have hv := Option.some.inj hf
    exact hret _ _ _ _ _ (by rw [← hv]; exact hP) hS (by rw [← hv]) dX3_undo_26
