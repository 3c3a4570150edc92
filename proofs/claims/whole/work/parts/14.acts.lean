def fX0_remember (s_first : Int32) (s_count : Int32) (s_a1_people : Int32) (s_a1_kinds : Int32) (s_a1_deeds : Int32) (s_a1_feeding : Int64) (s_a1_large : Int32) (s_a1_dead : Int32) (s_a1_dayNumber : Int32) (p_before : Nat → St) : Option (Int32 × Int32 × (Nat → St)) :=
  ck ((s_first + s_count) - (s_first + s_count) / 14 * 14) 14 ((fX1_copy ((p_before (Int32.toNatClampNeg ((s_first + s_count) - (s_first + s_count) / 14 * 14))).1) ((p_before (Int32.toNatClampNeg ((s_first + s_count) - (s_first + s_count) / 14 * 14))).2.1) ((p_before (Int32.toNatClampNeg ((s_first + s_count) - (s_first + s_count) / 14 * 14))).2.2.1) ((p_before (Int32.toNatClampNeg ((s_first + s_count) - (s_first + s_count) / 14 * 14))).2.2.2.1) ((p_before (Int32.toNatClampNeg ((s_first + s_count) - (s_first + s_count) / 14 * 14))).2.2.2.2.1) ((p_before (Int32.toNatClampNeg ((s_first + s_count) - (s_first + s_count) / 14 * 14))).2.2.2.2.2.1) ((p_before (Int32.toNatClampNeg ((s_first + s_count) - (s_first + s_count) / 14 * 14))).2.2.2.2.2.2) s_a1_people s_a1_kinds s_a1_deeds s_a1_feeding s_a1_large s_a1_dead s_a1_dayNumber).bind fun o2 => ((if 14 ≤ s_count then some (((s_first + 1) - (s_first + 1) / 14 * 14), s_count, (va_up p_before (Int32.toNatClampNeg ((s_first + s_count) - (s_first + s_count) / 14 * 14)) o2)) else some (s_first, (s_count + 1), (va_up p_before (Int32.toNatClampNeg ((s_first + s_count) - (s_first + s_count) / 14 * 14)) o2)))))
set_option maxHeartbeats 4000000 in
set_option maxRecDepth 100000 in
theorem ctX0_remember (l : Launch) (G : GG) (h0 : Nat) (h_a1 : Nat) (ad : Nat → Nat) (ra_before : Nat → Nat) (s_first : Int32) (s_count : Int32) (s_a1_people : Int32) (s_a1_kinds : Int32) (s_a1_deeds : Int32) (s_a1_feeding : Int64) (s_a1_large : Int32) (s_a1_dead : Int32) (s_a1_dayNumber : Int32) (p_before : Nat → St) (out : Int32 × Int32 × (Nat → St)) (hf : fX0_remember s_first s_count s_a1_people s_a1_kinds s_a1_deeds s_a1_feeding s_a1_large s_a1_dead s_a1_dayNumber p_before = some out) : Met l yX0_remember wsX0_remember ({ frames := 1, cells := 0, slots := 0, locals := 21 }) (PcW G [.ref h0, .ref h_a1] ([(h0, acE ad s_first s_count), (ad 0, aO G 14 (fun j => some (ra_before j))), (h_a1, stE s_a1_people s_a1_kinds s_a1_deeds s_a1_feeding s_a1_large s_a1_dead s_a1_dayNumber)] ++ plist ra_before p_before 14)) (QvW G ([(h0, acE ad s_first s_count), (ad 0, aO G 14 (fun j => some (ra_before j))), (h_a1, stE s_a1_people s_a1_kinds s_a1_deeds s_a1_feeding s_a1_large s_a1_dead s_a1_dayNumber)] ++ plist ra_before p_before 14) ([(h0, acE ad out.1 out.2.1), (ad 0, aO G 14 (fun j => some (ra_before j))), (h_a1, stE s_a1_people s_a1_kinds s_a1_deeds s_a1_feeding s_a1_large s_a1_dead s_a1_dayNumber)] ++ plist ra_before out.2.2 14)) 0 0 (inA ([(h0, acE ad s_first s_count), (ad 0, aO G 14 (fun j => some (ra_before j))), (h_a1, stE s_a1_people s_a1_kinds s_a1_deeds s_a1_feeding s_a1_large s_a1_dead s_a1_dayNumber)] ++ plist ra_before p_before 14)) := by
  refine mk_Wv (cc := cX0_remember) (maxL := 2) (by decide) rfl (Nat.le_of_ble_eq_true rfl) ?_
  intro p e s m args below meth c Q ls A S hP hK hD hl hret
  obtain ⟨hx, hb, hml, hown, hts⟩ := S
  have hown : s.vm.findClass RX0 = some m.cls := hown
  have kl_11 := hts (.fieldLink RX0 11 "ArrestOrder$Acts" "before" "[LArrestOrder$Standing;") (by decide +kernel)
  have hi_X0 : ∀ w ∈ wsX00, w ∈ wsX0_remember := fun _ h => List.mem_cons_of_mem _ (List.mem_append_left _ (List.mem_append_right _ h))
  have kl_18 := hts (.fieldLink RX0 18 "ArrestOrder$Acts" "first" "I") (by decide +kernel)
  have kl_22 := hts (.fieldLink RX0 22 "ArrestOrder$Acts" "count" "I") (by decide +kernel)
  have hS : va_S A s.heap s.heap [] := va_S.rf
  have hl : lv_has ls 2 [(0, .ref h0), (1, .ref h_a1)] := hl
  refine lv_aload_n hx hb dX0_remember_0 rfl (lv_at hl 0 rfl) ?_
  refine va_get (D := gD G) (ci := 0) (v := .ref (ad 0)) (C := RX0) (T := TX0) (N := 3) hx hb hts hi_X0 hown hK.1 hP 0 rfl rfl 0 (by decide) kl_11 (fun _ h9 => h9) rfl dX0_remember_1 ?_
  refine lv_aload_n hx hb dX0_remember_4 rfl (lv_at hl 0 rfl) ?_
  refine va_get (D := gD G) (ci := 0) (v := .int s_first) (C := RX0) (T := TX0) (N := 3) hx hb hts hi_X0 hown hK.1 hP 0 rfl rfl 1 (by decide) kl_18 (fun _ h9 => h9) rfl dX0_remember_5 ?_
  refine lv_aload_n hx hb dX0_remember_8 rfl (lv_at hl 0 rfl) ?_
  refine va_get (D := gD G) (ci := 0) (v := .int s_count) (C := RX0) (T := TX0) (N := 3) hx hb hts hi_X0 hown hK.1 hP 0 rfl rfl 2 (by decide) kl_22 (fun _ h9 => h9) rfl dX0_remember_9 ?_
  refine lv_iadd hx hb dX0_remember_12 ?_
  refine lv_bipush (v := 14) hx hb dX0_remember_13 (by decide) ?_
  refine lv_irem hx hb dX0_remember_15 (by decide) ?_
  obtain ⟨hi1, hf⟩ := ckS hf
  refine va_aldq hx hb hK.1 hP 1 3 rfl rfl hi1 dX0_remember_16 ?_
  refine W.eq (g2 := F0 m 17 ls [.ref (ra_before (Int32.toNatClampNeg ((s_first + s_count) - (s_first + s_count) / 14 * 14)))]) rfl ?_
  refine lv_aload_n hx hb dX0_remember_17 rfl (lv_at hl 1 rfl) ?_
  obtain ⟨o2, hc3, hf⟩ := bindS hf
  obtain ⟨hp41, hp42, hp43, hp44⟩ := pl_two hP hD (j := 2) (vp_lt hi1) rfl
  refine rw_pT (Int32.toNatClampNeg ((s_first + s_count) - (s_first + s_count) / 14 * 14)) 2 (o := o2) (va_runVN (C := RX1) (As := [.ref h_a1]) (rest := []) ⟨hx, hb, hml, hown, hts⟩ (ctX1_copy l G (ra_before (Int32.toNatClampNeg ((s_first + s_count) - (s_first + s_count) / 14 * 14))) h_a1 ((p_before (Int32.toNatClampNeg ((s_first + s_count) - (s_first + s_count) / 14 * 14))).1) ((p_before (Int32.toNatClampNeg ((s_first + s_count) - (s_first + s_count) / 14 * 14))).2.1) ((p_before (Int32.toNatClampNeg ((s_first + s_count) - (s_first + s_count) / 14 * 14))).2.2.1) ((p_before (Int32.toNatClampNeg ((s_first + s_count) - (s_first + s_count) / 14 * 14))).2.2.2.1) ((p_before (Int32.toNatClampNeg ((s_first + s_count) - (s_first + s_count) / 14 * 14))).2.2.2.2.1) ((p_before (Int32.toNatClampNeg ((s_first + s_count) - (s_first + s_count) / 14 * 14))).2.2.2.2.2.1) ((p_before (Int32.toNatClampNeg ((s_first + s_count) - (s_first + s_count) / 14 * 14))).2.2.2.2.2.2) s_a1_people s_a1_kinds s_a1_deeds s_a1_feeding s_a1_large s_a1_dead s_a1_dayNumber o2 hc3) ⟨va_cnB 1 hts gX0_remember_X1_copy_n25 rfl rfl rfl (nm_X0_25 hK.2) (hts (.initialized RX1) (by decide +kernel)) (by decide +kernel) ⟨Nat.le_of_ble_eq_true rfl, Nat.le_of_ble_eq_true rfl⟩, hts (.instanceMethod yX1_copy) (by decide +kernel), hts (.selects RX1 yX1_copy yX1_copy) (by decide +kernel)⟩ (preW_V (q0 := 0) (ci := 1) hp41 hp42 hK rfl rfl) rfl rfl hl.1 rfl (lv_room (Nat.le_of_ble_eq_true rfl)) dX0_remember_18 ⟨Nat.zero_le _, Nat.zero_le _⟩) hS hP hD (vp_lt hi1) rfl rfl (fun H locs hP hD hS => ?_)
  have hP : va_P (gD G) vwCl ([(h0, acE ad s_first s_count), (ad 0, aO G 14 (fun j => some (ra_before j))), (h_a1, stE s_a1_people s_a1_kinds s_a1_deeds s_a1_feeding s_a1_large s_a1_dead s_a1_dayNumber)] ++ plist ra_before (va_up p_before (Int32.toNatClampNeg ((s_first + s_count) - (s_first + s_count) / 14 * 14)) o2) 14) H := hP
  have hD : va_D A ([(h0, acE ad s_first s_count), (ad 0, aO G 14 (fun j => some (ra_before j))), (h_a1, stE s_a1_people s_a1_kinds s_a1_deeds s_a1_feeding s_a1_large s_a1_dead s_a1_dayNumber)] ++ plist ra_before (va_up p_before (Int32.toNatClampNeg ((s_first + s_count) - (s_first + s_count) / 14 * 14)) o2) 14) := hD
  refine lv_aload_n hx hb dX0_remember_21 rfl (lv_at hl 0 rfl) ?_
  refine va_get (D := gD G) (ci := 0) (v := .int s_count) (C := RX0) (T := TX0) (N := 3) hx hb hts hi_X0 hown hK.1 hP 0 rfl rfl 2 (by decide) kl_22 (fun _ h9 => h9) rfl dX0_remember_22 ?_
  refine lv_bipush (v := 14) hx hb dX0_remember_25 (by decide) ?_
  refine lv_icmp_ge (tgt := 43) hx hb dX0_remember_27 (by decide) (fun c5 => ?_) (fun c5 => ?_)
  · have hf := iteT hf c5
    refine lv_aload_n hx hb dX0_remember_43 rfl (lv_at hl 0 rfl) ?_
    refine lv_aload_n hx hb dX0_remember_44 rfl (lv_at hl 0 rfl) ?_
    refine va_get (D := gD G) (ci := 0) (v := .int s_first) (C := RX0) (T := TX0) (N := 3) hx hb hts hi_X0 hown hK.1 hP 0 rfl rfl 1 (by decide) kl_18 (fun _ h9 => h9) rfl dX0_remember_45 ?_
    refine lv_iconst (v := 1) hx hb dX0_remember_48 (by decide) ?_
    refine lv_iadd hx hb dX0_remember_49 ?_
    refine lv_bipush (v := 14) hx hb dX0_remember_50 (by decide) ?_
    refine lv_irem hx hb dX0_remember_52 (by decide) ?_
    refine va_put (D := gD G) (ci := 0) (v := .int ((s_first + 1) - (s_first + 1) / 14 * 14)) (ty := .int) (C := RX0) (T := TX0) (N := 3) hx hb hts hi_X0 tyX0 tyX0_ok nmX0 hown hK.1 hP hD hS 0 rfl rfl 1 (by decide) kl_18 (fun _ h9 => h9) rfl (tyX0_ok 1 (by decide)) rfl rfl (Nat.le_of_ble_eq_true rfl) dX0_remember_53 (fun H locs hP hD hS => ?_)
    have hP : va_P (gD G) vwCl ([(h0, acE ad ((s_first + 1) - (s_first + 1) / 14 * 14) s_count), (ad 0, aO G 14 (fun j => some (ra_before j))), (h_a1, stE s_a1_people s_a1_kinds s_a1_deeds s_a1_feeding s_a1_large s_a1_dead s_a1_dayNumber)] ++ plist ra_before (va_up p_before (Int32.toNatClampNeg ((s_first + s_count) - (s_first + s_count) / 14 * 14)) o2) 14) H := hP
    have hD : va_D A ([(h0, acE ad ((s_first + 1) - (s_first + 1) / 14 * 14) s_count), (ad 0, aO G 14 (fun j => some (ra_before j))), (h_a1, stE s_a1_people s_a1_kinds s_a1_deeds s_a1_feeding s_a1_large s_a1_dead s_a1_dayNumber)] ++ plist ra_before (va_up p_before (Int32.toNatClampNeg ((s_first + s_count) - (s_first + s_count) / 14 * 14)) o2) 14) := hD
    have hv := Option.some.inj hf
    exact hret _ _ _ _ (by rw [← hv]; exact hP) hS dX0_remember_56
  · have hf := iteF hf c5
    refine lv_aload_n hx hb dX0_remember_30 rfl (lv_at hl 0 rfl) ?_
    refine lv_dup hx hb dX0_remember_31 rfl ?_
    refine va_get (D := gD G) (ci := 0) (v := .int s_count) (C := RX0) (T := TX0) (N := 3) hx hb hts hi_X0 hown hK.1 hP 0 rfl rfl 2 (by decide) kl_22 (fun _ h9 => h9) rfl dX0_remember_32 ?_
    refine lv_iconst (v := 1) hx hb dX0_remember_35 (by decide) ?_
    refine lv_iadd hx hb dX0_remember_36 ?_
    refine va_put (D := gD G) (ci := 0) (v := .int (s_count + 1)) (ty := .int) (C := RX0) (T := TX0) (N := 3) hx hb hts hi_X0 tyX0 tyX0_ok nmX0 hown hK.1 hP hD hS 0 rfl rfl 2 (by decide) kl_22 (fun _ h9 => h9) rfl (tyX0_ok 2 (by decide)) rfl rfl (Nat.le_of_ble_eq_true rfl) dX0_remember_37 (fun H locs hP hD hS => ?_)
    have hP : va_P (gD G) vwCl ([(h0, acE ad s_first (s_count + 1)), (ad 0, aO G 14 (fun j => some (ra_before j))), (h_a1, stE s_a1_people s_a1_kinds s_a1_deeds s_a1_feeding s_a1_large s_a1_dead s_a1_dayNumber)] ++ plist ra_before (va_up p_before (Int32.toNatClampNeg ((s_first + s_count) - (s_first + s_count) / 14 * 14)) o2) 14) H := hP
    have hD : va_D A ([(h0, acE ad s_first (s_count + 1)), (ad 0, aO G 14 (fun j => some (ra_before j))), (h_a1, stE s_a1_people s_a1_kinds s_a1_deeds s_a1_feeding s_a1_large s_a1_dead s_a1_dayNumber)] ++ plist ra_before (va_up p_before (Int32.toNatClampNeg ((s_first + s_count) - (s_first + s_count) / 14 * 14)) o2) 14) := hD
    refine lv_goto (tgt := 56) hx hb dX0_remember_40 (by decide) ?_
    have hv := Option.some.inj hf
    exact hret _ _ _ _ (by rw [← hv]; exact hP) hS dX0_remember_56
def fX0_takeBackInto (s_first : Int32) (s_count : Int32) (s_a1_people : Int32) (s_a1_kinds : Int32) (s_a1_deeds : Int32) (s_a1_feeding : Int64) (s_a1_large : Int32) (s_a1_dead : Int32) (s_a1_dayNumber : Int32) (p_before : Nat → St) : Option (Int32 × Int32 × Int32 × Int32 × Int32 × Int64 × Int32 × Int32 × Int32) :=
  (if s_count = 0 then some (0, s_count, s_a1_people, s_a1_kinds, s_a1_deeds, s_a1_feeding, s_a1_large, s_a1_dead, s_a1_dayNumber) else ck ((s_first + (s_count - 1)) - (s_first + (s_count - 1)) / 14 * 14) 14 ((fX1_copy s_a1_people s_a1_kinds s_a1_deeds s_a1_feeding s_a1_large s_a1_dead s_a1_dayNumber ((p_before (Int32.toNatClampNeg ((s_first + (s_count - 1)) - (s_first + (s_count - 1)) / 14 * 14))).1) ((p_before (Int32.toNatClampNeg ((s_first + (s_count - 1)) - (s_first + (s_count - 1)) / 14 * 14))).2.1) ((p_before (Int32.toNatClampNeg ((s_first + (s_count - 1)) - (s_first + (s_count - 1)) / 14 * 14))).2.2.1) ((p_before (Int32.toNatClampNeg ((s_first + (s_count - 1)) - (s_first + (s_count - 1)) / 14 * 14))).2.2.2.1) ((p_before (Int32.toNatClampNeg ((s_first + (s_count - 1)) - (s_first + (s_count - 1)) / 14 * 14))).2.2.2.2.1) ((p_before (Int32.toNatClampNeg ((s_first + (s_count - 1)) - (s_first + (s_count - 1)) / 14 * 14))).2.2.2.2.2.1) ((p_before (Int32.toNatClampNeg ((s_first + (s_count - 1)) - (s_first + (s_count - 1)) / 14 * 14))).2.2.2.2.2.2)).bind fun o3 => (some (1, (s_count - 1), o3.1, o3.2.1, o3.2.2.1, o3.2.2.2.1, o3.2.2.2.2.1, o3.2.2.2.2.2.1, o3.2.2.2.2.2.2))))
set_option maxHeartbeats 4000000 in
set_option maxRecDepth 100000 in
theorem ctX0_takeBackInto (l : Launch) (G : GG) (h0 : Nat) (h_a1 : Nat) (ad : Nat → Nat) (ra_before : Nat → Nat) (s_first : Int32) (s_count : Int32) (s_a1_people : Int32) (s_a1_kinds : Int32) (s_a1_deeds : Int32) (s_a1_feeding : Int64) (s_a1_large : Int32) (s_a1_dead : Int32) (s_a1_dayNumber : Int32) (p_before : Nat → St) (out : Int32 × Int32 × Int32 × Int32 × Int32 × Int64 × Int32 × Int32 × Int32) (hf : fX0_takeBackInto s_first s_count s_a1_people s_a1_kinds s_a1_deeds s_a1_feeding s_a1_large s_a1_dead s_a1_dayNumber p_before = some out) : Met l yX0_takeBackInto wsX0_takeBackInto ({ frames := 1, cells := 0, slots := 0, locals := 21 }) (PcW G [.ref h0, .ref h_a1] ([(h0, acE ad s_first s_count), (ad 0, aO G 14 (fun j => some (ra_before j))), (h_a1, stE s_a1_people s_a1_kinds s_a1_deeds s_a1_feeding s_a1_large s_a1_dead s_a1_dayNumber)] ++ plist ra_before p_before 14)) (QiW G ([(h0, acE ad s_first s_count), (ad 0, aO G 14 (fun j => some (ra_before j))), (h_a1, stE s_a1_people s_a1_kinds s_a1_deeds s_a1_feeding s_a1_large s_a1_dead s_a1_dayNumber)] ++ plist ra_before p_before 14) ([(h0, acE ad s_first out.2.1), (ad 0, aO G 14 (fun j => some (ra_before j))), (h_a1, stE out.2.2.1 out.2.2.2.1 out.2.2.2.2.1 out.2.2.2.2.2.1 out.2.2.2.2.2.2.1 out.2.2.2.2.2.2.2.1 out.2.2.2.2.2.2.2.2)] ++ plist ra_before p_before 14) out.1) 0 0 (inA ([(h0, acE ad s_first s_count), (ad 0, aO G 14 (fun j => some (ra_before j))), (h_a1, stE s_a1_people s_a1_kinds s_a1_deeds s_a1_feeding s_a1_large s_a1_dead s_a1_dayNumber)] ++ plist ra_before p_before 14)) := by
  refine mk_Wz (cc := cX0_takeBackInto) (maxL := 2) (by decide) rfl (Nat.le_of_ble_eq_true rfl) ?_
  intro p e s m args below meth c Q ls A S hP hK hD hl hret
  obtain ⟨hx, hb, hml, hown, hts⟩ := S
  have hown : s.vm.findClass RX0 = some m.cls := hown
  have kl_22 := hts (.fieldLink RX0 22 "ArrestOrder$Acts" "count" "I") (by decide +kernel)
  have hi_X0 : ∀ w ∈ wsX00, w ∈ wsX0_takeBackInto := fun _ h => List.mem_cons_of_mem _ (List.mem_append_left _ (List.mem_append_right _ h))
  have kl_11 := hts (.fieldLink RX0 11 "ArrestOrder$Acts" "before" "[LArrestOrder$Standing;") (by decide +kernel)
  have kl_18 := hts (.fieldLink RX0 18 "ArrestOrder$Acts" "first" "I") (by decide +kernel)
  have hS : va_S A s.heap s.heap [] := va_S.rf
  have hl : lv_has ls 2 [(0, .ref h0), (1, .ref h_a1)] := hl
  refine lv_aload_n hx hb dX0_takeBackInto_0 rfl (lv_at hl 0 rfl) ?_
  refine va_get (D := gD G) (ci := 0) (v := .int s_count) (C := RX0) (T := TX0) (N := 3) hx hb hts hi_X0 hown hK.1 hP 0 rfl rfl 2 (by decide) kl_22 (fun _ h9 => h9) rfl dX0_takeBackInto_1 ?_
  refine lv_if_ne (tgt := 9) hx hb dX0_takeBackInto_4 (by decide) (fun c1 => ?_) (fun c1 => ?_)
  · have hf := iteF hf c1
    refine lv_aload_n hx hb dX0_takeBackInto_9 rfl (lv_at hl 0 rfl) ?_
    refine lv_dup hx hb dX0_takeBackInto_10 rfl ?_
    refine va_get (D := gD G) (ci := 0) (v := .int s_count) (C := RX0) (T := TX0) (N := 3) hx hb hts hi_X0 hown hK.1 hP 0 rfl rfl 2 (by decide) kl_22 (fun _ h9 => h9) rfl dX0_takeBackInto_11 ?_
    refine lv_iconst (v := 1) hx hb dX0_takeBackInto_14 (by decide) ?_
    refine lv_isub hx hb dX0_takeBackInto_15 ?_
    refine va_put (D := gD G) (ci := 0) (v := .int (s_count - 1)) (ty := .int) (C := RX0) (T := TX0) (N := 3) hx hb hts hi_X0 tyX0 tyX0_ok nmX0 hown hK.1 hP hD hS 0 rfl rfl 2 (by decide) kl_22 (fun _ h9 => h9) rfl (tyX0_ok 2 (by decide)) rfl rfl (Nat.le_of_ble_eq_true rfl) dX0_takeBackInto_16 (fun H locs hP hD hS => ?_)
    have hP : va_P (gD G) vwCl ([(h0, acE ad s_first (s_count - 1)), (ad 0, aO G 14 (fun j => some (ra_before j))), (h_a1, stE s_a1_people s_a1_kinds s_a1_deeds s_a1_feeding s_a1_large s_a1_dead s_a1_dayNumber)] ++ plist ra_before p_before 14) H := hP
    have hD : va_D A ([(h0, acE ad s_first (s_count - 1)), (ad 0, aO G 14 (fun j => some (ra_before j))), (h_a1, stE s_a1_people s_a1_kinds s_a1_deeds s_a1_feeding s_a1_large s_a1_dead s_a1_dayNumber)] ++ plist ra_before p_before 14) := hD
    refine lv_aload_n hx hb dX0_takeBackInto_19 rfl (lv_at hl 1 rfl) ?_
    refine lv_aload_n hx hb dX0_takeBackInto_20 rfl (lv_at hl 0 rfl) ?_
    refine va_get (D := gD G) (ci := 0) (v := .ref (ad 0)) (C := RX0) (T := TX0) (N := 3) hx hb hts hi_X0 hown hK.1 hP 0 rfl rfl 0 (by decide) kl_11 (fun _ h9 => h9) rfl dX0_takeBackInto_21 ?_
    refine lv_aload_n hx hb dX0_takeBackInto_24 rfl (lv_at hl 0 rfl) ?_
    refine va_get (D := gD G) (ci := 0) (v := .int s_first) (C := RX0) (T := TX0) (N := 3) hx hb hts hi_X0 hown hK.1 hP 0 rfl rfl 1 (by decide) kl_18 (fun _ h9 => h9) rfl dX0_takeBackInto_25 ?_
    refine lv_aload_n hx hb dX0_takeBackInto_28 rfl (lv_at hl 0 rfl) ?_
    refine va_get (D := gD G) (ci := 0) (v := .int (s_count - 1)) (C := RX0) (T := TX0) (N := 3) hx hb hts hi_X0 hown hK.1 hP 0 rfl rfl 2 (by decide) kl_22 (fun _ h9 => h9) rfl dX0_takeBackInto_29 ?_
    refine lv_iadd hx hb dX0_takeBackInto_32 ?_
    refine lv_bipush (v := 14) hx hb dX0_takeBackInto_33 (by decide) ?_
    refine lv_irem hx hb dX0_takeBackInto_35 (by decide) ?_
    obtain ⟨hi2, hf⟩ := ckS hf
    refine va_aldq hx hb hK.1 hP 1 3 rfl rfl hi2 dX0_takeBackInto_36 ?_
    refine W.eq (g2 := F0 m 37 ls [.ref (ra_before (Int32.toNatClampNeg ((s_first + (s_count - 1)) - (s_first + (s_count - 1)) / 14 * 14))), .ref h_a1]) rfl ?_
    obtain ⟨o3, hc4, hf⟩ := bindS hf
    obtain ⟨hp51, hp52, hp53, hp54⟩ := pl_two hP hD (j := 2) (vp_lt hi2) rfl
    refine rw_pF (Int32.toNatClampNeg ((s_first + (s_count - 1)) - (s_first + (s_count - 1)) / 14 * 14)) 2 (va_runVN (C := RX1) (As := [.ref (ra_before (Int32.toNatClampNeg ((s_first + (s_count - 1)) - (s_first + (s_count - 1)) / 14 * 14)))]) (rest := []) ⟨hx, hb, hml, hown, hts⟩ (ctX1_copy l G h_a1 (ra_before (Int32.toNatClampNeg ((s_first + (s_count - 1)) - (s_first + (s_count - 1)) / 14 * 14))) s_a1_people s_a1_kinds s_a1_deeds s_a1_feeding s_a1_large s_a1_dead s_a1_dayNumber ((p_before (Int32.toNatClampNeg ((s_first + (s_count - 1)) - (s_first + (s_count - 1)) / 14 * 14))).1) ((p_before (Int32.toNatClampNeg ((s_first + (s_count - 1)) - (s_first + (s_count - 1)) / 14 * 14))).2.1) ((p_before (Int32.toNatClampNeg ((s_first + (s_count - 1)) - (s_first + (s_count - 1)) / 14 * 14))).2.2.1) ((p_before (Int32.toNatClampNeg ((s_first + (s_count - 1)) - (s_first + (s_count - 1)) / 14 * 14))).2.2.2.1) ((p_before (Int32.toNatClampNeg ((s_first + (s_count - 1)) - (s_first + (s_count - 1)) / 14 * 14))).2.2.2.2.1) ((p_before (Int32.toNatClampNeg ((s_first + (s_count - 1)) - (s_first + (s_count - 1)) / 14 * 14))).2.2.2.2.2.1) ((p_before (Int32.toNatClampNeg ((s_first + (s_count - 1)) - (s_first + (s_count - 1)) / 14 * 14))).2.2.2.2.2.2) o3 hc4) ⟨va_cnB 1 hts gX0_takeBackInto_X1_copy_n25 rfl rfl rfl (nm_X0_25 hK.2) (hts (.initialized RX1) (by decide +kernel)) (by decide +kernel) ⟨Nat.le_of_ble_eq_true rfl, Nat.le_of_ble_eq_true rfl⟩, hts (.instanceMethod yX1_copy) (by decide +kernel), hts (.selects RX1 yX1_copy yX1_copy) (by decide +kernel)⟩ (preW_V (q0 := 0) (ci := 1) hp53 hp54 hK rfl rfl) rfl rfl hl.1 rfl (lv_room (Nat.le_of_ble_eq_true rfl)) dX0_takeBackInto_37 ⟨Nat.zero_le _, Nat.zero_le _⟩) hS hP hD (vp_lt hi2) rfl rfl (fun H locs hP hD hS => ?_)
    have hP : va_P (gD G) vwCl ([(h0, acE ad s_first (s_count - 1)), (ad 0, aO G 14 (fun j => some (ra_before j))), (h_a1, stE o3.1 o3.2.1 o3.2.2.1 o3.2.2.2.1 o3.2.2.2.2.1 o3.2.2.2.2.2.1 o3.2.2.2.2.2.2)] ++ plist ra_before p_before 14) H := hP
    have hD : va_D A ([(h0, acE ad s_first (s_count - 1)), (ad 0, aO G 14 (fun j => some (ra_before j))), (h_a1, stE o3.1 o3.2.1 o3.2.2.1 o3.2.2.2.1 o3.2.2.2.2.1 o3.2.2.2.2.2.1 o3.2.2.2.2.2.2)] ++ plist ra_before p_before 14) := hD
    refine lv_iconst (v := 1) hx hb dX0_takeBackInto_40 (by decide) ?_
    have hv := Option.some.inj hf
    exact hret _ _ _ _ _ (by rw [← hv]; exact hP) hS rfl (by rw [← hv]) dX0_takeBackInto_41
  · have hf := iteT hf c1
    refine lv_iconst (v := 0) hx hb dX0_takeBackInto_7 (by decide) ?_
    have hv := Option.some.inj hf
    exact hret _ _ _ _ _ (by rw [← hv]; exact hP) hS rfl (by rw [← hv]) dX0_takeBackInto_8
def fX3_take (s_now_people : Int32) (s_now_kinds : Int32) (s_now_deeds : Int32) (s_now_feeding : Int64) (s_now_large : Int32) (s_now_dead : Int32) (s_now_dayNumber : Int32) (s_acts_first : Int32) (s_acts_count : Int32) (p_acts_before : Nat → St) (a1 : Int32) : Option (Int32 × Int32 × Int32 × Int32 × (Nat → St)) :=
  (fX1_has s_now_people a1).bind fun o1 => ((if o1 = 0 then some ((-1), s_now_large, s_acts_first, s_acts_count, p_acts_before) else (fX1_mayBeTaken s_now_people s_now_kinds s_now_deeds s_now_feeding s_now_large).bind fun o4 => ((fX3_isIn o4 a1).bind fun o6 => ((if o6 = 0 then some ((-3), s_now_large, s_acts_first, s_acts_count, p_acts_before) else (fX0_remember s_acts_first s_acts_count s_now_people s_now_kinds s_now_deeds s_now_feeding s_now_large s_now_dead s_now_dayNumber p_acts_before).bind fun o9 => ((fX3_without s_now_large a1).bind fun o11 => ((fJ6_bitCount_0f7a4 o11).bind fun o13 => (some (o13, o11, o9.1, o9.2.1, o9.2.2)))))))))
set_option maxHeartbeats 4000000 in
set_option maxRecDepth 100000 in
theorem ctX3_take (l : Launch) (G : GG) (h0 : Nat) (ad : Nat → Nat) (ad_acts : Nat → Nat) (ra_acts_before : Nat → Nat) (s_keptSlots : Int32) (s_seenCount : Int32) (s_seed : Int64) (s_now_people : Int32) (s_now_kinds : Int32) (s_now_deeds : Int32) (s_now_feeding : Int64) (s_now_large : Int32) (s_now_dead : Int32) (s_now_dayNumber : Int32) (s_acts_first : Int32) (s_acts_count : Int32) (p_acts_before : Nat → St) (a1 : Int32) (out : Int32 × Int32 × Int32 × Int32 × (Nat → St)) (hf : fX3_take s_now_people s_now_kinds s_now_deeds s_now_feeding s_now_large s_now_dead s_now_dayNumber s_acts_first s_acts_count p_acts_before a1 = some out) : Met l yX3_take wsX3_take ({ frames := 3, cells := 0, slots := 0, locals := 69 }) (PcW G [.ref h0, .int a1] ([(h0, xoE ad s_keptSlots s_seenCount s_seed), (ad 1, stE s_now_people s_now_kinds s_now_deeds s_now_feeding s_now_large s_now_dead s_now_dayNumber), (ad 3, acE ad_acts s_acts_first s_acts_count), (ad_acts 0, aO G 14 (fun j => some (ra_acts_before j)))] ++ plist ra_acts_before p_acts_before 14)) (QiW G ([(h0, xoE ad s_keptSlots s_seenCount s_seed), (ad 1, stE s_now_people s_now_kinds s_now_deeds s_now_feeding s_now_large s_now_dead s_now_dayNumber), (ad 3, acE ad_acts s_acts_first s_acts_count), (ad_acts 0, aO G 14 (fun j => some (ra_acts_before j)))] ++ plist ra_acts_before p_acts_before 14) ([(h0, xoE ad s_keptSlots s_seenCount s_seed), (ad 1, stE s_now_people s_now_kinds s_now_deeds s_now_feeding out.2.1 s_now_dead s_now_dayNumber), (ad 3, acE ad_acts out.2.2.1 out.2.2.2.1), (ad_acts 0, aO G 14 (fun j => some (ra_acts_before j)))] ++ plist ra_acts_before out.2.2.2.2 14) out.1) 0 0 (inA ([(h0, xoE ad s_keptSlots s_seenCount s_seed), (ad 1, stE s_now_people s_now_kinds s_now_deeds s_now_feeding s_now_large s_now_dead s_now_dayNumber), (ad 3, acE ad_acts s_acts_first s_acts_count), (ad_acts 0, aO G 14 (fun j => some (ra_acts_before j)))] ++ plist ra_acts_before p_acts_before 14)) := by
  refine mk_Wi (cc := cX3_take) (maxL := 2) (by decide) rfl (Nat.le_of_ble_eq_true rfl) ?_
  intro p e s m args below meth c Q ls A S hP hK hD hl hret
  obtain ⟨hx, hb, hml, hown, hts⟩ := S
  have hown : s.vm.findClass RX3 = some m.cls := hown
  have kl_19 := hts (.fieldLink RX3 19 "ArrestOrder" "now" "LArrestOrder$Standing;") (by decide +kernel)
  have hi_X3 : ∀ w ∈ wsX30, w ∈ wsX3_take := fun _ h => List.mem_cons_of_mem _ (List.mem_append_left _ (List.mem_append_left _ (List.mem_append_right _ h)))
  have hi_X1 : ∀ w ∈ wsX10, w ∈ wsX3_take := fun _ h => List.mem_cons_of_mem _ (List.mem_append_left _ (List.mem_append_right _ h))
  have kl_29 := hts (.fieldLink RX3 29 "ArrestOrder" "acts" "LArrestOrder$Acts;") (by decide +kernel)
  have hS : va_S A s.heap s.heap [] := va_S.rf
  have hl : lv_has ls 2 [(0, .ref h0), (1, .int a1)] := hl
  refine lv_aload_n hx hb dX3_take_0 rfl (lv_at hl 0 rfl) ?_
  refine va_get (D := gD G) (ci := 3) (v := .ref (ad 1)) (C := RX3) (T := TX3) (N := 11) hx hb hts hi_X3 hown hK.1 hP 0 rfl rfl 1 (by decide) kl_19 (fun _ h9 => h9) rfl dX3_take_1 ?_
  refine lv_iload_n hx hb dX3_take_4 rfl (lv_at hl 1 rfl) ?_
  obtain ⟨o1, hc2, hf⟩ := bindS hf
  refine ro_i (va_runVN (C := RX1) (As := [.int a1]) (rest := []) ⟨hx, hb, hml, hown, hts⟩ (ctX1_has l G (ad 1) s_now_people s_now_kinds s_now_deeds s_now_feeding s_now_large s_now_dead s_now_dayNumber a1 o1 hc2) ⟨va_cnB 1 hts gX3_take_X1_has_n92 rfl rfl rfl (nm_X3_92 hK.2) (hts (.initialized RX1) (by decide +kernel)) (by decide +kernel) ⟨Nat.le_of_ble_eq_true rfl, Nat.le_of_ble_eq_true rfl⟩, hts (.instanceMethod yX1_has) (by decide +kernel), hts (.selects RX1 yX1_has yX1_has) (by decide +kernel)⟩ (preR_V (q0 := 0) (ci := 1) (hP.sub (ws' := [(ad 1, stE s_now_people s_now_kinds s_now_deeds s_now_feeding s_now_large s_now_dead s_now_dayNumber)]) [1] rfl) hK rfl rfl) rfl rfl hl.1 rfl (lv_room (Nat.le_of_ble_eq_true rfl)) dX3_take_5 ⟨Nat.zero_le _, Nat.zero_le _⟩) hS hP (fun H locs hP hS => ?_)
  refine lv_if_ne (tgt := 13) hx hb dX3_take_8 (by decide) (fun c3 => ?_) (fun c3 => ?_)
  · have hf := iteF hf c3
    refine lv_aload_n hx hb dX3_take_13 rfl (lv_at hl 0 rfl) ?_
    refine va_get (D := gD G) (ci := 3) (v := .ref (ad 1)) (C := RX3) (T := TX3) (N := 11) hx hb hts hi_X3 hown hK.1 hP 0 rfl rfl 1 (by decide) kl_19 (fun _ h9 => h9) rfl dX3_take_14 ?_
    refine lv_aload_n hx hb dX3_take_17 rfl (lv_at hl 0 rfl) ?_
    refine va_get (D := gD G) (ci := 3) (v := .ref (ad 1)) (C := RX3) (T := TX3) (N := 11) hx hb hts hi_X3 hown hK.1 hP 0 rfl rfl 1 (by decide) kl_19 (fun _ h9 => h9) rfl dX3_take_18 ?_
    refine va_getN (D := gD G) (ci := 1) (v := .int s_now_large) (C := RX1) (T := TX1) (N := 7) hx hb hts hi_X1 hown hK.1 hP 1 rfl rfl 4 (by decide) (nf_X3_72 hK.2) (fun _ h9 => h9) rfl dX3_take_21 ?_
    obtain ⟨o4, hc5, hf⟩ := bindS hf
    refine ro_i (va_runVN (C := RX1) (As := [.int s_now_large]) (rest := []) ⟨hx, hb, hml, hown, hts⟩ (ctX1_mayBeTaken l G (ad 1) s_now_people s_now_kinds s_now_deeds s_now_feeding s_now_large s_now_dead s_now_dayNumber s_now_large o4 hc5) ⟨va_cnB 1 hts gX3_take_X1_mayBeTaken_n75 rfl rfl rfl (nm_X3_75 hK.2) (hts (.initialized RX1) (by decide +kernel)) (by decide +kernel) ⟨Nat.le_of_ble_eq_true rfl, Nat.le_of_ble_eq_true rfl⟩, hts (.instanceMethod yX1_mayBeTaken) (by decide +kernel), hts (.selects RX1 yX1_mayBeTaken yX1_mayBeTaken) (by decide +kernel)⟩ (preR_V (q0 := 0) (ci := 1) (hP.sub (ws' := [(ad 1, stE s_now_people s_now_kinds s_now_deeds s_now_feeding s_now_large s_now_dead s_now_dayNumber)]) [1] rfl) hK rfl rfl) rfl rfl hl.1 rfl (lv_room (Nat.le_of_ble_eq_true rfl)) dX3_take_24 ⟨Nat.zero_le _, Nat.zero_le _⟩) hS hP (fun H locs hP hS => ?_)
    refine lv_iload_n hx hb dX3_take_27 rfl (lv_at hl 1 rfl) ?_
    obtain ⟨o6, hc7, hf⟩ := bindS hf
    refine ro_i (va_runS (As := [.int o4, .int a1]) (rest := []) ⟨hx, hb, hml, hown, hts⟩ (ctX3_isIn l G o4 a1 o6 hc7) (va_cwS 2 hts gX3_take_X3_isIn rfl rfl rfl (by decide +kernel) ⟨Nat.le_of_ble_eq_true rfl, Nat.le_of_ble_eq_true rfl⟩) (preR_S (hP.sub (ws' := []) [] rfl) hK) rfl rfl hl.1 rfl (lv_room (Nat.le_of_ble_eq_true rfl)) dX3_take_28 ⟨Nat.zero_le _, Nat.zero_le _⟩) hS hP (fun H locs hP hS => ?_)
    refine lv_if_ne (tgt := 37) hx hb dX3_take_31 (by decide) (fun c8 => ?_) (fun c8 => ?_)
    · have hf := iteF hf c8
      refine lv_aload_n hx hb dX3_take_37 rfl (lv_at hl 0 rfl) ?_
      refine va_get (D := gD G) (ci := 3) (v := .ref (ad 3)) (C := RX3) (T := TX3) (N := 11) hx hb hts hi_X3 hown hK.1 hP 0 rfl rfl 3 (by decide) kl_29 (fun _ h9 => h9) rfl dX3_take_38 ?_
      refine lv_aload_n hx hb dX3_take_41 rfl (lv_at hl 0 rfl) ?_
      refine va_get (D := gD G) (ci := 3) (v := .ref (ad 1)) (C := RX3) (T := TX3) (N := 11) hx hb hts hi_X3 hown hK.1 hP 0 rfl rfl 1 (by decide) kl_19 (fun _ h9 => h9) rfl dX3_take_42 ?_
      obtain ⟨o9, hc10, hf⟩ := bindS hf
      refine rw_vT (va_runVN (C := RX0) (As := [.ref (ad 1)]) (rest := []) ⟨hx, hb, hml, hown, hts⟩ (ctX0_remember l G (ad 3) (ad 1) ad_acts ra_acts_before s_acts_first s_acts_count s_now_people s_now_kinds s_now_deeds s_now_feeding s_now_large s_now_dead s_now_dayNumber p_acts_before o9 hc10) ⟨va_cnB 1 hts gX3_take_X0_remember_n111 rfl rfl rfl (nm_X3_111 hK.2) (hts (.initialized RX0) (by decide +kernel)) (by decide +kernel) ⟨Nat.le_of_ble_eq_true rfl, Nat.le_of_ble_eq_true rfl⟩, hts (.instanceMethod yX0_remember) (by decide +kernel), hts (.selects RX0 yX0_remember yX0_remember) (by decide +kernel)⟩ (preW_V (q0 := 0) (ci := 0) (P_tsub (Y := [(ad 3, acE ad_acts s_acts_first s_acts_count), (ad_acts 0, aO G 14 (fun j => some (ra_acts_before j))), (ad 1, stE s_now_people s_now_kinds s_now_deeds s_now_feeding s_now_large s_now_dead s_now_dayNumber)]) hP [2, 3, 1] rfl) (D_tsub (Y := [(ad 3, acE ad_acts s_acts_first s_acts_count), (ad_acts 0, aO G 14 (fun j => some (ra_acts_before j))), (ad 1, stE s_now_people s_now_kinds s_now_deeds s_now_feeding s_now_large s_now_dead s_now_dayNumber)]) hD [2, 3, 1] (by decide) rfl) hK rfl rfl) rfl rfl hl.1 rfl (lv_room (Nat.le_of_ble_eq_true rfl)) dX3_take_45 ⟨Nat.zero_le _, Nat.zero_le _⟩) hS hP hD [2, 3, 1] rfl rfl rfl plist_addr (fun H locs hP hD hS => ?_)
      have hP : va_P (gD G) vwCl ([(h0, xoE ad s_keptSlots s_seenCount s_seed), (ad 1, stE s_now_people s_now_kinds s_now_deeds s_now_feeding s_now_large s_now_dead s_now_dayNumber), (ad 3, acE ad_acts o9.1 o9.2.1), (ad_acts 0, aO G 14 (fun j => some (ra_acts_before j)))] ++ plist ra_acts_before o9.2.2 14) H := hP
      have hD : va_D A ([(h0, xoE ad s_keptSlots s_seenCount s_seed), (ad 1, stE s_now_people s_now_kinds s_now_deeds s_now_feeding s_now_large s_now_dead s_now_dayNumber), (ad 3, acE ad_acts o9.1 o9.2.1), (ad_acts 0, aO G 14 (fun j => some (ra_acts_before j)))] ++ plist ra_acts_before o9.2.2 14) := hD
      refine lv_aload_n hx hb dX3_take_48 rfl (lv_at hl 0 rfl) ?_
      refine va_get (D := gD G) (ci := 3) (v := .ref (ad 1)) (C := RX3) (T := TX3) (N := 11) hx hb hts hi_X3 hown hK.1 hP 0 rfl rfl 1 (by decide) kl_19 (fun _ h9 => h9) rfl dX3_take_49 ?_
      refine lv_aload_n hx hb dX3_take_52 rfl (lv_at hl 0 rfl) ?_
      refine va_get (D := gD G) (ci := 3) (v := .ref (ad 1)) (C := RX3) (T := TX3) (N := 11) hx hb hts hi_X3 hown hK.1 hP 0 rfl rfl 1 (by decide) kl_19 (fun _ h9 => h9) rfl dX3_take_53 ?_
      refine va_getN (D := gD G) (ci := 1) (v := .int s_now_large) (C := RX1) (T := TX1) (N := 7) hx hb hts hi_X1 hown hK.1 hP 1 rfl rfl 4 (by decide) (nf_X3_72 hK.2) (fun _ h9 => h9) rfl dX3_take_56 ?_
      refine lv_iload_n hx hb dX3_take_59 rfl (lv_at hl 1 rfl) ?_
      obtain ⟨o11, hc12, hf⟩ := bindS hf
      refine ro_i (va_runS (As := [.int s_now_large, .int a1]) (rest := [.ref (ad 1)]) ⟨hx, hb, hml, hown, hts⟩ (ctX3_without l G s_now_large a1 o11 hc12) (va_cwS 2 hts gX3_take_X3_without rfl rfl rfl (by decide +kernel) ⟨Nat.le_of_ble_eq_true rfl, Nat.le_of_ble_eq_true rfl⟩) (preR_S (hP.sub (ws' := []) [] rfl) hK) rfl rfl hl.1 rfl (lv_room (Nat.le_of_ble_eq_true rfl)) dX3_take_60 ⟨Nat.zero_le _, Nat.zero_le _⟩) hS hP (fun H locs hP hS => ?_)
      refine va_putN (D := gD G) (ci := 1) (v := .int o11) (ty := .int) (C := RX1) (T := TX1) (N := 7) hx hb hts hi_X1 tyX1 tyX1_ok nmX1 hown hK.1 hP hD hS 1 rfl rfl 4 (by decide) (nf_X3_72 hK.2) (fun _ h9 => h9) rfl (tyX1_ok 4 (by decide)) rfl rfl (Nat.le_of_ble_eq_true rfl) dX3_take_63 (fun H locs hP hD hS => ?_)
      have hP : va_P (gD G) vwCl ([(h0, xoE ad s_keptSlots s_seenCount s_seed), (ad 1, stE s_now_people s_now_kinds s_now_deeds s_now_feeding o11 s_now_dead s_now_dayNumber), (ad 3, acE ad_acts o9.1 o9.2.1), (ad_acts 0, aO G 14 (fun j => some (ra_acts_before j)))] ++ plist ra_acts_before o9.2.2 14) H := hP
      have hD : va_D A ([(h0, xoE ad s_keptSlots s_seenCount s_seed), (ad 1, stE s_now_people s_now_kinds s_now_deeds s_now_feeding o11 s_now_dead s_now_dayNumber), (ad 3, acE ad_acts o9.1 o9.2.1), (ad_acts 0, aO G 14 (fun j => some (ra_acts_before j)))] ++ plist ra_acts_before o9.2.2 14) := hD
      refine lv_aload_n hx hb dX3_take_66 rfl (lv_at hl 0 rfl) ?_
      refine va_get (D := gD G) (ci := 3) (v := .ref (ad 1)) (C := RX3) (T := TX3) (N := 11) hx hb hts hi_X3 hown hK.1 hP 0 rfl rfl 1 (by decide) kl_19 (fun _ h9 => h9) rfl dX3_take_67 ?_
      refine va_getN (D := gD G) (ci := 1) (v := .int o11) (C := RX1) (T := TX1) (N := 7) hx hb hts hi_X1 hown hK.1 hP 1 rfl rfl 4 (by decide) (nf_X3_72 hK.2) (fun _ h9 => h9) rfl dX3_take_70 ?_
      obtain ⟨o13, hc14, hf⟩ := bindS hf
      refine ro_i (va_runS (As := [.int o11]) (rest := []) ⟨hx, hb, hml, hown, hts⟩ (ctJ6_bitCount_0f7a4 l G o11 o13 hc14) (va_cwS 1 hts gX3_take_J6_bitCount_0f7a4 rfl rfl rfl (by decide +kernel) ⟨Nat.le_of_ble_eq_true rfl, Nat.le_of_ble_eq_true rfl⟩) (preR_S (hP.sub (ws' := []) [] rfl) hK) rfl rfl hl.1 rfl (lv_room (Nat.le_of_ble_eq_true rfl)) dX3_take_73 ⟨Nat.zero_le _, Nat.zero_le _⟩) hS hP (fun H locs hP hS => ?_)
      have hv := Option.some.inj hf
      exact hret _ _ _ _ _ (by rw [← hv]; exact hP) hS (by rw [← hv]) dX3_take_76
    · have hf := iteT hf c8
      refine lv_bipush (v := (-3)) hx hb dX3_take_34 (by decide) ?_
      have hv := Option.some.inj hf
      exact hret _ _ _ _ _ (by rw [← hv]; exact hP) hS (by rw [← hv]) dX3_take_36
  · have hf := iteT hf c3
    refine lv_iconst (v := (-1)) hx hb dX3_take_11 (by decide) ?_
    have hv := Option.some.inj hf
    exact hret _ _ _ _ _ (by rw [← hv]; exact hP) hS (by rw [← hv]) dX3_take_12
def fX3_free (s_now_people : Int32) (s_now_kinds : Int32) (s_now_deeds : Int32) (s_now_feeding : Int64) (s_now_large : Int32) (s_now_dead : Int32) (s_now_dayNumber : Int32) (s_acts_first : Int32) (s_acts_count : Int32) (p_acts_before : Nat → St) (a1 : Int32) : Option (Int32 × Int32 × Int32 × Int32 × (Nat → St)) :=
  (fX1_has s_now_people a1).bind fun o1 => ((if o1 = 0 then some ((-1), s_now_large, s_acts_first, s_acts_count, p_acts_before) else (fX3_isIn (s_now_large ||| s_now_dead) a1).bind fun o4 => ((if o4 = 0 then (fX0_remember s_acts_first s_acts_count s_now_people s_now_kinds s_now_deeds s_now_feeding s_now_large s_now_dead s_now_dayNumber p_acts_before).bind fun o7 => ((fX3_bit a1).bind fun o9 => ((fJ6_bitCount_0f7a4 (s_now_large ||| o9)).bind fun o11 => (some (o11, (s_now_large ||| o9), o7.1, o7.2.1, o7.2.2)))) else some ((-3), s_now_large, s_acts_first, s_acts_count, p_acts_before)))))
set_option maxHeartbeats 4000000 in
set_option maxRecDepth 100000 in
theorem ctX3_free (l : Launch) (G : GG) (h0 : Nat) (ad : Nat → Nat) (ad_acts : Nat → Nat) (ra_acts_before : Nat → Nat) (s_keptSlots : Int32) (s_seenCount : Int32) (s_seed : Int64) (s_now_people : Int32) (s_now_kinds : Int32) (s_now_deeds : Int32) (s_now_feeding : Int64) (s_now_large : Int32) (s_now_dead : Int32) (s_now_dayNumber : Int32) (s_acts_first : Int32) (s_acts_count : Int32) (p_acts_before : Nat → St) (a1 : Int32) (out : Int32 × Int32 × Int32 × Int32 × (Nat → St)) (hf : fX3_free s_now_people s_now_kinds s_now_deeds s_now_feeding s_now_large s_now_dead s_now_dayNumber s_acts_first s_acts_count p_acts_before a1 = some out) : Met l yX3_free wsX3_free ({ frames := 2, cells := 0, slots := 0, locals := 42 }) (PcW G [.ref h0, .int a1] ([(h0, xoE ad s_keptSlots s_seenCount s_seed), (ad 1, stE s_now_people s_now_kinds s_now_deeds s_now_feeding s_now_large s_now_dead s_now_dayNumber), (ad 3, acE ad_acts s_acts_first s_acts_count), (ad_acts 0, aO G 14 (fun j => some (ra_acts_before j)))] ++ plist ra_acts_before p_acts_before 14)) (QiW G ([(h0, xoE ad s_keptSlots s_seenCount s_seed), (ad 1, stE s_now_people s_now_kinds s_now_deeds s_now_feeding s_now_large s_now_dead s_now_dayNumber), (ad 3, acE ad_acts s_acts_first s_acts_count), (ad_acts 0, aO G 14 (fun j => some (ra_acts_before j)))] ++ plist ra_acts_before p_acts_before 14) ([(h0, xoE ad s_keptSlots s_seenCount s_seed), (ad 1, stE s_now_people s_now_kinds s_now_deeds s_now_feeding out.2.1 s_now_dead s_now_dayNumber), (ad 3, acE ad_acts out.2.2.1 out.2.2.2.1), (ad_acts 0, aO G 14 (fun j => some (ra_acts_before j)))] ++ plist ra_acts_before out.2.2.2.2 14) out.1) 0 0 (inA ([(h0, xoE ad s_keptSlots s_seenCount s_seed), (ad 1, stE s_now_people s_now_kinds s_now_deeds s_now_feeding s_now_large s_now_dead s_now_dayNumber), (ad 3, acE ad_acts s_acts_first s_acts_count), (ad_acts 0, aO G 14 (fun j => some (ra_acts_before j)))] ++ plist ra_acts_before p_acts_before 14)) := by
  refine mk_Wi (cc := cX3_free) (maxL := 2) (by decide) rfl (Nat.le_of_ble_eq_true rfl) ?_
  intro p e s m args below meth c Q ls A S hP hK hD hl hret
  obtain ⟨hx, hb, hml, hown, hts⟩ := S
  have hown : s.vm.findClass RX3 = some m.cls := hown
  have kl_19 := hts (.fieldLink RX3 19 "ArrestOrder" "now" "LArrestOrder$Standing;") (by decide +kernel)
  have hi_X3 : ∀ w ∈ wsX30, w ∈ wsX3_free := fun _ h => List.mem_cons_of_mem _ (List.mem_append_left _ (List.mem_append_left _ (List.mem_append_right _ h)))
  have hi_X1 : ∀ w ∈ wsX10, w ∈ wsX3_free := fun _ h => List.mem_cons_of_mem _ (List.mem_append_left _ (List.mem_append_right _ h))
  have kl_29 := hts (.fieldLink RX3 29 "ArrestOrder" "acts" "LArrestOrder$Acts;") (by decide +kernel)
  have hS : va_S A s.heap s.heap [] := va_S.rf
  have hl : lv_has ls 2 [(0, .ref h0), (1, .int a1)] := hl
  refine lv_aload_n hx hb dX3_free_0 rfl (lv_at hl 0 rfl) ?_
  refine va_get (D := gD G) (ci := 3) (v := .ref (ad 1)) (C := RX3) (T := TX3) (N := 11) hx hb hts hi_X3 hown hK.1 hP 0 rfl rfl 1 (by decide) kl_19 (fun _ h9 => h9) rfl dX3_free_1 ?_
  refine lv_iload_n hx hb dX3_free_4 rfl (lv_at hl 1 rfl) ?_
  obtain ⟨o1, hc2, hf⟩ := bindS hf
  refine ro_i (va_runVN (C := RX1) (As := [.int a1]) (rest := []) ⟨hx, hb, hml, hown, hts⟩ (ctX1_has l G (ad 1) s_now_people s_now_kinds s_now_deeds s_now_feeding s_now_large s_now_dead s_now_dayNumber a1 o1 hc2) ⟨va_cnB 1 hts gX3_free_X1_has_n92 rfl rfl rfl (nm_X3_92 hK.2) (hts (.initialized RX1) (by decide +kernel)) (by decide +kernel) ⟨Nat.le_of_ble_eq_true rfl, Nat.le_of_ble_eq_true rfl⟩, hts (.instanceMethod yX1_has) (by decide +kernel), hts (.selects RX1 yX1_has yX1_has) (by decide +kernel)⟩ (preR_V (q0 := 0) (ci := 1) (hP.sub (ws' := [(ad 1, stE s_now_people s_now_kinds s_now_deeds s_now_feeding s_now_large s_now_dead s_now_dayNumber)]) [1] rfl) hK rfl rfl) rfl rfl hl.1 rfl (lv_room (Nat.le_of_ble_eq_true rfl)) dX3_free_5 ⟨Nat.zero_le _, Nat.zero_le _⟩) hS hP (fun H locs hP hS => ?_)
  refine lv_if_ne (tgt := 13) hx hb dX3_free_8 (by decide) (fun c3 => ?_) (fun c3 => ?_)
  · have hf := iteF hf c3
    refine lv_aload_n hx hb dX3_free_13 rfl (lv_at hl 0 rfl) ?_
    refine va_get (D := gD G) (ci := 3) (v := .ref (ad 1)) (C := RX3) (T := TX3) (N := 11) hx hb hts hi_X3 hown hK.1 hP 0 rfl rfl 1 (by decide) kl_19 (fun _ h9 => h9) rfl dX3_free_14 ?_
    refine va_getN (D := gD G) (ci := 1) (v := .int s_now_large) (C := RX1) (T := TX1) (N := 7) hx hb hts hi_X1 hown hK.1 hP 1 rfl rfl 4 (by decide) (nf_X3_72 hK.2) (fun _ h9 => h9) rfl dX3_free_17 ?_
    refine lv_aload_n hx hb dX3_free_20 rfl (lv_at hl 0 rfl) ?_
    refine va_get (D := gD G) (ci := 3) (v := .ref (ad 1)) (C := RX3) (T := TX3) (N := 11) hx hb hts hi_X3 hown hK.1 hP 0 rfl rfl 1 (by decide) kl_19 (fun _ h9 => h9) rfl dX3_free_21 ?_
    refine va_getN (D := gD G) (ci := 1) (v := .int s_now_dead) (C := RX1) (T := TX1) (N := 7) hx hb hts hi_X1 hown hK.1 hP 1 rfl rfl 5 (by decide) (nf_X3_83 hK.2) (fun _ h9 => h9) rfl dX3_free_24 ?_
    refine lv_ior hx hb dX3_free_27 ?_
    refine lv_iload_n hx hb dX3_free_28 rfl (lv_at hl 1 rfl) ?_
    obtain ⟨o4, hc5, hf⟩ := bindS hf
    refine ro_i (va_runS (As := [.int (s_now_large ||| s_now_dead), .int a1]) (rest := []) ⟨hx, hb, hml, hown, hts⟩ (ctX3_isIn l G (s_now_large ||| s_now_dead) a1 o4 hc5) (va_cwS 2 hts gX3_free_X3_isIn rfl rfl rfl (by decide +kernel) ⟨Nat.le_of_ble_eq_true rfl, Nat.le_of_ble_eq_true rfl⟩) (preR_S (hP.sub (ws' := []) [] rfl) hK) rfl rfl hl.1 rfl (lv_room (Nat.le_of_ble_eq_true rfl)) dX3_free_29 ⟨Nat.zero_le _, Nat.zero_le _⟩) hS hP (fun H locs hP hS => ?_)
    refine lv_if_eq (tgt := 38) hx hb dX3_free_32 (by decide) (fun c6 => ?_) (fun c6 => ?_)
    · have hf := iteT hf c6
      refine lv_aload_n hx hb dX3_free_38 rfl (lv_at hl 0 rfl) ?_
      refine va_get (D := gD G) (ci := 3) (v := .ref (ad 3)) (C := RX3) (T := TX3) (N := 11) hx hb hts hi_X3 hown hK.1 hP 0 rfl rfl 3 (by decide) kl_29 (fun _ h9 => h9) rfl dX3_free_39 ?_
      refine lv_aload_n hx hb dX3_free_42 rfl (lv_at hl 0 rfl) ?_
      refine va_get (D := gD G) (ci := 3) (v := .ref (ad 1)) (C := RX3) (T := TX3) (N := 11) hx hb hts hi_X3 hown hK.1 hP 0 rfl rfl 1 (by decide) kl_19 (fun _ h9 => h9) rfl dX3_free_43 ?_
      obtain ⟨o7, hc8, hf⟩ := bindS hf
      refine rw_vT (va_runVN (C := RX0) (As := [.ref (ad 1)]) (rest := []) ⟨hx, hb, hml, hown, hts⟩ (ctX0_remember l G (ad 3) (ad 1) ad_acts ra_acts_before s_acts_first s_acts_count s_now_people s_now_kinds s_now_deeds s_now_feeding s_now_large s_now_dead s_now_dayNumber p_acts_before o7 hc8) ⟨va_cnB 1 hts gX3_free_X0_remember_n111 rfl rfl rfl (nm_X3_111 hK.2) (hts (.initialized RX0) (by decide +kernel)) (by decide +kernel) ⟨Nat.le_of_ble_eq_true rfl, Nat.le_of_ble_eq_true rfl⟩, hts (.instanceMethod yX0_remember) (by decide +kernel), hts (.selects RX0 yX0_remember yX0_remember) (by decide +kernel)⟩ (preW_V (q0 := 0) (ci := 0) (P_tsub (Y := [(ad 3, acE ad_acts s_acts_first s_acts_count), (ad_acts 0, aO G 14 (fun j => some (ra_acts_before j))), (ad 1, stE s_now_people s_now_kinds s_now_deeds s_now_feeding s_now_large s_now_dead s_now_dayNumber)]) hP [2, 3, 1] rfl) (D_tsub (Y := [(ad 3, acE ad_acts s_acts_first s_acts_count), (ad_acts 0, aO G 14 (fun j => some (ra_acts_before j))), (ad 1, stE s_now_people s_now_kinds s_now_deeds s_now_feeding s_now_large s_now_dead s_now_dayNumber)]) hD [2, 3, 1] (by decide) rfl) hK rfl rfl) rfl rfl hl.1 rfl (lv_room (Nat.le_of_ble_eq_true rfl)) dX3_free_46 ⟨Nat.zero_le _, Nat.zero_le _⟩) hS hP hD [2, 3, 1] rfl rfl rfl plist_addr (fun H locs hP hD hS => ?_)
      have hP : va_P (gD G) vwCl ([(h0, xoE ad s_keptSlots s_seenCount s_seed), (ad 1, stE s_now_people s_now_kinds s_now_deeds s_now_feeding s_now_large s_now_dead s_now_dayNumber), (ad 3, acE ad_acts o7.1 o7.2.1), (ad_acts 0, aO G 14 (fun j => some (ra_acts_before j)))] ++ plist ra_acts_before o7.2.2 14) H := hP
      have hD : va_D A ([(h0, xoE ad s_keptSlots s_seenCount s_seed), (ad 1, stE s_now_people s_now_kinds s_now_deeds s_now_feeding s_now_large s_now_dead s_now_dayNumber), (ad 3, acE ad_acts o7.1 o7.2.1), (ad_acts 0, aO G 14 (fun j => some (ra_acts_before j)))] ++ plist ra_acts_before o7.2.2 14) := hD
      refine lv_aload_n hx hb dX3_free_49 rfl (lv_at hl 0 rfl) ?_
      refine va_get (D := gD G) (ci := 3) (v := .ref (ad 1)) (C := RX3) (T := TX3) (N := 11) hx hb hts hi_X3 hown hK.1 hP 0 rfl rfl 1 (by decide) kl_19 (fun _ h9 => h9) rfl dX3_free_50 ?_
      refine lv_dup hx hb dX3_free_53 rfl ?_
      refine va_getN (D := gD G) (ci := 1) (v := .int s_now_large) (C := RX1) (T := TX1) (N := 7) hx hb hts hi_X1 hown hK.1 hP 1 rfl rfl 4 (by decide) (nf_X3_72 hK.2) (fun _ h9 => h9) rfl dX3_free_54 ?_
      refine lv_iload_n hx hb dX3_free_57 rfl (lv_at hl 1 rfl) ?_
      obtain ⟨o9, hc10, hf⟩ := bindS hf
      refine ro_i (va_runS (As := [.int a1]) (rest := [.int s_now_large, .ref (ad 1)]) ⟨hx, hb, hml, hown, hts⟩ (ctX3_bit l G a1 o9 hc10) (va_cwS 1 hts gX3_free_X3_bit rfl rfl rfl (by decide +kernel) ⟨Nat.le_of_ble_eq_true rfl, Nat.le_of_ble_eq_true rfl⟩) (preR_S (hP.sub (ws' := []) [] rfl) hK) rfl rfl hl.1 rfl (lv_room (Nat.le_of_ble_eq_true rfl)) dX3_free_58 ⟨Nat.zero_le _, Nat.zero_le _⟩) hS hP (fun H locs hP hS => ?_)
      refine lv_ior hx hb dX3_free_61 ?_
      refine va_putN (D := gD G) (ci := 1) (v := .int (s_now_large ||| o9)) (ty := .int) (C := RX1) (T := TX1) (N := 7) hx hb hts hi_X1 tyX1 tyX1_ok nmX1 hown hK.1 hP hD hS 1 rfl rfl 4 (by decide) (nf_X3_72 hK.2) (fun _ h9 => h9) rfl (tyX1_ok 4 (by decide)) rfl rfl (Nat.le_of_ble_eq_true rfl) dX3_free_62 (fun H locs hP hD hS => ?_)
      have hP : va_P (gD G) vwCl ([(h0, xoE ad s_keptSlots s_seenCount s_seed), (ad 1, stE s_now_people s_now_kinds s_now_deeds s_now_feeding (s_now_large ||| o9) s_now_dead s_now_dayNumber), (ad 3, acE ad_acts o7.1 o7.2.1), (ad_acts 0, aO G 14 (fun j => some (ra_acts_before j)))] ++ plist ra_acts_before o7.2.2 14) H := hP
      have hD : va_D A ([(h0, xoE ad s_keptSlots s_seenCount s_seed), (ad 1, stE s_now_people s_now_kinds s_now_deeds s_now_feeding (s_now_large ||| o9) s_now_dead s_now_dayNumber), (ad 3, acE ad_acts o7.1 o7.2.1), (ad_acts 0, aO G 14 (fun j => some (ra_acts_before j)))] ++ plist ra_acts_before o7.2.2 14) := hD
      refine lv_aload_n hx hb dX3_free_65 rfl (lv_at hl 0 rfl) ?_
      refine va_get (D := gD G) (ci := 3) (v := .ref (ad 1)) (C := RX3) (T := TX3) (N := 11) hx hb hts hi_X3 hown hK.1 hP 0 rfl rfl 1 (by decide) kl_19 (fun _ h9 => h9) rfl dX3_free_66 ?_
      refine va_getN (D := gD G) (ci := 1) (v := .int (s_now_large ||| o9)) (C := RX1) (T := TX1) (N := 7) hx hb hts hi_X1 hown hK.1 hP 1 rfl rfl 4 (by decide) (nf_X3_72 hK.2) (fun _ h9 => h9) rfl dX3_free_69 ?_
      obtain ⟨o11, hc12, hf⟩ := bindS hf
      refine ro_i (va_runS (As := [.int (s_now_large ||| o9)]) (rest := []) ⟨hx, hb, hml, hown, hts⟩ (ctJ6_bitCount_0f7a4 l G (s_now_large ||| o9) o11 hc12) (va_cwS 1 hts gX3_free_J6_bitCount_0f7a4 rfl rfl rfl (by decide +kernel) ⟨Nat.le_of_ble_eq_true rfl, Nat.le_of_ble_eq_true rfl⟩) (preR_S (hP.sub (ws' := []) [] rfl) hK) rfl rfl hl.1 rfl (lv_room (Nat.le_of_ble_eq_true rfl)) dX3_free_72 ⟨Nat.zero_le _, Nat.zero_le _⟩) hS hP (fun H locs hP hS => ?_)
      have hv := Option.some.inj hf
      exact hret _ _ _ _ _ (by rw [← hv]; exact hP) hS (by rw [← hv]) dX3_free_75
    · have hf := iteF hf c6
      refine lv_bipush (v := (-3)) hx hb dX3_free_35 (by decide) ?_
      have hv := Option.some.inj hf
      exact hret _ _ _ _ _ (by rw [← hv]; exact hP) hS (by rw [← hv]) dX3_free_37
  · have hf := iteT hf c3
    refine lv_iconst (v := (-1)) hx hb dX3_free_11 (by decide) ?_
    have hv := Option.some.inj hf
    exact hret _ _ _ _ _ (by rw [← hv]; exact hP) hS (by rw [← hv]) dX3_free_12
def fX3_die (s_now_people : Int32) (s_now_kinds : Int32) (s_now_deeds : Int32) (s_now_feeding : Int64) (s_now_large : Int32) (s_now_dead : Int32) (s_now_dayNumber : Int32) (s_acts_first : Int32) (s_acts_count : Int32) (p_acts_before : Nat → St) (a1 : Int32) : Option (Int32 × Int32 × Int32 × Int32 × Int32 × (Nat → St)) :=
  (fX1_has s_now_people a1).bind fun o1 => ((if o1 = 0 then some ((-1), s_now_large, s_now_dead, s_acts_first, s_acts_count, p_acts_before) else (fX3_isIn s_now_dead a1).bind fun o4 => ((if o4 = 0 then (fX0_remember s_acts_first s_acts_count s_now_people s_now_kinds s_now_deeds s_now_feeding s_now_large s_now_dead s_now_dayNumber p_acts_before).bind fun o7 => ((fX1_bury s_now_large s_now_dead a1).bind fun o9 => ((fJ6_bitCount_0f7a4 o9.1).bind fun o11 => (some (o11, o9.1, o9.2, o7.1, o7.2.1, o7.2.2)))) else some ((-3), s_now_large, s_now_dead, s_acts_first, s_acts_count, p_acts_before)))))
set_option maxHeartbeats 4000000 in
set_option maxRecDepth 100000 in
theorem ctX3_die (l : Launch) (G : GG) (h0 : Nat) (ad : Nat → Nat) (ad_acts : Nat → Nat) (ra_acts_before : Nat → Nat) (s_keptSlots : Int32) (s_seenCount : Int32) (s_seed : Int64) (s_now_people : Int32) (s_now_kinds : Int32) (s_now_deeds : Int32) (s_now_feeding : Int64) (s_now_large : Int32) (s_now_dead : Int32) (s_now_dayNumber : Int32) (s_acts_first : Int32) (s_acts_count : Int32) (p_acts_before : Nat → St) (a1 : Int32) (out : Int32 × Int32 × Int32 × Int32 × Int32 × (Nat → St)) (hf : fX3_die s_now_people s_now_kinds s_now_deeds s_now_feeding s_now_large s_now_dead s_now_dayNumber s_acts_first s_acts_count p_acts_before a1 = some out) : Met l yX3_die wsX3_die ({ frames := 2, cells := 0, slots := 0, locals := 42 }) (PcW G [.ref h0, .int a1] ([(h0, xoE ad s_keptSlots s_seenCount s_seed), (ad 1, stE s_now_people s_now_kinds s_now_deeds s_now_feeding s_now_large s_now_dead s_now_dayNumber), (ad 3, acE ad_acts s_acts_first s_acts_count), (ad_acts 0, aO G 14 (fun j => some (ra_acts_before j)))] ++ plist ra_acts_before p_acts_before 14)) (QiW G ([(h0, xoE ad s_keptSlots s_seenCount s_seed), (ad 1, stE s_now_people s_now_kinds s_now_deeds s_now_feeding s_now_large s_now_dead s_now_dayNumber), (ad 3, acE ad_acts s_acts_first s_acts_count), (ad_acts 0, aO G 14 (fun j => some (ra_acts_before j)))] ++ plist ra_acts_before p_acts_before 14) ([(h0, xoE ad s_keptSlots s_seenCount s_seed), (ad 1, stE s_now_people s_now_kinds s_now_deeds s_now_feeding out.2.1 out.2.2.1 s_now_dayNumber), (ad 3, acE ad_acts out.2.2.2.1 out.2.2.2.2.1), (ad_acts 0, aO G 14 (fun j => some (ra_acts_before j)))] ++ plist ra_acts_before out.2.2.2.2.2 14) out.1) 0 0 (inA ([(h0, xoE ad s_keptSlots s_seenCount s_seed), (ad 1, stE s_now_people s_now_kinds s_now_deeds s_now_feeding s_now_large s_now_dead s_now_dayNumber), (ad 3, acE ad_acts s_acts_first s_acts_count), (ad_acts 0, aO G 14 (fun j => some (ra_acts_before j)))] ++ plist ra_acts_before p_acts_before 14)) := by
  refine mk_Wi (cc := cX3_die) (maxL := 2) (by decide) rfl (Nat.le_of_ble_eq_true rfl) ?_
  intro p e s m args below meth c Q ls A S hP hK hD hl hret
  obtain ⟨hx, hb, hml, hown, hts⟩ := S
  have hown : s.vm.findClass RX3 = some m.cls := hown
  have kl_19 := hts (.fieldLink RX3 19 "ArrestOrder" "now" "LArrestOrder$Standing;") (by decide +kernel)
  have hi_X3 : ∀ w ∈ wsX30, w ∈ wsX3_die := fun _ h => List.mem_cons_of_mem _ (List.mem_append_left _ (List.mem_append_left _ (List.mem_append_right _ h)))
  have hi_X1 : ∀ w ∈ wsX10, w ∈ wsX3_die := fun _ h => List.mem_cons_of_mem _ (List.mem_append_left _ (List.mem_append_right _ h))
  have kl_29 := hts (.fieldLink RX3 29 "ArrestOrder" "acts" "LArrestOrder$Acts;") (by decide +kernel)
  have hS : va_S A s.heap s.heap [] := va_S.rf
  have hl : lv_has ls 2 [(0, .ref h0), (1, .int a1)] := hl
  refine lv_aload_n hx hb dX3_die_0 rfl (lv_at hl 0 rfl) ?_
  refine va_get (D := gD G) (ci := 3) (v := .ref (ad 1)) (C := RX3) (T := TX3) (N := 11) hx hb hts hi_X3 hown hK.1 hP 0 rfl rfl 1 (by decide) kl_19 (fun _ h9 => h9) rfl dX3_die_1 ?_
  refine lv_iload_n hx hb dX3_die_4 rfl (lv_at hl 1 rfl) ?_
  obtain ⟨o1, hc2, hf⟩ := bindS hf
  refine ro_i (va_runVN (C := RX1) (As := [.int a1]) (rest := []) ⟨hx, hb, hml, hown, hts⟩ (ctX1_has l G (ad 1) s_now_people s_now_kinds s_now_deeds s_now_feeding s_now_large s_now_dead s_now_dayNumber a1 o1 hc2) ⟨va_cnB 1 hts gX3_die_X1_has_n92 rfl rfl rfl (nm_X3_92 hK.2) (hts (.initialized RX1) (by decide +kernel)) (by decide +kernel) ⟨Nat.le_of_ble_eq_true rfl, Nat.le_of_ble_eq_true rfl⟩, hts (.instanceMethod yX1_has) (by decide +kernel), hts (.selects RX1 yX1_has yX1_has) (by decide +kernel)⟩ (preR_V (q0 := 0) (ci := 1) (hP.sub (ws' := [(ad 1, stE s_now_people s_now_kinds s_now_deeds s_now_feeding s_now_large s_now_dead s_now_dayNumber)]) [1] rfl) hK rfl rfl) rfl rfl hl.1 rfl (lv_room (Nat.le_of_ble_eq_true rfl)) dX3_die_5 ⟨Nat.zero_le _, Nat.zero_le _⟩) hS hP (fun H locs hP hS => ?_)
  refine lv_if_ne (tgt := 13) hx hb dX3_die_8 (by decide) (fun c3 => ?_) (fun c3 => ?_)
  · have hf := iteF hf c3
    refine lv_aload_n hx hb dX3_die_13 rfl (lv_at hl 0 rfl) ?_
    refine va_get (D := gD G) (ci := 3) (v := .ref (ad 1)) (C := RX3) (T := TX3) (N := 11) hx hb hts hi_X3 hown hK.1 hP 0 rfl rfl 1 (by decide) kl_19 (fun _ h9 => h9) rfl dX3_die_14 ?_
    refine va_getN (D := gD G) (ci := 1) (v := .int s_now_dead) (C := RX1) (T := TX1) (N := 7) hx hb hts hi_X1 hown hK.1 hP 1 rfl rfl 5 (by decide) (nf_X3_83 hK.2) (fun _ h9 => h9) rfl dX3_die_17 ?_
    refine lv_iload_n hx hb dX3_die_20 rfl (lv_at hl 1 rfl) ?_
    obtain ⟨o4, hc5, hf⟩ := bindS hf
    refine ro_i (va_runS (As := [.int s_now_dead, .int a1]) (rest := []) ⟨hx, hb, hml, hown, hts⟩ (ctX3_isIn l G s_now_dead a1 o4 hc5) (va_cwS 2 hts gX3_die_X3_isIn rfl rfl rfl (by decide +kernel) ⟨Nat.le_of_ble_eq_true rfl, Nat.le_of_ble_eq_true rfl⟩) (preR_S (hP.sub (ws' := []) [] rfl) hK) rfl rfl hl.1 rfl (lv_room (Nat.le_of_ble_eq_true rfl)) dX3_die_21 ⟨Nat.zero_le _, Nat.zero_le _⟩) hS hP (fun H locs hP hS => ?_)
    refine lv_if_eq (tgt := 30) hx hb dX3_die_24 (by decide) (fun c6 => ?_) (fun c6 => ?_)
    · have hf := iteT hf c6
      refine lv_aload_n hx hb dX3_die_30 rfl (lv_at hl 0 rfl) ?_
      refine va_get (D := gD G) (ci := 3) (v := .ref (ad 3)) (C := RX3) (T := TX3) (N := 11) hx hb hts hi_X3 hown hK.1 hP 0 rfl rfl 3 (by decide) kl_29 (fun _ h9 => h9) rfl dX3_die_31 ?_
      refine lv_aload_n hx hb dX3_die_34 rfl (lv_at hl 0 rfl) ?_
      refine va_get (D := gD G) (ci := 3) (v := .ref (ad 1)) (C := RX3) (T := TX3) (N := 11) hx hb hts hi_X3 hown hK.1 hP 0 rfl rfl 1 (by decide) kl_19 (fun _ h9 => h9) rfl dX3_die_35 ?_
      obtain ⟨o7, hc8, hf⟩ := bindS hf
      refine rw_vT (va_runVN (C := RX0) (As := [.ref (ad 1)]) (rest := []) ⟨hx, hb, hml, hown, hts⟩ (ctX0_remember l G (ad 3) (ad 1) ad_acts ra_acts_before s_acts_first s_acts_count s_now_people s_now_kinds s_now_deeds s_now_feeding s_now_large s_now_dead s_now_dayNumber p_acts_before o7 hc8) ⟨va_cnB 1 hts gX3_die_X0_remember_n111 rfl rfl rfl (nm_X3_111 hK.2) (hts (.initialized RX0) (by decide +kernel)) (by decide +kernel) ⟨Nat.le_of_ble_eq_true rfl, Nat.le_of_ble_eq_true rfl⟩, hts (.instanceMethod yX0_remember) (by decide +kernel), hts (.selects RX0 yX0_remember yX0_remember) (by decide +kernel)⟩ (preW_V (q0 := 0) (ci := 0) (P_tsub (Y := [(ad 3, acE ad_acts s_acts_first s_acts_count), (ad_acts 0, aO G 14 (fun j => some (ra_acts_before j))), (ad 1, stE s_now_people s_now_kinds s_now_deeds s_now_feeding s_now_large s_now_dead s_now_dayNumber)]) hP [2, 3, 1] rfl) (D_tsub (Y := [(ad 3, acE ad_acts s_acts_first s_acts_count), (ad_acts 0, aO G 14 (fun j => some (ra_acts_before j))), (ad 1, stE s_now_people s_now_kinds s_now_deeds s_now_feeding s_now_large s_now_dead s_now_dayNumber)]) hD [2, 3, 1] (by decide) rfl) hK rfl rfl) rfl rfl hl.1 rfl (lv_room (Nat.le_of_ble_eq_true rfl)) dX3_die_38 ⟨Nat.zero_le _, Nat.zero_le _⟩) hS hP hD [2, 3, 1] rfl rfl rfl plist_addr (fun H locs hP hD hS => ?_)
      have hP : va_P (gD G) vwCl ([(h0, xoE ad s_keptSlots s_seenCount s_seed), (ad 1, stE s_now_people s_now_kinds s_now_deeds s_now_feeding s_now_large s_now_dead s_now_dayNumber), (ad 3, acE ad_acts o7.1 o7.2.1), (ad_acts 0, aO G 14 (fun j => some (ra_acts_before j)))] ++ plist ra_acts_before o7.2.2 14) H := hP
      have hD : va_D A ([(h0, xoE ad s_keptSlots s_seenCount s_seed), (ad 1, stE s_now_people s_now_kinds s_now_deeds s_now_feeding s_now_large s_now_dead s_now_dayNumber), (ad 3, acE ad_acts o7.1 o7.2.1), (ad_acts 0, aO G 14 (fun j => some (ra_acts_before j)))] ++ plist ra_acts_before o7.2.2 14) := hD
      refine lv_aload_n hx hb dX3_die_41 rfl (lv_at hl 0 rfl) ?_
      refine va_get (D := gD G) (ci := 3) (v := .ref (ad 1)) (C := RX3) (T := TX3) (N := 11) hx hb hts hi_X3 hown hK.1 hP 0 rfl rfl 1 (by decide) kl_19 (fun _ h9 => h9) rfl dX3_die_42 ?_
      refine lv_iload_n hx hb dX3_die_45 rfl (lv_at hl 1 rfl) ?_
      obtain ⟨o9, hc10, hf⟩ := bindS hf
      refine rw_v (va_runVN (C := RX1) (As := [.int a1]) (rest := []) ⟨hx, hb, hml, hown, hts⟩ (ctX1_bury l G (ad 1) s_now_people s_now_kinds s_now_deeds s_now_feeding s_now_large s_now_dead s_now_dayNumber a1 o9 hc10) ⟨va_cnB 1 hts gX3_die_X1_bury_n126 rfl rfl rfl (nm_X3_126 hK.2) (hts (.initialized RX1) (by decide +kernel)) (by decide +kernel) ⟨Nat.le_of_ble_eq_true rfl, Nat.le_of_ble_eq_true rfl⟩, hts (.instanceMethod yX1_bury) (by decide +kernel), hts (.selects RX1 yX1_bury yX1_bury) (by decide +kernel)⟩ (preW_V (q0 := 0) (ci := 1) (hP.sub (ws' := [(ad 1, stE s_now_people s_now_kinds s_now_deeds s_now_feeding s_now_large s_now_dead s_now_dayNumber)]) [1] rfl) (hD.sub (ws' := [(ad 1, stE s_now_people s_now_kinds s_now_deeds s_now_feeding s_now_large s_now_dead s_now_dayNumber)]) [1] (by decide) rfl) hK rfl rfl) rfl rfl hl.1 rfl (lv_room (Nat.le_of_ble_eq_true rfl)) dX3_die_46 ⟨Nat.zero_le _, Nat.zero_le _⟩) hS hP hD [1] rfl rfl rfl (fun H locs hP hD hS => ?_)
      have hP : va_P (gD G) vwCl ([(h0, xoE ad s_keptSlots s_seenCount s_seed), (ad 1, stE s_now_people s_now_kinds s_now_deeds s_now_feeding o9.1 o9.2 s_now_dayNumber), (ad 3, acE ad_acts o7.1 o7.2.1), (ad_acts 0, aO G 14 (fun j => some (ra_acts_before j)))] ++ plist ra_acts_before o7.2.2 14) H := hP
      have hD : va_D A ([(h0, xoE ad s_keptSlots s_seenCount s_seed), (ad 1, stE s_now_people s_now_kinds s_now_deeds s_now_feeding o9.1 o9.2 s_now_dayNumber), (ad 3, acE ad_acts o7.1 o7.2.1), (ad_acts 0, aO G 14 (fun j => some (ra_acts_before j)))] ++ plist ra_acts_before o7.2.2 14) := hD
      refine lv_aload_n hx hb dX3_die_49 rfl (lv_at hl 0 rfl) ?_
      refine va_get (D := gD G) (ci := 3) (v := .ref (ad 1)) (C := RX3) (T := TX3) (N := 11) hx hb hts hi_X3 hown hK.1 hP 0 rfl rfl 1 (by decide) kl_19 (fun _ h9 => h9) rfl dX3_die_50 ?_
      refine va_getN (D := gD G) (ci := 1) (v := .int o9.1) (C := RX1) (T := TX1) (N := 7) hx hb hts hi_X1 hown hK.1 hP 1 rfl rfl 4 (by decide) (nf_X3_72 hK.2) (fun _ h9 => h9) rfl dX3_die_53 ?_
      obtain ⟨o11, hc12, hf⟩ := bindS hf
      refine ro_i (va_runS (As := [.int o9.1]) (rest := []) ⟨hx, hb, hml, hown, hts⟩ (ctJ6_bitCount_0f7a4 l G o9.1 o11 hc12) (va_cwS 1 hts gX3_die_J6_bitCount_0f7a4 rfl rfl rfl (by decide +kernel) ⟨Nat.le_of_ble_eq_true rfl, Nat.le_of_ble_eq_true rfl⟩) (preR_S (hP.sub (ws' := []) [] rfl) hK) rfl rfl hl.1 rfl (lv_room (Nat.le_of_ble_eq_true rfl)) dX3_die_56 ⟨Nat.zero_le _, Nat.zero_le _⟩) hS hP (fun H locs hP hS => ?_)
      have hv := Option.some.inj hf
      exact hret _ _ _ _ _ (by rw [← hv]; exact hP) hS (by rw [← hv]) dX3_die_59
    · have hf := iteF hf c6
      refine lv_bipush (v := (-3)) hx hb dX3_die_27 (by decide) ?_
      have hv := Option.some.inj hf
      exact hret _ _ _ _ _ (by rw [← hv]; exact hP) hS (by rw [← hv]) dX3_die_29
  · have hf := iteT hf c3
    refine lv_iconst (v := (-1)) hx hb dX3_die_11 (by decide) ?_
    have hv := Option.some.inj hf
    exact hret _ _ _ _ _ (by rw [← hv]; exact hP) hS (by rw [← hv]) dX3_die_12
def fX3_feed (s_now_people : Int32) (s_now_kinds : Int32) (s_now_deeds : Int32) (s_now_feeding : Int64) (s_now_large : Int32) (s_now_dead : Int32) (s_now_dayNumber : Int32) (s_acts_first : Int32) (s_acts_count : Int32) (p_acts_before : Nat → St) (a1 : Int32) (a2 : Int32) : Option (Int32 × Int64 × Int32 × Int32 × (Nat → St)) :=
  (fX1_has s_now_people a1).bind fun o1 => ((if o1 = 0 then some ((-1), s_now_feeding, s_acts_first, s_acts_count, p_acts_before) else (fX1_has s_now_people a2).bind fun o4 => ((if o4 = 0 then some ((-1), s_now_feeding, s_acts_first, s_acts_count, p_acts_before) else (if a1 = a2 then some ((-2), s_now_feeding, s_acts_first, s_acts_count, p_acts_before) else (fX0_remember s_acts_first s_acts_count s_now_people s_now_kinds s_now_deeds s_now_feeding s_now_large s_now_dead s_now_dayNumber p_acts_before).bind fun o8 => ((fX3_pair a1 a2).bind fun o10 => ((fX1_feeds (s_now_feeding ^^^ o10) a1 a2).bind fun o12 => ((if o12 = 0 then some (0, (s_now_feeding ^^^ o10), o8.1, o8.2.1, o8.2.2) else some (1, (s_now_feeding ^^^ o10), o8.1, o8.2.1, o8.2.2))))))))))
set_option maxHeartbeats 4000000 in
set_option maxRecDepth 100000 in
theorem ctX3_feed (l : Launch) (G : GG) (h0 : Nat) (ad : Nat → Nat) (ad_acts : Nat → Nat) (ra_acts_before : Nat → Nat) (s_keptSlots : Int32) (s_seenCount : Int32) (s_seed : Int64) (s_now_people : Int32) (s_now_kinds : Int32) (s_now_deeds : Int32) (s_now_feeding : Int64) (s_now_large : Int32) (s_now_dead : Int32) (s_now_dayNumber : Int32) (s_acts_first : Int32) (s_acts_count : Int32) (p_acts_before : Nat → St) (a1 : Int32) (a2 : Int32) (out : Int32 × Int64 × Int32 × Int32 × (Nat → St)) (hf : fX3_feed s_now_people s_now_kinds s_now_deeds s_now_feeding s_now_large s_now_dead s_now_dayNumber s_acts_first s_acts_count p_acts_before a1 a2 = some out) : Met l yX3_feed wsX3_feed ({ frames := 2, cells := 0, slots := 0, locals := 43 }) (PcW G [.ref h0, .int a1, .int a2] ([(h0, xoE ad s_keptSlots s_seenCount s_seed), (ad 1, stE s_now_people s_now_kinds s_now_deeds s_now_feeding s_now_large s_now_dead s_now_dayNumber), (ad 3, acE ad_acts s_acts_first s_acts_count), (ad_acts 0, aO G 14 (fun j => some (ra_acts_before j)))] ++ plist ra_acts_before p_acts_before 14)) (QiW G ([(h0, xoE ad s_keptSlots s_seenCount s_seed), (ad 1, stE s_now_people s_now_kinds s_now_deeds s_now_feeding s_now_large s_now_dead s_now_dayNumber), (ad 3, acE ad_acts s_acts_first s_acts_count), (ad_acts 0, aO G 14 (fun j => some (ra_acts_before j)))] ++ plist ra_acts_before p_acts_before 14) ([(h0, xoE ad s_keptSlots s_seenCount s_seed), (ad 1, stE s_now_people s_now_kinds s_now_deeds out.2.1 s_now_large s_now_dead s_now_dayNumber), (ad 3, acE ad_acts out.2.2.1 out.2.2.2.1), (ad_acts 0, aO G 14 (fun j => some (ra_acts_before j)))] ++ plist ra_acts_before out.2.2.2.2 14) out.1) 0 0 (inA ([(h0, xoE ad s_keptSlots s_seenCount s_seed), (ad 1, stE s_now_people s_now_kinds s_now_deeds s_now_feeding s_now_large s_now_dead s_now_dayNumber), (ad 3, acE ad_acts s_acts_first s_acts_count), (ad_acts 0, aO G 14 (fun j => some (ra_acts_before j)))] ++ plist ra_acts_before p_acts_before 14)) := by
  refine mk_Wi (cc := cX3_feed) (maxL := 3) (by decide) rfl (Nat.le_of_ble_eq_true rfl) ?_
  intro p e s m args below meth c Q ls A S hP hK hD hl hret
  obtain ⟨hx, hb, hml, hown, hts⟩ := S
  have hown : s.vm.findClass RX3 = some m.cls := hown
  have kl_19 := hts (.fieldLink RX3 19 "ArrestOrder" "now" "LArrestOrder$Standing;") (by decide +kernel)
  have hi_X3 : ∀ w ∈ wsX30, w ∈ wsX3_feed := fun _ h => List.mem_cons_of_mem _ (List.mem_append_left _ (List.mem_append_left _ (List.mem_append_right _ h)))
  have kl_29 := hts (.fieldLink RX3 29 "ArrestOrder" "acts" "LArrestOrder$Acts;") (by decide +kernel)
  have hi_X1 : ∀ w ∈ wsX10, w ∈ wsX3_feed := fun _ h => List.mem_cons_of_mem _ (List.mem_append_left _ (List.mem_append_right _ h))
  have hS : va_S A s.heap s.heap [] := va_S.rf
  have hl : lv_has ls 3 [(0, .ref h0), (1, .int a1), (2, .int a2)] := hl
  refine lv_aload_n hx hb dX3_feed_0 rfl (lv_at hl 0 rfl) ?_
  refine va_get (D := gD G) (ci := 3) (v := .ref (ad 1)) (C := RX3) (T := TX3) (N := 11) hx hb hts hi_X3 hown hK.1 hP 0 rfl rfl 1 (by decide) kl_19 (fun _ h9 => h9) rfl dX3_feed_1 ?_
  refine lv_iload_n hx hb dX3_feed_4 rfl (lv_at hl 1 rfl) ?_
  obtain ⟨o1, hc2, hf⟩ := bindS hf
  refine ro_i (va_runVN (C := RX1) (As := [.int a1]) (rest := []) ⟨hx, hb, hml, hown, hts⟩ (ctX1_has l G (ad 1) s_now_people s_now_kinds s_now_deeds s_now_feeding s_now_large s_now_dead s_now_dayNumber a1 o1 hc2) ⟨va_cnB 1 hts gX3_feed_X1_has_n92 rfl rfl rfl (nm_X3_92 hK.2) (hts (.initialized RX1) (by decide +kernel)) (by decide +kernel) ⟨Nat.le_of_ble_eq_true rfl, Nat.le_of_ble_eq_true rfl⟩, hts (.instanceMethod yX1_has) (by decide +kernel), hts (.selects RX1 yX1_has yX1_has) (by decide +kernel)⟩ (preR_V (q0 := 0) (ci := 1) (hP.sub (ws' := [(ad 1, stE s_now_people s_now_kinds s_now_deeds s_now_feeding s_now_large s_now_dead s_now_dayNumber)]) [1] rfl) hK rfl rfl) rfl rfl hl.1 rfl (lv_room (Nat.le_of_ble_eq_true rfl)) dX3_feed_5 ⟨Nat.zero_le _, Nat.zero_le _⟩) hS hP (fun H locs hP hS => ?_)
  refine lv_if_eq (tgt := 22) hx hb dX3_feed_8 (by decide) (fun c3 => ?_) (fun c3 => ?_)
  · have hf := iteT hf c3
    refine lv_iconst (v := (-1)) hx hb dX3_feed_22 (by decide) ?_
    have hv := Option.some.inj hf
    exact hret _ _ _ _ _ (by rw [← hv]; exact hP) hS (by rw [← hv]) dX3_feed_23
  · have hf := iteF hf c3
    refine lv_aload_n hx hb dX3_feed_11 rfl (lv_at hl 0 rfl) ?_
    refine va_get (D := gD G) (ci := 3) (v := .ref (ad 1)) (C := RX3) (T := TX3) (N := 11) hx hb hts hi_X3 hown hK.1 hP 0 rfl rfl 1 (by decide) kl_19 (fun _ h9 => h9) rfl dX3_feed_12 ?_
    refine lv_iload_n hx hb dX3_feed_15 rfl (lv_at hl 2 rfl) ?_
    obtain ⟨o4, hc5, hf⟩ := bindS hf
    refine ro_i (va_runVN (C := RX1) (As := [.int a2]) (rest := []) ⟨hx, hb, hml, hown, hts⟩ (ctX1_has l G (ad 1) s_now_people s_now_kinds s_now_deeds s_now_feeding s_now_large s_now_dead s_now_dayNumber a2 o4 hc5) ⟨va_cnB 1 hts gX3_feed_X1_has_n92 rfl rfl rfl (nm_X3_92 hK.2) (hts (.initialized RX1) (by decide +kernel)) (by decide +kernel) ⟨Nat.le_of_ble_eq_true rfl, Nat.le_of_ble_eq_true rfl⟩, hts (.instanceMethod yX1_has) (by decide +kernel), hts (.selects RX1 yX1_has yX1_has) (by decide +kernel)⟩ (preR_V (q0 := 0) (ci := 1) (hP.sub (ws' := [(ad 1, stE s_now_people s_now_kinds s_now_deeds s_now_feeding s_now_large s_now_dead s_now_dayNumber)]) [1] rfl) hK rfl rfl) rfl rfl hl.1 rfl (lv_room (Nat.le_of_ble_eq_true rfl)) dX3_feed_16 ⟨Nat.zero_le _, Nat.zero_le _⟩) hS hP (fun H locs hP hS => ?_)
    refine lv_if_ne (tgt := 24) hx hb dX3_feed_19 (by decide) (fun c6 => ?_) (fun c6 => ?_)
    · have hf := iteF hf c6
      refine lv_iload_n hx hb dX3_feed_24 rfl (lv_at hl 1 rfl) ?_
      refine lv_iload_n hx hb dX3_feed_25 rfl (lv_at hl 2 rfl) ?_
      refine lv_icmp_ne (tgt := 32) hx hb dX3_feed_26 (by decide) (fun c7 => ?_) (fun c7 => ?_)
      · have hf := iteF hf c7
        refine lv_aload_n hx hb dX3_feed_32 rfl (lv_at hl 0 rfl) ?_
        refine va_get (D := gD G) (ci := 3) (v := .ref (ad 3)) (C := RX3) (T := TX3) (N := 11) hx hb hts hi_X3 hown hK.1 hP 0 rfl rfl 3 (by decide) kl_29 (fun _ h9 => h9) rfl dX3_feed_33 ?_
        refine lv_aload_n hx hb dX3_feed_36 rfl (lv_at hl 0 rfl) ?_
        refine va_get (D := gD G) (ci := 3) (v := .ref (ad 1)) (C := RX3) (T := TX3) (N := 11) hx hb hts hi_X3 hown hK.1 hP 0 rfl rfl 1 (by decide) kl_19 (fun _ h9 => h9) rfl dX3_feed_37 ?_
        obtain ⟨o8, hc9, hf⟩ := bindS hf
        refine rw_vT (va_runVN (C := RX0) (As := [.ref (ad 1)]) (rest := []) ⟨hx, hb, hml, hown, hts⟩ (ctX0_remember l G (ad 3) (ad 1) ad_acts ra_acts_before s_acts_first s_acts_count s_now_people s_now_kinds s_now_deeds s_now_feeding s_now_large s_now_dead s_now_dayNumber p_acts_before o8 hc9) ⟨va_cnB 1 hts gX3_feed_X0_remember_n111 rfl rfl rfl (nm_X3_111 hK.2) (hts (.initialized RX0) (by decide +kernel)) (by decide +kernel) ⟨Nat.le_of_ble_eq_true rfl, Nat.le_of_ble_eq_true rfl⟩, hts (.instanceMethod yX0_remember) (by decide +kernel), hts (.selects RX0 yX0_remember yX0_remember) (by decide +kernel)⟩ (preW_V (q0 := 0) (ci := 0) (P_tsub (Y := [(ad 3, acE ad_acts s_acts_first s_acts_count), (ad_acts 0, aO G 14 (fun j => some (ra_acts_before j))), (ad 1, stE s_now_people s_now_kinds s_now_deeds s_now_feeding s_now_large s_now_dead s_now_dayNumber)]) hP [2, 3, 1] rfl) (D_tsub (Y := [(ad 3, acE ad_acts s_acts_first s_acts_count), (ad_acts 0, aO G 14 (fun j => some (ra_acts_before j))), (ad 1, stE s_now_people s_now_kinds s_now_deeds s_now_feeding s_now_large s_now_dead s_now_dayNumber)]) hD [2, 3, 1] (by decide) rfl) hK rfl rfl) rfl rfl hl.1 rfl (lv_room (Nat.le_of_ble_eq_true rfl)) dX3_feed_40 ⟨Nat.zero_le _, Nat.zero_le _⟩) hS hP hD [2, 3, 1] rfl rfl rfl plist_addr (fun H locs hP hD hS => ?_)
        have hP : va_P (gD G) vwCl ([(h0, xoE ad s_keptSlots s_seenCount s_seed), (ad 1, stE s_now_people s_now_kinds s_now_deeds s_now_feeding s_now_large s_now_dead s_now_dayNumber), (ad 3, acE ad_acts o8.1 o8.2.1), (ad_acts 0, aO G 14 (fun j => some (ra_acts_before j)))] ++ plist ra_acts_before o8.2.2 14) H := hP
        have hD : va_D A ([(h0, xoE ad s_keptSlots s_seenCount s_seed), (ad 1, stE s_now_people s_now_kinds s_now_deeds s_now_feeding s_now_large s_now_dead s_now_dayNumber), (ad 3, acE ad_acts o8.1 o8.2.1), (ad_acts 0, aO G 14 (fun j => some (ra_acts_before j)))] ++ plist ra_acts_before o8.2.2 14) := hD
        refine lv_aload_n hx hb dX3_feed_43 rfl (lv_at hl 0 rfl) ?_
        refine va_get (D := gD G) (ci := 3) (v := .ref (ad 1)) (C := RX3) (T := TX3) (N := 11) hx hb hts hi_X3 hown hK.1 hP 0 rfl rfl 1 (by decide) kl_19 (fun _ h9 => h9) rfl dX3_feed_44 ?_
        refine lv_dup hx hb dX3_feed_47 rfl ?_
        refine va_getN (D := gD G) (ci := 1) (v := .long s_now_feeding) (C := RX1) (T := TX1) (N := 7) hx hb hts hi_X1 hown hK.1 hP 1 rfl rfl 3 (by decide) (nf_X3_130 hK.2) (fun _ h9 => h9) rfl dX3_feed_48 ?_
        refine lv_iload_n hx hb dX3_feed_51 rfl (lv_at hl 1 rfl) ?_
        refine lv_iload_n hx hb dX3_feed_52 rfl (lv_at hl 2 rfl) ?_
        obtain ⟨o10, hc11, hf⟩ := bindS hf
        refine ro_l (va_runS (As := [.int a1, .int a2]) (rest := [.long s_now_feeding, .ref (ad 1)]) ⟨hx, hb, hml, hown, hts⟩ (ctX3_pair l G a1 a2 o10 hc11) (va_cwS 2 hts gX3_feed_X3_pair rfl rfl rfl (by decide +kernel) ⟨Nat.le_of_ble_eq_true rfl, Nat.le_of_ble_eq_true rfl⟩) (preR_S (hP.sub (ws' := []) [] rfl) hK) rfl rfl hl.1 rfl (lv_room (Nat.le_of_ble_eq_true rfl)) dX3_feed_53 ⟨Nat.zero_le _, Nat.zero_le _⟩) hS hP (fun H locs hP hS => ?_)
        refine lv_lxor hx hb dX3_feed_56 ?_
        refine va_putN (D := gD G) (ci := 1) (v := .long (s_now_feeding ^^^ o10)) (ty := .long) (C := RX1) (T := TX1) (N := 7) hx hb hts hi_X1 tyX1 tyX1_ok nmX1 hown hK.1 hP hD hS 1 rfl rfl 3 (by decide) (nf_X3_130 hK.2) (fun _ h9 => h9) rfl (tyX1_ok 3 (by decide)) rfl rfl (Nat.le_of_ble_eq_true rfl) dX3_feed_57 (fun H locs hP hD hS => ?_)
        have hP : va_P (gD G) vwCl ([(h0, xoE ad s_keptSlots s_seenCount s_seed), (ad 1, stE s_now_people s_now_kinds s_now_deeds (s_now_feeding ^^^ o10) s_now_large s_now_dead s_now_dayNumber), (ad 3, acE ad_acts o8.1 o8.2.1), (ad_acts 0, aO G 14 (fun j => some (ra_acts_before j)))] ++ plist ra_acts_before o8.2.2 14) H := hP
        have hD : va_D A ([(h0, xoE ad s_keptSlots s_seenCount s_seed), (ad 1, stE s_now_people s_now_kinds s_now_deeds (s_now_feeding ^^^ o10) s_now_large s_now_dead s_now_dayNumber), (ad 3, acE ad_acts o8.1 o8.2.1), (ad_acts 0, aO G 14 (fun j => some (ra_acts_before j)))] ++ plist ra_acts_before o8.2.2 14) := hD
        refine lv_aload_n hx hb dX3_feed_60 rfl (lv_at hl 0 rfl) ?_
        refine va_get (D := gD G) (ci := 3) (v := .ref (ad 1)) (C := RX3) (T := TX3) (N := 11) hx hb hts hi_X3 hown hK.1 hP 0 rfl rfl 1 (by decide) kl_19 (fun _ h9 => h9) rfl dX3_feed_61 ?_
        refine lv_iload_n hx hb dX3_feed_64 rfl (lv_at hl 1 rfl) ?_
        refine lv_iload_n hx hb dX3_feed_65 rfl (lv_at hl 2 rfl) ?_
        obtain ⟨o12, hc13, hf⟩ := bindS hf
        refine ro_i (va_runVN (C := RX1) (As := [.int a1, .int a2]) (rest := []) ⟨hx, hb, hml, hown, hts⟩ (ctX1_feeds l G (ad 1) s_now_people s_now_kinds s_now_deeds (s_now_feeding ^^^ o10) s_now_large s_now_dead s_now_dayNumber a1 a2 o12 hc13) ⟨va_cnB 2 hts gX3_feed_X1_feeds_n138 rfl rfl rfl (nm_X3_138 hK.2) (hts (.initialized RX1) (by decide +kernel)) (by decide +kernel) ⟨Nat.le_of_ble_eq_true rfl, Nat.le_of_ble_eq_true rfl⟩, hts (.instanceMethod yX1_feeds) (by decide +kernel), hts (.selects RX1 yX1_feeds yX1_feeds) (by decide +kernel)⟩ (preR_V (q0 := 0) (ci := 1) (hP.sub (ws' := [(ad 1, stE s_now_people s_now_kinds s_now_deeds (s_now_feeding ^^^ o10) s_now_large s_now_dead s_now_dayNumber)]) [1] rfl) hK rfl rfl) rfl rfl hl.1 rfl (lv_room (Nat.le_of_ble_eq_true rfl)) dX3_feed_66 ⟨Nat.zero_le _, Nat.zero_le _⟩) hS hP (fun H locs hP hS => ?_)
        refine lv_if_eq (tgt := 76) hx hb dX3_feed_69 (by decide) (fun c14 => ?_) (fun c14 => ?_)
        · have hf := iteT hf c14
          refine lv_iconst (v := 0) hx hb dX3_feed_76 (by decide) ?_
          have hv := Option.some.inj hf
          exact hret _ _ _ _ _ (by rw [← hv]; exact hP) hS (by rw [← hv]) dX3_feed_77
        · have hf := iteF hf c14
          refine lv_iconst (v := 1) hx hb dX3_feed_72 (by decide) ?_
          refine lv_goto (tgt := 77) hx hb dX3_feed_73 (by decide) ?_
          have hv := Option.some.inj hf
          exact hret _ _ _ _ _ (by rw [← hv]; exact hP) hS (by rw [← hv]) dX3_feed_77
      · have hf := iteT hf c7
        refine lv_bipush (v := (-2)) hx hb dX3_feed_29 (by decide) ?_
        have hv := Option.some.inj hf
        exact hret _ _ _ _ _ (by rw [← hv]; exact hP) hS (by rw [← hv]) dX3_feed_31
    · have hf := iteT hf c6
      refine lv_iconst (v := (-1)) hx hb dX3_feed_22 (by decide) ?_
      have hv := Option.some.inj hf
      exact hret _ _ _ _ _ (by rw [← hv]; exact hP) hS (by rw [← hv]) dX3_feed_23
def fX3_grade (s_now_people : Int32) (s_now_kinds : Int32) (s_now_deeds : Int32) (s_now_feeding : Int64) (s_now_large : Int32) (s_now_dead : Int32) (s_now_dayNumber : Int32) (s_acts_first : Int32) (s_acts_count : Int32) (p_acts_before : Nat → St) (a1 : Int32) (a2 : Int32) : Option (Int32 × Int32 × Int32 × Int32 × (Nat → St)) :=
  (fX1_has s_now_people a1).bind fun o1 => ((if o1 = 0 then some ((-1), s_now_deeds, s_acts_first, s_acts_count, p_acts_before) else (if a2 < 0 then some ((-2), s_now_deeds, s_acts_first, s_acts_count, p_acts_before) else (if a2 < 10 then (fX1_deedOf s_now_deeds a1).bind fun o6 => ((if a2 = o6 then some ((-3), s_now_deeds, s_acts_first, s_acts_count, p_acts_before) else (fX0_remember s_acts_first s_acts_count s_now_people s_now_kinds s_now_deeds s_now_feeding s_now_large s_now_dead s_now_dayNumber p_acts_before).bind fun o9 => ((fX1_setDeed s_now_deeds a1 a2).bind fun o11 => (some (o6, o11, o9.1, o9.2.1, o9.2.2))))) else some ((-2), s_now_deeds, s_acts_first, s_acts_count, p_acts_before)))))
set_option maxHeartbeats 4000000 in
set_option maxRecDepth 100000 in
theorem ctX3_grade (l : Launch) (G : GG) (h0 : Nat) (ad : Nat → Nat) (ad_acts : Nat → Nat) (ra_acts_before : Nat → Nat) (s_keptSlots : Int32) (s_seenCount : Int32) (s_seed : Int64) (s_now_people : Int32) (s_now_kinds : Int32) (s_now_deeds : Int32) (s_now_feeding : Int64) (s_now_large : Int32) (s_now_dead : Int32) (s_now_dayNumber : Int32) (s_acts_first : Int32) (s_acts_count : Int32) (p_acts_before : Nat → St) (a1 : Int32) (a2 : Int32) (out : Int32 × Int32 × Int32 × Int32 × (Nat → St)) (hf : fX3_grade s_now_people s_now_kinds s_now_deeds s_now_feeding s_now_large s_now_dead s_now_dayNumber s_acts_first s_acts_count p_acts_before a1 a2 = some out) : Met l yX3_grade wsX3_grade ({ frames := 2, cells := 0, slots := 0, locals := 42 }) (PcW G [.ref h0, .int a1, .int a2] ([(h0, xoE ad s_keptSlots s_seenCount s_seed), (ad 1, stE s_now_people s_now_kinds s_now_deeds s_now_feeding s_now_large s_now_dead s_now_dayNumber), (ad 3, acE ad_acts s_acts_first s_acts_count), (ad_acts 0, aO G 14 (fun j => some (ra_acts_before j)))] ++ plist ra_acts_before p_acts_before 14)) (QiW G ([(h0, xoE ad s_keptSlots s_seenCount s_seed), (ad 1, stE s_now_people s_now_kinds s_now_deeds s_now_feeding s_now_large s_now_dead s_now_dayNumber), (ad 3, acE ad_acts s_acts_first s_acts_count), (ad_acts 0, aO G 14 (fun j => some (ra_acts_before j)))] ++ plist ra_acts_before p_acts_before 14) ([(h0, xoE ad s_keptSlots s_seenCount s_seed), (ad 1, stE s_now_people s_now_kinds out.2.1 s_now_feeding s_now_large s_now_dead s_now_dayNumber), (ad 3, acE ad_acts out.2.2.1 out.2.2.2.1), (ad_acts 0, aO G 14 (fun j => some (ra_acts_before j)))] ++ plist ra_acts_before out.2.2.2.2 14) out.1) 0 0 (inA ([(h0, xoE ad s_keptSlots s_seenCount s_seed), (ad 1, stE s_now_people s_now_kinds s_now_deeds s_now_feeding s_now_large s_now_dead s_now_dayNumber), (ad 3, acE ad_acts s_acts_first s_acts_count), (ad_acts 0, aO G 14 (fun j => some (ra_acts_before j)))] ++ plist ra_acts_before p_acts_before 14)) := by
  refine mk_Wi (cc := cX3_grade) (maxL := 4) (by decide) rfl (Nat.le_of_ble_eq_true rfl) ?_
  intro p e s m args below meth c Q ls A S hP hK hD hl hret
  obtain ⟨hx, hb, hml, hown, hts⟩ := S
  have hown : s.vm.findClass RX3 = some m.cls := hown
  have kl_19 := hts (.fieldLink RX3 19 "ArrestOrder" "now" "LArrestOrder$Standing;") (by decide +kernel)
  have hi_X3 : ∀ w ∈ wsX30, w ∈ wsX3_grade := fun _ h => List.mem_cons_of_mem _ (List.mem_append_left _ (List.mem_append_left _ (List.mem_append_right _ h)))
  have kl_29 := hts (.fieldLink RX3 29 "ArrestOrder" "acts" "LArrestOrder$Acts;") (by decide +kernel)
  have hS : va_S A s.heap s.heap [] := va_S.rf
  have hl : lv_has ls 4 [(0, .ref h0), (1, .int a1), (2, .int a2)] := hl
  refine lv_aload_n hx hb dX3_grade_0 rfl (lv_at hl 0 rfl) ?_
  refine va_get (D := gD G) (ci := 3) (v := .ref (ad 1)) (C := RX3) (T := TX3) (N := 11) hx hb hts hi_X3 hown hK.1 hP 0 rfl rfl 1 (by decide) kl_19 (fun _ h9 => h9) rfl dX3_grade_1 ?_
  refine lv_iload_n hx hb dX3_grade_4 rfl (lv_at hl 1 rfl) ?_
  obtain ⟨o1, hc2, hf⟩ := bindS hf
  refine ro_i (va_runVN (C := RX1) (As := [.int a1]) (rest := []) ⟨hx, hb, hml, hown, hts⟩ (ctX1_has l G (ad 1) s_now_people s_now_kinds s_now_deeds s_now_feeding s_now_large s_now_dead s_now_dayNumber a1 o1 hc2) ⟨va_cnB 1 hts gX3_grade_X1_has_n92 rfl rfl rfl (nm_X3_92 hK.2) (hts (.initialized RX1) (by decide +kernel)) (by decide +kernel) ⟨Nat.le_of_ble_eq_true rfl, Nat.le_of_ble_eq_true rfl⟩, hts (.instanceMethod yX1_has) (by decide +kernel), hts (.selects RX1 yX1_has yX1_has) (by decide +kernel)⟩ (preR_V (q0 := 0) (ci := 1) (hP.sub (ws' := [(ad 1, stE s_now_people s_now_kinds s_now_deeds s_now_feeding s_now_large s_now_dead s_now_dayNumber)]) [1] rfl) hK rfl rfl) rfl rfl hl.1 rfl (lv_room (Nat.le_of_ble_eq_true rfl)) dX3_grade_5 ⟨Nat.zero_le _, Nat.zero_le _⟩) hS hP (fun H locs hP hS => ?_)
  refine lv_if_ne (tgt := 13) hx hb dX3_grade_8 (by decide) (fun c3 => ?_) (fun c3 => ?_)
  · have hf := iteF hf c3
    refine lv_iload_n hx hb dX3_grade_13 rfl (lv_at hl 2 rfl) ?_
    refine lv_if_lt (tgt := 23) hx hb dX3_grade_14 (by decide) (fun c4 => ?_) (fun c4 => ?_)
    · have hf := iteT hf c4
      refine lv_bipush (v := (-2)) hx hb dX3_grade_23 (by decide) ?_
      have hv := Option.some.inj hf
      exact hret _ _ _ _ _ (by rw [← hv]; exact hP) hS (by rw [← hv]) dX3_grade_25
    · have hf := iteF hf c4
      refine lv_iload_n hx hb dX3_grade_17 rfl (lv_at hl 2 rfl) ?_
      refine lv_bipush (v := 10) hx hb dX3_grade_18 (by decide) ?_
      refine lv_icmp_lt (tgt := 26) hx hb dX3_grade_20 (by decide) (fun c5 => ?_) (fun c5 => ?_)
      · have hf := iteT hf c5
        refine lv_aload_n hx hb dX3_grade_26 rfl (lv_at hl 0 rfl) ?_
        refine va_get (D := gD G) (ci := 3) (v := .ref (ad 1)) (C := RX3) (T := TX3) (N := 11) hx hb hts hi_X3 hown hK.1 hP 0 rfl rfl 1 (by decide) kl_19 (fun _ h9 => h9) rfl dX3_grade_27 ?_
        refine lv_iload_n hx hb dX3_grade_30 rfl (lv_at hl 1 rfl) ?_
        obtain ⟨o6, hc7, hf⟩ := bindS hf
        refine ro_i (va_runVN (C := RX1) (As := [.int a1]) (rest := []) ⟨hx, hb, hml, hown, hts⟩ (ctX1_deedOf l G (ad 1) s_now_people s_now_kinds s_now_deeds s_now_feeding s_now_large s_now_dead s_now_dayNumber a1 o6 hc7) ⟨va_cnB 1 hts gX3_grade_X1_deedOf_n95 rfl rfl rfl (nm_X3_95 hK.2) (hts (.initialized RX1) (by decide +kernel)) (by decide +kernel) ⟨Nat.le_of_ble_eq_true rfl, Nat.le_of_ble_eq_true rfl⟩, hts (.instanceMethod yX1_deedOf) (by decide +kernel), hts (.selects RX1 yX1_deedOf yX1_deedOf) (by decide +kernel)⟩ (preR_V (q0 := 0) (ci := 1) (hP.sub (ws' := [(ad 1, stE s_now_people s_now_kinds s_now_deeds s_now_feeding s_now_large s_now_dead s_now_dayNumber)]) [1] rfl) hK rfl rfl) rfl rfl hl.1 rfl (lv_room (Nat.le_of_ble_eq_true rfl)) dX3_grade_31 ⟨Nat.zero_le _, Nat.zero_le _⟩) hS hP (fun H locs hP hS => ?_)
        refine lv_istore_n (lv' := [(3, .int o6), (0, .ref h0), (1, .int a1), (2, .int a2)]) hx hb dX3_grade_34 rfl hl (by decide) rfl (fun ls hl => ?_)
        refine lv_iload_n hx hb dX3_grade_35 rfl (lv_at hl 3 rfl) ?_
        refine lv_iload_n hx hb dX3_grade_36 rfl (lv_at hl 0 rfl) ?_
        refine lv_icmp_ne (tgt := 43) hx hb dX3_grade_37 (by decide) (fun c8 => ?_) (fun c8 => ?_)
        · have hf := iteF hf c8
          refine lv_aload_n hx hb dX3_grade_43 rfl (lv_at hl 1 rfl) ?_
          refine va_get (D := gD G) (ci := 3) (v := .ref (ad 3)) (C := RX3) (T := TX3) (N := 11) hx hb hts hi_X3 hown hK.1 hP 0 rfl rfl 3 (by decide) kl_29 (fun _ h9 => h9) rfl dX3_grade_44 ?_
          refine lv_aload_n hx hb dX3_grade_47 rfl (lv_at hl 1 rfl) ?_
          refine va_get (D := gD G) (ci := 3) (v := .ref (ad 1)) (C := RX3) (T := TX3) (N := 11) hx hb hts hi_X3 hown hK.1 hP 0 rfl rfl 1 (by decide) kl_19 (fun _ h9 => h9) rfl dX3_grade_48 ?_
          obtain ⟨o9, hc10, hf⟩ := bindS hf
          refine rw_vT (va_runVN (C := RX0) (As := [.ref (ad 1)]) (rest := []) ⟨hx, hb, hml, hown, hts⟩ (ctX0_remember l G (ad 3) (ad 1) ad_acts ra_acts_before s_acts_first s_acts_count s_now_people s_now_kinds s_now_deeds s_now_feeding s_now_large s_now_dead s_now_dayNumber p_acts_before o9 hc10) ⟨va_cnB 1 hts gX3_grade_X0_remember_n111 rfl rfl rfl (nm_X3_111 hK.2) (hts (.initialized RX0) (by decide +kernel)) (by decide +kernel) ⟨Nat.le_of_ble_eq_true rfl, Nat.le_of_ble_eq_true rfl⟩, hts (.instanceMethod yX0_remember) (by decide +kernel), hts (.selects RX0 yX0_remember yX0_remember) (by decide +kernel)⟩ (preW_V (q0 := 0) (ci := 0) (P_tsub (Y := [(ad 3, acE ad_acts s_acts_first s_acts_count), (ad_acts 0, aO G 14 (fun j => some (ra_acts_before j))), (ad 1, stE s_now_people s_now_kinds s_now_deeds s_now_feeding s_now_large s_now_dead s_now_dayNumber)]) hP [2, 3, 1] rfl) (D_tsub (Y := [(ad 3, acE ad_acts s_acts_first s_acts_count), (ad_acts 0, aO G 14 (fun j => some (ra_acts_before j))), (ad 1, stE s_now_people s_now_kinds s_now_deeds s_now_feeding s_now_large s_now_dead s_now_dayNumber)]) hD [2, 3, 1] (by decide) rfl) hK rfl rfl) rfl rfl hl.1 rfl (lv_room (Nat.le_of_ble_eq_true rfl)) dX3_grade_51 ⟨Nat.zero_le _, Nat.zero_le _⟩) hS hP hD [2, 3, 1] rfl rfl rfl plist_addr (fun H locs hP hD hS => ?_)
          have hP : va_P (gD G) vwCl ([(h0, xoE ad s_keptSlots s_seenCount s_seed), (ad 1, stE s_now_people s_now_kinds s_now_deeds s_now_feeding s_now_large s_now_dead s_now_dayNumber), (ad 3, acE ad_acts o9.1 o9.2.1), (ad_acts 0, aO G 14 (fun j => some (ra_acts_before j)))] ++ plist ra_acts_before o9.2.2 14) H := hP
          have hD : va_D A ([(h0, xoE ad s_keptSlots s_seenCount s_seed), (ad 1, stE s_now_people s_now_kinds s_now_deeds s_now_feeding s_now_large s_now_dead s_now_dayNumber), (ad 3, acE ad_acts o9.1 o9.2.1), (ad_acts 0, aO G 14 (fun j => some (ra_acts_before j)))] ++ plist ra_acts_before o9.2.2 14) := hD
          refine lv_aload_n hx hb dX3_grade_54 rfl (lv_at hl 1 rfl) ?_
          refine va_get (D := gD G) (ci := 3) (v := .ref (ad 1)) (C := RX3) (T := TX3) (N := 11) hx hb hts hi_X3 hown hK.1 hP 0 rfl rfl 1 (by decide) kl_19 (fun _ h9 => h9) rfl dX3_grade_55 ?_
          refine lv_iload_n hx hb dX3_grade_58 rfl (lv_at hl 2 rfl) ?_
          refine lv_iload_n hx hb dX3_grade_59 rfl (lv_at hl 3 rfl) ?_
          obtain ⟨o11, hc12, hf⟩ := bindS hf
          refine rw_v (va_runVN (C := RX1) (As := [.int a1, .int a2]) (rest := []) ⟨hx, hb, hml, hown, hts⟩ (ctX1_setDeed l G (ad 1) s_now_people s_now_kinds s_now_deeds s_now_feeding s_now_large s_now_dead s_now_dayNumber a1 a2 o11 hc12) ⟨va_cnB 2 hts gX3_grade_X1_setDeed_n141 rfl rfl rfl (nm_X3_141 hK.2) (hts (.initialized RX1) (by decide +kernel)) (by decide +kernel) ⟨Nat.le_of_ble_eq_true rfl, Nat.le_of_ble_eq_true rfl⟩, hts (.instanceMethod yX1_setDeed) (by decide +kernel), hts (.selects RX1 yX1_setDeed yX1_setDeed) (by decide +kernel)⟩ (preW_V (q0 := 0) (ci := 1) (hP.sub (ws' := [(ad 1, stE s_now_people s_now_kinds s_now_deeds s_now_feeding s_now_large s_now_dead s_now_dayNumber)]) [1] rfl) (hD.sub (ws' := [(ad 1, stE s_now_people s_now_kinds s_now_deeds s_now_feeding s_now_large s_now_dead s_now_dayNumber)]) [1] (by decide) rfl) hK rfl rfl) rfl rfl hl.1 rfl (lv_room (Nat.le_of_ble_eq_true rfl)) dX3_grade_60 ⟨Nat.zero_le _, Nat.zero_le _⟩) hS hP hD [1] rfl rfl rfl (fun H locs hP hD hS => ?_)
          have hP : va_P (gD G) vwCl ([(h0, xoE ad s_keptSlots s_seenCount s_seed), (ad 1, stE s_now_people s_now_kinds o11 s_now_feeding s_now_large s_now_dead s_now_dayNumber), (ad 3, acE ad_acts o9.1 o9.2.1), (ad_acts 0, aO G 14 (fun j => some (ra_acts_before j)))] ++ plist ra_acts_before o9.2.2 14) H := hP
          have hD : va_D A ([(h0, xoE ad s_keptSlots s_seenCount s_seed), (ad 1, stE s_now_people s_now_kinds o11 s_now_feeding s_now_large s_now_dead s_now_dayNumber), (ad 3, acE ad_acts o9.1 o9.2.1), (ad_acts 0, aO G 14 (fun j => some (ra_acts_before j)))] ++ plist ra_acts_before o9.2.2 14) := hD
          refine lv_iload_n hx hb dX3_grade_63 rfl (lv_at hl 0 rfl) ?_
          have hv := Option.some.inj hf
          exact hret _ _ _ _ _ (by rw [← hv]; exact hP) hS (by rw [← hv]) dX3_grade_64
        · have hf := iteT hf c8
          refine lv_bipush (v := (-3)) hx hb dX3_grade_40 (by decide) ?_
          have hv := Option.some.inj hf
          exact hret _ _ _ _ _ (by rw [← hv]; exact hP) hS (by rw [← hv]) dX3_grade_42
      · have hf := iteF hf c5
        refine lv_bipush (v := (-2)) hx hb dX3_grade_23 (by decide) ?_
        have hv := Option.some.inj hf
        exact hret _ _ _ _ _ (by rw [← hv]; exact hP) hS (by rw [← hv]) dX3_grade_25
  · have hf := iteT hf c3
    refine lv_iconst (v := (-1)) hx hb dX3_grade_11 (by decide) ?_
    have hv := Option.some.inj hf
    exact hret _ _ _ _ _ (by rw [← hv]; exact hP) hS (by rw [← hv]) dX3_grade_12
def fX3_day (s_now_people : Int32) (s_now_kinds : Int32) (s_now_deeds : Int32) (s_now_feeding : Int64) (s_now_large : Int32) (s_now_dead : Int32) (s_now_dayNumber : Int32) (s_acts_first : Int32) (s_acts_count : Int32) (p_acts_before : Nat → St) : Option (Int32 × Int32 × Int32 × Int32 × Int32 × (Nat → St)) :=
  (fX0_remember s_acts_first s_acts_count s_now_people s_now_kinds s_now_deeds s_now_feeding s_now_large s_now_dead s_now_dayNumber p_acts_before).bind fun o1 => ((fX1_passDay s_now_people s_now_kinds s_now_deeds s_now_feeding s_now_large s_now_dayNumber).bind fun o3 => (some (o3.1, o3.2.1, o3.2.2, o1.1, o1.2.1, o1.2.2)))
set_option maxHeartbeats 4000000 in
set_option maxRecDepth 100000 in
theorem ctX3_day (l : Launch) (G : GG) (h0 : Nat) (ad : Nat → Nat) (ad_acts : Nat → Nat) (ra_acts_before : Nat → Nat) (s_keptSlots : Int32) (s_seenCount : Int32) (s_seed : Int64) (s_now_people : Int32) (s_now_kinds : Int32) (s_now_deeds : Int32) (s_now_feeding : Int64) (s_now_large : Int32) (s_now_dead : Int32) (s_now_dayNumber : Int32) (s_acts_first : Int32) (s_acts_count : Int32) (p_acts_before : Nat → St) (out : Int32 × Int32 × Int32 × Int32 × Int32 × (Nat → St)) (hf : fX3_day s_now_people s_now_kinds s_now_deeds s_now_feeding s_now_large s_now_dead s_now_dayNumber s_acts_first s_acts_count p_acts_before = some out) : Met l yX3_day wsX3_day ({ frames := 4, cells := 0, slots := 0, locals := 90 }) (PcW G [.ref h0] ([(h0, xoE ad s_keptSlots s_seenCount s_seed), (ad 1, stE s_now_people s_now_kinds s_now_deeds s_now_feeding s_now_large s_now_dead s_now_dayNumber), (ad 3, acE ad_acts s_acts_first s_acts_count), (ad_acts 0, aO G 14 (fun j => some (ra_acts_before j)))] ++ plist ra_acts_before p_acts_before 14)) (QiW G ([(h0, xoE ad s_keptSlots s_seenCount s_seed), (ad 1, stE s_now_people s_now_kinds s_now_deeds s_now_feeding s_now_large s_now_dead s_now_dayNumber), (ad 3, acE ad_acts s_acts_first s_acts_count), (ad_acts 0, aO G 14 (fun j => some (ra_acts_before j)))] ++ plist ra_acts_before p_acts_before 14) ([(h0, xoE ad s_keptSlots s_seenCount s_seed), (ad 1, stE s_now_people s_now_kinds s_now_deeds s_now_feeding out.2.1 s_now_dead out.2.2.1), (ad 3, acE ad_acts out.2.2.2.1 out.2.2.2.2.1), (ad_acts 0, aO G 14 (fun j => some (ra_acts_before j)))] ++ plist ra_acts_before out.2.2.2.2.2 14) out.1) 0 0 (inA ([(h0, xoE ad s_keptSlots s_seenCount s_seed), (ad 1, stE s_now_people s_now_kinds s_now_deeds s_now_feeding s_now_large s_now_dead s_now_dayNumber), (ad 3, acE ad_acts s_acts_first s_acts_count), (ad_acts 0, aO G 14 (fun j => some (ra_acts_before j)))] ++ plist ra_acts_before p_acts_before 14)) := by
  refine mk_Wi (cc := cX3_day) (maxL := 1) (by decide) rfl (Nat.le_of_ble_eq_true rfl) ?_
  intro p e s m args below meth c Q ls A S hP hK hD hl hret
  obtain ⟨hx, hb, hml, hown, hts⟩ := S
  have hown : s.vm.findClass RX3 = some m.cls := hown
  have kl_29 := hts (.fieldLink RX3 29 "ArrestOrder" "acts" "LArrestOrder$Acts;") (by decide +kernel)
  have hi_X3 : ∀ w ∈ wsX30, w ∈ wsX3_day := fun _ h => List.mem_cons_of_mem _ (List.mem_append_left _ (List.mem_append_left _ (List.mem_append_right _ h)))
  have kl_19 := hts (.fieldLink RX3 19 "ArrestOrder" "now" "LArrestOrder$Standing;") (by decide +kernel)
  have hS : va_S A s.heap s.heap [] := va_S.rf
  have hl : lv_has ls 1 [(0, .ref h0)] := hl
  refine lv_aload_n hx hb dX3_day_0 rfl (lv_at hl 0 rfl) ?_
  refine va_get (D := gD G) (ci := 3) (v := .ref (ad 3)) (C := RX3) (T := TX3) (N := 11) hx hb hts hi_X3 hown hK.1 hP 0 rfl rfl 3 (by decide) kl_29 (fun _ h9 => h9) rfl dX3_day_1 ?_
  refine lv_aload_n hx hb dX3_day_4 rfl (lv_at hl 0 rfl) ?_
  refine va_get (D := gD G) (ci := 3) (v := .ref (ad 1)) (C := RX3) (T := TX3) (N := 11) hx hb hts hi_X3 hown hK.1 hP 0 rfl rfl 1 (by decide) kl_19 (fun _ h9 => h9) rfl dX3_day_5 ?_
  obtain ⟨o1, hc2, hf⟩ := bindS hf
  refine rw_vT (va_runVN (C := RX0) (As := [.ref (ad 1)]) (rest := []) ⟨hx, hb, hml, hown, hts⟩ (ctX0_remember l G (ad 3) (ad 1) ad_acts ra_acts_before s_acts_first s_acts_count s_now_people s_now_kinds s_now_deeds s_now_feeding s_now_large s_now_dead s_now_dayNumber p_acts_before o1 hc2) ⟨va_cnB 1 hts gX3_day_X0_remember_n111 rfl rfl rfl (nm_X3_111 hK.2) (hts (.initialized RX0) (by decide +kernel)) (by decide +kernel) ⟨Nat.le_of_ble_eq_true rfl, Nat.le_of_ble_eq_true rfl⟩, hts (.instanceMethod yX0_remember) (by decide +kernel), hts (.selects RX0 yX0_remember yX0_remember) (by decide +kernel)⟩ (preW_V (q0 := 0) (ci := 0) (P_tsub (Y := [(ad 3, acE ad_acts s_acts_first s_acts_count), (ad_acts 0, aO G 14 (fun j => some (ra_acts_before j))), (ad 1, stE s_now_people s_now_kinds s_now_deeds s_now_feeding s_now_large s_now_dead s_now_dayNumber)]) hP [2, 3, 1] rfl) (D_tsub (Y := [(ad 3, acE ad_acts s_acts_first s_acts_count), (ad_acts 0, aO G 14 (fun j => some (ra_acts_before j))), (ad 1, stE s_now_people s_now_kinds s_now_deeds s_now_feeding s_now_large s_now_dead s_now_dayNumber)]) hD [2, 3, 1] (by decide) rfl) hK rfl rfl) rfl rfl hl.1 rfl (lv_room (Nat.le_of_ble_eq_true rfl)) dX3_day_8 ⟨Nat.zero_le _, Nat.zero_le _⟩) hS hP hD [2, 3, 1] rfl rfl rfl plist_addr (fun H locs hP hD hS => ?_)
  have hP : va_P (gD G) vwCl ([(h0, xoE ad s_keptSlots s_seenCount s_seed), (ad 1, stE s_now_people s_now_kinds s_now_deeds s_now_feeding s_now_large s_now_dead s_now_dayNumber), (ad 3, acE ad_acts o1.1 o1.2.1), (ad_acts 0, aO G 14 (fun j => some (ra_acts_before j)))] ++ plist ra_acts_before o1.2.2 14) H := hP
  have hD : va_D A ([(h0, xoE ad s_keptSlots s_seenCount s_seed), (ad 1, stE s_now_people s_now_kinds s_now_deeds s_now_feeding s_now_large s_now_dead s_now_dayNumber), (ad 3, acE ad_acts o1.1 o1.2.1), (ad_acts 0, aO G 14 (fun j => some (ra_acts_before j)))] ++ plist ra_acts_before o1.2.2 14) := hD
  refine lv_aload_n hx hb dX3_day_11 rfl (lv_at hl 0 rfl) ?_
  refine va_get (D := gD G) (ci := 3) (v := .ref (ad 1)) (C := RX3) (T := TX3) (N := 11) hx hb hts hi_X3 hown hK.1 hP 0 rfl rfl 1 (by decide) kl_19 (fun _ h9 => h9) rfl dX3_day_12 ?_
  obtain ⟨o3, hc4, hf⟩ := bindS hf
  refine rw_i (va_runVN (C := RX1) (As := []) (rest := []) ⟨hx, hb, hml, hown, hts⟩ (ctX1_passDay l G (ad 1) s_now_people s_now_kinds s_now_deeds s_now_feeding s_now_large s_now_dead s_now_dayNumber o3 hc4) ⟨va_cnB 0 hts gX3_day_X1_passDay_n145 rfl rfl rfl (nm_X3_145 hK.2) (hts (.initialized RX1) (by decide +kernel)) (by decide +kernel) ⟨Nat.le_of_ble_eq_true rfl, Nat.le_of_ble_eq_true rfl⟩, hts (.instanceMethod yX1_passDay) (by decide +kernel), hts (.selects RX1 yX1_passDay yX1_passDay) (by decide +kernel)⟩ (preW_V (q0 := 0) (ci := 1) (hP.sub (ws' := [(ad 1, stE s_now_people s_now_kinds s_now_deeds s_now_feeding s_now_large s_now_dead s_now_dayNumber)]) [1] rfl) (hD.sub (ws' := [(ad 1, stE s_now_people s_now_kinds s_now_deeds s_now_feeding s_now_large s_now_dead s_now_dayNumber)]) [1] (by decide) rfl) hK rfl rfl) rfl rfl hl.1 rfl (lv_room (Nat.le_of_ble_eq_true rfl)) dX3_day_15 ⟨Nat.zero_le _, Nat.zero_le _⟩) hS hP hD [1] rfl rfl rfl (fun H locs hP hD hS => ?_)
  have hP : va_P (gD G) vwCl ([(h0, xoE ad s_keptSlots s_seenCount s_seed), (ad 1, stE s_now_people s_now_kinds s_now_deeds s_now_feeding o3.2.1 s_now_dead o3.2.2), (ad 3, acE ad_acts o1.1 o1.2.1), (ad_acts 0, aO G 14 (fun j => some (ra_acts_before j)))] ++ plist ra_acts_before o1.2.2 14) H := hP
  have hD : va_D A ([(h0, xoE ad s_keptSlots s_seenCount s_seed), (ad 1, stE s_now_people s_now_kinds s_now_deeds s_now_feeding o3.2.1 s_now_dead o3.2.2), (ad 3, acE ad_acts o1.1 o1.2.1), (ad_acts 0, aO G 14 (fun j => some (ra_acts_before j)))] ++ plist ra_acts_before o1.2.2 14) := hD
  have hv := Option.some.inj hf
  exact hret _ _ _ _ _ (by rw [← hv]; exact hP) hS (by rw [← hv]) dX3_day_18
def fX3_undo (s_now_people : Int32) (s_now_kinds : Int32) (s_now_deeds : Int32) (s_now_feeding : Int64) (s_now_large : Int32) (s_now_dead : Int32) (s_now_dayNumber : Int32) (s_acts_first : Int32) (s_acts_count : Int32) (p_acts_before : Nat → St) : Option (Int32 × Int32 × Int32 × Int32 × Int64 × Int32 × Int32 × Int32 × Int32) :=
  (fX0_takeBackInto s_acts_first s_acts_count s_now_people s_now_kinds s_now_deeds s_now_feeding s_now_large s_now_dead s_now_dayNumber p_acts_before).bind fun o1 => ((if o1.1 = 0 then some ((-3), o1.2.2.1, o1.2.2.2.1, o1.2.2.2.2.1, o1.2.2.2.2.2.1, o1.2.2.2.2.2.2.1, o1.2.2.2.2.2.2.2.1, o1.2.2.2.2.2.2.2.2, o1.2.1) else some (o1.2.1, o1.2.2.1, o1.2.2.2.1, o1.2.2.2.2.1, o1.2.2.2.2.2.1, o1.2.2.2.2.2.2.1, o1.2.2.2.2.2.2.2.1, o1.2.2.2.2.2.2.2.2, o1.2.1)))
set_option maxHeartbeats 4000000 in
set_option maxRecDepth 100000 in
theorem ctX3_undo (l : Launch) (G : GG) (h0 : Nat) (ad : Nat → Nat) (ad_acts : Nat → Nat) (ra_acts_before : Nat → Nat) (s_keptSlots : Int32) (s_seenCount : Int32) (s_seed : Int64) (s_now_people : Int32) (s_now_kinds : Int32) (s_now_deeds : Int32) (s_now_feeding : Int64) (s_now_large : Int32) (s_now_dead : Int32) (s_now_dayNumber : Int32) (s_acts_first : Int32) (s_acts_count : Int32) (p_acts_before : Nat → St) (out : Int32 × Int32 × Int32 × Int32 × Int64 × Int32 × Int32 × Int32 × Int32) (hf : fX3_undo s_now_people s_now_kinds s_now_deeds s_now_feeding s_now_large s_now_dead s_now_dayNumber s_acts_first s_acts_count p_acts_before = some out) : Met l yX3_undo wsX3_undo ({ frames := 2, cells := 0, slots := 0, locals := 42 }) (PcW G [.ref h0] ([(h0, xoE ad s_keptSlots s_seenCount s_seed), (ad 1, stE s_now_people s_now_kinds s_now_deeds s_now_feeding s_now_large s_now_dead s_now_dayNumber), (ad 3, acE ad_acts s_acts_first s_acts_count), (ad_acts 0, aO G 14 (fun j => some (ra_acts_before j)))] ++ plist ra_acts_before p_acts_before 14)) (QiW G ([(h0, xoE ad s_keptSlots s_seenCount s_seed), (ad 1, stE s_now_people s_now_kinds s_now_deeds s_now_feeding s_now_large s_now_dead s_now_dayNumber), (ad 3, acE ad_acts s_acts_first s_acts_count), (ad_acts 0, aO G 14 (fun j => some (ra_acts_before j)))] ++ plist ra_acts_before p_acts_before 14) ([(h0, xoE ad s_keptSlots s_seenCount s_seed), (ad 1, stE out.2.1 out.2.2.1 out.2.2.2.1 out.2.2.2.2.1 out.2.2.2.2.2.1 out.2.2.2.2.2.2.1 out.2.2.2.2.2.2.2.1), (ad 3, acE ad_acts s_acts_first out.2.2.2.2.2.2.2.2), (ad_acts 0, aO G 14 (fun j => some (ra_acts_before j)))] ++ plist ra_acts_before p_acts_before 14) out.1) 0 0 (inA ([(h0, xoE ad s_keptSlots s_seenCount s_seed), (ad 1, stE s_now_people s_now_kinds s_now_deeds s_now_feeding s_now_large s_now_dead s_now_dayNumber), (ad 3, acE ad_acts s_acts_first s_acts_count), (ad_acts 0, aO G 14 (fun j => some (ra_acts_before j)))] ++ plist ra_acts_before p_acts_before 14)) := by
  refine mk_Wi (cc := cX3_undo) (maxL := 1) (by decide) rfl (Nat.le_of_ble_eq_true rfl) ?_
  intro p e s m args below meth c Q ls A S hP hK hD hl hret
  obtain ⟨hx, hb, hml, hown, hts⟩ := S
  have hown : s.vm.findClass RX3 = some m.cls := hown
  have kl_29 := hts (.fieldLink RX3 29 "ArrestOrder" "acts" "LArrestOrder$Acts;") (by decide +kernel)
  have hi_X3 : ∀ w ∈ wsX30, w ∈ wsX3_undo := fun _ h => List.mem_cons_of_mem _ (List.mem_append_left _ (List.mem_append_left _ (List.mem_append_right _ h)))
  have kl_19 := hts (.fieldLink RX3 19 "ArrestOrder" "now" "LArrestOrder$Standing;") (by decide +kernel)
  have hi_X0 : ∀ w ∈ wsX00, w ∈ wsX3_undo := fun _ h => List.mem_cons_of_mem _ (List.mem_append_left _ (List.mem_append_right _ h))
  have hS : va_S A s.heap s.heap [] := va_S.rf
  have hl : lv_has ls 1 [(0, .ref h0)] := hl
  refine lv_aload_n hx hb dX3_undo_0 rfl (lv_at hl 0 rfl) ?_
  refine va_get (D := gD G) (ci := 3) (v := .ref (ad 3)) (C := RX3) (T := TX3) (N := 11) hx hb hts hi_X3 hown hK.1 hP 0 rfl rfl 3 (by decide) kl_29 (fun _ h9 => h9) rfl dX3_undo_1 ?_
  refine lv_aload_n hx hb dX3_undo_4 rfl (lv_at hl 0 rfl) ?_
  refine va_get (D := gD G) (ci := 3) (v := .ref (ad 1)) (C := RX3) (T := TX3) (N := 11) hx hb hts hi_X3 hown hK.1 hP 0 rfl rfl 1 (by decide) kl_19 (fun _ h9 => h9) rfl dX3_undo_5 ?_
  obtain ⟨o1, hc2, hf⟩ := bindS hf
  refine rw_iT (va_runVN (C := RX0) (As := [.ref (ad 1)]) (rest := []) ⟨hx, hb, hml, hown, hts⟩ (ctX0_takeBackInto l G (ad 3) (ad 1) ad_acts ra_acts_before s_acts_first s_acts_count s_now_people s_now_kinds s_now_deeds s_now_feeding s_now_large s_now_dead s_now_dayNumber p_acts_before o1 hc2) ⟨va_cnB 1 hts gX3_undo_X0_takeBackInto_n148 rfl rfl rfl (nm_X3_148 hK.2) (hts (.initialized RX0) (by decide +kernel)) (by decide +kernel) ⟨Nat.le_of_ble_eq_true rfl, Nat.le_of_ble_eq_true rfl⟩, hts (.instanceMethod yX0_takeBackInto) (by decide +kernel), hts (.selects RX0 yX0_takeBackInto yX0_takeBackInto) (by decide +kernel)⟩ (preW_V (q0 := 0) (ci := 0) (P_tsub (Y := [(ad 3, acE ad_acts s_acts_first s_acts_count), (ad_acts 0, aO G 14 (fun j => some (ra_acts_before j))), (ad 1, stE s_now_people s_now_kinds s_now_deeds s_now_feeding s_now_large s_now_dead s_now_dayNumber)]) hP [2, 3, 1] rfl) (D_tsub (Y := [(ad 3, acE ad_acts s_acts_first s_acts_count), (ad_acts 0, aO G 14 (fun j => some (ra_acts_before j))), (ad 1, stE s_now_people s_now_kinds s_now_deeds s_now_feeding s_now_large s_now_dead s_now_dayNumber)]) hD [2, 3, 1] (by decide) rfl) hK rfl rfl) rfl rfl hl.1 rfl (lv_room (Nat.le_of_ble_eq_true rfl)) dX3_undo_8 ⟨Nat.zero_le _, Nat.zero_le _⟩) hS hP hD [2, 3, 1] rfl rfl rfl plist_addr (fun H locs hP hD hS => ?_)
  have hP : va_P (gD G) vwCl ([(h0, xoE ad s_keptSlots s_seenCount s_seed), (ad 1, stE o1.2.2.1 o1.2.2.2.1 o1.2.2.2.2.1 o1.2.2.2.2.2.1 o1.2.2.2.2.2.2.1 o1.2.2.2.2.2.2.2.1 o1.2.2.2.2.2.2.2.2), (ad 3, acE ad_acts s_acts_first o1.2.1), (ad_acts 0, aO G 14 (fun j => some (ra_acts_before j)))] ++ plist ra_acts_before p_acts_before 14) H := hP
  have hD : va_D A ([(h0, xoE ad s_keptSlots s_seenCount s_seed), (ad 1, stE o1.2.2.1 o1.2.2.2.1 o1.2.2.2.2.1 o1.2.2.2.2.2.1 o1.2.2.2.2.2.2.1 o1.2.2.2.2.2.2.2.1 o1.2.2.2.2.2.2.2.2), (ad 3, acE ad_acts s_acts_first o1.2.1), (ad_acts 0, aO G 14 (fun j => some (ra_acts_before j)))] ++ plist ra_acts_before p_acts_before 14) := hD
  refine lv_if_eq (tgt := 24) hx hb dX3_undo_11 (by decide) (fun c3 => ?_) (fun c3 => ?_)
  · have hf := iteT hf c3
    refine lv_bipush (v := (-3)) hx hb dX3_undo_24 (by decide) ?_
    have hv := Option.some.inj hf
    exact hret _ _ _ _ _ (by rw [← hv]; exact hP) hS (by rw [← hv]) dX3_undo_26
  · have hf := iteF hf c3
    refine lv_aload_n hx hb dX3_undo_14 rfl (lv_at hl 0 rfl) ?_
    refine va_get (D := gD G) (ci := 3) (v := .ref (ad 3)) (C := RX3) (T := TX3) (N := 11) hx hb hts hi_X3 hown hK.1 hP 0 rfl rfl 3 (by decide) kl_29 (fun _ h9 => h9) rfl dX3_undo_15 ?_
    refine va_getN (D := gD G) (ci := 0) (v := .int o1.2.1) (C := RX0) (T := TX0) (N := 3) hx hb hts hi_X0 hown hK.1 hP 2 rfl rfl 2 (by decide) (nf_X3_63 hK.2) (fun _ h9 => h9) rfl dX3_undo_18 ?_
    refine lv_goto (tgt := 26) hx hb dX3_undo_21 (by decide) ?_
    have hv := Option.some.inj hf
    exact hret _ _ _ _ _ (by rw [← hv]; exact hP) hS (by rw [← hv]) dX3_undo_26
def fX3_keep (s_keptSlots : Int32) (s_now_people : Int32) (s_now_kinds : Int32) (s_now_deeds : Int32) (s_now_feeding : Int64) (s_now_large : Int32) (s_now_dead : Int32) (s_now_dayNumber : Int32) (p_slots : Nat → St) (a1 : Int32) : Option (Int32 × Int32 × (Nat → St)) :=
  (if a1 < 0 then some ((-1), s_keptSlots, p_slots) else (if a1 < 2 then ck a1 2 ((fX1_copy ((p_slots (Int32.toNatClampNeg a1)).1) ((p_slots (Int32.toNatClampNeg a1)).2.1) ((p_slots (Int32.toNatClampNeg a1)).2.2.1) ((p_slots (Int32.toNatClampNeg a1)).2.2.2.1) ((p_slots (Int32.toNatClampNeg a1)).2.2.2.2.1) ((p_slots (Int32.toNatClampNeg a1)).2.2.2.2.2.1) ((p_slots (Int32.toNatClampNeg a1)).2.2.2.2.2.2) s_now_people s_now_kinds s_now_deeds s_now_feeding s_now_large s_now_dead s_now_dayNumber).bind fun o4 => ((fX3_bit a1).bind fun o7 => (some (s_now_dayNumber, (s_keptSlots ||| o7), (va_up p_slots (Int32.toNatClampNeg a1) o4))))) else some ((-1), s_keptSlots, p_slots)))
set_option maxHeartbeats 4000000 in
set_option maxRecDepth 100000 in
theorem ctX3_keep (l : Launch) (G : GG) (h0 : Nat) (ad : Nat → Nat) (ra_slots : Nat → Nat) (s_keptSlots : Int32) (s_seenCount : Int32) (s_seed : Int64) (s_now_people : Int32) (s_now_kinds : Int32) (s_now_deeds : Int32) (s_now_feeding : Int64) (s_now_large : Int32) (s_now_dead : Int32) (s_now_dayNumber : Int32) (p_slots : Nat → St) (a1 : Int32) (out : Int32 × Int32 × (Nat → St)) (hf : fX3_keep s_keptSlots s_now_people s_now_kinds s_now_deeds s_now_feeding s_now_large s_now_dead s_now_dayNumber p_slots a1 = some out) : Met l yX3_keep wsX3_keep ({ frames := 1, cells := 0, slots := 0, locals := 21 }) (PcW G [.ref h0, .int a1] ([(h0, xoE ad s_keptSlots s_seenCount s_seed), (ad 1, stE s_now_people s_now_kinds s_now_deeds s_now_feeding s_now_large s_now_dead s_now_dayNumber), (ad 4, aO G 2 (fun j => some (ra_slots j)))] ++ plist ra_slots p_slots 2)) (QiW G ([(h0, xoE ad s_keptSlots s_seenCount s_seed), (ad 1, stE s_now_people s_now_kinds s_now_deeds s_now_feeding s_now_large s_now_dead s_now_dayNumber), (ad 4, aO G 2 (fun j => some (ra_slots j)))] ++ plist ra_slots p_slots 2) ([(h0, xoE ad out.2.1 s_seenCount s_seed), (ad 1, stE s_now_people s_now_kinds s_now_deeds s_now_feeding s_now_large s_now_dead s_now_dayNumber), (ad 4, aO G 2 (fun j => some (ra_slots j)))] ++ plist ra_slots out.2.2 2) out.1) 0 0 (inA ([(h0, xoE ad s_keptSlots s_seenCount s_seed), (ad 1, stE s_now_people s_now_kinds s_now_deeds s_now_feeding s_now_large s_now_dead s_now_dayNumber), (ad 4, aO G 2 (fun j => some (ra_slots j)))] ++ plist ra_slots p_slots 2)) := by
  refine mk_Wi (cc := cX3_keep) (maxL := 2) (by decide) rfl (Nat.le_of_ble_eq_true rfl) ?_
  intro p e s m args below meth c Q ls A S hP hK hD hl hret
  obtain ⟨hx, hb, hml, hown, hts⟩ := S
  have hown : s.vm.findClass RX3 = some m.cls := hown
  have kl_33 := hts (.fieldLink RX3 33 "ArrestOrder" "slots" "[LArrestOrder$Standing;") (by decide +kernel)
  have hi_X3 : ∀ w ∈ wsX30, w ∈ wsX3_keep := fun _ h => List.mem_cons_of_mem _ (List.mem_append_left _ (List.mem_append_right _ h))
  have kl_19 := hts (.fieldLink RX3 19 "ArrestOrder" "now" "LArrestOrder$Standing;") (by decide +kernel)
  have kl_66 := hts (.fieldLink RX3 66 "ArrestOrder" "keptSlots" "I") (by decide +kernel)
  have hi_X1 : ∀ w ∈ wsX10, w ∈ wsX3_keep := fun _ h => List.mem_cons_of_mem _ (List.mem_append_right _ h)
  have hS : va_S A s.heap s.heap [] := va_S.rf
  have hl : lv_has ls 2 [(0, .ref h0), (1, .int a1)] := hl
  refine lv_iload_n hx hb dX3_keep_0 rfl (lv_at hl 1 rfl) ?_
  refine lv_if_lt (tgt := 9) hx hb dX3_keep_1 (by decide) (fun c1 => ?_) (fun c1 => ?_)
  · have hf := iteT hf c1
    refine lv_iconst (v := (-1)) hx hb dX3_keep_9 (by decide) ?_
    have hv := Option.some.inj hf
    exact hret _ _ _ _ _ (by rw [← hv]; exact hP) hS (by rw [← hv]) dX3_keep_10
  · have hf := iteF hf c1
    refine lv_iload_n hx hb dX3_keep_4 rfl (lv_at hl 1 rfl) ?_
    refine lv_iconst (v := 2) hx hb dX3_keep_5 (by decide) ?_
    refine lv_icmp_lt (tgt := 11) hx hb dX3_keep_6 (by decide) (fun c2 => ?_) (fun c2 => ?_)
    · have hf := iteT hf c2
      refine lv_aload_n hx hb dX3_keep_11 rfl (lv_at hl 0 rfl) ?_
      refine va_get (D := gD G) (ci := 3) (v := .ref (ad 4)) (C := RX3) (T := TX3) (N := 11) hx hb hts hi_X3 hown hK.1 hP 0 rfl rfl 4 (by decide) kl_33 (fun _ h9 => h9) rfl dX3_keep_12 ?_
      refine lv_iload_n hx hb dX3_keep_15 rfl (lv_at hl 1 rfl) ?_
      obtain ⟨hi3, hf⟩ := ckS hf
      refine va_aldq hx hb hK.1 hP 2 3 rfl rfl hi3 dX3_keep_16 ?_
      refine W.eq (g2 := F0 m 17 ls [.ref (ra_slots (Int32.toNatClampNeg a1))]) rfl ?_
      refine lv_aload_n hx hb dX3_keep_17 rfl (lv_at hl 0 rfl) ?_
      refine va_get (D := gD G) (ci := 3) (v := .ref (ad 1)) (C := RX3) (T := TX3) (N := 11) hx hb hts hi_X3 hown hK.1 hP 0 rfl rfl 1 (by decide) kl_19 (fun _ h9 => h9) rfl dX3_keep_18 ?_
      obtain ⟨o4, hc5, hf⟩ := bindS hf
      obtain ⟨hp61, hp62, hp63, hp64⟩ := pl_two hP hD (j := 1) (vp_lt hi3) rfl
      refine rw_pT (Int32.toNatClampNeg a1) 1 (o := o4) (va_runVN (C := RX1) (As := [.ref (ad 1)]) (rest := []) ⟨hx, hb, hml, hown, hts⟩ (ctX1_copy l G (ra_slots (Int32.toNatClampNeg a1)) (ad 1) ((p_slots (Int32.toNatClampNeg a1)).1) ((p_slots (Int32.toNatClampNeg a1)).2.1) ((p_slots (Int32.toNatClampNeg a1)).2.2.1) ((p_slots (Int32.toNatClampNeg a1)).2.2.2.1) ((p_slots (Int32.toNatClampNeg a1)).2.2.2.2.1) ((p_slots (Int32.toNatClampNeg a1)).2.2.2.2.2.1) ((p_slots (Int32.toNatClampNeg a1)).2.2.2.2.2.2) s_now_people s_now_kinds s_now_deeds s_now_feeding s_now_large s_now_dead s_now_dayNumber o4 hc5) ⟨va_cnB 1 hts gX3_keep_X1_copy_n59 rfl rfl rfl (nm_X3_59 hK.2) (hts (.initialized RX1) (by decide +kernel)) (by decide +kernel) ⟨Nat.le_of_ble_eq_true rfl, Nat.le_of_ble_eq_true rfl⟩, hts (.instanceMethod yX1_copy) (by decide +kernel), hts (.selects RX1 yX1_copy yX1_copy) (by decide +kernel)⟩ (preW_V (q0 := 0) (ci := 1) hp61 hp62 hK rfl rfl) rfl rfl hl.1 rfl (lv_room (Nat.le_of_ble_eq_true rfl)) dX3_keep_21 ⟨Nat.zero_le _, Nat.zero_le _⟩) hS hP hD (vp_lt hi3) rfl rfl (fun H locs hP hD hS => ?_)
      have hP : va_P (gD G) vwCl ([(h0, xoE ad s_keptSlots s_seenCount s_seed), (ad 1, stE s_now_people s_now_kinds s_now_deeds s_now_feeding s_now_large s_now_dead s_now_dayNumber), (ad 4, aO G 2 (fun j => some (ra_slots j)))] ++ plist ra_slots (va_up p_slots (Int32.toNatClampNeg a1) o4) 2) H := hP
      have hD : va_D A ([(h0, xoE ad s_keptSlots s_seenCount s_seed), (ad 1, stE s_now_people s_now_kinds s_now_deeds s_now_feeding s_now_large s_now_dead s_now_dayNumber), (ad 4, aO G 2 (fun j => some (ra_slots j)))] ++ plist ra_slots (va_up p_slots (Int32.toNatClampNeg a1) o4) 2) := hD
      refine lv_aload_n hx hb dX3_keep_24 rfl (lv_at hl 0 rfl) ?_
      refine lv_dup hx hb dX3_keep_25 rfl ?_
      refine va_get (D := gD G) (ci := 3) (v := .int s_keptSlots) (C := RX3) (T := TX3) (N := 11) hx hb hts hi_X3 hown hK.1 hP 0 rfl rfl 5 (by decide) kl_66 (fun _ h9 => h9) rfl dX3_keep_26 ?_
      refine lv_iload_n hx hb dX3_keep_29 rfl (lv_at hl 1 rfl) ?_
      obtain ⟨o7, hc8, hf⟩ := bindS hf
      refine ro_i (va_runS (As := [.int a1]) (rest := [.int s_keptSlots, .ref h0]) ⟨hx, hb, hml, hown, hts⟩ (ctX3_bit l G a1 o7 hc8) (va_cwS 1 hts gX3_keep_X3_bit rfl rfl rfl (by decide +kernel) ⟨Nat.le_of_ble_eq_true rfl, Nat.le_of_ble_eq_true rfl⟩) (preR_S (hP.sub (ws' := []) [] rfl) hK) rfl rfl hl.1 rfl (lv_room (Nat.le_of_ble_eq_true rfl)) dX3_keep_30 ⟨Nat.zero_le _, Nat.zero_le _⟩) hS hP (fun H locs hP hS => ?_)
      refine lv_ior hx hb dX3_keep_33 ?_
      refine va_put (D := gD G) (ci := 3) (v := .int (s_keptSlots ||| o7)) (ty := .int) (C := RX3) (T := TX3) (N := 11) hx hb hts hi_X3 tyX3 tyX3_ok nmX3 hown hK.1 hP hD hS 0 rfl rfl 5 (by decide) kl_66 (fun _ h9 => h9) rfl (tyX3_ok 5 (by decide)) rfl rfl (Nat.le_of_ble_eq_true rfl) dX3_keep_34 (fun H locs hP hD hS => ?_)
      have hP : va_P (gD G) vwCl ([(h0, xoE ad (s_keptSlots ||| o7) s_seenCount s_seed), (ad 1, stE s_now_people s_now_kinds s_now_deeds s_now_feeding s_now_large s_now_dead s_now_dayNumber), (ad 4, aO G 2 (fun j => some (ra_slots j)))] ++ plist ra_slots (va_up p_slots (Int32.toNatClampNeg a1) o4) 2) H := hP
      have hD : va_D A ([(h0, xoE ad (s_keptSlots ||| o7) s_seenCount s_seed), (ad 1, stE s_now_people s_now_kinds s_now_deeds s_now_feeding s_now_large s_now_dead s_now_dayNumber), (ad 4, aO G 2 (fun j => some (ra_slots j)))] ++ plist ra_slots (va_up p_slots (Int32.toNatClampNeg a1) o4) 2) := hD
      refine lv_aload_n hx hb dX3_keep_37 rfl (lv_at hl 0 rfl) ?_
      refine va_get (D := gD G) (ci := 3) (v := .ref (ad 1)) (C := RX3) (T := TX3) (N := 11) hx hb hts hi_X3 hown hK.1 hP 0 rfl rfl 1 (by decide) kl_19 (fun _ h9 => h9) rfl dX3_keep_38 ?_
      refine va_getN (D := gD G) (ci := 1) (v := .int s_now_dayNumber) (C := RX1) (T := TX1) (N := 7) hx hb hts hi_X1 hown hK.1 hP 1 rfl rfl 6 (by decide) (nf_X3_86 hK.2) (fun _ h9 => h9) rfl dX3_keep_41 ?_
      have hv := Option.some.inj hf
      exact hret _ _ _ _ _ (by rw [← hv]; exact hP) hS (by rw [← hv]) dX3_keep_44
    · have hf := iteF hf c2
      refine lv_iconst (v := (-1)) hx hb dX3_keep_9 (by decide) ?_
      have hv := Option.some.inj hf
      exact hret _ _ _ _ _ (by rw [← hv]; exact hP) hS (by rw [← hv]) dX3_keep_10
def fX3_again (s_keptSlots : Int32) (s_now_people : Int32) (s_now_kinds : Int32) (s_now_deeds : Int32) (s_now_feeding : Int64) (s_now_large : Int32) (s_now_dead : Int32) (s_now_dayNumber : Int32) (s_acts_count : Int32) (p_slots : Nat → St) (a1 : Int32) : Option (Int32 × Int32 × Int32 × Int32 × Int64 × Int32 × Int32 × Int32 × Int32) :=
  (if a1 < 0 then some ((-1), s_now_people, s_now_kinds, s_now_deeds, s_now_feeding, s_now_large, s_now_dead, s_now_dayNumber, s_acts_count) else (if a1 < 2 then (fX3_isIn s_keptSlots a1).bind fun o3 => ((if o3 = 0 then some ((-3), s_now_people, s_now_kinds, s_now_deeds, s_now_feeding, s_now_large, s_now_dead, s_now_dayNumber, s_acts_count) else ck a1 2 ((fX1_copy s_now_people s_now_kinds s_now_deeds s_now_feeding s_now_large s_now_dead s_now_dayNumber ((p_slots (Int32.toNatClampNeg a1)).1) ((p_slots (Int32.toNatClampNeg a1)).2.1) ((p_slots (Int32.toNatClampNeg a1)).2.2.1) ((p_slots (Int32.toNatClampNeg a1)).2.2.2.1) ((p_slots (Int32.toNatClampNeg a1)).2.2.2.2.1) ((p_slots (Int32.toNatClampNeg a1)).2.2.2.2.2.1) ((p_slots (Int32.toNatClampNeg a1)).2.2.2.2.2.2)).bind fun o7 => (some (o7.2.2.2.2.2.2, o7.1, o7.2.1, o7.2.2.1, o7.2.2.2.1, o7.2.2.2.2.1, o7.2.2.2.2.2.1, o7.2.2.2.2.2.2, 0))))) else some ((-1), s_now_people, s_now_kinds, s_now_deeds, s_now_feeding, s_now_large, s_now_dead, s_now_dayNumber, s_acts_count)))
set_option maxHeartbeats 4000000 in
set_option maxRecDepth 100000 in
theorem ctX3_again (l : Launch) (G : GG) (h0 : Nat) (ad : Nat → Nat) (ad_acts : Nat → Nat) (ra_slots : Nat → Nat) (s_keptSlots : Int32) (s_seenCount : Int32) (s_seed : Int64) (s_now_people : Int32) (s_now_kinds : Int32) (s_now_deeds : Int32) (s_now_feeding : Int64) (s_now_large : Int32) (s_now_dead : Int32) (s_now_dayNumber : Int32) (s_acts_first : Int32) (s_acts_count : Int32) (p_slots : Nat → St) (a1 : Int32) (out : Int32 × Int32 × Int32 × Int32 × Int64 × Int32 × Int32 × Int32 × Int32) (hf : fX3_again s_keptSlots s_now_people s_now_kinds s_now_deeds s_now_feeding s_now_large s_now_dead s_now_dayNumber s_acts_count p_slots a1 = some out) : Met l yX3_again wsX3_again ({ frames := 1, cells := 0, slots := 0, locals := 21 }) (PcW G [.ref h0, .int a1] ([(h0, xoE ad s_keptSlots s_seenCount s_seed), (ad 1, stE s_now_people s_now_kinds s_now_deeds s_now_feeding s_now_large s_now_dead s_now_dayNumber), (ad 3, acE ad_acts s_acts_first s_acts_count), (ad 4, aO G 2 (fun j => some (ra_slots j)))] ++ plist ra_slots p_slots 2)) (QiW G ([(h0, xoE ad s_keptSlots s_seenCount s_seed), (ad 1, stE s_now_people s_now_kinds s_now_deeds s_now_feeding s_now_large s_now_dead s_now_dayNumber), (ad 3, acE ad_acts s_acts_first s_acts_count), (ad 4, aO G 2 (fun j => some (ra_slots j)))] ++ plist ra_slots p_slots 2) ([(h0, xoE ad s_keptSlots s_seenCount s_seed), (ad 1, stE out.2.1 out.2.2.1 out.2.2.2.1 out.2.2.2.2.1 out.2.2.2.2.2.1 out.2.2.2.2.2.2.1 out.2.2.2.2.2.2.2.1), (ad 3, acE ad_acts s_acts_first out.2.2.2.2.2.2.2.2), (ad 4, aO G 2 (fun j => some (ra_slots j)))] ++ plist ra_slots p_slots 2) out.1) 0 0 (inA ([(h0, xoE ad s_keptSlots s_seenCount s_seed), (ad 1, stE s_now_people s_now_kinds s_now_deeds s_now_feeding s_now_large s_now_dead s_now_dayNumber), (ad 3, acE ad_acts s_acts_first s_acts_count), (ad 4, aO G 2 (fun j => some (ra_slots j)))] ++ plist ra_slots p_slots 2)) := by
  refine mk_Wi (cc := cX3_again) (maxL := 2) (by decide) rfl (Nat.le_of_ble_eq_true rfl) ?_
  intro p e s m args below meth c Q ls A S hP hK hD hl hret
  obtain ⟨hx, hb, hml, hown, hts⟩ := S
  have hown : s.vm.findClass RX3 = some m.cls := hown
  have kl_66 := hts (.fieldLink RX3 66 "ArrestOrder" "keptSlots" "I") (by decide +kernel)
  have hi_X3 : ∀ w ∈ wsX30, w ∈ wsX3_again := fun _ h => List.mem_cons_of_mem _ (List.mem_append_left _ (List.mem_append_left _ (List.mem_append_right _ h)))
  have kl_19 := hts (.fieldLink RX3 19 "ArrestOrder" "now" "LArrestOrder$Standing;") (by decide +kernel)
  have kl_33 := hts (.fieldLink RX3 33 "ArrestOrder" "slots" "[LArrestOrder$Standing;") (by decide +kernel)
  have kl_29 := hts (.fieldLink RX3 29 "ArrestOrder" "acts" "LArrestOrder$Acts;") (by decide +kernel)
  have hi_X0 : ∀ w ∈ wsX00, w ∈ wsX3_again := fun _ h => List.mem_cons_of_mem _ (List.mem_append_left _ (List.mem_append_right _ h))
  have hi_X1 : ∀ w ∈ wsX10, w ∈ wsX3_again := fun _ h => List.mem_cons_of_mem _ (List.mem_append_right _ h)
  have hS : va_S A s.heap s.heap [] := va_S.rf
  have hl : lv_has ls 2 [(0, .ref h0), (1, .int a1)] := hl
  refine lv_iload_n hx hb dX3_again_0 rfl (lv_at hl 1 rfl) ?_
  refine lv_if_lt (tgt := 9) hx hb dX3_again_1 (by decide) (fun c1 => ?_) (fun c1 => ?_)
  · have hf := iteT hf c1
    refine lv_iconst (v := (-1)) hx hb dX3_again_9 (by decide) ?_
    have hv := Option.some.inj hf
    exact hret _ _ _ _ _ (by rw [← hv]; exact hP) hS (by rw [← hv]) dX3_again_10
  · have hf := iteF hf c1
    refine lv_iload_n hx hb dX3_again_4 rfl (lv_at hl 1 rfl) ?_
    refine lv_iconst (v := 2) hx hb dX3_again_5 (by decide) ?_
    refine lv_icmp_lt (tgt := 11) hx hb dX3_again_6 (by decide) (fun c2 => ?_) (fun c2 => ?_)
    · have hf := iteT hf c2
      refine lv_aload_n hx hb dX3_again_11 rfl (lv_at hl 0 rfl) ?_
      refine va_get (D := gD G) (ci := 3) (v := .int s_keptSlots) (C := RX3) (T := TX3) (N := 11) hx hb hts hi_X3 hown hK.1 hP 0 rfl rfl 5 (by decide) kl_66 (fun _ h9 => h9) rfl dX3_again_12 ?_
      refine lv_iload_n hx hb dX3_again_15 rfl (lv_at hl 1 rfl) ?_
      obtain ⟨o3, hc4, hf⟩ := bindS hf
      refine ro_i (va_runS (As := [.int s_keptSlots, .int a1]) (rest := []) ⟨hx, hb, hml, hown, hts⟩ (ctX3_isIn l G s_keptSlots a1 o3 hc4) (va_cwS 2 hts gX3_again_X3_isIn rfl rfl rfl (by decide +kernel) ⟨Nat.le_of_ble_eq_true rfl, Nat.le_of_ble_eq_true rfl⟩) (preR_S (hP.sub (ws' := []) [] rfl) hK) rfl rfl hl.1 rfl (lv_room (Nat.le_of_ble_eq_true rfl)) dX3_again_16 ⟨Nat.zero_le _, Nat.zero_le _⟩) hS hP (fun H locs hP hS => ?_)
      refine lv_if_ne (tgt := 25) hx hb dX3_again_19 (by decide) (fun c5 => ?_) (fun c5 => ?_)
      · have hf := iteF hf c5
        refine lv_aload_n hx hb dX3_again_25 rfl (lv_at hl 0 rfl) ?_
        refine va_get (D := gD G) (ci := 3) (v := .ref (ad 1)) (C := RX3) (T := TX3) (N := 11) hx hb hts hi_X3 hown hK.1 hP 0 rfl rfl 1 (by decide) kl_19 (fun _ h9 => h9) rfl dX3_again_26 ?_
        refine lv_aload_n hx hb dX3_again_29 rfl (lv_at hl 0 rfl) ?_
        refine va_get (D := gD G) (ci := 3) (v := .ref (ad 4)) (C := RX3) (T := TX3) (N := 11) hx hb hts hi_X3 hown hK.1 hP 0 rfl rfl 4 (by decide) kl_33 (fun _ h9 => h9) rfl dX3_again_30 ?_
        refine lv_iload_n hx hb dX3_again_33 rfl (lv_at hl 1 rfl) ?_
        obtain ⟨hi6, hf⟩ := ckS hf
        refine va_aldq hx hb hK.1 hP 3 3 rfl rfl hi6 dX3_again_34 ?_
        refine W.eq (g2 := F0 m 35 ls [.ref (ra_slots (Int32.toNatClampNeg a1)), .ref (ad 1)]) rfl ?_
        obtain ⟨o7, hc8, hf⟩ := bindS hf
        obtain ⟨hp91, hp92, hp93, hp94⟩ := pl_two hP hD (j := 1) (vp_lt hi6) rfl
        refine rw_pF (Int32.toNatClampNeg a1) 1 (va_runVN (C := RX1) (As := [.ref (ra_slots (Int32.toNatClampNeg a1))]) (rest := []) ⟨hx, hb, hml, hown, hts⟩ (ctX1_copy l G (ad 1) (ra_slots (Int32.toNatClampNeg a1)) s_now_people s_now_kinds s_now_deeds s_now_feeding s_now_large s_now_dead s_now_dayNumber ((p_slots (Int32.toNatClampNeg a1)).1) ((p_slots (Int32.toNatClampNeg a1)).2.1) ((p_slots (Int32.toNatClampNeg a1)).2.2.1) ((p_slots (Int32.toNatClampNeg a1)).2.2.2.1) ((p_slots (Int32.toNatClampNeg a1)).2.2.2.2.1) ((p_slots (Int32.toNatClampNeg a1)).2.2.2.2.2.1) ((p_slots (Int32.toNatClampNeg a1)).2.2.2.2.2.2) o7 hc8) ⟨va_cnB 1 hts gX3_again_X1_copy_n59 rfl rfl rfl (nm_X3_59 hK.2) (hts (.initialized RX1) (by decide +kernel)) (by decide +kernel) ⟨Nat.le_of_ble_eq_true rfl, Nat.le_of_ble_eq_true rfl⟩, hts (.instanceMethod yX1_copy) (by decide +kernel), hts (.selects RX1 yX1_copy yX1_copy) (by decide +kernel)⟩ (preW_V (q0 := 0) (ci := 1) hp93 hp94 hK rfl rfl) rfl rfl hl.1 rfl (lv_room (Nat.le_of_ble_eq_true rfl)) dX3_again_35 ⟨Nat.zero_le _, Nat.zero_le _⟩) hS hP hD (vp_lt hi6) rfl rfl (fun H locs hP hD hS => ?_)
        have hP : va_P (gD G) vwCl ([(h0, xoE ad s_keptSlots s_seenCount s_seed), (ad 1, stE o7.1 o7.2.1 o7.2.2.1 o7.2.2.2.1 o7.2.2.2.2.1 o7.2.2.2.2.2.1 o7.2.2.2.2.2.2), (ad 3, acE ad_acts s_acts_first s_acts_count), (ad 4, aO G 2 (fun j => some (ra_slots j)))] ++ plist ra_slots p_slots 2) H := hP
        have hD : va_D A ([(h0, xoE ad s_keptSlots s_seenCount s_seed), (ad 1, stE o7.1 o7.2.1 o7.2.2.1 o7.2.2.2.1 o7.2.2.2.2.1 o7.2.2.2.2.2.1 o7.2.2.2.2.2.2), (ad 3, acE ad_acts s_acts_first s_acts_count), (ad 4, aO G 2 (fun j => some (ra_slots j)))] ++ plist ra_slots p_slots 2) := hD
        refine lv_aload_n hx hb dX3_again_38 rfl (lv_at hl 0 rfl) ?_
        refine va_get (D := gD G) (ci := 3) (v := .ref (ad 3)) (C := RX3) (T := TX3) (N := 11) hx hb hts hi_X3 hown hK.1 hP 0 rfl rfl 3 (by decide) kl_29 (fun _ h9 => h9) rfl dX3_again_39 ?_
        refine lv_iconst (v := 0) hx hb dX3_again_42 (by decide) ?_
        refine va_putN (D := gD G) (ci := 0) (v := .int 0) (ty := .int) (C := RX0) (T := TX0) (N := 3) hx hb hts hi_X0 tyX0 tyX0_ok nmX0 hown hK.1 hP hD hS 2 rfl rfl 2 (by decide) (nf_X3_63 hK.2) (fun _ h9 => h9) rfl (tyX0_ok 2 (by decide)) rfl rfl (Nat.le_of_ble_eq_true rfl) dX3_again_43 (fun H locs hP hD hS => ?_)
        have hP : va_P (gD G) vwCl ([(h0, xoE ad s_keptSlots s_seenCount s_seed), (ad 1, stE o7.1 o7.2.1 o7.2.2.1 o7.2.2.2.1 o7.2.2.2.2.1 o7.2.2.2.2.2.1 o7.2.2.2.2.2.2), (ad 3, acE ad_acts s_acts_first 0), (ad 4, aO G 2 (fun j => some (ra_slots j)))] ++ plist ra_slots p_slots 2) H := hP
        have hD : va_D A ([(h0, xoE ad s_keptSlots s_seenCount s_seed), (ad 1, stE o7.1 o7.2.1 o7.2.2.1 o7.2.2.2.1 o7.2.2.2.2.1 o7.2.2.2.2.2.1 o7.2.2.2.2.2.2), (ad 3, acE ad_acts s_acts_first 0), (ad 4, aO G 2 (fun j => some (ra_slots j)))] ++ plist ra_slots p_slots 2) := hD
        refine lv_aload_n hx hb dX3_again_46 rfl (lv_at hl 0 rfl) ?_
        refine va_get (D := gD G) (ci := 3) (v := .ref (ad 1)) (C := RX3) (T := TX3) (N := 11) hx hb hts hi_X3 hown hK.1 hP 0 rfl rfl 1 (by decide) kl_19 (fun _ h9 => h9) rfl dX3_again_47 ?_
        refine va_getN (D := gD G) (ci := 1) (v := .int o7.2.2.2.2.2.2) (C := RX1) (T := TX1) (N := 7) hx hb hts hi_X1 hown hK.1 hP 1 rfl rfl 6 (by decide) (nf_X3_86 hK.2) (fun _ h9 => h9) rfl dX3_again_50 ?_
        have hv := Option.some.inj hf
        exact hret _ _ _ _ _ (by rw [← hv]; exact hP) hS (by rw [← hv]) dX3_again_53
      · have hf := iteT hf c5
        refine lv_bipush (v := (-3)) hx hb dX3_again_22 (by decide) ?_
        have hv := Option.some.inj hf
        exact hret _ _ _ _ _ (by rw [← hv]; exact hP) hS (by rw [← hv]) dX3_again_24
    · have hf := iteF hf c2
      refine lv_iconst (v := (-1)) hx hb dX3_again_9 (by decide) ?_
      have hv := Option.some.inj hf
      exact hret _ _ _ _ _ (by rw [← hv]; exact hP) hS (by rw [← hv]) dX3_again_10
