def fJ6_bitCount_0f7a4 (a0 : Int32) : Option (Int32) :=
  some ((((((((a0 - ((j_ushr a0 1) &&& 1431655765)) &&& 858993459) + ((j_ushr (a0 - ((j_ushr a0 1) &&& 1431655765)) 2) &&& 858993459)) + (j_ushr (((a0 - ((j_ushr a0 1) &&& 1431655765)) &&& 858993459) + ((j_ushr (a0 - ((j_ushr a0 1) &&& 1431655765)) 2) &&& 858993459)) 4)) &&& 252645135) + (j_ushr (((((a0 - ((j_ushr a0 1) &&& 1431655765)) &&& 858993459) + ((j_ushr (a0 - ((j_ushr a0 1) &&& 1431655765)) 2) &&& 858993459)) + (j_ushr (((a0 - ((j_ushr a0 1) &&& 1431655765)) &&& 858993459) + ((j_ushr (a0 - ((j_ushr a0 1) &&& 1431655765)) 2) &&& 858993459)) 4)) &&& 252645135) 8)) + (j_ushr ((((((a0 - ((j_ushr a0 1) &&& 1431655765)) &&& 858993459) + ((j_ushr (a0 - ((j_ushr a0 1) &&& 1431655765)) 2) &&& 858993459)) + (j_ushr (((a0 - ((j_ushr a0 1) &&& 1431655765)) &&& 858993459) + ((j_ushr (a0 - ((j_ushr a0 1) &&& 1431655765)) 2) &&& 858993459)) 4)) &&& 252645135) + (j_ushr (((((a0 - ((j_ushr a0 1) &&& 1431655765)) &&& 858993459) + ((j_ushr (a0 - ((j_ushr a0 1) &&& 1431655765)) 2) &&& 858993459)) + (j_ushr (((a0 - ((j_ushr a0 1) &&& 1431655765)) &&& 858993459) + ((j_ushr (a0 - ((j_ushr a0 1) &&& 1431655765)) 2) &&& 858993459)) 4)) &&& 252645135) 8)) 16)) &&& 63)
set_option maxHeartbeats 4000000 in
set_option maxRecDepth 100000 in
theorem ctJ6_bitCount_0f7a4 (l : Launch) (G : GG) (a0 : Int32) (out : Int32) (hf : fJ6_bitCount_0f7a4 a0 = some out) : Met l yJ6_bitCount_0f7a4 wsJ6_bitCount_0f7a4 ({ frames := 0, cells := 0, slots := 0, locals := 0 }) (PcR G [.int a0] []) (QiR out) 0 0 noA := by
  refine mk_Ri (cc := cJ6_bitCount_0f7a4) (maxL := 1) (by decide) rfl (Nat.le_of_ble_eq_true rfl) ?_
  intro p e s m args below meth c Q ls S hP hK hl hret
  obtain ⟨hx, hb, hml, hown, hts⟩ := S
  have hown : s.vm.findClass RJ6 = some m.cls := hown
  have hS : va_S noA s.heap s.heap [] := va_S.rf
  have hl : lv_has ls 1 [(0, .int a0)] := hl
  refine lv_iload_n hx hb dJ6_bitCount_0f7a4_0 rfl (lv_at hl 0 rfl) ?_
  refine lv_iload_n hx hb dJ6_bitCount_0f7a4_1 rfl (lv_at hl 0 rfl) ?_
  refine lv_iconst (v := 1) hx hb dJ6_bitCount_0f7a4_2 (by decide) ?_
  refine lv_iushr (v := (j_ushr a0 1)) hx hb dJ6_bitCount_0f7a4_3 rfl ?_
  refine lv_ldcw (v := 1431655765) hx hb hown (hts (.constant RJ6 265 (1431655765)) (by decide +kernel)) dJ6_bitCount_0f7a4_4 ?_
  refine lv_iand hx hb dJ6_bitCount_0f7a4_7 ?_
  refine lv_isub hx hb dJ6_bitCount_0f7a4_8 ?_
  refine lv_istore_n (lv' := [(0, .int (a0 - ((j_ushr a0 1) &&& 1431655765)))]) hx hb dJ6_bitCount_0f7a4_9 rfl hl (by decide) rfl (fun ls hl => ?_)
  refine lv_iload_n hx hb dJ6_bitCount_0f7a4_10 rfl (lv_at hl 0 rfl) ?_
  refine lv_ldcw (v := 858993459) hx hb hown (hts (.constant RJ6 266 (858993459)) (by decide +kernel)) dJ6_bitCount_0f7a4_11 ?_
  refine lv_iand hx hb dJ6_bitCount_0f7a4_14 ?_
  refine lv_iload_n hx hb dJ6_bitCount_0f7a4_15 rfl (lv_at hl 0 rfl) ?_
  refine lv_iconst (v := 2) hx hb dJ6_bitCount_0f7a4_16 (by decide) ?_
  refine lv_iushr (v := (j_ushr (a0 - ((j_ushr a0 1) &&& 1431655765)) 2)) hx hb dJ6_bitCount_0f7a4_17 rfl ?_
  refine lv_ldcw (v := 858993459) hx hb hown (hts (.constant RJ6 266 (858993459)) (by decide +kernel)) dJ6_bitCount_0f7a4_18 ?_
  refine lv_iand hx hb dJ6_bitCount_0f7a4_21 ?_
  refine lv_iadd hx hb dJ6_bitCount_0f7a4_22 ?_
  refine lv_istore_n (lv' := [(0, .int (((a0 - ((j_ushr a0 1) &&& 1431655765)) &&& 858993459) + ((j_ushr (a0 - ((j_ushr a0 1) &&& 1431655765)) 2) &&& 858993459)))]) hx hb dJ6_bitCount_0f7a4_23 rfl hl (by decide) rfl (fun ls hl => ?_)
  refine lv_iload_n hx hb dJ6_bitCount_0f7a4_24 rfl (lv_at hl 0 rfl) ?_
  refine lv_iload_n hx hb dJ6_bitCount_0f7a4_25 rfl (lv_at hl 0 rfl) ?_
  refine lv_iconst (v := 4) hx hb dJ6_bitCount_0f7a4_26 (by decide) ?_
  refine lv_iushr (v := (j_ushr (((a0 - ((j_ushr a0 1) &&& 1431655765)) &&& 858993459) + ((j_ushr (a0 - ((j_ushr a0 1) &&& 1431655765)) 2) &&& 858993459)) 4)) hx hb dJ6_bitCount_0f7a4_27 rfl ?_
  refine lv_iadd hx hb dJ6_bitCount_0f7a4_28 ?_
  refine lv_ldcw (v := 252645135) hx hb hown (hts (.constant RJ6 267 (252645135)) (by decide +kernel)) dJ6_bitCount_0f7a4_29 ?_
  refine lv_iand hx hb dJ6_bitCount_0f7a4_32 ?_
  refine lv_istore_n (lv' := [(0, .int (((((a0 - ((j_ushr a0 1) &&& 1431655765)) &&& 858993459) + ((j_ushr (a0 - ((j_ushr a0 1) &&& 1431655765)) 2) &&& 858993459)) + (j_ushr (((a0 - ((j_ushr a0 1) &&& 1431655765)) &&& 858993459) + ((j_ushr (a0 - ((j_ushr a0 1) &&& 1431655765)) 2) &&& 858993459)) 4)) &&& 252645135))]) hx hb dJ6_bitCount_0f7a4_33 rfl hl (by decide) rfl (fun ls hl => ?_)
  refine lv_iload_n hx hb dJ6_bitCount_0f7a4_34 rfl (lv_at hl 0 rfl) ?_
  refine lv_iload_n hx hb dJ6_bitCount_0f7a4_35 rfl (lv_at hl 0 rfl) ?_
  refine lv_bipush (v := 8) hx hb dJ6_bitCount_0f7a4_36 (by decide) ?_
  refine lv_iushr (v := (j_ushr (((((a0 - ((j_ushr a0 1) &&& 1431655765)) &&& 858993459) + ((j_ushr (a0 - ((j_ushr a0 1) &&& 1431655765)) 2) &&& 858993459)) + (j_ushr (((a0 - ((j_ushr a0 1) &&& 1431655765)) &&& 858993459) + ((j_ushr (a0 - ((j_ushr a0 1) &&& 1431655765)) 2) &&& 858993459)) 4)) &&& 252645135) 8)) hx hb dJ6_bitCount_0f7a4_38 rfl ?_
  refine lv_iadd hx hb dJ6_bitCount_0f7a4_39 ?_
  refine lv_istore_n (lv' := [(0, .int ((((((a0 - ((j_ushr a0 1) &&& 1431655765)) &&& 858993459) + ((j_ushr (a0 - ((j_ushr a0 1) &&& 1431655765)) 2) &&& 858993459)) + (j_ushr (((a0 - ((j_ushr a0 1) &&& 1431655765)) &&& 858993459) + ((j_ushr (a0 - ((j_ushr a0 1) &&& 1431655765)) 2) &&& 858993459)) 4)) &&& 252645135) + (j_ushr (((((a0 - ((j_ushr a0 1) &&& 1431655765)) &&& 858993459) + ((j_ushr (a0 - ((j_ushr a0 1) &&& 1431655765)) 2) &&& 858993459)) + (j_ushr (((a0 - ((j_ushr a0 1) &&& 1431655765)) &&& 858993459) + ((j_ushr (a0 - ((j_ushr a0 1) &&& 1431655765)) 2) &&& 858993459)) 4)) &&& 252645135) 8)))]) hx hb dJ6_bitCount_0f7a4_40 rfl hl (by decide) rfl (fun ls hl => ?_)
  refine lv_iload_n hx hb dJ6_bitCount_0f7a4_41 rfl (lv_at hl 0 rfl) ?_
  refine lv_iload_n hx hb dJ6_bitCount_0f7a4_42 rfl (lv_at hl 0 rfl) ?_
  refine lv_bipush (v := 16) hx hb dJ6_bitCount_0f7a4_43 (by decide) ?_
  refine lv_iushr (v := (j_ushr ((((((a0 - ((j_ushr a0 1) &&& 1431655765)) &&& 858993459) + ((j_ushr (a0 - ((j_ushr a0 1) &&& 1431655765)) 2) &&& 858993459)) + (j_ushr (((a0 - ((j_ushr a0 1) &&& 1431655765)) &&& 858993459) + ((j_ushr (a0 - ((j_ushr a0 1) &&& 1431655765)) 2) &&& 858993459)) 4)) &&& 252645135) + (j_ushr (((((a0 - ((j_ushr a0 1) &&& 1431655765)) &&& 858993459) + ((j_ushr (a0 - ((j_ushr a0 1) &&& 1431655765)) 2) &&& 858993459)) + (j_ushr (((a0 - ((j_ushr a0 1) &&& 1431655765)) &&& 858993459) + ((j_ushr (a0 - ((j_ushr a0 1) &&& 1431655765)) 2) &&& 858993459)) 4)) &&& 252645135) 8)) 16)) hx hb dJ6_bitCount_0f7a4_45 rfl ?_
  refine lv_iadd hx hb dJ6_bitCount_0f7a4_46 ?_
  refine lv_istore_n (lv' := [(0, .int (((((((a0 - ((j_ushr a0 1) &&& 1431655765)) &&& 858993459) + ((j_ushr (a0 - ((j_ushr a0 1) &&& 1431655765)) 2) &&& 858993459)) + (j_ushr (((a0 - ((j_ushr a0 1) &&& 1431655765)) &&& 858993459) + ((j_ushr (a0 - ((j_ushr a0 1) &&& 1431655765)) 2) &&& 858993459)) 4)) &&& 252645135) + (j_ushr (((((a0 - ((j_ushr a0 1) &&& 1431655765)) &&& 858993459) + ((j_ushr (a0 - ((j_ushr a0 1) &&& 1431655765)) 2) &&& 858993459)) + (j_ushr (((a0 - ((j_ushr a0 1) &&& 1431655765)) &&& 858993459) + ((j_ushr (a0 - ((j_ushr a0 1) &&& 1431655765)) 2) &&& 858993459)) 4)) &&& 252645135) 8)) + (j_ushr ((((((a0 - ((j_ushr a0 1) &&& 1431655765)) &&& 858993459) + ((j_ushr (a0 - ((j_ushr a0 1) &&& 1431655765)) 2) &&& 858993459)) + (j_ushr (((a0 - ((j_ushr a0 1) &&& 1431655765)) &&& 858993459) + ((j_ushr (a0 - ((j_ushr a0 1) &&& 1431655765)) 2) &&& 858993459)) 4)) &&& 252645135) + (j_ushr (((((a0 - ((j_ushr a0 1) &&& 1431655765)) &&& 858993459) + ((j_ushr (a0 - ((j_ushr a0 1) &&& 1431655765)) 2) &&& 858993459)) + (j_ushr (((a0 - ((j_ushr a0 1) &&& 1431655765)) &&& 858993459) + ((j_ushr (a0 - ((j_ushr a0 1) &&& 1431655765)) 2) &&& 858993459)) 4)) &&& 252645135) 8)) 16)))]) hx hb dJ6_bitCount_0f7a4_47 rfl hl (by decide) rfl (fun ls hl => ?_)
  refine lv_iload_n hx hb dJ6_bitCount_0f7a4_48 rfl (lv_at hl 0 rfl) ?_
  refine lv_bipush (v := 63) hx hb dJ6_bitCount_0f7a4_49 (by decide) ?_
  refine lv_iand hx hb dJ6_bitCount_0f7a4_51 ?_
  have hv := Option.some.inj hf
  exact hret _ _ _ _ _ hS hv dJ6_bitCount_0f7a4_52
def fJ13_bitCount_95d88 (a0 : Int64) : Option (Int32) :=
  some ((Int64.toInt32 ((((((((a0 - ((j_lushr a0 1) &&& 6148914691236517205)) &&& 3689348814741910323) + ((j_lushr (a0 - ((j_lushr a0 1) &&& 6148914691236517205)) 2) &&& 3689348814741910323)) + (j_lushr (((a0 - ((j_lushr a0 1) &&& 6148914691236517205)) &&& 3689348814741910323) + ((j_lushr (a0 - ((j_lushr a0 1) &&& 6148914691236517205)) 2) &&& 3689348814741910323)) 4)) &&& 1085102592571150095) + (j_lushr (((((a0 - ((j_lushr a0 1) &&& 6148914691236517205)) &&& 3689348814741910323) + ((j_lushr (a0 - ((j_lushr a0 1) &&& 6148914691236517205)) 2) &&& 3689348814741910323)) + (j_lushr (((a0 - ((j_lushr a0 1) &&& 6148914691236517205)) &&& 3689348814741910323) + ((j_lushr (a0 - ((j_lushr a0 1) &&& 6148914691236517205)) 2) &&& 3689348814741910323)) 4)) &&& 1085102592571150095) 8)) + (j_lushr ((((((a0 - ((j_lushr a0 1) &&& 6148914691236517205)) &&& 3689348814741910323) + ((j_lushr (a0 - ((j_lushr a0 1) &&& 6148914691236517205)) 2) &&& 3689348814741910323)) + (j_lushr (((a0 - ((j_lushr a0 1) &&& 6148914691236517205)) &&& 3689348814741910323) + ((j_lushr (a0 - ((j_lushr a0 1) &&& 6148914691236517205)) 2) &&& 3689348814741910323)) 4)) &&& 1085102592571150095) + (j_lushr (((((a0 - ((j_lushr a0 1) &&& 6148914691236517205)) &&& 3689348814741910323) + ((j_lushr (a0 - ((j_lushr a0 1) &&& 6148914691236517205)) 2) &&& 3689348814741910323)) + (j_lushr (((a0 - ((j_lushr a0 1) &&& 6148914691236517205)) &&& 3689348814741910323) + ((j_lushr (a0 - ((j_lushr a0 1) &&& 6148914691236517205)) 2) &&& 3689348814741910323)) 4)) &&& 1085102592571150095) 8)) 16)) + (j_lushr (((((((a0 - ((j_lushr a0 1) &&& 6148914691236517205)) &&& 3689348814741910323) + ((j_lushr (a0 - ((j_lushr a0 1) &&& 6148914691236517205)) 2) &&& 3689348814741910323)) + (j_lushr (((a0 - ((j_lushr a0 1) &&& 6148914691236517205)) &&& 3689348814741910323) + ((j_lushr (a0 - ((j_lushr a0 1) &&& 6148914691236517205)) 2) &&& 3689348814741910323)) 4)) &&& 1085102592571150095) + (j_lushr (((((a0 - ((j_lushr a0 1) &&& 6148914691236517205)) &&& 3689348814741910323) + ((j_lushr (a0 - ((j_lushr a0 1) &&& 6148914691236517205)) 2) &&& 3689348814741910323)) + (j_lushr (((a0 - ((j_lushr a0 1) &&& 6148914691236517205)) &&& 3689348814741910323) + ((j_lushr (a0 - ((j_lushr a0 1) &&& 6148914691236517205)) 2) &&& 3689348814741910323)) 4)) &&& 1085102592571150095) 8)) + (j_lushr ((((((a0 - ((j_lushr a0 1) &&& 6148914691236517205)) &&& 3689348814741910323) + ((j_lushr (a0 - ((j_lushr a0 1) &&& 6148914691236517205)) 2) &&& 3689348814741910323)) + (j_lushr (((a0 - ((j_lushr a0 1) &&& 6148914691236517205)) &&& 3689348814741910323) + ((j_lushr (a0 - ((j_lushr a0 1) &&& 6148914691236517205)) 2) &&& 3689348814741910323)) 4)) &&& 1085102592571150095) + (j_lushr (((((a0 - ((j_lushr a0 1) &&& 6148914691236517205)) &&& 3689348814741910323) + ((j_lushr (a0 - ((j_lushr a0 1) &&& 6148914691236517205)) 2) &&& 3689348814741910323)) + (j_lushr (((a0 - ((j_lushr a0 1) &&& 6148914691236517205)) &&& 3689348814741910323) + ((j_lushr (a0 - ((j_lushr a0 1) &&& 6148914691236517205)) 2) &&& 3689348814741910323)) 4)) &&& 1085102592571150095) 8)) 16)) 32))) &&& 127)
set_option maxHeartbeats 4000000 in
set_option maxRecDepth 100000 in
theorem ctJ13_bitCount_95d88 (l : Launch) (G : GG) (a0 : Int64) (out : Int32) (hf : fJ13_bitCount_95d88 a0 = some out) : Met l yJ13_bitCount_95d88 wsJ13_bitCount_95d88 ({ frames := 0, cells := 0, slots := 0, locals := 0 }) (PcR G [.long a0] []) (QiR out) 0 0 noA := by
  refine mk_Ri (cc := cJ13_bitCount_95d88) (maxL := 2) (by decide) rfl (Nat.le_of_ble_eq_true rfl) ?_
  intro p e s m args below meth c Q ls S hP hK hl hret
  obtain ⟨hx, hb, hml, hown, hts⟩ := S
  have hown : s.vm.findClass RJ13 = some m.cls := hown
  have hS : va_S noA s.heap s.heap [] := va_S.rf
  have hl : lv_has ls 2 [(0, .long a0)] := hl
  refine lv_lload_n hx hb dJ13_bitCount_95d88_0 rfl (lv_at hl 0 rfl) ?_
  refine lv_lload_n hx hb dJ13_bitCount_95d88_1 rfl (lv_at hl 0 rfl) ?_
  refine lv_iconst (v := 1) hx hb dJ13_bitCount_95d88_2 (by decide) ?_
  refine lv_lushr (v := (j_lushr a0 1)) hx hb dJ13_bitCount_95d88_3 rfl ?_
  refine lv_ldc2 (v := 6148914691236517205) hx hb hown (hts (.constantLong RJ13 314 (6148914691236517205)) (by decide +kernel)) dJ13_bitCount_95d88_4 ?_
  refine lv_land hx hb dJ13_bitCount_95d88_7 ?_
  refine lv_lsub hx hb dJ13_bitCount_95d88_8 ?_
  refine lv_lstore_n (lv' := [(0, .long (a0 - ((j_lushr a0 1) &&& 6148914691236517205)))]) hx hb dJ13_bitCount_95d88_9 rfl hl (by decide) rfl (fun ls hl => ?_)
  refine lv_lload_n hx hb dJ13_bitCount_95d88_10 rfl (lv_at hl 0 rfl) ?_
  refine lv_ldc2 (v := 3689348814741910323) hx hb hown (hts (.constantLong RJ13 316 (3689348814741910323)) (by decide +kernel)) dJ13_bitCount_95d88_11 ?_
  refine lv_land hx hb dJ13_bitCount_95d88_14 ?_
  refine lv_lload_n hx hb dJ13_bitCount_95d88_15 rfl (lv_at hl 0 rfl) ?_
  refine lv_iconst (v := 2) hx hb dJ13_bitCount_95d88_16 (by decide) ?_
  refine lv_lushr (v := (j_lushr (a0 - ((j_lushr a0 1) &&& 6148914691236517205)) 2)) hx hb dJ13_bitCount_95d88_17 rfl ?_
  refine lv_ldc2 (v := 3689348814741910323) hx hb hown (hts (.constantLong RJ13 316 (3689348814741910323)) (by decide +kernel)) dJ13_bitCount_95d88_18 ?_
  refine lv_land hx hb dJ13_bitCount_95d88_21 ?_
  refine lv_ladd hx hb dJ13_bitCount_95d88_22 ?_
  refine lv_lstore_n (lv' := [(0, .long (((a0 - ((j_lushr a0 1) &&& 6148914691236517205)) &&& 3689348814741910323) + ((j_lushr (a0 - ((j_lushr a0 1) &&& 6148914691236517205)) 2) &&& 3689348814741910323)))]) hx hb dJ13_bitCount_95d88_23 rfl hl (by decide) rfl (fun ls hl => ?_)
  refine lv_lload_n hx hb dJ13_bitCount_95d88_24 rfl (lv_at hl 0 rfl) ?_
  refine lv_lload_n hx hb dJ13_bitCount_95d88_25 rfl (lv_at hl 0 rfl) ?_
  refine lv_iconst (v := 4) hx hb dJ13_bitCount_95d88_26 (by decide) ?_
  refine lv_lushr (v := (j_lushr (((a0 - ((j_lushr a0 1) &&& 6148914691236517205)) &&& 3689348814741910323) + ((j_lushr (a0 - ((j_lushr a0 1) &&& 6148914691236517205)) 2) &&& 3689348814741910323)) 4)) hx hb dJ13_bitCount_95d88_27 rfl ?_
  refine lv_ladd hx hb dJ13_bitCount_95d88_28 ?_
  refine lv_ldc2 (v := 1085102592571150095) hx hb hown (hts (.constantLong RJ13 318 (1085102592571150095)) (by decide +kernel)) dJ13_bitCount_95d88_29 ?_
  refine lv_land hx hb dJ13_bitCount_95d88_32 ?_
  refine lv_lstore_n (lv' := [(0, .long (((((a0 - ((j_lushr a0 1) &&& 6148914691236517205)) &&& 3689348814741910323) + ((j_lushr (a0 - ((j_lushr a0 1) &&& 6148914691236517205)) 2) &&& 3689348814741910323)) + (j_lushr (((a0 - ((j_lushr a0 1) &&& 6148914691236517205)) &&& 3689348814741910323) + ((j_lushr (a0 - ((j_lushr a0 1) &&& 6148914691236517205)) 2) &&& 3689348814741910323)) 4)) &&& 1085102592571150095))]) hx hb dJ13_bitCount_95d88_33 rfl hl (by decide) rfl (fun ls hl => ?_)
  refine lv_lload_n hx hb dJ13_bitCount_95d88_34 rfl (lv_at hl 0 rfl) ?_
  refine lv_lload_n hx hb dJ13_bitCount_95d88_35 rfl (lv_at hl 0 rfl) ?_
  refine lv_bipush (v := 8) hx hb dJ13_bitCount_95d88_36 (by decide) ?_
  refine lv_lushr (v := (j_lushr (((((a0 - ((j_lushr a0 1) &&& 6148914691236517205)) &&& 3689348814741910323) + ((j_lushr (a0 - ((j_lushr a0 1) &&& 6148914691236517205)) 2) &&& 3689348814741910323)) + (j_lushr (((a0 - ((j_lushr a0 1) &&& 6148914691236517205)) &&& 3689348814741910323) + ((j_lushr (a0 - ((j_lushr a0 1) &&& 6148914691236517205)) 2) &&& 3689348814741910323)) 4)) &&& 1085102592571150095) 8)) hx hb dJ13_bitCount_95d88_38 rfl ?_
  refine lv_ladd hx hb dJ13_bitCount_95d88_39 ?_
  refine lv_lstore_n (lv' := [(0, .long ((((((a0 - ((j_lushr a0 1) &&& 6148914691236517205)) &&& 3689348814741910323) + ((j_lushr (a0 - ((j_lushr a0 1) &&& 6148914691236517205)) 2) &&& 3689348814741910323)) + (j_lushr (((a0 - ((j_lushr a0 1) &&& 6148914691236517205)) &&& 3689348814741910323) + ((j_lushr (a0 - ((j_lushr a0 1) &&& 6148914691236517205)) 2) &&& 3689348814741910323)) 4)) &&& 1085102592571150095) + (j_lushr (((((a0 - ((j_lushr a0 1) &&& 6148914691236517205)) &&& 3689348814741910323) + ((j_lushr (a0 - ((j_lushr a0 1) &&& 6148914691236517205)) 2) &&& 3689348814741910323)) + (j_lushr (((a0 - ((j_lushr a0 1) &&& 6148914691236517205)) &&& 3689348814741910323) + ((j_lushr (a0 - ((j_lushr a0 1) &&& 6148914691236517205)) 2) &&& 3689348814741910323)) 4)) &&& 1085102592571150095) 8)))]) hx hb dJ13_bitCount_95d88_40 rfl hl (by decide) rfl (fun ls hl => ?_)
  refine lv_lload_n hx hb dJ13_bitCount_95d88_41 rfl (lv_at hl 0 rfl) ?_
  refine lv_lload_n hx hb dJ13_bitCount_95d88_42 rfl (lv_at hl 0 rfl) ?_
  refine lv_bipush (v := 16) hx hb dJ13_bitCount_95d88_43 (by decide) ?_
  refine lv_lushr (v := (j_lushr ((((((a0 - ((j_lushr a0 1) &&& 6148914691236517205)) &&& 3689348814741910323) + ((j_lushr (a0 - ((j_lushr a0 1) &&& 6148914691236517205)) 2) &&& 3689348814741910323)) + (j_lushr (((a0 - ((j_lushr a0 1) &&& 6148914691236517205)) &&& 3689348814741910323) + ((j_lushr (a0 - ((j_lushr a0 1) &&& 6148914691236517205)) 2) &&& 3689348814741910323)) 4)) &&& 1085102592571150095) + (j_lushr (((((a0 - ((j_lushr a0 1) &&& 6148914691236517205)) &&& 3689348814741910323) + ((j_lushr (a0 - ((j_lushr a0 1) &&& 6148914691236517205)) 2) &&& 3689348814741910323)) + (j_lushr (((a0 - ((j_lushr a0 1) &&& 6148914691236517205)) &&& 3689348814741910323) + ((j_lushr (a0 - ((j_lushr a0 1) &&& 6148914691236517205)) 2) &&& 3689348814741910323)) 4)) &&& 1085102592571150095) 8)) 16)) hx hb dJ13_bitCount_95d88_45 rfl ?_
  refine lv_ladd hx hb dJ13_bitCount_95d88_46 ?_
  refine lv_lstore_n (lv' := [(0, .long (((((((a0 - ((j_lushr a0 1) &&& 6148914691236517205)) &&& 3689348814741910323) + ((j_lushr (a0 - ((j_lushr a0 1) &&& 6148914691236517205)) 2) &&& 3689348814741910323)) + (j_lushr (((a0 - ((j_lushr a0 1) &&& 6148914691236517205)) &&& 3689348814741910323) + ((j_lushr (a0 - ((j_lushr a0 1) &&& 6148914691236517205)) 2) &&& 3689348814741910323)) 4)) &&& 1085102592571150095) + (j_lushr (((((a0 - ((j_lushr a0 1) &&& 6148914691236517205)) &&& 3689348814741910323) + ((j_lushr (a0 - ((j_lushr a0 1) &&& 6148914691236517205)) 2) &&& 3689348814741910323)) + (j_lushr (((a0 - ((j_lushr a0 1) &&& 6148914691236517205)) &&& 3689348814741910323) + ((j_lushr (a0 - ((j_lushr a0 1) &&& 6148914691236517205)) 2) &&& 3689348814741910323)) 4)) &&& 1085102592571150095) 8)) + (j_lushr ((((((a0 - ((j_lushr a0 1) &&& 6148914691236517205)) &&& 3689348814741910323) + ((j_lushr (a0 - ((j_lushr a0 1) &&& 6148914691236517205)) 2) &&& 3689348814741910323)) + (j_lushr (((a0 - ((j_lushr a0 1) &&& 6148914691236517205)) &&& 3689348814741910323) + ((j_lushr (a0 - ((j_lushr a0 1) &&& 6148914691236517205)) 2) &&& 3689348814741910323)) 4)) &&& 1085102592571150095) + (j_lushr (((((a0 - ((j_lushr a0 1) &&& 6148914691236517205)) &&& 3689348814741910323) + ((j_lushr (a0 - ((j_lushr a0 1) &&& 6148914691236517205)) 2) &&& 3689348814741910323)) + (j_lushr (((a0 - ((j_lushr a0 1) &&& 6148914691236517205)) &&& 3689348814741910323) + ((j_lushr (a0 - ((j_lushr a0 1) &&& 6148914691236517205)) 2) &&& 3689348814741910323)) 4)) &&& 1085102592571150095) 8)) 16)))]) hx hb dJ13_bitCount_95d88_47 rfl hl (by decide) rfl (fun ls hl => ?_)
  refine lv_lload_n hx hb dJ13_bitCount_95d88_48 rfl (lv_at hl 0 rfl) ?_
  refine lv_lload_n hx hb dJ13_bitCount_95d88_49 rfl (lv_at hl 0 rfl) ?_
  refine lv_bipush (v := 32) hx hb dJ13_bitCount_95d88_50 (by decide) ?_
  refine lv_lushr (v := (j_lushr (((((((a0 - ((j_lushr a0 1) &&& 6148914691236517205)) &&& 3689348814741910323) + ((j_lushr (a0 - ((j_lushr a0 1) &&& 6148914691236517205)) 2) &&& 3689348814741910323)) + (j_lushr (((a0 - ((j_lushr a0 1) &&& 6148914691236517205)) &&& 3689348814741910323) + ((j_lushr (a0 - ((j_lushr a0 1) &&& 6148914691236517205)) 2) &&& 3689348814741910323)) 4)) &&& 1085102592571150095) + (j_lushr (((((a0 - ((j_lushr a0 1) &&& 6148914691236517205)) &&& 3689348814741910323) + ((j_lushr (a0 - ((j_lushr a0 1) &&& 6148914691236517205)) 2) &&& 3689348814741910323)) + (j_lushr (((a0 - ((j_lushr a0 1) &&& 6148914691236517205)) &&& 3689348814741910323) + ((j_lushr (a0 - ((j_lushr a0 1) &&& 6148914691236517205)) 2) &&& 3689348814741910323)) 4)) &&& 1085102592571150095) 8)) + (j_lushr ((((((a0 - ((j_lushr a0 1) &&& 6148914691236517205)) &&& 3689348814741910323) + ((j_lushr (a0 - ((j_lushr a0 1) &&& 6148914691236517205)) 2) &&& 3689348814741910323)) + (j_lushr (((a0 - ((j_lushr a0 1) &&& 6148914691236517205)) &&& 3689348814741910323) + ((j_lushr (a0 - ((j_lushr a0 1) &&& 6148914691236517205)) 2) &&& 3689348814741910323)) 4)) &&& 1085102592571150095) + (j_lushr (((((a0 - ((j_lushr a0 1) &&& 6148914691236517205)) &&& 3689348814741910323) + ((j_lushr (a0 - ((j_lushr a0 1) &&& 6148914691236517205)) 2) &&& 3689348814741910323)) + (j_lushr (((a0 - ((j_lushr a0 1) &&& 6148914691236517205)) &&& 3689348814741910323) + ((j_lushr (a0 - ((j_lushr a0 1) &&& 6148914691236517205)) 2) &&& 3689348814741910323)) 4)) &&& 1085102592571150095) 8)) 16)) 32)) hx hb dJ13_bitCount_95d88_52 rfl ?_
  refine lv_ladd hx hb dJ13_bitCount_95d88_53 ?_
  refine lv_lstore_n (lv' := [(0, .long ((((((((a0 - ((j_lushr a0 1) &&& 6148914691236517205)) &&& 3689348814741910323) + ((j_lushr (a0 - ((j_lushr a0 1) &&& 6148914691236517205)) 2) &&& 3689348814741910323)) + (j_lushr (((a0 - ((j_lushr a0 1) &&& 6148914691236517205)) &&& 3689348814741910323) + ((j_lushr (a0 - ((j_lushr a0 1) &&& 6148914691236517205)) 2) &&& 3689348814741910323)) 4)) &&& 1085102592571150095) + (j_lushr (((((a0 - ((j_lushr a0 1) &&& 6148914691236517205)) &&& 3689348814741910323) + ((j_lushr (a0 - ((j_lushr a0 1) &&& 6148914691236517205)) 2) &&& 3689348814741910323)) + (j_lushr (((a0 - ((j_lushr a0 1) &&& 6148914691236517205)) &&& 3689348814741910323) + ((j_lushr (a0 - ((j_lushr a0 1) &&& 6148914691236517205)) 2) &&& 3689348814741910323)) 4)) &&& 1085102592571150095) 8)) + (j_lushr ((((((a0 - ((j_lushr a0 1) &&& 6148914691236517205)) &&& 3689348814741910323) + ((j_lushr (a0 - ((j_lushr a0 1) &&& 6148914691236517205)) 2) &&& 3689348814741910323)) + (j_lushr (((a0 - ((j_lushr a0 1) &&& 6148914691236517205)) &&& 3689348814741910323) + ((j_lushr (a0 - ((j_lushr a0 1) &&& 6148914691236517205)) 2) &&& 3689348814741910323)) 4)) &&& 1085102592571150095) + (j_lushr (((((a0 - ((j_lushr a0 1) &&& 6148914691236517205)) &&& 3689348814741910323) + ((j_lushr (a0 - ((j_lushr a0 1) &&& 6148914691236517205)) 2) &&& 3689348814741910323)) + (j_lushr (((a0 - ((j_lushr a0 1) &&& 6148914691236517205)) &&& 3689348814741910323) + ((j_lushr (a0 - ((j_lushr a0 1) &&& 6148914691236517205)) 2) &&& 3689348814741910323)) 4)) &&& 1085102592571150095) 8)) 16)) + (j_lushr (((((((a0 - ((j_lushr a0 1) &&& 6148914691236517205)) &&& 3689348814741910323) + ((j_lushr (a0 - ((j_lushr a0 1) &&& 6148914691236517205)) 2) &&& 3689348814741910323)) + (j_lushr (((a0 - ((j_lushr a0 1) &&& 6148914691236517205)) &&& 3689348814741910323) + ((j_lushr (a0 - ((j_lushr a0 1) &&& 6148914691236517205)) 2) &&& 3689348814741910323)) 4)) &&& 1085102592571150095) + (j_lushr (((((a0 - ((j_lushr a0 1) &&& 6148914691236517205)) &&& 3689348814741910323) + ((j_lushr (a0 - ((j_lushr a0 1) &&& 6148914691236517205)) 2) &&& 3689348814741910323)) + (j_lushr (((a0 - ((j_lushr a0 1) &&& 6148914691236517205)) &&& 3689348814741910323) + ((j_lushr (a0 - ((j_lushr a0 1) &&& 6148914691236517205)) 2) &&& 3689348814741910323)) 4)) &&& 1085102592571150095) 8)) + (j_lushr ((((((a0 - ((j_lushr a0 1) &&& 6148914691236517205)) &&& 3689348814741910323) + ((j_lushr (a0 - ((j_lushr a0 1) &&& 6148914691236517205)) 2) &&& 3689348814741910323)) + (j_lushr (((a0 - ((j_lushr a0 1) &&& 6148914691236517205)) &&& 3689348814741910323) + ((j_lushr (a0 - ((j_lushr a0 1) &&& 6148914691236517205)) 2) &&& 3689348814741910323)) 4)) &&& 1085102592571150095) + (j_lushr (((((a0 - ((j_lushr a0 1) &&& 6148914691236517205)) &&& 3689348814741910323) + ((j_lushr (a0 - ((j_lushr a0 1) &&& 6148914691236517205)) 2) &&& 3689348814741910323)) + (j_lushr (((a0 - ((j_lushr a0 1) &&& 6148914691236517205)) &&& 3689348814741910323) + ((j_lushr (a0 - ((j_lushr a0 1) &&& 6148914691236517205)) 2) &&& 3689348814741910323)) 4)) &&& 1085102592571150095) 8)) 16)) 32)))]) hx hb dJ13_bitCount_95d88_54 rfl hl (by decide) rfl (fun ls hl => ?_)
  refine lv_lload_n hx hb dJ13_bitCount_95d88_55 rfl (lv_at hl 0 rfl) ?_
  refine lv_l2i (v := (Int64.toInt32 ((((((((a0 - ((j_lushr a0 1) &&& 6148914691236517205)) &&& 3689348814741910323) + ((j_lushr (a0 - ((j_lushr a0 1) &&& 6148914691236517205)) 2) &&& 3689348814741910323)) + (j_lushr (((a0 - ((j_lushr a0 1) &&& 6148914691236517205)) &&& 3689348814741910323) + ((j_lushr (a0 - ((j_lushr a0 1) &&& 6148914691236517205)) 2) &&& 3689348814741910323)) 4)) &&& 1085102592571150095) + (j_lushr (((((a0 - ((j_lushr a0 1) &&& 6148914691236517205)) &&& 3689348814741910323) + ((j_lushr (a0 - ((j_lushr a0 1) &&& 6148914691236517205)) 2) &&& 3689348814741910323)) + (j_lushr (((a0 - ((j_lushr a0 1) &&& 6148914691236517205)) &&& 3689348814741910323) + ((j_lushr (a0 - ((j_lushr a0 1) &&& 6148914691236517205)) 2) &&& 3689348814741910323)) 4)) &&& 1085102592571150095) 8)) + (j_lushr ((((((a0 - ((j_lushr a0 1) &&& 6148914691236517205)) &&& 3689348814741910323) + ((j_lushr (a0 - ((j_lushr a0 1) &&& 6148914691236517205)) 2) &&& 3689348814741910323)) + (j_lushr (((a0 - ((j_lushr a0 1) &&& 6148914691236517205)) &&& 3689348814741910323) + ((j_lushr (a0 - ((j_lushr a0 1) &&& 6148914691236517205)) 2) &&& 3689348814741910323)) 4)) &&& 1085102592571150095) + (j_lushr (((((a0 - ((j_lushr a0 1) &&& 6148914691236517205)) &&& 3689348814741910323) + ((j_lushr (a0 - ((j_lushr a0 1) &&& 6148914691236517205)) 2) &&& 3689348814741910323)) + (j_lushr (((a0 - ((j_lushr a0 1) &&& 6148914691236517205)) &&& 3689348814741910323) + ((j_lushr (a0 - ((j_lushr a0 1) &&& 6148914691236517205)) 2) &&& 3689348814741910323)) 4)) &&& 1085102592571150095) 8)) 16)) + (j_lushr (((((((a0 - ((j_lushr a0 1) &&& 6148914691236517205)) &&& 3689348814741910323) + ((j_lushr (a0 - ((j_lushr a0 1) &&& 6148914691236517205)) 2) &&& 3689348814741910323)) + (j_lushr (((a0 - ((j_lushr a0 1) &&& 6148914691236517205)) &&& 3689348814741910323) + ((j_lushr (a0 - ((j_lushr a0 1) &&& 6148914691236517205)) 2) &&& 3689348814741910323)) 4)) &&& 1085102592571150095) + (j_lushr (((((a0 - ((j_lushr a0 1) &&& 6148914691236517205)) &&& 3689348814741910323) + ((j_lushr (a0 - ((j_lushr a0 1) &&& 6148914691236517205)) 2) &&& 3689348814741910323)) + (j_lushr (((a0 - ((j_lushr a0 1) &&& 6148914691236517205)) &&& 3689348814741910323) + ((j_lushr (a0 - ((j_lushr a0 1) &&& 6148914691236517205)) 2) &&& 3689348814741910323)) 4)) &&& 1085102592571150095) 8)) + (j_lushr ((((((a0 - ((j_lushr a0 1) &&& 6148914691236517205)) &&& 3689348814741910323) + ((j_lushr (a0 - ((j_lushr a0 1) &&& 6148914691236517205)) 2) &&& 3689348814741910323)) + (j_lushr (((a0 - ((j_lushr a0 1) &&& 6148914691236517205)) &&& 3689348814741910323) + ((j_lushr (a0 - ((j_lushr a0 1) &&& 6148914691236517205)) 2) &&& 3689348814741910323)) 4)) &&& 1085102592571150095) + (j_lushr (((((a0 - ((j_lushr a0 1) &&& 6148914691236517205)) &&& 3689348814741910323) + ((j_lushr (a0 - ((j_lushr a0 1) &&& 6148914691236517205)) 2) &&& 3689348814741910323)) + (j_lushr (((a0 - ((j_lushr a0 1) &&& 6148914691236517205)) &&& 3689348814741910323) + ((j_lushr (a0 - ((j_lushr a0 1) &&& 6148914691236517205)) 2) &&& 3689348814741910323)) 4)) &&& 1085102592571150095) 8)) 16)) 32)))) hx hb dJ13_bitCount_95d88_56 rfl ?_
  refine lv_bipush (v := 127) hx hb dJ13_bitCount_95d88_57 (by decide) ?_
  refine lv_iand hx hb dJ13_bitCount_95d88_59 ?_
  have hv := Option.some.inj hf
  exact hret _ _ _ _ _ hS hv dJ13_bitCount_95d88_60
def fX3_bit (a0 : Int32) : Option (Int32) :=
  some ((1 : Int32) <<< (a0 &&& 31))
set_option maxHeartbeats 4000000 in
set_option maxRecDepth 100000 in
theorem ctX3_bit (l : Launch) (G : GG) (a0 : Int32) (out : Int32) (hf : fX3_bit a0 = some out) : Met l yX3_bit wsX3_bit ({ frames := 0, cells := 0, slots := 0, locals := 0 }) (PcR G [.int a0] []) (QiR out) 0 0 noA := by
  refine mk_Ri (cc := cX3_bit) (maxL := 1) (by decide) rfl (Nat.le_of_ble_eq_true rfl) ?_
  intro p e s m args below meth c Q ls S hP hK hl hret
  obtain ⟨hx, hb, hml, hown, hts⟩ := S
  have hown : s.vm.findClass RX3 = some m.cls := hown
  have hS : va_S noA s.heap s.heap [] := va_S.rf
  have hl : lv_has ls 1 [(0, .int a0)] := hl
  refine lv_iconst (v := 1) hx hb dX3_bit_0 (by decide) ?_
  refine lv_iload_n hx hb dX3_bit_1 rfl (lv_at hl 0 rfl) ?_
  refine lv_ishl hx hb dX3_bit_2 ?_
  have hv := Option.some.inj hf
  exact hret _ _ _ _ _ hS hv dX3_bit_3
def fX3_isIn (a0 : Int32) (a1 : Int32) : Option (Int32) :=
  (if (a0 &&& ((1 : Int32) <<< (a1 &&& 31))) = 0 then some 0 else some 1)
set_option maxHeartbeats 4000000 in
set_option maxRecDepth 100000 in
theorem ctX3_isIn (l : Launch) (G : GG) (a0 : Int32) (a1 : Int32) (out : Int32) (hf : fX3_isIn a0 a1 = some out) : Met l yX3_isIn wsX3_isIn ({ frames := 0, cells := 0, slots := 0, locals := 0 }) (PcR G [.int a0, .int a1] []) (QiR out) 0 0 noA := by
  refine mk_Rz (cc := cX3_isIn) (maxL := 2) (by decide) rfl (Nat.le_of_ble_eq_true rfl) ?_
  intro p e s m args below meth c Q ls S hP hK hl hret
  obtain ⟨hx, hb, hml, hown, hts⟩ := S
  have hown : s.vm.findClass RX3 = some m.cls := hown
  have hS : va_S noA s.heap s.heap [] := va_S.rf
  have hl : lv_has ls 2 [(0, .int a0), (1, .int a1)] := hl
  refine lv_iload_n hx hb dX3_isIn_0 rfl (lv_at hl 0 rfl) ?_
  refine lv_iconst (v := 1) hx hb dX3_isIn_1 (by decide) ?_
  refine lv_iload_n hx hb dX3_isIn_2 rfl (lv_at hl 1 rfl) ?_
  refine lv_ishl hx hb dX3_isIn_3 ?_
  refine lv_iand hx hb dX3_isIn_4 ?_
  refine lv_if_eq (tgt := 12) hx hb dX3_isIn_5 (by decide) (fun c1 => ?_) (fun c1 => ?_)
  · have hf := iteT hf c1
    refine lv_iconst (v := 0) hx hb dX3_isIn_12 (by decide) ?_
    have hv := Option.some.inj hf
    exact hret _ _ _ _ _ hS rfl hv dX3_isIn_13
  · have hf := iteF hf c1
    refine lv_iconst (v := 1) hx hb dX3_isIn_8 (by decide) ?_
    refine lv_goto (tgt := 13) hx hb dX3_isIn_9 (by decide) ?_
    have hv := Option.some.inj hf
    exact hret _ _ _ _ _ hS rfl hv dX3_isIn_13
def fX3_without (a0 : Int32) (a1 : Int32) : Option (Int32) :=
  some (a0 &&& (((1 : Int32) <<< (a1 &&& 31)) ^^^ (-1)))
set_option maxHeartbeats 4000000 in
set_option maxRecDepth 100000 in
theorem ctX3_without (l : Launch) (G : GG) (a0 : Int32) (a1 : Int32) (out : Int32) (hf : fX3_without a0 a1 = some out) : Met l yX3_without wsX3_without ({ frames := 0, cells := 0, slots := 0, locals := 0 }) (PcR G [.int a0, .int a1] []) (QiR out) 0 0 noA := by
  refine mk_Ri (cc := cX3_without) (maxL := 2) (by decide) rfl (Nat.le_of_ble_eq_true rfl) ?_
  intro p e s m args below meth c Q ls S hP hK hl hret
  obtain ⟨hx, hb, hml, hown, hts⟩ := S
  have hown : s.vm.findClass RX3 = some m.cls := hown
  have hS : va_S noA s.heap s.heap [] := va_S.rf
  have hl : lv_has ls 2 [(0, .int a0), (1, .int a1)] := hl
  refine lv_iload_n hx hb dX3_without_0 rfl (lv_at hl 0 rfl) ?_
  refine lv_iconst (v := 1) hx hb dX3_without_1 (by decide) ?_
  refine lv_iload_n hx hb dX3_without_2 rfl (lv_at hl 1 rfl) ?_
  refine lv_ishl hx hb dX3_without_3 ?_
  refine lv_iconst (v := (-1)) hx hb dX3_without_4 (by decide) ?_
  refine lv_ixor hx hb dX3_without_5 ?_
  refine lv_iand hx hb dX3_without_6 ?_
  have hv := Option.some.inj hf
  exact hret _ _ _ _ _ hS hv dX3_without_7
def fX3_pair (a0 : Int32) (a1 : Int32) : Option (Int64) :=
  some (j_lshl 1 ((7 * a1) + a0))
set_option maxHeartbeats 4000000 in
set_option maxRecDepth 100000 in
theorem ctX3_pair (l : Launch) (G : GG) (a0 : Int32) (a1 : Int32) (out : Int64) (hf : fX3_pair a0 a1 = some out) : Met l yX3_pair wsX3_pair ({ frames := 0, cells := 0, slots := 0, locals := 0 }) (PcR G [.int a0, .int a1] []) (QlR out) 0 0 noA := by
  refine mk_Rl (cc := cX3_pair) (maxL := 2) (by decide) rfl (Nat.le_of_ble_eq_true rfl) ?_
  intro p e s m args below meth c Q ls S hP hK hl hret
  obtain ⟨hx, hb, hml, hown, hts⟩ := S
  have hown : s.vm.findClass RX3 = some m.cls := hown
  have hS : va_S noA s.heap s.heap [] := va_S.rf
  have hl : lv_has ls 2 [(0, .int a0), (1, .int a1)] := hl
  refine lv_lconst (v := 1) hx hb dX3_pair_0 (by decide) ?_
  refine lv_bipush (v := 7) hx hb dX3_pair_1 (by decide) ?_
  refine lv_iload_n hx hb dX3_pair_3 rfl (lv_at hl 1 rfl) ?_
  refine lv_imul hx hb dX3_pair_4 ?_
  refine lv_iload_n hx hb dX3_pair_5 rfl (lv_at hl 0 rfl) ?_
  refine lv_iadd hx hb dX3_pair_6 ?_
  refine lv_lshl (v := (j_lshl 1 ((7 * a1) + a0))) hx hb dX3_pair_7 rfl ?_
  have hv := Option.some.inj hf
  exact hret _ _ _ _ _ hS hv dX3_pair_8
def fX3_leastOf_2 (a0 : Int32) : Nat → Int32 → Option (Int32)
  | 0, _ => none
  | n + 1, x1 => (if 7 ≤ x1 then some (-9) else (fX3_isIn a0 x1).bind fun o2 => ((if o2 = 0 then (fX3_leastOf_2 a0 n (x1 + 1)) else some x1)))
def fX3_leastOf (a0 : Int32) : Option (Int32) :=
  (fX3_leastOf_2 a0 9 0)
set_option maxHeartbeats 4000000 in
set_option maxRecDepth 100000 in
theorem ctX3_leastOf (l : Launch) (G : GG) (a0 : Int32) (out : Int32) (hf : fX3_leastOf a0 = some out) : Met l yX3_leastOf wsX3_leastOf ({ frames := 1, cells := 0, slots := 0, locals := 21 }) (PcR G [.int a0] []) (QiR out) 0 0 noA := by
  refine mk_Ri (cc := cX3_leastOf) (maxL := 2) (by decide) rfl (Nat.le_of_ble_eq_true rfl) ?_
  intro p e s m args below meth c Q ls S hP hK hl hret
  obtain ⟨hx, hb, hml, hown, hts⟩ := S
  have hown : s.vm.findClass RX3 = some m.cls := hown
  have hS : va_S noA s.heap s.heap [] := va_S.rf
  have hl : lv_has ls 2 [(0, .int a0)] := hl
  have hC2 : ∀ (n : Nat) (x1 : Int32) (H : Heap) (locs : List Loc) (ls : Array Slot), va_P (gD G) vwCl [] H → va_S noA s.heap H locs → lv_has ls 2 [(0, .int a0), (1, .int x1)] → fX3_leastOf_2 a0 n x1 = some out → W p l e ({ frames := 1, cells := 0, slots := 0, locals := 21 }) s m args below meth c H locs 0 0 Q (F0 m 2 ls []) := by
    intro n2
    induction n2 with
    | zero => intro x1 H locs ls hP hS hl hf; exact absurd (show none = some out from hf) (fun z => by cases z)
    | succ n2 ih2 =>
      intro x1 H locs ls hP hS hl hf
      refine lv_iload_n hx hb dX3_leastOf_2 rfl (lv_at hl 1 rfl) ?_
      refine lv_bipush (v := 7) hx hb dX3_leastOf_3 (by decide) ?_
      refine lv_icmp_ge (tgt := 24) hx hb dX3_leastOf_5 (by decide) (fun c1 => ?_) (fun c1 => ?_)
      · have hf := iteT hf c1
        refine lv_bipush (v := (-9)) hx hb dX3_leastOf_24 (by decide) ?_
        have hv := Option.some.inj hf
        exact hret _ _ _ _ _ hS hv dX3_leastOf_26
      · have hf := iteF hf c1
        refine lv_iload_n hx hb dX3_leastOf_8 rfl (lv_at hl 0 rfl) ?_
        refine lv_iload_n hx hb dX3_leastOf_9 rfl (lv_at hl 1 rfl) ?_
        obtain ⟨o2, hc3, hf⟩ := bindS hf
        refine ro_i (va_runS (As := [.int a0, .int x1]) (rest := []) ⟨hx, hb, hml, hown, hts⟩ (ctX3_isIn l G a0 x1 o2 hc3) (va_cwS 2 hts gX3_leastOf_X3_isIn rfl rfl rfl (by decide +kernel) ⟨Nat.le_of_ble_eq_true rfl, Nat.le_of_ble_eq_true rfl⟩) (preR_S (hP.sub (ws' := []) [] rfl) hK) rfl rfl hl.1 rfl (lv_room (Nat.le_of_ble_eq_true rfl)) dX3_leastOf_10 ⟨Nat.zero_le _, Nat.zero_le _⟩) hS hP (fun H locs hP hS => ?_)
        refine lv_if_eq (tgt := 18) hx hb dX3_leastOf_13 (by decide) (fun c4 => ?_) (fun c4 => ?_)
        · have hf := iteT hf c4
          refine lv_iinc (v := (x1 + 1)) (lv' := [(1, .int (x1 + 1)), (0, .int a0)]) hx hb dX3_leastOf_18 hl (k := 1) rfl rfl (by decide) rfl (fun ls hl => ?_)
          refine lv_goto (tgt := 2) hx hb dX3_leastOf_21 (by decide) ?_
          exact ih2 (x1 + 1) _ _ _ hP hS (lv_sub hl [1, 0] rfl) hf
        · have hf := iteF hf c4
          refine lv_iload_n hx hb dX3_leastOf_16 rfl (lv_at hl 1 rfl) ?_
          have hv := Option.some.inj hf
          exact hret _ _ _ _ _ hS hv dX3_leastOf_17
  refine lv_iconst (v := 0) hx hb dX3_leastOf_0 (by decide) ?_
  refine lv_istore_n (lv' := [(1, .int 0), (0, .int a0)]) hx hb dX3_leastOf_1 rfl hl (by decide) rfl (fun ls hl => ?_)
  exact hC2 9 0 _ _ _ hP hS (lv_sub hl [1, 0] rfl) hf
def fX3_factorial_4 (a0 : Int32) : Nat → Int32 → Int32 → Option (Int32)
  | 0, _, _ => none
  | n + 1, x1, x2 => (if a0 < x2 then some x1 else (fX3_factorial_4 a0 n (x1 * x2) (x2 + 1)))
def fX3_factorial (a0 : Int32) : Option (Int32) :=
  (fX3_factorial_4 a0 9 1 2)
set_option maxHeartbeats 4000000 in
set_option maxRecDepth 100000 in
theorem ctX3_factorial (l : Launch) (G : GG) (a0 : Int32) (out : Int32) (hf : fX3_factorial a0 = some out) : Met l yX3_factorial wsX3_factorial ({ frames := 0, cells := 0, slots := 0, locals := 0 }) (PcR G [.int a0] []) (QiR out) 0 0 noA := by
  refine mk_Ri (cc := cX3_factorial) (maxL := 3) (by decide) rfl (Nat.le_of_ble_eq_true rfl) ?_
  intro p e s m args below meth c Q ls S hP hK hl hret
  obtain ⟨hx, hb, hml, hown, hts⟩ := S
  have hown : s.vm.findClass RX3 = some m.cls := hown
  have hS : va_S noA s.heap s.heap [] := va_S.rf
  have hl : lv_has ls 3 [(0, .int a0)] := hl
  have hC4 : ∀ (n : Nat) (x1 : Int32) (x2 : Int32) (H : Heap) (locs : List Loc) (ls : Array Slot), va_P (gD G) vwCl [] H → va_S noA s.heap H locs → lv_has ls 3 [(0, .int a0), (1, .int x1), (2, .int x2)] → fX3_factorial_4 a0 n x1 x2 = some out → W p l e ({ frames := 0, cells := 0, slots := 0, locals := 0 }) s m args below meth c H locs 0 0 Q (F0 m 4 ls []) := by
    intro n4
    induction n4 with
    | zero => intro x1 x2 H locs ls hP hS hl hf; exact absurd (show none = some out from hf) (fun z => by cases z)
    | succ n4 ih4 =>
      intro x1 x2 H locs ls hP hS hl hf
      refine lv_iload_n hx hb dX3_factorial_4 rfl (lv_at hl 2 rfl) ?_
      refine lv_iload_n hx hb dX3_factorial_5 rfl (lv_at hl 0 rfl) ?_
      refine lv_icmp_gt (tgt := 19) hx hb dX3_factorial_6 (by decide) (fun c1 => ?_) (fun c1 => ?_)
      · have hf := iteT hf c1
        refine lv_iload_n hx hb dX3_factorial_19 rfl (lv_at hl 1 rfl) ?_
        have hv := Option.some.inj hf
        exact hret _ _ _ _ _ hS hv dX3_factorial_20
      · have hf := iteF hf c1
        refine lv_iload_n hx hb dX3_factorial_9 rfl (lv_at hl 1 rfl) ?_
        refine lv_iload_n hx hb dX3_factorial_10 rfl (lv_at hl 2 rfl) ?_
        refine lv_imul hx hb dX3_factorial_11 ?_
        refine lv_istore_n (lv' := [(1, .int (x1 * x2)), (0, .int a0), (2, .int x2)]) hx hb dX3_factorial_12 rfl hl (by decide) rfl (fun ls hl => ?_)
        refine lv_iinc (v := (x2 + 1)) (lv' := [(2, .int (x2 + 1)), (1, .int (x1 * x2)), (0, .int a0)]) hx hb dX3_factorial_13 hl (k := 2) rfl rfl (by decide) rfl (fun ls hl => ?_)
        refine lv_goto (tgt := 4) hx hb dX3_factorial_16 (by decide) ?_
        exact ih4 (x1 * x2) (x2 + 1) _ _ _ hP hS (lv_sub hl [2, 1, 0] rfl) hf
  refine lv_iconst (v := 1) hx hb dX3_factorial_0 (by decide) ?_
  refine lv_istore_n (lv' := [(1, .int 1), (0, .int a0)]) hx hb dX3_factorial_1 rfl hl (by decide) rfl (fun ls hl => ?_)
  refine lv_iconst (v := 2) hx hb dX3_factorial_2 (by decide) ?_
  refine lv_istore_n (lv' := [(2, .int 2), (1, .int 1), (0, .int a0)]) hx hb dX3_factorial_3 rfl hl (by decide) rfl (fun ls hl => ?_)
  exact hC4 9 1 2 _ _ _ hP hS (lv_sub hl [2, 1, 0] rfl) hf
def fX3_commonDivisor_7 : Nat → Int32 → Int32 → Int32 → Option (Int32)
  | 0, _, _, _ => none
  | n + 1, x2, x3, x4 => (if 100 ≤ x4 then some x2 else (if x3 = 0 then some x2 else dv x3 ((fX3_commonDivisor_7 n x3 (x2 - x2 / x3 * x3) (x4 + 1)))))
def fX3_commonDivisor (a0 : Int32) (a1 : Int32) : Option (Int32) :=
  (fX3_commonDivisor_7 102 a0 a1 0)
set_option maxHeartbeats 4000000 in
set_option maxRecDepth 100000 in
theorem ctX3_commonDivisor (l : Launch) (G : GG) (a0 : Int32) (a1 : Int32) (out : Int32) (hf : fX3_commonDivisor a0 a1 = some out) : Met l yX3_commonDivisor wsX3_commonDivisor ({ frames := 0, cells := 0, slots := 0, locals := 0 }) (PcR G [.int a0, .int a1] []) (QiR out) 0 0 noA := by
  refine mk_Ri (cc := cX3_commonDivisor) (maxL := 6) (by decide) rfl (Nat.le_of_ble_eq_true rfl) ?_
  intro p e s m args below meth c Q ls S hP hK hl hret
  obtain ⟨hx, hb, hml, hown, hts⟩ := S
  have hown : s.vm.findClass RX3 = some m.cls := hown
  have hS : va_S noA s.heap s.heap [] := va_S.rf
  have hl : lv_has ls 6 [(0, .int a0), (1, .int a1)] := hl
  have hC7 : ∀ (n : Nat) (x2 : Int32) (x3 : Int32) (x4 : Int32) (H : Heap) (locs : List Loc) (ls : Array Slot), va_P (gD G) vwCl [] H → va_S noA s.heap H locs → lv_has ls 6 [(2, .int x2), (3, .int x3), (4, .int x4)] → fX3_commonDivisor_7 n x2 x3 x4 = some out → W p l e ({ frames := 0, cells := 0, slots := 0, locals := 0 }) s m args below meth c H locs 0 0 Q (F0 m 7 ls []) := by
    intro n7
    induction n7 with
    | zero => intro x2 x3 x4 H locs ls hP hS hl hf; exact absurd (show none = some out from hf) (fun z => by cases z)
    | succ n7 ih7 =>
      intro x2 x3 x4 H locs ls hP hS hl hf
      refine lv_iload hx hb dX3_commonDivisor_7 (lv_at hl 2 rfl) ?_
      refine lv_bipush (v := 100) hx hb dX3_commonDivisor_9 (by decide) ?_
      refine lv_icmp_ge (tgt := 34) hx hb dX3_commonDivisor_11 (by decide) (fun c1 => ?_) (fun c1 => ?_)
      · have hf := iteT hf c1
        refine lv_iload_n hx hb dX3_commonDivisor_34 rfl (lv_at hl 0 rfl) ?_
        have hv := Option.some.inj hf
        exact hret _ _ _ _ _ hS hv dX3_commonDivisor_35
      · have hf := iteF hf c1
        refine lv_iload_n hx hb dX3_commonDivisor_14 rfl (lv_at hl 1 rfl) ?_
        refine lv_if_eq (tgt := 34) hx hb dX3_commonDivisor_15 (by decide) (fun c2 => ?_) (fun c2 => ?_)
        · have hf := iteT hf c2
          refine lv_iload_n hx hb dX3_commonDivisor_34 rfl (lv_at hl 0 rfl) ?_
          have hv := Option.some.inj hf
          exact hret _ _ _ _ _ hS hv dX3_commonDivisor_35
        · have hf := iteF hf c2
          refine lv_iload_n hx hb dX3_commonDivisor_18 rfl (lv_at hl 0 rfl) ?_
          refine lv_iload_n hx hb dX3_commonDivisor_19 rfl (lv_at hl 1 rfl) ?_
          obtain ⟨hz3, hf⟩ := dvS hf
          refine lv_irem hx hb dX3_commonDivisor_20 hz3 ?_
          refine lv_istore (lv' := [(5, .int (x2 - x2 / x3 * x3)), (2, .int x2), (3, .int x3), (4, .int x4)]) hx hb dX3_commonDivisor_21 hl (by decide) rfl (fun ls hl => ?_)
          refine lv_iload_n hx hb dX3_commonDivisor_23 rfl (lv_at hl 2 rfl) ?_
          refine lv_istore_n (lv' := [(2, .int x3), (5, .int (x2 - x2 / x3 * x3)), (3, .int x3), (4, .int x4)]) hx hb dX3_commonDivisor_24 rfl hl (by decide) rfl (fun ls hl => ?_)
          refine lv_iload hx hb dX3_commonDivisor_25 (lv_at hl 1 rfl) ?_
          refine lv_istore_n (lv' := [(3, .int (x2 - x2 / x3 * x3)), (2, .int x3), (5, .int (x2 - x2 / x3 * x3)), (4, .int x4)]) hx hb dX3_commonDivisor_27 rfl hl (by decide) rfl (fun ls hl => ?_)
          refine lv_iinc (v := (x4 + 1)) (lv' := [(4, .int (x4 + 1)), (3, .int (x2 - x2 / x3 * x3)), (2, .int x3), (5, .int (x2 - x2 / x3 * x3))]) hx hb dX3_commonDivisor_28 hl (k := 3) rfl rfl (by decide) rfl (fun ls hl => ?_)
          refine lv_goto (tgt := 7) hx hb dX3_commonDivisor_31 (by decide) ?_
          exact ih7 x3 (x2 - x2 / x3 * x3) (x4 + 1) _ _ _ hP hS (lv_sub hl [2, 1, 0] rfl) hf
  refine lv_iload_n hx hb dX3_commonDivisor_0 rfl (lv_at hl 0 rfl) ?_
  refine lv_istore_n (lv' := [(2, .int a0), (0, .int a0), (1, .int a1)]) hx hb dX3_commonDivisor_1 rfl hl (by decide) rfl (fun ls hl => ?_)
  refine lv_iload_n hx hb dX3_commonDivisor_2 rfl (lv_at hl 2 rfl) ?_
  refine lv_istore_n (lv' := [(3, .int a1), (2, .int a0), (0, .int a0), (1, .int a1)]) hx hb dX3_commonDivisor_3 rfl hl (by decide) rfl (fun ls hl => ?_)
  refine lv_iconst (v := 0) hx hb dX3_commonDivisor_4 (by decide) ?_
  refine lv_istore (lv' := [(4, .int 0), (3, .int a1), (2, .int a0), (0, .int a0), (1, .int a1)]) hx hb dX3_commonDivisor_5 hl (by decide) rfl (fun ls hl => ?_)
  exact hC7 102 a0 a1 0 _ _ _ hP hS (lv_sub hl [2, 1, 0] rfl) hf
def fX3_inLeastTerms_18 (x3 : Int32) (y0 : Int32) : Option (Int32) :=
  (if x3 ≤ 0 then some y0 else dv x3 (some (y0 / x3)))
def fX3_inLeastTerms (a0 : Int32) (a1 : Int32) (a2 : Int32) : Option (Int32) :=
  (fX3_commonDivisor (if 0 ≤ a0 then a0 else 0 - a0) a1).bind fun o1 => ((if a2 = 0 then (fX3_inLeastTerms_18 o1 a1) else (fX3_inLeastTerms_18 o1 a0)))
set_option maxHeartbeats 4000000 in
set_option maxRecDepth 100000 in
theorem ctX3_inLeastTerms (l : Launch) (G : GG) (a0 : Int32) (a1 : Int32) (a2 : Int32) (out : Int32) (hf : fX3_inLeastTerms a0 a1 a2 = some out) : Met l yX3_inLeastTerms wsX3_inLeastTerms ({ frames := 1, cells := 0, slots := 0, locals := 25 }) (PcR G [.int a0, .int a1, .int a2] []) (QiR out) 0 0 noA := by
  refine mk_Ri (cc := cX3_inLeastTerms) (maxL := 5) (by decide) rfl (Nat.le_of_ble_eq_true rfl) ?_
  intro p e s m args below meth c Q ls S hP hK hl hret
  obtain ⟨hx, hb, hml, hown, hts⟩ := S
  have hown : s.vm.findClass RX3 = some m.cls := hown
  have hS : va_S noA s.heap s.heap [] := va_S.rf
  have hl : lv_has ls 5 [(0, .int a0), (1, .int a1), (2, .int a2)] := hl
  have hC18 : ∀ (x3 : Int32) (y0 : Int32) (H : Heap) (locs : List Loc) (ls : Array Slot), va_P (gD G) vwCl [] H → va_S noA s.heap H locs → lv_has ls 5 [(3, .int x3)] → fX3_inLeastTerms_18 x3 y0 = some out → W p l e ({ frames := 1, cells := 0, slots := 0, locals := 25 }) s m args below meth c H locs 0 0 Q (F0 m 18 ls [.int y0]) := by
    intro x3 y0 H locs ls hP hS hl hf
    refine lv_istore (lv' := [(4, .int y0), (3, .int x3)]) hx hb dX3_inLeastTerms_18 hl (by decide) rfl (fun ls hl => ?_)
    refine lv_iload_n hx hb dX3_inLeastTerms_20 rfl (lv_at hl 1 rfl) ?_
    refine lv_if_le (tgt := 31) hx hb dX3_inLeastTerms_21 (by decide) (fun c4 => ?_) (fun c4 => ?_)
    · have hf := iteT hf c4
      refine lv_iload hx hb dX3_inLeastTerms_31 (lv_at hl 0 rfl) ?_
      have hv := Option.some.inj hf
      exact hret _ _ _ _ _ hS hv dX3_inLeastTerms_33
    · have hf := iteF hf c4
      refine lv_iload hx hb dX3_inLeastTerms_24 (lv_at hl 0 rfl) ?_
      refine lv_iload_n hx hb dX3_inLeastTerms_26 rfl (lv_at hl 1 rfl) ?_
      obtain ⟨hz5, hf⟩ := dvS hf
      refine lv_idiv hx hb dX3_inLeastTerms_27 hz5 ?_
      refine lv_goto (tgt := 33) hx hb dX3_inLeastTerms_28 (by decide) ?_
      have hv := Option.some.inj hf
      exact hret _ _ _ _ _ hS hv dX3_inLeastTerms_33
  refine lv_iload_n hx hb dX3_inLeastTerms_0 rfl (lv_at hl 0 rfl) ?_
  refine va_mabs hx hb (hml.trans hl.1.symm) hown (hts (.methodLink RX3 220 Lib.Math.abs.name) (by decide +kernel)) (hts (.static Lib.Math.abs.name) (by decide +kernel)) (hts (.initialized "java/lang/Math") (by decide +kernel)) (hts (.code Lib.Math.abs.name Lib.Math.abs.code 1 (some .int)) (by decide +kernel)) (Nat.le_of_ble_eq_true rfl) (Nat.le_of_ble_eq_true rfl) (Nat.le_of_ble_eq_true rfl) (Nat.le_of_ble_eq_true rfl) dX3_inLeastTerms_1 ?_
  refine lv_iload_n hx hb dX3_inLeastTerms_4 rfl (lv_at hl 1 rfl) ?_
  obtain ⟨o1, hc2, hf⟩ := bindS hf
  refine ro_i (va_runS (As := [.int (if 0 ≤ a0 then a0 else 0 - a0), .int a1]) (rest := []) ⟨hx, hb, hml, hown, hts⟩ (ctX3_commonDivisor l G (if 0 ≤ a0 then a0 else 0 - a0) a1 o1 hc2) (va_cwS 2 hts gX3_inLeastTerms_X3_commonDivisor rfl rfl rfl (by decide +kernel) ⟨Nat.le_of_ble_eq_true rfl, Nat.le_of_ble_eq_true rfl⟩) (preR_S (hP.sub (ws' := []) [] rfl) hK) rfl rfl hl.1 rfl (lv_room (Nat.le_of_ble_eq_true rfl)) dX3_inLeastTerms_5 ⟨Nat.zero_le _, Nat.zero_le _⟩) hS hP (fun H locs hP hS => ?_)
  refine lv_istore_n (lv' := [(3, .int o1), (0, .int a0), (1, .int a1), (2, .int a2)]) hx hb dX3_inLeastTerms_8 rfl hl (by decide) rfl (fun ls hl => ?_)
  refine lv_iload_n hx hb dX3_inLeastTerms_9 rfl (lv_at hl 3 rfl) ?_
  refine lv_if_eq (tgt := 17) hx hb dX3_inLeastTerms_10 (by decide) (fun c3 => ?_) (fun c3 => ?_)
  · have hf := iteT hf c3
    refine lv_iload_n hx hb dX3_inLeastTerms_17 rfl (lv_at hl 2 rfl) ?_
    exact hC18 o1 a1 _ _ _ hP hS (lv_sub hl [0] rfl) hf
  · have hf := iteF hf c3
    refine lv_iload_n hx hb dX3_inLeastTerms_13 rfl (lv_at hl 1 rfl) ?_
    refine lv_goto (tgt := 18) hx hb dX3_inLeastTerms_14 (by decide) ?_
    exact hC18 o1 a0 _ _ _ hP hS (lv_sub hl [0] rfl) hf
def fX3_isOpen (a0 : Int32) (a1 : Int32) : Option (Int32) :=
  (if a1 = (a0 + 1) then some 0 else some 1)
set_option maxHeartbeats 4000000 in
set_option maxRecDepth 100000 in
theorem ctX3_isOpen (l : Launch) (G : GG) (a0 : Int32) (a1 : Int32) (out : Int32) (hf : fX3_isOpen a0 a1 = some out) : Met l yX3_isOpen wsX3_isOpen ({ frames := 0, cells := 0, slots := 0, locals := 0 }) (PcR G [.int a0, .int a1] []) (QiR out) 0 0 noA := by
  refine mk_Rz (cc := cX3_isOpen) (maxL := 2) (by decide) rfl (Nat.le_of_ble_eq_true rfl) ?_
  intro p e s m args below meth c Q ls S hP hK hl hret
  obtain ⟨hx, hb, hml, hown, hts⟩ := S
  have hown : s.vm.findClass RX3 = some m.cls := hown
  have hS : va_S noA s.heap s.heap [] := va_S.rf
  have hl : lv_has ls 2 [(0, .int a0), (1, .int a1)] := hl
  refine lv_iload_n hx hb dX3_isOpen_0 rfl (lv_at hl 1 rfl) ?_
  refine lv_iload_n hx hb dX3_isOpen_1 rfl (lv_at hl 0 rfl) ?_
  refine lv_iconst (v := 1) hx hb dX3_isOpen_2 (by decide) ?_
  refine lv_iadd hx hb dX3_isOpen_3 ?_
  refine lv_icmp_eq (tgt := 11) hx hb dX3_isOpen_4 (by decide) (fun c1 => ?_) (fun c1 => ?_)
  · have hf := iteT hf c1
    refine lv_iconst (v := 0) hx hb dX3_isOpen_11 (by decide) ?_
    have hv := Option.some.inj hf
    exact hret _ _ _ _ _ hS rfl hv dX3_isOpen_12
  · have hf := iteF hf c1
    refine lv_iconst (v := 1) hx hb dX3_isOpen_7 (by decide) ?_
    refine lv_goto (tgt := 12) hx hb dX3_isOpen_8 (by decide) ?_
    have hv := Option.some.inj hf
    exact hret _ _ _ _ _ hS rfl hv dX3_isOpen_12
def fX3_chosen (a0 : Int32) (a1 : Int32) : Option (Int64) :=
  (if a1 ≤ 0 then some 0 else (fX3_isOpen a0 a1).bind fun o2 => ((if o2 = 0 then some 0 else (fX3_pair a0 (a1 - 1)).bind fun o5 => (some o5))))
set_option maxHeartbeats 4000000 in
set_option maxRecDepth 100000 in
theorem ctX3_chosen (l : Launch) (G : GG) (a0 : Int32) (a1 : Int32) (out : Int64) (hf : fX3_chosen a0 a1 = some out) : Met l yX3_chosen wsX3_chosen ({ frames := 1, cells := 0, slots := 0, locals := 21 }) (PcR G [.int a0, .int a1] []) (QlR out) 0 0 noA := by
  refine mk_Rl (cc := cX3_chosen) (maxL := 2) (by decide) rfl (Nat.le_of_ble_eq_true rfl) ?_
  intro p e s m args below meth c Q ls S hP hK hl hret
  obtain ⟨hx, hb, hml, hown, hts⟩ := S
  have hown : s.vm.findClass RX3 = some m.cls := hown
  have hS : va_S noA s.heap s.heap [] := va_S.rf
  have hl : lv_has ls 2 [(0, .int a0), (1, .int a1)] := hl
  refine lv_iload_n hx hb dX3_chosen_0 rfl (lv_at hl 1 rfl) ?_
  refine lv_if_le (tgt := 22) hx hb dX3_chosen_1 (by decide) (fun c1 => ?_) (fun c1 => ?_)
  · have hf := iteT hf c1
    refine lv_lconst (v := 0) hx hb dX3_chosen_22 (by decide) ?_
    have hv := Option.some.inj hf
    exact hret _ _ _ _ _ hS hv dX3_chosen_23
  · have hf := iteF hf c1
    refine lv_iload_n hx hb dX3_chosen_4 rfl (lv_at hl 0 rfl) ?_
    refine lv_iload_n hx hb dX3_chosen_5 rfl (lv_at hl 1 rfl) ?_
    obtain ⟨o2, hc3, hf⟩ := bindS hf
    refine ro_i (va_runS (As := [.int a0, .int a1]) (rest := []) ⟨hx, hb, hml, hown, hts⟩ (ctX3_isOpen l G a0 a1 o2 hc3) (va_cwS 2 hts gX3_chosen_X3_isOpen rfl rfl rfl (by decide +kernel) ⟨Nat.le_of_ble_eq_true rfl, Nat.le_of_ble_eq_true rfl⟩) (preR_S (hP.sub (ws' := []) [] rfl) hK) rfl rfl hl.1 rfl (lv_room (Nat.le_of_ble_eq_true rfl)) dX3_chosen_6 ⟨Nat.zero_le _, Nat.zero_le _⟩) hS hP (fun H locs hP hS => ?_)
    refine lv_if_eq (tgt := 22) hx hb dX3_chosen_9 (by decide) (fun c4 => ?_) (fun c4 => ?_)
    · have hf := iteT hf c4
      refine lv_lconst (v := 0) hx hb dX3_chosen_22 (by decide) ?_
      have hv := Option.some.inj hf
      exact hret _ _ _ _ _ hS hv dX3_chosen_23
    · have hf := iteF hf c4
      refine lv_iload_n hx hb dX3_chosen_12 rfl (lv_at hl 0 rfl) ?_
      refine lv_iload_n hx hb dX3_chosen_13 rfl (lv_at hl 1 rfl) ?_
      refine lv_iconst (v := 1) hx hb dX3_chosen_14 (by decide) ?_
      refine lv_isub hx hb dX3_chosen_15 ?_
      obtain ⟨o5, hc6, hf⟩ := bindS hf
      refine ro_l (va_runS (As := [.int a0, .int (a1 - 1)]) (rest := []) ⟨hx, hb, hml, hown, hts⟩ (ctX3_pair l G a0 (a1 - 1) o5 hc6) (va_cwS 2 hts gX3_chosen_X3_pair rfl rfl rfl (by decide +kernel) ⟨Nat.le_of_ble_eq_true rfl, Nat.le_of_ble_eq_true rfl⟩) (preR_S (hP.sub (ws' := []) [] rfl) hK) rfl rfl hl.1 rfl (lv_room (Nat.le_of_ble_eq_true rfl)) dX3_chosen_16 ⟨Nat.zero_le _, Nat.zero_le _⟩) hS hP (fun H locs hP hS => ?_)
      refine lv_goto (tgt := 23) hx hb dX3_chosen_19 (by decide) ?_
      have hv := Option.some.inj hf
      exact hret _ _ _ _ _ hS hv dX3_chosen_23
def fX3_cost (a0 : Int32) : Option (Int32) :=
  (if a0 = 0 then some 0 else some 1)
set_option maxHeartbeats 4000000 in
set_option maxRecDepth 100000 in
theorem ctX3_cost (l : Launch) (G : GG) (a0 : Int32) (out : Int32) (hf : fX3_cost a0 = some out) : Met l yX3_cost wsX3_cost ({ frames := 0, cells := 0, slots := 0, locals := 0 }) (PcR G [.int a0] []) (QiR out) 0 0 noA := by
  refine mk_Ri (cc := cX3_cost) (maxL := 1) (by decide) rfl (Nat.le_of_ble_eq_true rfl) ?_
  intro p e s m args below meth c Q ls S hP hK hl hret
  obtain ⟨hx, hb, hml, hown, hts⟩ := S
  have hown : s.vm.findClass RX3 = some m.cls := hown
  have hS : va_S noA s.heap s.heap [] := va_S.rf
  have hl : lv_has ls 1 [(0, .int a0)] := hl
  refine lv_iload_n hx hb dX3_cost_0 rfl (lv_at hl 0 rfl) ?_
  refine lv_if_ne (tgt := 8) hx hb dX3_cost_1 (by decide) (fun c1 => ?_) (fun c1 => ?_)
  · have hf := iteF hf c1
    refine lv_iconst (v := 1) hx hb dX3_cost_8 (by decide) ?_
    have hv := Option.some.inj hf
    exact hret _ _ _ _ _ hS hv dX3_cost_9
  · have hf := iteT hf c1
    refine lv_iconst (v := 0) hx hb dX3_cost_4 (by decide) ?_
    refine lv_goto (tgt := 9) hx hb dX3_cost_5 (by decide) ?_
    have hv := Option.some.inj hf
    exact hret _ _ _ _ _ hS hv dX3_cost_9
def fX1_clear (s_people : Int32) (s_kinds : Int32) (s_deeds : Int32) (s_feeding : Int64) (s_large : Int32) (s_dead : Int32) (s_dayNumber : Int32) : Option (Int32 × Int32 × Int32 × Int64 × Int32 × Int32 × Int32) :=
  some (0, 0, 0, 0, 0, 0, 0)
set_option maxHeartbeats 4000000 in
set_option maxRecDepth 100000 in
theorem ctX1_clear (l : Launch) (G : GG) (h0 : Nat) (s_people : Int32) (s_kinds : Int32) (s_deeds : Int32) (s_feeding : Int64) (s_large : Int32) (s_dead : Int32) (s_dayNumber : Int32) (out : Int32 × Int32 × Int32 × Int64 × Int32 × Int32 × Int32) (hf : fX1_clear s_people s_kinds s_deeds s_feeding s_large s_dead s_dayNumber = some out) : Met l yX1_clear wsX1_clear ({ frames := 0, cells := 0, slots := 0, locals := 0 }) (PcW G [.ref h0] [(h0, stE s_people s_kinds s_deeds s_feeding s_large s_dead s_dayNumber)]) (QvW G [(h0, stE s_people s_kinds s_deeds s_feeding s_large s_dead s_dayNumber)] [(h0, stE out.1 out.2.1 out.2.2.1 out.2.2.2.1 out.2.2.2.2.1 out.2.2.2.2.2.1 out.2.2.2.2.2.2)]) 0 0 (inA [(h0, stE s_people s_kinds s_deeds s_feeding s_large s_dead s_dayNumber)]) := by
  refine mk_Wv (cc := cX1_clear) (maxL := 1) (by decide) rfl (Nat.le_of_ble_eq_true rfl) ?_
  intro p e s m args below meth c Q ls A S hP hK hD hl hret
  obtain ⟨hx, hb, hml, hown, hts⟩ := S
  have hown : s.vm.findClass RX1 = some m.cls := hown
  have kl_9 := hts (.fieldLink RX1 9 "ArrestOrder$Standing" "people" "I") (by decide +kernel)
  have hi_X1 : ∀ w ∈ wsX10, w ∈ wsX1_clear := fun _ h => List.mem_cons_of_mem _ (List.mem_append_right _ h)
  have kl_15 := hts (.fieldLink RX1 15 "ArrestOrder$Standing" "kinds" "I") (by decide +kernel)
  have kl_18 := hts (.fieldLink RX1 18 "ArrestOrder$Standing" "deeds" "I") (by decide +kernel)
  have kl_21 := hts (.fieldLink RX1 21 "ArrestOrder$Standing" "feeding" "J") (by decide +kernel)
  have kl_25 := hts (.fieldLink RX1 25 "ArrestOrder$Standing" "large" "I") (by decide +kernel)
  have kl_28 := hts (.fieldLink RX1 28 "ArrestOrder$Standing" "dead" "I") (by decide +kernel)
  have kl_31 := hts (.fieldLink RX1 31 "ArrestOrder$Standing" "dayNumber" "I") (by decide +kernel)
  have hS : va_S A s.heap s.heap [] := va_S.rf
  have hl : lv_has ls 1 [(0, .ref h0)] := hl
  refine lv_aload_n hx hb dX1_clear_0 rfl (lv_at hl 0 rfl) ?_
  refine lv_iconst (v := 0) hx hb dX1_clear_1 (by decide) ?_
  refine va_put (D := gD G) (ci := 1) (v := .int 0) (ty := .int) (C := RX1) (T := TX1) (N := 7) hx hb hts hi_X1 tyX1 tyX1_ok nmX1 hown hK.1 hP hD hS 0 rfl rfl 0 (by decide) kl_9 (fun _ h9 => h9) rfl (tyX1_ok 0 (by decide)) rfl rfl (Nat.le_of_ble_eq_true rfl) dX1_clear_2 (fun H locs hP hD hS => ?_)
  have hP : va_P (gD G) vwCl [(h0, stE 0 s_kinds s_deeds s_feeding s_large s_dead s_dayNumber)] H := hP
  have hD : va_D A [(h0, stE 0 s_kinds s_deeds s_feeding s_large s_dead s_dayNumber)] := hD
  refine lv_aload_n hx hb dX1_clear_5 rfl (lv_at hl 0 rfl) ?_
  refine lv_iconst (v := 0) hx hb dX1_clear_6 (by decide) ?_
  refine va_put (D := gD G) (ci := 1) (v := .int 0) (ty := .int) (C := RX1) (T := TX1) (N := 7) hx hb hts hi_X1 tyX1 tyX1_ok nmX1 hown hK.1 hP hD hS 0 rfl rfl 1 (by decide) kl_15 (fun _ h9 => h9) rfl (tyX1_ok 1 (by decide)) rfl rfl (Nat.le_of_ble_eq_true rfl) dX1_clear_7 (fun H locs hP hD hS => ?_)
  have hP : va_P (gD G) vwCl [(h0, stE 0 0 s_deeds s_feeding s_large s_dead s_dayNumber)] H := hP
  have hD : va_D A [(h0, stE 0 0 s_deeds s_feeding s_large s_dead s_dayNumber)] := hD
  refine lv_aload_n hx hb dX1_clear_10 rfl (lv_at hl 0 rfl) ?_
  refine lv_iconst (v := 0) hx hb dX1_clear_11 (by decide) ?_
  refine va_put (D := gD G) (ci := 1) (v := .int 0) (ty := .int) (C := RX1) (T := TX1) (N := 7) hx hb hts hi_X1 tyX1 tyX1_ok nmX1 hown hK.1 hP hD hS 0 rfl rfl 2 (by decide) kl_18 (fun _ h9 => h9) rfl (tyX1_ok 2 (by decide)) rfl rfl (Nat.le_of_ble_eq_true rfl) dX1_clear_12 (fun H locs hP hD hS => ?_)
  have hP : va_P (gD G) vwCl [(h0, stE 0 0 0 s_feeding s_large s_dead s_dayNumber)] H := hP
  have hD : va_D A [(h0, stE 0 0 0 s_feeding s_large s_dead s_dayNumber)] := hD
  refine lv_aload_n hx hb dX1_clear_15 rfl (lv_at hl 0 rfl) ?_
  refine lv_lconst (v := 0) hx hb dX1_clear_16 (by decide) ?_
  refine va_put (D := gD G) (ci := 1) (v := .long 0) (ty := .long) (C := RX1) (T := TX1) (N := 7) hx hb hts hi_X1 tyX1 tyX1_ok nmX1 hown hK.1 hP hD hS 0 rfl rfl 3 (by decide) kl_21 (fun _ h9 => h9) rfl (tyX1_ok 3 (by decide)) rfl rfl (Nat.le_of_ble_eq_true rfl) dX1_clear_17 (fun H locs hP hD hS => ?_)
  have hP : va_P (gD G) vwCl [(h0, stE 0 0 0 0 s_large s_dead s_dayNumber)] H := hP
  have hD : va_D A [(h0, stE 0 0 0 0 s_large s_dead s_dayNumber)] := hD
  refine lv_aload_n hx hb dX1_clear_20 rfl (lv_at hl 0 rfl) ?_
  refine lv_iconst (v := 0) hx hb dX1_clear_21 (by decide) ?_
  refine va_put (D := gD G) (ci := 1) (v := .int 0) (ty := .int) (C := RX1) (T := TX1) (N := 7) hx hb hts hi_X1 tyX1 tyX1_ok nmX1 hown hK.1 hP hD hS 0 rfl rfl 4 (by decide) kl_25 (fun _ h9 => h9) rfl (tyX1_ok 4 (by decide)) rfl rfl (Nat.le_of_ble_eq_true rfl) dX1_clear_22 (fun H locs hP hD hS => ?_)
  have hP : va_P (gD G) vwCl [(h0, stE 0 0 0 0 0 s_dead s_dayNumber)] H := hP
  have hD : va_D A [(h0, stE 0 0 0 0 0 s_dead s_dayNumber)] := hD
  refine lv_aload_n hx hb dX1_clear_25 rfl (lv_at hl 0 rfl) ?_
  refine lv_iconst (v := 0) hx hb dX1_clear_26 (by decide) ?_
  refine va_put (D := gD G) (ci := 1) (v := .int 0) (ty := .int) (C := RX1) (T := TX1) (N := 7) hx hb hts hi_X1 tyX1 tyX1_ok nmX1 hown hK.1 hP hD hS 0 rfl rfl 5 (by decide) kl_28 (fun _ h9 => h9) rfl (tyX1_ok 5 (by decide)) rfl rfl (Nat.le_of_ble_eq_true rfl) dX1_clear_27 (fun H locs hP hD hS => ?_)
  have hP : va_P (gD G) vwCl [(h0, stE 0 0 0 0 0 0 s_dayNumber)] H := hP
  have hD : va_D A [(h0, stE 0 0 0 0 0 0 s_dayNumber)] := hD
  refine lv_aload_n hx hb dX1_clear_30 rfl (lv_at hl 0 rfl) ?_
  refine lv_iconst (v := 0) hx hb dX1_clear_31 (by decide) ?_
  refine va_put (D := gD G) (ci := 1) (v := .int 0) (ty := .int) (C := RX1) (T := TX1) (N := 7) hx hb hts hi_X1 tyX1 tyX1_ok nmX1 hown hK.1 hP hD hS 0 rfl rfl 6 (by decide) kl_31 (fun _ h9 => h9) rfl (tyX1_ok 6 (by decide)) rfl rfl (Nat.le_of_ble_eq_true rfl) dX1_clear_32 (fun H locs hP hD hS => ?_)
  have hP : va_P (gD G) vwCl [(h0, stE 0 0 0 0 0 0 0)] H := hP
  have hD : va_D A [(h0, stE 0 0 0 0 0 0 0)] := hD
  have hv := Option.some.inj hf
  exact hret _ _ _ _ (by rw [← hv]; exact hP) hS dX1_clear_35
def fX1_copy (s_people : Int32) (s_kinds : Int32) (s_deeds : Int32) (s_feeding : Int64) (s_large : Int32) (s_dead : Int32) (s_dayNumber : Int32) (s_a1_people : Int32) (s_a1_kinds : Int32) (s_a1_deeds : Int32) (s_a1_feeding : Int64) (s_a1_large : Int32) (s_a1_dead : Int32) (s_a1_dayNumber : Int32) : Option (Int32 × Int32 × Int32 × Int64 × Int32 × Int32 × Int32) :=
  some (s_a1_people, s_a1_kinds, s_a1_deeds, s_a1_feeding, s_a1_large, s_a1_dead, s_a1_dayNumber)
set_option maxHeartbeats 4000000 in
set_option maxRecDepth 100000 in
theorem ctX1_copy (l : Launch) (G : GG) (h0 : Nat) (h_a1 : Nat) (s_people : Int32) (s_kinds : Int32) (s_deeds : Int32) (s_feeding : Int64) (s_large : Int32) (s_dead : Int32) (s_dayNumber : Int32) (s_a1_people : Int32) (s_a1_kinds : Int32) (s_a1_deeds : Int32) (s_a1_feeding : Int64) (s_a1_large : Int32) (s_a1_dead : Int32) (s_a1_dayNumber : Int32) (out : Int32 × Int32 × Int32 × Int64 × Int32 × Int32 × Int32) (hf : fX1_copy s_people s_kinds s_deeds s_feeding s_large s_dead s_dayNumber s_a1_people s_a1_kinds s_a1_deeds s_a1_feeding s_a1_large s_a1_dead s_a1_dayNumber = some out) : Met l yX1_copy wsX1_copy ({ frames := 0, cells := 0, slots := 0, locals := 0 }) (PcW G [.ref h0, .ref h_a1] [(h0, stE s_people s_kinds s_deeds s_feeding s_large s_dead s_dayNumber), (h_a1, stE s_a1_people s_a1_kinds s_a1_deeds s_a1_feeding s_a1_large s_a1_dead s_a1_dayNumber)]) (QvW G [(h0, stE s_people s_kinds s_deeds s_feeding s_large s_dead s_dayNumber), (h_a1, stE s_a1_people s_a1_kinds s_a1_deeds s_a1_feeding s_a1_large s_a1_dead s_a1_dayNumber)] [(h0, stE out.1 out.2.1 out.2.2.1 out.2.2.2.1 out.2.2.2.2.1 out.2.2.2.2.2.1 out.2.2.2.2.2.2), (h_a1, stE s_a1_people s_a1_kinds s_a1_deeds s_a1_feeding s_a1_large s_a1_dead s_a1_dayNumber)]) 0 0 (inA [(h0, stE s_people s_kinds s_deeds s_feeding s_large s_dead s_dayNumber), (h_a1, stE s_a1_people s_a1_kinds s_a1_deeds s_a1_feeding s_a1_large s_a1_dead s_a1_dayNumber)]) := by
  refine mk_Wv (cc := cX1_copy) (maxL := 2) (by decide) rfl (Nat.le_of_ble_eq_true rfl) ?_
  intro p e s m args below meth c Q ls A S hP hK hD hl hret
  obtain ⟨hx, hb, hml, hown, hts⟩ := S
  have hown : s.vm.findClass RX1 = some m.cls := hown
  have kl_9 := hts (.fieldLink RX1 9 "ArrestOrder$Standing" "people" "I") (by decide +kernel)
  have hi_X1 : ∀ w ∈ wsX10, w ∈ wsX1_copy := fun _ h => List.mem_cons_of_mem _ (List.mem_append_right _ h)
  have kl_15 := hts (.fieldLink RX1 15 "ArrestOrder$Standing" "kinds" "I") (by decide +kernel)
  have kl_18 := hts (.fieldLink RX1 18 "ArrestOrder$Standing" "deeds" "I") (by decide +kernel)
  have kl_21 := hts (.fieldLink RX1 21 "ArrestOrder$Standing" "feeding" "J") (by decide +kernel)
  have kl_25 := hts (.fieldLink RX1 25 "ArrestOrder$Standing" "large" "I") (by decide +kernel)
  have kl_28 := hts (.fieldLink RX1 28 "ArrestOrder$Standing" "dead" "I") (by decide +kernel)
  have kl_31 := hts (.fieldLink RX1 31 "ArrestOrder$Standing" "dayNumber" "I") (by decide +kernel)
  have hS : va_S A s.heap s.heap [] := va_S.rf
  have hl : lv_has ls 2 [(0, .ref h0), (1, .ref h_a1)] := hl
  refine lv_aload_n hx hb dX1_copy_0 rfl (lv_at hl 0 rfl) ?_
  refine lv_aload_n hx hb dX1_copy_1 rfl (lv_at hl 1 rfl) ?_
  refine va_get (D := gD G) (ci := 1) (v := .int s_a1_people) (C := RX1) (T := TX1) (N := 7) hx hb hts hi_X1 hown hK.1 hP 1 rfl rfl 0 (by decide) kl_9 (fun _ h9 => h9) rfl dX1_copy_2 ?_
  refine va_put (D := gD G) (ci := 1) (v := .int s_a1_people) (ty := .int) (C := RX1) (T := TX1) (N := 7) hx hb hts hi_X1 tyX1 tyX1_ok nmX1 hown hK.1 hP hD hS 0 rfl rfl 0 (by decide) kl_9 (fun _ h9 => h9) rfl (tyX1_ok 0 (by decide)) rfl rfl (Nat.le_of_ble_eq_true rfl) dX1_copy_5 (fun H locs hP hD hS => ?_)
  have hP : va_P (gD G) vwCl [(h0, stE s_a1_people s_kinds s_deeds s_feeding s_large s_dead s_dayNumber), (h_a1, stE s_a1_people s_a1_kinds s_a1_deeds s_a1_feeding s_a1_large s_a1_dead s_a1_dayNumber)] H := hP
  have hD : va_D A [(h0, stE s_a1_people s_kinds s_deeds s_feeding s_large s_dead s_dayNumber), (h_a1, stE s_a1_people s_a1_kinds s_a1_deeds s_a1_feeding s_a1_large s_a1_dead s_a1_dayNumber)] := hD
  refine lv_aload_n hx hb dX1_copy_8 rfl (lv_at hl 0 rfl) ?_
  refine lv_aload_n hx hb dX1_copy_9 rfl (lv_at hl 1 rfl) ?_
  refine va_get (D := gD G) (ci := 1) (v := .int s_a1_kinds) (C := RX1) (T := TX1) (N := 7) hx hb hts hi_X1 hown hK.1 hP 1 rfl rfl 1 (by decide) kl_15 (fun _ h9 => h9) rfl dX1_copy_10 ?_
  refine va_put (D := gD G) (ci := 1) (v := .int s_a1_kinds) (ty := .int) (C := RX1) (T := TX1) (N := 7) hx hb hts hi_X1 tyX1 tyX1_ok nmX1 hown hK.1 hP hD hS 0 rfl rfl 1 (by decide) kl_15 (fun _ h9 => h9) rfl (tyX1_ok 1 (by decide)) rfl rfl (Nat.le_of_ble_eq_true rfl) dX1_copy_13 (fun H locs hP hD hS => ?_)
  have hP : va_P (gD G) vwCl [(h0, stE s_a1_people s_a1_kinds s_deeds s_feeding s_large s_dead s_dayNumber), (h_a1, stE s_a1_people s_a1_kinds s_a1_deeds s_a1_feeding s_a1_large s_a1_dead s_a1_dayNumber)] H := hP
  have hD : va_D A [(h0, stE s_a1_people s_a1_kinds s_deeds s_feeding s_large s_dead s_dayNumber), (h_a1, stE s_a1_people s_a1_kinds s_a1_deeds s_a1_feeding s_a1_large s_a1_dead s_a1_dayNumber)] := hD
  refine lv_aload_n hx hb dX1_copy_16 rfl (lv_at hl 0 rfl) ?_
  refine lv_aload_n hx hb dX1_copy_17 rfl (lv_at hl 1 rfl) ?_
  refine va_get (D := gD G) (ci := 1) (v := .int s_a1_deeds) (C := RX1) (T := TX1) (N := 7) hx hb hts hi_X1 hown hK.1 hP 1 rfl rfl 2 (by decide) kl_18 (fun _ h9 => h9) rfl dX1_copy_18 ?_
  refine va_put (D := gD G) (ci := 1) (v := .int s_a1_deeds) (ty := .int) (C := RX1) (T := TX1) (N := 7) hx hb hts hi_X1 tyX1 tyX1_ok nmX1 hown hK.1 hP hD hS 0 rfl rfl 2 (by decide) kl_18 (fun _ h9 => h9) rfl (tyX1_ok 2 (by decide)) rfl rfl (Nat.le_of_ble_eq_true rfl) dX1_copy_21 (fun H locs hP hD hS => ?_)
  have hP : va_P (gD G) vwCl [(h0, stE s_a1_people s_a1_kinds s_a1_deeds s_feeding s_large s_dead s_dayNumber), (h_a1, stE s_a1_people s_a1_kinds s_a1_deeds s_a1_feeding s_a1_large s_a1_dead s_a1_dayNumber)] H := hP
  have hD : va_D A [(h0, stE s_a1_people s_a1_kinds s_a1_deeds s_feeding s_large s_dead s_dayNumber), (h_a1, stE s_a1_people s_a1_kinds s_a1_deeds s_a1_feeding s_a1_large s_a1_dead s_a1_dayNumber)] := hD
  refine lv_aload_n hx hb dX1_copy_24 rfl (lv_at hl 0 rfl) ?_
  refine lv_aload_n hx hb dX1_copy_25 rfl (lv_at hl 1 rfl) ?_
  refine va_get (D := gD G) (ci := 1) (v := .long s_a1_feeding) (C := RX1) (T := TX1) (N := 7) hx hb hts hi_X1 hown hK.1 hP 1 rfl rfl 3 (by decide) kl_21 (fun _ h9 => h9) rfl dX1_copy_26 ?_
  refine va_put (D := gD G) (ci := 1) (v := .long s_a1_feeding) (ty := .long) (C := RX1) (T := TX1) (N := 7) hx hb hts hi_X1 tyX1 tyX1_ok nmX1 hown hK.1 hP hD hS 0 rfl rfl 3 (by decide) kl_21 (fun _ h9 => h9) rfl (tyX1_ok 3 (by decide)) rfl rfl (Nat.le_of_ble_eq_true rfl) dX1_copy_29 (fun H locs hP hD hS => ?_)
  have hP : va_P (gD G) vwCl [(h0, stE s_a1_people s_a1_kinds s_a1_deeds s_a1_feeding s_large s_dead s_dayNumber), (h_a1, stE s_a1_people s_a1_kinds s_a1_deeds s_a1_feeding s_a1_large s_a1_dead s_a1_dayNumber)] H := hP
  have hD : va_D A [(h0, stE s_a1_people s_a1_kinds s_a1_deeds s_a1_feeding s_large s_dead s_dayNumber), (h_a1, stE s_a1_people s_a1_kinds s_a1_deeds s_a1_feeding s_a1_large s_a1_dead s_a1_dayNumber)] := hD
  refine lv_aload_n hx hb dX1_copy_32 rfl (lv_at hl 0 rfl) ?_
  refine lv_aload_n hx hb dX1_copy_33 rfl (lv_at hl 1 rfl) ?_
  refine va_get (D := gD G) (ci := 1) (v := .int s_a1_large) (C := RX1) (T := TX1) (N := 7) hx hb hts hi_X1 hown hK.1 hP 1 rfl rfl 4 (by decide) kl_25 (fun _ h9 => h9) rfl dX1_copy_34 ?_
  refine va_put (D := gD G) (ci := 1) (v := .int s_a1_large) (ty := .int) (C := RX1) (T := TX1) (N := 7) hx hb hts hi_X1 tyX1 tyX1_ok nmX1 hown hK.1 hP hD hS 0 rfl rfl 4 (by decide) kl_25 (fun _ h9 => h9) rfl (tyX1_ok 4 (by decide)) rfl rfl (Nat.le_of_ble_eq_true rfl) dX1_copy_37 (fun H locs hP hD hS => ?_)
  have hP : va_P (gD G) vwCl [(h0, stE s_a1_people s_a1_kinds s_a1_deeds s_a1_feeding s_a1_large s_dead s_dayNumber), (h_a1, stE s_a1_people s_a1_kinds s_a1_deeds s_a1_feeding s_a1_large s_a1_dead s_a1_dayNumber)] H := hP
  have hD : va_D A [(h0, stE s_a1_people s_a1_kinds s_a1_deeds s_a1_feeding s_a1_large s_dead s_dayNumber), (h_a1, stE s_a1_people s_a1_kinds s_a1_deeds s_a1_feeding s_a1_large s_a1_dead s_a1_dayNumber)] := hD
  refine lv_aload_n hx hb dX1_copy_40 rfl (lv_at hl 0 rfl) ?_
  refine lv_aload_n hx hb dX1_copy_41 rfl (lv_at hl 1 rfl) ?_
  refine va_get (D := gD G) (ci := 1) (v := .int s_a1_dead) (C := RX1) (T := TX1) (N := 7) hx hb hts hi_X1 hown hK.1 hP 1 rfl rfl 5 (by decide) kl_28 (fun _ h9 => h9) rfl dX1_copy_42 ?_
  refine va_put (D := gD G) (ci := 1) (v := .int s_a1_dead) (ty := .int) (C := RX1) (T := TX1) (N := 7) hx hb hts hi_X1 tyX1 tyX1_ok nmX1 hown hK.1 hP hD hS 0 rfl rfl 5 (by decide) kl_28 (fun _ h9 => h9) rfl (tyX1_ok 5 (by decide)) rfl rfl (Nat.le_of_ble_eq_true rfl) dX1_copy_45 (fun H locs hP hD hS => ?_)
  have hP : va_P (gD G) vwCl [(h0, stE s_a1_people s_a1_kinds s_a1_deeds s_a1_feeding s_a1_large s_a1_dead s_dayNumber), (h_a1, stE s_a1_people s_a1_kinds s_a1_deeds s_a1_feeding s_a1_large s_a1_dead s_a1_dayNumber)] H := hP
  have hD : va_D A [(h0, stE s_a1_people s_a1_kinds s_a1_deeds s_a1_feeding s_a1_large s_a1_dead s_dayNumber), (h_a1, stE s_a1_people s_a1_kinds s_a1_deeds s_a1_feeding s_a1_large s_a1_dead s_a1_dayNumber)] := hD
  refine lv_aload_n hx hb dX1_copy_48 rfl (lv_at hl 0 rfl) ?_
  refine lv_aload_n hx hb dX1_copy_49 rfl (lv_at hl 1 rfl) ?_
  refine va_get (D := gD G) (ci := 1) (v := .int s_a1_dayNumber) (C := RX1) (T := TX1) (N := 7) hx hb hts hi_X1 hown hK.1 hP 1 rfl rfl 6 (by decide) kl_31 (fun _ h9 => h9) rfl dX1_copy_50 ?_
  refine va_put (D := gD G) (ci := 1) (v := .int s_a1_dayNumber) (ty := .int) (C := RX1) (T := TX1) (N := 7) hx hb hts hi_X1 tyX1 tyX1_ok nmX1 hown hK.1 hP hD hS 0 rfl rfl 6 (by decide) kl_31 (fun _ h9 => h9) rfl (tyX1_ok 6 (by decide)) rfl rfl (Nat.le_of_ble_eq_true rfl) dX1_copy_53 (fun H locs hP hD hS => ?_)
  have hP : va_P (gD G) vwCl [(h0, stE s_a1_people s_a1_kinds s_a1_deeds s_a1_feeding s_a1_large s_a1_dead s_a1_dayNumber), (h_a1, stE s_a1_people s_a1_kinds s_a1_deeds s_a1_feeding s_a1_large s_a1_dead s_a1_dayNumber)] H := hP
  have hD : va_D A [(h0, stE s_a1_people s_a1_kinds s_a1_deeds s_a1_feeding s_a1_large s_a1_dead s_a1_dayNumber), (h_a1, stE s_a1_people s_a1_kinds s_a1_deeds s_a1_feeding s_a1_large s_a1_dead s_a1_dayNumber)] := hD
  have hv := Option.some.inj hf
  exact hret _ _ _ _ (by rw [← hv]; exact hP) hS dX1_copy_56
def fX1_add (s_people : Int32) (s_kinds : Int32) (s_deeds : Int32) (s_large : Int32) (a1 : Int32) (a2 : Int32) : Option (Int32 × Int32 × Int32 × Int32) :=
  (fX3_bit s_people).bind fun o1 => (some ((s_people + 1), (s_kinds ||| (a2 <<< ((4 * s_people) &&& 31))), (s_deeds ||| (a1 <<< ((4 * s_people) &&& 31))), (s_large ||| o1)))
set_option maxHeartbeats 4000000 in
set_option maxRecDepth 100000 in
theorem ctX1_add (l : Launch) (G : GG) (h0 : Nat) (s_people : Int32) (s_kinds : Int32) (s_deeds : Int32) (s_feeding : Int64) (s_large : Int32) (s_dead : Int32) (s_dayNumber : Int32) (a1 : Int32) (a2 : Int32) (out : Int32 × Int32 × Int32 × Int32) (hf : fX1_add s_people s_kinds s_deeds s_large a1 a2 = some out) : Met l yX1_add wsX1_add ({ frames := 1, cells := 0, slots := 0, locals := 20 }) (PcW G [.ref h0, .int a1, .int a2] [(h0, stE s_people s_kinds s_deeds s_feeding s_large s_dead s_dayNumber)]) (QvW G [(h0, stE s_people s_kinds s_deeds s_feeding s_large s_dead s_dayNumber)] [(h0, stE out.1 out.2.1 out.2.2.1 s_feeding out.2.2.2 s_dead s_dayNumber)]) 0 0 (inA [(h0, stE s_people s_kinds s_deeds s_feeding s_large s_dead s_dayNumber)]) := by
  refine mk_Wv (cc := cX1_add) (maxL := 4) (by decide) rfl (Nat.le_of_ble_eq_true rfl) ?_
  intro p e s m args below meth c Q ls A S hP hK hD hl hret
  obtain ⟨hx, hb, hml, hown, hts⟩ := S
  have hown : s.vm.findClass RX1 = some m.cls := hown
  have kl_9 := hts (.fieldLink RX1 9 "ArrestOrder$Standing" "people" "I") (by decide +kernel)
  have hi_X1 : ∀ w ∈ wsX10, w ∈ wsX1_add := fun _ h => List.mem_cons_of_mem _ (List.mem_append_right _ h)
  have kl_15 := hts (.fieldLink RX1 15 "ArrestOrder$Standing" "kinds" "I") (by decide +kernel)
  have kl_18 := hts (.fieldLink RX1 18 "ArrestOrder$Standing" "deeds" "I") (by decide +kernel)
  have kl_25 := hts (.fieldLink RX1 25 "ArrestOrder$Standing" "large" "I") (by decide +kernel)
  have hS : va_S A s.heap s.heap [] := va_S.rf
  have hl : lv_has ls 4 [(0, .ref h0), (1, .int a1), (2, .int a2)] := hl
  refine lv_aload_n hx hb dX1_add_0 rfl (lv_at hl 0 rfl) ?_
  refine va_get (D := gD G) (ci := 1) (v := .int s_people) (C := RX1) (T := TX1) (N := 7) hx hb hts hi_X1 hown hK.1 hP 0 rfl rfl 0 (by decide) kl_9 (fun _ h9 => h9) rfl dX1_add_1 ?_
  refine lv_istore_n (lv' := [(3, .int s_people), (0, .ref h0), (1, .int a1), (2, .int a2)]) hx hb dX1_add_4 rfl hl (by decide) rfl (fun ls hl => ?_)
  refine lv_aload_n hx hb dX1_add_5 rfl (lv_at hl 1 rfl) ?_
  refine lv_dup hx hb dX1_add_6 rfl ?_
  refine va_get (D := gD G) (ci := 1) (v := .int s_people) (C := RX1) (T := TX1) (N := 7) hx hb hts hi_X1 hown hK.1 hP 0 rfl rfl 0 (by decide) kl_9 (fun _ h9 => h9) rfl dX1_add_7 ?_
  refine lv_iconst (v := 1) hx hb dX1_add_10 (by decide) ?_
  refine lv_iadd hx hb dX1_add_11 ?_
  refine va_put (D := gD G) (ci := 1) (v := .int (s_people + 1)) (ty := .int) (C := RX1) (T := TX1) (N := 7) hx hb hts hi_X1 tyX1 tyX1_ok nmX1 hown hK.1 hP hD hS 0 rfl rfl 0 (by decide) kl_9 (fun _ h9 => h9) rfl (tyX1_ok 0 (by decide)) rfl rfl (Nat.le_of_ble_eq_true rfl) dX1_add_12 (fun H locs hP hD hS => ?_)
  have hP : va_P (gD G) vwCl [(h0, stE (s_people + 1) s_kinds s_deeds s_feeding s_large s_dead s_dayNumber)] H := hP
  have hD : va_D A [(h0, stE (s_people + 1) s_kinds s_deeds s_feeding s_large s_dead s_dayNumber)] := hD
  refine lv_aload_n hx hb dX1_add_15 rfl (lv_at hl 1 rfl) ?_
  refine lv_dup hx hb dX1_add_16 rfl ?_
  refine va_get (D := gD G) (ci := 1) (v := .int s_kinds) (C := RX1) (T := TX1) (N := 7) hx hb hts hi_X1 hown hK.1 hP 0 rfl rfl 1 (by decide) kl_15 (fun _ h9 => h9) rfl dX1_add_17 ?_
  refine lv_iload_n hx hb dX1_add_20 rfl (lv_at hl 3 rfl) ?_
  refine lv_iconst (v := 4) hx hb dX1_add_21 (by decide) ?_
  refine lv_iload_n hx hb dX1_add_22 rfl (lv_at hl 0 rfl) ?_
  refine lv_imul hx hb dX1_add_23 ?_
  refine lv_ishl hx hb dX1_add_24 ?_
  refine lv_ior hx hb dX1_add_25 ?_
  refine va_put (D := gD G) (ci := 1) (v := .int (s_kinds ||| (a2 <<< ((4 * s_people) &&& 31)))) (ty := .int) (C := RX1) (T := TX1) (N := 7) hx hb hts hi_X1 tyX1 tyX1_ok nmX1 hown hK.1 hP hD hS 0 rfl rfl 1 (by decide) kl_15 (fun _ h9 => h9) rfl (tyX1_ok 1 (by decide)) rfl rfl (Nat.le_of_ble_eq_true rfl) dX1_add_26 (fun H locs hP hD hS => ?_)
  have hP : va_P (gD G) vwCl [(h0, stE (s_people + 1) (s_kinds ||| (a2 <<< ((4 * s_people) &&& 31))) s_deeds s_feeding s_large s_dead s_dayNumber)] H := hP
  have hD : va_D A [(h0, stE (s_people + 1) (s_kinds ||| (a2 <<< ((4 * s_people) &&& 31))) s_deeds s_feeding s_large s_dead s_dayNumber)] := hD
  refine lv_aload_n hx hb dX1_add_29 rfl (lv_at hl 1 rfl) ?_
  refine lv_dup hx hb dX1_add_30 rfl ?_
  refine va_get (D := gD G) (ci := 1) (v := .int s_deeds) (C := RX1) (T := TX1) (N := 7) hx hb hts hi_X1 hown hK.1 hP 0 rfl rfl 2 (by decide) kl_18 (fun _ h9 => h9) rfl dX1_add_31 ?_
  refine lv_iload_n hx hb dX1_add_34 rfl (lv_at hl 2 rfl) ?_
  refine lv_iconst (v := 4) hx hb dX1_add_35 (by decide) ?_
  refine lv_iload_n hx hb dX1_add_36 rfl (lv_at hl 0 rfl) ?_
  refine lv_imul hx hb dX1_add_37 ?_
  refine lv_ishl hx hb dX1_add_38 ?_
  refine lv_ior hx hb dX1_add_39 ?_
  refine va_put (D := gD G) (ci := 1) (v := .int (s_deeds ||| (a1 <<< ((4 * s_people) &&& 31)))) (ty := .int) (C := RX1) (T := TX1) (N := 7) hx hb hts hi_X1 tyX1 tyX1_ok nmX1 hown hK.1 hP hD hS 0 rfl rfl 2 (by decide) kl_18 (fun _ h9 => h9) rfl (tyX1_ok 2 (by decide)) rfl rfl (Nat.le_of_ble_eq_true rfl) dX1_add_40 (fun H locs hP hD hS => ?_)
  have hP : va_P (gD G) vwCl [(h0, stE (s_people + 1) (s_kinds ||| (a2 <<< ((4 * s_people) &&& 31))) (s_deeds ||| (a1 <<< ((4 * s_people) &&& 31))) s_feeding s_large s_dead s_dayNumber)] H := hP
  have hD : va_D A [(h0, stE (s_people + 1) (s_kinds ||| (a2 <<< ((4 * s_people) &&& 31))) (s_deeds ||| (a1 <<< ((4 * s_people) &&& 31))) s_feeding s_large s_dead s_dayNumber)] := hD
  refine lv_aload_n hx hb dX1_add_43 rfl (lv_at hl 1 rfl) ?_
  refine lv_dup hx hb dX1_add_44 rfl ?_
  refine va_get (D := gD G) (ci := 1) (v := .int s_large) (C := RX1) (T := TX1) (N := 7) hx hb hts hi_X1 hown hK.1 hP 0 rfl rfl 4 (by decide) kl_25 (fun _ h9 => h9) rfl dX1_add_45 ?_
  refine lv_iload_n hx hb dX1_add_48 rfl (lv_at hl 0 rfl) ?_
  obtain ⟨o1, hc2, hf⟩ := bindS hf
  refine ro_i (va_runSN (As := [.int s_people]) (rest := [.int s_large, .ref h0]) ⟨hx, hb, hml, hown, hts⟩ (ctX3_bit l G s_people o1 hc2) ⟨va_cnB 1 hts gX1_add_X3_bit_n34 rfl rfl rfl (nm_X1_34 hK.2) (hts (.initialized RX3) (by decide +kernel)) (by decide +kernel) ⟨Nat.le_of_ble_eq_true rfl, Nat.le_of_ble_eq_true rfl⟩, hts (.static yX3_bit) (by decide +kernel), trivial⟩ (preR_S (hP.sub (ws' := []) [] rfl) hK) rfl rfl hl.1 rfl (lv_room (Nat.le_of_ble_eq_true rfl)) dX1_add_49 ⟨Nat.zero_le _, Nat.zero_le _⟩) hS hP (fun H locs hP hS => ?_)
  refine lv_ior hx hb dX1_add_52 ?_
  refine va_put (D := gD G) (ci := 1) (v := .int (s_large ||| o1)) (ty := .int) (C := RX1) (T := TX1) (N := 7) hx hb hts hi_X1 tyX1 tyX1_ok nmX1 hown hK.1 hP hD hS 0 rfl rfl 4 (by decide) kl_25 (fun _ h9 => h9) rfl (tyX1_ok 4 (by decide)) rfl rfl (Nat.le_of_ble_eq_true rfl) dX1_add_53 (fun H locs hP hD hS => ?_)
  have hP : va_P (gD G) vwCl [(h0, stE (s_people + 1) (s_kinds ||| (a2 <<< ((4 * s_people) &&& 31))) (s_deeds ||| (a1 <<< ((4 * s_people) &&& 31))) s_feeding (s_large ||| o1) s_dead s_dayNumber)] H := hP
  have hD : va_D A [(h0, stE (s_people + 1) (s_kinds ||| (a2 <<< ((4 * s_people) &&& 31))) (s_deeds ||| (a1 <<< ((4 * s_people) &&& 31))) s_feeding (s_large ||| o1) s_dead s_dayNumber)] := hD
  have hv := Option.some.inj hf
  exact hret _ _ _ _ (by rw [← hv]; exact hP) hS dX1_add_56
def fX1_has (s_people : Int32) (a1 : Int32) : Option (Int32) :=
  (if a1 < 0 then some 0 else (if s_people ≤ a1 then some 0 else some 1))
set_option maxHeartbeats 4000000 in
set_option maxRecDepth 100000 in
theorem ctX1_has (l : Launch) (G : GG) (h0 : Nat) (s_people : Int32) (s_kinds : Int32) (s_deeds : Int32) (s_feeding : Int64) (s_large : Int32) (s_dead : Int32) (s_dayNumber : Int32) (a1 : Int32) (out : Int32) (hf : fX1_has s_people a1 = some out) : Met l yX1_has wsX1_has ({ frames := 0, cells := 0, slots := 0, locals := 0 }) (PcR G [.ref h0, .int a1] [(h0, stE s_people s_kinds s_deeds s_feeding s_large s_dead s_dayNumber)]) (QiR out) 0 0 noA := by
  refine mk_Rz (cc := cX1_has) (maxL := 2) (by decide) rfl (Nat.le_of_ble_eq_true rfl) ?_
  intro p e s m args below meth c Q ls S hP hK hl hret
  obtain ⟨hx, hb, hml, hown, hts⟩ := S
  have hown : s.vm.findClass RX1 = some m.cls := hown
  have kl_9 := hts (.fieldLink RX1 9 "ArrestOrder$Standing" "people" "I") (by decide +kernel)
  have hi_X1 : ∀ w ∈ wsX10, w ∈ wsX1_has := fun _ h => List.mem_cons_of_mem _ (List.mem_append_right _ h)
  have hS : va_S noA s.heap s.heap [] := va_S.rf
  have hl : lv_has ls 2 [(0, .ref h0), (1, .int a1)] := hl
  refine lv_iload_n hx hb dX1_has_0 rfl (lv_at hl 1 rfl) ?_
  refine lv_if_lt (tgt := 16) hx hb dX1_has_1 (by decide) (fun c1 => ?_) (fun c1 => ?_)
  · have hf := iteT hf c1
    refine lv_iconst (v := 0) hx hb dX1_has_16 (by decide) ?_
    have hv := Option.some.inj hf
    exact hret _ _ _ _ _ hS rfl hv dX1_has_17
  · have hf := iteF hf c1
    refine lv_iload_n hx hb dX1_has_4 rfl (lv_at hl 1 rfl) ?_
    refine lv_aload_n hx hb dX1_has_5 rfl (lv_at hl 0 rfl) ?_
    refine va_get (D := gD G) (ci := 1) (v := .int s_people) (C := RX1) (T := TX1) (N := 7) hx hb hts hi_X1 hown hK.1 hP 0 rfl rfl 0 (by decide) kl_9 (fun _ h9 => h9) rfl dX1_has_6 ?_
    refine lv_icmp_ge (tgt := 16) hx hb dX1_has_9 (by decide) (fun c2 => ?_) (fun c2 => ?_)
    · have hf := iteT hf c2
      refine lv_iconst (v := 0) hx hb dX1_has_16 (by decide) ?_
      have hv := Option.some.inj hf
      exact hret _ _ _ _ _ hS rfl hv dX1_has_17
    · have hf := iteF hf c2
      refine lv_iconst (v := 1) hx hb dX1_has_12 (by decide) ?_
      refine lv_goto (tgt := 17) hx hb dX1_has_13 (by decide) ?_
      have hv := Option.some.inj hf
      exact hret _ _ _ _ _ hS rfl hv dX1_has_17
def fX1_deedOf (s_deeds : Int32) (a1 : Int32) : Option (Int32) :=
  some ((j_ushr s_deeds (4 * a1)) &&& 15)
set_option maxHeartbeats 4000000 in
set_option maxRecDepth 100000 in
theorem ctX1_deedOf (l : Launch) (G : GG) (h0 : Nat) (s_people : Int32) (s_kinds : Int32) (s_deeds : Int32) (s_feeding : Int64) (s_large : Int32) (s_dead : Int32) (s_dayNumber : Int32) (a1 : Int32) (out : Int32) (hf : fX1_deedOf s_deeds a1 = some out) : Met l yX1_deedOf wsX1_deedOf ({ frames := 0, cells := 0, slots := 0, locals := 0 }) (PcR G [.ref h0, .int a1] [(h0, stE s_people s_kinds s_deeds s_feeding s_large s_dead s_dayNumber)]) (QiR out) 0 0 noA := by
  refine mk_Ri (cc := cX1_deedOf) (maxL := 2) (by decide) rfl (Nat.le_of_ble_eq_true rfl) ?_
  intro p e s m args below meth c Q ls S hP hK hl hret
  obtain ⟨hx, hb, hml, hown, hts⟩ := S
  have hown : s.vm.findClass RX1 = some m.cls := hown
  have kl_18 := hts (.fieldLink RX1 18 "ArrestOrder$Standing" "deeds" "I") (by decide +kernel)
  have hi_X1 : ∀ w ∈ wsX10, w ∈ wsX1_deedOf := fun _ h => List.mem_cons_of_mem _ (List.mem_append_right _ h)
  have hS : va_S noA s.heap s.heap [] := va_S.rf
  have hl : lv_has ls 2 [(0, .ref h0), (1, .int a1)] := hl
  refine lv_aload_n hx hb dX1_deedOf_0 rfl (lv_at hl 0 rfl) ?_
  refine va_get (D := gD G) (ci := 1) (v := .int s_deeds) (C := RX1) (T := TX1) (N := 7) hx hb hts hi_X1 hown hK.1 hP 0 rfl rfl 2 (by decide) kl_18 (fun _ h9 => h9) rfl dX1_deedOf_1 ?_
  refine lv_iconst (v := 4) hx hb dX1_deedOf_4 (by decide) ?_
  refine lv_iload_n hx hb dX1_deedOf_5 rfl (lv_at hl 1 rfl) ?_
  refine lv_imul hx hb dX1_deedOf_6 ?_
  refine lv_iushr (v := (j_ushr s_deeds (4 * a1))) hx hb dX1_deedOf_7 rfl ?_
  refine lv_bipush (v := 15) hx hb dX1_deedOf_8 (by decide) ?_
  refine lv_iand hx hb dX1_deedOf_10 ?_
  have hv := Option.some.inj hf
  exact hret _ _ _ _ _ hS hv dX1_deedOf_11
def fX1_setDeed (s_deeds : Int32) (a1 : Int32) (a2 : Int32) : Option (Int32) :=
  some ((s_deeds &&& (((15 : Int32) <<< ((4 * a1) &&& 31)) ^^^ (-1))) ||| (a2 <<< ((4 * a1) &&& 31)))
set_option maxHeartbeats 4000000 in
set_option maxRecDepth 100000 in
theorem ctX1_setDeed (l : Launch) (G : GG) (h0 : Nat) (s_people : Int32) (s_kinds : Int32) (s_deeds : Int32) (s_feeding : Int64) (s_large : Int32) (s_dead : Int32) (s_dayNumber : Int32) (a1 : Int32) (a2 : Int32) (out : Int32) (hf : fX1_setDeed s_deeds a1 a2 = some out) : Met l yX1_setDeed wsX1_setDeed ({ frames := 0, cells := 0, slots := 0, locals := 0 }) (PcW G [.ref h0, .int a1, .int a2] [(h0, stE s_people s_kinds s_deeds s_feeding s_large s_dead s_dayNumber)]) (QvW G [(h0, stE s_people s_kinds s_deeds s_feeding s_large s_dead s_dayNumber)] [(h0, stE s_people s_kinds out s_feeding s_large s_dead s_dayNumber)]) 0 0 (inA [(h0, stE s_people s_kinds s_deeds s_feeding s_large s_dead s_dayNumber)]) := by
  refine mk_Wv (cc := cX1_setDeed) (maxL := 3) (by decide) rfl (Nat.le_of_ble_eq_true rfl) ?_
  intro p e s m args below meth c Q ls A S hP hK hD hl hret
  obtain ⟨hx, hb, hml, hown, hts⟩ := S
  have hown : s.vm.findClass RX1 = some m.cls := hown
  have kl_18 := hts (.fieldLink RX1 18 "ArrestOrder$Standing" "deeds" "I") (by decide +kernel)
  have hi_X1 : ∀ w ∈ wsX10, w ∈ wsX1_setDeed := fun _ h => List.mem_cons_of_mem _ (List.mem_append_right _ h)
  have hS : va_S A s.heap s.heap [] := va_S.rf
  have hl : lv_has ls 3 [(0, .ref h0), (1, .int a1), (2, .int a2)] := hl
  refine lv_aload_n hx hb dX1_setDeed_0 rfl (lv_at hl 0 rfl) ?_
  refine lv_aload_n hx hb dX1_setDeed_1 rfl (lv_at hl 0 rfl) ?_
  refine va_get (D := gD G) (ci := 1) (v := .int s_deeds) (C := RX1) (T := TX1) (N := 7) hx hb hts hi_X1 hown hK.1 hP 0 rfl rfl 2 (by decide) kl_18 (fun _ h9 => h9) rfl dX1_setDeed_2 ?_
  refine lv_bipush (v := 15) hx hb dX1_setDeed_5 (by decide) ?_
  refine lv_iconst (v := 4) hx hb dX1_setDeed_7 (by decide) ?_
  refine lv_iload_n hx hb dX1_setDeed_8 rfl (lv_at hl 1 rfl) ?_
  refine lv_imul hx hb dX1_setDeed_9 ?_
  refine lv_ishl hx hb dX1_setDeed_10 ?_
  refine lv_iconst (v := (-1)) hx hb dX1_setDeed_11 (by decide) ?_
  refine lv_ixor hx hb dX1_setDeed_12 ?_
  refine lv_iand hx hb dX1_setDeed_13 ?_
  refine lv_iload_n hx hb dX1_setDeed_14 rfl (lv_at hl 2 rfl) ?_
  refine lv_iconst (v := 4) hx hb dX1_setDeed_15 (by decide) ?_
  refine lv_iload_n hx hb dX1_setDeed_16 rfl (lv_at hl 1 rfl) ?_
  refine lv_imul hx hb dX1_setDeed_17 ?_
  refine lv_ishl hx hb dX1_setDeed_18 ?_
  refine lv_ior hx hb dX1_setDeed_19 ?_
  refine va_put (D := gD G) (ci := 1) (v := .int ((s_deeds &&& (((15 : Int32) <<< ((4 * a1) &&& 31)) ^^^ (-1))) ||| (a2 <<< ((4 * a1) &&& 31)))) (ty := .int) (C := RX1) (T := TX1) (N := 7) hx hb hts hi_X1 tyX1 tyX1_ok nmX1 hown hK.1 hP hD hS 0 rfl rfl 2 (by decide) kl_18 (fun _ h9 => h9) rfl (tyX1_ok 2 (by decide)) rfl rfl (Nat.le_of_ble_eq_true rfl) dX1_setDeed_20 (fun H locs hP hD hS => ?_)
  have hP : va_P (gD G) vwCl [(h0, stE s_people s_kinds ((s_deeds &&& (((15 : Int32) <<< ((4 * a1) &&& 31)) ^^^ (-1))) ||| (a2 <<< ((4 * a1) &&& 31))) s_feeding s_large s_dead s_dayNumber)] H := hP
  have hD : va_D A [(h0, stE s_people s_kinds ((s_deeds &&& (((15 : Int32) <<< ((4 * a1) &&& 31)) ^^^ (-1))) ||| (a2 <<< ((4 * a1) &&& 31))) s_feeding s_large s_dead s_dayNumber)] := hD
  have hv := Option.some.inj hf
  exact hret _ _ _ _ (by rw [← hv]; exact hP) hS dX1_setDeed_23
def fX1_kindOf (s_kinds : Int32) (a1 : Int32) : Option (Int32) :=
  some ((j_ushr s_kinds (4 * a1)) &&& 15)
set_option maxHeartbeats 4000000 in
set_option maxRecDepth 100000 in
theorem ctX1_kindOf (l : Launch) (G : GG) (h0 : Nat) (s_people : Int32) (s_kinds : Int32) (s_deeds : Int32) (s_feeding : Int64) (s_large : Int32) (s_dead : Int32) (s_dayNumber : Int32) (a1 : Int32) (out : Int32) (hf : fX1_kindOf s_kinds a1 = some out) : Met l yX1_kindOf wsX1_kindOf ({ frames := 0, cells := 0, slots := 0, locals := 0 }) (PcR G [.ref h0, .int a1] [(h0, stE s_people s_kinds s_deeds s_feeding s_large s_dead s_dayNumber)]) (QiR out) 0 0 noA := by
  refine mk_Ri (cc := cX1_kindOf) (maxL := 2) (by decide) rfl (Nat.le_of_ble_eq_true rfl) ?_
  intro p e s m args below meth c Q ls S hP hK hl hret
  obtain ⟨hx, hb, hml, hown, hts⟩ := S
  have hown : s.vm.findClass RX1 = some m.cls := hown
  have kl_15 := hts (.fieldLink RX1 15 "ArrestOrder$Standing" "kinds" "I") (by decide +kernel)
  have hi_X1 : ∀ w ∈ wsX10, w ∈ wsX1_kindOf := fun _ h => List.mem_cons_of_mem _ (List.mem_append_right _ h)
  have hS : va_S noA s.heap s.heap [] := va_S.rf
  have hl : lv_has ls 2 [(0, .ref h0), (1, .int a1)] := hl
  refine lv_aload_n hx hb dX1_kindOf_0 rfl (lv_at hl 0 rfl) ?_
  refine va_get (D := gD G) (ci := 1) (v := .int s_kinds) (C := RX1) (T := TX1) (N := 7) hx hb hts hi_X1 hown hK.1 hP 0 rfl rfl 1 (by decide) kl_15 (fun _ h9 => h9) rfl dX1_kindOf_1 ?_
  refine lv_iconst (v := 4) hx hb dX1_kindOf_4 (by decide) ?_
  refine lv_iload_n hx hb dX1_kindOf_5 rfl (lv_at hl 1 rfl) ?_
  refine lv_imul hx hb dX1_kindOf_6 ?_
  refine lv_iushr (v := (j_ushr s_kinds (4 * a1))) hx hb dX1_kindOf_7 rfl ?_
  refine lv_bipush (v := 15) hx hb dX1_kindOf_8 (by decide) ?_
  refine lv_iand hx hb dX1_kindOf_10 ?_
  have hv := Option.some.inj hf
  exact hret _ _ _ _ _ hS hv dX1_kindOf_11
def fX1_gradeOf (s_kinds : Int32) (s_deeds : Int32) (a1 : Int32) : Option (Int32) :=
  (fX1_kindOf s_kinds a1).bind fun o1 => ((if o1 = 3 then some 0 else (fX1_deedOf s_deeds a1).bind fun o4 => ((if o1 = 2 then some (o4 + 2) else some (o4 + 0)))))
set_option maxHeartbeats 4000000 in
set_option maxRecDepth 100000 in
theorem ctX1_gradeOf (l : Launch) (G : GG) (h0 : Nat) (s_people : Int32) (s_kinds : Int32) (s_deeds : Int32) (s_feeding : Int64) (s_large : Int32) (s_dead : Int32) (s_dayNumber : Int32) (a1 : Int32) (out : Int32) (hf : fX1_gradeOf s_kinds s_deeds a1 = some out) : Met l yX1_gradeOf wsX1_gradeOf ({ frames := 1, cells := 0, slots := 0, locals := 21 }) (PcR G [.ref h0, .int a1] [(h0, stE s_people s_kinds s_deeds s_feeding s_large s_dead s_dayNumber)]) (QiR out) 0 0 noA := by
  refine mk_Ri (cc := cX1_gradeOf) (maxL := 3) (by decide) rfl (Nat.le_of_ble_eq_true rfl) ?_
  intro p e s m args below meth c Q ls S hP hK hl hret
  obtain ⟨hx, hb, hml, hown, hts⟩ := S
  have hown : s.vm.findClass RX1 = some m.cls := hown
  have hS : va_S noA s.heap s.heap [] := va_S.rf
  have hl : lv_has ls 3 [(0, .ref h0), (1, .int a1)] := hl
  refine lv_aload_n hx hb dX1_gradeOf_0 rfl (lv_at hl 0 rfl) ?_
  refine lv_iload_n hx hb dX1_gradeOf_1 rfl (lv_at hl 1 rfl) ?_
  obtain ⟨o1, hc2, hf⟩ := bindS hf
  refine ro_i (va_runV (C := RX1) (As := [.int a1]) (rest := []) ⟨hx, hb, hml, hown, hts⟩ (ctX1_kindOf l G h0 s_people s_kinds s_deeds s_feeding s_large s_dead s_dayNumber a1 o1 hc2) (cwV 1 hts gX1_gradeOf_X1_kindOf rfl rfl rfl (by decide +kernel) ⟨Nat.le_of_ble_eq_true rfl, Nat.le_of_ble_eq_true rfl⟩) (preR_V (q0 := 0) (ci := 1) (hP.sub (ws' := [(h0, stE s_people s_kinds s_deeds s_feeding s_large s_dead s_dayNumber)]) [0] rfl) hK rfl rfl) rfl rfl hl.1 rfl (lv_room (Nat.le_of_ble_eq_true rfl)) dX1_gradeOf_2 ⟨Nat.zero_le _, Nat.zero_le _⟩) hS hP (fun H locs hP hS => ?_)
  refine lv_istore_n (lv' := [(2, .int o1), (0, .ref h0), (1, .int a1)]) hx hb dX1_gradeOf_5 rfl hl (by decide) rfl (fun ls hl => ?_)
  refine lv_iload_n hx hb dX1_gradeOf_6 rfl (lv_at hl 0 rfl) ?_
  refine lv_iconst (v := 3) hx hb dX1_gradeOf_7 (by decide) ?_
  refine lv_icmp_ne (tgt := 13) hx hb dX1_gradeOf_8 (by decide) (fun c3 => ?_) (fun c3 => ?_)
  · have hf := iteF hf c3
    refine lv_aload_n hx hb dX1_gradeOf_13 rfl (lv_at hl 1 rfl) ?_
    refine lv_iload_n hx hb dX1_gradeOf_14 rfl (lv_at hl 2 rfl) ?_
    obtain ⟨o4, hc5, hf⟩ := bindS hf
    refine ro_i (va_runV (C := RX1) (As := [.int a1]) (rest := []) ⟨hx, hb, hml, hown, hts⟩ (ctX1_deedOf l G h0 s_people s_kinds s_deeds s_feeding s_large s_dead s_dayNumber a1 o4 hc5) (cwV 1 hts gX1_gradeOf_X1_deedOf rfl rfl rfl (by decide +kernel) ⟨Nat.le_of_ble_eq_true rfl, Nat.le_of_ble_eq_true rfl⟩) (preR_V (q0 := 0) (ci := 1) (hP.sub (ws' := [(h0, stE s_people s_kinds s_deeds s_feeding s_large s_dead s_dayNumber)]) [0] rfl) hK rfl rfl) rfl rfl hl.1 rfl (lv_room (Nat.le_of_ble_eq_true rfl)) dX1_gradeOf_15 ⟨Nat.zero_le _, Nat.zero_le _⟩) hS hP (fun H locs hP hS => ?_)
    refine lv_iload_n hx hb dX1_gradeOf_18 rfl (lv_at hl 0 rfl) ?_
    refine lv_iconst (v := 2) hx hb dX1_gradeOf_19 (by decide) ?_
    refine lv_icmp_ne (tgt := 27) hx hb dX1_gradeOf_20 (by decide) (fun c6 => ?_) (fun c6 => ?_)
    · have hf := iteF hf c6
      refine lv_iconst (v := 0) hx hb dX1_gradeOf_27 (by decide) ?_
      refine lv_iadd hx hb dX1_gradeOf_28 ?_
      have hv := Option.some.inj hf
      exact hret _ _ _ _ _ hS hv dX1_gradeOf_29
    · have hf := iteT hf c6
      refine lv_iconst (v := 2) hx hb dX1_gradeOf_23 (by decide) ?_
      refine lv_goto (tgt := 28) hx hb dX1_gradeOf_24 (by decide) ?_
      refine lv_iadd hx hb dX1_gradeOf_28 ?_
      have hv := Option.some.inj hf
      exact hret _ _ _ _ _ hS hv dX1_gradeOf_29
  · have hf := iteT hf c3
    refine lv_iconst (v := 0) hx hb dX1_gradeOf_11 (by decide) ?_
    have hv := Option.some.inj hf
    exact hret _ _ _ _ _ hS hv dX1_gradeOf_12
def fX1_feeds (s_feeding : Int64) (a1 : Int32) (a2 : Int32) : Option (Int32) :=
  (fX3_pair a1 a2).bind fun o1 => ((if (lg_cmp (s_feeding &&& o1) 0) = 0 then some 0 else some 1))
set_option maxHeartbeats 4000000 in
set_option maxRecDepth 100000 in
theorem ctX1_feeds (l : Launch) (G : GG) (h0 : Nat) (s_people : Int32) (s_kinds : Int32) (s_deeds : Int32) (s_feeding : Int64) (s_large : Int32) (s_dead : Int32) (s_dayNumber : Int32) (a1 : Int32) (a2 : Int32) (out : Int32) (hf : fX1_feeds s_feeding a1 a2 = some out) : Met l yX1_feeds wsX1_feeds ({ frames := 1, cells := 0, slots := 0, locals := 21 }) (PcR G [.ref h0, .int a1, .int a2] [(h0, stE s_people s_kinds s_deeds s_feeding s_large s_dead s_dayNumber)]) (QiR out) 0 0 noA := by
  refine mk_Rz (cc := cX1_feeds) (maxL := 3) (by decide) rfl (Nat.le_of_ble_eq_true rfl) ?_
  intro p e s m args below meth c Q ls S hP hK hl hret
  obtain ⟨hx, hb, hml, hown, hts⟩ := S
  have hown : s.vm.findClass RX1 = some m.cls := hown
  have kl_21 := hts (.fieldLink RX1 21 "ArrestOrder$Standing" "feeding" "J") (by decide +kernel)
  have hi_X1 : ∀ w ∈ wsX10, w ∈ wsX1_feeds := fun _ h => List.mem_cons_of_mem _ (List.mem_append_right _ h)
  have hS : va_S noA s.heap s.heap [] := va_S.rf
  have hl : lv_has ls 3 [(0, .ref h0), (1, .int a1), (2, .int a2)] := hl
  refine lv_aload_n hx hb dX1_feeds_0 rfl (lv_at hl 0 rfl) ?_
  refine va_get (D := gD G) (ci := 1) (v := .long s_feeding) (C := RX1) (T := TX1) (N := 7) hx hb hts hi_X1 hown hK.1 hP 0 rfl rfl 3 (by decide) kl_21 (fun _ h9 => h9) rfl dX1_feeds_1 ?_
  refine lv_iload_n hx hb dX1_feeds_4 rfl (lv_at hl 1 rfl) ?_
  refine lv_iload_n hx hb dX1_feeds_5 rfl (lv_at hl 2 rfl) ?_
  obtain ⟨o1, hc2, hf⟩ := bindS hf
  refine ro_l (va_runSN (As := [.int a1, .int a2]) (rest := [.long s_feeding]) ⟨hx, hb, hml, hown, hts⟩ (ctX3_pair l G a1 a2 o1 hc2) ⟨va_cnB 2 hts gX1_feeds_X3_pair_n44 rfl rfl rfl (nm_X1_44 hK.2) (hts (.initialized RX3) (by decide +kernel)) (by decide +kernel) ⟨Nat.le_of_ble_eq_true rfl, Nat.le_of_ble_eq_true rfl⟩, hts (.static yX3_pair) (by decide +kernel), trivial⟩ (preR_S (hP.sub (ws' := []) [] rfl) hK) rfl rfl hl.1 rfl (lv_room (Nat.le_of_ble_eq_true rfl)) dX1_feeds_6 ⟨Nat.zero_le _, Nat.zero_le _⟩) hS hP (fun H locs hP hS => ?_)
  refine lv_land hx hb dX1_feeds_9 ?_
  refine lv_lconst (v := 0) hx hb dX1_feeds_10 (by decide) ?_
  refine W.lcmp hx hb dX1_feeds_11 ?_
  refine lv_if_eq (tgt := 19) hx hb dX1_feeds_12 (by decide) (fun c3 => ?_) (fun c3 => ?_)
  · have hf := iteT hf c3
    refine lv_iconst (v := 0) hx hb dX1_feeds_19 (by decide) ?_
    have hv := Option.some.inj hf
    exact hret _ _ _ _ _ hS rfl hv dX1_feeds_20
  · have hf := iteF hf c3
    refine lv_iconst (v := 1) hx hb dX1_feeds_15 (by decide) ?_
    refine lv_goto (tgt := 20) hx hb dX1_feeds_16 (by decide) ?_
    have hv := Option.some.inj hf
    exact hret _ _ _ _ _ hS rfl hv dX1_feeds_20
def fX1_whomFeeds_4 (s_people : Int32) (s_feeding : Int64) (a1 : Int32) : Nat → Int32 → Int32 → Option (Int32)
  | 0, _, _ => none
  | n + 1, x2, x3 => (if s_people ≤ x3 then some x2 else (fX1_feeds s_feeding a1 x3).bind fun o2 => ((if o2 = 0 then (fX1_whomFeeds_4 s_people s_feeding a1 n x2 (x3 + 1)) else (fX3_bit x3).bind fun o5 => ((fX1_whomFeeds_4 s_people s_feeding a1 n (x2 ||| o5) (x3 + 1))))))
def fX1_whomFeeds (s_people : Int32) (s_feeding : Int64) (a1 : Int32) : Option (Int32) :=
  (fX1_whomFeeds_4 s_people s_feeding a1 9 0 0)
set_option maxHeartbeats 4000000 in
set_option maxRecDepth 100000 in
theorem ctX1_whomFeeds (l : Launch) (G : GG) (h0 : Nat) (s_people : Int32) (s_kinds : Int32) (s_deeds : Int32) (s_feeding : Int64) (s_large : Int32) (s_dead : Int32) (s_dayNumber : Int32) (a1 : Int32) (out : Int32) (hf : fX1_whomFeeds s_people s_feeding a1 = some out) : Met l yX1_whomFeeds wsX1_whomFeeds ({ frames := 2, cells := 0, slots := 0, locals := 43 }) (PcR G [.ref h0, .int a1] [(h0, stE s_people s_kinds s_deeds s_feeding s_large s_dead s_dayNumber)]) (QiR out) 0 0 noA := by
  refine mk_Ri (cc := cX1_whomFeeds) (maxL := 4) (by decide) rfl (Nat.le_of_ble_eq_true rfl) ?_
  intro p e s m args below meth c Q ls S hP hK hl hret
  obtain ⟨hx, hb, hml, hown, hts⟩ := S
  have hown : s.vm.findClass RX1 = some m.cls := hown
  have kl_9 := hts (.fieldLink RX1 9 "ArrestOrder$Standing" "people" "I") (by decide +kernel)
  have hi_X1 : ∀ w ∈ wsX10, w ∈ wsX1_whomFeeds := fun _ h => List.mem_cons_of_mem _ (List.mem_append_right _ h)
  have hS : va_S noA s.heap s.heap [] := va_S.rf
  have hl : lv_has ls 4 [(0, .ref h0), (1, .int a1)] := hl
  have hC4 : ∀ (n : Nat) (x2 : Int32) (x3 : Int32) (H : Heap) (locs : List Loc) (ls : Array Slot), va_P (gD G) vwCl [(h0, stE s_people s_kinds s_deeds s_feeding s_large s_dead s_dayNumber)] H → va_S noA s.heap H locs → lv_has ls 4 [(0, .ref h0), (1, .int a1), (2, .int x2), (3, .int x3)] → fX1_whomFeeds_4 s_people s_feeding a1 n x2 x3 = some out → W p l e ({ frames := 2, cells := 0, slots := 0, locals := 43 }) s m args below meth c H locs 0 0 Q (F0 m 4 ls []) := by
    intro n4
    induction n4 with
    | zero => intro x2 x3 H locs ls hP hS hl hf; exact absurd (show none = some out from hf) (fun z => by cases z)
    | succ n4 ih4 =>
      intro x2 x3 H locs ls hP hS hl hf
      refine lv_iload_n hx hb dX1_whomFeeds_4 rfl (lv_at hl 3 rfl) ?_
      refine lv_aload_n hx hb dX1_whomFeeds_5 rfl (lv_at hl 0 rfl) ?_
      refine va_get (D := gD G) (ci := 1) (v := .int s_people) (C := RX1) (T := TX1) (N := 7) hx hb hts hi_X1 hown hK.1 hP 0 rfl rfl 0 (by decide) kl_9 (fun _ h9 => h9) rfl dX1_whomFeeds_6 ?_
      refine lv_icmp_ge (tgt := 34) hx hb dX1_whomFeeds_9 (by decide) (fun c1 => ?_) (fun c1 => ?_)
      · have hf := iteT hf c1
        refine lv_iload_n hx hb dX1_whomFeeds_34 rfl (lv_at hl 2 rfl) ?_
        have hv := Option.some.inj hf
        exact hret _ _ _ _ _ hS hv dX1_whomFeeds_35
      · have hf := iteF hf c1
        refine lv_aload_n hx hb dX1_whomFeeds_12 rfl (lv_at hl 0 rfl) ?_
        refine lv_iload_n hx hb dX1_whomFeeds_13 rfl (lv_at hl 1 rfl) ?_
        refine lv_iload_n hx hb dX1_whomFeeds_14 rfl (lv_at hl 3 rfl) ?_
        obtain ⟨o2, hc3, hf⟩ := bindS hf
        refine ro_i (va_runV (C := RX1) (As := [.int a1, .int x3]) (rest := []) ⟨hx, hb, hml, hown, hts⟩ (ctX1_feeds l G h0 s_people s_kinds s_deeds s_feeding s_large s_dead s_dayNumber a1 x3 o2 hc3) (cwV 2 hts gX1_whomFeeds_X1_feeds rfl rfl rfl (by decide +kernel) ⟨Nat.le_of_ble_eq_true rfl, Nat.le_of_ble_eq_true rfl⟩) (preR_V (q0 := 0) (ci := 1) (hP.sub (ws' := [(h0, stE s_people s_kinds s_deeds s_feeding s_large s_dead s_dayNumber)]) [0] rfl) hK rfl rfl) rfl rfl hl.1 rfl (lv_room (Nat.le_of_ble_eq_true rfl)) dX1_whomFeeds_15 ⟨Nat.zero_le _, Nat.zero_le _⟩) hS hP (fun H locs hP hS => ?_)
        refine lv_if_eq (tgt := 28) hx hb dX1_whomFeeds_18 (by decide) (fun c4 => ?_) (fun c4 => ?_)
        · have hf := iteT hf c4
          refine lv_iinc (v := (x3 + 1)) (lv' := [(3, .int (x3 + 1)), (0, .ref h0), (1, .int a1), (2, .int x2)]) hx hb dX1_whomFeeds_28 hl (k := 3) rfl rfl (by decide) rfl (fun ls hl => ?_)
          refine lv_goto (tgt := 4) hx hb dX1_whomFeeds_31 (by decide) ?_
          exact ih4 x2 (x3 + 1) _ _ _ hP hS (lv_sub hl [1, 2, 3, 0] rfl) hf
        · have hf := iteF hf c4
          refine lv_iload_n hx hb dX1_whomFeeds_21 rfl (lv_at hl 2 rfl) ?_
          refine lv_iload_n hx hb dX1_whomFeeds_22 rfl (lv_at hl 3 rfl) ?_
          obtain ⟨o5, hc6, hf⟩ := bindS hf
          refine ro_i (va_runSN (As := [.int x3]) (rest := [.int x2]) ⟨hx, hb, hml, hown, hts⟩ (ctX3_bit l G x3 o5 hc6) ⟨va_cnB 1 hts gX1_whomFeeds_X3_bit_n34 rfl rfl rfl (nm_X1_34 hK.2) (hts (.initialized RX3) (by decide +kernel)) (by decide +kernel) ⟨Nat.le_of_ble_eq_true rfl, Nat.le_of_ble_eq_true rfl⟩, hts (.static yX3_bit) (by decide +kernel), trivial⟩ (preR_S (hP.sub (ws' := []) [] rfl) hK) rfl rfl hl.1 rfl (lv_room (Nat.le_of_ble_eq_true rfl)) dX1_whomFeeds_23 ⟨Nat.zero_le _, Nat.zero_le _⟩) hS hP (fun H locs hP hS => ?_)
          refine lv_ior hx hb dX1_whomFeeds_26 ?_
          refine lv_istore_n (lv' := [(2, .int (x2 ||| o5)), (0, .ref h0), (1, .int a1), (3, .int x3)]) hx hb dX1_whomFeeds_27 rfl hl (by decide) rfl (fun ls hl => ?_)
          refine lv_iinc (v := (x3 + 1)) (lv' := [(3, .int (x3 + 1)), (2, .int (x2 ||| o5)), (0, .ref h0), (1, .int a1)]) hx hb dX1_whomFeeds_28 hl (k := 3) rfl rfl (by decide) rfl (fun ls hl => ?_)
          refine lv_goto (tgt := 4) hx hb dX1_whomFeeds_31 (by decide) ?_
          exact ih4 (x2 ||| o5) (x3 + 1) _ _ _ hP hS (lv_sub hl [2, 3, 1, 0] rfl) hf
  refine lv_iconst (v := 0) hx hb dX1_whomFeeds_0 (by decide) ?_
  refine lv_istore_n (lv' := [(2, .int 0), (0, .ref h0), (1, .int a1)]) hx hb dX1_whomFeeds_1 rfl hl (by decide) rfl (fun ls hl => ?_)
  refine lv_iconst (v := 0) hx hb dX1_whomFeeds_2 (by decide) ?_
  refine lv_istore_n (lv' := [(3, .int 0), (2, .int 0), (0, .ref h0), (1, .int a1)]) hx hb dX1_whomFeeds_3 rfl hl (by decide) rfl (fun ls hl => ?_)
  exact hC4 9 0 0 _ _ _ hP hS (lv_sub hl [2, 3, 1, 0] rfl) hf
def fX1_hasPairLeft (s_people : Int32) (s_feeding : Int64) : Option (Int32) :=
  (fJ13_bitCount_95d88 s_feeding).bind fun o1 => ((if (s_people * (s_people - 1)) ≤ o1 then some 0 else some 1))
set_option maxHeartbeats 4000000 in
set_option maxRecDepth 100000 in
theorem ctX1_hasPairLeft (l : Launch) (G : GG) (h0 : Nat) (s_people : Int32) (s_kinds : Int32) (s_deeds : Int32) (s_feeding : Int64) (s_large : Int32) (s_dead : Int32) (s_dayNumber : Int32) (out : Int32) (hf : fX1_hasPairLeft s_people s_feeding = some out) : Met l yX1_hasPairLeft wsX1_hasPairLeft ({ frames := 1, cells := 0, slots := 0, locals := 21 }) (PcR G [.ref h0] [(h0, stE s_people s_kinds s_deeds s_feeding s_large s_dead s_dayNumber)]) (QiR out) 0 0 noA := by
  refine mk_Rz (cc := cX1_hasPairLeft) (maxL := 1) (by decide) rfl (Nat.le_of_ble_eq_true rfl) ?_
  intro p e s m args below meth c Q ls S hP hK hl hret
  obtain ⟨hx, hb, hml, hown, hts⟩ := S
  have hown : s.vm.findClass RX1 = some m.cls := hown
  have kl_21 := hts (.fieldLink RX1 21 "ArrestOrder$Standing" "feeding" "J") (by decide +kernel)
  have hi_X1 : ∀ w ∈ wsX10, w ∈ wsX1_hasPairLeft := fun _ h => List.mem_cons_of_mem _ (List.mem_append_right _ h)
  have kl_9 := hts (.fieldLink RX1 9 "ArrestOrder$Standing" "people" "I") (by decide +kernel)
  have hS : va_S noA s.heap s.heap [] := va_S.rf
  have hl : lv_has ls 1 [(0, .ref h0)] := hl
  refine lv_aload_n hx hb dX1_hasPairLeft_0 rfl (lv_at hl 0 rfl) ?_
  refine va_get (D := gD G) (ci := 1) (v := .long s_feeding) (C := RX1) (T := TX1) (N := 7) hx hb hts hi_X1 hown hK.1 hP 0 rfl rfl 3 (by decide) kl_21 (fun _ h9 => h9) rfl dX1_hasPairLeft_1 ?_
  obtain ⟨o1, hc2, hf⟩ := bindS hf
  refine ro_i (va_runS (As := [.long s_feeding]) (rest := []) ⟨hx, hb, hml, hown, hts⟩ (ctJ13_bitCount_95d88 l G s_feeding o1 hc2) (va_cwS 1 hts gX1_hasPairLeft_J13_bitCount_95d88 rfl rfl rfl (by decide +kernel) ⟨Nat.le_of_ble_eq_true rfl, Nat.le_of_ble_eq_true rfl⟩) (preR_S (hP.sub (ws' := []) [] rfl) hK) rfl rfl hl.1 rfl (lv_room (Nat.le_of_ble_eq_true rfl)) dX1_hasPairLeft_4 ⟨Nat.zero_le _, Nat.zero_le _⟩) hS hP (fun H locs hP hS => ?_)
  refine lv_aload_n hx hb dX1_hasPairLeft_7 rfl (lv_at hl 0 rfl) ?_
  refine va_get (D := gD G) (ci := 1) (v := .int s_people) (C := RX1) (T := TX1) (N := 7) hx hb hts hi_X1 hown hK.1 hP 0 rfl rfl 0 (by decide) kl_9 (fun _ h9 => h9) rfl dX1_hasPairLeft_8 ?_
  refine lv_aload_n hx hb dX1_hasPairLeft_11 rfl (lv_at hl 0 rfl) ?_
  refine va_get (D := gD G) (ci := 1) (v := .int s_people) (C := RX1) (T := TX1) (N := 7) hx hb hts hi_X1 hown hK.1 hP 0 rfl rfl 0 (by decide) kl_9 (fun _ h9 => h9) rfl dX1_hasPairLeft_12 ?_
  refine lv_iconst (v := 1) hx hb dX1_hasPairLeft_15 (by decide) ?_
  refine lv_isub hx hb dX1_hasPairLeft_16 ?_
  refine lv_imul hx hb dX1_hasPairLeft_17 ?_
  refine lv_icmp_ge (tgt := 25) hx hb dX1_hasPairLeft_18 (by decide) (fun c3 => ?_) (fun c3 => ?_)
  · have hf := iteT hf c3
    refine lv_iconst (v := 0) hx hb dX1_hasPairLeft_25 (by decide) ?_
    have hv := Option.some.inj hf
    exact hret _ _ _ _ _ hS rfl hv dX1_hasPairLeft_26
  · have hf := iteF hf c3
    refine lv_iconst (v := 1) hx hb dX1_hasPairLeft_21 (by decide) ?_
    refine lv_goto (tgt := 26) hx hb dX1_hasPairLeft_22 (by decide) ?_
    have hv := Option.some.inj hf
    exact hret _ _ _ _ _ hS rfl hv dX1_hasPairLeft_26
def fX1_bury (s_large : Int32) (s_dead : Int32) (a1 : Int32) : Option (Int32 × Int32) :=
  (fX3_without s_large a1).bind fun o1 => ((fX3_bit a1).bind fun o3 => (some (o1, (s_dead ||| o3))))
set_option maxHeartbeats 4000000 in
set_option maxRecDepth 100000 in
theorem ctX1_bury (l : Launch) (G : GG) (h0 : Nat) (s_people : Int32) (s_kinds : Int32) (s_deeds : Int32) (s_feeding : Int64) (s_large : Int32) (s_dead : Int32) (s_dayNumber : Int32) (a1 : Int32) (out : Int32 × Int32) (hf : fX1_bury s_large s_dead a1 = some out) : Met l yX1_bury wsX1_bury ({ frames := 1, cells := 0, slots := 0, locals := 21 }) (PcW G [.ref h0, .int a1] [(h0, stE s_people s_kinds s_deeds s_feeding s_large s_dead s_dayNumber)]) (QvW G [(h0, stE s_people s_kinds s_deeds s_feeding s_large s_dead s_dayNumber)] [(h0, stE s_people s_kinds s_deeds s_feeding out.1 out.2 s_dayNumber)]) 0 0 (inA [(h0, stE s_people s_kinds s_deeds s_feeding s_large s_dead s_dayNumber)]) := by
  refine mk_Wv (cc := cX1_bury) (maxL := 2) (by decide) rfl (Nat.le_of_ble_eq_true rfl) ?_
  intro p e s m args below meth c Q ls A S hP hK hD hl hret
  obtain ⟨hx, hb, hml, hown, hts⟩ := S
  have hown : s.vm.findClass RX1 = some m.cls := hown
  have kl_25 := hts (.fieldLink RX1 25 "ArrestOrder$Standing" "large" "I") (by decide +kernel)
  have hi_X1 : ∀ w ∈ wsX10, w ∈ wsX1_bury := fun _ h => List.mem_cons_of_mem _ (List.mem_append_right _ h)
  have kl_28 := hts (.fieldLink RX1 28 "ArrestOrder$Standing" "dead" "I") (by decide +kernel)
  have hS : va_S A s.heap s.heap [] := va_S.rf
  have hl : lv_has ls 2 [(0, .ref h0), (1, .int a1)] := hl
  refine lv_aload_n hx hb dX1_bury_0 rfl (lv_at hl 0 rfl) ?_
  refine lv_aload_n hx hb dX1_bury_1 rfl (lv_at hl 0 rfl) ?_
  refine va_get (D := gD G) (ci := 1) (v := .int s_large) (C := RX1) (T := TX1) (N := 7) hx hb hts hi_X1 hown hK.1 hP 0 rfl rfl 4 (by decide) kl_25 (fun _ h9 => h9) rfl dX1_bury_2 ?_
  refine lv_iload_n hx hb dX1_bury_5 rfl (lv_at hl 1 rfl) ?_
  obtain ⟨o1, hc2, hf⟩ := bindS hf
  refine ro_i (va_runSN (As := [.int s_large, .int a1]) (rest := [.ref h0]) ⟨hx, hb, hml, hown, hts⟩ (ctX3_without l G s_large a1 o1 hc2) ⟨va_cnB 2 hts gX1_bury_X3_without_n58 rfl rfl rfl (nm_X1_58 hK.2) (hts (.initialized RX3) (by decide +kernel)) (by decide +kernel) ⟨Nat.le_of_ble_eq_true rfl, Nat.le_of_ble_eq_true rfl⟩, hts (.static yX3_without) (by decide +kernel), trivial⟩ (preR_S (hP.sub (ws' := []) [] rfl) hK) rfl rfl hl.1 rfl (lv_room (Nat.le_of_ble_eq_true rfl)) dX1_bury_6 ⟨Nat.zero_le _, Nat.zero_le _⟩) hS hP (fun H locs hP hS => ?_)
  refine va_put (D := gD G) (ci := 1) (v := .int o1) (ty := .int) (C := RX1) (T := TX1) (N := 7) hx hb hts hi_X1 tyX1 tyX1_ok nmX1 hown hK.1 hP hD hS 0 rfl rfl 4 (by decide) kl_25 (fun _ h9 => h9) rfl (tyX1_ok 4 (by decide)) rfl rfl (Nat.le_of_ble_eq_true rfl) dX1_bury_9 (fun H locs hP hD hS => ?_)
  have hP : va_P (gD G) vwCl [(h0, stE s_people s_kinds s_deeds s_feeding o1 s_dead s_dayNumber)] H := hP
  have hD : va_D A [(h0, stE s_people s_kinds s_deeds s_feeding o1 s_dead s_dayNumber)] := hD
  refine lv_aload_n hx hb dX1_bury_12 rfl (lv_at hl 0 rfl) ?_
  refine lv_dup hx hb dX1_bury_13 rfl ?_
  refine va_get (D := gD G) (ci := 1) (v := .int s_dead) (C := RX1) (T := TX1) (N := 7) hx hb hts hi_X1 hown hK.1 hP 0 rfl rfl 5 (by decide) kl_28 (fun _ h9 => h9) rfl dX1_bury_14 ?_
  refine lv_iload_n hx hb dX1_bury_17 rfl (lv_at hl 1 rfl) ?_
  obtain ⟨o3, hc4, hf⟩ := bindS hf
  refine ro_i (va_runSN (As := [.int a1]) (rest := [.int s_dead, .ref h0]) ⟨hx, hb, hml, hown, hts⟩ (ctX3_bit l G a1 o3 hc4) ⟨va_cnB 1 hts gX1_bury_X3_bit_n34 rfl rfl rfl (nm_X1_34 hK.2) (hts (.initialized RX3) (by decide +kernel)) (by decide +kernel) ⟨Nat.le_of_ble_eq_true rfl, Nat.le_of_ble_eq_true rfl⟩, hts (.static yX3_bit) (by decide +kernel), trivial⟩ (preR_S (hP.sub (ws' := []) [] rfl) hK) rfl rfl hl.1 rfl (lv_room (Nat.le_of_ble_eq_true rfl)) dX1_bury_18 ⟨Nat.zero_le _, Nat.zero_le _⟩) hS hP (fun H locs hP hS => ?_)
  refine lv_ior hx hb dX1_bury_21 ?_
  refine va_put (D := gD G) (ci := 1) (v := .int (s_dead ||| o3)) (ty := .int) (C := RX1) (T := TX1) (N := 7) hx hb hts hi_X1 tyX1 tyX1_ok nmX1 hown hK.1 hP hD hS 0 rfl rfl 5 (by decide) kl_28 (fun _ h9 => h9) rfl (tyX1_ok 5 (by decide)) rfl rfl (Nat.le_of_ble_eq_true rfl) dX1_bury_22 (fun H locs hP hD hS => ?_)
  have hP : va_P (gD G) vwCl [(h0, stE s_people s_kinds s_deeds s_feeding o1 (s_dead ||| o3) s_dayNumber)] H := hP
  have hD : va_D A [(h0, stE s_people s_kinds s_deeds s_feeding o1 (s_dead ||| o3) s_dayNumber)] := hD
  have hv := Option.some.inj hf
  exact hret _ _ _ _ (by rw [← hv]; exact hP) hS dX1_bury_25
def fX1_isHidden (s_kinds : Int32) (s_feeding : Int64) (a1 : Int32) (a2 : Int32) : Option (Int32) :=
  (if ((Int64.toInt32 (j_lushr s_feeding (7 * a1))) &&& a2) = 0 then some 0 else (fX1_kindOf s_kinds a1).bind fun o2 => ((if o2 = 1 then some 0 else some 1)))
set_option maxHeartbeats 4000000 in
set_option maxRecDepth 100000 in
theorem ctX1_isHidden (l : Launch) (G : GG) (h0 : Nat) (s_people : Int32) (s_kinds : Int32) (s_deeds : Int32) (s_feeding : Int64) (s_large : Int32) (s_dead : Int32) (s_dayNumber : Int32) (a1 : Int32) (a2 : Int32) (out : Int32) (hf : fX1_isHidden s_kinds s_feeding a1 a2 = some out) : Met l yX1_isHidden wsX1_isHidden ({ frames := 1, cells := 0, slots := 0, locals := 21 }) (PcR G [.ref h0, .int a1, .int a2] [(h0, stE s_people s_kinds s_deeds s_feeding s_large s_dead s_dayNumber)]) (QiR out) 0 0 noA := by
  refine mk_Rz (cc := cX1_isHidden) (maxL := 4) (by decide) rfl (Nat.le_of_ble_eq_true rfl) ?_
  intro p e s m args below meth c Q ls S hP hK hl hret
  obtain ⟨hx, hb, hml, hown, hts⟩ := S
  have hown : s.vm.findClass RX1 = some m.cls := hown
  have kl_21 := hts (.fieldLink RX1 21 "ArrestOrder$Standing" "feeding" "J") (by decide +kernel)
  have hi_X1 : ∀ w ∈ wsX10, w ∈ wsX1_isHidden := fun _ h => List.mem_cons_of_mem _ (List.mem_append_right _ h)
  have hS : va_S noA s.heap s.heap [] := va_S.rf
  have hl : lv_has ls 4 [(0, .ref h0), (1, .int a1), (2, .int a2)] := hl
  refine lv_aload_n hx hb dX1_isHidden_0 rfl (lv_at hl 0 rfl) ?_
  refine va_get (D := gD G) (ci := 1) (v := .long s_feeding) (C := RX1) (T := TX1) (N := 7) hx hb hts hi_X1 hown hK.1 hP 0 rfl rfl 3 (by decide) kl_21 (fun _ h9 => h9) rfl dX1_isHidden_1 ?_
  refine lv_bipush (v := 7) hx hb dX1_isHidden_4 (by decide) ?_
  refine lv_iload_n hx hb dX1_isHidden_6 rfl (lv_at hl 1 rfl) ?_
  refine lv_imul hx hb dX1_isHidden_7 ?_
  refine lv_lushr (v := (j_lushr s_feeding (7 * a1))) hx hb dX1_isHidden_8 rfl ?_
  refine lv_l2i (v := (Int64.toInt32 (j_lushr s_feeding (7 * a1)))) hx hb dX1_isHidden_9 rfl ?_
  refine lv_istore_n (lv' := [(3, .int (Int64.toInt32 (j_lushr s_feeding (7 * a1)))), (0, .ref h0), (1, .int a1), (2, .int a2)]) hx hb dX1_isHidden_10 rfl hl (by decide) rfl (fun ls hl => ?_)
  refine lv_iload_n hx hb dX1_isHidden_11 rfl (lv_at hl 0 rfl) ?_
  refine lv_iload_n hx hb dX1_isHidden_12 rfl (lv_at hl 3 rfl) ?_
  refine lv_iand hx hb dX1_isHidden_13 ?_
  refine lv_if_eq (tgt := 30) hx hb dX1_isHidden_14 (by decide) (fun c1 => ?_) (fun c1 => ?_)
  · have hf := iteT hf c1
    refine lv_iconst (v := 0) hx hb dX1_isHidden_30 (by decide) ?_
    have hv := Option.some.inj hf
    exact hret _ _ _ _ _ hS rfl hv dX1_isHidden_31
  · have hf := iteF hf c1
    refine lv_aload_n hx hb dX1_isHidden_17 rfl (lv_at hl 1 rfl) ?_
    refine lv_iload_n hx hb dX1_isHidden_18 rfl (lv_at hl 2 rfl) ?_
    obtain ⟨o2, hc3, hf⟩ := bindS hf
    refine ro_i (va_runV (C := RX1) (As := [.int a1]) (rest := []) ⟨hx, hb, hml, hown, hts⟩ (ctX1_kindOf l G h0 s_people s_kinds s_deeds s_feeding s_large s_dead s_dayNumber a1 o2 hc3) (cwV 1 hts gX1_isHidden_X1_kindOf rfl rfl rfl (by decide +kernel) ⟨Nat.le_of_ble_eq_true rfl, Nat.le_of_ble_eq_true rfl⟩) (preR_V (q0 := 0) (ci := 1) (hP.sub (ws' := [(h0, stE s_people s_kinds s_deeds s_feeding s_large s_dead s_dayNumber)]) [0] rfl) hK rfl rfl) rfl rfl hl.1 rfl (lv_room (Nat.le_of_ble_eq_true rfl)) dX1_isHidden_19 ⟨Nat.zero_le _, Nat.zero_le _⟩) hS hP (fun H locs hP hS => ?_)
    refine lv_iconst (v := 1) hx hb dX1_isHidden_22 (by decide) ?_
    refine lv_icmp_eq (tgt := 30) hx hb dX1_isHidden_23 (by decide) (fun c4 => ?_) (fun c4 => ?_)
    · have hf := iteT hf c4
      refine lv_iconst (v := 0) hx hb dX1_isHidden_30 (by decide) ?_
      have hv := Option.some.inj hf
      exact hret _ _ _ _ _ hS rfl hv dX1_isHidden_31
    · have hf := iteF hf c4
      refine lv_iconst (v := 1) hx hb dX1_isHidden_26 (by decide) ?_
      refine lv_goto (tgt := 31) hx hb dX1_isHidden_27 (by decide) ?_
      have hv := Option.some.inj hf
      exact hret _ _ _ _ _ hS rfl hv dX1_isHidden_31
def fX1_mayBeTaken_44 (s_kinds : Int32) (s_feeding : Int64) (a1 : Int32) (k7 : Int32 → Int32 → Int32 → Option (Int32)) (x2 : Int32) (x3 : Int32) (x4 : Int32) (x5 : Int32) : Option (Int32) :=
  (if x5 = x3 then (fX1_isHidden s_kinds s_feeding x4 a1).bind fun o9 => ((if o9 = 0 then (fX3_bit x4).bind fun o12 => ((k7 (x2 ||| o12) x3 (x4 + 1))) else (k7 x2 x3 (x4 + 1)))) else (k7 x2 x3 (x4 + 1)))
def fX1_mayBeTaken_7 (s_people : Int32) (s_kinds : Int32) (s_deeds : Int32) (s_feeding : Int64) (a1 : Int32) : Nat → Int32 → Int32 → Int32 → Option (Int32)
  | 0, _, _, _ => none
  | n + 1, x2, x3, x4 => (if s_people ≤ x4 then some x2 else (fX3_isIn a1 x4).bind fun o2 => ((if o2 = 0 then (fX1_mayBeTaken_7 s_people s_kinds s_deeds s_feeding a1 n x2 x3 (x4 + 1)) else (fX1_gradeOf s_kinds s_deeds x4).bind fun o5 => ((if o5 ≤ x3 then (fX1_mayBeTaken_44 s_kinds s_feeding a1 (fun x2 x3 x4 => fX1_mayBeTaken_7 s_people s_kinds s_deeds s_feeding a1 n x2 x3 x4) x2 x3 x4 o5) else (fX1_mayBeTaken_44 s_kinds s_feeding a1 (fun x2 x3 x4 => fX1_mayBeTaken_7 s_people s_kinds s_deeds s_feeding a1 n x2 x3 x4) 0 o5 x4 o5))))))
def fX1_mayBeTaken (s_people : Int32) (s_kinds : Int32) (s_deeds : Int32) (s_feeding : Int64) (a1 : Int32) : Option (Int32) :=
  (fX1_mayBeTaken_7 s_people s_kinds s_deeds s_feeding a1 9 0 0 0)
set_option maxHeartbeats 4000000 in
set_option maxRecDepth 100000 in
theorem ctX1_mayBeTaken (l : Launch) (G : GG) (h0 : Nat) (s_people : Int32) (s_kinds : Int32) (s_deeds : Int32) (s_feeding : Int64) (s_large : Int32) (s_dead : Int32) (s_dayNumber : Int32) (a1 : Int32) (out : Int32) (hf : fX1_mayBeTaken s_people s_kinds s_deeds s_feeding a1 = some out) : Met l yX1_mayBeTaken wsX1_mayBeTaken ({ frames := 2, cells := 0, slots := 0, locals := 44 }) (PcR G [.ref h0, .int a1] [(h0, stE s_people s_kinds s_deeds s_feeding s_large s_dead s_dayNumber)]) (QiR out) 0 0 noA := by
  refine mk_Ri (cc := cX1_mayBeTaken) (maxL := 6) (by decide) rfl (Nat.le_of_ble_eq_true rfl) ?_
  intro p e s m args below meth c Q ls S hP hK hl hret
  obtain ⟨hx, hb, hml, hown, hts⟩ := S
  have hown : s.vm.findClass RX1 = some m.cls := hown
  have kl_9 := hts (.fieldLink RX1 9 "ArrestOrder$Standing" "people" "I") (by decide +kernel)
  have hi_X1 : ∀ w ∈ wsX10, w ∈ wsX1_mayBeTaken := fun _ h => List.mem_cons_of_mem _ (List.mem_append_right _ h)
  have hS : va_S noA s.heap s.heap [] := va_S.rf
  have hl : lv_has ls 6 [(0, .ref h0), (1, .int a1)] := hl
  have hC7 : ∀ (n : Nat) (x2 : Int32) (x3 : Int32) (x4 : Int32) (H : Heap) (locs : List Loc) (ls : Array Slot), va_P (gD G) vwCl [(h0, stE s_people s_kinds s_deeds s_feeding s_large s_dead s_dayNumber)] H → va_S noA s.heap H locs → lv_has ls 6 [(0, .ref h0), (1, .int a1), (2, .int x2), (3, .int x3), (4, .int x4)] → fX1_mayBeTaken_7 s_people s_kinds s_deeds s_feeding a1 n x2 x3 x4 = some out → W p l e ({ frames := 2, cells := 0, slots := 0, locals := 44 }) s m args below meth c H locs 0 0 Q (F0 m 7 ls []) := by
    intro n7
    induction n7 with
    | zero => intro x2 x3 x4 H locs ls hP hS hl hf; exact absurd (show none = some out from hf) (fun z => by cases z)
    | succ n7 ih7 =>
      have hC44 : ∀ (x2 : Int32) (x3 : Int32) (x4 : Int32) (x5 : Int32) (H : Heap) (locs : List Loc) (ls : Array Slot), va_P (gD G) vwCl [(h0, stE s_people s_kinds s_deeds s_feeding s_large s_dead s_dayNumber)] H → va_S noA s.heap H locs → lv_has ls 6 [(0, .ref h0), (1, .int a1), (2, .int x2), (3, .int x3), (4, .int x4), (5, .int x5)] → fX1_mayBeTaken_44 s_kinds s_feeding a1 (fun x2 x3 x4 => fX1_mayBeTaken_7 s_people s_kinds s_deeds s_feeding a1 n7 x2 x3 x4) x2 x3 x4 x5 = some out → W p l e ({ frames := 2, cells := 0, slots := 0, locals := 44 }) s m args below meth c H locs 0 0 Q (F0 m 44 ls []) := by
        intro x2 x3 x4 x5 H locs ls hP hS hl hf
        refine lv_iload hx hb dX1_mayBeTaken_44 (lv_at hl 5 rfl) ?_
        refine lv_iload_n hx hb dX1_mayBeTaken_46 rfl (lv_at hl 3 rfl) ?_
        refine lv_icmp_ne (tgt := 68) hx hb dX1_mayBeTaken_47 (by decide) (fun c8 => ?_) (fun c8 => ?_)
        · have hf := iteF hf c8
          refine lv_iinc (v := (x4 + 1)) (lv' := [(4, .int (x4 + 1)), (0, .ref h0), (1, .int a1), (2, .int x2), (3, .int x3), (5, .int x5)]) hx hb dX1_mayBeTaken_68 hl (k := 4) rfl rfl (by decide) rfl (fun ls hl => ?_)
          refine lv_goto (tgt := 7) hx hb dX1_mayBeTaken_71 (by decide) ?_
          exact ih7 x2 x3 (x4 + 1) _ _ _ hP hS (lv_sub hl [1, 2, 3, 4, 0] rfl) hf
        · have hf := iteT hf c8
          refine lv_aload_n hx hb dX1_mayBeTaken_50 rfl (lv_at hl 0 rfl) ?_
          refine lv_iload hx hb dX1_mayBeTaken_51 (lv_at hl 4 rfl) ?_
          refine lv_iload_n hx hb dX1_mayBeTaken_53 rfl (lv_at hl 1 rfl) ?_
          obtain ⟨o9, hc10, hf⟩ := bindS hf
          refine ro_i (va_runV (C := RX1) (As := [.int x4, .int a1]) (rest := []) ⟨hx, hb, hml, hown, hts⟩ (ctX1_isHidden l G h0 s_people s_kinds s_deeds s_feeding s_large s_dead s_dayNumber x4 a1 o9 hc10) (cwV 2 hts gX1_mayBeTaken_X1_isHidden rfl rfl rfl (by decide +kernel) ⟨Nat.le_of_ble_eq_true rfl, Nat.le_of_ble_eq_true rfl⟩) (preR_V (q0 := 0) (ci := 1) (hP.sub (ws' := [(h0, stE s_people s_kinds s_deeds s_feeding s_large s_dead s_dayNumber)]) [0] rfl) hK rfl rfl) rfl rfl hl.1 rfl (lv_room (Nat.le_of_ble_eq_true rfl)) dX1_mayBeTaken_54 ⟨Nat.zero_le _, Nat.zero_le _⟩) hS hP (fun H locs hP hS => ?_)
          refine lv_if_ne (tgt := 68) hx hb dX1_mayBeTaken_57 (by decide) (fun c11 => ?_) (fun c11 => ?_)
          · have hf := iteF hf c11
            refine lv_iinc (v := (x4 + 1)) (lv' := [(4, .int (x4 + 1)), (0, .ref h0), (1, .int a1), (2, .int x2), (3, .int x3), (5, .int x5)]) hx hb dX1_mayBeTaken_68 hl (k := 4) rfl rfl (by decide) rfl (fun ls hl => ?_)
            refine lv_goto (tgt := 7) hx hb dX1_mayBeTaken_71 (by decide) ?_
            exact ih7 x2 x3 (x4 + 1) _ _ _ hP hS (lv_sub hl [1, 2, 3, 4, 0] rfl) hf
          · have hf := iteT hf c11
            refine lv_iload_n hx hb dX1_mayBeTaken_60 rfl (lv_at hl 2 rfl) ?_
            refine lv_iload hx hb dX1_mayBeTaken_61 (lv_at hl 4 rfl) ?_
            obtain ⟨o12, hc13, hf⟩ := bindS hf
            refine ro_i (va_runSN (As := [.int x4]) (rest := [.int x2]) ⟨hx, hb, hml, hown, hts⟩ (ctX3_bit l G x4 o12 hc13) ⟨va_cnB 1 hts gX1_mayBeTaken_X3_bit_n34 rfl rfl rfl (nm_X1_34 hK.2) (hts (.initialized RX3) (by decide +kernel)) (by decide +kernel) ⟨Nat.le_of_ble_eq_true rfl, Nat.le_of_ble_eq_true rfl⟩, hts (.static yX3_bit) (by decide +kernel), trivial⟩ (preR_S (hP.sub (ws' := []) [] rfl) hK) rfl rfl hl.1 rfl (lv_room (Nat.le_of_ble_eq_true rfl)) dX1_mayBeTaken_63 ⟨Nat.zero_le _, Nat.zero_le _⟩) hS hP (fun H locs hP hS => ?_)
            refine lv_ior hx hb dX1_mayBeTaken_66 ?_
            refine lv_istore_n (lv' := [(2, .int (x2 ||| o12)), (0, .ref h0), (1, .int a1), (3, .int x3), (4, .int x4), (5, .int x5)]) hx hb dX1_mayBeTaken_67 rfl hl (by decide) rfl (fun ls hl => ?_)
            refine lv_iinc (v := (x4 + 1)) (lv' := [(4, .int (x4 + 1)), (2, .int (x2 ||| o12)), (0, .ref h0), (1, .int a1), (3, .int x3), (5, .int x5)]) hx hb dX1_mayBeTaken_68 hl (k := 4) rfl rfl (by decide) rfl (fun ls hl => ?_)
            refine lv_goto (tgt := 7) hx hb dX1_mayBeTaken_71 (by decide) ?_
            exact ih7 (x2 ||| o12) x3 (x4 + 1) _ _ _ hP hS (lv_sub hl [2, 3, 1, 4, 0] rfl) hf
      intro x2 x3 x4 H locs ls hP hS hl hf
      refine lv_iload hx hb dX1_mayBeTaken_7 (lv_at hl 4 rfl) ?_
      refine lv_aload_n hx hb dX1_mayBeTaken_9 rfl (lv_at hl 0 rfl) ?_
      refine va_get (D := gD G) (ci := 1) (v := .int s_people) (C := RX1) (T := TX1) (N := 7) hx hb hts hi_X1 hown hK.1 hP 0 rfl rfl 0 (by decide) kl_9 (fun _ h9 => h9) rfl dX1_mayBeTaken_10 ?_
      refine lv_icmp_ge (tgt := 74) hx hb dX1_mayBeTaken_13 (by decide) (fun c1 => ?_) (fun c1 => ?_)
      · have hf := iteT hf c1
        refine lv_iload_n hx hb dX1_mayBeTaken_74 rfl (lv_at hl 2 rfl) ?_
        have hv := Option.some.inj hf
        exact hret _ _ _ _ _ hS hv dX1_mayBeTaken_75
      · have hf := iteF hf c1
        refine lv_iload_n hx hb dX1_mayBeTaken_16 rfl (lv_at hl 1 rfl) ?_
        refine lv_iload hx hb dX1_mayBeTaken_17 (lv_at hl 4 rfl) ?_
        obtain ⟨o2, hc3, hf⟩ := bindS hf
        refine ro_i (va_runSN (As := [.int a1, .int x4]) (rest := []) ⟨hx, hb, hml, hown, hts⟩ (ctX3_isIn l G a1 x4 o2 hc3) ⟨va_cnB 2 hts gX1_mayBeTaken_X3_isIn_n71 rfl rfl rfl (nm_X1_71 hK.2) (hts (.initialized RX3) (by decide +kernel)) (by decide +kernel) ⟨Nat.le_of_ble_eq_true rfl, Nat.le_of_ble_eq_true rfl⟩, hts (.static yX3_isIn) (by decide +kernel), trivial⟩ (preR_S (hP.sub (ws' := []) [] rfl) hK) rfl rfl hl.1 rfl (lv_room (Nat.le_of_ble_eq_true rfl)) dX1_mayBeTaken_19 ⟨Nat.zero_le _, Nat.zero_le _⟩) hS hP (fun H locs hP hS => ?_)
        refine lv_if_eq (tgt := 68) hx hb dX1_mayBeTaken_22 (by decide) (fun c4 => ?_) (fun c4 => ?_)
        · have hf := iteT hf c4
          refine lv_iinc (v := (x4 + 1)) (lv' := [(4, .int (x4 + 1)), (0, .ref h0), (1, .int a1), (2, .int x2), (3, .int x3)]) hx hb dX1_mayBeTaken_68 hl (k := 4) rfl rfl (by decide) rfl (fun ls hl => ?_)
          refine lv_goto (tgt := 7) hx hb dX1_mayBeTaken_71 (by decide) ?_
          exact ih7 x2 x3 (x4 + 1) _ _ _ hP hS (lv_sub hl [1, 2, 3, 4, 0] rfl) hf
        · have hf := iteF hf c4
          refine lv_aload_n hx hb dX1_mayBeTaken_25 rfl (lv_at hl 0 rfl) ?_
          refine lv_iload hx hb dX1_mayBeTaken_26 (lv_at hl 4 rfl) ?_
          obtain ⟨o5, hc6, hf⟩ := bindS hf
          refine ro_i (va_runV (C := RX1) (As := [.int x4]) (rest := []) ⟨hx, hb, hml, hown, hts⟩ (ctX1_gradeOf l G h0 s_people s_kinds s_deeds s_feeding s_large s_dead s_dayNumber x4 o5 hc6) (cwV 1 hts gX1_mayBeTaken_X1_gradeOf rfl rfl rfl (by decide +kernel) ⟨Nat.le_of_ble_eq_true rfl, Nat.le_of_ble_eq_true rfl⟩) (preR_V (q0 := 0) (ci := 1) (hP.sub (ws' := [(h0, stE s_people s_kinds s_deeds s_feeding s_large s_dead s_dayNumber)]) [0] rfl) hK rfl rfl) rfl rfl hl.1 rfl (lv_room (Nat.le_of_ble_eq_true rfl)) dX1_mayBeTaken_28 ⟨Nat.zero_le _, Nat.zero_le _⟩) hS hP (fun H locs hP hS => ?_)
          refine lv_istore (lv' := [(5, .int o5), (0, .ref h0), (1, .int a1), (2, .int x2), (3, .int x3), (4, .int x4)]) hx hb dX1_mayBeTaken_31 hl (by decide) rfl (fun ls hl => ?_)
          refine lv_iload hx hb dX1_mayBeTaken_33 (lv_at hl 0 rfl) ?_
          refine lv_iload_n hx hb dX1_mayBeTaken_35 rfl (lv_at hl 4 rfl) ?_
          refine lv_icmp_le (tgt := 44) hx hb dX1_mayBeTaken_36 (by decide) (fun c7 => ?_) (fun c7 => ?_)
          · have hf := iteT hf c7
            exact hC44 x2 x3 x4 o5 _ _ _ hP hS (lv_sub hl [1, 2, 3, 4, 5, 0] rfl) hf
          · have hf := iteF hf c7
            refine lv_iload hx hb dX1_mayBeTaken_39 (lv_at hl 0 rfl) ?_
            refine lv_istore_n (lv' := [(3, .int o5), (5, .int o5), (0, .ref h0), (1, .int a1), (2, .int x2), (4, .int x4)]) hx hb dX1_mayBeTaken_41 rfl hl (by decide) rfl (fun ls hl => ?_)
            refine lv_iconst (v := 0) hx hb dX1_mayBeTaken_42 (by decide) ?_
            refine lv_istore_n (lv' := [(2, .int 0), (3, .int o5), (5, .int o5), (0, .ref h0), (1, .int a1), (4, .int x4)]) hx hb dX1_mayBeTaken_43 rfl hl (by decide) rfl (fun ls hl => ?_)
            exact hC44 0 o5 x4 o5 _ _ _ hP hS (lv_sub hl [3, 4, 0, 1, 5, 2] rfl) hf
  refine lv_iconst (v := 0) hx hb dX1_mayBeTaken_0 (by decide) ?_
  refine lv_istore_n (lv' := [(2, .int 0), (0, .ref h0), (1, .int a1)]) hx hb dX1_mayBeTaken_1 rfl hl (by decide) rfl (fun ls hl => ?_)
  refine lv_iconst (v := 0) hx hb dX1_mayBeTaken_2 (by decide) ?_
  refine lv_istore_n (lv' := [(3, .int 0), (2, .int 0), (0, .ref h0), (1, .int a1)]) hx hb dX1_mayBeTaken_3 rfl hl (by decide) rfl (fun ls hl => ?_)
  refine lv_iconst (v := 0) hx hb dX1_mayBeTaken_4 (by decide) ?_
  refine lv_istore (lv' := [(4, .int 0), (3, .int 0), (2, .int 0), (0, .ref h0), (1, .int a1)]) hx hb dX1_mayBeTaken_5 hl (by decide) rfl (fun ls hl => ?_)
  exact hC7 9 0 0 0 _ _ _ hP hS (lv_sub hl [3, 4, 2, 1, 0] rfl) hf
def fX1_passDay_30 (x1 : Int32) (s_large : Int32) (s_dayNumber : Int32) : Option (Int32 × Int32 × Int32) :=
  some (x1, s_large, (s_dayNumber + 1))
def fX1_passDay (s_people : Int32) (s_kinds : Int32) (s_deeds : Int32) (s_feeding : Int64) (s_large : Int32) (s_dayNumber : Int32) : Option (Int32 × Int32 × Int32) :=
  (fX1_mayBeTaken s_people s_kinds s_deeds s_feeding s_large).bind fun o1 => ((fX3_leastOf o1).bind fun o3 => ((if o3 = (-9) then (fX1_passDay_30 o3 s_large s_dayNumber) else (fX3_without s_large o3).bind fun o6 => ((fX1_passDay_30 o3 o6 s_dayNumber)))))
set_option maxHeartbeats 4000000 in
set_option maxRecDepth 100000 in
theorem ctX1_passDay (l : Launch) (G : GG) (h0 : Nat) (s_people : Int32) (s_kinds : Int32) (s_deeds : Int32) (s_feeding : Int64) (s_large : Int32) (s_dead : Int32) (s_dayNumber : Int32) (out : Int32 × Int32 × Int32) (hf : fX1_passDay s_people s_kinds s_deeds s_feeding s_large s_dayNumber = some out) : Met l yX1_passDay wsX1_passDay ({ frames := 3, cells := 0, slots := 0, locals := 69 }) (PcW G [.ref h0] [(h0, stE s_people s_kinds s_deeds s_feeding s_large s_dead s_dayNumber)]) (QiW G [(h0, stE s_people s_kinds s_deeds s_feeding s_large s_dead s_dayNumber)] [(h0, stE s_people s_kinds s_deeds s_feeding out.2.1 s_dead out.2.2)] out.1) 0 0 (inA [(h0, stE s_people s_kinds s_deeds s_feeding s_large s_dead s_dayNumber)]) := by
  refine mk_Wi (cc := cX1_passDay) (maxL := 2) (by decide) rfl (Nat.le_of_ble_eq_true rfl) ?_
  intro p e s m args below meth c Q ls A S hP hK hD hl hret
  obtain ⟨hx, hb, hml, hown, hts⟩ := S
  have hown : s.vm.findClass RX1 = some m.cls := hown
  have kl_25 := hts (.fieldLink RX1 25 "ArrestOrder$Standing" "large" "I") (by decide +kernel)
  have hi_X1 : ∀ w ∈ wsX10, w ∈ wsX1_passDay := fun _ h => List.mem_cons_of_mem _ (List.mem_append_right _ h)
  have kl_31 := hts (.fieldLink RX1 31 "ArrestOrder$Standing" "dayNumber" "I") (by decide +kernel)
  have hS : va_S A s.heap s.heap [] := va_S.rf
  have hl : lv_has ls 2 [(0, .ref h0)] := hl
  have hC30 : ∀ (x1 : Int32) (s_large : Int32) (s_dayNumber : Int32) (H : Heap) (locs : List Loc) (ls : Array Slot), va_P (gD G) vwCl [(h0, stE s_people s_kinds s_deeds s_feeding s_large s_dead s_dayNumber)] H → va_D A [(h0, stE s_people s_kinds s_deeds s_feeding s_large s_dead s_dayNumber)] → va_S A s.heap H locs → lv_has ls 2 [(0, .ref h0), (1, .int x1)] → fX1_passDay_30 x1 s_large s_dayNumber = some out → W p l e ({ frames := 3, cells := 0, slots := 0, locals := 69 }) s m args below meth c H locs 0 0 Q (F0 m 30 ls []) := by
    intro x1 s_large s_dayNumber H locs ls hP hD hS hl hf
    refine lv_aload_n hx hb dX1_passDay_30 rfl (lv_at hl 0 rfl) ?_
    refine lv_dup hx hb dX1_passDay_31 rfl ?_
    refine va_get (D := gD G) (ci := 1) (v := .int s_dayNumber) (C := RX1) (T := TX1) (N := 7) hx hb hts hi_X1 hown hK.1 hP 0 rfl rfl 6 (by decide) kl_31 (fun _ h9 => h9) rfl dX1_passDay_32 ?_
    refine lv_iconst (v := 1) hx hb dX1_passDay_35 (by decide) ?_
    refine lv_iadd hx hb dX1_passDay_36 ?_
    refine va_put (D := gD G) (ci := 1) (v := .int (s_dayNumber + 1)) (ty := .int) (C := RX1) (T := TX1) (N := 7) hx hb hts hi_X1 tyX1 tyX1_ok nmX1 hown hK.1 hP hD hS 0 rfl rfl 6 (by decide) kl_31 (fun _ h9 => h9) rfl (tyX1_ok 6 (by decide)) rfl rfl (Nat.le_of_ble_eq_true rfl) dX1_passDay_37 (fun H locs hP hD hS => ?_)
    have hP : va_P (gD G) vwCl [(h0, stE s_people s_kinds s_deeds s_feeding s_large s_dead (s_dayNumber + 1))] H := hP
    have hD : va_D A [(h0, stE s_people s_kinds s_deeds s_feeding s_large s_dead (s_dayNumber + 1))] := hD
    refine lv_iload_n hx hb dX1_passDay_40 rfl (lv_at hl 1 rfl) ?_
    have hv := Option.some.inj hf
    exact hret _ _ _ _ _ (by rw [← hv]; exact hP) hS (by rw [← hv]) dX1_passDay_41
  refine lv_aload_n hx hb dX1_passDay_0 rfl (lv_at hl 0 rfl) ?_
  refine lv_aload_n hx hb dX1_passDay_1 rfl (lv_at hl 0 rfl) ?_
  refine va_get (D := gD G) (ci := 1) (v := .int s_large) (C := RX1) (T := TX1) (N := 7) hx hb hts hi_X1 hown hK.1 hP 0 rfl rfl 4 (by decide) kl_25 (fun _ h9 => h9) rfl dX1_passDay_2 ?_
  obtain ⟨o1, hc2, hf⟩ := bindS hf
  refine ro_i (va_runV (C := RX1) (As := [.int s_large]) (rest := []) ⟨hx, hb, hml, hown, hts⟩ (ctX1_mayBeTaken l G h0 s_people s_kinds s_deeds s_feeding s_large s_dead s_dayNumber s_large o1 hc2) (cwV 1 hts gX1_passDay_X1_mayBeTaken rfl rfl rfl (by decide +kernel) ⟨Nat.le_of_ble_eq_true rfl, Nat.le_of_ble_eq_true rfl⟩) (preR_V (q0 := 0) (ci := 1) (hP.sub (ws' := [(h0, stE s_people s_kinds s_deeds s_feeding s_large s_dead s_dayNumber)]) [0] rfl) hK rfl rfl) rfl rfl hl.1 rfl (lv_room (Nat.le_of_ble_eq_true rfl)) dX1_passDay_5 ⟨Nat.zero_le _, Nat.zero_le _⟩) hS hP (fun H locs hP hS => ?_)
  obtain ⟨o3, hc4, hf⟩ := bindS hf
  refine ro_i (va_runSN (As := [.int o1]) (rest := []) ⟨hx, hb, hml, hown, hts⟩ (ctX3_leastOf l G o1 o3 hc4) ⟨va_cnB 1 hts gX1_passDay_X3_leastOf_n65 rfl rfl rfl (nm_X1_65 hK.2) (hts (.initialized RX3) (by decide +kernel)) (by decide +kernel) ⟨Nat.le_of_ble_eq_true rfl, Nat.le_of_ble_eq_true rfl⟩, hts (.static yX3_leastOf) (by decide +kernel), trivial⟩ (preR_S (hP.sub (ws' := []) [] rfl) hK) rfl rfl hl.1 rfl (lv_room (Nat.le_of_ble_eq_true rfl)) dX1_passDay_8 ⟨Nat.zero_le _, Nat.zero_le _⟩) hS hP (fun H locs hP hS => ?_)
  refine lv_istore_n (lv' := [(1, .int o3), (0, .ref h0)]) hx hb dX1_passDay_11 rfl hl (by decide) rfl (fun ls hl => ?_)
  refine lv_iload_n hx hb dX1_passDay_12 rfl (lv_at hl 0 rfl) ?_
  refine lv_bipush (v := (-9)) hx hb dX1_passDay_13 (by decide) ?_
  refine lv_icmp_eq (tgt := 30) hx hb dX1_passDay_15 (by decide) (fun c5 => ?_) (fun c5 => ?_)
  · have hf := iteT hf c5
    exact hC30 o3 s_large s_dayNumber _ _ _ hP hD hS (lv_sub hl [1, 0] rfl) hf
  · have hf := iteF hf c5
    refine lv_aload_n hx hb dX1_passDay_18 rfl (lv_at hl 1 rfl) ?_
    refine lv_aload_n hx hb dX1_passDay_19 rfl (lv_at hl 1 rfl) ?_
    refine va_get (D := gD G) (ci := 1) (v := .int s_large) (C := RX1) (T := TX1) (N := 7) hx hb hts hi_X1 hown hK.1 hP 0 rfl rfl 4 (by decide) kl_25 (fun _ h9 => h9) rfl dX1_passDay_20 ?_
    refine lv_iload_n hx hb dX1_passDay_23 rfl (lv_at hl 0 rfl) ?_
    obtain ⟨o6, hc7, hf⟩ := bindS hf
    refine ro_i (va_runSN (As := [.int s_large, .int o3]) (rest := [.ref h0]) ⟨hx, hb, hml, hown, hts⟩ (ctX3_without l G s_large o3 o6 hc7) ⟨va_cnB 2 hts gX1_passDay_X3_without_n58 rfl rfl rfl (nm_X1_58 hK.2) (hts (.initialized RX3) (by decide +kernel)) (by decide +kernel) ⟨Nat.le_of_ble_eq_true rfl, Nat.le_of_ble_eq_true rfl⟩, hts (.static yX3_without) (by decide +kernel), trivial⟩ (preR_S (hP.sub (ws' := []) [] rfl) hK) rfl rfl hl.1 rfl (lv_room (Nat.le_of_ble_eq_true rfl)) dX1_passDay_24 ⟨Nat.zero_le _, Nat.zero_le _⟩) hS hP (fun H locs hP hS => ?_)
    refine va_put (D := gD G) (ci := 1) (v := .int o6) (ty := .int) (C := RX1) (T := TX1) (N := 7) hx hb hts hi_X1 tyX1 tyX1_ok nmX1 hown hK.1 hP hD hS 0 rfl rfl 4 (by decide) kl_25 (fun _ h9 => h9) rfl (tyX1_ok 4 (by decide)) rfl rfl (Nat.le_of_ble_eq_true rfl) dX1_passDay_27 (fun H locs hP hD hS => ?_)
    have hP : va_P (gD G) vwCl [(h0, stE s_people s_kinds s_deeds s_feeding o6 s_dead s_dayNumber)] H := hP
    have hD : va_D A [(h0, stE s_people s_kinds s_deeds s_feeding o6 s_dead s_dayNumber)] := hD
    exact hC30 o3 o6 s_dayNumber _ _ _ hP hD hS (lv_sub hl [1, 0] rfl) hf
def fX1_hiddenOnes_4 (s_people : Int32) (s_kinds : Int32) (s_feeding : Int64) (s_large : Int32) : Nat → Int32 → Int32 → Option (Int32)
  | 0, _, _ => none
  | n + 1, x1, x2 => (if s_people ≤ x2 then some x1 else (fX1_isHidden s_kinds s_feeding x2 s_large).bind fun o2 => ((if o2 = 0 then (fX1_hiddenOnes_4 s_people s_kinds s_feeding s_large n x1 (x2 + 1)) else (fX3_bit x2).bind fun o5 => ((fX1_hiddenOnes_4 s_people s_kinds s_feeding s_large n (x1 ||| o5) (x2 + 1))))))
def fX1_hiddenOnes (s_people : Int32) (s_kinds : Int32) (s_feeding : Int64) (s_large : Int32) : Option (Int32) :=
  (fX1_hiddenOnes_4 s_people s_kinds s_feeding s_large 9 0 0)
set_option maxHeartbeats 4000000 in
set_option maxRecDepth 100000 in
theorem ctX1_hiddenOnes (l : Launch) (G : GG) (h0 : Nat) (s_people : Int32) (s_kinds : Int32) (s_deeds : Int32) (s_feeding : Int64) (s_large : Int32) (s_dead : Int32) (s_dayNumber : Int32) (out : Int32) (hf : fX1_hiddenOnes s_people s_kinds s_feeding s_large = some out) : Met l yX1_hiddenOnes wsX1_hiddenOnes ({ frames := 2, cells := 0, slots := 0, locals := 44 }) (PcR G [.ref h0] [(h0, stE s_people s_kinds s_deeds s_feeding s_large s_dead s_dayNumber)]) (QiR out) 0 0 noA := by
  refine mk_Ri (cc := cX1_hiddenOnes) (maxL := 3) (by decide) rfl (Nat.le_of_ble_eq_true rfl) ?_
  intro p e s m args below meth c Q ls S hP hK hl hret
  obtain ⟨hx, hb, hml, hown, hts⟩ := S
  have hown : s.vm.findClass RX1 = some m.cls := hown
  have kl_9 := hts (.fieldLink RX1 9 "ArrestOrder$Standing" "people" "I") (by decide +kernel)
  have hi_X1 : ∀ w ∈ wsX10, w ∈ wsX1_hiddenOnes := fun _ h => List.mem_cons_of_mem _ (List.mem_append_right _ h)
  have kl_25 := hts (.fieldLink RX1 25 "ArrestOrder$Standing" "large" "I") (by decide +kernel)
  have hS : va_S noA s.heap s.heap [] := va_S.rf
  have hl : lv_has ls 3 [(0, .ref h0)] := hl
  have hC4 : ∀ (n : Nat) (x1 : Int32) (x2 : Int32) (H : Heap) (locs : List Loc) (ls : Array Slot), va_P (gD G) vwCl [(h0, stE s_people s_kinds s_deeds s_feeding s_large s_dead s_dayNumber)] H → va_S noA s.heap H locs → lv_has ls 3 [(0, .ref h0), (1, .int x1), (2, .int x2)] → fX1_hiddenOnes_4 s_people s_kinds s_feeding s_large n x1 x2 = some out → W p l e ({ frames := 2, cells := 0, slots := 0, locals := 44 }) s m args below meth c H locs 0 0 Q (F0 m 4 ls []) := by
    intro n4
    induction n4 with
    | zero => intro x1 x2 H locs ls hP hS hl hf; exact absurd (show none = some out from hf) (fun z => by cases z)
    | succ n4 ih4 =>
      intro x1 x2 H locs ls hP hS hl hf
      refine lv_iload_n hx hb dX1_hiddenOnes_4 rfl (lv_at hl 2 rfl) ?_
      refine lv_aload_n hx hb dX1_hiddenOnes_5 rfl (lv_at hl 0 rfl) ?_
      refine va_get (D := gD G) (ci := 1) (v := .int s_people) (C := RX1) (T := TX1) (N := 7) hx hb hts hi_X1 hown hK.1 hP 0 rfl rfl 0 (by decide) kl_9 (fun _ h9 => h9) rfl dX1_hiddenOnes_6 ?_
      refine lv_icmp_ge (tgt := 37) hx hb dX1_hiddenOnes_9 (by decide) (fun c1 => ?_) (fun c1 => ?_)
      · have hf := iteT hf c1
        refine lv_iload_n hx hb dX1_hiddenOnes_37 rfl (lv_at hl 1 rfl) ?_
        have hv := Option.some.inj hf
        exact hret _ _ _ _ _ hS hv dX1_hiddenOnes_38
      · have hf := iteF hf c1
        refine lv_aload_n hx hb dX1_hiddenOnes_12 rfl (lv_at hl 0 rfl) ?_
        refine lv_iload_n hx hb dX1_hiddenOnes_13 rfl (lv_at hl 2 rfl) ?_
        refine lv_aload_n hx hb dX1_hiddenOnes_14 rfl (lv_at hl 0 rfl) ?_
        refine va_get (D := gD G) (ci := 1) (v := .int s_large) (C := RX1) (T := TX1) (N := 7) hx hb hts hi_X1 hown hK.1 hP 0 rfl rfl 4 (by decide) kl_25 (fun _ h9 => h9) rfl dX1_hiddenOnes_15 ?_
        obtain ⟨o2, hc3, hf⟩ := bindS hf
        refine ro_i (va_runV (C := RX1) (As := [.int x2, .int s_large]) (rest := []) ⟨hx, hb, hml, hown, hts⟩ (ctX1_isHidden l G h0 s_people s_kinds s_deeds s_feeding s_large s_dead s_dayNumber x2 s_large o2 hc3) (cwV 2 hts gX1_hiddenOnes_X1_isHidden rfl rfl rfl (by decide +kernel) ⟨Nat.le_of_ble_eq_true rfl, Nat.le_of_ble_eq_true rfl⟩) (preR_V (q0 := 0) (ci := 1) (hP.sub (ws' := [(h0, stE s_people s_kinds s_deeds s_feeding s_large s_dead s_dayNumber)]) [0] rfl) hK rfl rfl) rfl rfl hl.1 rfl (lv_room (Nat.le_of_ble_eq_true rfl)) dX1_hiddenOnes_18 ⟨Nat.zero_le _, Nat.zero_le _⟩) hS hP (fun H locs hP hS => ?_)
        refine lv_if_eq (tgt := 31) hx hb dX1_hiddenOnes_21 (by decide) (fun c4 => ?_) (fun c4 => ?_)
        · have hf := iteT hf c4
          refine lv_iinc (v := (x2 + 1)) (lv' := [(2, .int (x2 + 1)), (0, .ref h0), (1, .int x1)]) hx hb dX1_hiddenOnes_31 hl (k := 2) rfl rfl (by decide) rfl (fun ls hl => ?_)
          refine lv_goto (tgt := 4) hx hb dX1_hiddenOnes_34 (by decide) ?_
          exact ih4 x1 (x2 + 1) _ _ _ hP hS (lv_sub hl [1, 2, 0] rfl) hf
        · have hf := iteF hf c4
          refine lv_iload_n hx hb dX1_hiddenOnes_24 rfl (lv_at hl 1 rfl) ?_
          refine lv_iload_n hx hb dX1_hiddenOnes_25 rfl (lv_at hl 2 rfl) ?_
          obtain ⟨o5, hc6, hf⟩ := bindS hf
          refine ro_i (va_runSN (As := [.int x2]) (rest := [.int x1]) ⟨hx, hb, hml, hown, hts⟩ (ctX3_bit l G x2 o5 hc6) ⟨va_cnB 1 hts gX1_hiddenOnes_X3_bit_n34 rfl rfl rfl (nm_X1_34 hK.2) (hts (.initialized RX3) (by decide +kernel)) (by decide +kernel) ⟨Nat.le_of_ble_eq_true rfl, Nat.le_of_ble_eq_true rfl⟩, hts (.static yX3_bit) (by decide +kernel), trivial⟩ (preR_S (hP.sub (ws' := []) [] rfl) hK) rfl rfl hl.1 rfl (lv_room (Nat.le_of_ble_eq_true rfl)) dX1_hiddenOnes_26 ⟨Nat.zero_le _, Nat.zero_le _⟩) hS hP (fun H locs hP hS => ?_)
          refine lv_ior hx hb dX1_hiddenOnes_29 ?_
          refine lv_istore_n (lv' := [(1, .int (x1 ||| o5)), (0, .ref h0), (2, .int x2)]) hx hb dX1_hiddenOnes_30 rfl hl (by decide) rfl (fun ls hl => ?_)
          refine lv_iinc (v := (x2 + 1)) (lv' := [(2, .int (x2 + 1)), (1, .int (x1 ||| o5)), (0, .ref h0)]) hx hb dX1_hiddenOnes_31 hl (k := 2) rfl rfl (by decide) rfl (fun ls hl => ?_)
          refine lv_goto (tgt := 4) hx hb dX1_hiddenOnes_34 (by decide) ?_
          exact ih4 (x1 ||| o5) (x2 + 1) _ _ _ hP hS (lv_sub hl [2, 1, 0] rfl) hf
  refine lv_iconst (v := 0) hx hb dX1_hiddenOnes_0 (by decide) ?_
  refine lv_istore_n (lv' := [(1, .int 0), (0, .ref h0)]) hx hb dX1_hiddenOnes_1 rfl hl (by decide) rfl (fun ls hl => ?_)
  refine lv_iconst (v := 0) hx hb dX1_hiddenOnes_2 (by decide) ?_
  refine lv_istore_n (lv' := [(2, .int 0), (1, .int 0), (0, .ref h0)]) hx hb dX1_hiddenOnes_3 rfl hl (by decide) rfl (fun ls hl => ?_)
  exact hC4 9 0 0 _ _ _ hP hS (lv_sub hl [2, 1, 0] rfl) hf
def fX1_fallRow_9 (s_people : Int32) (s_kinds : Int32) (s_deeds : Int32) (s_feeding : Int64) : Nat → Int32 → Int32 → Int32 → Option (Int32)
  | 0, _, _, _ => none
  | n + 1, x1, x2, x3 => (if s_people ≤ x3 then some x1 else (fX1_mayBeTaken s_people s_kinds s_deeds s_feeding x2).bind fun o2 => ((fX3_leastOf o2).bind fun o4 => ((if o4 = (-9) then some x1 else (fX3_without x2 o4).bind fun o7 => ((fX1_fallRow_9 s_people s_kinds s_deeds s_feeding n (((10 * x1) + o4) + 1) o7 (x3 + 1)))))))
def fX1_fallRow (s_people : Int32) (s_kinds : Int32) (s_deeds : Int32) (s_feeding : Int64) (s_large : Int32) : Option (Int32) :=
  (fX1_fallRow_9 s_people s_kinds s_deeds s_feeding 9 0 s_large 0)
set_option maxHeartbeats 4000000 in
set_option maxRecDepth 100000 in
theorem ctX1_fallRow (l : Launch) (G : GG) (h0 : Nat) (s_people : Int32) (s_kinds : Int32) (s_deeds : Int32) (s_feeding : Int64) (s_large : Int32) (s_dead : Int32) (s_dayNumber : Int32) (out : Int32) (hf : fX1_fallRow s_people s_kinds s_deeds s_feeding s_large = some out) : Met l yX1_fallRow wsX1_fallRow ({ frames := 3, cells := 0, slots := 0, locals := 69 }) (PcR G [.ref h0] [(h0, stE s_people s_kinds s_deeds s_feeding s_large s_dead s_dayNumber)]) (QiR out) 0 0 noA := by
  refine mk_Ri (cc := cX1_fallRow) (maxL := 5) (by decide) rfl (Nat.le_of_ble_eq_true rfl) ?_
  intro p e s m args below meth c Q ls S hP hK hl hret
  obtain ⟨hx, hb, hml, hown, hts⟩ := S
  have hown : s.vm.findClass RX1 = some m.cls := hown
  have kl_25 := hts (.fieldLink RX1 25 "ArrestOrder$Standing" "large" "I") (by decide +kernel)
  have hi_X1 : ∀ w ∈ wsX10, w ∈ wsX1_fallRow := fun _ h => List.mem_cons_of_mem _ (List.mem_append_right _ h)
  have kl_9 := hts (.fieldLink RX1 9 "ArrestOrder$Standing" "people" "I") (by decide +kernel)
  have hS : va_S noA s.heap s.heap [] := va_S.rf
  have hl : lv_has ls 5 [(0, .ref h0)] := hl
  have hC9 : ∀ (n : Nat) (x1 : Int32) (x2 : Int32) (x3 : Int32) (H : Heap) (locs : List Loc) (ls : Array Slot), va_P (gD G) vwCl [(h0, stE s_people s_kinds s_deeds s_feeding s_large s_dead s_dayNumber)] H → va_S noA s.heap H locs → lv_has ls 5 [(0, .ref h0), (1, .int x1), (2, .int x2), (3, .int x3)] → fX1_fallRow_9 s_people s_kinds s_deeds s_feeding n x1 x2 x3 = some out → W p l e ({ frames := 3, cells := 0, slots := 0, locals := 69 }) s m args below meth c H locs 0 0 Q (F0 m 9 ls []) := by
    intro n9
    induction n9 with
    | zero => intro x1 x2 x3 H locs ls hP hS hl hf; exact absurd (show none = some out from hf) (fun z => by cases z)
    | succ n9 ih9 =>
      intro x1 x2 x3 H locs ls hP hS hl hf
      refine lv_iload_n hx hb dX1_fallRow_9 rfl (lv_at hl 3 rfl) ?_
      refine lv_aload_n hx hb dX1_fallRow_10 rfl (lv_at hl 0 rfl) ?_
      refine va_get (D := gD G) (ci := 1) (v := .int s_people) (C := RX1) (T := TX1) (N := 7) hx hb hts hi_X1 hown hK.1 hP 0 rfl rfl 0 (by decide) kl_9 (fun _ h9 => h9) rfl dX1_fallRow_11 ?_
      refine lv_icmp_ge (tgt := 59) hx hb dX1_fallRow_14 (by decide) (fun c1 => ?_) (fun c1 => ?_)
      · have hf := iteT hf c1
        refine lv_iload_n hx hb dX1_fallRow_59 rfl (lv_at hl 1 rfl) ?_
        have hv := Option.some.inj hf
        exact hret _ _ _ _ _ hS hv dX1_fallRow_60
      · have hf := iteF hf c1
        refine lv_aload_n hx hb dX1_fallRow_17 rfl (lv_at hl 0 rfl) ?_
        refine lv_iload_n hx hb dX1_fallRow_18 rfl (lv_at hl 2 rfl) ?_
        obtain ⟨o2, hc3, hf⟩ := bindS hf
        refine ro_i (va_runV (C := RX1) (As := [.int x2]) (rest := []) ⟨hx, hb, hml, hown, hts⟩ (ctX1_mayBeTaken l G h0 s_people s_kinds s_deeds s_feeding s_large s_dead s_dayNumber x2 o2 hc3) (cwV 1 hts gX1_fallRow_X1_mayBeTaken rfl rfl rfl (by decide +kernel) ⟨Nat.le_of_ble_eq_true rfl, Nat.le_of_ble_eq_true rfl⟩) (preR_V (q0 := 0) (ci := 1) (hP.sub (ws' := [(h0, stE s_people s_kinds s_deeds s_feeding s_large s_dead s_dayNumber)]) [0] rfl) hK rfl rfl) rfl rfl hl.1 rfl (lv_room (Nat.le_of_ble_eq_true rfl)) dX1_fallRow_19 ⟨Nat.zero_le _, Nat.zero_le _⟩) hS hP (fun H locs hP hS => ?_)
        obtain ⟨o4, hc5, hf⟩ := bindS hf
        refine ro_i (va_runSN (As := [.int o2]) (rest := []) ⟨hx, hb, hml, hown, hts⟩ (ctX3_leastOf l G o2 o4 hc5) ⟨va_cnB 1 hts gX1_fallRow_X3_leastOf_n65 rfl rfl rfl (nm_X1_65 hK.2) (hts (.initialized RX3) (by decide +kernel)) (by decide +kernel) ⟨Nat.le_of_ble_eq_true rfl, Nat.le_of_ble_eq_true rfl⟩, hts (.static yX3_leastOf) (by decide +kernel), trivial⟩ (preR_S (hP.sub (ws' := []) [] rfl) hK) rfl rfl hl.1 rfl (lv_room (Nat.le_of_ble_eq_true rfl)) dX1_fallRow_22 ⟨Nat.zero_le _, Nat.zero_le _⟩) hS hP (fun H locs hP hS => ?_)
        refine lv_istore (lv' := [(4, .int o4), (0, .ref h0), (1, .int x1), (2, .int x2), (3, .int x3)]) hx hb dX1_fallRow_25 hl (by decide) rfl (fun ls hl => ?_)
        refine lv_iload hx hb dX1_fallRow_27 (lv_at hl 0 rfl) ?_
        refine lv_bipush (v := (-9)) hx hb dX1_fallRow_29 (by decide) ?_
        refine lv_icmp_ne (tgt := 36) hx hb dX1_fallRow_31 (by decide) (fun c6 => ?_) (fun c6 => ?_)
        · have hf := iteF hf c6
          refine lv_bipush (v := 10) hx hb dX1_fallRow_36 (by decide) ?_
          refine lv_iload_n hx hb dX1_fallRow_38 rfl (lv_at hl 2 rfl) ?_
          refine lv_imul hx hb dX1_fallRow_39 ?_
          refine lv_iload hx hb dX1_fallRow_40 (lv_at hl 0 rfl) ?_
          refine lv_iadd hx hb dX1_fallRow_42 ?_
          refine lv_iconst (v := 1) hx hb dX1_fallRow_43 (by decide) ?_
          refine lv_iadd hx hb dX1_fallRow_44 ?_
          refine lv_istore_n (lv' := [(1, .int (((10 * x1) + o4) + 1)), (4, .int o4), (0, .ref h0), (2, .int x2), (3, .int x3)]) hx hb dX1_fallRow_45 rfl hl (by decide) rfl (fun ls hl => ?_)
          refine lv_iload_n hx hb dX1_fallRow_46 rfl (lv_at hl 3 rfl) ?_
          refine lv_iload hx hb dX1_fallRow_47 (lv_at hl 1 rfl) ?_
          obtain ⟨o7, hc8, hf⟩ := bindS hf
          refine ro_i (va_runSN (As := [.int x2, .int o4]) (rest := []) ⟨hx, hb, hml, hown, hts⟩ (ctX3_without l G x2 o4 o7 hc8) ⟨va_cnB 2 hts gX1_fallRow_X3_without_n58 rfl rfl rfl (nm_X1_58 hK.2) (hts (.initialized RX3) (by decide +kernel)) (by decide +kernel) ⟨Nat.le_of_ble_eq_true rfl, Nat.le_of_ble_eq_true rfl⟩, hts (.static yX3_without) (by decide +kernel), trivial⟩ (preR_S (hP.sub (ws' := []) [] rfl) hK) rfl rfl hl.1 rfl (lv_room (Nat.le_of_ble_eq_true rfl)) dX1_fallRow_49 ⟨Nat.zero_le _, Nat.zero_le _⟩) hS hP (fun H locs hP hS => ?_)
          refine lv_istore_n (lv' := [(2, .int o7), (1, .int (((10 * x1) + o4) + 1)), (4, .int o4), (0, .ref h0), (3, .int x3)]) hx hb dX1_fallRow_52 rfl hl (by decide) rfl (fun ls hl => ?_)
          refine lv_iinc (v := (x3 + 1)) (lv' := [(3, .int (x3 + 1)), (2, .int o7), (1, .int (((10 * x1) + o4) + 1)), (4, .int o4), (0, .ref h0)]) hx hb dX1_fallRow_53 hl (k := 4) rfl rfl (by decide) rfl (fun ls hl => ?_)
          refine lv_goto (tgt := 9) hx hb dX1_fallRow_56 (by decide) ?_
          exact ih9 (((10 * x1) + o4) + 1) o7 (x3 + 1) _ _ _ hP hS (lv_sub hl [4, 2, 1, 0] rfl) hf
        · have hf := iteT hf c6
          refine lv_iload_n hx hb dX1_fallRow_34 rfl (lv_at hl 2 rfl) ?_
          have hv := Option.some.inj hf
          exact hret _ _ _ _ _ hS hv dX1_fallRow_35
  refine lv_iconst (v := 0) hx hb dX1_fallRow_0 (by decide) ?_
  refine lv_istore_n (lv' := [(1, .int 0), (0, .ref h0)]) hx hb dX1_fallRow_1 rfl hl (by decide) rfl (fun ls hl => ?_)
  refine lv_aload_n hx hb dX1_fallRow_2 rfl (lv_at hl 1 rfl) ?_
  refine va_get (D := gD G) (ci := 1) (v := .int s_large) (C := RX1) (T := TX1) (N := 7) hx hb hts hi_X1 hown hK.1 hP 0 rfl rfl 4 (by decide) kl_25 (fun _ h9 => h9) rfl dX1_fallRow_3 ?_
  refine lv_istore_n (lv' := [(2, .int s_large), (1, .int 0), (0, .ref h0)]) hx hb dX1_fallRow_6 rfl hl (by decide) rfl (fun ls hl => ?_)
  refine lv_iconst (v := 0) hx hb dX1_fallRow_7 (by decide) ?_
  refine lv_istore_n (lv' := [(3, .int 0), (2, .int s_large), (1, .int 0), (0, .ref h0)]) hx hb dX1_fallRow_8 rfl hl (by decide) rfl (fun ls hl => ?_)
  exact hC9 9 0 s_large 0 _ _ _ hP hS (lv_sub hl [3, 2, 1, 0] rfl) hf
def fX1_placeOf_38 (x3 : Int32) (x4 : Int32) : Option (Int32) :=
  (if x4 = (-9) then some (-9) else some x3)
def fX1_placeOf_7 (s_people : Int32) (s_kinds : Int32) (s_deeds : Int32) (s_feeding : Int64) (a1 : Int32) : Nat → Int32 → Int32 → Option (Int32)
  | 0, _, _ => none
  | n + 1, x2, x3 => (if s_people ≤ x3 then some (-9) else (fX1_mayBeTaken s_people s_kinds s_deeds s_feeding x2).bind fun o2 => ((fX3_leastOf o2).bind fun o4 => ((if o4 = (-9) then (fX1_placeOf_38 x3 o4) else (if o4 = a1 then (fX1_placeOf_38 x3 o4) else (fX3_without x2 o4).bind fun o9 => ((fX1_placeOf_7 s_people s_kinds s_deeds s_feeding a1 n o9 (x3 + 1))))))))
def fX1_placeOf (s_people : Int32) (s_kinds : Int32) (s_deeds : Int32) (s_feeding : Int64) (s_large : Int32) (a1 : Int32) : Option (Int32) :=
  (fX1_placeOf_7 s_people s_kinds s_deeds s_feeding a1 9 s_large 0)
set_option maxHeartbeats 4000000 in
set_option maxRecDepth 100000 in
theorem ctX1_placeOf (l : Launch) (G : GG) (h0 : Nat) (s_people : Int32) (s_kinds : Int32) (s_deeds : Int32) (s_feeding : Int64) (s_large : Int32) (s_dead : Int32) (s_dayNumber : Int32) (a1 : Int32) (out : Int32) (hf : fX1_placeOf s_people s_kinds s_deeds s_feeding s_large a1 = some out) : Met l yX1_placeOf wsX1_placeOf ({ frames := 3, cells := 0, slots := 0, locals := 69 }) (PcR G [.ref h0, .int a1] [(h0, stE s_people s_kinds s_deeds s_feeding s_large s_dead s_dayNumber)]) (QiR out) 0 0 noA := by
  refine mk_Ri (cc := cX1_placeOf) (maxL := 5) (by decide) rfl (Nat.le_of_ble_eq_true rfl) ?_
  intro p e s m args below meth c Q ls S hP hK hl hret
  obtain ⟨hx, hb, hml, hown, hts⟩ := S
  have hown : s.vm.findClass RX1 = some m.cls := hown
  have kl_25 := hts (.fieldLink RX1 25 "ArrestOrder$Standing" "large" "I") (by decide +kernel)
  have hi_X1 : ∀ w ∈ wsX10, w ∈ wsX1_placeOf := fun _ h => List.mem_cons_of_mem _ (List.mem_append_right _ h)
  have kl_9 := hts (.fieldLink RX1 9 "ArrestOrder$Standing" "people" "I") (by decide +kernel)
  have hS : va_S noA s.heap s.heap [] := va_S.rf
  have hl : lv_has ls 5 [(0, .ref h0), (1, .int a1)] := hl
  have hC38 : ∀ (x3 : Int32) (x4 : Int32) (H : Heap) (locs : List Loc) (ls : Array Slot), va_P (gD G) vwCl [(h0, stE s_people s_kinds s_deeds s_feeding s_large s_dead s_dayNumber)] H → va_S noA s.heap H locs → lv_has ls 5 [(3, .int x3), (4, .int x4)] → fX1_placeOf_38 x3 x4 = some out → W p l e ({ frames := 3, cells := 0, slots := 0, locals := 69 }) s m args below meth c H locs 0 0 Q (F0 m 38 ls []) := by
    intro x3 x4 H locs ls hP hS hl hf
    refine lv_iload hx hb dX1_placeOf_38 (lv_at hl 1 rfl) ?_
    refine lv_bipush (v := (-9)) hx hb dX1_placeOf_40 (by decide) ?_
    refine lv_icmp_ne (tgt := 50) hx hb dX1_placeOf_42 (by decide) (fun c7 => ?_) (fun c7 => ?_)
    · have hf := iteF hf c7
      refine lv_iload_n hx hb dX1_placeOf_50 rfl (lv_at hl 0 rfl) ?_
      have hv := Option.some.inj hf
      exact hret _ _ _ _ _ hS hv dX1_placeOf_51
    · have hf := iteT hf c7
      refine lv_bipush (v := (-9)) hx hb dX1_placeOf_45 (by decide) ?_
      refine lv_goto (tgt := 51) hx hb dX1_placeOf_47 (by decide) ?_
      have hv := Option.some.inj hf
      exact hret _ _ _ _ _ hS hv dX1_placeOf_51
  have hC7 : ∀ (n : Nat) (x2 : Int32) (x3 : Int32) (H : Heap) (locs : List Loc) (ls : Array Slot), va_P (gD G) vwCl [(h0, stE s_people s_kinds s_deeds s_feeding s_large s_dead s_dayNumber)] H → va_S noA s.heap H locs → lv_has ls 5 [(0, .ref h0), (1, .int a1), (2, .int x2), (3, .int x3)] → fX1_placeOf_7 s_people s_kinds s_deeds s_feeding a1 n x2 x3 = some out → W p l e ({ frames := 3, cells := 0, slots := 0, locals := 69 }) s m args below meth c H locs 0 0 Q (F0 m 7 ls []) := by
    intro n7
    induction n7 with
    | zero => intro x2 x3 H locs ls hP hS hl hf; exact absurd (show none = some out from hf) (fun z => by cases z)
    | succ n7 ih7 =>
      intro x2 x3 H locs ls hP hS hl hf
      refine lv_iload_n hx hb dX1_placeOf_7 rfl (lv_at hl 3 rfl) ?_
      refine lv_aload_n hx hb dX1_placeOf_8 rfl (lv_at hl 0 rfl) ?_
      refine va_get (D := gD G) (ci := 1) (v := .int s_people) (C := RX1) (T := TX1) (N := 7) hx hb hts hi_X1 hown hK.1 hP 0 rfl rfl 0 (by decide) kl_9 (fun _ h9 => h9) rfl dX1_placeOf_9 ?_
      refine lv_icmp_ge (tgt := 65) hx hb dX1_placeOf_12 (by decide) (fun c1 => ?_) (fun c1 => ?_)
      · have hf := iteT hf c1
        refine lv_bipush (v := (-9)) hx hb dX1_placeOf_65 (by decide) ?_
        have hv := Option.some.inj hf
        exact hret _ _ _ _ _ hS hv dX1_placeOf_67
      · have hf := iteF hf c1
        refine lv_aload_n hx hb dX1_placeOf_15 rfl (lv_at hl 0 rfl) ?_
        refine lv_iload_n hx hb dX1_placeOf_16 rfl (lv_at hl 2 rfl) ?_
        obtain ⟨o2, hc3, hf⟩ := bindS hf
        refine ro_i (va_runV (C := RX1) (As := [.int x2]) (rest := []) ⟨hx, hb, hml, hown, hts⟩ (ctX1_mayBeTaken l G h0 s_people s_kinds s_deeds s_feeding s_large s_dead s_dayNumber x2 o2 hc3) (cwV 1 hts gX1_placeOf_X1_mayBeTaken rfl rfl rfl (by decide +kernel) ⟨Nat.le_of_ble_eq_true rfl, Nat.le_of_ble_eq_true rfl⟩) (preR_V (q0 := 0) (ci := 1) (hP.sub (ws' := [(h0, stE s_people s_kinds s_deeds s_feeding s_large s_dead s_dayNumber)]) [0] rfl) hK rfl rfl) rfl rfl hl.1 rfl (lv_room (Nat.le_of_ble_eq_true rfl)) dX1_placeOf_17 ⟨Nat.zero_le _, Nat.zero_le _⟩) hS hP (fun H locs hP hS => ?_)
        obtain ⟨o4, hc5, hf⟩ := bindS hf
        refine ro_i (va_runSN (As := [.int o2]) (rest := []) ⟨hx, hb, hml, hown, hts⟩ (ctX3_leastOf l G o2 o4 hc5) ⟨va_cnB 1 hts gX1_placeOf_X3_leastOf_n65 rfl rfl rfl (nm_X1_65 hK.2) (hts (.initialized RX3) (by decide +kernel)) (by decide +kernel) ⟨Nat.le_of_ble_eq_true rfl, Nat.le_of_ble_eq_true rfl⟩, hts (.static yX3_leastOf) (by decide +kernel), trivial⟩ (preR_S (hP.sub (ws' := []) [] rfl) hK) rfl rfl hl.1 rfl (lv_room (Nat.le_of_ble_eq_true rfl)) dX1_placeOf_20 ⟨Nat.zero_le _, Nat.zero_le _⟩) hS hP (fun H locs hP hS => ?_)
        refine lv_istore (lv' := [(4, .int o4), (0, .ref h0), (1, .int a1), (2, .int x2), (3, .int x3)]) hx hb dX1_placeOf_23 hl (by decide) rfl (fun ls hl => ?_)
        refine lv_iload hx hb dX1_placeOf_25 (lv_at hl 0 rfl) ?_
        refine lv_bipush (v := (-9)) hx hb dX1_placeOf_27 (by decide) ?_
        refine lv_icmp_eq (tgt := 38) hx hb dX1_placeOf_29 (by decide) (fun c6 => ?_) (fun c6 => ?_)
        · have hf := iteT hf c6
          exact hC38 x3 o4 _ _ _ hP hS (lv_sub hl [4, 0] rfl) hf
        · have hf := iteF hf c6
          refine lv_iload hx hb dX1_placeOf_32 (lv_at hl 0 rfl) ?_
          refine lv_iload_n hx hb dX1_placeOf_34 rfl (lv_at hl 2 rfl) ?_
          refine lv_icmp_ne (tgt := 52) hx hb dX1_placeOf_35 (by decide) (fun c8 => ?_) (fun c8 => ?_)
          · have hf := iteF hf c8
            refine lv_iload_n hx hb dX1_placeOf_52 rfl (lv_at hl 3 rfl) ?_
            refine lv_iload hx hb dX1_placeOf_53 (lv_at hl 0 rfl) ?_
            obtain ⟨o9, hc10, hf⟩ := bindS hf
            refine ro_i (va_runSN (As := [.int x2, .int o4]) (rest := []) ⟨hx, hb, hml, hown, hts⟩ (ctX3_without l G x2 o4 o9 hc10) ⟨va_cnB 2 hts gX1_placeOf_X3_without_n58 rfl rfl rfl (nm_X1_58 hK.2) (hts (.initialized RX3) (by decide +kernel)) (by decide +kernel) ⟨Nat.le_of_ble_eq_true rfl, Nat.le_of_ble_eq_true rfl⟩, hts (.static yX3_without) (by decide +kernel), trivial⟩ (preR_S (hP.sub (ws' := []) [] rfl) hK) rfl rfl hl.1 rfl (lv_room (Nat.le_of_ble_eq_true rfl)) dX1_placeOf_55 ⟨Nat.zero_le _, Nat.zero_le _⟩) hS hP (fun H locs hP hS => ?_)
            refine lv_istore_n (lv' := [(2, .int o9), (4, .int o4), (0, .ref h0), (1, .int a1), (3, .int x3)]) hx hb dX1_placeOf_58 rfl hl (by decide) rfl (fun ls hl => ?_)
            refine lv_iinc (v := (x3 + 1)) (lv' := [(3, .int (x3 + 1)), (2, .int o9), (4, .int o4), (0, .ref h0), (1, .int a1)]) hx hb dX1_placeOf_59 hl (k := 4) rfl rfl (by decide) rfl (fun ls hl => ?_)
            refine lv_goto (tgt := 7) hx hb dX1_placeOf_62 (by decide) ?_
            exact ih7 o9 (x3 + 1) _ _ _ hP hS (lv_sub hl [3, 4, 1, 0] rfl) hf
          · have hf := iteT hf c8
            exact hC38 x3 o4 _ _ _ hP hS (lv_sub hl [4, 0] rfl) hf
  refine lv_aload_n hx hb dX1_placeOf_0 rfl (lv_at hl 0 rfl) ?_
  refine va_get (D := gD G) (ci := 1) (v := .int s_large) (C := RX1) (T := TX1) (N := 7) hx hb hts hi_X1 hown hK.1 hP 0 rfl rfl 4 (by decide) kl_25 (fun _ h9 => h9) rfl dX1_placeOf_1 ?_
  refine lv_istore_n (lv' := [(2, .int s_large), (0, .ref h0), (1, .int a1)]) hx hb dX1_placeOf_4 rfl hl (by decide) rfl (fun ls hl => ?_)
  refine lv_iconst (v := 0) hx hb dX1_placeOf_5 (by decide) ?_
  refine lv_istore_n (lv' := [(3, .int 0), (2, .int s_large), (0, .ref h0), (1, .int a1)]) hx hb dX1_placeOf_6 rfl hl (by decide) rfl (fun ls hl => ?_)
  exact hC7 9 s_large 0 _ _ _ hP hS (lv_sub hl [2, 3, 1, 0] rfl) hf
def fX1_worthOf (s_people : Int32) (s_kinds : Int32) (s_deeds : Int32) (s_feeding : Int64) (s_large : Int32) (a1 : Int32) : Option (Int32) :=
  (fX1_placeOf s_people s_kinds s_deeds s_feeding s_large a1).bind fun o1 => ((if o1 = (-9) then some 9 else some o1))
set_option maxHeartbeats 4000000 in
set_option maxRecDepth 100000 in
theorem ctX1_worthOf (l : Launch) (G : GG) (h0 : Nat) (s_people : Int32) (s_kinds : Int32) (s_deeds : Int32) (s_feeding : Int64) (s_large : Int32) (s_dead : Int32) (s_dayNumber : Int32) (a1 : Int32) (out : Int32) (hf : fX1_worthOf s_people s_kinds s_deeds s_feeding s_large a1 = some out) : Met l yX1_worthOf wsX1_worthOf ({ frames := 4, cells := 0, slots := 0, locals := 93 }) (PcR G [.ref h0, .int a1] [(h0, stE s_people s_kinds s_deeds s_feeding s_large s_dead s_dayNumber)]) (QiR out) 0 0 noA := by
  refine mk_Ri (cc := cX1_worthOf) (maxL := 3) (by decide) rfl (Nat.le_of_ble_eq_true rfl) ?_
  intro p e s m args below meth c Q ls S hP hK hl hret
  obtain ⟨hx, hb, hml, hown, hts⟩ := S
  have hown : s.vm.findClass RX1 = some m.cls := hown
  have hS : va_S noA s.heap s.heap [] := va_S.rf
  have hl : lv_has ls 3 [(0, .ref h0), (1, .int a1)] := hl
  refine lv_aload_n hx hb dX1_worthOf_0 rfl (lv_at hl 0 rfl) ?_
  refine lv_iload_n hx hb dX1_worthOf_1 rfl (lv_at hl 1 rfl) ?_
  obtain ⟨o1, hc2, hf⟩ := bindS hf
  refine ro_i (va_runV (C := RX1) (As := [.int a1]) (rest := []) ⟨hx, hb, hml, hown, hts⟩ (ctX1_placeOf l G h0 s_people s_kinds s_deeds s_feeding s_large s_dead s_dayNumber a1 o1 hc2) (cwV 1 hts gX1_worthOf_X1_placeOf rfl rfl rfl (by decide +kernel) ⟨Nat.le_of_ble_eq_true rfl, Nat.le_of_ble_eq_true rfl⟩) (preR_V (q0 := 0) (ci := 1) (hP.sub (ws' := [(h0, stE s_people s_kinds s_deeds s_feeding s_large s_dead s_dayNumber)]) [0] rfl) hK rfl rfl) rfl rfl hl.1 rfl (lv_room (Nat.le_of_ble_eq_true rfl)) dX1_worthOf_2 ⟨Nat.zero_le _, Nat.zero_le _⟩) hS hP (fun H locs hP hS => ?_)
  refine lv_istore_n (lv' := [(2, .int o1), (0, .ref h0), (1, .int a1)]) hx hb dX1_worthOf_5 rfl hl (by decide) rfl (fun ls hl => ?_)
  refine lv_iload_n hx hb dX1_worthOf_6 rfl (lv_at hl 0 rfl) ?_
  refine lv_bipush (v := (-9)) hx hb dX1_worthOf_7 (by decide) ?_
  refine lv_icmp_ne (tgt := 17) hx hb dX1_worthOf_9 (by decide) (fun c3 => ?_) (fun c3 => ?_)
  · have hf := iteF hf c3
    refine lv_iload_n hx hb dX1_worthOf_17 rfl (lv_at hl 0 rfl) ?_
    have hv := Option.some.inj hf
    exact hret _ _ _ _ _ hS hv dX1_worthOf_18
  · have hf := iteT hf c3
    refine lv_bipush (v := 9) hx hb dX1_worthOf_12 (by decide) ?_
    refine lv_goto (tgt := 18) hx hb dX1_worthOf_14 (by decide) ?_
    have hv := Option.some.inj hf
    exact hret _ _ _ _ _ hS hv dX1_worthOf_18
def fX1_leftBehind_4 (s_people : Int32) (s_kinds : Int32) (s_deeds : Int32) (s_feeding : Int64) : Nat → Int32 → Int32 → Option (Int32)
  | 0, _, _ => none
  | n + 1, x2, x3 => (if s_people ≤ x3 then some x2 else (fX1_mayBeTaken s_people s_kinds s_deeds s_feeding x2).bind fun o2 => ((if o2 = 0 then some x2 else (fX1_leftBehind_4 s_people s_kinds s_deeds s_feeding n (x2 &&& (o2 ^^^ (-1))) (x3 + 1)))))
def fX1_leftBehind (s_people : Int32) (s_kinds : Int32) (s_deeds : Int32) (s_feeding : Int64) (a1 : Int32) : Option (Int32) :=
  (fX1_leftBehind_4 s_people s_kinds s_deeds s_feeding 9 a1 0)
set_option maxHeartbeats 4000000 in
set_option maxRecDepth 100000 in
theorem ctX1_leftBehind (l : Launch) (G : GG) (h0 : Nat) (s_people : Int32) (s_kinds : Int32) (s_deeds : Int32) (s_feeding : Int64) (s_large : Int32) (s_dead : Int32) (s_dayNumber : Int32) (a1 : Int32) (out : Int32) (hf : fX1_leftBehind s_people s_kinds s_deeds s_feeding a1 = some out) : Met l yX1_leftBehind wsX1_leftBehind ({ frames := 3, cells := 0, slots := 0, locals := 69 }) (PcR G [.ref h0, .int a1] [(h0, stE s_people s_kinds s_deeds s_feeding s_large s_dead s_dayNumber)]) (QiR out) 0 0 noA := by
  refine mk_Ri (cc := cX1_leftBehind) (maxL := 5) (by decide) rfl (Nat.le_of_ble_eq_true rfl) ?_
  intro p e s m args below meth c Q ls S hP hK hl hret
  obtain ⟨hx, hb, hml, hown, hts⟩ := S
  have hown : s.vm.findClass RX1 = some m.cls := hown
  have kl_9 := hts (.fieldLink RX1 9 "ArrestOrder$Standing" "people" "I") (by decide +kernel)
  have hi_X1 : ∀ w ∈ wsX10, w ∈ wsX1_leftBehind := fun _ h => List.mem_cons_of_mem _ (List.mem_append_right _ h)
  have hS : va_S noA s.heap s.heap [] := va_S.rf
  have hl : lv_has ls 5 [(0, .ref h0), (1, .int a1)] := hl
  have hC4 : ∀ (n : Nat) (x2 : Int32) (x3 : Int32) (H : Heap) (locs : List Loc) (ls : Array Slot), va_P (gD G) vwCl [(h0, stE s_people s_kinds s_deeds s_feeding s_large s_dead s_dayNumber)] H → va_S noA s.heap H locs → lv_has ls 5 [(0, .ref h0), (2, .int x2), (3, .int x3)] → fX1_leftBehind_4 s_people s_kinds s_deeds s_feeding n x2 x3 = some out → W p l e ({ frames := 3, cells := 0, slots := 0, locals := 69 }) s m args below meth c H locs 0 0 Q (F0 m 4 ls []) := by
    intro n4
    induction n4 with
    | zero => intro x2 x3 H locs ls hP hS hl hf; exact absurd (show none = some out from hf) (fun z => by cases z)
    | succ n4 ih4 =>
      intro x2 x3 H locs ls hP hS hl hf
      refine lv_iload_n hx hb dX1_leftBehind_4 rfl (lv_at hl 2 rfl) ?_
      refine lv_aload_n hx hb dX1_leftBehind_5 rfl (lv_at hl 0 rfl) ?_
      refine va_get (D := gD G) (ci := 1) (v := .int s_people) (C := RX1) (T := TX1) (N := 7) hx hb hts hi_X1 hown hK.1 hP 0 rfl rfl 0 (by decide) kl_9 (fun _ h9 => h9) rfl dX1_leftBehind_6 ?_
      refine lv_icmp_ge (tgt := 39) hx hb dX1_leftBehind_9 (by decide) (fun c1 => ?_) (fun c1 => ?_)
      · have hf := iteT hf c1
        refine lv_iload_n hx hb dX1_leftBehind_39 rfl (lv_at hl 1 rfl) ?_
        have hv := Option.some.inj hf
        exact hret _ _ _ _ _ hS hv dX1_leftBehind_40
      · have hf := iteF hf c1
        refine lv_aload_n hx hb dX1_leftBehind_12 rfl (lv_at hl 0 rfl) ?_
        refine lv_iload_n hx hb dX1_leftBehind_13 rfl (lv_at hl 1 rfl) ?_
        obtain ⟨o2, hc3, hf⟩ := bindS hf
        refine ro_i (va_runV (C := RX1) (As := [.int x2]) (rest := []) ⟨hx, hb, hml, hown, hts⟩ (ctX1_mayBeTaken l G h0 s_people s_kinds s_deeds s_feeding s_large s_dead s_dayNumber x2 o2 hc3) (cwV 1 hts gX1_leftBehind_X1_mayBeTaken rfl rfl rfl (by decide +kernel) ⟨Nat.le_of_ble_eq_true rfl, Nat.le_of_ble_eq_true rfl⟩) (preR_V (q0 := 0) (ci := 1) (hP.sub (ws' := [(h0, stE s_people s_kinds s_deeds s_feeding s_large s_dead s_dayNumber)]) [0] rfl) hK rfl rfl) rfl rfl hl.1 rfl (lv_room (Nat.le_of_ble_eq_true rfl)) dX1_leftBehind_14 ⟨Nat.zero_le _, Nat.zero_le _⟩) hS hP (fun H locs hP hS => ?_)
        refine lv_istore (lv' := [(4, .int o2), (0, .ref h0), (2, .int x2), (3, .int x3)]) hx hb dX1_leftBehind_17 hl (by decide) rfl (fun ls hl => ?_)
        refine lv_iload hx hb dX1_leftBehind_19 (lv_at hl 0 rfl) ?_
        refine lv_if_ne (tgt := 26) hx hb dX1_leftBehind_21 (by decide) (fun c4 => ?_) (fun c4 => ?_)
        · have hf := iteF hf c4
          refine lv_iload_n hx hb dX1_leftBehind_26 rfl (lv_at hl 2 rfl) ?_
          refine lv_iload hx hb dX1_leftBehind_27 (lv_at hl 0 rfl) ?_
          refine lv_iconst (v := (-1)) hx hb dX1_leftBehind_29 (by decide) ?_
          refine lv_ixor hx hb dX1_leftBehind_30 ?_
          refine lv_iand hx hb dX1_leftBehind_31 ?_
          refine lv_istore_n (lv' := [(2, .int (x2 &&& (o2 ^^^ (-1)))), (4, .int o2), (0, .ref h0), (3, .int x3)]) hx hb dX1_leftBehind_32 rfl hl (by decide) rfl (fun ls hl => ?_)
          refine lv_iinc (v := (x3 + 1)) (lv' := [(3, .int (x3 + 1)), (2, .int (x2 &&& (o2 ^^^ (-1)))), (4, .int o2), (0, .ref h0)]) hx hb dX1_leftBehind_33 hl (k := 3) rfl rfl (by decide) rfl (fun ls hl => ?_)
          refine lv_goto (tgt := 4) hx hb dX1_leftBehind_36 (by decide) ?_
          exact ih4 (x2 &&& (o2 ^^^ (-1))) (x3 + 1) _ _ _ hP hS (lv_sub hl [3, 1, 0] rfl) hf
        · have hf := iteT hf c4
          refine lv_iload_n hx hb dX1_leftBehind_24 rfl (lv_at hl 2 rfl) ?_
          have hv := Option.some.inj hf
          exact hret _ _ _ _ _ hS hv dX1_leftBehind_25
  refine lv_iload_n hx hb dX1_leftBehind_0 rfl (lv_at hl 1 rfl) ?_
  refine lv_istore_n (lv' := [(2, .int a1), (0, .ref h0), (1, .int a1)]) hx hb dX1_leftBehind_1 rfl hl (by decide) rfl (fun ls hl => ?_)
  refine lv_iconst (v := 0) hx hb dX1_leftBehind_2 (by decide) ?_
  refine lv_istore_n (lv' := [(3, .int 0), (2, .int a1), (0, .ref h0), (1, .int a1)]) hx hb dX1_leftBehind_3 rfl hl (by decide) rfl (fun ls hl => ?_)
  exact hC4 9 a1 0 _ _ _ hP hS (lv_sub hl [2, 1, 0] rfl) hf
def fX1_isTaken (s_people : Int32) (s_kinds : Int32) (s_deeds : Int32) (s_feeding : Int64) (a1 : Int32) (a2 : Int32) : Option (Int32) :=
  (fX1_leftBehind s_people s_kinds s_deeds s_feeding a2).bind fun o1 => ((fX3_isIn (a2 &&& (o1 ^^^ (-1))) a1).bind fun o3 => (zk o3 (some o3)))
set_option maxHeartbeats 4000000 in
set_option maxRecDepth 100000 in
theorem ctX1_isTaken (l : Launch) (G : GG) (h0 : Nat) (s_people : Int32) (s_kinds : Int32) (s_deeds : Int32) (s_feeding : Int64) (s_large : Int32) (s_dead : Int32) (s_dayNumber : Int32) (a1 : Int32) (a2 : Int32) (out : Int32) (hf : fX1_isTaken s_people s_kinds s_deeds s_feeding a1 a2 = some out) : Met l yX1_isTaken wsX1_isTaken ({ frames := 4, cells := 0, slots := 0, locals := 93 }) (PcR G [.ref h0, .int a1, .int a2] [(h0, stE s_people s_kinds s_deeds s_feeding s_large s_dead s_dayNumber)]) (QiR out) 0 0 noA := by
  refine mk_Rz (cc := cX1_isTaken) (maxL := 3) (by decide) rfl (Nat.le_of_ble_eq_true rfl) ?_
  intro p e s m args below meth c Q ls S hP hK hl hret
  obtain ⟨hx, hb, hml, hown, hts⟩ := S
  have hown : s.vm.findClass RX1 = some m.cls := hown
  have hS : va_S noA s.heap s.heap [] := va_S.rf
  have hl : lv_has ls 3 [(0, .ref h0), (1, .int a1), (2, .int a2)] := hl
  refine lv_iload_n hx hb dX1_isTaken_0 rfl (lv_at hl 2 rfl) ?_
  refine lv_aload_n hx hb dX1_isTaken_1 rfl (lv_at hl 0 rfl) ?_
  refine lv_iload_n hx hb dX1_isTaken_2 rfl (lv_at hl 2 rfl) ?_
  obtain ⟨o1, hc2, hf⟩ := bindS hf
  refine ro_i (va_runV (C := RX1) (As := [.int a2]) (rest := [.int a2]) ⟨hx, hb, hml, hown, hts⟩ (ctX1_leftBehind l G h0 s_people s_kinds s_deeds s_feeding s_large s_dead s_dayNumber a2 o1 hc2) (cwV 1 hts gX1_isTaken_X1_leftBehind rfl rfl rfl (by decide +kernel) ⟨Nat.le_of_ble_eq_true rfl, Nat.le_of_ble_eq_true rfl⟩) (preR_V (q0 := 0) (ci := 1) (hP.sub (ws' := [(h0, stE s_people s_kinds s_deeds s_feeding s_large s_dead s_dayNumber)]) [0] rfl) hK rfl rfl) rfl rfl hl.1 rfl (lv_room (Nat.le_of_ble_eq_true rfl)) dX1_isTaken_3 ⟨Nat.zero_le _, Nat.zero_le _⟩) hS hP (fun H locs hP hS => ?_)
  refine lv_iconst (v := (-1)) hx hb dX1_isTaken_6 (by decide) ?_
  refine lv_ixor hx hb dX1_isTaken_7 ?_
  refine lv_iand hx hb dX1_isTaken_8 ?_
  refine lv_iload_n hx hb dX1_isTaken_9 rfl (lv_at hl 1 rfl) ?_
  obtain ⟨o3, hc4, hf⟩ := bindS hf
  refine ro_i (va_runSN (As := [.int (a2 &&& (o1 ^^^ (-1))), .int a1]) (rest := []) ⟨hx, hb, hml, hown, hts⟩ (ctX3_isIn l G (a2 &&& (o1 ^^^ (-1))) a1 o3 hc4) ⟨va_cnB 2 hts gX1_isTaken_X3_isIn_n71 rfl rfl rfl (nm_X1_71 hK.2) (hts (.initialized RX3) (by decide +kernel)) (by decide +kernel) ⟨Nat.le_of_ble_eq_true rfl, Nat.le_of_ble_eq_true rfl⟩, hts (.static yX3_isIn) (by decide +kernel), trivial⟩ (preR_S (hP.sub (ws' := []) [] rfl) hK) rfl rfl hl.1 rfl (lv_room (Nat.le_of_ble_eq_true rfl)) dX1_isTaken_10 ⟨Nat.zero_le _, Nat.zero_le _⟩) hS hP (fun H locs hP hS => ?_)
  obtain ⟨hzr, hf⟩ := zkS hf
  have hv := Option.some.inj hf
  exact hret _ _ _ _ _ hS hzr hv dX1_isTaken_13
def fX1_countTaken (s_people : Int32) (s_kinds : Int32) (s_deeds : Int32) (s_feeding : Int64) (a1 : Int32) : Option (Int32) :=
  (fJ6_bitCount_0f7a4 a1).bind fun o1 => ((fX1_leftBehind s_people s_kinds s_deeds s_feeding a1).bind fun o3 => ((fJ6_bitCount_0f7a4 o3).bind fun o5 => (some (o1 - o5))))
set_option maxHeartbeats 4000000 in
set_option maxRecDepth 100000 in
theorem ctX1_countTaken (l : Launch) (G : GG) (h0 : Nat) (s_people : Int32) (s_kinds : Int32) (s_deeds : Int32) (s_feeding : Int64) (s_large : Int32) (s_dead : Int32) (s_dayNumber : Int32) (a1 : Int32) (out : Int32) (hf : fX1_countTaken s_people s_kinds s_deeds s_feeding a1 = some out) : Met l yX1_countTaken wsX1_countTaken ({ frames := 4, cells := 0, slots := 0, locals := 93 }) (PcR G [.ref h0, .int a1] [(h0, stE s_people s_kinds s_deeds s_feeding s_large s_dead s_dayNumber)]) (QiR out) 0 0 noA := by
  refine mk_Ri (cc := cX1_countTaken) (maxL := 2) (by decide) rfl (Nat.le_of_ble_eq_true rfl) ?_
  intro p e s m args below meth c Q ls S hP hK hl hret
  obtain ⟨hx, hb, hml, hown, hts⟩ := S
  have hown : s.vm.findClass RX1 = some m.cls := hown
  have hS : va_S noA s.heap s.heap [] := va_S.rf
  have hl : lv_has ls 2 [(0, .ref h0), (1, .int a1)] := hl
  refine lv_iload_n hx hb dX1_countTaken_0 rfl (lv_at hl 1 rfl) ?_
  obtain ⟨o1, hc2, hf⟩ := bindS hf
  refine ro_i (va_runS (As := [.int a1]) (rest := []) ⟨hx, hb, hml, hown, hts⟩ (ctJ6_bitCount_0f7a4 l G a1 o1 hc2) (va_cwS 1 hts gX1_countTaken_J6_bitCount_0f7a4 rfl rfl rfl (by decide +kernel) ⟨Nat.le_of_ble_eq_true rfl, Nat.le_of_ble_eq_true rfl⟩) (preR_S (hP.sub (ws' := []) [] rfl) hK) rfl rfl hl.1 rfl (lv_room (Nat.le_of_ble_eq_true rfl)) dX1_countTaken_1 ⟨Nat.zero_le _, Nat.zero_le _⟩) hS hP (fun H locs hP hS => ?_)
  refine lv_aload_n hx hb dX1_countTaken_4 rfl (lv_at hl 0 rfl) ?_
  refine lv_iload_n hx hb dX1_countTaken_5 rfl (lv_at hl 1 rfl) ?_
  obtain ⟨o3, hc4, hf⟩ := bindS hf
  refine ro_i (va_runV (C := RX1) (As := [.int a1]) (rest := [.int o1]) ⟨hx, hb, hml, hown, hts⟩ (ctX1_leftBehind l G h0 s_people s_kinds s_deeds s_feeding s_large s_dead s_dayNumber a1 o3 hc4) (cwV 1 hts gX1_countTaken_X1_leftBehind rfl rfl rfl (by decide +kernel) ⟨Nat.le_of_ble_eq_true rfl, Nat.le_of_ble_eq_true rfl⟩) (preR_V (q0 := 0) (ci := 1) (hP.sub (ws' := [(h0, stE s_people s_kinds s_deeds s_feeding s_large s_dead s_dayNumber)]) [0] rfl) hK rfl rfl) rfl rfl hl.1 rfl (lv_room (Nat.le_of_ble_eq_true rfl)) dX1_countTaken_6 ⟨Nat.zero_le _, Nat.zero_le _⟩) hS hP (fun H locs hP hS => ?_)
  obtain ⟨o5, hc6, hf⟩ := bindS hf
  refine ro_i (va_runS (As := [.int o3]) (rest := [.int o1]) ⟨hx, hb, hml, hown, hts⟩ (ctJ6_bitCount_0f7a4 l G o3 o5 hc6) (va_cwS 1 hts gX1_countTaken_J6_bitCount_0f7a4 rfl rfl rfl (by decide +kernel) ⟨Nat.le_of_ble_eq_true rfl, Nat.le_of_ble_eq_true rfl⟩) (preR_S (hP.sub (ws' := []) [] rfl) hK) rfl rfl hl.1 rfl (lv_room (Nat.le_of_ble_eq_true rfl)) dX1_countTaken_9 ⟨Nat.zero_le _, Nat.zero_le _⟩) hS hP (fun H locs hP hS => ?_)
  refine lv_isub hx hb dX1_countTaken_12 ?_
  have hv := Option.some.inj hf
  exact hret _ _ _ _ _ hS hv dX1_countTaken_13
