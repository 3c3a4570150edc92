def fX4_note_51 (q_page : Nat → Int32) : Nat → Int32 → Int32 → (Nat → Int32) → Option (Int32 × (Nat → Int32))
  | 0, _, _, _ => none
  | n + 1, x1, s_acts, q_book => (if 17 ≤ x1 then some ((s_acts + 1), q_book) else ck x1 17 (ck ((17 * s_acts) + x1) 238 ((fX4_note_51 q_page n (x1 + 1) s_acts (upd q_book (Int32.toNatClampNeg ((17 * s_acts) + x1)) (q_page (Int32.toNatClampNeg x1)))))))
def fX4_note_11 (q_page : Nat → Int32) : Nat → Int32 → Int32 → (Nat → Int32) → Option (Int32 × (Nat → Int32))
  | 0, _, _, _ => none
  | n + 1, x1, s_acts, q_book => (if 221 ≤ x1 then (fX4_note_51 q_page 20 0 (s_acts - 1) q_book) else ck (x1 + 17) 238 (ck x1 238 ((fX4_note_11 q_page n (x1 + 1) s_acts (upd q_book (Int32.toNatClampNeg x1) (q_book (Int32.toNatClampNeg (x1 + 17))))))))
def fX4_note (s_acts : Int32) (q_page : Nat → Int32) (q_book : Nat → Int32) : Option (Int32 × (Nat → Int32)) :=
  (if s_acts = 14 then (fX4_note_11 q_page 223 0 s_acts q_book) else (fX4_note_51 q_page 20 0 s_acts q_book))
set_option maxHeartbeats 4000000 in
set_option maxRecDepth 100000 in
theorem ctX4_note (l : Launch) (G : GG) (h0 : Nat) (ad : Nat → Nat) (s_thrown : Int32) (s_textSize : Int32) (s_place : Int32) (s_people : Int32) (s_readPeople : Int32) (s_acts : Int32) (s_seen : Int32) (s_seed : Int64) (s_rowSize : Int32) (s_feedMany : Int32) (s_feedRow : Int32) (s_restMany : Int32) (s_restFirst : Int32) (q_page : Nat → Int32) (q_book : Nat → Int32) (out : Int32 × (Nat → Int32)) (hf : fX4_note s_acts q_page q_book = some out) : Met l yX4_note wsX4_note ({ frames := 0, cells := 0, slots := 0, locals := 0 }) (PcW G [.ref h0] [(h0, moE ad s_thrown s_textSize s_place s_people s_readPeople s_acts s_seen s_seed s_rowSize s_feedMany s_feedRow s_restMany s_restFirst), (ad 10, aI G 17 q_page), (ad 12, aI G 238 q_book)]) (QvW G [(h0, moE ad s_thrown s_textSize s_place s_people s_readPeople s_acts s_seen s_seed s_rowSize s_feedMany s_feedRow s_restMany s_restFirst), (ad 10, aI G 17 q_page), (ad 12, aI G 238 q_book)] [(h0, moE ad s_thrown s_textSize s_place s_people s_readPeople out.1 s_seen s_seed s_rowSize s_feedMany s_feedRow s_restMany s_restFirst), (ad 10, aI G 17 q_page), (ad 12, aI G 238 out.2)]) 0 0 (inA [(h0, moE ad s_thrown s_textSize s_place s_people s_readPeople s_acts s_seen s_seed s_rowSize s_feedMany s_feedRow s_restMany s_restFirst), (ad 10, aI G 17 q_page), (ad 12, aI G 238 q_book)]) := by
  refine mk_Wv (cc := cX4_note) (maxL := 2) (by decide) rfl (Nat.le_of_ble_eq_true rfl) ?_
  intro p e s m args below meth c Q ls A S hP hK hD hl hret
  obtain ⟨hx, hb, hml, hown, hts⟩ := S
  have hown : s.vm.findClass RX4 = some m.cls := hown
  have kl_110 := hts (.fieldLink RX4 110 "ArrestOrderModel" "acts" "I") (by decide +kernel)
  have hi_X4 : ∀ w ∈ wsX40, w ∈ wsX4_note := fun _ h => List.mem_cons_of_mem _ (List.mem_append_right _ h)
  have kl_31 := hts (.fieldLink RX4 31 "ArrestOrderModel" "book" "[I") (by decide +kernel)
  have kl_25 := hts (.fieldLink RX4 25 "ArrestOrderModel" "page" "[I") (by decide +kernel)
  have hS : va_S A s.heap s.heap [] := va_S.rf
  have hl : lv_has ls 2 [(0, .ref h0)] := hl
  have hC51 : ∀ (n : Nat) (x1 : Int32) (s_acts : Int32) (q_book : Nat → Int32) (H : Heap) (locs : List Loc) (ls : Array Slot), va_P (gD G) vwCl [(h0, moE ad s_thrown s_textSize s_place s_people s_readPeople s_acts s_seen s_seed s_rowSize s_feedMany s_feedRow s_restMany s_restFirst), (ad 10, aI G 17 q_page), (ad 12, aI G 238 q_book)] H → va_D A [(h0, moE ad s_thrown s_textSize s_place s_people s_readPeople s_acts s_seen s_seed s_rowSize s_feedMany s_feedRow s_restMany s_restFirst), (ad 10, aI G 17 q_page), (ad 12, aI G 238 q_book)] → va_S A s.heap H locs → lv_has ls 2 [(0, .ref h0), (1, .int x1)] → fX4_note_51 q_page n x1 s_acts q_book = some out → W p l e ({ frames := 0, cells := 0, slots := 0, locals := 0 }) s m args below meth c H locs 0 0 Q (F0 m 51 ls []) := by
    intro n51
    induction n51 with
    | zero => intro x1 s_acts q_book H locs ls hP hD hS hl hf; exact absurd (show none = some out from hf) (fun z => by cases z)
    | succ n51 ih51 =>
      intro x1 s_acts q_book H locs ls hP hD hS hl hf
      refine lv_iload_n hx hb dX4_note_51 rfl (lv_at hl 1 rfl) ?_
      refine lv_bipush (v := 17) hx hb dX4_note_52 (by decide) ?_
      refine lv_icmp_ge (tgt := 83) hx hb dX4_note_54 (by decide) (fun c2 => ?_) (fun c2 => ?_)
      · have hf := iteT hf c2
        refine lv_aload_n hx hb dX4_note_83 rfl (lv_at hl 0 rfl) ?_
        refine lv_dup hx hb dX4_note_84 rfl ?_
        refine va_get (D := gD G) (ci := 4) (v := .int s_acts) (C := RX4) (T := TX4) (N := 29) hx hb hts hi_X4 hown hK.1 hP 0 rfl rfl 13 (by decide) kl_110 (fun _ h9 => h9) rfl dX4_note_85 ?_
        refine lv_iconst (v := 1) hx hb dX4_note_88 (by decide) ?_
        refine lv_iadd hx hb dX4_note_89 ?_
        refine va_put (D := gD G) (ci := 4) (v := .int (s_acts + 1)) (ty := .int) (C := RX4) (T := TX4) (N := 29) hx hb hts hi_X4 tyX4 tyX4_ok nmX4 hown hK.1 hP hD hS 0 rfl rfl 13 (by decide) kl_110 (fun _ h9 => h9) rfl (tyX4_ok 13 (by decide)) rfl rfl (Nat.le_of_ble_eq_true rfl) dX4_note_90 (fun H locs hP hD hS => ?_)
        have hP : va_P (gD G) vwCl [(h0, moE ad s_thrown s_textSize s_place s_people s_readPeople (s_acts + 1) s_seen s_seed s_rowSize s_feedMany s_feedRow s_restMany s_restFirst), (ad 10, aI G 17 q_page), (ad 12, aI G 238 q_book)] H := hP
        have hD : va_D A [(h0, moE ad s_thrown s_textSize s_place s_people s_readPeople (s_acts + 1) s_seen s_seed s_rowSize s_feedMany s_feedRow s_restMany s_restFirst), (ad 10, aI G 17 q_page), (ad 12, aI G 238 q_book)] := hD
        have hv := Option.some.inj hf
        exact hret _ _ _ _ (by rw [← hv]; exact hP) hS dX4_note_93
      · have hf := iteF hf c2
        refine lv_aload_n hx hb dX4_note_57 rfl (lv_at hl 0 rfl) ?_
        refine va_get (D := gD G) (ci := 4) (v := .ref (ad 12)) (C := RX4) (T := TX4) (N := 29) hx hb hts hi_X4 hown hK.1 hP 0 rfl rfl 12 (by decide) kl_31 (fun _ h9 => h9) rfl dX4_note_58 ?_
        refine lv_bipush (v := 17) hx hb dX4_note_61 (by decide) ?_
        refine lv_aload_n hx hb dX4_note_63 rfl (lv_at hl 0 rfl) ?_
        refine va_get (D := gD G) (ci := 4) (v := .int s_acts) (C := RX4) (T := TX4) (N := 29) hx hb hts hi_X4 hown hK.1 hP 0 rfl rfl 13 (by decide) kl_110 (fun _ h9 => h9) rfl dX4_note_64 ?_
        refine lv_imul hx hb dX4_note_67 ?_
        refine lv_iload_n hx hb dX4_note_68 rfl (lv_at hl 1 rfl) ?_
        refine lv_iadd hx hb dX4_note_69 ?_
        refine lv_aload_n hx hb dX4_note_70 rfl (lv_at hl 0 rfl) ?_
        refine va_get (D := gD G) (ci := 4) (v := .ref (ad 10)) (C := RX4) (T := TX4) (N := 29) hx hb hts hi_X4 hown hK.1 hP 0 rfl rfl 10 (by decide) kl_25 (fun _ h9 => h9) rfl dX4_note_71 ?_
        refine lv_iload_n hx hb dX4_note_74 rfl (lv_at hl 1 rfl) ?_
        obtain ⟨hi3, hf⟩ := ckS hf
        refine va_iald hx hb hK.1 hP 1 0 rfl rfl hi3 dX4_note_75 ?_
        obtain ⟨hi4, hf⟩ := ckS hf
        refine va_iast hx hb hK.1 hP hD hS 2 0 rfl rfl hi4 dX4_note_76 (fun H locs hP hD hS => ?_)
        have hP : va_P (gD G) vwCl [(h0, moE ad s_thrown s_textSize s_place s_people s_readPeople s_acts s_seen s_seed s_rowSize s_feedMany s_feedRow s_restMany s_restFirst), (ad 10, aI G 17 q_page), (ad 12, aI G 238 (upd q_book (Int32.toNatClampNeg ((17 * s_acts) + x1)) (q_page (Int32.toNatClampNeg x1))))] H := hP
        have hD : va_D A [(h0, moE ad s_thrown s_textSize s_place s_people s_readPeople s_acts s_seen s_seed s_rowSize s_feedMany s_feedRow s_restMany s_restFirst), (ad 10, aI G 17 q_page), (ad 12, aI G 238 (upd q_book (Int32.toNatClampNeg ((17 * s_acts) + x1)) (q_page (Int32.toNatClampNeg x1))))] := hD
        refine lv_iinc (v := (x1 + 1)) (lv' := [(1, .int (x1 + 1)), (0, .ref h0)]) hx hb dX4_note_77 hl (k := 1) rfl rfl (by decide) rfl (fun ls hl => ?_)
        refine lv_goto (tgt := 51) hx hb dX4_note_80 (by decide) ?_
        exact ih51 (x1 + 1) s_acts (upd q_book (Int32.toNatClampNeg ((17 * s_acts) + x1)) (q_page (Int32.toNatClampNeg x1))) _ _ _ hP hD hS (lv_sub hl [1, 0] rfl) hf
  have hC11 : ∀ (n : Nat) (x1 : Int32) (s_acts : Int32) (q_book : Nat → Int32) (H : Heap) (locs : List Loc) (ls : Array Slot), va_P (gD G) vwCl [(h0, moE ad s_thrown s_textSize s_place s_people s_readPeople s_acts s_seen s_seed s_rowSize s_feedMany s_feedRow s_restMany s_restFirst), (ad 10, aI G 17 q_page), (ad 12, aI G 238 q_book)] H → va_D A [(h0, moE ad s_thrown s_textSize s_place s_people s_readPeople s_acts s_seen s_seed s_rowSize s_feedMany s_feedRow s_restMany s_restFirst), (ad 10, aI G 17 q_page), (ad 12, aI G 238 q_book)] → va_S A s.heap H locs → lv_has ls 2 [(0, .ref h0), (1, .int x1)] → fX4_note_11 q_page n x1 s_acts q_book = some out → W p l e ({ frames := 0, cells := 0, slots := 0, locals := 0 }) s m args below meth c H locs 0 0 Q (F0 m 11 ls []) := by
    intro n11
    induction n11 with
    | zero => intro x1 s_acts q_book H locs ls hP hD hS hl hf; exact absurd (show none = some out from hf) (fun z => by cases z)
    | succ n11 ih11 =>
      intro x1 s_acts q_book H locs ls hP hD hS hl hf
      refine lv_iload_n hx hb dX4_note_11 rfl (lv_at hl 1 rfl) ?_
      refine lv_sipush (v := 221) hx hb dX4_note_12 (by decide) ?_
      refine lv_icmp_ge (tgt := 39) hx hb dX4_note_15 (by decide) (fun c5 => ?_) (fun c5 => ?_)
      · have hf := iteT hf c5
        refine lv_aload_n hx hb dX4_note_39 rfl (lv_at hl 0 rfl) ?_
        refine lv_dup hx hb dX4_note_40 rfl ?_
        refine va_get (D := gD G) (ci := 4) (v := .int s_acts) (C := RX4) (T := TX4) (N := 29) hx hb hts hi_X4 hown hK.1 hP 0 rfl rfl 13 (by decide) kl_110 (fun _ h9 => h9) rfl dX4_note_41 ?_
        refine lv_iconst (v := 1) hx hb dX4_note_44 (by decide) ?_
        refine lv_isub hx hb dX4_note_45 ?_
        refine va_put (D := gD G) (ci := 4) (v := .int (s_acts - 1)) (ty := .int) (C := RX4) (T := TX4) (N := 29) hx hb hts hi_X4 tyX4 tyX4_ok nmX4 hown hK.1 hP hD hS 0 rfl rfl 13 (by decide) kl_110 (fun _ h9 => h9) rfl (tyX4_ok 13 (by decide)) rfl rfl (Nat.le_of_ble_eq_true rfl) dX4_note_46 (fun H locs hP hD hS => ?_)
        have hP : va_P (gD G) vwCl [(h0, moE ad s_thrown s_textSize s_place s_people s_readPeople (s_acts - 1) s_seen s_seed s_rowSize s_feedMany s_feedRow s_restMany s_restFirst), (ad 10, aI G 17 q_page), (ad 12, aI G 238 q_book)] H := hP
        have hD : va_D A [(h0, moE ad s_thrown s_textSize s_place s_people s_readPeople (s_acts - 1) s_seen s_seed s_rowSize s_feedMany s_feedRow s_restMany s_restFirst), (ad 10, aI G 17 q_page), (ad 12, aI G 238 q_book)] := hD
        refine lv_iconst (v := 0) hx hb dX4_note_49 (by decide) ?_
        refine lv_istore_n (lv' := [(1, .int 0), (0, .ref h0)]) hx hb dX4_note_50 rfl hl (by decide) rfl (fun ls hl => ?_)
        exact hC51 20 0 (s_acts - 1) q_book _ _ _ hP hD hS (lv_sub hl [1, 0] rfl) hf
      · have hf := iteF hf c5
        refine lv_aload_n hx hb dX4_note_18 rfl (lv_at hl 0 rfl) ?_
        refine va_get (D := gD G) (ci := 4) (v := .ref (ad 12)) (C := RX4) (T := TX4) (N := 29) hx hb hts hi_X4 hown hK.1 hP 0 rfl rfl 12 (by decide) kl_31 (fun _ h9 => h9) rfl dX4_note_19 ?_
        refine lv_iload_n hx hb dX4_note_22 rfl (lv_at hl 1 rfl) ?_
        refine lv_aload_n hx hb dX4_note_23 rfl (lv_at hl 0 rfl) ?_
        refine va_get (D := gD G) (ci := 4) (v := .ref (ad 12)) (C := RX4) (T := TX4) (N := 29) hx hb hts hi_X4 hown hK.1 hP 0 rfl rfl 12 (by decide) kl_31 (fun _ h9 => h9) rfl dX4_note_24 ?_
        refine lv_iload_n hx hb dX4_note_27 rfl (lv_at hl 1 rfl) ?_
        refine lv_bipush (v := 17) hx hb dX4_note_28 (by decide) ?_
        refine lv_iadd hx hb dX4_note_30 ?_
        obtain ⟨hi6, hf⟩ := ckS hf
        refine va_iald hx hb hK.1 hP 2 0 rfl rfl hi6 dX4_note_31 ?_
        obtain ⟨hi7, hf⟩ := ckS hf
        refine va_iast hx hb hK.1 hP hD hS 2 0 rfl rfl hi7 dX4_note_32 (fun H locs hP hD hS => ?_)
        have hP : va_P (gD G) vwCl [(h0, moE ad s_thrown s_textSize s_place s_people s_readPeople s_acts s_seen s_seed s_rowSize s_feedMany s_feedRow s_restMany s_restFirst), (ad 10, aI G 17 q_page), (ad 12, aI G 238 (upd q_book (Int32.toNatClampNeg x1) (q_book (Int32.toNatClampNeg (x1 + 17)))))] H := hP
        have hD : va_D A [(h0, moE ad s_thrown s_textSize s_place s_people s_readPeople s_acts s_seen s_seed s_rowSize s_feedMany s_feedRow s_restMany s_restFirst), (ad 10, aI G 17 q_page), (ad 12, aI G 238 (upd q_book (Int32.toNatClampNeg x1) (q_book (Int32.toNatClampNeg (x1 + 17)))))] := hD
        refine lv_iinc (v := (x1 + 1)) (lv' := [(1, .int (x1 + 1)), (0, .ref h0)]) hx hb dX4_note_33 hl (k := 1) rfl rfl (by decide) rfl (fun ls hl => ?_)
        refine lv_goto (tgt := 11) hx hb dX4_note_36 (by decide) ?_
        exact ih11 (x1 + 1) s_acts (upd q_book (Int32.toNatClampNeg x1) (q_book (Int32.toNatClampNeg (x1 + 17)))) _ _ _ hP hD hS (lv_sub hl [1, 0] rfl) hf
  refine lv_aload_n hx hb dX4_note_0 rfl (lv_at hl 0 rfl) ?_
  refine va_get (D := gD G) (ci := 4) (v := .int s_acts) (C := RX4) (T := TX4) (N := 29) hx hb hts hi_X4 hown hK.1 hP 0 rfl rfl 13 (by decide) kl_110 (fun _ h9 => h9) rfl dX4_note_1 ?_
  refine lv_bipush (v := 14) hx hb dX4_note_4 (by decide) ?_
  refine lv_icmp_ne (tgt := 49) hx hb dX4_note_6 (by decide) (fun c1 => ?_) (fun c1 => ?_)
  · have hf := iteF hf c1
    refine lv_iconst (v := 0) hx hb dX4_note_49 (by decide) ?_
    refine lv_istore_n (lv' := [(1, .int 0), (0, .ref h0)]) hx hb dX4_note_50 rfl hl (by decide) rfl (fun ls hl => ?_)
    exact hC51 20 0 s_acts q_book _ _ _ hP hD hS (lv_sub hl [1, 0] rfl) hf
  · have hf := iteT hf c1
    refine lv_iconst (v := 0) hx hb dX4_note_9 (by decide) ?_
    refine lv_istore_n (lv' := [(1, .int 0), (0, .ref h0)]) hx hb dX4_note_10 rfl hl (by decide) rfl (fun ls hl => ?_)
    exact hC11 223 0 s_acts q_book _ _ _ hP hD hS (lv_sub hl [1, 0] rfl) hf
def fX4_take (s_thrown : Int32) (s_people : Int32) (s_acts : Int32) (q_kind : Nat → Int32) (q_page : Nat → Int32) (q_book : Nat → Int32) (a1 : Int32) : Option (Int32 × Int32 × Int32 × (Nat → Int32) × (Nat → Int32)) :=
  (fX4_noPerson s_people a1).bind fun o1 => ((if o1 = 0 then (fX4_mayOf s_people q_kind q_page).bind fun o4 => ((fX4_has o4 a1).bind fun o6 => ((if o6 = 0 then some ((-3), 0, s_acts, q_page, q_book) else (fX4_note s_acts q_page q_book).bind fun o9 => (ck 14 17 (ck 14 17 (ck 14 17 ((fX4_many ((upd q_page (Int32.toNatClampNeg 14) ((q_page (Int32.toNatClampNeg 14)) &&& (((1 : Int32) <<< (a1 &&& 31)) ^^^ (-1)))) (Int32.toNatClampNeg 14))).bind fun o14 => (some (o14, 0, o9.1, (upd q_page (Int32.toNatClampNeg 14) ((q_page (Int32.toNatClampNeg 14)) &&& (((1 : Int32) <<< (a1 &&& 31)) ^^^ (-1)))), o9.2))))))))) else some ((-1), 0, s_acts, q_page, q_book)))
set_option maxHeartbeats 4000000 in
set_option maxRecDepth 100000 in
theorem ctX4_take (l : Launch) (G : GG) (h0 : Nat) (ad : Nat → Nat) (s_thrown : Int32) (s_textSize : Int32) (s_place : Int32) (s_people : Int32) (s_readPeople : Int32) (s_acts : Int32) (s_seen : Int32) (s_seed : Int64) (s_rowSize : Int32) (s_feedMany : Int32) (s_feedRow : Int32) (s_restMany : Int32) (s_restFirst : Int32) (q_kind : Nat → Int32) (q_page : Nat → Int32) (q_book : Nat → Int32) (a1 : Int32) (out : Int32 × Int32 × Int32 × (Nat → Int32) × (Nat → Int32)) (hf : fX4_take s_thrown s_people s_acts q_kind q_page q_book a1 = some out) : Met l yX4_take wsX4_take ({ frames := 3, cells := 0, slots := 0, locals := 69 }) (PcW G [.ref h0, .int a1] [(h0, moE ad s_thrown s_textSize s_place s_people s_readPeople s_acts s_seen s_seed s_rowSize s_feedMany s_feedRow s_restMany s_restFirst), (ad 5, aI G 7 q_kind), (ad 10, aI G 17 q_page), (ad 12, aI G 238 q_book)]) (QiW G [(h0, moE ad s_thrown s_textSize s_place s_people s_readPeople s_acts s_seen s_seed s_rowSize s_feedMany s_feedRow s_restMany s_restFirst), (ad 5, aI G 7 q_kind), (ad 10, aI G 17 q_page), (ad 12, aI G 238 q_book)] [(h0, moE ad out.2.1 s_textSize s_place s_people s_readPeople out.2.2.1 s_seen s_seed s_rowSize s_feedMany s_feedRow s_restMany s_restFirst), (ad 5, aI G 7 q_kind), (ad 10, aI G 17 out.2.2.2.1), (ad 12, aI G 238 out.2.2.2.2)] out.1) 0 0 (inA [(h0, moE ad s_thrown s_textSize s_place s_people s_readPeople s_acts s_seen s_seed s_rowSize s_feedMany s_feedRow s_restMany s_restFirst), (ad 5, aI G 7 q_kind), (ad 10, aI G 17 q_page), (ad 12, aI G 238 q_book)]) := by
  refine mk_Wi (cc := cX4_take) (maxL := 2) (by decide) rfl (Nat.le_of_ble_eq_true rfl) ?_
  intro p e s m args below meth c Q ls A S hP hK hD hl hret
  obtain ⟨hx, hb, hml, hown, hts⟩ := S
  have hown : s.vm.findClass RX4 = some m.cls := hown
  have kl_60 := hts (.fieldLink RX4 60 "ArrestOrderModel" "thrown" "I") (by decide +kernel)
  have hi_X4 : ∀ w ∈ wsX40, w ∈ wsX4_take := fun _ h => List.mem_cons_of_mem _ (List.mem_append_right _ h)
  have kl_25 := hts (.fieldLink RX4 25 "ArrestOrderModel" "page" "[I") (by decide +kernel)
  have hS : va_S A s.heap s.heap [] := va_S.rf
  have hl : lv_has ls 2 [(0, .ref h0), (1, .int a1)] := hl
  refine lv_aload_n hx hb dX4_take_0 rfl (lv_at hl 0 rfl) ?_
  refine lv_iconst (v := 0) hx hb dX4_take_1 (by decide) ?_
  refine va_put (D := gD G) (ci := 4) (v := .int 0) (ty := .int) (C := RX4) (T := TX4) (N := 29) hx hb hts hi_X4 tyX4 tyX4_ok nmX4 hown hK.1 hP hD hS 0 rfl rfl 0 (by decide) kl_60 (fun _ h9 => h9) rfl (tyX4_ok 0 (by decide)) rfl rfl (Nat.le_of_ble_eq_true rfl) dX4_take_2 (fun H locs hP hD hS => ?_)
  have hP : va_P (gD G) vwCl [(h0, moE ad 0 s_textSize s_place s_people s_readPeople s_acts s_seen s_seed s_rowSize s_feedMany s_feedRow s_restMany s_restFirst), (ad 5, aI G 7 q_kind), (ad 10, aI G 17 q_page), (ad 12, aI G 238 q_book)] H := hP
  have hD : va_D A [(h0, moE ad 0 s_textSize s_place s_people s_readPeople s_acts s_seen s_seed s_rowSize s_feedMany s_feedRow s_restMany s_restFirst), (ad 5, aI G 7 q_kind), (ad 10, aI G 17 q_page), (ad 12, aI G 238 q_book)] := hD
  refine lv_aload_n hx hb dX4_take_5 rfl (lv_at hl 0 rfl) ?_
  refine lv_iload_n hx hb dX4_take_6 rfl (lv_at hl 1 rfl) ?_
  obtain ⟨o1, hc2, hf⟩ := bindS hf
  refine ro_i (va_runV (C := RX4) (As := [.int a1]) (rest := []) ⟨hx, hb, hml, hown, hts⟩ (ctX4_noPerson l G h0 ad 0 s_textSize s_place s_people s_readPeople s_acts s_seen s_seed s_rowSize s_feedMany s_feedRow s_restMany s_restFirst a1 o1 hc2) (cwV 1 hts gX4_take_X4_noPerson rfl rfl rfl (by decide +kernel) ⟨Nat.le_of_ble_eq_true rfl, Nat.le_of_ble_eq_true rfl⟩) (preR_V (q0 := 0) (ci := 4) (hP.sub (ws' := [(h0, moE ad 0 s_textSize s_place s_people s_readPeople s_acts s_seen s_seed s_rowSize s_feedMany s_feedRow s_restMany s_restFirst)]) [0] rfl) hK rfl rfl) rfl rfl hl.1 rfl (lv_room (Nat.le_of_ble_eq_true rfl)) dX4_take_7 ⟨Nat.zero_le _, Nat.zero_le _⟩) hS hP (fun H locs hP hS => ?_)
  refine lv_if_eq (tgt := 15) hx hb dX4_take_10 (by decide) (fun c3 => ?_) (fun c3 => ?_)
  · have hf := iteT hf c3
    refine lv_aload_n hx hb dX4_take_15 rfl (lv_at hl 0 rfl) ?_
    refine lv_aload_n hx hb dX4_take_16 rfl (lv_at hl 0 rfl) ?_
    refine va_get (D := gD G) (ci := 4) (v := .ref (ad 10)) (C := RX4) (T := TX4) (N := 29) hx hb hts hi_X4 hown hK.1 hP 0 rfl rfl 10 (by decide) kl_25 (fun _ h9 => h9) rfl dX4_take_17 ?_
    obtain ⟨o4, hc5, hf⟩ := bindS hf
    refine ro_i (va_runV (C := RX4) (As := [.ref (ad 10)]) (rest := []) ⟨hx, hb, hml, hown, hts⟩ (ctX4_mayOf l G h0 (ad 10) ad 0 s_textSize s_place s_people s_readPeople s_acts s_seen s_seed s_rowSize s_feedMany s_feedRow s_restMany s_restFirst q_kind q_page o4 hc5) (cwV 1 hts gX4_take_X4_mayOf rfl rfl rfl (by decide +kernel) ⟨Nat.le_of_ble_eq_true rfl, Nat.le_of_ble_eq_true rfl⟩) (preR_V (q0 := 0) (ci := 4) (hP.sub (ws' := [(h0, moE ad 0 s_textSize s_place s_people s_readPeople s_acts s_seen s_seed s_rowSize s_feedMany s_feedRow s_restMany s_restFirst), (ad 5, aI G 7 q_kind), (ad 10, aI G 17 q_page)]) [0, 1, 2] rfl) hK rfl rfl) rfl rfl hl.1 rfl (lv_room (Nat.le_of_ble_eq_true rfl)) dX4_take_20 ⟨Nat.zero_le _, Nat.zero_le _⟩) hS hP (fun H locs hP hS => ?_)
    refine lv_iload_n hx hb dX4_take_23 rfl (lv_at hl 1 rfl) ?_
    obtain ⟨o6, hc7, hf⟩ := bindS hf
    refine ro_i (va_runS (As := [.int o4, .int a1]) (rest := []) ⟨hx, hb, hml, hown, hts⟩ (ctX4_has l G o4 a1 o6 hc7) (va_cwS 2 hts gX4_take_X4_has rfl rfl rfl (by decide +kernel) ⟨Nat.le_of_ble_eq_true rfl, Nat.le_of_ble_eq_true rfl⟩) (preR_S (hP.sub (ws' := []) [] rfl) hK) rfl rfl hl.1 rfl (lv_room (Nat.le_of_ble_eq_true rfl)) dX4_take_24 ⟨Nat.zero_le _, Nat.zero_le _⟩) hS hP (fun H locs hP hS => ?_)
    refine lv_if_ne (tgt := 33) hx hb dX4_take_27 (by decide) (fun c8 => ?_) (fun c8 => ?_)
    · have hf := iteF hf c8
      refine lv_aload_n hx hb dX4_take_33 rfl (lv_at hl 0 rfl) ?_
      obtain ⟨o9, hc10, hf⟩ := bindS hf
      refine rw_v (va_runV (C := RX4) (As := []) (rest := []) ⟨hx, hb, hml, hown, hts⟩ (ctX4_note l G h0 ad 0 s_textSize s_place s_people s_readPeople s_acts s_seen s_seed s_rowSize s_feedMany s_feedRow s_restMany s_restFirst q_page q_book o9 hc10) (cwV 0 hts gX4_take_X4_note rfl rfl rfl (by decide +kernel) ⟨Nat.le_of_ble_eq_true rfl, Nat.le_of_ble_eq_true rfl⟩) (preW_V (q0 := 0) (ci := 4) (hP.sub (ws' := [(h0, moE ad 0 s_textSize s_place s_people s_readPeople s_acts s_seen s_seed s_rowSize s_feedMany s_feedRow s_restMany s_restFirst), (ad 10, aI G 17 q_page), (ad 12, aI G 238 q_book)]) [0, 2, 3] rfl) (hD.sub (ws' := [(h0, moE ad 0 s_textSize s_place s_people s_readPeople s_acts s_seen s_seed s_rowSize s_feedMany s_feedRow s_restMany s_restFirst), (ad 10, aI G 17 q_page), (ad 12, aI G 238 q_book)]) [0, 2, 3] (by decide) rfl) hK rfl rfl) rfl rfl hl.1 rfl (lv_room (Nat.le_of_ble_eq_true rfl)) dX4_take_34 ⟨Nat.zero_le _, Nat.zero_le _⟩) hS hP hD [0, 2, 3] rfl rfl rfl (fun H locs hP hD hS => ?_)
      have hP : va_P (gD G) vwCl [(h0, moE ad 0 s_textSize s_place s_people s_readPeople o9.1 s_seen s_seed s_rowSize s_feedMany s_feedRow s_restMany s_restFirst), (ad 5, aI G 7 q_kind), (ad 10, aI G 17 q_page), (ad 12, aI G 238 o9.2)] H := hP
      have hD : va_D A [(h0, moE ad 0 s_textSize s_place s_people s_readPeople o9.1 s_seen s_seed s_rowSize s_feedMany s_feedRow s_restMany s_restFirst), (ad 5, aI G 7 q_kind), (ad 10, aI G 17 q_page), (ad 12, aI G 238 o9.2)] := hD
      refine lv_aload_n hx hb dX4_take_37 rfl (lv_at hl 0 rfl) ?_
      refine va_get (D := gD G) (ci := 4) (v := .ref (ad 10)) (C := RX4) (T := TX4) (N := 29) hx hb hts hi_X4 hown hK.1 hP 0 rfl rfl 10 (by decide) kl_25 (fun _ h9 => h9) rfl dX4_take_38 ?_
      refine lv_bipush (v := 14) hx hb dX4_take_41 (by decide) ?_
      refine lv_dup2_11 hx hb dX4_take_43 rfl rfl ?_
      obtain ⟨hi11, hf⟩ := ckS hf
      refine va_iald hx hb hK.1 hP 2 0 rfl rfl hi11 dX4_take_44 ?_
      refine lv_iconst (v := 1) hx hb dX4_take_45 (by decide) ?_
      refine lv_iload_n hx hb dX4_take_46 rfl (lv_at hl 1 rfl) ?_
      refine lv_ishl hx hb dX4_take_47 ?_
      refine lv_iconst (v := (-1)) hx hb dX4_take_48 (by decide) ?_
      refine lv_ixor hx hb dX4_take_49 ?_
      refine lv_iand hx hb dX4_take_50 ?_
      obtain ⟨hi12, hf⟩ := ckS hf
      refine va_iast hx hb hK.1 hP hD hS 2 0 rfl rfl hi12 dX4_take_51 (fun H locs hP hD hS => ?_)
      have hP : va_P (gD G) vwCl [(h0, moE ad 0 s_textSize s_place s_people s_readPeople o9.1 s_seen s_seed s_rowSize s_feedMany s_feedRow s_restMany s_restFirst), (ad 5, aI G 7 q_kind), (ad 10, aI G 17 (upd q_page (Int32.toNatClampNeg 14) ((q_page (Int32.toNatClampNeg 14)) &&& (((1 : Int32) <<< (a1 &&& 31)) ^^^ (-1))))), (ad 12, aI G 238 o9.2)] H := hP
      have hD : va_D A [(h0, moE ad 0 s_textSize s_place s_people s_readPeople o9.1 s_seen s_seed s_rowSize s_feedMany s_feedRow s_restMany s_restFirst), (ad 5, aI G 7 q_kind), (ad 10, aI G 17 (upd q_page (Int32.toNatClampNeg 14) ((q_page (Int32.toNatClampNeg 14)) &&& (((1 : Int32) <<< (a1 &&& 31)) ^^^ (-1))))), (ad 12, aI G 238 o9.2)] := hD
      refine lv_aload_n hx hb dX4_take_52 rfl (lv_at hl 0 rfl) ?_
      refine va_get (D := gD G) (ci := 4) (v := .ref (ad 10)) (C := RX4) (T := TX4) (N := 29) hx hb hts hi_X4 hown hK.1 hP 0 rfl rfl 10 (by decide) kl_25 (fun _ h9 => h9) rfl dX4_take_53 ?_
      refine lv_bipush (v := 14) hx hb dX4_take_56 (by decide) ?_
      obtain ⟨hi13, hf⟩ := ckS hf
      refine va_iald hx hb hK.1 hP 2 0 rfl rfl hi13 dX4_take_58 ?_
      obtain ⟨o14, hc15, hf⟩ := bindS hf
      refine ro_i (va_runS (As := [.int ((upd q_page (Int32.toNatClampNeg 14) ((q_page (Int32.toNatClampNeg 14)) &&& (((1 : Int32) <<< (a1 &&& 31)) ^^^ (-1)))) (Int32.toNatClampNeg 14))]) (rest := []) ⟨hx, hb, hml, hown, hts⟩ (ctX4_many l G ((upd q_page (Int32.toNatClampNeg 14) ((q_page (Int32.toNatClampNeg 14)) &&& (((1 : Int32) <<< (a1 &&& 31)) ^^^ (-1)))) (Int32.toNatClampNeg 14)) o14 hc15) (va_cwS 1 hts gX4_take_X4_many rfl rfl rfl (by decide +kernel) ⟨Nat.le_of_ble_eq_true rfl, Nat.le_of_ble_eq_true rfl⟩) (preR_S (hP.sub (ws' := []) [] rfl) hK) rfl rfl hl.1 rfl (lv_room (Nat.le_of_ble_eq_true rfl)) dX4_take_59 ⟨Nat.zero_le _, Nat.zero_le _⟩) hS hP (fun H locs hP hS => ?_)
      have hv := Option.some.inj hf
      exact hret _ _ _ _ _ (by rw [← hv]; exact hP) hS (by rw [← hv]) dX4_take_62
    · have hf := iteT hf c8
      refine lv_bipush (v := (-3)) hx hb dX4_take_30 (by decide) ?_
      have hv := Option.some.inj hf
      exact hret _ _ _ _ _ (by rw [← hv]; exact hP) hS (by rw [← hv]) dX4_take_32
  · have hf := iteF hf c3
    refine lv_iconst (v := (-1)) hx hb dX4_take_13 (by decide) ?_
    have hv := Option.some.inj hf
    exact hret _ _ _ _ _ (by rw [← hv]; exact hP) hS (by rw [← hv]) dX4_take_14
def fX4_free (s_thrown : Int32) (s_people : Int32) (s_acts : Int32) (q_page : Nat → Int32) (q_book : Nat → Int32) (a1 : Int32) : Option (Int32 × Int32 × Int32 × (Nat → Int32) × (Nat → Int32)) :=
  (fX4_noPerson s_people a1).bind fun o1 => ((if o1 = 0 then ck 14 17 (ck 15 17 ((fX4_has ((q_page (Int32.toNatClampNeg 14)) ||| (q_page (Int32.toNatClampNeg 15))) a1).bind fun o6 => ((if o6 = 0 then (fX4_note s_acts q_page q_book).bind fun o9 => (ck 14 17 (ck 14 17 (ck 14 17 ((fX4_many ((upd q_page (Int32.toNatClampNeg 14) ((q_page (Int32.toNatClampNeg 14)) ||| ((1 : Int32) <<< (a1 &&& 31)))) (Int32.toNatClampNeg 14))).bind fun o14 => (some (o14, 0, o9.1, (upd q_page (Int32.toNatClampNeg 14) ((q_page (Int32.toNatClampNeg 14)) ||| ((1 : Int32) <<< (a1 &&& 31)))), o9.2)))))) else some ((-3), 0, s_acts, q_page, q_book))))) else some ((-1), 0, s_acts, q_page, q_book)))
set_option maxHeartbeats 4000000 in
set_option maxRecDepth 100000 in
theorem ctX4_free (l : Launch) (G : GG) (h0 : Nat) (ad : Nat → Nat) (s_thrown : Int32) (s_textSize : Int32) (s_place : Int32) (s_people : Int32) (s_readPeople : Int32) (s_acts : Int32) (s_seen : Int32) (s_seed : Int64) (s_rowSize : Int32) (s_feedMany : Int32) (s_feedRow : Int32) (s_restMany : Int32) (s_restFirst : Int32) (q_page : Nat → Int32) (q_book : Nat → Int32) (a1 : Int32) (out : Int32 × Int32 × Int32 × (Nat → Int32) × (Nat → Int32)) (hf : fX4_free s_thrown s_people s_acts q_page q_book a1 = some out) : Met l yX4_free wsX4_free ({ frames := 2, cells := 0, slots := 0, locals := 46 }) (PcW G [.ref h0, .int a1] [(h0, moE ad s_thrown s_textSize s_place s_people s_readPeople s_acts s_seen s_seed s_rowSize s_feedMany s_feedRow s_restMany s_restFirst), (ad 10, aI G 17 q_page), (ad 12, aI G 238 q_book)]) (QiW G [(h0, moE ad s_thrown s_textSize s_place s_people s_readPeople s_acts s_seen s_seed s_rowSize s_feedMany s_feedRow s_restMany s_restFirst), (ad 10, aI G 17 q_page), (ad 12, aI G 238 q_book)] [(h0, moE ad out.2.1 s_textSize s_place s_people s_readPeople out.2.2.1 s_seen s_seed s_rowSize s_feedMany s_feedRow s_restMany s_restFirst), (ad 10, aI G 17 out.2.2.2.1), (ad 12, aI G 238 out.2.2.2.2)] out.1) 0 0 (inA [(h0, moE ad s_thrown s_textSize s_place s_people s_readPeople s_acts s_seen s_seed s_rowSize s_feedMany s_feedRow s_restMany s_restFirst), (ad 10, aI G 17 q_page), (ad 12, aI G 238 q_book)]) := by
  refine mk_Wi (cc := cX4_free) (maxL := 2) (by decide) rfl (Nat.le_of_ble_eq_true rfl) ?_
  intro p e s m args below meth c Q ls A S hP hK hD hl hret
  obtain ⟨hx, hb, hml, hown, hts⟩ := S
  have hown : s.vm.findClass RX4 = some m.cls := hown
  have kl_60 := hts (.fieldLink RX4 60 "ArrestOrderModel" "thrown" "I") (by decide +kernel)
  have hi_X4 : ∀ w ∈ wsX40, w ∈ wsX4_free := fun _ h => List.mem_cons_of_mem _ (List.mem_append_right _ h)
  have kl_25 := hts (.fieldLink RX4 25 "ArrestOrderModel" "page" "[I") (by decide +kernel)
  have hS : va_S A s.heap s.heap [] := va_S.rf
  have hl : lv_has ls 2 [(0, .ref h0), (1, .int a1)] := hl
  refine lv_aload_n hx hb dX4_free_0 rfl (lv_at hl 0 rfl) ?_
  refine lv_iconst (v := 0) hx hb dX4_free_1 (by decide) ?_
  refine va_put (D := gD G) (ci := 4) (v := .int 0) (ty := .int) (C := RX4) (T := TX4) (N := 29) hx hb hts hi_X4 tyX4 tyX4_ok nmX4 hown hK.1 hP hD hS 0 rfl rfl 0 (by decide) kl_60 (fun _ h9 => h9) rfl (tyX4_ok 0 (by decide)) rfl rfl (Nat.le_of_ble_eq_true rfl) dX4_free_2 (fun H locs hP hD hS => ?_)
  have hP : va_P (gD G) vwCl [(h0, moE ad 0 s_textSize s_place s_people s_readPeople s_acts s_seen s_seed s_rowSize s_feedMany s_feedRow s_restMany s_restFirst), (ad 10, aI G 17 q_page), (ad 12, aI G 238 q_book)] H := hP
  have hD : va_D A [(h0, moE ad 0 s_textSize s_place s_people s_readPeople s_acts s_seen s_seed s_rowSize s_feedMany s_feedRow s_restMany s_restFirst), (ad 10, aI G 17 q_page), (ad 12, aI G 238 q_book)] := hD
  refine lv_aload_n hx hb dX4_free_5 rfl (lv_at hl 0 rfl) ?_
  refine lv_iload_n hx hb dX4_free_6 rfl (lv_at hl 1 rfl) ?_
  obtain ⟨o1, hc2, hf⟩ := bindS hf
  refine ro_i (va_runV (C := RX4) (As := [.int a1]) (rest := []) ⟨hx, hb, hml, hown, hts⟩ (ctX4_noPerson l G h0 ad 0 s_textSize s_place s_people s_readPeople s_acts s_seen s_seed s_rowSize s_feedMany s_feedRow s_restMany s_restFirst a1 o1 hc2) (cwV 1 hts gX4_free_X4_noPerson rfl rfl rfl (by decide +kernel) ⟨Nat.le_of_ble_eq_true rfl, Nat.le_of_ble_eq_true rfl⟩) (preR_V (q0 := 0) (ci := 4) (hP.sub (ws' := [(h0, moE ad 0 s_textSize s_place s_people s_readPeople s_acts s_seen s_seed s_rowSize s_feedMany s_feedRow s_restMany s_restFirst)]) [0] rfl) hK rfl rfl) rfl rfl hl.1 rfl (lv_room (Nat.le_of_ble_eq_true rfl)) dX4_free_7 ⟨Nat.zero_le _, Nat.zero_le _⟩) hS hP (fun H locs hP hS => ?_)
  refine lv_if_eq (tgt := 15) hx hb dX4_free_10 (by decide) (fun c3 => ?_) (fun c3 => ?_)
  · have hf := iteT hf c3
    refine lv_aload_n hx hb dX4_free_15 rfl (lv_at hl 0 rfl) ?_
    refine va_get (D := gD G) (ci := 4) (v := .ref (ad 10)) (C := RX4) (T := TX4) (N := 29) hx hb hts hi_X4 hown hK.1 hP 0 rfl rfl 10 (by decide) kl_25 (fun _ h9 => h9) rfl dX4_free_16 ?_
    refine lv_bipush (v := 14) hx hb dX4_free_19 (by decide) ?_
    obtain ⟨hi4, hf⟩ := ckS hf
    refine va_iald hx hb hK.1 hP 1 0 rfl rfl hi4 dX4_free_21 ?_
    refine lv_aload_n hx hb dX4_free_22 rfl (lv_at hl 0 rfl) ?_
    refine va_get (D := gD G) (ci := 4) (v := .ref (ad 10)) (C := RX4) (T := TX4) (N := 29) hx hb hts hi_X4 hown hK.1 hP 0 rfl rfl 10 (by decide) kl_25 (fun _ h9 => h9) rfl dX4_free_23 ?_
    refine lv_bipush (v := 15) hx hb dX4_free_26 (by decide) ?_
    obtain ⟨hi5, hf⟩ := ckS hf
    refine va_iald hx hb hK.1 hP 1 0 rfl rfl hi5 dX4_free_28 ?_
    refine lv_ior hx hb dX4_free_29 ?_
    refine lv_iload_n hx hb dX4_free_30 rfl (lv_at hl 1 rfl) ?_
    obtain ⟨o6, hc7, hf⟩ := bindS hf
    refine ro_i (va_runS (As := [.int ((q_page (Int32.toNatClampNeg 14)) ||| (q_page (Int32.toNatClampNeg 15))), .int a1]) (rest := []) ⟨hx, hb, hml, hown, hts⟩ (ctX4_has l G ((q_page (Int32.toNatClampNeg 14)) ||| (q_page (Int32.toNatClampNeg 15))) a1 o6 hc7) (va_cwS 2 hts gX4_free_X4_has rfl rfl rfl (by decide +kernel) ⟨Nat.le_of_ble_eq_true rfl, Nat.le_of_ble_eq_true rfl⟩) (preR_S (hP.sub (ws' := []) [] rfl) hK) rfl rfl hl.1 rfl (lv_room (Nat.le_of_ble_eq_true rfl)) dX4_free_31 ⟨Nat.zero_le _, Nat.zero_le _⟩) hS hP (fun H locs hP hS => ?_)
    refine lv_if_eq (tgt := 40) hx hb dX4_free_34 (by decide) (fun c8 => ?_) (fun c8 => ?_)
    · have hf := iteT hf c8
      refine lv_aload_n hx hb dX4_free_40 rfl (lv_at hl 0 rfl) ?_
      obtain ⟨o9, hc10, hf⟩ := bindS hf
      refine rw_v (va_runV (C := RX4) (As := []) (rest := []) ⟨hx, hb, hml, hown, hts⟩ (ctX4_note l G h0 ad 0 s_textSize s_place s_people s_readPeople s_acts s_seen s_seed s_rowSize s_feedMany s_feedRow s_restMany s_restFirst q_page q_book o9 hc10) (cwV 0 hts gX4_free_X4_note rfl rfl rfl (by decide +kernel) ⟨Nat.le_of_ble_eq_true rfl, Nat.le_of_ble_eq_true rfl⟩) (preW_V (q0 := 0) (ci := 4) (hP.sub (ws' := [(h0, moE ad 0 s_textSize s_place s_people s_readPeople s_acts s_seen s_seed s_rowSize s_feedMany s_feedRow s_restMany s_restFirst), (ad 10, aI G 17 q_page), (ad 12, aI G 238 q_book)]) [0, 1, 2] rfl) (hD.sub (ws' := [(h0, moE ad 0 s_textSize s_place s_people s_readPeople s_acts s_seen s_seed s_rowSize s_feedMany s_feedRow s_restMany s_restFirst), (ad 10, aI G 17 q_page), (ad 12, aI G 238 q_book)]) [0, 1, 2] (by decide) rfl) hK rfl rfl) rfl rfl hl.1 rfl (lv_room (Nat.le_of_ble_eq_true rfl)) dX4_free_41 ⟨Nat.zero_le _, Nat.zero_le _⟩) hS hP hD [0, 1, 2] rfl rfl rfl (fun H locs hP hD hS => ?_)
      have hP : va_P (gD G) vwCl [(h0, moE ad 0 s_textSize s_place s_people s_readPeople o9.1 s_seen s_seed s_rowSize s_feedMany s_feedRow s_restMany s_restFirst), (ad 10, aI G 17 q_page), (ad 12, aI G 238 o9.2)] H := hP
      have hD : va_D A [(h0, moE ad 0 s_textSize s_place s_people s_readPeople o9.1 s_seen s_seed s_rowSize s_feedMany s_feedRow s_restMany s_restFirst), (ad 10, aI G 17 q_page), (ad 12, aI G 238 o9.2)] := hD
      refine lv_aload_n hx hb dX4_free_44 rfl (lv_at hl 0 rfl) ?_
      refine va_get (D := gD G) (ci := 4) (v := .ref (ad 10)) (C := RX4) (T := TX4) (N := 29) hx hb hts hi_X4 hown hK.1 hP 0 rfl rfl 10 (by decide) kl_25 (fun _ h9 => h9) rfl dX4_free_45 ?_
      refine lv_bipush (v := 14) hx hb dX4_free_48 (by decide) ?_
      refine lv_dup2_11 hx hb dX4_free_50 rfl rfl ?_
      obtain ⟨hi11, hf⟩ := ckS hf
      refine va_iald hx hb hK.1 hP 1 0 rfl rfl hi11 dX4_free_51 ?_
      refine lv_iconst (v := 1) hx hb dX4_free_52 (by decide) ?_
      refine lv_iload_n hx hb dX4_free_53 rfl (lv_at hl 1 rfl) ?_
      refine lv_ishl hx hb dX4_free_54 ?_
      refine lv_ior hx hb dX4_free_55 ?_
      obtain ⟨hi12, hf⟩ := ckS hf
      refine va_iast hx hb hK.1 hP hD hS 1 0 rfl rfl hi12 dX4_free_56 (fun H locs hP hD hS => ?_)
      have hP : va_P (gD G) vwCl [(h0, moE ad 0 s_textSize s_place s_people s_readPeople o9.1 s_seen s_seed s_rowSize s_feedMany s_feedRow s_restMany s_restFirst), (ad 10, aI G 17 (upd q_page (Int32.toNatClampNeg 14) ((q_page (Int32.toNatClampNeg 14)) ||| ((1 : Int32) <<< (a1 &&& 31))))), (ad 12, aI G 238 o9.2)] H := hP
      have hD : va_D A [(h0, moE ad 0 s_textSize s_place s_people s_readPeople o9.1 s_seen s_seed s_rowSize s_feedMany s_feedRow s_restMany s_restFirst), (ad 10, aI G 17 (upd q_page (Int32.toNatClampNeg 14) ((q_page (Int32.toNatClampNeg 14)) ||| ((1 : Int32) <<< (a1 &&& 31))))), (ad 12, aI G 238 o9.2)] := hD
      refine lv_aload_n hx hb dX4_free_57 rfl (lv_at hl 0 rfl) ?_
      refine va_get (D := gD G) (ci := 4) (v := .ref (ad 10)) (C := RX4) (T := TX4) (N := 29) hx hb hts hi_X4 hown hK.1 hP 0 rfl rfl 10 (by decide) kl_25 (fun _ h9 => h9) rfl dX4_free_58 ?_
      refine lv_bipush (v := 14) hx hb dX4_free_61 (by decide) ?_
      obtain ⟨hi13, hf⟩ := ckS hf
      refine va_iald hx hb hK.1 hP 1 0 rfl rfl hi13 dX4_free_63 ?_
      obtain ⟨o14, hc15, hf⟩ := bindS hf
      refine ro_i (va_runS (As := [.int ((upd q_page (Int32.toNatClampNeg 14) ((q_page (Int32.toNatClampNeg 14)) ||| ((1 : Int32) <<< (a1 &&& 31)))) (Int32.toNatClampNeg 14))]) (rest := []) ⟨hx, hb, hml, hown, hts⟩ (ctX4_many l G ((upd q_page (Int32.toNatClampNeg 14) ((q_page (Int32.toNatClampNeg 14)) ||| ((1 : Int32) <<< (a1 &&& 31)))) (Int32.toNatClampNeg 14)) o14 hc15) (va_cwS 1 hts gX4_free_X4_many rfl rfl rfl (by decide +kernel) ⟨Nat.le_of_ble_eq_true rfl, Nat.le_of_ble_eq_true rfl⟩) (preR_S (hP.sub (ws' := []) [] rfl) hK) rfl rfl hl.1 rfl (lv_room (Nat.le_of_ble_eq_true rfl)) dX4_free_64 ⟨Nat.zero_le _, Nat.zero_le _⟩) hS hP (fun H locs hP hS => ?_)
      have hv := Option.some.inj hf
      exact hret _ _ _ _ _ (by rw [← hv]; exact hP) hS (by rw [← hv]) dX4_free_67
    · have hf := iteF hf c8
      refine lv_bipush (v := (-3)) hx hb dX4_free_37 (by decide) ?_
      have hv := Option.some.inj hf
      exact hret _ _ _ _ _ (by rw [← hv]; exact hP) hS (by rw [← hv]) dX4_free_39
  · have hf := iteF hf c3
    refine lv_iconst (v := (-1)) hx hb dX4_free_13 (by decide) ?_
    have hv := Option.some.inj hf
    exact hret _ _ _ _ _ (by rw [← hv]; exact hP) hS (by rw [← hv]) dX4_free_14
def fX4_goDie (q_a0 : Nat → Int32) (a1 : Int32) : Option ((Nat → Int32)) :=
  ck 15 17 (ck 15 17 (ck 14 17 (ck 14 17 (some (upd (upd q_a0 (Int32.toNatClampNeg 15) ((q_a0 (Int32.toNatClampNeg 15)) ||| ((1 : Int32) <<< (a1 &&& 31)))) (Int32.toNatClampNeg 14) (((upd q_a0 (Int32.toNatClampNeg 15) ((q_a0 (Int32.toNatClampNeg 15)) ||| ((1 : Int32) <<< (a1 &&& 31)))) (Int32.toNatClampNeg 14)) &&& (((1 : Int32) <<< (a1 &&& 31)) ^^^ (-1))))))))
set_option maxHeartbeats 4000000 in
set_option maxRecDepth 100000 in
theorem ctX4_goDie (l : Launch) (G : GG) (h_a0 : Nat) (q_a0 : Nat → Int32) (a1 : Int32) (out : (Nat → Int32)) (hf : fX4_goDie q_a0 a1 = some out) : Met l yX4_goDie wsX4_goDie ({ frames := 0, cells := 0, slots := 0, locals := 0 }) (PcW G [.ref h_a0, .int a1] [(h_a0, aI G 17 q_a0)]) (QvW G [(h_a0, aI G 17 q_a0)] [(h_a0, aI G 17 out)]) 0 0 (inA [(h_a0, aI G 17 q_a0)]) := by
  refine mk_Wv (cc := cX4_goDie) (maxL := 2) (by decide) rfl (Nat.le_of_ble_eq_true rfl) ?_
  intro p e s m args below meth c Q ls A S hP hK hD hl hret
  obtain ⟨hx, hb, hml, hown, hts⟩ := S
  have hown : s.vm.findClass RX4 = some m.cls := hown
  have hS : va_S A s.heap s.heap [] := va_S.rf
  have hl : lv_has ls 2 [(0, .ref h_a0), (1, .int a1)] := hl
  refine lv_aload_n hx hb dX4_goDie_0 rfl (lv_at hl 0 rfl) ?_
  refine lv_bipush (v := 15) hx hb dX4_goDie_1 (by decide) ?_
  refine lv_dup2_11 hx hb dX4_goDie_3 rfl rfl ?_
  obtain ⟨hi1, hf⟩ := ckS hf
  refine va_iald hx hb hK.1 hP 0 0 rfl rfl hi1 dX4_goDie_4 ?_
  refine lv_iconst (v := 1) hx hb dX4_goDie_5 (by decide) ?_
  refine lv_iload_n hx hb dX4_goDie_6 rfl (lv_at hl 1 rfl) ?_
  refine lv_ishl hx hb dX4_goDie_7 ?_
  refine lv_ior hx hb dX4_goDie_8 ?_
  obtain ⟨hi2, hf⟩ := ckS hf
  refine va_iast hx hb hK.1 hP hD hS 0 0 rfl rfl hi2 dX4_goDie_9 (fun H locs hP hD hS => ?_)
  have hP : va_P (gD G) vwCl [(h_a0, aI G 17 (upd q_a0 (Int32.toNatClampNeg 15) ((q_a0 (Int32.toNatClampNeg 15)) ||| ((1 : Int32) <<< (a1 &&& 31)))))] H := hP
  have hD : va_D A [(h_a0, aI G 17 (upd q_a0 (Int32.toNatClampNeg 15) ((q_a0 (Int32.toNatClampNeg 15)) ||| ((1 : Int32) <<< (a1 &&& 31)))))] := hD
  refine lv_aload_n hx hb dX4_goDie_10 rfl (lv_at hl 0 rfl) ?_
  refine lv_bipush (v := 14) hx hb dX4_goDie_11 (by decide) ?_
  refine lv_dup2_11 hx hb dX4_goDie_13 rfl rfl ?_
  obtain ⟨hi3, hf⟩ := ckS hf
  refine va_iald hx hb hK.1 hP 0 0 rfl rfl hi3 dX4_goDie_14 ?_
  refine lv_iconst (v := 1) hx hb dX4_goDie_15 (by decide) ?_
  refine lv_iload_n hx hb dX4_goDie_16 rfl (lv_at hl 1 rfl) ?_
  refine lv_ishl hx hb dX4_goDie_17 ?_
  refine lv_iconst (v := (-1)) hx hb dX4_goDie_18 (by decide) ?_
  refine lv_ixor hx hb dX4_goDie_19 ?_
  refine lv_iand hx hb dX4_goDie_20 ?_
  obtain ⟨hi4, hf⟩ := ckS hf
  refine va_iast hx hb hK.1 hP hD hS 0 0 rfl rfl hi4 dX4_goDie_21 (fun H locs hP hD hS => ?_)
  have hP : va_P (gD G) vwCl [(h_a0, aI G 17 (upd (upd q_a0 (Int32.toNatClampNeg 15) ((q_a0 (Int32.toNatClampNeg 15)) ||| ((1 : Int32) <<< (a1 &&& 31)))) (Int32.toNatClampNeg 14) (((upd q_a0 (Int32.toNatClampNeg 15) ((q_a0 (Int32.toNatClampNeg 15)) ||| ((1 : Int32) <<< (a1 &&& 31)))) (Int32.toNatClampNeg 14)) &&& (((1 : Int32) <<< (a1 &&& 31)) ^^^ (-1)))))] H := hP
  have hD : va_D A [(h_a0, aI G 17 (upd (upd q_a0 (Int32.toNatClampNeg 15) ((q_a0 (Int32.toNatClampNeg 15)) ||| ((1 : Int32) <<< (a1 &&& 31)))) (Int32.toNatClampNeg 14) (((upd q_a0 (Int32.toNatClampNeg 15) ((q_a0 (Int32.toNatClampNeg 15)) ||| ((1 : Int32) <<< (a1 &&& 31)))) (Int32.toNatClampNeg 14)) &&& (((1 : Int32) <<< (a1 &&& 31)) ^^^ (-1)))))] := hD
  have hv := Option.some.inj hf
  exact hret _ _ _ _ (by rw [← hv]; exact hP) hS dX4_goDie_22
def fX4_die (s_thrown : Int32) (s_people : Int32) (s_acts : Int32) (q_page : Nat → Int32) (q_book : Nat → Int32) (a1 : Int32) : Option (Int32 × Int32 × Int32 × (Nat → Int32) × (Nat → Int32)) :=
  (fX4_noPerson s_people a1).bind fun o1 => ((if o1 = 0 then ck 15 17 ((fX4_has (q_page (Int32.toNatClampNeg 15)) a1).bind fun o5 => ((if o5 = 0 then (fX4_note s_acts q_page q_book).bind fun o8 => ((fX4_goDie q_page a1).bind fun o10 => (ck 14 17 ((fX4_many (o10 (Int32.toNatClampNeg 14))).bind fun o13 => (some (o13, 0, o8.1, o10, o8.2))))) else some ((-3), 0, s_acts, q_page, q_book)))) else some ((-1), 0, s_acts, q_page, q_book)))
set_option maxHeartbeats 4000000 in
set_option maxRecDepth 100000 in
theorem ctX4_die (l : Launch) (G : GG) (h0 : Nat) (ad : Nat → Nat) (s_thrown : Int32) (s_textSize : Int32) (s_place : Int32) (s_people : Int32) (s_readPeople : Int32) (s_acts : Int32) (s_seen : Int32) (s_seed : Int64) (s_rowSize : Int32) (s_feedMany : Int32) (s_feedRow : Int32) (s_restMany : Int32) (s_restFirst : Int32) (q_page : Nat → Int32) (q_book : Nat → Int32) (a1 : Int32) (out : Int32 × Int32 × Int32 × (Nat → Int32) × (Nat → Int32)) (hf : fX4_die s_thrown s_people s_acts q_page q_book a1 = some out) : Met l yX4_die wsX4_die ({ frames := 2, cells := 0, slots := 0, locals := 46 }) (PcW G [.ref h0, .int a1] [(h0, moE ad s_thrown s_textSize s_place s_people s_readPeople s_acts s_seen s_seed s_rowSize s_feedMany s_feedRow s_restMany s_restFirst), (ad 10, aI G 17 q_page), (ad 12, aI G 238 q_book)]) (QiW G [(h0, moE ad s_thrown s_textSize s_place s_people s_readPeople s_acts s_seen s_seed s_rowSize s_feedMany s_feedRow s_restMany s_restFirst), (ad 10, aI G 17 q_page), (ad 12, aI G 238 q_book)] [(h0, moE ad out.2.1 s_textSize s_place s_people s_readPeople out.2.2.1 s_seen s_seed s_rowSize s_feedMany s_feedRow s_restMany s_restFirst), (ad 10, aI G 17 out.2.2.2.1), (ad 12, aI G 238 out.2.2.2.2)] out.1) 0 0 (inA [(h0, moE ad s_thrown s_textSize s_place s_people s_readPeople s_acts s_seen s_seed s_rowSize s_feedMany s_feedRow s_restMany s_restFirst), (ad 10, aI G 17 q_page), (ad 12, aI G 238 q_book)]) := by
  refine mk_Wi (cc := cX4_die) (maxL := 2) (by decide) rfl (Nat.le_of_ble_eq_true rfl) ?_
  intro p e s m args below meth c Q ls A S hP hK hD hl hret
  obtain ⟨hx, hb, hml, hown, hts⟩ := S
  have hown : s.vm.findClass RX4 = some m.cls := hown
  have kl_60 := hts (.fieldLink RX4 60 "ArrestOrderModel" "thrown" "I") (by decide +kernel)
  have hi_X4 : ∀ w ∈ wsX40, w ∈ wsX4_die := fun _ h => List.mem_cons_of_mem _ (List.mem_append_right _ h)
  have kl_25 := hts (.fieldLink RX4 25 "ArrestOrderModel" "page" "[I") (by decide +kernel)
  have hS : va_S A s.heap s.heap [] := va_S.rf
  have hl : lv_has ls 2 [(0, .ref h0), (1, .int a1)] := hl
  refine lv_aload_n hx hb dX4_die_0 rfl (lv_at hl 0 rfl) ?_
  refine lv_iconst (v := 0) hx hb dX4_die_1 (by decide) ?_
  refine va_put (D := gD G) (ci := 4) (v := .int 0) (ty := .int) (C := RX4) (T := TX4) (N := 29) hx hb hts hi_X4 tyX4 tyX4_ok nmX4 hown hK.1 hP hD hS 0 rfl rfl 0 (by decide) kl_60 (fun _ h9 => h9) rfl (tyX4_ok 0 (by decide)) rfl rfl (Nat.le_of_ble_eq_true rfl) dX4_die_2 (fun H locs hP hD hS => ?_)
  have hP : va_P (gD G) vwCl [(h0, moE ad 0 s_textSize s_place s_people s_readPeople s_acts s_seen s_seed s_rowSize s_feedMany s_feedRow s_restMany s_restFirst), (ad 10, aI G 17 q_page), (ad 12, aI G 238 q_book)] H := hP
  have hD : va_D A [(h0, moE ad 0 s_textSize s_place s_people s_readPeople s_acts s_seen s_seed s_rowSize s_feedMany s_feedRow s_restMany s_restFirst), (ad 10, aI G 17 q_page), (ad 12, aI G 238 q_book)] := hD
  refine lv_aload_n hx hb dX4_die_5 rfl (lv_at hl 0 rfl) ?_
  refine lv_iload_n hx hb dX4_die_6 rfl (lv_at hl 1 rfl) ?_
  obtain ⟨o1, hc2, hf⟩ := bindS hf
  refine ro_i (va_runV (C := RX4) (As := [.int a1]) (rest := []) ⟨hx, hb, hml, hown, hts⟩ (ctX4_noPerson l G h0 ad 0 s_textSize s_place s_people s_readPeople s_acts s_seen s_seed s_rowSize s_feedMany s_feedRow s_restMany s_restFirst a1 o1 hc2) (cwV 1 hts gX4_die_X4_noPerson rfl rfl rfl (by decide +kernel) ⟨Nat.le_of_ble_eq_true rfl, Nat.le_of_ble_eq_true rfl⟩) (preR_V (q0 := 0) (ci := 4) (hP.sub (ws' := [(h0, moE ad 0 s_textSize s_place s_people s_readPeople s_acts s_seen s_seed s_rowSize s_feedMany s_feedRow s_restMany s_restFirst)]) [0] rfl) hK rfl rfl) rfl rfl hl.1 rfl (lv_room (Nat.le_of_ble_eq_true rfl)) dX4_die_7 ⟨Nat.zero_le _, Nat.zero_le _⟩) hS hP (fun H locs hP hS => ?_)
  refine lv_if_eq (tgt := 15) hx hb dX4_die_10 (by decide) (fun c3 => ?_) (fun c3 => ?_)
  · have hf := iteT hf c3
    refine lv_aload_n hx hb dX4_die_15 rfl (lv_at hl 0 rfl) ?_
    refine va_get (D := gD G) (ci := 4) (v := .ref (ad 10)) (C := RX4) (T := TX4) (N := 29) hx hb hts hi_X4 hown hK.1 hP 0 rfl rfl 10 (by decide) kl_25 (fun _ h9 => h9) rfl dX4_die_16 ?_
    refine lv_bipush (v := 15) hx hb dX4_die_19 (by decide) ?_
    obtain ⟨hi4, hf⟩ := ckS hf
    refine va_iald hx hb hK.1 hP 1 0 rfl rfl hi4 dX4_die_21 ?_
    refine lv_iload_n hx hb dX4_die_22 rfl (lv_at hl 1 rfl) ?_
    obtain ⟨o5, hc6, hf⟩ := bindS hf
    refine ro_i (va_runS (As := [.int (q_page (Int32.toNatClampNeg 15)), .int a1]) (rest := []) ⟨hx, hb, hml, hown, hts⟩ (ctX4_has l G (q_page (Int32.toNatClampNeg 15)) a1 o5 hc6) (va_cwS 2 hts gX4_die_X4_has rfl rfl rfl (by decide +kernel) ⟨Nat.le_of_ble_eq_true rfl, Nat.le_of_ble_eq_true rfl⟩) (preR_S (hP.sub (ws' := []) [] rfl) hK) rfl rfl hl.1 rfl (lv_room (Nat.le_of_ble_eq_true rfl)) dX4_die_23 ⟨Nat.zero_le _, Nat.zero_le _⟩) hS hP (fun H locs hP hS => ?_)
    refine lv_if_eq (tgt := 32) hx hb dX4_die_26 (by decide) (fun c7 => ?_) (fun c7 => ?_)
    · have hf := iteT hf c7
      refine lv_aload_n hx hb dX4_die_32 rfl (lv_at hl 0 rfl) ?_
      obtain ⟨o8, hc9, hf⟩ := bindS hf
      refine rw_v (va_runV (C := RX4) (As := []) (rest := []) ⟨hx, hb, hml, hown, hts⟩ (ctX4_note l G h0 ad 0 s_textSize s_place s_people s_readPeople s_acts s_seen s_seed s_rowSize s_feedMany s_feedRow s_restMany s_restFirst q_page q_book o8 hc9) (cwV 0 hts gX4_die_X4_note rfl rfl rfl (by decide +kernel) ⟨Nat.le_of_ble_eq_true rfl, Nat.le_of_ble_eq_true rfl⟩) (preW_V (q0 := 0) (ci := 4) (hP.sub (ws' := [(h0, moE ad 0 s_textSize s_place s_people s_readPeople s_acts s_seen s_seed s_rowSize s_feedMany s_feedRow s_restMany s_restFirst), (ad 10, aI G 17 q_page), (ad 12, aI G 238 q_book)]) [0, 1, 2] rfl) (hD.sub (ws' := [(h0, moE ad 0 s_textSize s_place s_people s_readPeople s_acts s_seen s_seed s_rowSize s_feedMany s_feedRow s_restMany s_restFirst), (ad 10, aI G 17 q_page), (ad 12, aI G 238 q_book)]) [0, 1, 2] (by decide) rfl) hK rfl rfl) rfl rfl hl.1 rfl (lv_room (Nat.le_of_ble_eq_true rfl)) dX4_die_33 ⟨Nat.zero_le _, Nat.zero_le _⟩) hS hP hD [0, 1, 2] rfl rfl rfl (fun H locs hP hD hS => ?_)
      have hP : va_P (gD G) vwCl [(h0, moE ad 0 s_textSize s_place s_people s_readPeople o8.1 s_seen s_seed s_rowSize s_feedMany s_feedRow s_restMany s_restFirst), (ad 10, aI G 17 q_page), (ad 12, aI G 238 o8.2)] H := hP
      have hD : va_D A [(h0, moE ad 0 s_textSize s_place s_people s_readPeople o8.1 s_seen s_seed s_rowSize s_feedMany s_feedRow s_restMany s_restFirst), (ad 10, aI G 17 q_page), (ad 12, aI G 238 o8.2)] := hD
      refine lv_aload_n hx hb dX4_die_36 rfl (lv_at hl 0 rfl) ?_
      refine va_get (D := gD G) (ci := 4) (v := .ref (ad 10)) (C := RX4) (T := TX4) (N := 29) hx hb hts hi_X4 hown hK.1 hP 0 rfl rfl 10 (by decide) kl_25 (fun _ h9 => h9) rfl dX4_die_37 ?_
      refine lv_iload_n hx hb dX4_die_40 rfl (lv_at hl 1 rfl) ?_
      obtain ⟨o10, hc11, hf⟩ := bindS hf
      refine rw_v (va_runS (As := [.ref (ad 10), .int a1]) (rest := []) ⟨hx, hb, hml, hown, hts⟩ (ctX4_goDie l G (ad 10) q_page a1 o10 hc11) (va_cwS 2 hts gX4_die_X4_goDie rfl rfl rfl (by decide +kernel) ⟨Nat.le_of_ble_eq_true rfl, Nat.le_of_ble_eq_true rfl⟩) (preW_S (hP.sub (ws' := [(ad 10, aI G 17 q_page)]) [1] rfl) (hD.sub (ws' := [(ad 10, aI G 17 q_page)]) [1] (by decide) rfl) hK) rfl rfl hl.1 rfl (lv_room (Nat.le_of_ble_eq_true rfl)) dX4_die_41 ⟨Nat.zero_le _, Nat.zero_le _⟩) hS hP hD [1] rfl rfl rfl (fun H locs hP hD hS => ?_)
      have hP : va_P (gD G) vwCl [(h0, moE ad 0 s_textSize s_place s_people s_readPeople o8.1 s_seen s_seed s_rowSize s_feedMany s_feedRow s_restMany s_restFirst), (ad 10, aI G 17 o10), (ad 12, aI G 238 o8.2)] H := hP
      have hD : va_D A [(h0, moE ad 0 s_textSize s_place s_people s_readPeople o8.1 s_seen s_seed s_rowSize s_feedMany s_feedRow s_restMany s_restFirst), (ad 10, aI G 17 o10), (ad 12, aI G 238 o8.2)] := hD
      refine lv_aload_n hx hb dX4_die_44 rfl (lv_at hl 0 rfl) ?_
      refine va_get (D := gD G) (ci := 4) (v := .ref (ad 10)) (C := RX4) (T := TX4) (N := 29) hx hb hts hi_X4 hown hK.1 hP 0 rfl rfl 10 (by decide) kl_25 (fun _ h9 => h9) rfl dX4_die_45 ?_
      refine lv_bipush (v := 14) hx hb dX4_die_48 (by decide) ?_
      obtain ⟨hi12, hf⟩ := ckS hf
      refine va_iald hx hb hK.1 hP 1 0 rfl rfl hi12 dX4_die_50 ?_
      obtain ⟨o13, hc14, hf⟩ := bindS hf
      refine ro_i (va_runS (As := [.int (o10 (Int32.toNatClampNeg 14))]) (rest := []) ⟨hx, hb, hml, hown, hts⟩ (ctX4_many l G (o10 (Int32.toNatClampNeg 14)) o13 hc14) (va_cwS 1 hts gX4_die_X4_many rfl rfl rfl (by decide +kernel) ⟨Nat.le_of_ble_eq_true rfl, Nat.le_of_ble_eq_true rfl⟩) (preR_S (hP.sub (ws' := []) [] rfl) hK) rfl rfl hl.1 rfl (lv_room (Nat.le_of_ble_eq_true rfl)) dX4_die_51 ⟨Nat.zero_le _, Nat.zero_le _⟩) hS hP (fun H locs hP hS => ?_)
      have hv := Option.some.inj hf
      exact hret _ _ _ _ _ (by rw [← hv]; exact hP) hS (by rw [← hv]) dX4_die_54
    · have hf := iteF hf c7
      refine lv_bipush (v := (-3)) hx hb dX4_die_29 (by decide) ?_
      have hv := Option.some.inj hf
      exact hret _ _ _ _ _ (by rw [← hv]; exact hP) hS (by rw [← hv]) dX4_die_31
  · have hf := iteF hf c3
    refine lv_iconst (v := (-1)) hx hb dX4_die_13 (by decide) ?_
    have hv := Option.some.inj hf
    exact hret _ _ _ _ _ (by rw [← hv]; exact hP) hS (by rw [← hv]) dX4_die_14
def fX4_feed (s_thrown : Int32) (s_people : Int32) (s_acts : Int32) (q_page : Nat → Int32) (q_book : Nat → Int32) (a1 : Int32) (a2 : Int32) : Option (Int32 × Int32 × Int32 × (Nat → Int32) × (Nat → Int32)) :=
  (fX4_noPerson s_people a1).bind fun o1 => ((if o1 = 0 then (fX4_noPerson s_people a2).bind fun o4 => ((if o4 = 0 then (if a1 = a2 then some ((-2), 0, s_acts, q_page, q_book) else (fX4_note s_acts q_page q_book).bind fun o8 => (ck (7 + a1) 17 (ck (7 + a1) 17 (ck (7 + a1) 17 (some (((((upd q_page (Int32.toNatClampNeg (7 + a1)) ((q_page (Int32.toNatClampNeg (7 + a1))) ^^^ ((1 : Int32) <<< (a2 &&& 31)))) (Int32.toNatClampNeg (7 + a1))) >>> (a2 &&& 31)) &&& 1), 0, o8.1, (upd q_page (Int32.toNatClampNeg (7 + a1)) ((q_page (Int32.toNatClampNeg (7 + a1))) ^^^ ((1 : Int32) <<< (a2 &&& 31)))), o8.2)))))) else some ((-1), 0, s_acts, q_page, q_book))) else some ((-1), 0, s_acts, q_page, q_book)))
set_option maxHeartbeats 4000000 in
set_option maxRecDepth 100000 in
theorem ctX4_feed (l : Launch) (G : GG) (h0 : Nat) (ad : Nat → Nat) (s_thrown : Int32) (s_textSize : Int32) (s_place : Int32) (s_people : Int32) (s_readPeople : Int32) (s_acts : Int32) (s_seen : Int32) (s_seed : Int64) (s_rowSize : Int32) (s_feedMany : Int32) (s_feedRow : Int32) (s_restMany : Int32) (s_restFirst : Int32) (q_page : Nat → Int32) (q_book : Nat → Int32) (a1 : Int32) (a2 : Int32) (out : Int32 × Int32 × Int32 × (Nat → Int32) × (Nat → Int32)) (hf : fX4_feed s_thrown s_people s_acts q_page q_book a1 a2 = some out) : Met l yX4_feed wsX4_feed ({ frames := 2, cells := 0, slots := 0, locals := 46 }) (PcW G [.ref h0, .int a1, .int a2] [(h0, moE ad s_thrown s_textSize s_place s_people s_readPeople s_acts s_seen s_seed s_rowSize s_feedMany s_feedRow s_restMany s_restFirst), (ad 10, aI G 17 q_page), (ad 12, aI G 238 q_book)]) (QiW G [(h0, moE ad s_thrown s_textSize s_place s_people s_readPeople s_acts s_seen s_seed s_rowSize s_feedMany s_feedRow s_restMany s_restFirst), (ad 10, aI G 17 q_page), (ad 12, aI G 238 q_book)] [(h0, moE ad out.2.1 s_textSize s_place s_people s_readPeople out.2.2.1 s_seen s_seed s_rowSize s_feedMany s_feedRow s_restMany s_restFirst), (ad 10, aI G 17 out.2.2.2.1), (ad 12, aI G 238 out.2.2.2.2)] out.1) 0 0 (inA [(h0, moE ad s_thrown s_textSize s_place s_people s_readPeople s_acts s_seen s_seed s_rowSize s_feedMany s_feedRow s_restMany s_restFirst), (ad 10, aI G 17 q_page), (ad 12, aI G 238 q_book)]) := by
  refine mk_Wi (cc := cX4_feed) (maxL := 3) (by decide) rfl (Nat.le_of_ble_eq_true rfl) ?_
  intro p e s m args below meth c Q ls A S hP hK hD hl hret
  obtain ⟨hx, hb, hml, hown, hts⟩ := S
  have hown : s.vm.findClass RX4 = some m.cls := hown
  have kl_60 := hts (.fieldLink RX4 60 "ArrestOrderModel" "thrown" "I") (by decide +kernel)
  have hi_X4 : ∀ w ∈ wsX40, w ∈ wsX4_feed := fun _ h => List.mem_cons_of_mem _ (List.mem_append_right _ h)
  have kl_25 := hts (.fieldLink RX4 25 "ArrestOrderModel" "page" "[I") (by decide +kernel)
  have hS : va_S A s.heap s.heap [] := va_S.rf
  have hl : lv_has ls 3 [(0, .ref h0), (1, .int a1), (2, .int a2)] := hl
  refine lv_aload_n hx hb dX4_feed_0 rfl (lv_at hl 0 rfl) ?_
  refine lv_iconst (v := 0) hx hb dX4_feed_1 (by decide) ?_
  refine va_put (D := gD G) (ci := 4) (v := .int 0) (ty := .int) (C := RX4) (T := TX4) (N := 29) hx hb hts hi_X4 tyX4 tyX4_ok nmX4 hown hK.1 hP hD hS 0 rfl rfl 0 (by decide) kl_60 (fun _ h9 => h9) rfl (tyX4_ok 0 (by decide)) rfl rfl (Nat.le_of_ble_eq_true rfl) dX4_feed_2 (fun H locs hP hD hS => ?_)
  have hP : va_P (gD G) vwCl [(h0, moE ad 0 s_textSize s_place s_people s_readPeople s_acts s_seen s_seed s_rowSize s_feedMany s_feedRow s_restMany s_restFirst), (ad 10, aI G 17 q_page), (ad 12, aI G 238 q_book)] H := hP
  have hD : va_D A [(h0, moE ad 0 s_textSize s_place s_people s_readPeople s_acts s_seen s_seed s_rowSize s_feedMany s_feedRow s_restMany s_restFirst), (ad 10, aI G 17 q_page), (ad 12, aI G 238 q_book)] := hD
  refine lv_aload_n hx hb dX4_feed_5 rfl (lv_at hl 0 rfl) ?_
  refine lv_iload_n hx hb dX4_feed_6 rfl (lv_at hl 1 rfl) ?_
  obtain ⟨o1, hc2, hf⟩ := bindS hf
  refine ro_i (va_runV (C := RX4) (As := [.int a1]) (rest := []) ⟨hx, hb, hml, hown, hts⟩ (ctX4_noPerson l G h0 ad 0 s_textSize s_place s_people s_readPeople s_acts s_seen s_seed s_rowSize s_feedMany s_feedRow s_restMany s_restFirst a1 o1 hc2) (cwV 1 hts gX4_feed_X4_noPerson rfl rfl rfl (by decide +kernel) ⟨Nat.le_of_ble_eq_true rfl, Nat.le_of_ble_eq_true rfl⟩) (preR_V (q0 := 0) (ci := 4) (hP.sub (ws' := [(h0, moE ad 0 s_textSize s_place s_people s_readPeople s_acts s_seen s_seed s_rowSize s_feedMany s_feedRow s_restMany s_restFirst)]) [0] rfl) hK rfl rfl) rfl rfl hl.1 rfl (lv_room (Nat.le_of_ble_eq_true rfl)) dX4_feed_7 ⟨Nat.zero_le _, Nat.zero_le _⟩) hS hP (fun H locs hP hS => ?_)
  refine lv_if_ne (tgt := 21) hx hb dX4_feed_10 (by decide) (fun c3 => ?_) (fun c3 => ?_)
  · have hf := iteF hf c3
    refine lv_iconst (v := (-1)) hx hb dX4_feed_21 (by decide) ?_
    have hv := Option.some.inj hf
    exact hret _ _ _ _ _ (by rw [← hv]; exact hP) hS (by rw [← hv]) dX4_feed_22
  · have hf := iteT hf c3
    refine lv_aload_n hx hb dX4_feed_13 rfl (lv_at hl 0 rfl) ?_
    refine lv_iload_n hx hb dX4_feed_14 rfl (lv_at hl 2 rfl) ?_
    obtain ⟨o4, hc5, hf⟩ := bindS hf
    refine ro_i (va_runV (C := RX4) (As := [.int a2]) (rest := []) ⟨hx, hb, hml, hown, hts⟩ (ctX4_noPerson l G h0 ad 0 s_textSize s_place s_people s_readPeople s_acts s_seen s_seed s_rowSize s_feedMany s_feedRow s_restMany s_restFirst a2 o4 hc5) (cwV 1 hts gX4_feed_X4_noPerson rfl rfl rfl (by decide +kernel) ⟨Nat.le_of_ble_eq_true rfl, Nat.le_of_ble_eq_true rfl⟩) (preR_V (q0 := 0) (ci := 4) (hP.sub (ws' := [(h0, moE ad 0 s_textSize s_place s_people s_readPeople s_acts s_seen s_seed s_rowSize s_feedMany s_feedRow s_restMany s_restFirst)]) [0] rfl) hK rfl rfl) rfl rfl hl.1 rfl (lv_room (Nat.le_of_ble_eq_true rfl)) dX4_feed_15 ⟨Nat.zero_le _, Nat.zero_le _⟩) hS hP (fun H locs hP hS => ?_)
    refine lv_if_eq (tgt := 23) hx hb dX4_feed_18 (by decide) (fun c6 => ?_) (fun c6 => ?_)
    · have hf := iteT hf c6
      refine lv_iload_n hx hb dX4_feed_23 rfl (lv_at hl 1 rfl) ?_
      refine lv_iload_n hx hb dX4_feed_24 rfl (lv_at hl 2 rfl) ?_
      refine lv_icmp_ne (tgt := 31) hx hb dX4_feed_25 (by decide) (fun c7 => ?_) (fun c7 => ?_)
      · have hf := iteF hf c7
        refine lv_aload_n hx hb dX4_feed_31 rfl (lv_at hl 0 rfl) ?_
        obtain ⟨o8, hc9, hf⟩ := bindS hf
        refine rw_v (va_runV (C := RX4) (As := []) (rest := []) ⟨hx, hb, hml, hown, hts⟩ (ctX4_note l G h0 ad 0 s_textSize s_place s_people s_readPeople s_acts s_seen s_seed s_rowSize s_feedMany s_feedRow s_restMany s_restFirst q_page q_book o8 hc9) (cwV 0 hts gX4_feed_X4_note rfl rfl rfl (by decide +kernel) ⟨Nat.le_of_ble_eq_true rfl, Nat.le_of_ble_eq_true rfl⟩) (preW_V (q0 := 0) (ci := 4) (hP.sub (ws' := [(h0, moE ad 0 s_textSize s_place s_people s_readPeople s_acts s_seen s_seed s_rowSize s_feedMany s_feedRow s_restMany s_restFirst), (ad 10, aI G 17 q_page), (ad 12, aI G 238 q_book)]) [0, 1, 2] rfl) (hD.sub (ws' := [(h0, moE ad 0 s_textSize s_place s_people s_readPeople s_acts s_seen s_seed s_rowSize s_feedMany s_feedRow s_restMany s_restFirst), (ad 10, aI G 17 q_page), (ad 12, aI G 238 q_book)]) [0, 1, 2] (by decide) rfl) hK rfl rfl) rfl rfl hl.1 rfl (lv_room (Nat.le_of_ble_eq_true rfl)) dX4_feed_32 ⟨Nat.zero_le _, Nat.zero_le _⟩) hS hP hD [0, 1, 2] rfl rfl rfl (fun H locs hP hD hS => ?_)
        have hP : va_P (gD G) vwCl [(h0, moE ad 0 s_textSize s_place s_people s_readPeople o8.1 s_seen s_seed s_rowSize s_feedMany s_feedRow s_restMany s_restFirst), (ad 10, aI G 17 q_page), (ad 12, aI G 238 o8.2)] H := hP
        have hD : va_D A [(h0, moE ad 0 s_textSize s_place s_people s_readPeople o8.1 s_seen s_seed s_rowSize s_feedMany s_feedRow s_restMany s_restFirst), (ad 10, aI G 17 q_page), (ad 12, aI G 238 o8.2)] := hD
        refine lv_aload_n hx hb dX4_feed_35 rfl (lv_at hl 0 rfl) ?_
        refine va_get (D := gD G) (ci := 4) (v := .ref (ad 10)) (C := RX4) (T := TX4) (N := 29) hx hb hts hi_X4 hown hK.1 hP 0 rfl rfl 10 (by decide) kl_25 (fun _ h9 => h9) rfl dX4_feed_36 ?_
        refine lv_bipush (v := 7) hx hb dX4_feed_39 (by decide) ?_
        refine lv_iload_n hx hb dX4_feed_41 rfl (lv_at hl 1 rfl) ?_
        refine lv_iadd hx hb dX4_feed_42 ?_
        refine lv_dup2_11 hx hb dX4_feed_43 rfl rfl ?_
        obtain ⟨hi10, hf⟩ := ckS hf
        refine va_iald hx hb hK.1 hP 1 0 rfl rfl hi10 dX4_feed_44 ?_
        refine lv_iconst (v := 1) hx hb dX4_feed_45 (by decide) ?_
        refine lv_iload_n hx hb dX4_feed_46 rfl (lv_at hl 2 rfl) ?_
        refine lv_ishl hx hb dX4_feed_47 ?_
        refine lv_ixor hx hb dX4_feed_48 ?_
        obtain ⟨hi11, hf⟩ := ckS hf
        refine va_iast hx hb hK.1 hP hD hS 1 0 rfl rfl hi11 dX4_feed_49 (fun H locs hP hD hS => ?_)
        have hP : va_P (gD G) vwCl [(h0, moE ad 0 s_textSize s_place s_people s_readPeople o8.1 s_seen s_seed s_rowSize s_feedMany s_feedRow s_restMany s_restFirst), (ad 10, aI G 17 (upd q_page (Int32.toNatClampNeg (7 + a1)) ((q_page (Int32.toNatClampNeg (7 + a1))) ^^^ ((1 : Int32) <<< (a2 &&& 31))))), (ad 12, aI G 238 o8.2)] H := hP
        have hD : va_D A [(h0, moE ad 0 s_textSize s_place s_people s_readPeople o8.1 s_seen s_seed s_rowSize s_feedMany s_feedRow s_restMany s_restFirst), (ad 10, aI G 17 (upd q_page (Int32.toNatClampNeg (7 + a1)) ((q_page (Int32.toNatClampNeg (7 + a1))) ^^^ ((1 : Int32) <<< (a2 &&& 31))))), (ad 12, aI G 238 o8.2)] := hD
        refine lv_aload_n hx hb dX4_feed_50 rfl (lv_at hl 0 rfl) ?_
        refine va_get (D := gD G) (ci := 4) (v := .ref (ad 10)) (C := RX4) (T := TX4) (N := 29) hx hb hts hi_X4 hown hK.1 hP 0 rfl rfl 10 (by decide) kl_25 (fun _ h9 => h9) rfl dX4_feed_51 ?_
        refine lv_bipush (v := 7) hx hb dX4_feed_54 (by decide) ?_
        refine lv_iload_n hx hb dX4_feed_56 rfl (lv_at hl 1 rfl) ?_
        refine lv_iadd hx hb dX4_feed_57 ?_
        obtain ⟨hi12, hf⟩ := ckS hf
        refine va_iald hx hb hK.1 hP 1 0 rfl rfl hi12 dX4_feed_58 ?_
        refine lv_iload_n hx hb dX4_feed_59 rfl (lv_at hl 2 rfl) ?_
        refine lv_ishr hx hb dX4_feed_60 ?_
        refine lv_iconst (v := 1) hx hb dX4_feed_61 (by decide) ?_
        refine lv_iand hx hb dX4_feed_62 ?_
        have hv := Option.some.inj hf
        exact hret _ _ _ _ _ (by rw [← hv]; exact hP) hS (by rw [← hv]) dX4_feed_63
      · have hf := iteT hf c7
        refine lv_bipush (v := (-2)) hx hb dX4_feed_28 (by decide) ?_
        have hv := Option.some.inj hf
        exact hret _ _ _ _ _ (by rw [← hv]; exact hP) hS (by rw [← hv]) dX4_feed_30
    · have hf := iteF hf c6
      refine lv_iconst (v := (-1)) hx hb dX4_feed_21 (by decide) ?_
      have hv := Option.some.inj hf
      exact hret _ _ _ _ _ (by rw [← hv]; exact hP) hS (by rw [← hv]) dX4_feed_22
def fX4_grade (s_thrown : Int32) (s_people : Int32) (s_acts : Int32) (q_page : Nat → Int32) (q_book : Nat → Int32) (a1 : Int32) (a2 : Int32) : Option (Int32 × Int32 × Int32 × (Nat → Int32) × (Nat → Int32)) :=
  (fX4_noPerson s_people a1).bind fun o1 => ((if o1 = 0 then (fX4_in (Int32.toInt64 a2) 0 9).bind fun o4 => ((if o4 = 0 then some ((-2), 0, s_acts, q_page, q_book) else ck (0 + a1) 17 ((if (q_page (Int32.toNatClampNeg (0 + a1))) = a2 then some ((-3), 0, s_acts, q_page, q_book) else (fX4_note s_acts q_page q_book).bind fun o9 => (ck (0 + a1) 17 (some ((q_page (Int32.toNatClampNeg (0 + a1))), 0, o9.1, (upd q_page (Int32.toNatClampNeg (0 + a1)) a2), o9.2))))))) else some ((-1), 0, s_acts, q_page, q_book)))
set_option maxHeartbeats 4000000 in
set_option maxRecDepth 100000 in
theorem ctX4_grade (l : Launch) (G : GG) (h0 : Nat) (ad : Nat → Nat) (s_thrown : Int32) (s_textSize : Int32) (s_place : Int32) (s_people : Int32) (s_readPeople : Int32) (s_acts : Int32) (s_seen : Int32) (s_seed : Int64) (s_rowSize : Int32) (s_feedMany : Int32) (s_feedRow : Int32) (s_restMany : Int32) (s_restFirst : Int32) (q_page : Nat → Int32) (q_book : Nat → Int32) (a1 : Int32) (a2 : Int32) (out : Int32 × Int32 × Int32 × (Nat → Int32) × (Nat → Int32)) (hf : fX4_grade s_thrown s_people s_acts q_page q_book a1 a2 = some out) : Met l yX4_grade wsX4_grade ({ frames := 2, cells := 0, slots := 0, locals := 46 }) (PcW G [.ref h0, .int a1, .int a2] [(h0, moE ad s_thrown s_textSize s_place s_people s_readPeople s_acts s_seen s_seed s_rowSize s_feedMany s_feedRow s_restMany s_restFirst), (ad 10, aI G 17 q_page), (ad 12, aI G 238 q_book)]) (QiW G [(h0, moE ad s_thrown s_textSize s_place s_people s_readPeople s_acts s_seen s_seed s_rowSize s_feedMany s_feedRow s_restMany s_restFirst), (ad 10, aI G 17 q_page), (ad 12, aI G 238 q_book)] [(h0, moE ad out.2.1 s_textSize s_place s_people s_readPeople out.2.2.1 s_seen s_seed s_rowSize s_feedMany s_feedRow s_restMany s_restFirst), (ad 10, aI G 17 out.2.2.2.1), (ad 12, aI G 238 out.2.2.2.2)] out.1) 0 0 (inA [(h0, moE ad s_thrown s_textSize s_place s_people s_readPeople s_acts s_seen s_seed s_rowSize s_feedMany s_feedRow s_restMany s_restFirst), (ad 10, aI G 17 q_page), (ad 12, aI G 238 q_book)]) := by
  refine mk_Wi (cc := cX4_grade) (maxL := 4) (by decide) rfl (Nat.le_of_ble_eq_true rfl) ?_
  intro p e s m args below meth c Q ls A S hP hK hD hl hret
  obtain ⟨hx, hb, hml, hown, hts⟩ := S
  have hown : s.vm.findClass RX4 = some m.cls := hown
  have kl_60 := hts (.fieldLink RX4 60 "ArrestOrderModel" "thrown" "I") (by decide +kernel)
  have hi_X4 : ∀ w ∈ wsX40, w ∈ wsX4_grade := fun _ h => List.mem_cons_of_mem _ (List.mem_append_right _ h)
  have kl_25 := hts (.fieldLink RX4 25 "ArrestOrderModel" "page" "[I") (by decide +kernel)
  have hS : va_S A s.heap s.heap [] := va_S.rf
  have hl : lv_has ls 4 [(0, .ref h0), (1, .int a1), (2, .int a2)] := hl
  refine lv_aload_n hx hb dX4_grade_0 rfl (lv_at hl 0 rfl) ?_
  refine lv_iconst (v := 0) hx hb dX4_grade_1 (by decide) ?_
  refine va_put (D := gD G) (ci := 4) (v := .int 0) (ty := .int) (C := RX4) (T := TX4) (N := 29) hx hb hts hi_X4 tyX4 tyX4_ok nmX4 hown hK.1 hP hD hS 0 rfl rfl 0 (by decide) kl_60 (fun _ h9 => h9) rfl (tyX4_ok 0 (by decide)) rfl rfl (Nat.le_of_ble_eq_true rfl) dX4_grade_2 (fun H locs hP hD hS => ?_)
  have hP : va_P (gD G) vwCl [(h0, moE ad 0 s_textSize s_place s_people s_readPeople s_acts s_seen s_seed s_rowSize s_feedMany s_feedRow s_restMany s_restFirst), (ad 10, aI G 17 q_page), (ad 12, aI G 238 q_book)] H := hP
  have hD : va_D A [(h0, moE ad 0 s_textSize s_place s_people s_readPeople s_acts s_seen s_seed s_rowSize s_feedMany s_feedRow s_restMany s_restFirst), (ad 10, aI G 17 q_page), (ad 12, aI G 238 q_book)] := hD
  refine lv_aload_n hx hb dX4_grade_5 rfl (lv_at hl 0 rfl) ?_
  refine lv_iload_n hx hb dX4_grade_6 rfl (lv_at hl 1 rfl) ?_
  obtain ⟨o1, hc2, hf⟩ := bindS hf
  refine ro_i (va_runV (C := RX4) (As := [.int a1]) (rest := []) ⟨hx, hb, hml, hown, hts⟩ (ctX4_noPerson l G h0 ad 0 s_textSize s_place s_people s_readPeople s_acts s_seen s_seed s_rowSize s_feedMany s_feedRow s_restMany s_restFirst a1 o1 hc2) (cwV 1 hts gX4_grade_X4_noPerson rfl rfl rfl (by decide +kernel) ⟨Nat.le_of_ble_eq_true rfl, Nat.le_of_ble_eq_true rfl⟩) (preR_V (q0 := 0) (ci := 4) (hP.sub (ws' := [(h0, moE ad 0 s_textSize s_place s_people s_readPeople s_acts s_seen s_seed s_rowSize s_feedMany s_feedRow s_restMany s_restFirst)]) [0] rfl) hK rfl rfl) rfl rfl hl.1 rfl (lv_room (Nat.le_of_ble_eq_true rfl)) dX4_grade_7 ⟨Nat.zero_le _, Nat.zero_le _⟩) hS hP (fun H locs hP hS => ?_)
  refine lv_if_eq (tgt := 15) hx hb dX4_grade_10 (by decide) (fun c3 => ?_) (fun c3 => ?_)
  · have hf := iteT hf c3
    refine lv_iload_n hx hb dX4_grade_15 rfl (lv_at hl 2 rfl) ?_
    refine lv_i2l (v := (Int32.toInt64 a2)) hx hb dX4_grade_16 rfl ?_
    refine lv_lconst (v := 0) hx hb dX4_grade_17 (by decide) ?_
    refine lv_ldc2 (v := 9) hx hb hown (hts (.constantLong RX4 148 (9)) (by decide +kernel)) dX4_grade_18 ?_
    obtain ⟨o4, hc5, hf⟩ := bindS hf
    refine ro_i (va_runS (As := [.long (Int32.toInt64 a2), .long 0, .long 9]) (rest := []) ⟨hx, hb, hml, hown, hts⟩ (ctX4_in l G (Int32.toInt64 a2) 0 9 o4 hc5) (va_cwS 3 hts gX4_grade_X4_in rfl rfl rfl (by decide +kernel) ⟨Nat.le_of_ble_eq_true rfl, Nat.le_of_ble_eq_true rfl⟩) (preR_S (hP.sub (ws' := []) [] rfl) hK) rfl rfl hl.1 rfl (lv_room (Nat.le_of_ble_eq_true rfl)) dX4_grade_21 ⟨Nat.zero_le _, Nat.zero_le _⟩) hS hP (fun H locs hP hS => ?_)
    refine lv_if_ne (tgt := 30) hx hb dX4_grade_24 (by decide) (fun c6 => ?_) (fun c6 => ?_)
    · have hf := iteF hf c6
      refine lv_aload_n hx hb dX4_grade_30 rfl (lv_at hl 0 rfl) ?_
      refine va_get (D := gD G) (ci := 4) (v := .ref (ad 10)) (C := RX4) (T := TX4) (N := 29) hx hb hts hi_X4 hown hK.1 hP 0 rfl rfl 10 (by decide) kl_25 (fun _ h9 => h9) rfl dX4_grade_31 ?_
      refine lv_iconst (v := 0) hx hb dX4_grade_34 (by decide) ?_
      refine lv_iload_n hx hb dX4_grade_35 rfl (lv_at hl 1 rfl) ?_
      refine lv_iadd hx hb dX4_grade_36 ?_
      obtain ⟨hi7, hf⟩ := ckS hf
      refine va_iald hx hb hK.1 hP 1 0 rfl rfl hi7 dX4_grade_37 ?_
      refine lv_istore_n (lv' := [(3, .int (q_page (Int32.toNatClampNeg (0 + a1)))), (0, .ref h0), (1, .int a1), (2, .int a2)]) hx hb dX4_grade_38 rfl hl (by decide) rfl (fun ls hl => ?_)
      refine lv_iload_n hx hb dX4_grade_39 rfl (lv_at hl 0 rfl) ?_
      refine lv_iload_n hx hb dX4_grade_40 rfl (lv_at hl 3 rfl) ?_
      refine lv_icmp_ne (tgt := 47) hx hb dX4_grade_41 (by decide) (fun c8 => ?_) (fun c8 => ?_)
      · have hf := iteF hf c8
        refine lv_aload_n hx hb dX4_grade_47 rfl (lv_at hl 1 rfl) ?_
        obtain ⟨o9, hc10, hf⟩ := bindS hf
        refine rw_v (va_runV (C := RX4) (As := []) (rest := []) ⟨hx, hb, hml, hown, hts⟩ (ctX4_note l G h0 ad 0 s_textSize s_place s_people s_readPeople s_acts s_seen s_seed s_rowSize s_feedMany s_feedRow s_restMany s_restFirst q_page q_book o9 hc10) (cwV 0 hts gX4_grade_X4_note rfl rfl rfl (by decide +kernel) ⟨Nat.le_of_ble_eq_true rfl, Nat.le_of_ble_eq_true rfl⟩) (preW_V (q0 := 0) (ci := 4) (hP.sub (ws' := [(h0, moE ad 0 s_textSize s_place s_people s_readPeople s_acts s_seen s_seed s_rowSize s_feedMany s_feedRow s_restMany s_restFirst), (ad 10, aI G 17 q_page), (ad 12, aI G 238 q_book)]) [0, 1, 2] rfl) (hD.sub (ws' := [(h0, moE ad 0 s_textSize s_place s_people s_readPeople s_acts s_seen s_seed s_rowSize s_feedMany s_feedRow s_restMany s_restFirst), (ad 10, aI G 17 q_page), (ad 12, aI G 238 q_book)]) [0, 1, 2] (by decide) rfl) hK rfl rfl) rfl rfl hl.1 rfl (lv_room (Nat.le_of_ble_eq_true rfl)) dX4_grade_48 ⟨Nat.zero_le _, Nat.zero_le _⟩) hS hP hD [0, 1, 2] rfl rfl rfl (fun H locs hP hD hS => ?_)
        have hP : va_P (gD G) vwCl [(h0, moE ad 0 s_textSize s_place s_people s_readPeople o9.1 s_seen s_seed s_rowSize s_feedMany s_feedRow s_restMany s_restFirst), (ad 10, aI G 17 q_page), (ad 12, aI G 238 o9.2)] H := hP
        have hD : va_D A [(h0, moE ad 0 s_textSize s_place s_people s_readPeople o9.1 s_seen s_seed s_rowSize s_feedMany s_feedRow s_restMany s_restFirst), (ad 10, aI G 17 q_page), (ad 12, aI G 238 o9.2)] := hD
        refine lv_aload_n hx hb dX4_grade_51 rfl (lv_at hl 1 rfl) ?_
        refine va_get (D := gD G) (ci := 4) (v := .ref (ad 10)) (C := RX4) (T := TX4) (N := 29) hx hb hts hi_X4 hown hK.1 hP 0 rfl rfl 10 (by decide) kl_25 (fun _ h9 => h9) rfl dX4_grade_52 ?_
        refine lv_iconst (v := 0) hx hb dX4_grade_55 (by decide) ?_
        refine lv_iload_n hx hb dX4_grade_56 rfl (lv_at hl 2 rfl) ?_
        refine lv_iadd hx hb dX4_grade_57 ?_
        refine lv_iload_n hx hb dX4_grade_58 rfl (lv_at hl 3 rfl) ?_
        obtain ⟨hi11, hf⟩ := ckS hf
        refine va_iast hx hb hK.1 hP hD hS 1 0 rfl rfl hi11 dX4_grade_59 (fun H locs hP hD hS => ?_)
        have hP : va_P (gD G) vwCl [(h0, moE ad 0 s_textSize s_place s_people s_readPeople o9.1 s_seen s_seed s_rowSize s_feedMany s_feedRow s_restMany s_restFirst), (ad 10, aI G 17 (upd q_page (Int32.toNatClampNeg (0 + a1)) a2)), (ad 12, aI G 238 o9.2)] H := hP
        have hD : va_D A [(h0, moE ad 0 s_textSize s_place s_people s_readPeople o9.1 s_seen s_seed s_rowSize s_feedMany s_feedRow s_restMany s_restFirst), (ad 10, aI G 17 (upd q_page (Int32.toNatClampNeg (0 + a1)) a2)), (ad 12, aI G 238 o9.2)] := hD
        refine lv_iload_n hx hb dX4_grade_60 rfl (lv_at hl 0 rfl) ?_
        have hv := Option.some.inj hf
        exact hret _ _ _ _ _ (by rw [← hv]; exact hP) hS (by rw [← hv]) dX4_grade_61
      · have hf := iteT hf c8
        refine lv_bipush (v := (-3)) hx hb dX4_grade_44 (by decide) ?_
        have hv := Option.some.inj hf
        exact hret _ _ _ _ _ (by rw [← hv]; exact hP) hS (by rw [← hv]) dX4_grade_46
    · have hf := iteT hf c6
      refine lv_bipush (v := (-2)) hx hb dX4_grade_27 (by decide) ?_
      have hv := Option.some.inj hf
      exact hret _ _ _ _ _ (by rw [← hv]; exact hP) hS (by rw [← hv]) dX4_grade_29
  · have hf := iteF hf c3
    refine lv_iconst (v := (-1)) hx hb dX4_grade_13 (by decide) ?_
    have hv := Option.some.inj hf
    exact hret _ _ _ _ _ (by rw [← hv]; exact hP) hS (by rw [← hv]) dX4_grade_14
def fX4_goDay_40 (x3 : Int32) (y0 : Int32) (y1 : Int32) (y2 : Int32) (q_a1 : Nat → Int32) : Option (Int32 × (Nat → Int32)) :=
  ck y2 17 (ck 16 17 (ck 16 17 (some (x3, (upd (upd q_a1 (Int32.toNatClampNeg y2) (y1 &&& y0)) (Int32.toNatClampNeg 16) (((upd q_a1 (Int32.toNatClampNeg y2) (y1 &&& y0)) (Int32.toNatClampNeg 16)) + 1))))))
def fX4_goDay_19 (y0 : Int32) (q_a1 : Nat → Int32) : Option (Int32 × (Nat → Int32)) :=
  ck 14 17 ((if y0 = (-9) then (fX4_goDay_40 y0 (-1) (q_a1 (Int32.toNatClampNeg 14)) 14 q_a1) else (fX4_goDay_40 y0 (((1 : Int32) <<< (y0 &&& 31)) ^^^ (-1)) (q_a1 (Int32.toNatClampNeg 14)) 14 q_a1)))
def fX4_goDay (s_people : Int32) (q_kind : Nat → Int32) (q_a1 : Nat → Int32) : Option (Int32 × (Nat → Int32)) :=
  (fX4_mayOf s_people q_kind q_a1).bind fun o1 => ((if o1 = 0 then (fX4_goDay_19 (-9) q_a1) else (fX4_least o1).bind fun o4 => ((fX4_goDay_19 o4 q_a1))))
set_option maxHeartbeats 4000000 in
set_option maxRecDepth 100000 in
theorem ctX4_goDay (l : Launch) (G : GG) (h0 : Nat) (h_a1 : Nat) (ad : Nat → Nat) (s_thrown : Int32) (s_textSize : Int32) (s_place : Int32) (s_people : Int32) (s_readPeople : Int32) (s_acts : Int32) (s_seen : Int32) (s_seed : Int64) (s_rowSize : Int32) (s_feedMany : Int32) (s_feedRow : Int32) (s_restMany : Int32) (s_restFirst : Int32) (q_kind : Nat → Int32) (q_a1 : Nat → Int32) (out : Int32 × (Nat → Int32)) (hf : fX4_goDay s_people q_kind q_a1 = some out) : Met l yX4_goDay wsX4_goDay ({ frames := 3, cells := 0, slots := 0, locals := 69 }) (PcW G [.ref h0, .ref h_a1] [(h0, moE ad s_thrown s_textSize s_place s_people s_readPeople s_acts s_seen s_seed s_rowSize s_feedMany s_feedRow s_restMany s_restFirst), (ad 5, aI G 7 q_kind), (h_a1, aI G 17 q_a1)]) (QiW G [(h0, moE ad s_thrown s_textSize s_place s_people s_readPeople s_acts s_seen s_seed s_rowSize s_feedMany s_feedRow s_restMany s_restFirst), (ad 5, aI G 7 q_kind), (h_a1, aI G 17 q_a1)] [(h0, moE ad s_thrown s_textSize s_place s_people s_readPeople s_acts s_seen s_seed s_rowSize s_feedMany s_feedRow s_restMany s_restFirst), (ad 5, aI G 7 q_kind), (h_a1, aI G 17 out.2)] out.1) 0 0 (inA [(h0, moE ad s_thrown s_textSize s_place s_people s_readPeople s_acts s_seen s_seed s_rowSize s_feedMany s_feedRow s_restMany s_restFirst), (ad 5, aI G 7 q_kind), (h_a1, aI G 17 q_a1)]) := by
  refine mk_Wi (cc := cX4_goDay) (maxL := 4) (by decide) rfl (Nat.le_of_ble_eq_true rfl) ?_
  intro p e s m args below meth c Q ls A S hP hK hD hl hret
  obtain ⟨hx, hb, hml, hown, hts⟩ := S
  have hown : s.vm.findClass RX4 = some m.cls := hown
  have hS : va_S A s.heap s.heap [] := va_S.rf
  have hl : lv_has ls 4 [(0, .ref h0), (1, .ref h_a1)] := hl
  have hC40 : ∀ (x3 : Int32) (y0 : Int32) (y1 : Int32) (y2 : Int32) (q_a1 : Nat → Int32) (H : Heap) (locs : List Loc) (ls : Array Slot), va_P (gD G) vwCl [(h0, moE ad s_thrown s_textSize s_place s_people s_readPeople s_acts s_seen s_seed s_rowSize s_feedMany s_feedRow s_restMany s_restFirst), (ad 5, aI G 7 q_kind), (h_a1, aI G 17 q_a1)] H → va_D A [(h0, moE ad s_thrown s_textSize s_place s_people s_readPeople s_acts s_seen s_seed s_rowSize s_feedMany s_feedRow s_restMany s_restFirst), (ad 5, aI G 7 q_kind), (h_a1, aI G 17 q_a1)] → va_S A s.heap H locs → lv_has ls 4 [(1, .ref h_a1), (3, .int x3)] → fX4_goDay_40 x3 y0 y1 y2 q_a1 = some out → W p l e ({ frames := 3, cells := 0, slots := 0, locals := 69 }) s m args below meth c H locs 0 0 Q (F0 m 40 ls [.int y0, .int y1, .int y2, .ref h_a1]) := by
    intro x3 y0 y1 y2 q_a1 H locs ls hP hD hS hl hf
    refine lv_iand hx hb dX4_goDay_40 ?_
    obtain ⟨hi8, hf⟩ := ckS hf
    refine va_iast hx hb hK.1 hP hD hS 2 0 rfl rfl hi8 dX4_goDay_41 (fun H locs hP hD hS => ?_)
    have hP : va_P (gD G) vwCl [(h0, moE ad s_thrown s_textSize s_place s_people s_readPeople s_acts s_seen s_seed s_rowSize s_feedMany s_feedRow s_restMany s_restFirst), (ad 5, aI G 7 q_kind), (h_a1, aI G 17 (upd q_a1 (Int32.toNatClampNeg y2) (y1 &&& y0)))] H := hP
    have hD : va_D A [(h0, moE ad s_thrown s_textSize s_place s_people s_readPeople s_acts s_seen s_seed s_rowSize s_feedMany s_feedRow s_restMany s_restFirst), (ad 5, aI G 7 q_kind), (h_a1, aI G 17 (upd q_a1 (Int32.toNatClampNeg y2) (y1 &&& y0)))] := hD
    refine lv_aload_n hx hb dX4_goDay_42 rfl (lv_at hl 0 rfl) ?_
    refine lv_bipush (v := 16) hx hb dX4_goDay_43 (by decide) ?_
    refine lv_dup2_11 hx hb dX4_goDay_45 rfl rfl ?_
    obtain ⟨hi9, hf⟩ := ckS hf
    refine va_iald hx hb hK.1 hP 2 0 rfl rfl hi9 dX4_goDay_46 ?_
    refine lv_iconst (v := 1) hx hb dX4_goDay_47 (by decide) ?_
    refine lv_iadd hx hb dX4_goDay_48 ?_
    obtain ⟨hi10, hf⟩ := ckS hf
    refine va_iast hx hb hK.1 hP hD hS 2 0 rfl rfl hi10 dX4_goDay_49 (fun H locs hP hD hS => ?_)
    have hP : va_P (gD G) vwCl [(h0, moE ad s_thrown s_textSize s_place s_people s_readPeople s_acts s_seen s_seed s_rowSize s_feedMany s_feedRow s_restMany s_restFirst), (ad 5, aI G 7 q_kind), (h_a1, aI G 17 (upd (upd q_a1 (Int32.toNatClampNeg y2) (y1 &&& y0)) (Int32.toNatClampNeg 16) (((upd q_a1 (Int32.toNatClampNeg y2) (y1 &&& y0)) (Int32.toNatClampNeg 16)) + 1)))] H := hP
    have hD : va_D A [(h0, moE ad s_thrown s_textSize s_place s_people s_readPeople s_acts s_seen s_seed s_rowSize s_feedMany s_feedRow s_restMany s_restFirst), (ad 5, aI G 7 q_kind), (h_a1, aI G 17 (upd (upd q_a1 (Int32.toNatClampNeg y2) (y1 &&& y0)) (Int32.toNatClampNeg 16) (((upd q_a1 (Int32.toNatClampNeg y2) (y1 &&& y0)) (Int32.toNatClampNeg 16)) + 1)))] := hD
    refine lv_iload_n hx hb dX4_goDay_50 rfl (lv_at hl 1 rfl) ?_
    have hv := Option.some.inj hf
    exact hret _ _ _ _ _ (by rw [← hv]; exact hP) hS (by rw [← hv]) dX4_goDay_51
  have hC19 : ∀ (y0 : Int32) (q_a1 : Nat → Int32) (H : Heap) (locs : List Loc) (ls : Array Slot), va_P (gD G) vwCl [(h0, moE ad s_thrown s_textSize s_place s_people s_readPeople s_acts s_seen s_seed s_rowSize s_feedMany s_feedRow s_restMany s_restFirst), (ad 5, aI G 7 q_kind), (h_a1, aI G 17 q_a1)] H → va_D A [(h0, moE ad s_thrown s_textSize s_place s_people s_readPeople s_acts s_seen s_seed s_rowSize s_feedMany s_feedRow s_restMany s_restFirst), (ad 5, aI G 7 q_kind), (h_a1, aI G 17 q_a1)] → va_S A s.heap H locs → lv_has ls 4 [(1, .ref h_a1)] → fX4_goDay_19 y0 q_a1 = some out → W p l e ({ frames := 3, cells := 0, slots := 0, locals := 69 }) s m args below meth c H locs 0 0 Q (F0 m 19 ls [.int y0]) := by
    intro y0 q_a1 H locs ls hP hD hS hl hf
    refine lv_istore_n (lv' := [(3, .int y0), (1, .ref h_a1)]) hx hb dX4_goDay_19 rfl hl (by decide) rfl (fun ls hl => ?_)
    refine lv_aload_n hx hb dX4_goDay_20 rfl (lv_at hl 1 rfl) ?_
    refine lv_bipush (v := 14) hx hb dX4_goDay_21 (by decide) ?_
    refine lv_dup2_11 hx hb dX4_goDay_23 rfl rfl ?_
    obtain ⟨hi6, hf⟩ := ckS hf
    refine va_iald hx hb hK.1 hP 2 0 rfl rfl hi6 dX4_goDay_24 ?_
    refine lv_iload_n hx hb dX4_goDay_25 rfl (lv_at hl 0 rfl) ?_
    refine lv_bipush (v := (-9)) hx hb dX4_goDay_26 (by decide) ?_
    refine lv_icmp_ne (tgt := 35) hx hb dX4_goDay_28 (by decide) (fun c7 => ?_) (fun c7 => ?_)
    · have hf := iteF hf c7
      refine lv_iconst (v := 1) hx hb dX4_goDay_35 (by decide) ?_
      refine lv_iload_n hx hb dX4_goDay_36 rfl (lv_at hl 0 rfl) ?_
      refine lv_ishl hx hb dX4_goDay_37 ?_
      refine lv_iconst (v := (-1)) hx hb dX4_goDay_38 (by decide) ?_
      refine lv_ixor hx hb dX4_goDay_39 ?_
      exact hC40 y0 (((1 : Int32) <<< (y0 &&& 31)) ^^^ (-1)) (q_a1 (Int32.toNatClampNeg 14)) 14 q_a1 _ _ _ hP hD hS (lv_sub hl [1, 0] rfl) hf
    · have hf := iteT hf c7
      refine lv_iconst (v := (-1)) hx hb dX4_goDay_31 (by decide) ?_
      refine lv_goto (tgt := 40) hx hb dX4_goDay_32 (by decide) ?_
      exact hC40 y0 (-1) (q_a1 (Int32.toNatClampNeg 14)) 14 q_a1 _ _ _ hP hD hS (lv_sub hl [1, 0] rfl) hf
  refine lv_aload_n hx hb dX4_goDay_0 rfl (lv_at hl 0 rfl) ?_
  refine lv_aload_n hx hb dX4_goDay_1 rfl (lv_at hl 1 rfl) ?_
  obtain ⟨o1, hc2, hf⟩ := bindS hf
  refine ro_i (va_runV (C := RX4) (As := [.ref h_a1]) (rest := []) ⟨hx, hb, hml, hown, hts⟩ (ctX4_mayOf l G h0 h_a1 ad s_thrown s_textSize s_place s_people s_readPeople s_acts s_seen s_seed s_rowSize s_feedMany s_feedRow s_restMany s_restFirst q_kind q_a1 o1 hc2) (cwV 1 hts gX4_goDay_X4_mayOf rfl rfl rfl (by decide +kernel) ⟨Nat.le_of_ble_eq_true rfl, Nat.le_of_ble_eq_true rfl⟩) (preR_V (q0 := 0) (ci := 4) (hP.sub (ws' := [(h0, moE ad s_thrown s_textSize s_place s_people s_readPeople s_acts s_seen s_seed s_rowSize s_feedMany s_feedRow s_restMany s_restFirst), (ad 5, aI G 7 q_kind), (h_a1, aI G 17 q_a1)]) [0, 1, 2] rfl) hK rfl rfl) rfl rfl hl.1 rfl (lv_room (Nat.le_of_ble_eq_true rfl)) dX4_goDay_2 ⟨Nat.zero_le _, Nat.zero_le _⟩) hS hP (fun H locs hP hS => ?_)
  refine lv_istore_n (lv' := [(2, .int o1), (0, .ref h0), (1, .ref h_a1)]) hx hb dX4_goDay_5 rfl hl (by decide) rfl (fun ls hl => ?_)
  refine lv_iload_n hx hb dX4_goDay_6 rfl (lv_at hl 0 rfl) ?_
  refine lv_if_ne (tgt := 15) hx hb dX4_goDay_7 (by decide) (fun c3 => ?_) (fun c3 => ?_)
  · have hf := iteF hf c3
    refine lv_iload_n hx hb dX4_goDay_15 rfl (lv_at hl 0 rfl) ?_
    obtain ⟨o4, hc5, hf⟩ := bindS hf
    refine ro_i (va_runS (As := [.int o1]) (rest := []) ⟨hx, hb, hml, hown, hts⟩ (ctX4_least l G o1 o4 hc5) (va_cwS 1 hts gX4_goDay_X4_least rfl rfl rfl (by decide +kernel) ⟨Nat.le_of_ble_eq_true rfl, Nat.le_of_ble_eq_true rfl⟩) (preR_S (hP.sub (ws' := []) [] rfl) hK) rfl rfl hl.1 rfl (lv_room (Nat.le_of_ble_eq_true rfl)) dX4_goDay_16 ⟨Nat.zero_le _, Nat.zero_le _⟩) hS hP (fun H locs hP hS => ?_)
    exact hC19 o4 q_a1 _ _ _ hP hD hS (lv_sub hl [2] rfl) hf
  · have hf := iteT hf c3
    refine lv_bipush (v := (-9)) hx hb dX4_goDay_10 (by decide) ?_
    refine lv_goto (tgt := 19) hx hb dX4_goDay_12 (by decide) ?_
    exact hC19 (-9) q_a1 _ _ _ hP hD hS (lv_sub hl [2] rfl) hf
def fX4_day (s_thrown : Int32) (s_people : Int32) (s_acts : Int32) (q_kind : Nat → Int32) (q_page : Nat → Int32) (q_book : Nat → Int32) : Option (Int32 × Int32 × Int32 × (Nat → Int32) × (Nat → Int32)) :=
  (fX4_note s_acts q_page q_book).bind fun o1 => ((fX4_goDay s_people q_kind q_page).bind fun o3 => (some (o3.1, 0, o1.1, o3.2, o1.2)))
set_option maxHeartbeats 4000000 in
set_option maxRecDepth 100000 in
theorem ctX4_day (l : Launch) (G : GG) (h0 : Nat) (ad : Nat → Nat) (s_thrown : Int32) (s_textSize : Int32) (s_place : Int32) (s_people : Int32) (s_readPeople : Int32) (s_acts : Int32) (s_seen : Int32) (s_seed : Int64) (s_rowSize : Int32) (s_feedMany : Int32) (s_feedRow : Int32) (s_restMany : Int32) (s_restFirst : Int32) (q_kind : Nat → Int32) (q_page : Nat → Int32) (q_book : Nat → Int32) (out : Int32 × Int32 × Int32 × (Nat → Int32) × (Nat → Int32)) (hf : fX4_day s_thrown s_people s_acts q_kind q_page q_book = some out) : Met l yX4_day wsX4_day ({ frames := 4, cells := 0, slots := 0, locals := 92 }) (PcW G [.ref h0] [(h0, moE ad s_thrown s_textSize s_place s_people s_readPeople s_acts s_seen s_seed s_rowSize s_feedMany s_feedRow s_restMany s_restFirst), (ad 5, aI G 7 q_kind), (ad 10, aI G 17 q_page), (ad 12, aI G 238 q_book)]) (QiW G [(h0, moE ad s_thrown s_textSize s_place s_people s_readPeople s_acts s_seen s_seed s_rowSize s_feedMany s_feedRow s_restMany s_restFirst), (ad 5, aI G 7 q_kind), (ad 10, aI G 17 q_page), (ad 12, aI G 238 q_book)] [(h0, moE ad out.2.1 s_textSize s_place s_people s_readPeople out.2.2.1 s_seen s_seed s_rowSize s_feedMany s_feedRow s_restMany s_restFirst), (ad 5, aI G 7 q_kind), (ad 10, aI G 17 out.2.2.2.1), (ad 12, aI G 238 out.2.2.2.2)] out.1) 0 0 (inA [(h0, moE ad s_thrown s_textSize s_place s_people s_readPeople s_acts s_seen s_seed s_rowSize s_feedMany s_feedRow s_restMany s_restFirst), (ad 5, aI G 7 q_kind), (ad 10, aI G 17 q_page), (ad 12, aI G 238 q_book)]) := by
  refine mk_Wi (cc := cX4_day) (maxL := 1) (by decide) rfl (Nat.le_of_ble_eq_true rfl) ?_
  intro p e s m args below meth c Q ls A S hP hK hD hl hret
  obtain ⟨hx, hb, hml, hown, hts⟩ := S
  have hown : s.vm.findClass RX4 = some m.cls := hown
  have kl_60 := hts (.fieldLink RX4 60 "ArrestOrderModel" "thrown" "I") (by decide +kernel)
  have hi_X4 : ∀ w ∈ wsX40, w ∈ wsX4_day := fun _ h => List.mem_cons_of_mem _ (List.mem_append_right _ h)
  have kl_25 := hts (.fieldLink RX4 25 "ArrestOrderModel" "page" "[I") (by decide +kernel)
  have hS : va_S A s.heap s.heap [] := va_S.rf
  have hl : lv_has ls 1 [(0, .ref h0)] := hl
  refine lv_aload_n hx hb dX4_day_0 rfl (lv_at hl 0 rfl) ?_
  refine lv_iconst (v := 0) hx hb dX4_day_1 (by decide) ?_
  refine va_put (D := gD G) (ci := 4) (v := .int 0) (ty := .int) (C := RX4) (T := TX4) (N := 29) hx hb hts hi_X4 tyX4 tyX4_ok nmX4 hown hK.1 hP hD hS 0 rfl rfl 0 (by decide) kl_60 (fun _ h9 => h9) rfl (tyX4_ok 0 (by decide)) rfl rfl (Nat.le_of_ble_eq_true rfl) dX4_day_2 (fun H locs hP hD hS => ?_)
  have hP : va_P (gD G) vwCl [(h0, moE ad 0 s_textSize s_place s_people s_readPeople s_acts s_seen s_seed s_rowSize s_feedMany s_feedRow s_restMany s_restFirst), (ad 5, aI G 7 q_kind), (ad 10, aI G 17 q_page), (ad 12, aI G 238 q_book)] H := hP
  have hD : va_D A [(h0, moE ad 0 s_textSize s_place s_people s_readPeople s_acts s_seen s_seed s_rowSize s_feedMany s_feedRow s_restMany s_restFirst), (ad 5, aI G 7 q_kind), (ad 10, aI G 17 q_page), (ad 12, aI G 238 q_book)] := hD
  refine lv_aload_n hx hb dX4_day_5 rfl (lv_at hl 0 rfl) ?_
  obtain ⟨o1, hc2, hf⟩ := bindS hf
  refine rw_v (va_runV (C := RX4) (As := []) (rest := []) ⟨hx, hb, hml, hown, hts⟩ (ctX4_note l G h0 ad 0 s_textSize s_place s_people s_readPeople s_acts s_seen s_seed s_rowSize s_feedMany s_feedRow s_restMany s_restFirst q_page q_book o1 hc2) (cwV 0 hts gX4_day_X4_note rfl rfl rfl (by decide +kernel) ⟨Nat.le_of_ble_eq_true rfl, Nat.le_of_ble_eq_true rfl⟩) (preW_V (q0 := 0) (ci := 4) (hP.sub (ws' := [(h0, moE ad 0 s_textSize s_place s_people s_readPeople s_acts s_seen s_seed s_rowSize s_feedMany s_feedRow s_restMany s_restFirst), (ad 10, aI G 17 q_page), (ad 12, aI G 238 q_book)]) [0, 2, 3] rfl) (hD.sub (ws' := [(h0, moE ad 0 s_textSize s_place s_people s_readPeople s_acts s_seen s_seed s_rowSize s_feedMany s_feedRow s_restMany s_restFirst), (ad 10, aI G 17 q_page), (ad 12, aI G 238 q_book)]) [0, 2, 3] (by decide) rfl) hK rfl rfl) rfl rfl hl.1 rfl (lv_room (Nat.le_of_ble_eq_true rfl)) dX4_day_6 ⟨Nat.zero_le _, Nat.zero_le _⟩) hS hP hD [0, 2, 3] rfl rfl rfl (fun H locs hP hD hS => ?_)
  have hP : va_P (gD G) vwCl [(h0, moE ad 0 s_textSize s_place s_people s_readPeople o1.1 s_seen s_seed s_rowSize s_feedMany s_feedRow s_restMany s_restFirst), (ad 5, aI G 7 q_kind), (ad 10, aI G 17 q_page), (ad 12, aI G 238 o1.2)] H := hP
  have hD : va_D A [(h0, moE ad 0 s_textSize s_place s_people s_readPeople o1.1 s_seen s_seed s_rowSize s_feedMany s_feedRow s_restMany s_restFirst), (ad 5, aI G 7 q_kind), (ad 10, aI G 17 q_page), (ad 12, aI G 238 o1.2)] := hD
  refine lv_aload_n hx hb dX4_day_9 rfl (lv_at hl 0 rfl) ?_
  refine lv_aload_n hx hb dX4_day_10 rfl (lv_at hl 0 rfl) ?_
  refine va_get (D := gD G) (ci := 4) (v := .ref (ad 10)) (C := RX4) (T := TX4) (N := 29) hx hb hts hi_X4 hown hK.1 hP 0 rfl rfl 10 (by decide) kl_25 (fun _ h9 => h9) rfl dX4_day_11 ?_
  obtain ⟨o3, hc4, hf⟩ := bindS hf
  refine rw_i (va_runV (C := RX4) (As := [.ref (ad 10)]) (rest := []) ⟨hx, hb, hml, hown, hts⟩ (ctX4_goDay l G h0 (ad 10) ad 0 s_textSize s_place s_people s_readPeople o1.1 s_seen s_seed s_rowSize s_feedMany s_feedRow s_restMany s_restFirst q_kind q_page o3 hc4) (cwV 1 hts gX4_day_X4_goDay rfl rfl rfl (by decide +kernel) ⟨Nat.le_of_ble_eq_true rfl, Nat.le_of_ble_eq_true rfl⟩) (preW_V (q0 := 0) (ci := 4) (hP.sub (ws' := [(h0, moE ad 0 s_textSize s_place s_people s_readPeople o1.1 s_seen s_seed s_rowSize s_feedMany s_feedRow s_restMany s_restFirst), (ad 5, aI G 7 q_kind), (ad 10, aI G 17 q_page)]) [0, 1, 2] rfl) (hD.sub (ws' := [(h0, moE ad 0 s_textSize s_place s_people s_readPeople o1.1 s_seen s_seed s_rowSize s_feedMany s_feedRow s_restMany s_restFirst), (ad 5, aI G 7 q_kind), (ad 10, aI G 17 q_page)]) [0, 1, 2] (by decide) rfl) hK rfl rfl) rfl rfl hl.1 rfl (lv_room (Nat.le_of_ble_eq_true rfl)) dX4_day_14 ⟨Nat.zero_le _, Nat.zero_le _⟩) hS hP hD [0, 1, 2] rfl rfl rfl (fun H locs hP hD hS => ?_)
  have hP : va_P (gD G) vwCl [(h0, moE ad 0 s_textSize s_place s_people s_readPeople o1.1 s_seen s_seed s_rowSize s_feedMany s_feedRow s_restMany s_restFirst), (ad 5, aI G 7 q_kind), (ad 10, aI G 17 o3.2), (ad 12, aI G 238 o1.2)] H := hP
  have hD : va_D A [(h0, moE ad 0 s_textSize s_place s_people s_readPeople o1.1 s_seen s_seed s_rowSize s_feedMany s_feedRow s_restMany s_restFirst), (ad 5, aI G 7 q_kind), (ad 10, aI G 17 o3.2), (ad 12, aI G 238 o1.2)] := hD
  have hv := Option.some.inj hf
  exact hret _ _ _ _ _ (by rw [← hv]; exact hP) hS (by rw [← hv]) dX4_day_17
def fX4_undo_27 (q_book : Nat → Int32) : Nat → Int32 → Int32 → Int32 → (Nat → Int32) → Option (Int32 × Int32 × Int32 × (Nat → Int32))
  | 0, _, _, _, _ => none
  | n + 1, x1, s_thrown, s_acts, q_page => (if 17 ≤ x1 then some (s_acts, s_thrown, s_acts, q_page) else ck ((17 * s_acts) + x1) 238 (ck x1 17 ((fX4_undo_27 q_book n (x1 + 1) s_thrown s_acts (upd q_page (Int32.toNatClampNeg x1) (q_book (Int32.toNatClampNeg ((17 * s_acts) + x1))))))))
def fX4_undo (s_thrown : Int32) (s_acts : Int32) (q_page : Nat → Int32) (q_book : Nat → Int32) : Option (Int32 × Int32 × Int32 × (Nat → Int32)) :=
  (if s_acts = 0 then some ((-3), 0, s_acts, q_page) else (fX4_undo_27 q_book 20 0 0 (s_acts - 1) q_page))
set_option maxHeartbeats 4000000 in
set_option maxRecDepth 100000 in
theorem ctX4_undo (l : Launch) (G : GG) (h0 : Nat) (ad : Nat → Nat) (s_thrown : Int32) (s_textSize : Int32) (s_place : Int32) (s_people : Int32) (s_readPeople : Int32) (s_acts : Int32) (s_seen : Int32) (s_seed : Int64) (s_rowSize : Int32) (s_feedMany : Int32) (s_feedRow : Int32) (s_restMany : Int32) (s_restFirst : Int32) (q_page : Nat → Int32) (q_book : Nat → Int32) (out : Int32 × Int32 × Int32 × (Nat → Int32)) (hf : fX4_undo s_thrown s_acts q_page q_book = some out) : Met l yX4_undo wsX4_undo ({ frames := 0, cells := 0, slots := 0, locals := 0 }) (PcW G [.ref h0] [(h0, moE ad s_thrown s_textSize s_place s_people s_readPeople s_acts s_seen s_seed s_rowSize s_feedMany s_feedRow s_restMany s_restFirst), (ad 10, aI G 17 q_page), (ad 12, aI G 238 q_book)]) (QiW G [(h0, moE ad s_thrown s_textSize s_place s_people s_readPeople s_acts s_seen s_seed s_rowSize s_feedMany s_feedRow s_restMany s_restFirst), (ad 10, aI G 17 q_page), (ad 12, aI G 238 q_book)] [(h0, moE ad out.2.1 s_textSize s_place s_people s_readPeople out.2.2.1 s_seen s_seed s_rowSize s_feedMany s_feedRow s_restMany s_restFirst), (ad 10, aI G 17 out.2.2.2), (ad 12, aI G 238 q_book)] out.1) 0 0 (inA [(h0, moE ad s_thrown s_textSize s_place s_people s_readPeople s_acts s_seen s_seed s_rowSize s_feedMany s_feedRow s_restMany s_restFirst), (ad 10, aI G 17 q_page), (ad 12, aI G 238 q_book)]) := by
  refine mk_Wi (cc := cX4_undo) (maxL := 2) (by decide) rfl (Nat.le_of_ble_eq_true rfl) ?_
  intro p e s m args below meth c Q ls A S hP hK hD hl hret
  obtain ⟨hx, hb, hml, hown, hts⟩ := S
  have hown : s.vm.findClass RX4 = some m.cls := hown
  have kl_60 := hts (.fieldLink RX4 60 "ArrestOrderModel" "thrown" "I") (by decide +kernel)
  have hi_X4 : ∀ w ∈ wsX40, w ∈ wsX4_undo := fun _ h => List.mem_cons_of_mem _ (List.mem_append_right _ h)
  have kl_110 := hts (.fieldLink RX4 110 "ArrestOrderModel" "acts" "I") (by decide +kernel)
  have kl_25 := hts (.fieldLink RX4 25 "ArrestOrderModel" "page" "[I") (by decide +kernel)
  have kl_31 := hts (.fieldLink RX4 31 "ArrestOrderModel" "book" "[I") (by decide +kernel)
  have hS : va_S A s.heap s.heap [] := va_S.rf
  have hl : lv_has ls 2 [(0, .ref h0)] := hl
  have hC27 : ∀ (n : Nat) (x1 : Int32) (s_thrown : Int32) (s_acts : Int32) (q_page : Nat → Int32) (H : Heap) (locs : List Loc) (ls : Array Slot), va_P (gD G) vwCl [(h0, moE ad s_thrown s_textSize s_place s_people s_readPeople s_acts s_seen s_seed s_rowSize s_feedMany s_feedRow s_restMany s_restFirst), (ad 10, aI G 17 q_page), (ad 12, aI G 238 q_book)] H → va_D A [(h0, moE ad s_thrown s_textSize s_place s_people s_readPeople s_acts s_seen s_seed s_rowSize s_feedMany s_feedRow s_restMany s_restFirst), (ad 10, aI G 17 q_page), (ad 12, aI G 238 q_book)] → va_S A s.heap H locs → lv_has ls 2 [(0, .ref h0), (1, .int x1)] → fX4_undo_27 q_book n x1 s_thrown s_acts q_page = some out → W p l e ({ frames := 0, cells := 0, slots := 0, locals := 0 }) s m args below meth c H locs 0 0 Q (F0 m 27 ls []) := by
    intro n27
    induction n27 with
    | zero => intro x1 s_thrown s_acts q_page H locs ls hP hD hS hl hf; exact absurd (show none = some out from hf) (fun z => by cases z)
    | succ n27 ih27 =>
      intro x1 s_thrown s_acts q_page H locs ls hP hD hS hl hf
      refine lv_iload_n hx hb dX4_undo_27 rfl (lv_at hl 1 rfl) ?_
      refine lv_bipush (v := 17) hx hb dX4_undo_28 (by decide) ?_
      refine lv_icmp_ge (tgt := 59) hx hb dX4_undo_30 (by decide) (fun c2 => ?_) (fun c2 => ?_)
      · have hf := iteT hf c2
        refine lv_aload_n hx hb dX4_undo_59 rfl (lv_at hl 0 rfl) ?_
        refine va_get (D := gD G) (ci := 4) (v := .int s_acts) (C := RX4) (T := TX4) (N := 29) hx hb hts hi_X4 hown hK.1 hP 0 rfl rfl 13 (by decide) kl_110 (fun _ h9 => h9) rfl dX4_undo_60 ?_
        have hv := Option.some.inj hf
        exact hret _ _ _ _ _ (by rw [← hv]; exact hP) hS (by rw [← hv]) dX4_undo_63
      · have hf := iteF hf c2
        refine lv_aload_n hx hb dX4_undo_33 rfl (lv_at hl 0 rfl) ?_
        refine va_get (D := gD G) (ci := 4) (v := .ref (ad 10)) (C := RX4) (T := TX4) (N := 29) hx hb hts hi_X4 hown hK.1 hP 0 rfl rfl 10 (by decide) kl_25 (fun _ h9 => h9) rfl dX4_undo_34 ?_
        refine lv_iload_n hx hb dX4_undo_37 rfl (lv_at hl 1 rfl) ?_
        refine lv_aload_n hx hb dX4_undo_38 rfl (lv_at hl 0 rfl) ?_
        refine va_get (D := gD G) (ci := 4) (v := .ref (ad 12)) (C := RX4) (T := TX4) (N := 29) hx hb hts hi_X4 hown hK.1 hP 0 rfl rfl 12 (by decide) kl_31 (fun _ h9 => h9) rfl dX4_undo_39 ?_
        refine lv_bipush (v := 17) hx hb dX4_undo_42 (by decide) ?_
        refine lv_aload_n hx hb dX4_undo_44 rfl (lv_at hl 0 rfl) ?_
        refine va_get (D := gD G) (ci := 4) (v := .int s_acts) (C := RX4) (T := TX4) (N := 29) hx hb hts hi_X4 hown hK.1 hP 0 rfl rfl 13 (by decide) kl_110 (fun _ h9 => h9) rfl dX4_undo_45 ?_
        refine lv_imul hx hb dX4_undo_48 ?_
        refine lv_iload_n hx hb dX4_undo_49 rfl (lv_at hl 1 rfl) ?_
        refine lv_iadd hx hb dX4_undo_50 ?_
        obtain ⟨hi3, hf⟩ := ckS hf
        refine va_iald hx hb hK.1 hP 2 0 rfl rfl hi3 dX4_undo_51 ?_
        obtain ⟨hi4, hf⟩ := ckS hf
        refine va_iast hx hb hK.1 hP hD hS 1 0 rfl rfl hi4 dX4_undo_52 (fun H locs hP hD hS => ?_)
        have hP : va_P (gD G) vwCl [(h0, moE ad s_thrown s_textSize s_place s_people s_readPeople s_acts s_seen s_seed s_rowSize s_feedMany s_feedRow s_restMany s_restFirst), (ad 10, aI G 17 (upd q_page (Int32.toNatClampNeg x1) (q_book (Int32.toNatClampNeg ((17 * s_acts) + x1))))), (ad 12, aI G 238 q_book)] H := hP
        have hD : va_D A [(h0, moE ad s_thrown s_textSize s_place s_people s_readPeople s_acts s_seen s_seed s_rowSize s_feedMany s_feedRow s_restMany s_restFirst), (ad 10, aI G 17 (upd q_page (Int32.toNatClampNeg x1) (q_book (Int32.toNatClampNeg ((17 * s_acts) + x1))))), (ad 12, aI G 238 q_book)] := hD
        refine lv_iinc (v := (x1 + 1)) (lv' := [(1, .int (x1 + 1)), (0, .ref h0)]) hx hb dX4_undo_53 hl (k := 1) rfl rfl (by decide) rfl (fun ls hl => ?_)
        refine lv_goto (tgt := 27) hx hb dX4_undo_56 (by decide) ?_
        exact ih27 (x1 + 1) s_thrown s_acts (upd q_page (Int32.toNatClampNeg x1) (q_book (Int32.toNatClampNeg ((17 * s_acts) + x1)))) _ _ _ hP hD hS (lv_sub hl [1, 0] rfl) hf
  refine lv_aload_n hx hb dX4_undo_0 rfl (lv_at hl 0 rfl) ?_
  refine lv_iconst (v := 0) hx hb dX4_undo_1 (by decide) ?_
  refine va_put (D := gD G) (ci := 4) (v := .int 0) (ty := .int) (C := RX4) (T := TX4) (N := 29) hx hb hts hi_X4 tyX4 tyX4_ok nmX4 hown hK.1 hP hD hS 0 rfl rfl 0 (by decide) kl_60 (fun _ h9 => h9) rfl (tyX4_ok 0 (by decide)) rfl rfl (Nat.le_of_ble_eq_true rfl) dX4_undo_2 (fun H locs hP hD hS => ?_)
  have hP : va_P (gD G) vwCl [(h0, moE ad 0 s_textSize s_place s_people s_readPeople s_acts s_seen s_seed s_rowSize s_feedMany s_feedRow s_restMany s_restFirst), (ad 10, aI G 17 q_page), (ad 12, aI G 238 q_book)] H := hP
  have hD : va_D A [(h0, moE ad 0 s_textSize s_place s_people s_readPeople s_acts s_seen s_seed s_rowSize s_feedMany s_feedRow s_restMany s_restFirst), (ad 10, aI G 17 q_page), (ad 12, aI G 238 q_book)] := hD
  refine lv_aload_n hx hb dX4_undo_5 rfl (lv_at hl 0 rfl) ?_
  refine va_get (D := gD G) (ci := 4) (v := .int s_acts) (C := RX4) (T := TX4) (N := 29) hx hb hts hi_X4 hown hK.1 hP 0 rfl rfl 13 (by decide) kl_110 (fun _ h9 => h9) rfl dX4_undo_6 ?_
  refine lv_if_ne (tgt := 15) hx hb dX4_undo_9 (by decide) (fun c1 => ?_) (fun c1 => ?_)
  · have hf := iteF hf c1
    refine lv_aload_n hx hb dX4_undo_15 rfl (lv_at hl 0 rfl) ?_
    refine lv_dup hx hb dX4_undo_16 rfl ?_
    refine va_get (D := gD G) (ci := 4) (v := .int s_acts) (C := RX4) (T := TX4) (N := 29) hx hb hts hi_X4 hown hK.1 hP 0 rfl rfl 13 (by decide) kl_110 (fun _ h9 => h9) rfl dX4_undo_17 ?_
    refine lv_iconst (v := 1) hx hb dX4_undo_20 (by decide) ?_
    refine lv_isub hx hb dX4_undo_21 ?_
    refine va_put (D := gD G) (ci := 4) (v := .int (s_acts - 1)) (ty := .int) (C := RX4) (T := TX4) (N := 29) hx hb hts hi_X4 tyX4 tyX4_ok nmX4 hown hK.1 hP hD hS 0 rfl rfl 13 (by decide) kl_110 (fun _ h9 => h9) rfl (tyX4_ok 13 (by decide)) rfl rfl (Nat.le_of_ble_eq_true rfl) dX4_undo_22 (fun H locs hP hD hS => ?_)
    have hP : va_P (gD G) vwCl [(h0, moE ad 0 s_textSize s_place s_people s_readPeople (s_acts - 1) s_seen s_seed s_rowSize s_feedMany s_feedRow s_restMany s_restFirst), (ad 10, aI G 17 q_page), (ad 12, aI G 238 q_book)] H := hP
    have hD : va_D A [(h0, moE ad 0 s_textSize s_place s_people s_readPeople (s_acts - 1) s_seen s_seed s_rowSize s_feedMany s_feedRow s_restMany s_restFirst), (ad 10, aI G 17 q_page), (ad 12, aI G 238 q_book)] := hD
    refine lv_iconst (v := 0) hx hb dX4_undo_25 (by decide) ?_
    refine lv_istore_n (lv' := [(1, .int 0), (0, .ref h0)]) hx hb dX4_undo_26 rfl hl (by decide) rfl (fun ls hl => ?_)
    exact hC27 20 0 0 (s_acts - 1) q_page _ _ _ hP hD hS (lv_sub hl [1, 0] rfl) hf
  · have hf := iteT hf c1
    refine lv_bipush (v := (-3)) hx hb dX4_undo_12 (by decide) ?_
    have hv := Option.some.inj hf
    exact hret _ _ _ _ _ (by rw [← hv]; exact hP) hS (by rw [← hv]) dX4_undo_14
def fX4_fall_17 : Nat → Int32 → Int32 → Int32 → Int32 → (Nat → Int32) → (Nat → Int32) → Option (Int32 × Int32 × Int32 × (Nat → Int32) × (Nat → Int32))
  | 0, _, _, _, _, _, _ => none
  | n + 1, x1, x2, s_thrown, s_rowSize, q_trial, q_row => (if s_rowSize ≤ x2 then some (x1, s_thrown, s_rowSize, q_trial, q_row) else ck x2 7 ((fX4_fall_17 n (((10 * x1) + (q_row (Int32.toNatClampNeg x2))) + 1) (x2 + 1) s_thrown s_rowSize q_trial q_row)))
def fX4_fall (s_thrown : Int32) (s_people : Int32) (s_rowSize : Int32) (q_kind : Nat → Int32) (q_page : Nat → Int32) (q_trial : Nat → Int32) (q_row : Nat → Int32) : Option (Int32 × Int32 × Int32 × (Nat → Int32) × (Nat → Int32)) :=
  (fX4_begin q_page q_trial).bind fun o1 => ((fX4_layFall s_people s_rowSize q_kind o1 q_row).bind fun o3 => ((fX4_fall_17 9 0 0 0 o3.1 o3.2.1 o3.2.2)))
set_option maxHeartbeats 4000000 in
set_option maxRecDepth 100000 in
theorem ctX4_fall (l : Launch) (G : GG) (h0 : Nat) (ad : Nat → Nat) (s_thrown : Int32) (s_textSize : Int32) (s_place : Int32) (s_people : Int32) (s_readPeople : Int32) (s_acts : Int32) (s_seen : Int32) (s_seed : Int64) (s_rowSize : Int32) (s_feedMany : Int32) (s_feedRow : Int32) (s_restMany : Int32) (s_restFirst : Int32) (q_kind : Nat → Int32) (q_page : Nat → Int32) (q_trial : Nat → Int32) (q_row : Nat → Int32) (out : Int32 × Int32 × Int32 × (Nat → Int32) × (Nat → Int32)) (hf : fX4_fall s_thrown s_people s_rowSize q_kind q_page q_trial q_row = some out) : Met l yX4_fall wsX4_fall ({ frames := 4, cells := 0, slots := 0, locals := 90 }) (PcW G [.ref h0] [(h0, moE ad s_thrown s_textSize s_place s_people s_readPeople s_acts s_seen s_seed s_rowSize s_feedMany s_feedRow s_restMany s_restFirst), (ad 5, aI G 7 q_kind), (ad 10, aI G 17 q_page), (ad 11, aI G 17 q_trial), (ad 20, aI G 7 q_row)]) (QiW G [(h0, moE ad s_thrown s_textSize s_place s_people s_readPeople s_acts s_seen s_seed s_rowSize s_feedMany s_feedRow s_restMany s_restFirst), (ad 5, aI G 7 q_kind), (ad 10, aI G 17 q_page), (ad 11, aI G 17 q_trial), (ad 20, aI G 7 q_row)] [(h0, moE ad out.2.1 s_textSize s_place s_people s_readPeople s_acts s_seen s_seed out.2.2.1 s_feedMany s_feedRow s_restMany s_restFirst), (ad 5, aI G 7 q_kind), (ad 10, aI G 17 q_page), (ad 11, aI G 17 out.2.2.2.1), (ad 20, aI G 7 out.2.2.2.2)] out.1) 0 0 (inA [(h0, moE ad s_thrown s_textSize s_place s_people s_readPeople s_acts s_seen s_seed s_rowSize s_feedMany s_feedRow s_restMany s_restFirst), (ad 5, aI G 7 q_kind), (ad 10, aI G 17 q_page), (ad 11, aI G 17 q_trial), (ad 20, aI G 7 q_row)]) := by
  refine mk_Wi (cc := cX4_fall) (maxL := 3) (by decide) rfl (Nat.le_of_ble_eq_true rfl) ?_
  intro p e s m args below meth c Q ls A S hP hK hD hl hret
  obtain ⟨hx, hb, hml, hown, hts⟩ := S
  have hown : s.vm.findClass RX4 = some m.cls := hown
  have kl_60 := hts (.fieldLink RX4 60 "ArrestOrderModel" "thrown" "I") (by decide +kernel)
  have hi_X4 : ∀ w ∈ wsX40, w ∈ wsX4_fall := fun _ h => List.mem_cons_of_mem _ (List.mem_append_right _ h)
  have kl_121 := hts (.fieldLink RX4 121 "ArrestOrderModel" "rowSize" "I") (by decide +kernel)
  have kl_47 := hts (.fieldLink RX4 47 "ArrestOrderModel" "row" "[I") (by decide +kernel)
  have hS : va_S A s.heap s.heap [] := va_S.rf
  have hl : lv_has ls 3 [(0, .ref h0)] := hl
  have hC17 : ∀ (n : Nat) (x1 : Int32) (x2 : Int32) (s_thrown : Int32) (s_rowSize : Int32) (q_trial : Nat → Int32) (q_row : Nat → Int32) (H : Heap) (locs : List Loc) (ls : Array Slot), va_P (gD G) vwCl [(h0, moE ad s_thrown s_textSize s_place s_people s_readPeople s_acts s_seen s_seed s_rowSize s_feedMany s_feedRow s_restMany s_restFirst), (ad 5, aI G 7 q_kind), (ad 10, aI G 17 q_page), (ad 11, aI G 17 q_trial), (ad 20, aI G 7 q_row)] H → va_D A [(h0, moE ad s_thrown s_textSize s_place s_people s_readPeople s_acts s_seen s_seed s_rowSize s_feedMany s_feedRow s_restMany s_restFirst), (ad 5, aI G 7 q_kind), (ad 10, aI G 17 q_page), (ad 11, aI G 17 q_trial), (ad 20, aI G 7 q_row)] → va_S A s.heap H locs → lv_has ls 3 [(0, .ref h0), (1, .int x1), (2, .int x2)] → fX4_fall_17 n x1 x2 s_thrown s_rowSize q_trial q_row = some out → W p l e ({ frames := 4, cells := 0, slots := 0, locals := 90 }) s m args below meth c H locs 0 0 Q (F0 m 17 ls []) := by
    intro n17
    induction n17 with
    | zero => intro x1 x2 s_thrown s_rowSize q_trial q_row H locs ls hP hD hS hl hf; exact absurd (show none = some out from hf) (fun z => by cases z)
    | succ n17 ih17 =>
      intro x1 x2 s_thrown s_rowSize q_trial q_row H locs ls hP hD hS hl hf
      refine lv_iload_n hx hb dX4_fall_17 rfl (lv_at hl 2 rfl) ?_
      refine lv_aload_n hx hb dX4_fall_18 rfl (lv_at hl 0 rfl) ?_
      refine va_get (D := gD G) (ci := 4) (v := .int s_rowSize) (C := RX4) (T := TX4) (N := 29) hx hb hts hi_X4 hown hK.1 hP 0 rfl rfl 21 (by decide) kl_121 (fun _ h9 => h9) rfl dX4_fall_19 ?_
      refine lv_icmp_ge (tgt := 45) hx hb dX4_fall_22 (by decide) (fun c5 => ?_) (fun c5 => ?_)
      · have hf := iteT hf c5
        refine lv_iload_n hx hb dX4_fall_45 rfl (lv_at hl 1 rfl) ?_
        have hv := Option.some.inj hf
        exact hret _ _ _ _ _ (by rw [← hv]; exact hP) hS (by rw [← hv]) dX4_fall_46
      · have hf := iteF hf c5
        refine lv_bipush (v := 10) hx hb dX4_fall_25 (by decide) ?_
        refine lv_iload_n hx hb dX4_fall_27 rfl (lv_at hl 1 rfl) ?_
        refine lv_imul hx hb dX4_fall_28 ?_
        refine lv_aload_n hx hb dX4_fall_29 rfl (lv_at hl 0 rfl) ?_
        refine va_get (D := gD G) (ci := 4) (v := .ref (ad 20)) (C := RX4) (T := TX4) (N := 29) hx hb hts hi_X4 hown hK.1 hP 0 rfl rfl 20 (by decide) kl_47 (fun _ h9 => h9) rfl dX4_fall_30 ?_
        refine lv_iload_n hx hb dX4_fall_33 rfl (lv_at hl 2 rfl) ?_
        obtain ⟨hi6, hf⟩ := ckS hf
        refine va_iald hx hb hK.1 hP 4 0 rfl rfl hi6 dX4_fall_34 ?_
        refine lv_iadd hx hb dX4_fall_35 ?_
        refine lv_iconst (v := 1) hx hb dX4_fall_36 (by decide) ?_
        refine lv_iadd hx hb dX4_fall_37 ?_
        refine lv_istore_n (lv' := [(1, .int (((10 * x1) + (q_row (Int32.toNatClampNeg x2))) + 1)), (0, .ref h0), (2, .int x2)]) hx hb dX4_fall_38 rfl hl (by decide) rfl (fun ls hl => ?_)
        refine lv_iinc (v := (x2 + 1)) (lv' := [(2, .int (x2 + 1)), (1, .int (((10 * x1) + (q_row (Int32.toNatClampNeg x2))) + 1)), (0, .ref h0)]) hx hb dX4_fall_39 hl (k := 2) rfl rfl (by decide) rfl (fun ls hl => ?_)
        refine lv_goto (tgt := 17) hx hb dX4_fall_42 (by decide) ?_
        exact ih17 (((10 * x1) + (q_row (Int32.toNatClampNeg x2))) + 1) (x2 + 1) s_thrown s_rowSize q_trial q_row _ _ _ hP hD hS (lv_sub hl [2, 1, 0] rfl) hf
  refine lv_aload_n hx hb dX4_fall_0 rfl (lv_at hl 0 rfl) ?_
  refine lv_iconst (v := 0) hx hb dX4_fall_1 (by decide) ?_
  refine va_put (D := gD G) (ci := 4) (v := .int 0) (ty := .int) (C := RX4) (T := TX4) (N := 29) hx hb hts hi_X4 tyX4 tyX4_ok nmX4 hown hK.1 hP hD hS 0 rfl rfl 0 (by decide) kl_60 (fun _ h9 => h9) rfl (tyX4_ok 0 (by decide)) rfl rfl (Nat.le_of_ble_eq_true rfl) dX4_fall_2 (fun H locs hP hD hS => ?_)
  have hP : va_P (gD G) vwCl [(h0, moE ad 0 s_textSize s_place s_people s_readPeople s_acts s_seen s_seed s_rowSize s_feedMany s_feedRow s_restMany s_restFirst), (ad 5, aI G 7 q_kind), (ad 10, aI G 17 q_page), (ad 11, aI G 17 q_trial), (ad 20, aI G 7 q_row)] H := hP
  have hD : va_D A [(h0, moE ad 0 s_textSize s_place s_people s_readPeople s_acts s_seen s_seed s_rowSize s_feedMany s_feedRow s_restMany s_restFirst), (ad 5, aI G 7 q_kind), (ad 10, aI G 17 q_page), (ad 11, aI G 17 q_trial), (ad 20, aI G 7 q_row)] := hD
  refine lv_aload_n hx hb dX4_fall_5 rfl (lv_at hl 0 rfl) ?_
  obtain ⟨o1, hc2, hf⟩ := bindS hf
  refine rw_v (va_runV (C := RX4) (As := []) (rest := []) ⟨hx, hb, hml, hown, hts⟩ (ctX4_begin l G h0 ad 0 s_textSize s_place s_people s_readPeople s_acts s_seen s_seed s_rowSize s_feedMany s_feedRow s_restMany s_restFirst q_page q_trial o1 hc2) (cwV 0 hts gX4_fall_X4_begin rfl rfl rfl (by decide +kernel) ⟨Nat.le_of_ble_eq_true rfl, Nat.le_of_ble_eq_true rfl⟩) (preW_V (q0 := 0) (ci := 4) (hP.sub (ws' := [(h0, moE ad 0 s_textSize s_place s_people s_readPeople s_acts s_seen s_seed s_rowSize s_feedMany s_feedRow s_restMany s_restFirst), (ad 10, aI G 17 q_page), (ad 11, aI G 17 q_trial)]) [0, 2, 3] rfl) (hD.sub (ws' := [(h0, moE ad 0 s_textSize s_place s_people s_readPeople s_acts s_seen s_seed s_rowSize s_feedMany s_feedRow s_restMany s_restFirst), (ad 10, aI G 17 q_page), (ad 11, aI G 17 q_trial)]) [0, 2, 3] (by decide) rfl) hK rfl rfl) rfl rfl hl.1 rfl (lv_room (Nat.le_of_ble_eq_true rfl)) dX4_fall_6 ⟨Nat.zero_le _, Nat.zero_le _⟩) hS hP hD [0, 2, 3] rfl rfl rfl (fun H locs hP hD hS => ?_)
  have hP : va_P (gD G) vwCl [(h0, moE ad 0 s_textSize s_place s_people s_readPeople s_acts s_seen s_seed s_rowSize s_feedMany s_feedRow s_restMany s_restFirst), (ad 5, aI G 7 q_kind), (ad 10, aI G 17 q_page), (ad 11, aI G 17 o1), (ad 20, aI G 7 q_row)] H := hP
  have hD : va_D A [(h0, moE ad 0 s_textSize s_place s_people s_readPeople s_acts s_seen s_seed s_rowSize s_feedMany s_feedRow s_restMany s_restFirst), (ad 5, aI G 7 q_kind), (ad 10, aI G 17 q_page), (ad 11, aI G 17 o1), (ad 20, aI G 7 q_row)] := hD
  refine lv_aload_n hx hb dX4_fall_9 rfl (lv_at hl 0 rfl) ?_
  obtain ⟨o3, hc4, hf⟩ := bindS hf
  refine rw_v (va_runV (C := RX4) (As := []) (rest := []) ⟨hx, hb, hml, hown, hts⟩ (ctX4_layFall l G h0 ad 0 s_textSize s_place s_people s_readPeople s_acts s_seen s_seed s_rowSize s_feedMany s_feedRow s_restMany s_restFirst q_kind o1 q_row o3 hc4) (cwV 0 hts gX4_fall_X4_layFall rfl rfl rfl (by decide +kernel) ⟨Nat.le_of_ble_eq_true rfl, Nat.le_of_ble_eq_true rfl⟩) (preW_V (q0 := 0) (ci := 4) (hP.sub (ws' := [(h0, moE ad 0 s_textSize s_place s_people s_readPeople s_acts s_seen s_seed s_rowSize s_feedMany s_feedRow s_restMany s_restFirst), (ad 5, aI G 7 q_kind), (ad 11, aI G 17 o1), (ad 20, aI G 7 q_row)]) [0, 1, 3, 4] rfl) (hD.sub (ws' := [(h0, moE ad 0 s_textSize s_place s_people s_readPeople s_acts s_seen s_seed s_rowSize s_feedMany s_feedRow s_restMany s_restFirst), (ad 5, aI G 7 q_kind), (ad 11, aI G 17 o1), (ad 20, aI G 7 q_row)]) [0, 1, 3, 4] (by decide) rfl) hK rfl rfl) rfl rfl hl.1 rfl (lv_room (Nat.le_of_ble_eq_true rfl)) dX4_fall_10 ⟨Nat.zero_le _, Nat.zero_le _⟩) hS hP hD [0, 1, 3, 4] rfl rfl rfl (fun H locs hP hD hS => ?_)
  have hP : va_P (gD G) vwCl [(h0, moE ad 0 s_textSize s_place s_people s_readPeople s_acts s_seen s_seed o3.1 s_feedMany s_feedRow s_restMany s_restFirst), (ad 5, aI G 7 q_kind), (ad 10, aI G 17 q_page), (ad 11, aI G 17 o3.2.1), (ad 20, aI G 7 o3.2.2)] H := hP
  have hD : va_D A [(h0, moE ad 0 s_textSize s_place s_people s_readPeople s_acts s_seen s_seed o3.1 s_feedMany s_feedRow s_restMany s_restFirst), (ad 5, aI G 7 q_kind), (ad 10, aI G 17 q_page), (ad 11, aI G 17 o3.2.1), (ad 20, aI G 7 o3.2.2)] := hD
  refine lv_iconst (v := 0) hx hb dX4_fall_13 (by decide) ?_
  refine lv_istore_n (lv' := [(1, .int 0), (0, .ref h0)]) hx hb dX4_fall_14 rfl hl (by decide) rfl (fun ls hl => ?_)
  refine lv_iconst (v := 0) hx hb dX4_fall_15 (by decide) ?_
  refine lv_istore_n (lv' := [(2, .int 0), (1, .int 0), (0, .ref h0)]) hx hb dX4_fall_16 rfl hl (by decide) rfl (fun ls hl => ?_)
  exact hC17 9 0 0 0 o3.1 o3.2.1 o3.2.2 _ _ _ hP hD hS (lv_sub hl [2, 1, 0] rfl) hf
def fX4_place (s_thrown : Int32) (s_people : Int32) (s_rowSize : Int32) (q_kind : Nat → Int32) (q_page : Nat → Int32) (q_trial : Nat → Int32) (q_row : Nat → Int32) (a1 : Int32) : Option (Int32 × Int32 × Int32 × (Nat → Int32) × (Nat → Int32)) :=
  (fX4_noPerson s_people a1).bind fun o1 => ((if o1 = 0 then (fX4_begin q_page q_trial).bind fun o4 => ((fX4_layFall s_people s_rowSize q_kind o4 q_row).bind fun o6 => ((fX4_placeOf o6.1 o6.2.2 a1).bind fun o8 => (some (o8, 0, o6.1, o6.2.1, o6.2.2)))) else some ((-1), 0, s_rowSize, q_trial, q_row)))
set_option maxHeartbeats 4000000 in
set_option maxRecDepth 100000 in
theorem ctX4_place (l : Launch) (G : GG) (h0 : Nat) (ad : Nat → Nat) (s_thrown : Int32) (s_textSize : Int32) (s_place : Int32) (s_people : Int32) (s_readPeople : Int32) (s_acts : Int32) (s_seen : Int32) (s_seed : Int64) (s_rowSize : Int32) (s_feedMany : Int32) (s_feedRow : Int32) (s_restMany : Int32) (s_restFirst : Int32) (q_kind : Nat → Int32) (q_page : Nat → Int32) (q_trial : Nat → Int32) (q_row : Nat → Int32) (a1 : Int32) (out : Int32 × Int32 × Int32 × (Nat → Int32) × (Nat → Int32)) (hf : fX4_place s_thrown s_people s_rowSize q_kind q_page q_trial q_row a1 = some out) : Met l yX4_place wsX4_place ({ frames := 4, cells := 0, slots := 0, locals := 90 }) (PcW G [.ref h0, .int a1] [(h0, moE ad s_thrown s_textSize s_place s_people s_readPeople s_acts s_seen s_seed s_rowSize s_feedMany s_feedRow s_restMany s_restFirst), (ad 5, aI G 7 q_kind), (ad 10, aI G 17 q_page), (ad 11, aI G 17 q_trial), (ad 20, aI G 7 q_row)]) (QiW G [(h0, moE ad s_thrown s_textSize s_place s_people s_readPeople s_acts s_seen s_seed s_rowSize s_feedMany s_feedRow s_restMany s_restFirst), (ad 5, aI G 7 q_kind), (ad 10, aI G 17 q_page), (ad 11, aI G 17 q_trial), (ad 20, aI G 7 q_row)] [(h0, moE ad out.2.1 s_textSize s_place s_people s_readPeople s_acts s_seen s_seed out.2.2.1 s_feedMany s_feedRow s_restMany s_restFirst), (ad 5, aI G 7 q_kind), (ad 10, aI G 17 q_page), (ad 11, aI G 17 out.2.2.2.1), (ad 20, aI G 7 out.2.2.2.2)] out.1) 0 0 (inA [(h0, moE ad s_thrown s_textSize s_place s_people s_readPeople s_acts s_seen s_seed s_rowSize s_feedMany s_feedRow s_restMany s_restFirst), (ad 5, aI G 7 q_kind), (ad 10, aI G 17 q_page), (ad 11, aI G 17 q_trial), (ad 20, aI G 7 q_row)]) := by
  refine mk_Wi (cc := cX4_place) (maxL := 2) (by decide) rfl (Nat.le_of_ble_eq_true rfl) ?_
  intro p e s m args below meth c Q ls A S hP hK hD hl hret
  obtain ⟨hx, hb, hml, hown, hts⟩ := S
  have hown : s.vm.findClass RX4 = some m.cls := hown
  have kl_60 := hts (.fieldLink RX4 60 "ArrestOrderModel" "thrown" "I") (by decide +kernel)
  have hi_X4 : ∀ w ∈ wsX40, w ∈ wsX4_place := fun _ h => List.mem_cons_of_mem _ (List.mem_append_right _ h)
  have hS : va_S A s.heap s.heap [] := va_S.rf
  have hl : lv_has ls 2 [(0, .ref h0), (1, .int a1)] := hl
  refine lv_aload_n hx hb dX4_place_0 rfl (lv_at hl 0 rfl) ?_
  refine lv_iconst (v := 0) hx hb dX4_place_1 (by decide) ?_
  refine va_put (D := gD G) (ci := 4) (v := .int 0) (ty := .int) (C := RX4) (T := TX4) (N := 29) hx hb hts hi_X4 tyX4 tyX4_ok nmX4 hown hK.1 hP hD hS 0 rfl rfl 0 (by decide) kl_60 (fun _ h9 => h9) rfl (tyX4_ok 0 (by decide)) rfl rfl (Nat.le_of_ble_eq_true rfl) dX4_place_2 (fun H locs hP hD hS => ?_)
  have hP : va_P (gD G) vwCl [(h0, moE ad 0 s_textSize s_place s_people s_readPeople s_acts s_seen s_seed s_rowSize s_feedMany s_feedRow s_restMany s_restFirst), (ad 5, aI G 7 q_kind), (ad 10, aI G 17 q_page), (ad 11, aI G 17 q_trial), (ad 20, aI G 7 q_row)] H := hP
  have hD : va_D A [(h0, moE ad 0 s_textSize s_place s_people s_readPeople s_acts s_seen s_seed s_rowSize s_feedMany s_feedRow s_restMany s_restFirst), (ad 5, aI G 7 q_kind), (ad 10, aI G 17 q_page), (ad 11, aI G 17 q_trial), (ad 20, aI G 7 q_row)] := hD
  refine lv_aload_n hx hb dX4_place_5 rfl (lv_at hl 0 rfl) ?_
  refine lv_iload_n hx hb dX4_place_6 rfl (lv_at hl 1 rfl) ?_
  obtain ⟨o1, hc2, hf⟩ := bindS hf
  refine ro_i (va_runV (C := RX4) (As := [.int a1]) (rest := []) ⟨hx, hb, hml, hown, hts⟩ (ctX4_noPerson l G h0 ad 0 s_textSize s_place s_people s_readPeople s_acts s_seen s_seed s_rowSize s_feedMany s_feedRow s_restMany s_restFirst a1 o1 hc2) (cwV 1 hts gX4_place_X4_noPerson rfl rfl rfl (by decide +kernel) ⟨Nat.le_of_ble_eq_true rfl, Nat.le_of_ble_eq_true rfl⟩) (preR_V (q0 := 0) (ci := 4) (hP.sub (ws' := [(h0, moE ad 0 s_textSize s_place s_people s_readPeople s_acts s_seen s_seed s_rowSize s_feedMany s_feedRow s_restMany s_restFirst)]) [0] rfl) hK rfl rfl) rfl rfl hl.1 rfl (lv_room (Nat.le_of_ble_eq_true rfl)) dX4_place_7 ⟨Nat.zero_le _, Nat.zero_le _⟩) hS hP (fun H locs hP hS => ?_)
  refine lv_if_eq (tgt := 15) hx hb dX4_place_10 (by decide) (fun c3 => ?_) (fun c3 => ?_)
  · have hf := iteT hf c3
    refine lv_aload_n hx hb dX4_place_15 rfl (lv_at hl 0 rfl) ?_
    obtain ⟨o4, hc5, hf⟩ := bindS hf
    refine rw_v (va_runV (C := RX4) (As := []) (rest := []) ⟨hx, hb, hml, hown, hts⟩ (ctX4_begin l G h0 ad 0 s_textSize s_place s_people s_readPeople s_acts s_seen s_seed s_rowSize s_feedMany s_feedRow s_restMany s_restFirst q_page q_trial o4 hc5) (cwV 0 hts gX4_place_X4_begin rfl rfl rfl (by decide +kernel) ⟨Nat.le_of_ble_eq_true rfl, Nat.le_of_ble_eq_true rfl⟩) (preW_V (q0 := 0) (ci := 4) (hP.sub (ws' := [(h0, moE ad 0 s_textSize s_place s_people s_readPeople s_acts s_seen s_seed s_rowSize s_feedMany s_feedRow s_restMany s_restFirst), (ad 10, aI G 17 q_page), (ad 11, aI G 17 q_trial)]) [0, 2, 3] rfl) (hD.sub (ws' := [(h0, moE ad 0 s_textSize s_place s_people s_readPeople s_acts s_seen s_seed s_rowSize s_feedMany s_feedRow s_restMany s_restFirst), (ad 10, aI G 17 q_page), (ad 11, aI G 17 q_trial)]) [0, 2, 3] (by decide) rfl) hK rfl rfl) rfl rfl hl.1 rfl (lv_room (Nat.le_of_ble_eq_true rfl)) dX4_place_16 ⟨Nat.zero_le _, Nat.zero_le _⟩) hS hP hD [0, 2, 3] rfl rfl rfl (fun H locs hP hD hS => ?_)
    have hP : va_P (gD G) vwCl [(h0, moE ad 0 s_textSize s_place s_people s_readPeople s_acts s_seen s_seed s_rowSize s_feedMany s_feedRow s_restMany s_restFirst), (ad 5, aI G 7 q_kind), (ad 10, aI G 17 q_page), (ad 11, aI G 17 o4), (ad 20, aI G 7 q_row)] H := hP
    have hD : va_D A [(h0, moE ad 0 s_textSize s_place s_people s_readPeople s_acts s_seen s_seed s_rowSize s_feedMany s_feedRow s_restMany s_restFirst), (ad 5, aI G 7 q_kind), (ad 10, aI G 17 q_page), (ad 11, aI G 17 o4), (ad 20, aI G 7 q_row)] := hD
    refine lv_aload_n hx hb dX4_place_19 rfl (lv_at hl 0 rfl) ?_
    obtain ⟨o6, hc7, hf⟩ := bindS hf
    refine rw_v (va_runV (C := RX4) (As := []) (rest := []) ⟨hx, hb, hml, hown, hts⟩ (ctX4_layFall l G h0 ad 0 s_textSize s_place s_people s_readPeople s_acts s_seen s_seed s_rowSize s_feedMany s_feedRow s_restMany s_restFirst q_kind o4 q_row o6 hc7) (cwV 0 hts gX4_place_X4_layFall rfl rfl rfl (by decide +kernel) ⟨Nat.le_of_ble_eq_true rfl, Nat.le_of_ble_eq_true rfl⟩) (preW_V (q0 := 0) (ci := 4) (hP.sub (ws' := [(h0, moE ad 0 s_textSize s_place s_people s_readPeople s_acts s_seen s_seed s_rowSize s_feedMany s_feedRow s_restMany s_restFirst), (ad 5, aI G 7 q_kind), (ad 11, aI G 17 o4), (ad 20, aI G 7 q_row)]) [0, 1, 3, 4] rfl) (hD.sub (ws' := [(h0, moE ad 0 s_textSize s_place s_people s_readPeople s_acts s_seen s_seed s_rowSize s_feedMany s_feedRow s_restMany s_restFirst), (ad 5, aI G 7 q_kind), (ad 11, aI G 17 o4), (ad 20, aI G 7 q_row)]) [0, 1, 3, 4] (by decide) rfl) hK rfl rfl) rfl rfl hl.1 rfl (lv_room (Nat.le_of_ble_eq_true rfl)) dX4_place_20 ⟨Nat.zero_le _, Nat.zero_le _⟩) hS hP hD [0, 1, 3, 4] rfl rfl rfl (fun H locs hP hD hS => ?_)
    have hP : va_P (gD G) vwCl [(h0, moE ad 0 s_textSize s_place s_people s_readPeople s_acts s_seen s_seed o6.1 s_feedMany s_feedRow s_restMany s_restFirst), (ad 5, aI G 7 q_kind), (ad 10, aI G 17 q_page), (ad 11, aI G 17 o6.2.1), (ad 20, aI G 7 o6.2.2)] H := hP
    have hD : va_D A [(h0, moE ad 0 s_textSize s_place s_people s_readPeople s_acts s_seen s_seed o6.1 s_feedMany s_feedRow s_restMany s_restFirst), (ad 5, aI G 7 q_kind), (ad 10, aI G 17 q_page), (ad 11, aI G 17 o6.2.1), (ad 20, aI G 7 o6.2.2)] := hD
    refine lv_aload_n hx hb dX4_place_23 rfl (lv_at hl 0 rfl) ?_
    refine lv_iload_n hx hb dX4_place_24 rfl (lv_at hl 1 rfl) ?_
    obtain ⟨o8, hc9, hf⟩ := bindS hf
    refine ro_i (va_runV (C := RX4) (As := [.int a1]) (rest := []) ⟨hx, hb, hml, hown, hts⟩ (ctX4_placeOf l G h0 ad 0 s_textSize s_place s_people s_readPeople s_acts s_seen s_seed o6.1 s_feedMany s_feedRow s_restMany s_restFirst o6.2.2 a1 o8 hc9) (cwV 1 hts gX4_place_X4_placeOf rfl rfl rfl (by decide +kernel) ⟨Nat.le_of_ble_eq_true rfl, Nat.le_of_ble_eq_true rfl⟩) (preR_V (q0 := 0) (ci := 4) (hP.sub (ws' := [(h0, moE ad 0 s_textSize s_place s_people s_readPeople s_acts s_seen s_seed o6.1 s_feedMany s_feedRow s_restMany s_restFirst), (ad 20, aI G 7 o6.2.2)]) [0, 4] rfl) hK rfl rfl) rfl rfl hl.1 rfl (lv_room (Nat.le_of_ble_eq_true rfl)) dX4_place_25 ⟨Nat.zero_le _, Nat.zero_le _⟩) hS hP (fun H locs hP hS => ?_)
    have hv := Option.some.inj hf
    exact hret _ _ _ _ _ (by rw [← hv]; exact hP) hS (by rw [← hv]) dX4_place_28
  · have hf := iteF hf c3
    refine lv_iconst (v := (-1)) hx hb dX4_place_13 (by decide) ?_
    have hv := Option.some.inj hf
    exact hret _ _ _ _ _ (by rw [← hv]; exact hP) hS (by rw [← hv]) dX4_place_14
def fX4_last (s_thrown : Int32) (s_people : Int32) (s_rowSize : Int32) (q_kind : Nat → Int32) (q_page : Nat → Int32) (q_trial : Nat → Int32) (q_row : Nat → Int32) : Option (Int32 × Int32 × Int32 × (Nat → Int32) × (Nat → Int32)) :=
  (fX4_begin q_page q_trial).bind fun o1 => ((fX4_layFall s_people s_rowSize q_kind o1 q_row).bind fun o3 => (ck 14 17 (some ((o3.2.1 (Int32.toNatClampNeg 14)), 0, o3.1, o3.2.1, o3.2.2))))
set_option maxHeartbeats 4000000 in
set_option maxRecDepth 100000 in
theorem ctX4_last (l : Launch) (G : GG) (h0 : Nat) (ad : Nat → Nat) (s_thrown : Int32) (s_textSize : Int32) (s_place : Int32) (s_people : Int32) (s_readPeople : Int32) (s_acts : Int32) (s_seen : Int32) (s_seed : Int64) (s_rowSize : Int32) (s_feedMany : Int32) (s_feedRow : Int32) (s_restMany : Int32) (s_restFirst : Int32) (q_kind : Nat → Int32) (q_page : Nat → Int32) (q_trial : Nat → Int32) (q_row : Nat → Int32) (out : Int32 × Int32 × Int32 × (Nat → Int32) × (Nat → Int32)) (hf : fX4_last s_thrown s_people s_rowSize q_kind q_page q_trial q_row = some out) : Met l yX4_last wsX4_last ({ frames := 4, cells := 0, slots := 0, locals := 90 }) (PcW G [.ref h0] [(h0, moE ad s_thrown s_textSize s_place s_people s_readPeople s_acts s_seen s_seed s_rowSize s_feedMany s_feedRow s_restMany s_restFirst), (ad 5, aI G 7 q_kind), (ad 10, aI G 17 q_page), (ad 11, aI G 17 q_trial), (ad 20, aI G 7 q_row)]) (QiW G [(h0, moE ad s_thrown s_textSize s_place s_people s_readPeople s_acts s_seen s_seed s_rowSize s_feedMany s_feedRow s_restMany s_restFirst), (ad 5, aI G 7 q_kind), (ad 10, aI G 17 q_page), (ad 11, aI G 17 q_trial), (ad 20, aI G 7 q_row)] [(h0, moE ad out.2.1 s_textSize s_place s_people s_readPeople s_acts s_seen s_seed out.2.2.1 s_feedMany s_feedRow s_restMany s_restFirst), (ad 5, aI G 7 q_kind), (ad 10, aI G 17 q_page), (ad 11, aI G 17 out.2.2.2.1), (ad 20, aI G 7 out.2.2.2.2)] out.1) 0 0 (inA [(h0, moE ad s_thrown s_textSize s_place s_people s_readPeople s_acts s_seen s_seed s_rowSize s_feedMany s_feedRow s_restMany s_restFirst), (ad 5, aI G 7 q_kind), (ad 10, aI G 17 q_page), (ad 11, aI G 17 q_trial), (ad 20, aI G 7 q_row)]) := by
  refine mk_Wi (cc := cX4_last) (maxL := 1) (by decide) rfl (Nat.le_of_ble_eq_true rfl) ?_
  intro p e s m args below meth c Q ls A S hP hK hD hl hret
  obtain ⟨hx, hb, hml, hown, hts⟩ := S
  have hown : s.vm.findClass RX4 = some m.cls := hown
  have kl_60 := hts (.fieldLink RX4 60 "ArrestOrderModel" "thrown" "I") (by decide +kernel)
  have hi_X4 : ∀ w ∈ wsX40, w ∈ wsX4_last := fun _ h => List.mem_cons_of_mem _ (List.mem_append_right _ h)
  have kl_28 := hts (.fieldLink RX4 28 "ArrestOrderModel" "trial" "[I") (by decide +kernel)
  have hS : va_S A s.heap s.heap [] := va_S.rf
  have hl : lv_has ls 1 [(0, .ref h0)] := hl
  refine lv_aload_n hx hb dX4_last_0 rfl (lv_at hl 0 rfl) ?_
  refine lv_iconst (v := 0) hx hb dX4_last_1 (by decide) ?_
  refine va_put (D := gD G) (ci := 4) (v := .int 0) (ty := .int) (C := RX4) (T := TX4) (N := 29) hx hb hts hi_X4 tyX4 tyX4_ok nmX4 hown hK.1 hP hD hS 0 rfl rfl 0 (by decide) kl_60 (fun _ h9 => h9) rfl (tyX4_ok 0 (by decide)) rfl rfl (Nat.le_of_ble_eq_true rfl) dX4_last_2 (fun H locs hP hD hS => ?_)
  have hP : va_P (gD G) vwCl [(h0, moE ad 0 s_textSize s_place s_people s_readPeople s_acts s_seen s_seed s_rowSize s_feedMany s_feedRow s_restMany s_restFirst), (ad 5, aI G 7 q_kind), (ad 10, aI G 17 q_page), (ad 11, aI G 17 q_trial), (ad 20, aI G 7 q_row)] H := hP
  have hD : va_D A [(h0, moE ad 0 s_textSize s_place s_people s_readPeople s_acts s_seen s_seed s_rowSize s_feedMany s_feedRow s_restMany s_restFirst), (ad 5, aI G 7 q_kind), (ad 10, aI G 17 q_page), (ad 11, aI G 17 q_trial), (ad 20, aI G 7 q_row)] := hD
  refine lv_aload_n hx hb dX4_last_5 rfl (lv_at hl 0 rfl) ?_
  obtain ⟨o1, hc2, hf⟩ := bindS hf
  refine rw_v (va_runV (C := RX4) (As := []) (rest := []) ⟨hx, hb, hml, hown, hts⟩ (ctX4_begin l G h0 ad 0 s_textSize s_place s_people s_readPeople s_acts s_seen s_seed s_rowSize s_feedMany s_feedRow s_restMany s_restFirst q_page q_trial o1 hc2) (cwV 0 hts gX4_last_X4_begin rfl rfl rfl (by decide +kernel) ⟨Nat.le_of_ble_eq_true rfl, Nat.le_of_ble_eq_true rfl⟩) (preW_V (q0 := 0) (ci := 4) (hP.sub (ws' := [(h0, moE ad 0 s_textSize s_place s_people s_readPeople s_acts s_seen s_seed s_rowSize s_feedMany s_feedRow s_restMany s_restFirst), (ad 10, aI G 17 q_page), (ad 11, aI G 17 q_trial)]) [0, 2, 3] rfl) (hD.sub (ws' := [(h0, moE ad 0 s_textSize s_place s_people s_readPeople s_acts s_seen s_seed s_rowSize s_feedMany s_feedRow s_restMany s_restFirst), (ad 10, aI G 17 q_page), (ad 11, aI G 17 q_trial)]) [0, 2, 3] (by decide) rfl) hK rfl rfl) rfl rfl hl.1 rfl (lv_room (Nat.le_of_ble_eq_true rfl)) dX4_last_6 ⟨Nat.zero_le _, Nat.zero_le _⟩) hS hP hD [0, 2, 3] rfl rfl rfl (fun H locs hP hD hS => ?_)
  have hP : va_P (gD G) vwCl [(h0, moE ad 0 s_textSize s_place s_people s_readPeople s_acts s_seen s_seed s_rowSize s_feedMany s_feedRow s_restMany s_restFirst), (ad 5, aI G 7 q_kind), (ad 10, aI G 17 q_page), (ad 11, aI G 17 o1), (ad 20, aI G 7 q_row)] H := hP
  have hD : va_D A [(h0, moE ad 0 s_textSize s_place s_people s_readPeople s_acts s_seen s_seed s_rowSize s_feedMany s_feedRow s_restMany s_restFirst), (ad 5, aI G 7 q_kind), (ad 10, aI G 17 q_page), (ad 11, aI G 17 o1), (ad 20, aI G 7 q_row)] := hD
  refine lv_aload_n hx hb dX4_last_9 rfl (lv_at hl 0 rfl) ?_
  obtain ⟨o3, hc4, hf⟩ := bindS hf
  refine rw_v (va_runV (C := RX4) (As := []) (rest := []) ⟨hx, hb, hml, hown, hts⟩ (ctX4_layFall l G h0 ad 0 s_textSize s_place s_people s_readPeople s_acts s_seen s_seed s_rowSize s_feedMany s_feedRow s_restMany s_restFirst q_kind o1 q_row o3 hc4) (cwV 0 hts gX4_last_X4_layFall rfl rfl rfl (by decide +kernel) ⟨Nat.le_of_ble_eq_true rfl, Nat.le_of_ble_eq_true rfl⟩) (preW_V (q0 := 0) (ci := 4) (hP.sub (ws' := [(h0, moE ad 0 s_textSize s_place s_people s_readPeople s_acts s_seen s_seed s_rowSize s_feedMany s_feedRow s_restMany s_restFirst), (ad 5, aI G 7 q_kind), (ad 11, aI G 17 o1), (ad 20, aI G 7 q_row)]) [0, 1, 3, 4] rfl) (hD.sub (ws' := [(h0, moE ad 0 s_textSize s_place s_people s_readPeople s_acts s_seen s_seed s_rowSize s_feedMany s_feedRow s_restMany s_restFirst), (ad 5, aI G 7 q_kind), (ad 11, aI G 17 o1), (ad 20, aI G 7 q_row)]) [0, 1, 3, 4] (by decide) rfl) hK rfl rfl) rfl rfl hl.1 rfl (lv_room (Nat.le_of_ble_eq_true rfl)) dX4_last_10 ⟨Nat.zero_le _, Nat.zero_le _⟩) hS hP hD [0, 1, 3, 4] rfl rfl rfl (fun H locs hP hD hS => ?_)
  have hP : va_P (gD G) vwCl [(h0, moE ad 0 s_textSize s_place s_people s_readPeople s_acts s_seen s_seed o3.1 s_feedMany s_feedRow s_restMany s_restFirst), (ad 5, aI G 7 q_kind), (ad 10, aI G 17 q_page), (ad 11, aI G 17 o3.2.1), (ad 20, aI G 7 o3.2.2)] H := hP
  have hD : va_D A [(h0, moE ad 0 s_textSize s_place s_people s_readPeople s_acts s_seen s_seed o3.1 s_feedMany s_feedRow s_restMany s_restFirst), (ad 5, aI G 7 q_kind), (ad 10, aI G 17 q_page), (ad 11, aI G 17 o3.2.1), (ad 20, aI G 7 o3.2.2)] := hD
  refine lv_aload_n hx hb dX4_last_13 rfl (lv_at hl 0 rfl) ?_
  refine va_get (D := gD G) (ci := 4) (v := .ref (ad 11)) (C := RX4) (T := TX4) (N := 29) hx hb hts hi_X4 hown hK.1 hP 0 rfl rfl 11 (by decide) kl_28 (fun _ h9 => h9) rfl dX4_last_14 ?_
  refine lv_bipush (v := 14) hx hb dX4_last_17 (by decide) ?_
  obtain ⟨hi5, hf⟩ := ckS hf
  refine va_iald hx hb hK.1 hP 3 0 rfl rfl hi5 dX4_last_19 ?_
  have hv := Option.some.inj hf
  exact hret _ _ _ _ _ (by rw [← hv]; exact hP) hS (by rw [← hv]) dX4_last_20
def fX4_isPair (s_people : Int32) (q_page : Nat → Int32) (a1 : Int32) : Option (Int32) :=
  (fX4_noPerson s_people (a1 / 10)).bind fun o1 => ((if o1 = 0 then (fX4_noPerson s_people (a1 - a1 / 10 * 10)).bind fun o4 => ((if o4 = 0 then (if (a1 / 10) = (a1 - a1 / 10 * 10) then some 0 else ck (7 + (a1 / 10)) 17 ((fX4_has (q_page (Int32.toNatClampNeg (7 + (a1 / 10)))) (a1 - a1 / 10 * 10)).bind fun o9 => ((if o9 = 0 then some 1 else some 0)))) else some 0)) else some 0))
set_option maxHeartbeats 4000000 in
set_option maxRecDepth 100000 in
theorem ctX4_isPair (l : Launch) (G : GG) (h0 : Nat) (ad : Nat → Nat) (s_thrown : Int32) (s_textSize : Int32) (s_place : Int32) (s_people : Int32) (s_readPeople : Int32) (s_acts : Int32) (s_seen : Int32) (s_seed : Int64) (s_rowSize : Int32) (s_feedMany : Int32) (s_feedRow : Int32) (s_restMany : Int32) (s_restFirst : Int32) (q_page : Nat → Int32) (a1 : Int32) (out : Int32) (hf : fX4_isPair s_people q_page a1 = some out) : Met l yX4_isPair wsX4_isPair ({ frames := 2, cells := 0, slots := 0, locals := 46 }) (PcR G [.ref h0, .int a1] [(h0, moE ad s_thrown s_textSize s_place s_people s_readPeople s_acts s_seen s_seed s_rowSize s_feedMany s_feedRow s_restMany s_restFirst), (ad 10, aI G 17 q_page)]) (QiR out) 0 0 noA := by
  refine mk_Rz (cc := cX4_isPair) (maxL := 4) (by decide) rfl (Nat.le_of_ble_eq_true rfl) ?_
  intro p e s m args below meth c Q ls S hP hK hl hret
  obtain ⟨hx, hb, hml, hown, hts⟩ := S
  have hown : s.vm.findClass RX4 = some m.cls := hown
  have kl_25 := hts (.fieldLink RX4 25 "ArrestOrderModel" "page" "[I") (by decide +kernel)
  have hi_X4 : ∀ w ∈ wsX40, w ∈ wsX4_isPair := fun _ h => List.mem_cons_of_mem _ (List.mem_append_right _ h)
  have hS : va_S noA s.heap s.heap [] := va_S.rf
  have hl : lv_has ls 4 [(0, .ref h0), (1, .int a1)] := hl
  refine lv_iload_n hx hb dX4_isPair_0 rfl (lv_at hl 1 rfl) ?_
  refine lv_bipush (v := 10) hx hb dX4_isPair_1 (by decide) ?_
  refine lv_idiv hx hb dX4_isPair_3 (by decide) ?_
  refine lv_istore_n (lv' := [(2, .int (a1 / 10)), (0, .ref h0), (1, .int a1)]) hx hb dX4_isPair_4 rfl hl (by decide) rfl (fun ls hl => ?_)
  refine lv_iload_n hx hb dX4_isPair_5 rfl (lv_at hl 2 rfl) ?_
  refine lv_bipush (v := 10) hx hb dX4_isPair_6 (by decide) ?_
  refine lv_irem hx hb dX4_isPair_8 (by decide) ?_
  refine lv_istore_n (lv' := [(3, .int (a1 - a1 / 10 * 10)), (2, .int (a1 / 10)), (0, .ref h0), (1, .int a1)]) hx hb dX4_isPair_9 rfl hl (by decide) rfl (fun ls hl => ?_)
  refine lv_aload_n hx hb dX4_isPair_10 rfl (lv_at hl 2 rfl) ?_
  refine lv_iload_n hx hb dX4_isPair_11 rfl (lv_at hl 1 rfl) ?_
  obtain ⟨o1, hc2, hf⟩ := bindS hf
  refine ro_i (va_runV (C := RX4) (As := [.int (a1 / 10)]) (rest := []) ⟨hx, hb, hml, hown, hts⟩ (ctX4_noPerson l G h0 ad s_thrown s_textSize s_place s_people s_readPeople s_acts s_seen s_seed s_rowSize s_feedMany s_feedRow s_restMany s_restFirst (a1 / 10) o1 hc2) (cwV 1 hts gX4_isPair_X4_noPerson rfl rfl rfl (by decide +kernel) ⟨Nat.le_of_ble_eq_true rfl, Nat.le_of_ble_eq_true rfl⟩) (preR_V (q0 := 0) (ci := 4) (hP.sub (ws' := [(h0, moE ad s_thrown s_textSize s_place s_people s_readPeople s_acts s_seen s_seed s_rowSize s_feedMany s_feedRow s_restMany s_restFirst)]) [0] rfl) hK rfl rfl) rfl rfl hl.1 rfl (lv_room (Nat.le_of_ble_eq_true rfl)) dX4_isPair_12 ⟨Nat.zero_le _, Nat.zero_le _⟩) hS hP (fun H locs hP hS => ?_)
  refine lv_if_ne (tgt := 51) hx hb dX4_isPair_15 (by decide) (fun c3 => ?_) (fun c3 => ?_)
  · have hf := iteF hf c3
    refine lv_iconst (v := 0) hx hb dX4_isPair_51 (by decide) ?_
    have hv := Option.some.inj hf
    exact hret _ _ _ _ _ hS rfl hv dX4_isPair_52
  · have hf := iteT hf c3
    refine lv_aload_n hx hb dX4_isPair_18 rfl (lv_at hl 2 rfl) ?_
    refine lv_iload_n hx hb dX4_isPair_19 rfl (lv_at hl 0 rfl) ?_
    obtain ⟨o4, hc5, hf⟩ := bindS hf
    refine ro_i (va_runV (C := RX4) (As := [.int (a1 - a1 / 10 * 10)]) (rest := []) ⟨hx, hb, hml, hown, hts⟩ (ctX4_noPerson l G h0 ad s_thrown s_textSize s_place s_people s_readPeople s_acts s_seen s_seed s_rowSize s_feedMany s_feedRow s_restMany s_restFirst (a1 - a1 / 10 * 10) o4 hc5) (cwV 1 hts gX4_isPair_X4_noPerson rfl rfl rfl (by decide +kernel) ⟨Nat.le_of_ble_eq_true rfl, Nat.le_of_ble_eq_true rfl⟩) (preR_V (q0 := 0) (ci := 4) (hP.sub (ws' := [(h0, moE ad s_thrown s_textSize s_place s_people s_readPeople s_acts s_seen s_seed s_rowSize s_feedMany s_feedRow s_restMany s_restFirst)]) [0] rfl) hK rfl rfl) rfl rfl hl.1 rfl (lv_room (Nat.le_of_ble_eq_true rfl)) dX4_isPair_20 ⟨Nat.zero_le _, Nat.zero_le _⟩) hS hP (fun H locs hP hS => ?_)
    refine lv_if_ne (tgt := 51) hx hb dX4_isPair_23 (by decide) (fun c6 => ?_) (fun c6 => ?_)
    · have hf := iteF hf c6
      refine lv_iconst (v := 0) hx hb dX4_isPair_51 (by decide) ?_
      have hv := Option.some.inj hf
      exact hret _ _ _ _ _ hS rfl hv dX4_isPair_52
    · have hf := iteT hf c6
      refine lv_iload_n hx hb dX4_isPair_26 rfl (lv_at hl 1 rfl) ?_
      refine lv_iload_n hx hb dX4_isPair_27 rfl (lv_at hl 0 rfl) ?_
      refine lv_icmp_eq (tgt := 51) hx hb dX4_isPair_28 (by decide) (fun c7 => ?_) (fun c7 => ?_)
      · have hf := iteT hf c7
        refine lv_iconst (v := 0) hx hb dX4_isPair_51 (by decide) ?_
        have hv := Option.some.inj hf
        exact hret _ _ _ _ _ hS rfl hv dX4_isPair_52
      · have hf := iteF hf c7
        refine lv_aload_n hx hb dX4_isPair_31 rfl (lv_at hl 2 rfl) ?_
        refine va_get (D := gD G) (ci := 4) (v := .ref (ad 10)) (C := RX4) (T := TX4) (N := 29) hx hb hts hi_X4 hown hK.1 hP 0 rfl rfl 10 (by decide) kl_25 (fun _ h9 => h9) rfl dX4_isPair_32 ?_
        refine lv_bipush (v := 7) hx hb dX4_isPair_35 (by decide) ?_
        refine lv_iload_n hx hb dX4_isPair_37 rfl (lv_at hl 1 rfl) ?_
        refine lv_iadd hx hb dX4_isPair_38 ?_
        obtain ⟨hi8, hf⟩ := ckS hf
        refine va_iald hx hb hK.1 hP 1 0 rfl rfl hi8 dX4_isPair_39 ?_
        refine lv_iload_n hx hb dX4_isPair_40 rfl (lv_at hl 0 rfl) ?_
        obtain ⟨o9, hc10, hf⟩ := bindS hf
        refine ro_i (va_runS (As := [.int (q_page (Int32.toNatClampNeg (7 + (a1 / 10)))), .int (a1 - a1 / 10 * 10)]) (rest := []) ⟨hx, hb, hml, hown, hts⟩ (ctX4_has l G (q_page (Int32.toNatClampNeg (7 + (a1 / 10)))) (a1 - a1 / 10 * 10) o9 hc10) (va_cwS 2 hts gX4_isPair_X4_has rfl rfl rfl (by decide +kernel) ⟨Nat.le_of_ble_eq_true rfl, Nat.le_of_ble_eq_true rfl⟩) (preR_S (hP.sub (ws' := []) [] rfl) hK) rfl rfl hl.1 rfl (lv_room (Nat.le_of_ble_eq_true rfl)) dX4_isPair_41 ⟨Nat.zero_le _, Nat.zero_le _⟩) hS hP (fun H locs hP hS => ?_)
        refine lv_if_ne (tgt := 51) hx hb dX4_isPair_44 (by decide) (fun c11 => ?_) (fun c11 => ?_)
        · have hf := iteF hf c11
          refine lv_iconst (v := 0) hx hb dX4_isPair_51 (by decide) ?_
          have hv := Option.some.inj hf
          exact hret _ _ _ _ _ hS rfl hv dX4_isPair_52
        · have hf := iteT hf c11
          refine lv_iconst (v := 1) hx hb dX4_isPair_47 (by decide) ?_
          refine lv_goto (tgt := 52) hx hb dX4_isPair_48 (by decide) ?_
          have hv := Option.some.inj hf
          exact hret _ _ _ _ _ hS rfl hv dX4_isPair_52
def fX4_isSafe_58 (s_people : Int32) (q_kind : Nat → Int32) (a1 : Int32) (s_rowSize : Int32) (q_trial : Nat → Int32) (q_row : Nat → Int32) : Option (Int32 × Int32 × (Nat → Int32) × (Nat → Int32)) :=
  (fX4_layFall s_people s_rowSize q_kind q_trial q_row).bind fun o5 => ((fX4_placeOf o5.1 o5.2.2 a1).bind fun o7 => ((if o7 = (-9) then some (1, o5.1, o5.2.1, o5.2.2) else some (0, o5.1, o5.2.1, o5.2.2))))
def fX4_isSafe_31 (s_people : Int32) (q_kind : Nat → Int32) (a1 : Int32) (a3 : Int32) (s_rowSize : Int32) (q_trial : Nat → Int32) (q_row : Nat → Int32) : Option (Int32 × Int32 × (Nat → Int32) × (Nat → Int32)) :=
  (if a3 = (-9) then (fX4_isSafe_58 s_people q_kind a1 s_rowSize q_trial q_row) else ck (7 + (a3 / 10)) 17 (ck (7 + (a3 / 10)) 17 ((fX4_isSafe_58 s_people q_kind a1 s_rowSize (upd q_trial (Int32.toNatClampNeg (7 + (a3 / 10))) ((q_trial (Int32.toNatClampNeg (7 + (a3 / 10)))) ||| ((1 : Int32) <<< ((a3 - a3 / 10 * 10) &&& 31)))) q_row))))
def fX4_isSafe (s_people : Int32) (s_rowSize : Int32) (q_kind : Nat → Int32) (q_page : Nat → Int32) (q_trial : Nat → Int32) (q_row : Nat → Int32) (a1 : Int32) (a2 : Int32) (a3 : Int32) : Option (Int32 × Int32 × (Nat → Int32) × (Nat → Int32)) :=
  (fX4_begin q_page q_trial).bind fun o1 => ((if a2 = (-9) then (fX4_isSafe_31 s_people q_kind a1 a3 s_rowSize o1 q_row) else ck (7 + (a2 / 10)) 17 (ck (7 + (a2 / 10)) 17 ((fX4_isSafe_31 s_people q_kind a1 a3 s_rowSize (upd o1 (Int32.toNatClampNeg (7 + (a2 / 10))) ((o1 (Int32.toNatClampNeg (7 + (a2 / 10)))) ||| ((1 : Int32) <<< ((a2 - a2 / 10 * 10) &&& 31)))) q_row)))))
set_option maxHeartbeats 4000000 in
set_option maxRecDepth 100000 in
theorem ctX4_isSafe (l : Launch) (G : GG) (h0 : Nat) (ad : Nat → Nat) (s_thrown : Int32) (s_textSize : Int32) (s_place : Int32) (s_people : Int32) (s_readPeople : Int32) (s_acts : Int32) (s_seen : Int32) (s_seed : Int64) (s_rowSize : Int32) (s_feedMany : Int32) (s_feedRow : Int32) (s_restMany : Int32) (s_restFirst : Int32) (q_kind : Nat → Int32) (q_page : Nat → Int32) (q_trial : Nat → Int32) (q_row : Nat → Int32) (a1 : Int32) (a2 : Int32) (a3 : Int32) (out : Int32 × Int32 × (Nat → Int32) × (Nat → Int32)) (hf : fX4_isSafe s_people s_rowSize q_kind q_page q_trial q_row a1 a2 a3 = some out) : Met l yX4_isSafe wsX4_isSafe ({ frames := 4, cells := 0, slots := 0, locals := 90 }) (PcW G [.ref h0, .int a1, .int a2, .int a3] [(h0, moE ad s_thrown s_textSize s_place s_people s_readPeople s_acts s_seen s_seed s_rowSize s_feedMany s_feedRow s_restMany s_restFirst), (ad 5, aI G 7 q_kind), (ad 10, aI G 17 q_page), (ad 11, aI G 17 q_trial), (ad 20, aI G 7 q_row)]) (QiW G [(h0, moE ad s_thrown s_textSize s_place s_people s_readPeople s_acts s_seen s_seed s_rowSize s_feedMany s_feedRow s_restMany s_restFirst), (ad 5, aI G 7 q_kind), (ad 10, aI G 17 q_page), (ad 11, aI G 17 q_trial), (ad 20, aI G 7 q_row)] [(h0, moE ad s_thrown s_textSize s_place s_people s_readPeople s_acts s_seen s_seed out.2.1 s_feedMany s_feedRow s_restMany s_restFirst), (ad 5, aI G 7 q_kind), (ad 10, aI G 17 q_page), (ad 11, aI G 17 out.2.2.1), (ad 20, aI G 7 out.2.2.2)] out.1) 0 0 (inA [(h0, moE ad s_thrown s_textSize s_place s_people s_readPeople s_acts s_seen s_seed s_rowSize s_feedMany s_feedRow s_restMany s_restFirst), (ad 5, aI G 7 q_kind), (ad 10, aI G 17 q_page), (ad 11, aI G 17 q_trial), (ad 20, aI G 7 q_row)]) := by
  refine mk_Wz (cc := cX4_isSafe) (maxL := 4) (by decide) rfl (Nat.le_of_ble_eq_true rfl) ?_
  intro p e s m args below meth c Q ls A S hP hK hD hl hret
  obtain ⟨hx, hb, hml, hown, hts⟩ := S
  have hown : s.vm.findClass RX4 = some m.cls := hown
  have kl_28 := hts (.fieldLink RX4 28 "ArrestOrderModel" "trial" "[I") (by decide +kernel)
  have hi_X4 : ∀ w ∈ wsX40, w ∈ wsX4_isSafe := fun _ h => List.mem_cons_of_mem _ (List.mem_append_right _ h)
  have hS : va_S A s.heap s.heap [] := va_S.rf
  have hl : lv_has ls 4 [(0, .ref h0), (1, .int a1), (2, .int a2), (3, .int a3)] := hl
  have hC58 : ∀ (s_rowSize : Int32) (q_trial : Nat → Int32) (q_row : Nat → Int32) (H : Heap) (locs : List Loc) (ls : Array Slot), va_P (gD G) vwCl [(h0, moE ad s_thrown s_textSize s_place s_people s_readPeople s_acts s_seen s_seed s_rowSize s_feedMany s_feedRow s_restMany s_restFirst), (ad 5, aI G 7 q_kind), (ad 10, aI G 17 q_page), (ad 11, aI G 17 q_trial), (ad 20, aI G 7 q_row)] H → va_D A [(h0, moE ad s_thrown s_textSize s_place s_people s_readPeople s_acts s_seen s_seed s_rowSize s_feedMany s_feedRow s_restMany s_restFirst), (ad 5, aI G 7 q_kind), (ad 10, aI G 17 q_page), (ad 11, aI G 17 q_trial), (ad 20, aI G 7 q_row)] → va_S A s.heap H locs → lv_has ls 4 [(0, .ref h0), (1, .int a1)] → fX4_isSafe_58 s_people q_kind a1 s_rowSize q_trial q_row = some out → W p l e ({ frames := 4, cells := 0, slots := 0, locals := 90 }) s m args below meth c H locs 0 0 Q (F0 m 58 ls []) := by
    intro s_rowSize q_trial q_row H locs ls hP hD hS hl hf
    refine lv_aload_n hx hb dX4_isSafe_58 rfl (lv_at hl 0 rfl) ?_
    obtain ⟨o5, hc6, hf⟩ := bindS hf
    refine rw_v (va_runV (C := RX4) (As := []) (rest := []) ⟨hx, hb, hml, hown, hts⟩ (ctX4_layFall l G h0 ad s_thrown s_textSize s_place s_people s_readPeople s_acts s_seen s_seed s_rowSize s_feedMany s_feedRow s_restMany s_restFirst q_kind q_trial q_row o5 hc6) (cwV 0 hts gX4_isSafe_X4_layFall rfl rfl rfl (by decide +kernel) ⟨Nat.le_of_ble_eq_true rfl, Nat.le_of_ble_eq_true rfl⟩) (preW_V (q0 := 0) (ci := 4) (hP.sub (ws' := [(h0, moE ad s_thrown s_textSize s_place s_people s_readPeople s_acts s_seen s_seed s_rowSize s_feedMany s_feedRow s_restMany s_restFirst), (ad 5, aI G 7 q_kind), (ad 11, aI G 17 q_trial), (ad 20, aI G 7 q_row)]) [0, 1, 3, 4] rfl) (hD.sub (ws' := [(h0, moE ad s_thrown s_textSize s_place s_people s_readPeople s_acts s_seen s_seed s_rowSize s_feedMany s_feedRow s_restMany s_restFirst), (ad 5, aI G 7 q_kind), (ad 11, aI G 17 q_trial), (ad 20, aI G 7 q_row)]) [0, 1, 3, 4] (by decide) rfl) hK rfl rfl) rfl rfl hl.1 rfl (lv_room (Nat.le_of_ble_eq_true rfl)) dX4_isSafe_59 ⟨Nat.zero_le _, Nat.zero_le _⟩) hS hP hD [0, 1, 3, 4] rfl rfl rfl (fun H locs hP hD hS => ?_)
    have hP : va_P (gD G) vwCl [(h0, moE ad s_thrown s_textSize s_place s_people s_readPeople s_acts s_seen s_seed o5.1 s_feedMany s_feedRow s_restMany s_restFirst), (ad 5, aI G 7 q_kind), (ad 10, aI G 17 q_page), (ad 11, aI G 17 o5.2.1), (ad 20, aI G 7 o5.2.2)] H := hP
    have hD : va_D A [(h0, moE ad s_thrown s_textSize s_place s_people s_readPeople s_acts s_seen s_seed o5.1 s_feedMany s_feedRow s_restMany s_restFirst), (ad 5, aI G 7 q_kind), (ad 10, aI G 17 q_page), (ad 11, aI G 17 o5.2.1), (ad 20, aI G 7 o5.2.2)] := hD
    refine lv_aload_n hx hb dX4_isSafe_62 rfl (lv_at hl 0 rfl) ?_
    refine lv_iload_n hx hb dX4_isSafe_63 rfl (lv_at hl 1 rfl) ?_
    obtain ⟨o7, hc8, hf⟩ := bindS hf
    refine ro_i (va_runV (C := RX4) (As := [.int a1]) (rest := []) ⟨hx, hb, hml, hown, hts⟩ (ctX4_placeOf l G h0 ad s_thrown s_textSize s_place s_people s_readPeople s_acts s_seen s_seed o5.1 s_feedMany s_feedRow s_restMany s_restFirst o5.2.2 a1 o7 hc8) (cwV 1 hts gX4_isSafe_X4_placeOf rfl rfl rfl (by decide +kernel) ⟨Nat.le_of_ble_eq_true rfl, Nat.le_of_ble_eq_true rfl⟩) (preR_V (q0 := 0) (ci := 4) (hP.sub (ws' := [(h0, moE ad s_thrown s_textSize s_place s_people s_readPeople s_acts s_seen s_seed o5.1 s_feedMany s_feedRow s_restMany s_restFirst), (ad 20, aI G 7 o5.2.2)]) [0, 4] rfl) hK rfl rfl) rfl rfl hl.1 rfl (lv_room (Nat.le_of_ble_eq_true rfl)) dX4_isSafe_64 ⟨Nat.zero_le _, Nat.zero_le _⟩) hS hP (fun H locs hP hS => ?_)
    refine lv_bipush (v := (-9)) hx hb dX4_isSafe_67 (by decide) ?_
    refine lv_icmp_ne (tgt := 76) hx hb dX4_isSafe_69 (by decide) (fun c9 => ?_) (fun c9 => ?_)
    · have hf := iteF hf c9
      refine lv_iconst (v := 0) hx hb dX4_isSafe_76 (by decide) ?_
      have hv := Option.some.inj hf
      exact hret _ _ _ _ _ (by rw [← hv]; exact hP) hS rfl (by rw [← hv]) dX4_isSafe_77
    · have hf := iteT hf c9
      refine lv_iconst (v := 1) hx hb dX4_isSafe_72 (by decide) ?_
      refine lv_goto (tgt := 77) hx hb dX4_isSafe_73 (by decide) ?_
      have hv := Option.some.inj hf
      exact hret _ _ _ _ _ (by rw [← hv]; exact hP) hS rfl (by rw [← hv]) dX4_isSafe_77
  have hC31 : ∀ (s_rowSize : Int32) (q_trial : Nat → Int32) (q_row : Nat → Int32) (H : Heap) (locs : List Loc) (ls : Array Slot), va_P (gD G) vwCl [(h0, moE ad s_thrown s_textSize s_place s_people s_readPeople s_acts s_seen s_seed s_rowSize s_feedMany s_feedRow s_restMany s_restFirst), (ad 5, aI G 7 q_kind), (ad 10, aI G 17 q_page), (ad 11, aI G 17 q_trial), (ad 20, aI G 7 q_row)] H → va_D A [(h0, moE ad s_thrown s_textSize s_place s_people s_readPeople s_acts s_seen s_seed s_rowSize s_feedMany s_feedRow s_restMany s_restFirst), (ad 5, aI G 7 q_kind), (ad 10, aI G 17 q_page), (ad 11, aI G 17 q_trial), (ad 20, aI G 7 q_row)] → va_S A s.heap H locs → lv_has ls 4 [(0, .ref h0), (1, .int a1), (3, .int a3)] → fX4_isSafe_31 s_people q_kind a1 a3 s_rowSize q_trial q_row = some out → W p l e ({ frames := 4, cells := 0, slots := 0, locals := 90 }) s m args below meth c H locs 0 0 Q (F0 m 31 ls []) := by
    intro s_rowSize q_trial q_row H locs ls hP hD hS hl hf
    refine lv_iload_n hx hb dX4_isSafe_31 rfl (lv_at hl 2 rfl) ?_
    refine lv_bipush (v := (-9)) hx hb dX4_isSafe_32 (by decide) ?_
    refine lv_icmp_eq (tgt := 58) hx hb dX4_isSafe_34 (by decide) (fun c4 => ?_) (fun c4 => ?_)
    · have hf := iteT hf c4
      exact hC58 s_rowSize q_trial q_row _ _ _ hP hD hS (lv_sub hl [0, 1] rfl) hf
    · have hf := iteF hf c4
      refine lv_aload_n hx hb dX4_isSafe_37 rfl (lv_at hl 0 rfl) ?_
      refine va_get (D := gD G) (ci := 4) (v := .ref (ad 11)) (C := RX4) (T := TX4) (N := 29) hx hb hts hi_X4 hown hK.1 hP 0 rfl rfl 11 (by decide) kl_28 (fun _ h9 => h9) rfl dX4_isSafe_38 ?_
      refine lv_bipush (v := 7) hx hb dX4_isSafe_41 (by decide) ?_
      refine lv_iload_n hx hb dX4_isSafe_43 rfl (lv_at hl 2 rfl) ?_
      refine lv_bipush (v := 10) hx hb dX4_isSafe_44 (by decide) ?_
      refine lv_idiv hx hb dX4_isSafe_46 (by decide) ?_
      refine lv_iadd hx hb dX4_isSafe_47 ?_
      refine lv_dup2_11 hx hb dX4_isSafe_48 rfl rfl ?_
      obtain ⟨hi10, hf⟩ := ckS hf
      refine va_iald hx hb hK.1 hP 3 0 rfl rfl hi10 dX4_isSafe_49 ?_
      refine lv_iconst (v := 1) hx hb dX4_isSafe_50 (by decide) ?_
      refine lv_iload_n hx hb dX4_isSafe_51 rfl (lv_at hl 2 rfl) ?_
      refine lv_bipush (v := 10) hx hb dX4_isSafe_52 (by decide) ?_
      refine lv_irem hx hb dX4_isSafe_54 (by decide) ?_
      refine lv_ishl hx hb dX4_isSafe_55 ?_
      refine lv_ior hx hb dX4_isSafe_56 ?_
      obtain ⟨hi11, hf⟩ := ckS hf
      refine va_iast hx hb hK.1 hP hD hS 3 0 rfl rfl hi11 dX4_isSafe_57 (fun H locs hP hD hS => ?_)
      have hP : va_P (gD G) vwCl [(h0, moE ad s_thrown s_textSize s_place s_people s_readPeople s_acts s_seen s_seed s_rowSize s_feedMany s_feedRow s_restMany s_restFirst), (ad 5, aI G 7 q_kind), (ad 10, aI G 17 q_page), (ad 11, aI G 17 (upd q_trial (Int32.toNatClampNeg (7 + (a3 / 10))) ((q_trial (Int32.toNatClampNeg (7 + (a3 / 10)))) ||| ((1 : Int32) <<< ((a3 - a3 / 10 * 10) &&& 31))))), (ad 20, aI G 7 q_row)] H := hP
      have hD : va_D A [(h0, moE ad s_thrown s_textSize s_place s_people s_readPeople s_acts s_seen s_seed s_rowSize s_feedMany s_feedRow s_restMany s_restFirst), (ad 5, aI G 7 q_kind), (ad 10, aI G 17 q_page), (ad 11, aI G 17 (upd q_trial (Int32.toNatClampNeg (7 + (a3 / 10))) ((q_trial (Int32.toNatClampNeg (7 + (a3 / 10)))) ||| ((1 : Int32) <<< ((a3 - a3 / 10 * 10) &&& 31))))), (ad 20, aI G 7 q_row)] := hD
      exact hC58 s_rowSize (upd q_trial (Int32.toNatClampNeg (7 + (a3 / 10))) ((q_trial (Int32.toNatClampNeg (7 + (a3 / 10)))) ||| ((1 : Int32) <<< ((a3 - a3 / 10 * 10) &&& 31)))) q_row _ _ _ hP hD hS (lv_sub hl [0, 1] rfl) hf
  refine lv_aload_n hx hb dX4_isSafe_0 rfl (lv_at hl 0 rfl) ?_
  obtain ⟨o1, hc2, hf⟩ := bindS hf
  refine rw_v (va_runV (C := RX4) (As := []) (rest := []) ⟨hx, hb, hml, hown, hts⟩ (ctX4_begin l G h0 ad s_thrown s_textSize s_place s_people s_readPeople s_acts s_seen s_seed s_rowSize s_feedMany s_feedRow s_restMany s_restFirst q_page q_trial o1 hc2) (cwV 0 hts gX4_isSafe_X4_begin rfl rfl rfl (by decide +kernel) ⟨Nat.le_of_ble_eq_true rfl, Nat.le_of_ble_eq_true rfl⟩) (preW_V (q0 := 0) (ci := 4) (hP.sub (ws' := [(h0, moE ad s_thrown s_textSize s_place s_people s_readPeople s_acts s_seen s_seed s_rowSize s_feedMany s_feedRow s_restMany s_restFirst), (ad 10, aI G 17 q_page), (ad 11, aI G 17 q_trial)]) [0, 2, 3] rfl) (hD.sub (ws' := [(h0, moE ad s_thrown s_textSize s_place s_people s_readPeople s_acts s_seen s_seed s_rowSize s_feedMany s_feedRow s_restMany s_restFirst), (ad 10, aI G 17 q_page), (ad 11, aI G 17 q_trial)]) [0, 2, 3] (by decide) rfl) hK rfl rfl) rfl rfl hl.1 rfl (lv_room (Nat.le_of_ble_eq_true rfl)) dX4_isSafe_1 ⟨Nat.zero_le _, Nat.zero_le _⟩) hS hP hD [0, 2, 3] rfl rfl rfl (fun H locs hP hD hS => ?_)
  have hP : va_P (gD G) vwCl [(h0, moE ad s_thrown s_textSize s_place s_people s_readPeople s_acts s_seen s_seed s_rowSize s_feedMany s_feedRow s_restMany s_restFirst), (ad 5, aI G 7 q_kind), (ad 10, aI G 17 q_page), (ad 11, aI G 17 o1), (ad 20, aI G 7 q_row)] H := hP
  have hD : va_D A [(h0, moE ad s_thrown s_textSize s_place s_people s_readPeople s_acts s_seen s_seed s_rowSize s_feedMany s_feedRow s_restMany s_restFirst), (ad 5, aI G 7 q_kind), (ad 10, aI G 17 q_page), (ad 11, aI G 17 o1), (ad 20, aI G 7 q_row)] := hD
  refine lv_iload_n hx hb dX4_isSafe_4 rfl (lv_at hl 2 rfl) ?_
  refine lv_bipush (v := (-9)) hx hb dX4_isSafe_5 (by decide) ?_
  refine lv_icmp_eq (tgt := 31) hx hb dX4_isSafe_7 (by decide) (fun c3 => ?_) (fun c3 => ?_)
  · have hf := iteT hf c3
    exact hC31 s_rowSize o1 q_row _ _ _ hP hD hS (lv_sub hl [0, 1, 3] rfl) hf
  · have hf := iteF hf c3
    refine lv_aload_n hx hb dX4_isSafe_10 rfl (lv_at hl 0 rfl) ?_
    refine va_get (D := gD G) (ci := 4) (v := .ref (ad 11)) (C := RX4) (T := TX4) (N := 29) hx hb hts hi_X4 hown hK.1 hP 0 rfl rfl 11 (by decide) kl_28 (fun _ h9 => h9) rfl dX4_isSafe_11 ?_
    refine lv_bipush (v := 7) hx hb dX4_isSafe_14 (by decide) ?_
    refine lv_iload_n hx hb dX4_isSafe_16 rfl (lv_at hl 2 rfl) ?_
    refine lv_bipush (v := 10) hx hb dX4_isSafe_17 (by decide) ?_
    refine lv_idiv hx hb dX4_isSafe_19 (by decide) ?_
    refine lv_iadd hx hb dX4_isSafe_20 ?_
    refine lv_dup2_11 hx hb dX4_isSafe_21 rfl rfl ?_
    obtain ⟨hi12, hf⟩ := ckS hf
    refine va_iald hx hb hK.1 hP 3 0 rfl rfl hi12 dX4_isSafe_22 ?_
    refine lv_iconst (v := 1) hx hb dX4_isSafe_23 (by decide) ?_
    refine lv_iload_n hx hb dX4_isSafe_24 rfl (lv_at hl 2 rfl) ?_
    refine lv_bipush (v := 10) hx hb dX4_isSafe_25 (by decide) ?_
    refine lv_irem hx hb dX4_isSafe_27 (by decide) ?_
    refine lv_ishl hx hb dX4_isSafe_28 ?_
    refine lv_ior hx hb dX4_isSafe_29 ?_
    obtain ⟨hi13, hf⟩ := ckS hf
    refine va_iast hx hb hK.1 hP hD hS 3 0 rfl rfl hi13 dX4_isSafe_30 (fun H locs hP hD hS => ?_)
    have hP : va_P (gD G) vwCl [(h0, moE ad s_thrown s_textSize s_place s_people s_readPeople s_acts s_seen s_seed s_rowSize s_feedMany s_feedRow s_restMany s_restFirst), (ad 5, aI G 7 q_kind), (ad 10, aI G 17 q_page), (ad 11, aI G 17 (upd o1 (Int32.toNatClampNeg (7 + (a2 / 10))) ((o1 (Int32.toNatClampNeg (7 + (a2 / 10)))) ||| ((1 : Int32) <<< ((a2 - a2 / 10 * 10) &&& 31))))), (ad 20, aI G 7 q_row)] H := hP
    have hD : va_D A [(h0, moE ad s_thrown s_textSize s_place s_people s_readPeople s_acts s_seen s_seed s_rowSize s_feedMany s_feedRow s_restMany s_restFirst), (ad 5, aI G 7 q_kind), (ad 10, aI G 17 q_page), (ad 11, aI G 17 (upd o1 (Int32.toNatClampNeg (7 + (a2 / 10))) ((o1 (Int32.toNatClampNeg (7 + (a2 / 10)))) ||| ((1 : Int32) <<< ((a2 - a2 / 10 * 10) &&& 31))))), (ad 20, aI G 7 q_row)] := hD
    exact hC31 s_rowSize (upd o1 (Int32.toNatClampNeg (7 + (a2 / 10))) ((o1 (Int32.toNatClampNeg (7 + (a2 / 10)))) ||| ((1 : Int32) <<< ((a2 - a2 / 10 * 10) &&& 31)))) q_row _ _ _ hP hD hS (lv_sub hl [0, 1, 3] rfl) hf
def fX4_findFeed_88 (s_people : Int32) (q_kind : Nat → Int32) (q_page : Nat → Int32) (a1 : Int32) : Nat → Int32 → Int32 → Int32 → Int32 → (Nat → Int32) → (Nat → Int32) → Option (Int32 × Int32 × Int32 × (Nat → Int32) × (Nat → Int32))
  | 0, _, _, _, _, _, _ => none
  | n + 1, x2, s_rowSize, s_feedMany, s_feedRow, q_trial, q_row => (if 6700 ≤ x2 then some (s_rowSize, s_feedMany, s_feedRow, q_trial, q_row) else (if s_feedMany = (-9) then (if (x2 / 100) = (x2 - x2 / 100 * 100) then (fX4_findFeed_88 s_people q_kind q_page a1 n (x2 + 1) s_rowSize s_feedMany s_feedRow q_trial q_row) else (fX4_isPair s_people q_page (x2 / 100)).bind fun o8 => ((if o8 = 0 then (fX4_findFeed_88 s_people q_kind q_page a1 n (x2 + 1) s_rowSize s_feedMany s_feedRow q_trial q_row) else (fX4_isPair s_people q_page (x2 - x2 / 100 * 100)).bind fun o11 => ((if o11 = 0 then (fX4_findFeed_88 s_people q_kind q_page a1 n (x2 + 1) s_rowSize s_feedMany s_feedRow q_trial q_row) else (fX4_isSafe s_people s_rowSize q_kind q_page q_trial q_row a1 (x2 / 100) (x2 - x2 / 100 * 100)).bind fun o14 => ((if o14.1 = 0 then (fX4_findFeed_88 s_people q_kind q_page a1 n (x2 + 1) o14.2.1 s_feedMany s_feedRow o14.2.2.1 o14.2.2.2) else (fX4_findFeed_88 s_people q_kind q_page a1 n (x2 + 1) o14.2.1 2 x2 o14.2.2.1 o14.2.2.2)))))))) else some (s_rowSize, s_feedMany, s_feedRow, q_trial, q_row)))
def fX4_findFeed_36 (s_people : Int32) (q_kind : Nat → Int32) (q_page : Nat → Int32) (a1 : Int32) : Nat → Int32 → Int32 → Int32 → Int32 → (Nat → Int32) → (Nat → Int32) → Option (Int32 × Int32 × Int32 × (Nat → Int32) × (Nat → Int32))
  | 0, _, _, _, _, _, _ => none
  | n + 1, x2, s_rowSize, s_feedMany, s_feedRow, q_trial, q_row => (if 67 ≤ x2 then (fX4_findFeed_88 s_people q_kind q_page a1 6702 0 s_rowSize s_feedMany s_feedRow q_trial q_row) else (if s_feedMany = (-9) then (fX4_isPair s_people q_page x2).bind fun o18 => ((if o18 = 0 then (fX4_findFeed_36 s_people q_kind q_page a1 n (x2 + 1) s_rowSize s_feedMany s_feedRow q_trial q_row) else (fX4_isSafe s_people s_rowSize q_kind q_page q_trial q_row a1 x2 (-9)).bind fun o21 => ((if o21.1 = 0 then (fX4_findFeed_36 s_people q_kind q_page a1 n (x2 + 1) o21.2.1 s_feedMany s_feedRow o21.2.2.1 o21.2.2.2) else (fX4_findFeed_36 s_people q_kind q_page a1 n (x2 + 1) o21.2.1 1 x2 o21.2.2.1 o21.2.2.2))))) else (fX4_findFeed_88 s_people q_kind q_page a1 6702 0 s_rowSize s_feedMany s_feedRow q_trial q_row)))
def fX4_findFeed (s_people : Int32) (s_rowSize : Int32) (s_feedMany : Int32) (s_feedRow : Int32) (q_kind : Nat → Int32) (q_page : Nat → Int32) (q_trial : Nat → Int32) (q_row : Nat → Int32) (a1 : Int32) : Option (Int32 × Int32 × Int32 × (Nat → Int32) × (Nat → Int32)) :=
  (fX4_isSafe s_people s_rowSize q_kind q_page q_trial q_row a1 (-9) (-9)).bind fun o1 => ((if o1.1 = 0 then (fX4_findFeed_36 s_people q_kind q_page a1 70 0 o1.2.1 (-9) (-9) o1.2.2.1 o1.2.2.2) else (fX4_findFeed_36 s_people q_kind q_page a1 70 0 o1.2.1 0 0 o1.2.2.1 o1.2.2.2)))
set_option maxHeartbeats 4000000 in
set_option maxRecDepth 100000 in
theorem ctX4_findFeed (l : Launch) (G : GG) (h0 : Nat) (ad : Nat → Nat) (s_thrown : Int32) (s_textSize : Int32) (s_place : Int32) (s_people : Int32) (s_readPeople : Int32) (s_acts : Int32) (s_seen : Int32) (s_seed : Int64) (s_rowSize : Int32) (s_feedMany : Int32) (s_feedRow : Int32) (s_restMany : Int32) (s_restFirst : Int32) (q_kind : Nat → Int32) (q_page : Nat → Int32) (q_trial : Nat → Int32) (q_row : Nat → Int32) (a1 : Int32) (out : Int32 × Int32 × Int32 × (Nat → Int32) × (Nat → Int32)) (hf : fX4_findFeed s_people s_rowSize s_feedMany s_feedRow q_kind q_page q_trial q_row a1 = some out) : Met l yX4_findFeed wsX4_findFeed ({ frames := 5, cells := 0, slots := 0, locals := 113 }) (PcW G [.ref h0, .int a1] [(h0, moE ad s_thrown s_textSize s_place s_people s_readPeople s_acts s_seen s_seed s_rowSize s_feedMany s_feedRow s_restMany s_restFirst), (ad 5, aI G 7 q_kind), (ad 10, aI G 17 q_page), (ad 11, aI G 17 q_trial), (ad 20, aI G 7 q_row)]) (QvW G [(h0, moE ad s_thrown s_textSize s_place s_people s_readPeople s_acts s_seen s_seed s_rowSize s_feedMany s_feedRow s_restMany s_restFirst), (ad 5, aI G 7 q_kind), (ad 10, aI G 17 q_page), (ad 11, aI G 17 q_trial), (ad 20, aI G 7 q_row)] [(h0, moE ad s_thrown s_textSize s_place s_people s_readPeople s_acts s_seen s_seed out.1 out.2.1 out.2.2.1 s_restMany s_restFirst), (ad 5, aI G 7 q_kind), (ad 10, aI G 17 q_page), (ad 11, aI G 17 out.2.2.2.1), (ad 20, aI G 7 out.2.2.2.2)]) 0 0 (inA [(h0, moE ad s_thrown s_textSize s_place s_people s_readPeople s_acts s_seen s_seed s_rowSize s_feedMany s_feedRow s_restMany s_restFirst), (ad 5, aI G 7 q_kind), (ad 10, aI G 17 q_page), (ad 11, aI G 17 q_trial), (ad 20, aI G 7 q_row)]) := by
  refine mk_Wv (cc := cX4_findFeed) (maxL := 5) (by decide) rfl (Nat.le_of_ble_eq_true rfl) ?_
  intro p e s m args below meth c Q ls A S hP hK hD hl hret
  obtain ⟨hx, hb, hml, hown, hts⟩ := S
  have hown : s.vm.findClass RX4 = some m.cls := hown
  have kl_162 := hts (.fieldLink RX4 162 "ArrestOrderModel" "feedMany" "I") (by decide +kernel)
  have hi_X4 : ∀ w ∈ wsX40, w ∈ wsX4_findFeed := fun _ h => List.mem_cons_of_mem _ (List.mem_append_right _ h)
  have kl_165 := hts (.fieldLink RX4 165 "ArrestOrderModel" "feedRow" "I") (by decide +kernel)
  have hS : va_S A s.heap s.heap [] := va_S.rf
  have hl : lv_has ls 5 [(0, .ref h0), (1, .int a1)] := hl
  have hC88 : ∀ (n : Nat) (x2 : Int32) (s_rowSize : Int32) (s_feedMany : Int32) (s_feedRow : Int32) (q_trial : Nat → Int32) (q_row : Nat → Int32) (H : Heap) (locs : List Loc) (ls : Array Slot), va_P (gD G) vwCl [(h0, moE ad s_thrown s_textSize s_place s_people s_readPeople s_acts s_seen s_seed s_rowSize s_feedMany s_feedRow s_restMany s_restFirst), (ad 5, aI G 7 q_kind), (ad 10, aI G 17 q_page), (ad 11, aI G 17 q_trial), (ad 20, aI G 7 q_row)] H → va_D A [(h0, moE ad s_thrown s_textSize s_place s_people s_readPeople s_acts s_seen s_seed s_rowSize s_feedMany s_feedRow s_restMany s_restFirst), (ad 5, aI G 7 q_kind), (ad 10, aI G 17 q_page), (ad 11, aI G 17 q_trial), (ad 20, aI G 7 q_row)] → va_S A s.heap H locs → lv_has ls 5 [(0, .ref h0), (1, .int a1), (2, .int x2)] → fX4_findFeed_88 s_people q_kind q_page a1 n x2 s_rowSize s_feedMany s_feedRow q_trial q_row = some out → W p l e ({ frames := 5, cells := 0, slots := 0, locals := 113 }) s m args below meth c H locs 0 0 Q (F0 m 88 ls []) := by
    intro n88
    induction n88 with
    | zero => intro x2 s_rowSize s_feedMany s_feedRow q_trial q_row H locs ls hP hD hS hl hf; exact absurd (show none = some out from hf) (fun z => by cases z)
    | succ n88 ih88 =>
      intro x2 s_rowSize s_feedMany s_feedRow q_trial q_row H locs ls hP hD hS hl hf
      refine lv_iload_n hx hb dX4_findFeed_88 rfl (lv_at hl 2 rfl) ?_
      refine lv_sipush (v := 6700) hx hb dX4_findFeed_89 (by decide) ?_
      refine lv_icmp_ge (tgt := 165) hx hb dX4_findFeed_92 (by decide) (fun c5 => ?_) (fun c5 => ?_)
      · have hf := iteT hf c5
        have hv := Option.some.inj hf
        exact hret _ _ _ _ (by rw [← hv]; exact hP) hS dX4_findFeed_165
      · have hf := iteF hf c5
        refine lv_aload_n hx hb dX4_findFeed_95 rfl (lv_at hl 0 rfl) ?_
        refine va_get (D := gD G) (ci := 4) (v := .int s_feedMany) (C := RX4) (T := TX4) (N := 29) hx hb hts hi_X4 hown hK.1 hP 0 rfl rfl 22 (by decide) kl_162 (fun _ h9 => h9) rfl dX4_findFeed_96 ?_
        refine lv_bipush (v := (-9)) hx hb dX4_findFeed_99 (by decide) ?_
        refine lv_icmp_ne (tgt := 165) hx hb dX4_findFeed_101 (by decide) (fun c6 => ?_) (fun c6 => ?_)
        · have hf := iteF hf c6
          have hv := Option.some.inj hf
          exact hret _ _ _ _ (by rw [← hv]; exact hP) hS dX4_findFeed_165
        · have hf := iteT hf c6
          refine lv_iload_n hx hb dX4_findFeed_104 rfl (lv_at hl 2 rfl) ?_
          refine lv_bipush (v := 100) hx hb dX4_findFeed_105 (by decide) ?_
          refine lv_idiv hx hb dX4_findFeed_107 (by decide) ?_
          refine lv_istore_n (lv' := [(3, .int (x2 / 100)), (0, .ref h0), (1, .int a1), (2, .int x2)]) hx hb dX4_findFeed_108 rfl hl (by decide) rfl (fun ls hl => ?_)
          refine lv_iload_n hx hb dX4_findFeed_109 rfl (lv_at hl 3 rfl) ?_
          refine lv_bipush (v := 100) hx hb dX4_findFeed_110 (by decide) ?_
          refine lv_irem hx hb dX4_findFeed_112 (by decide) ?_
          refine lv_istore (lv' := [(4, .int (x2 - x2 / 100 * 100)), (3, .int (x2 / 100)), (0, .ref h0), (1, .int a1), (2, .int x2)]) hx hb dX4_findFeed_113 hl (by decide) rfl (fun ls hl => ?_)
          refine lv_iload_n hx hb dX4_findFeed_115 rfl (lv_at hl 1 rfl) ?_
          refine lv_iload hx hb dX4_findFeed_116 (lv_at hl 0 rfl) ?_
          refine lv_icmp_eq (tgt := 159) hx hb dX4_findFeed_118 (by decide) (fun c7 => ?_) (fun c7 => ?_)
          · have hf := iteT hf c7
            refine lv_iinc (v := (x2 + 1)) (lv' := [(2, .int (x2 + 1)), (4, .int (x2 - x2 / 100 * 100)), (3, .int (x2 / 100)), (0, .ref h0), (1, .int a1)]) hx hb dX4_findFeed_159 hl (k := 4) rfl rfl (by decide) rfl (fun ls hl => ?_)
            refine lv_goto (tgt := 88) hx hb dX4_findFeed_162 (by decide) ?_
            exact ih88 (x2 + 1) s_rowSize s_feedMany s_feedRow q_trial q_row _ _ _ hP hD hS (lv_sub hl [3, 4, 0] rfl) hf
          · have hf := iteF hf c7
            refine lv_aload_n hx hb dX4_findFeed_121 rfl (lv_at hl 2 rfl) ?_
            refine lv_iload_n hx hb dX4_findFeed_122 rfl (lv_at hl 1 rfl) ?_
            obtain ⟨o8, hc9, hf⟩ := bindS hf
            refine ro_i (va_runV (C := RX4) (As := [.int (x2 / 100)]) (rest := []) ⟨hx, hb, hml, hown, hts⟩ (ctX4_isPair l G h0 ad s_thrown s_textSize s_place s_people s_readPeople s_acts s_seen s_seed s_rowSize s_feedMany s_feedRow s_restMany s_restFirst q_page (x2 / 100) o8 hc9) (cwV 1 hts gX4_findFeed_X4_isPair rfl rfl rfl (by decide +kernel) ⟨Nat.le_of_ble_eq_true rfl, Nat.le_of_ble_eq_true rfl⟩) (preR_V (q0 := 0) (ci := 4) (hP.sub (ws' := [(h0, moE ad s_thrown s_textSize s_place s_people s_readPeople s_acts s_seen s_seed s_rowSize s_feedMany s_feedRow s_restMany s_restFirst), (ad 10, aI G 17 q_page)]) [0, 2] rfl) hK rfl rfl) rfl rfl hl.1 rfl (lv_room (Nat.le_of_ble_eq_true rfl)) dX4_findFeed_123 ⟨Nat.zero_le _, Nat.zero_le _⟩) hS hP (fun H locs hP hS => ?_)
            refine lv_if_eq (tgt := 159) hx hb dX4_findFeed_126 (by decide) (fun c10 => ?_) (fun c10 => ?_)
            · have hf := iteT hf c10
              refine lv_iinc (v := (x2 + 1)) (lv' := [(2, .int (x2 + 1)), (4, .int (x2 - x2 / 100 * 100)), (3, .int (x2 / 100)), (0, .ref h0), (1, .int a1)]) hx hb dX4_findFeed_159 hl (k := 4) rfl rfl (by decide) rfl (fun ls hl => ?_)
              refine lv_goto (tgt := 88) hx hb dX4_findFeed_162 (by decide) ?_
              exact ih88 (x2 + 1) s_rowSize s_feedMany s_feedRow q_trial q_row _ _ _ hP hD hS (lv_sub hl [3, 4, 0] rfl) hf
            · have hf := iteF hf c10
              refine lv_aload_n hx hb dX4_findFeed_129 rfl (lv_at hl 2 rfl) ?_
              refine lv_iload hx hb dX4_findFeed_130 (lv_at hl 0 rfl) ?_
              obtain ⟨o11, hc12, hf⟩ := bindS hf
              refine ro_i (va_runV (C := RX4) (As := [.int (x2 - x2 / 100 * 100)]) (rest := []) ⟨hx, hb, hml, hown, hts⟩ (ctX4_isPair l G h0 ad s_thrown s_textSize s_place s_people s_readPeople s_acts s_seen s_seed s_rowSize s_feedMany s_feedRow s_restMany s_restFirst q_page (x2 - x2 / 100 * 100) o11 hc12) (cwV 1 hts gX4_findFeed_X4_isPair rfl rfl rfl (by decide +kernel) ⟨Nat.le_of_ble_eq_true rfl, Nat.le_of_ble_eq_true rfl⟩) (preR_V (q0 := 0) (ci := 4) (hP.sub (ws' := [(h0, moE ad s_thrown s_textSize s_place s_people s_readPeople s_acts s_seen s_seed s_rowSize s_feedMany s_feedRow s_restMany s_restFirst), (ad 10, aI G 17 q_page)]) [0, 2] rfl) hK rfl rfl) rfl rfl hl.1 rfl (lv_room (Nat.le_of_ble_eq_true rfl)) dX4_findFeed_132 ⟨Nat.zero_le _, Nat.zero_le _⟩) hS hP (fun H locs hP hS => ?_)
              refine lv_if_eq (tgt := 159) hx hb dX4_findFeed_135 (by decide) (fun c13 => ?_) (fun c13 => ?_)
              · have hf := iteT hf c13
                refine lv_iinc (v := (x2 + 1)) (lv' := [(2, .int (x2 + 1)), (4, .int (x2 - x2 / 100 * 100)), (3, .int (x2 / 100)), (0, .ref h0), (1, .int a1)]) hx hb dX4_findFeed_159 hl (k := 4) rfl rfl (by decide) rfl (fun ls hl => ?_)
                refine lv_goto (tgt := 88) hx hb dX4_findFeed_162 (by decide) ?_
                exact ih88 (x2 + 1) s_rowSize s_feedMany s_feedRow q_trial q_row _ _ _ hP hD hS (lv_sub hl [3, 4, 0] rfl) hf
              · have hf := iteF hf c13
                refine lv_aload_n hx hb dX4_findFeed_138 rfl (lv_at hl 2 rfl) ?_
                refine lv_iload_n hx hb dX4_findFeed_139 rfl (lv_at hl 3 rfl) ?_
                refine lv_iload_n hx hb dX4_findFeed_140 rfl (lv_at hl 1 rfl) ?_
                refine lv_iload hx hb dX4_findFeed_141 (lv_at hl 0 rfl) ?_
                obtain ⟨o14, hc15, hf⟩ := bindS hf
                refine rw_i (va_runV (C := RX4) (As := [.int a1, .int (x2 / 100), .int (x2 - x2 / 100 * 100)]) (rest := []) ⟨hx, hb, hml, hown, hts⟩ (ctX4_isSafe l G h0 ad s_thrown s_textSize s_place s_people s_readPeople s_acts s_seen s_seed s_rowSize s_feedMany s_feedRow s_restMany s_restFirst q_kind q_page q_trial q_row a1 (x2 / 100) (x2 - x2 / 100 * 100) o14 hc15) (cwV 3 hts gX4_findFeed_X4_isSafe rfl rfl rfl (by decide +kernel) ⟨Nat.le_of_ble_eq_true rfl, Nat.le_of_ble_eq_true rfl⟩) (preW_V (q0 := 0) (ci := 4) (hP.sub (ws' := [(h0, moE ad s_thrown s_textSize s_place s_people s_readPeople s_acts s_seen s_seed s_rowSize s_feedMany s_feedRow s_restMany s_restFirst), (ad 5, aI G 7 q_kind), (ad 10, aI G 17 q_page), (ad 11, aI G 17 q_trial), (ad 20, aI G 7 q_row)]) [0, 1, 2, 3, 4] rfl) (hD.sub (ws' := [(h0, moE ad s_thrown s_textSize s_place s_people s_readPeople s_acts s_seen s_seed s_rowSize s_feedMany s_feedRow s_restMany s_restFirst), (ad 5, aI G 7 q_kind), (ad 10, aI G 17 q_page), (ad 11, aI G 17 q_trial), (ad 20, aI G 7 q_row)]) [0, 1, 2, 3, 4] (by decide) rfl) hK rfl rfl) rfl rfl hl.1 rfl (lv_room (Nat.le_of_ble_eq_true rfl)) dX4_findFeed_143 ⟨Nat.zero_le _, Nat.zero_le _⟩) hS hP hD [0, 1, 2, 3, 4] rfl rfl rfl (fun H locs hP hD hS => ?_)
                have hP : va_P (gD G) vwCl [(h0, moE ad s_thrown s_textSize s_place s_people s_readPeople s_acts s_seen s_seed o14.2.1 s_feedMany s_feedRow s_restMany s_restFirst), (ad 5, aI G 7 q_kind), (ad 10, aI G 17 q_page), (ad 11, aI G 17 o14.2.2.1), (ad 20, aI G 7 o14.2.2.2)] H := hP
                have hD : va_D A [(h0, moE ad s_thrown s_textSize s_place s_people s_readPeople s_acts s_seen s_seed o14.2.1 s_feedMany s_feedRow s_restMany s_restFirst), (ad 5, aI G 7 q_kind), (ad 10, aI G 17 q_page), (ad 11, aI G 17 o14.2.2.1), (ad 20, aI G 7 o14.2.2.2)] := hD
                refine lv_if_eq (tgt := 159) hx hb dX4_findFeed_146 (by decide) (fun c16 => ?_) (fun c16 => ?_)
                · have hf := iteT hf c16
                  refine lv_iinc (v := (x2 + 1)) (lv' := [(2, .int (x2 + 1)), (4, .int (x2 - x2 / 100 * 100)), (3, .int (x2 / 100)), (0, .ref h0), (1, .int a1)]) hx hb dX4_findFeed_159 hl (k := 4) rfl rfl (by decide) rfl (fun ls hl => ?_)
                  refine lv_goto (tgt := 88) hx hb dX4_findFeed_162 (by decide) ?_
                  exact ih88 (x2 + 1) o14.2.1 s_feedMany s_feedRow o14.2.2.1 o14.2.2.2 _ _ _ hP hD hS (lv_sub hl [3, 4, 0] rfl) hf
                · have hf := iteF hf c16
                  refine lv_aload_n hx hb dX4_findFeed_149 rfl (lv_at hl 2 rfl) ?_
                  refine lv_iconst (v := 2) hx hb dX4_findFeed_150 (by decide) ?_
                  refine va_put (D := gD G) (ci := 4) (v := .int 2) (ty := .int) (C := RX4) (T := TX4) (N := 29) hx hb hts hi_X4 tyX4 tyX4_ok nmX4 hown hK.1 hP hD hS 0 rfl rfl 22 (by decide) kl_162 (fun _ h9 => h9) rfl (tyX4_ok 22 (by decide)) rfl rfl (Nat.le_of_ble_eq_true rfl) dX4_findFeed_151 (fun H locs hP hD hS => ?_)
                  have hP : va_P (gD G) vwCl [(h0, moE ad s_thrown s_textSize s_place s_people s_readPeople s_acts s_seen s_seed o14.2.1 2 s_feedRow s_restMany s_restFirst), (ad 5, aI G 7 q_kind), (ad 10, aI G 17 q_page), (ad 11, aI G 17 o14.2.2.1), (ad 20, aI G 7 o14.2.2.2)] H := hP
                  have hD : va_D A [(h0, moE ad s_thrown s_textSize s_place s_people s_readPeople s_acts s_seen s_seed o14.2.1 2 s_feedRow s_restMany s_restFirst), (ad 5, aI G 7 q_kind), (ad 10, aI G 17 q_page), (ad 11, aI G 17 o14.2.2.1), (ad 20, aI G 7 o14.2.2.2)] := hD
                  refine lv_aload_n hx hb dX4_findFeed_154 rfl (lv_at hl 2 rfl) ?_
                  refine lv_iload_n hx hb dX4_findFeed_155 rfl (lv_at hl 4 rfl) ?_
                  refine va_put (D := gD G) (ci := 4) (v := .int x2) (ty := .int) (C := RX4) (T := TX4) (N := 29) hx hb hts hi_X4 tyX4 tyX4_ok nmX4 hown hK.1 hP hD hS 0 rfl rfl 23 (by decide) kl_165 (fun _ h9 => h9) rfl (tyX4_ok 23 (by decide)) rfl rfl (Nat.le_of_ble_eq_true rfl) dX4_findFeed_156 (fun H locs hP hD hS => ?_)
                  have hP : va_P (gD G) vwCl [(h0, moE ad s_thrown s_textSize s_place s_people s_readPeople s_acts s_seen s_seed o14.2.1 2 x2 s_restMany s_restFirst), (ad 5, aI G 7 q_kind), (ad 10, aI G 17 q_page), (ad 11, aI G 17 o14.2.2.1), (ad 20, aI G 7 o14.2.2.2)] H := hP
                  have hD : va_D A [(h0, moE ad s_thrown s_textSize s_place s_people s_readPeople s_acts s_seen s_seed o14.2.1 2 x2 s_restMany s_restFirst), (ad 5, aI G 7 q_kind), (ad 10, aI G 17 q_page), (ad 11, aI G 17 o14.2.2.1), (ad 20, aI G 7 o14.2.2.2)] := hD
                  refine lv_iinc (v := (x2 + 1)) (lv' := [(2, .int (x2 + 1)), (4, .int (x2 - x2 / 100 * 100)), (3, .int (x2 / 100)), (0, .ref h0), (1, .int a1)]) hx hb dX4_findFeed_159 hl (k := 4) rfl rfl (by decide) rfl (fun ls hl => ?_)
                  refine lv_goto (tgt := 88) hx hb dX4_findFeed_162 (by decide) ?_
                  exact ih88 (x2 + 1) o14.2.1 2 x2 o14.2.2.1 o14.2.2.2 _ _ _ hP hD hS (lv_sub hl [3, 4, 0] rfl) hf
  have hC36 : ∀ (n : Nat) (x2 : Int32) (s_rowSize : Int32) (s_feedMany : Int32) (s_feedRow : Int32) (q_trial : Nat → Int32) (q_row : Nat → Int32) (H : Heap) (locs : List Loc) (ls : Array Slot), va_P (gD G) vwCl [(h0, moE ad s_thrown s_textSize s_place s_people s_readPeople s_acts s_seen s_seed s_rowSize s_feedMany s_feedRow s_restMany s_restFirst), (ad 5, aI G 7 q_kind), (ad 10, aI G 17 q_page), (ad 11, aI G 17 q_trial), (ad 20, aI G 7 q_row)] H → va_D A [(h0, moE ad s_thrown s_textSize s_place s_people s_readPeople s_acts s_seen s_seed s_rowSize s_feedMany s_feedRow s_restMany s_restFirst), (ad 5, aI G 7 q_kind), (ad 10, aI G 17 q_page), (ad 11, aI G 17 q_trial), (ad 20, aI G 7 q_row)] → va_S A s.heap H locs → lv_has ls 5 [(0, .ref h0), (1, .int a1), (2, .int x2)] → fX4_findFeed_36 s_people q_kind q_page a1 n x2 s_rowSize s_feedMany s_feedRow q_trial q_row = some out → W p l e ({ frames := 5, cells := 0, slots := 0, locals := 113 }) s m args below meth c H locs 0 0 Q (F0 m 36 ls []) := by
    intro n36
    induction n36 with
    | zero => intro x2 s_rowSize s_feedMany s_feedRow q_trial q_row H locs ls hP hD hS hl hf; exact absurd (show none = some out from hf) (fun z => by cases z)
    | succ n36 ih36 =>
      intro x2 s_rowSize s_feedMany s_feedRow q_trial q_row H locs ls hP hD hS hl hf
      refine lv_iload_n hx hb dX4_findFeed_36 rfl (lv_at hl 2 rfl) ?_
      refine lv_bipush (v := 67) hx hb dX4_findFeed_37 (by decide) ?_
      refine lv_icmp_ge (tgt := 86) hx hb dX4_findFeed_39 (by decide) (fun c4 => ?_) (fun c4 => ?_)
      · have hf := iteT hf c4
        refine lv_iconst (v := 0) hx hb dX4_findFeed_86 (by decide) ?_
        refine lv_istore_n (lv' := [(2, .int 0), (0, .ref h0), (1, .int a1)]) hx hb dX4_findFeed_87 rfl hl (by decide) rfl (fun ls hl => ?_)
        exact hC88 6702 0 s_rowSize s_feedMany s_feedRow q_trial q_row _ _ _ hP hD hS (lv_sub hl [1, 2, 0] rfl) hf
      · have hf := iteF hf c4
        refine lv_aload_n hx hb dX4_findFeed_42 rfl (lv_at hl 0 rfl) ?_
        refine va_get (D := gD G) (ci := 4) (v := .int s_feedMany) (C := RX4) (T := TX4) (N := 29) hx hb hts hi_X4 hown hK.1 hP 0 rfl rfl 22 (by decide) kl_162 (fun _ h9 => h9) rfl dX4_findFeed_43 ?_
        refine lv_bipush (v := (-9)) hx hb dX4_findFeed_46 (by decide) ?_
        refine lv_icmp_ne (tgt := 86) hx hb dX4_findFeed_48 (by decide) (fun c17 => ?_) (fun c17 => ?_)
        · have hf := iteF hf c17
          refine lv_iconst (v := 0) hx hb dX4_findFeed_86 (by decide) ?_
          refine lv_istore_n (lv' := [(2, .int 0), (0, .ref h0), (1, .int a1)]) hx hb dX4_findFeed_87 rfl hl (by decide) rfl (fun ls hl => ?_)
          exact hC88 6702 0 s_rowSize s_feedMany s_feedRow q_trial q_row _ _ _ hP hD hS (lv_sub hl [1, 2, 0] rfl) hf
        · have hf := iteT hf c17
          refine lv_aload_n hx hb dX4_findFeed_51 rfl (lv_at hl 0 rfl) ?_
          refine lv_iload_n hx hb dX4_findFeed_52 rfl (lv_at hl 2 rfl) ?_
          obtain ⟨o18, hc19, hf⟩ := bindS hf
          refine ro_i (va_runV (C := RX4) (As := [.int x2]) (rest := []) ⟨hx, hb, hml, hown, hts⟩ (ctX4_isPair l G h0 ad s_thrown s_textSize s_place s_people s_readPeople s_acts s_seen s_seed s_rowSize s_feedMany s_feedRow s_restMany s_restFirst q_page x2 o18 hc19) (cwV 1 hts gX4_findFeed_X4_isPair rfl rfl rfl (by decide +kernel) ⟨Nat.le_of_ble_eq_true rfl, Nat.le_of_ble_eq_true rfl⟩) (preR_V (q0 := 0) (ci := 4) (hP.sub (ws' := [(h0, moE ad s_thrown s_textSize s_place s_people s_readPeople s_acts s_seen s_seed s_rowSize s_feedMany s_feedRow s_restMany s_restFirst), (ad 10, aI G 17 q_page)]) [0, 2] rfl) hK rfl rfl) rfl rfl hl.1 rfl (lv_room (Nat.le_of_ble_eq_true rfl)) dX4_findFeed_53 ⟨Nat.zero_le _, Nat.zero_le _⟩) hS hP (fun H locs hP hS => ?_)
          refine lv_if_eq (tgt := 80) hx hb dX4_findFeed_56 (by decide) (fun c20 => ?_) (fun c20 => ?_)
          · have hf := iteT hf c20
            refine lv_iinc (v := (x2 + 1)) (lv' := [(2, .int (x2 + 1)), (0, .ref h0), (1, .int a1)]) hx hb dX4_findFeed_80 hl (k := 2) rfl rfl (by decide) rfl (fun ls hl => ?_)
            refine lv_goto (tgt := 36) hx hb dX4_findFeed_83 (by decide) ?_
            exact ih36 (x2 + 1) s_rowSize s_feedMany s_feedRow q_trial q_row _ _ _ hP hD hS (lv_sub hl [1, 2, 0] rfl) hf
          · have hf := iteF hf c20
            refine lv_aload_n hx hb dX4_findFeed_59 rfl (lv_at hl 0 rfl) ?_
            refine lv_iload_n hx hb dX4_findFeed_60 rfl (lv_at hl 1 rfl) ?_
            refine lv_iload_n hx hb dX4_findFeed_61 rfl (lv_at hl 2 rfl) ?_
            refine lv_bipush (v := (-9)) hx hb dX4_findFeed_62 (by decide) ?_
            obtain ⟨o21, hc22, hf⟩ := bindS hf
            refine rw_i (va_runV (C := RX4) (As := [.int a1, .int x2, .int (-9)]) (rest := []) ⟨hx, hb, hml, hown, hts⟩ (ctX4_isSafe l G h0 ad s_thrown s_textSize s_place s_people s_readPeople s_acts s_seen s_seed s_rowSize s_feedMany s_feedRow s_restMany s_restFirst q_kind q_page q_trial q_row a1 x2 (-9) o21 hc22) (cwV 3 hts gX4_findFeed_X4_isSafe rfl rfl rfl (by decide +kernel) ⟨Nat.le_of_ble_eq_true rfl, Nat.le_of_ble_eq_true rfl⟩) (preW_V (q0 := 0) (ci := 4) (hP.sub (ws' := [(h0, moE ad s_thrown s_textSize s_place s_people s_readPeople s_acts s_seen s_seed s_rowSize s_feedMany s_feedRow s_restMany s_restFirst), (ad 5, aI G 7 q_kind), (ad 10, aI G 17 q_page), (ad 11, aI G 17 q_trial), (ad 20, aI G 7 q_row)]) [0, 1, 2, 3, 4] rfl) (hD.sub (ws' := [(h0, moE ad s_thrown s_textSize s_place s_people s_readPeople s_acts s_seen s_seed s_rowSize s_feedMany s_feedRow s_restMany s_restFirst), (ad 5, aI G 7 q_kind), (ad 10, aI G 17 q_page), (ad 11, aI G 17 q_trial), (ad 20, aI G 7 q_row)]) [0, 1, 2, 3, 4] (by decide) rfl) hK rfl rfl) rfl rfl hl.1 rfl (lv_room (Nat.le_of_ble_eq_true rfl)) dX4_findFeed_64 ⟨Nat.zero_le _, Nat.zero_le _⟩) hS hP hD [0, 1, 2, 3, 4] rfl rfl rfl (fun H locs hP hD hS => ?_)
            have hP : va_P (gD G) vwCl [(h0, moE ad s_thrown s_textSize s_place s_people s_readPeople s_acts s_seen s_seed o21.2.1 s_feedMany s_feedRow s_restMany s_restFirst), (ad 5, aI G 7 q_kind), (ad 10, aI G 17 q_page), (ad 11, aI G 17 o21.2.2.1), (ad 20, aI G 7 o21.2.2.2)] H := hP
            have hD : va_D A [(h0, moE ad s_thrown s_textSize s_place s_people s_readPeople s_acts s_seen s_seed o21.2.1 s_feedMany s_feedRow s_restMany s_restFirst), (ad 5, aI G 7 q_kind), (ad 10, aI G 17 q_page), (ad 11, aI G 17 o21.2.2.1), (ad 20, aI G 7 o21.2.2.2)] := hD
            refine lv_if_eq (tgt := 80) hx hb dX4_findFeed_67 (by decide) (fun c23 => ?_) (fun c23 => ?_)
            · have hf := iteT hf c23
              refine lv_iinc (v := (x2 + 1)) (lv' := [(2, .int (x2 + 1)), (0, .ref h0), (1, .int a1)]) hx hb dX4_findFeed_80 hl (k := 2) rfl rfl (by decide) rfl (fun ls hl => ?_)
              refine lv_goto (tgt := 36) hx hb dX4_findFeed_83 (by decide) ?_
              exact ih36 (x2 + 1) o21.2.1 s_feedMany s_feedRow o21.2.2.1 o21.2.2.2 _ _ _ hP hD hS (lv_sub hl [1, 2, 0] rfl) hf
            · have hf := iteF hf c23
              refine lv_aload_n hx hb dX4_findFeed_70 rfl (lv_at hl 0 rfl) ?_
              refine lv_iconst (v := 1) hx hb dX4_findFeed_71 (by decide) ?_
              refine va_put (D := gD G) (ci := 4) (v := .int 1) (ty := .int) (C := RX4) (T := TX4) (N := 29) hx hb hts hi_X4 tyX4 tyX4_ok nmX4 hown hK.1 hP hD hS 0 rfl rfl 22 (by decide) kl_162 (fun _ h9 => h9) rfl (tyX4_ok 22 (by decide)) rfl rfl (Nat.le_of_ble_eq_true rfl) dX4_findFeed_72 (fun H locs hP hD hS => ?_)
              have hP : va_P (gD G) vwCl [(h0, moE ad s_thrown s_textSize s_place s_people s_readPeople s_acts s_seen s_seed o21.2.1 1 s_feedRow s_restMany s_restFirst), (ad 5, aI G 7 q_kind), (ad 10, aI G 17 q_page), (ad 11, aI G 17 o21.2.2.1), (ad 20, aI G 7 o21.2.2.2)] H := hP
              have hD : va_D A [(h0, moE ad s_thrown s_textSize s_place s_people s_readPeople s_acts s_seen s_seed o21.2.1 1 s_feedRow s_restMany s_restFirst), (ad 5, aI G 7 q_kind), (ad 10, aI G 17 q_page), (ad 11, aI G 17 o21.2.2.1), (ad 20, aI G 7 o21.2.2.2)] := hD
              refine lv_aload_n hx hb dX4_findFeed_75 rfl (lv_at hl 0 rfl) ?_
              refine lv_iload_n hx hb dX4_findFeed_76 rfl (lv_at hl 2 rfl) ?_
              refine va_put (D := gD G) (ci := 4) (v := .int x2) (ty := .int) (C := RX4) (T := TX4) (N := 29) hx hb hts hi_X4 tyX4 tyX4_ok nmX4 hown hK.1 hP hD hS 0 rfl rfl 23 (by decide) kl_165 (fun _ h9 => h9) rfl (tyX4_ok 23 (by decide)) rfl rfl (Nat.le_of_ble_eq_true rfl) dX4_findFeed_77 (fun H locs hP hD hS => ?_)
              have hP : va_P (gD G) vwCl [(h0, moE ad s_thrown s_textSize s_place s_people s_readPeople s_acts s_seen s_seed o21.2.1 1 x2 s_restMany s_restFirst), (ad 5, aI G 7 q_kind), (ad 10, aI G 17 q_page), (ad 11, aI G 17 o21.2.2.1), (ad 20, aI G 7 o21.2.2.2)] H := hP
              have hD : va_D A [(h0, moE ad s_thrown s_textSize s_place s_people s_readPeople s_acts s_seen s_seed o21.2.1 1 x2 s_restMany s_restFirst), (ad 5, aI G 7 q_kind), (ad 10, aI G 17 q_page), (ad 11, aI G 17 o21.2.2.1), (ad 20, aI G 7 o21.2.2.2)] := hD
              refine lv_iinc (v := (x2 + 1)) (lv' := [(2, .int (x2 + 1)), (0, .ref h0), (1, .int a1)]) hx hb dX4_findFeed_80 hl (k := 2) rfl rfl (by decide) rfl (fun ls hl => ?_)
              refine lv_goto (tgt := 36) hx hb dX4_findFeed_83 (by decide) ?_
              exact ih36 (x2 + 1) o21.2.1 1 x2 o21.2.2.1 o21.2.2.2 _ _ _ hP hD hS (lv_sub hl [1, 2, 0] rfl) hf
  refine lv_aload_n hx hb dX4_findFeed_0 rfl (lv_at hl 0 rfl) ?_
  refine lv_bipush (v := (-9)) hx hb dX4_findFeed_1 (by decide) ?_
  refine va_put (D := gD G) (ci := 4) (v := .int (-9)) (ty := .int) (C := RX4) (T := TX4) (N := 29) hx hb hts hi_X4 tyX4 tyX4_ok nmX4 hown hK.1 hP hD hS 0 rfl rfl 22 (by decide) kl_162 (fun _ h9 => h9) rfl (tyX4_ok 22 (by decide)) rfl rfl (Nat.le_of_ble_eq_true rfl) dX4_findFeed_3 (fun H locs hP hD hS => ?_)
  have hP : va_P (gD G) vwCl [(h0, moE ad s_thrown s_textSize s_place s_people s_readPeople s_acts s_seen s_seed s_rowSize (-9) s_feedRow s_restMany s_restFirst), (ad 5, aI G 7 q_kind), (ad 10, aI G 17 q_page), (ad 11, aI G 17 q_trial), (ad 20, aI G 7 q_row)] H := hP
  have hD : va_D A [(h0, moE ad s_thrown s_textSize s_place s_people s_readPeople s_acts s_seen s_seed s_rowSize (-9) s_feedRow s_restMany s_restFirst), (ad 5, aI G 7 q_kind), (ad 10, aI G 17 q_page), (ad 11, aI G 17 q_trial), (ad 20, aI G 7 q_row)] := hD
  refine lv_aload_n hx hb dX4_findFeed_6 rfl (lv_at hl 0 rfl) ?_
  refine lv_bipush (v := (-9)) hx hb dX4_findFeed_7 (by decide) ?_
  refine va_put (D := gD G) (ci := 4) (v := .int (-9)) (ty := .int) (C := RX4) (T := TX4) (N := 29) hx hb hts hi_X4 tyX4 tyX4_ok nmX4 hown hK.1 hP hD hS 0 rfl rfl 23 (by decide) kl_165 (fun _ h9 => h9) rfl (tyX4_ok 23 (by decide)) rfl rfl (Nat.le_of_ble_eq_true rfl) dX4_findFeed_9 (fun H locs hP hD hS => ?_)
  have hP : va_P (gD G) vwCl [(h0, moE ad s_thrown s_textSize s_place s_people s_readPeople s_acts s_seen s_seed s_rowSize (-9) (-9) s_restMany s_restFirst), (ad 5, aI G 7 q_kind), (ad 10, aI G 17 q_page), (ad 11, aI G 17 q_trial), (ad 20, aI G 7 q_row)] H := hP
  have hD : va_D A [(h0, moE ad s_thrown s_textSize s_place s_people s_readPeople s_acts s_seen s_seed s_rowSize (-9) (-9) s_restMany s_restFirst), (ad 5, aI G 7 q_kind), (ad 10, aI G 17 q_page), (ad 11, aI G 17 q_trial), (ad 20, aI G 7 q_row)] := hD
  refine lv_aload_n hx hb dX4_findFeed_12 rfl (lv_at hl 0 rfl) ?_
  refine lv_iload_n hx hb dX4_findFeed_13 rfl (lv_at hl 1 rfl) ?_
  refine lv_bipush (v := (-9)) hx hb dX4_findFeed_14 (by decide) ?_
  refine lv_bipush (v := (-9)) hx hb dX4_findFeed_16 (by decide) ?_
  obtain ⟨o1, hc2, hf⟩ := bindS hf
  refine rw_i (va_runV (C := RX4) (As := [.int a1, .int (-9), .int (-9)]) (rest := []) ⟨hx, hb, hml, hown, hts⟩ (ctX4_isSafe l G h0 ad s_thrown s_textSize s_place s_people s_readPeople s_acts s_seen s_seed s_rowSize (-9) (-9) s_restMany s_restFirst q_kind q_page q_trial q_row a1 (-9) (-9) o1 hc2) (cwV 3 hts gX4_findFeed_X4_isSafe rfl rfl rfl (by decide +kernel) ⟨Nat.le_of_ble_eq_true rfl, Nat.le_of_ble_eq_true rfl⟩) (preW_V (q0 := 0) (ci := 4) (hP.sub (ws' := [(h0, moE ad s_thrown s_textSize s_place s_people s_readPeople s_acts s_seen s_seed s_rowSize (-9) (-9) s_restMany s_restFirst), (ad 5, aI G 7 q_kind), (ad 10, aI G 17 q_page), (ad 11, aI G 17 q_trial), (ad 20, aI G 7 q_row)]) [0, 1, 2, 3, 4] rfl) (hD.sub (ws' := [(h0, moE ad s_thrown s_textSize s_place s_people s_readPeople s_acts s_seen s_seed s_rowSize (-9) (-9) s_restMany s_restFirst), (ad 5, aI G 7 q_kind), (ad 10, aI G 17 q_page), (ad 11, aI G 17 q_trial), (ad 20, aI G 7 q_row)]) [0, 1, 2, 3, 4] (by decide) rfl) hK rfl rfl) rfl rfl hl.1 rfl (lv_room (Nat.le_of_ble_eq_true rfl)) dX4_findFeed_18 ⟨Nat.zero_le _, Nat.zero_le _⟩) hS hP hD [0, 1, 2, 3, 4] rfl rfl rfl (fun H locs hP hD hS => ?_)
  have hP : va_P (gD G) vwCl [(h0, moE ad s_thrown s_textSize s_place s_people s_readPeople s_acts s_seen s_seed o1.2.1 (-9) (-9) s_restMany s_restFirst), (ad 5, aI G 7 q_kind), (ad 10, aI G 17 q_page), (ad 11, aI G 17 o1.2.2.1), (ad 20, aI G 7 o1.2.2.2)] H := hP
  have hD : va_D A [(h0, moE ad s_thrown s_textSize s_place s_people s_readPeople s_acts s_seen s_seed o1.2.1 (-9) (-9) s_restMany s_restFirst), (ad 5, aI G 7 q_kind), (ad 10, aI G 17 q_page), (ad 11, aI G 17 o1.2.2.1), (ad 20, aI G 7 o1.2.2.2)] := hD
  refine lv_if_eq (tgt := 34) hx hb dX4_findFeed_21 (by decide) (fun c3 => ?_) (fun c3 => ?_)
  · have hf := iteT hf c3
    refine lv_iconst (v := 0) hx hb dX4_findFeed_34 (by decide) ?_
    refine lv_istore_n (lv' := [(2, .int 0), (0, .ref h0), (1, .int a1)]) hx hb dX4_findFeed_35 rfl hl (by decide) rfl (fun ls hl => ?_)
    exact hC36 70 0 o1.2.1 (-9) (-9) o1.2.2.1 o1.2.2.2 _ _ _ hP hD hS (lv_sub hl [1, 2, 0] rfl) hf
  · have hf := iteF hf c3
    refine lv_aload_n hx hb dX4_findFeed_24 rfl (lv_at hl 0 rfl) ?_
    refine lv_iconst (v := 0) hx hb dX4_findFeed_25 (by decide) ?_
    refine va_put (D := gD G) (ci := 4) (v := .int 0) (ty := .int) (C := RX4) (T := TX4) (N := 29) hx hb hts hi_X4 tyX4 tyX4_ok nmX4 hown hK.1 hP hD hS 0 rfl rfl 22 (by decide) kl_162 (fun _ h9 => h9) rfl (tyX4_ok 22 (by decide)) rfl rfl (Nat.le_of_ble_eq_true rfl) dX4_findFeed_26 (fun H locs hP hD hS => ?_)
    have hP : va_P (gD G) vwCl [(h0, moE ad s_thrown s_textSize s_place s_people s_readPeople s_acts s_seen s_seed o1.2.1 0 (-9) s_restMany s_restFirst), (ad 5, aI G 7 q_kind), (ad 10, aI G 17 q_page), (ad 11, aI G 17 o1.2.2.1), (ad 20, aI G 7 o1.2.2.2)] H := hP
    have hD : va_D A [(h0, moE ad s_thrown s_textSize s_place s_people s_readPeople s_acts s_seen s_seed o1.2.1 0 (-9) s_restMany s_restFirst), (ad 5, aI G 7 q_kind), (ad 10, aI G 17 q_page), (ad 11, aI G 17 o1.2.2.1), (ad 20, aI G 7 o1.2.2.2)] := hD
    refine lv_aload_n hx hb dX4_findFeed_29 rfl (lv_at hl 0 rfl) ?_
    refine lv_iconst (v := 0) hx hb dX4_findFeed_30 (by decide) ?_
    refine va_put (D := gD G) (ci := 4) (v := .int 0) (ty := .int) (C := RX4) (T := TX4) (N := 29) hx hb hts hi_X4 tyX4 tyX4_ok nmX4 hown hK.1 hP hD hS 0 rfl rfl 23 (by decide) kl_165 (fun _ h9 => h9) rfl (tyX4_ok 23 (by decide)) rfl rfl (Nat.le_of_ble_eq_true rfl) dX4_findFeed_31 (fun H locs hP hD hS => ?_)
    have hP : va_P (gD G) vwCl [(h0, moE ad s_thrown s_textSize s_place s_people s_readPeople s_acts s_seen s_seed o1.2.1 0 0 s_restMany s_restFirst), (ad 5, aI G 7 q_kind), (ad 10, aI G 17 q_page), (ad 11, aI G 17 o1.2.2.1), (ad 20, aI G 7 o1.2.2.2)] H := hP
    have hD : va_D A [(h0, moE ad s_thrown s_textSize s_place s_people s_readPeople s_acts s_seen s_seed o1.2.1 0 0 s_restMany s_restFirst), (ad 5, aI G 7 q_kind), (ad 10, aI G 17 q_page), (ad 11, aI G 17 o1.2.2.1), (ad 20, aI G 7 o1.2.2.2)] := hD
    refine lv_iconst (v := 0) hx hb dX4_findFeed_34 (by decide) ?_
    refine lv_istore_n (lv' := [(2, .int 0), (0, .ref h0), (1, .int a1)]) hx hb dX4_findFeed_35 rfl hl (by decide) rfl (fun ls hl => ?_)
    exact hC36 70 0 o1.2.1 0 0 o1.2.2.1 o1.2.2.2 _ _ _ hP hD hS (lv_sub hl [1, 2, 0] rfl) hf
def fX4_toFeed (s_thrown : Int32) (s_people : Int32) (s_rowSize : Int32) (s_feedMany : Int32) (s_feedRow : Int32) (q_kind : Nat → Int32) (q_page : Nat → Int32) (q_trial : Nat → Int32) (q_row : Nat → Int32) (a1 : Int32) (a2 : Int32) : Option (Int32 × Int32 × Int32 × Int32 × Int32 × (Nat → Int32) × (Nat → Int32)) :=
  (fX4_noPerson s_people a1).bind fun o1 => ((if o1 = 0 then (fX4_in (Int32.toInt64 a2) 0 1).bind fun o4 => ((if o4 = 0 then some ((-2), 0, s_rowSize, s_feedMany, s_feedRow, q_trial, q_row) else (fX4_findFeed s_people s_rowSize s_feedMany s_feedRow q_kind q_page q_trial q_row a1).bind fun o7 => ((if a2 = 0 then some (o7.2.1, 0, o7.1, o7.2.1, o7.2.2.1, o7.2.2.2.1, o7.2.2.2.2) else some (o7.2.2.1, 0, o7.1, o7.2.1, o7.2.2.1, o7.2.2.2.1, o7.2.2.2.2))))) else some ((-1), 0, s_rowSize, s_feedMany, s_feedRow, q_trial, q_row)))
set_option maxHeartbeats 4000000 in
set_option maxRecDepth 100000 in
theorem ctX4_toFeed (l : Launch) (G : GG) (h0 : Nat) (ad : Nat → Nat) (s_thrown : Int32) (s_textSize : Int32) (s_place : Int32) (s_people : Int32) (s_readPeople : Int32) (s_acts : Int32) (s_seen : Int32) (s_seed : Int64) (s_rowSize : Int32) (s_feedMany : Int32) (s_feedRow : Int32) (s_restMany : Int32) (s_restFirst : Int32) (q_kind : Nat → Int32) (q_page : Nat → Int32) (q_trial : Nat → Int32) (q_row : Nat → Int32) (a1 : Int32) (a2 : Int32) (out : Int32 × Int32 × Int32 × Int32 × Int32 × (Nat → Int32) × (Nat → Int32)) (hf : fX4_toFeed s_thrown s_people s_rowSize s_feedMany s_feedRow q_kind q_page q_trial q_row a1 a2 = some out) : Met l yX4_toFeed wsX4_toFeed ({ frames := 6, cells := 0, slots := 0, locals := 137 }) (PcW G [.ref h0, .int a1, .int a2] [(h0, moE ad s_thrown s_textSize s_place s_people s_readPeople s_acts s_seen s_seed s_rowSize s_feedMany s_feedRow s_restMany s_restFirst), (ad 5, aI G 7 q_kind), (ad 10, aI G 17 q_page), (ad 11, aI G 17 q_trial), (ad 20, aI G 7 q_row)]) (QiW G [(h0, moE ad s_thrown s_textSize s_place s_people s_readPeople s_acts s_seen s_seed s_rowSize s_feedMany s_feedRow s_restMany s_restFirst), (ad 5, aI G 7 q_kind), (ad 10, aI G 17 q_page), (ad 11, aI G 17 q_trial), (ad 20, aI G 7 q_row)] [(h0, moE ad out.2.1 s_textSize s_place s_people s_readPeople s_acts s_seen s_seed out.2.2.1 out.2.2.2.1 out.2.2.2.2.1 s_restMany s_restFirst), (ad 5, aI G 7 q_kind), (ad 10, aI G 17 q_page), (ad 11, aI G 17 out.2.2.2.2.2.1), (ad 20, aI G 7 out.2.2.2.2.2.2)] out.1) 0 0 (inA [(h0, moE ad s_thrown s_textSize s_place s_people s_readPeople s_acts s_seen s_seed s_rowSize s_feedMany s_feedRow s_restMany s_restFirst), (ad 5, aI G 7 q_kind), (ad 10, aI G 17 q_page), (ad 11, aI G 17 q_trial), (ad 20, aI G 7 q_row)]) := by
  refine mk_Wi (cc := cX4_toFeed) (maxL := 3) (by decide) rfl (Nat.le_of_ble_eq_true rfl) ?_
  intro p e s m args below meth c Q ls A S hP hK hD hl hret
  obtain ⟨hx, hb, hml, hown, hts⟩ := S
  have hown : s.vm.findClass RX4 = some m.cls := hown
  have kl_60 := hts (.fieldLink RX4 60 "ArrestOrderModel" "thrown" "I") (by decide +kernel)
  have hi_X4 : ∀ w ∈ wsX40, w ∈ wsX4_toFeed := fun _ h => List.mem_cons_of_mem _ (List.mem_append_right _ h)
  have kl_165 := hts (.fieldLink RX4 165 "ArrestOrderModel" "feedRow" "I") (by decide +kernel)
  have kl_162 := hts (.fieldLink RX4 162 "ArrestOrderModel" "feedMany" "I") (by decide +kernel)
  have hS : va_S A s.heap s.heap [] := va_S.rf
  have hl : lv_has ls 3 [(0, .ref h0), (1, .int a1), (2, .int a2)] := hl
  refine lv_aload_n hx hb dX4_toFeed_0 rfl (lv_at hl 0 rfl) ?_
  refine lv_iconst (v := 0) hx hb dX4_toFeed_1 (by decide) ?_
  refine va_put (D := gD G) (ci := 4) (v := .int 0) (ty := .int) (C := RX4) (T := TX4) (N := 29) hx hb hts hi_X4 tyX4 tyX4_ok nmX4 hown hK.1 hP hD hS 0 rfl rfl 0 (by decide) kl_60 (fun _ h9 => h9) rfl (tyX4_ok 0 (by decide)) rfl rfl (Nat.le_of_ble_eq_true rfl) dX4_toFeed_2 (fun H locs hP hD hS => ?_)
  have hP : va_P (gD G) vwCl [(h0, moE ad 0 s_textSize s_place s_people s_readPeople s_acts s_seen s_seed s_rowSize s_feedMany s_feedRow s_restMany s_restFirst), (ad 5, aI G 7 q_kind), (ad 10, aI G 17 q_page), (ad 11, aI G 17 q_trial), (ad 20, aI G 7 q_row)] H := hP
  have hD : va_D A [(h0, moE ad 0 s_textSize s_place s_people s_readPeople s_acts s_seen s_seed s_rowSize s_feedMany s_feedRow s_restMany s_restFirst), (ad 5, aI G 7 q_kind), (ad 10, aI G 17 q_page), (ad 11, aI G 17 q_trial), (ad 20, aI G 7 q_row)] := hD
  refine lv_aload_n hx hb dX4_toFeed_5 rfl (lv_at hl 0 rfl) ?_
  refine lv_iload_n hx hb dX4_toFeed_6 rfl (lv_at hl 1 rfl) ?_
  obtain ⟨o1, hc2, hf⟩ := bindS hf
  refine ro_i (va_runV (C := RX4) (As := [.int a1]) (rest := []) ⟨hx, hb, hml, hown, hts⟩ (ctX4_noPerson l G h0 ad 0 s_textSize s_place s_people s_readPeople s_acts s_seen s_seed s_rowSize s_feedMany s_feedRow s_restMany s_restFirst a1 o1 hc2) (cwV 1 hts gX4_toFeed_X4_noPerson rfl rfl rfl (by decide +kernel) ⟨Nat.le_of_ble_eq_true rfl, Nat.le_of_ble_eq_true rfl⟩) (preR_V (q0 := 0) (ci := 4) (hP.sub (ws' := [(h0, moE ad 0 s_textSize s_place s_people s_readPeople s_acts s_seen s_seed s_rowSize s_feedMany s_feedRow s_restMany s_restFirst)]) [0] rfl) hK rfl rfl) rfl rfl hl.1 rfl (lv_room (Nat.le_of_ble_eq_true rfl)) dX4_toFeed_7 ⟨Nat.zero_le _, Nat.zero_le _⟩) hS hP (fun H locs hP hS => ?_)
  refine lv_if_eq (tgt := 15) hx hb dX4_toFeed_10 (by decide) (fun c3 => ?_) (fun c3 => ?_)
  · have hf := iteT hf c3
    refine lv_iload_n hx hb dX4_toFeed_15 rfl (lv_at hl 2 rfl) ?_
    refine lv_i2l (v := (Int32.toInt64 a2)) hx hb dX4_toFeed_16 rfl ?_
    refine lv_lconst (v := 0) hx hb dX4_toFeed_17 (by decide) ?_
    refine lv_lconst (v := 1) hx hb dX4_toFeed_18 (by decide) ?_
    obtain ⟨o4, hc5, hf⟩ := bindS hf
    refine ro_i (va_runS (As := [.long (Int32.toInt64 a2), .long 0, .long 1]) (rest := []) ⟨hx, hb, hml, hown, hts⟩ (ctX4_in l G (Int32.toInt64 a2) 0 1 o4 hc5) (va_cwS 3 hts gX4_toFeed_X4_in rfl rfl rfl (by decide +kernel) ⟨Nat.le_of_ble_eq_true rfl, Nat.le_of_ble_eq_true rfl⟩) (preR_S (hP.sub (ws' := []) [] rfl) hK) rfl rfl hl.1 rfl (lv_room (Nat.le_of_ble_eq_true rfl)) dX4_toFeed_19 ⟨Nat.zero_le _, Nat.zero_le _⟩) hS hP (fun H locs hP hS => ?_)
    refine lv_if_ne (tgt := 28) hx hb dX4_toFeed_22 (by decide) (fun c6 => ?_) (fun c6 => ?_)
    · have hf := iteF hf c6
      refine lv_aload_n hx hb dX4_toFeed_28 rfl (lv_at hl 0 rfl) ?_
      refine lv_iload_n hx hb dX4_toFeed_29 rfl (lv_at hl 1 rfl) ?_
      obtain ⟨o7, hc8, hf⟩ := bindS hf
      refine rw_v (va_runV (C := RX4) (As := [.int a1]) (rest := []) ⟨hx, hb, hml, hown, hts⟩ (ctX4_findFeed l G h0 ad 0 s_textSize s_place s_people s_readPeople s_acts s_seen s_seed s_rowSize s_feedMany s_feedRow s_restMany s_restFirst q_kind q_page q_trial q_row a1 o7 hc8) (cwV 1 hts gX4_toFeed_X4_findFeed rfl rfl rfl (by decide +kernel) ⟨Nat.le_of_ble_eq_true rfl, Nat.le_of_ble_eq_true rfl⟩) (preW_V (q0 := 0) (ci := 4) (hP.sub (ws' := [(h0, moE ad 0 s_textSize s_place s_people s_readPeople s_acts s_seen s_seed s_rowSize s_feedMany s_feedRow s_restMany s_restFirst), (ad 5, aI G 7 q_kind), (ad 10, aI G 17 q_page), (ad 11, aI G 17 q_trial), (ad 20, aI G 7 q_row)]) [0, 1, 2, 3, 4] rfl) (hD.sub (ws' := [(h0, moE ad 0 s_textSize s_place s_people s_readPeople s_acts s_seen s_seed s_rowSize s_feedMany s_feedRow s_restMany s_restFirst), (ad 5, aI G 7 q_kind), (ad 10, aI G 17 q_page), (ad 11, aI G 17 q_trial), (ad 20, aI G 7 q_row)]) [0, 1, 2, 3, 4] (by decide) rfl) hK rfl rfl) rfl rfl hl.1 rfl (lv_room (Nat.le_of_ble_eq_true rfl)) dX4_toFeed_30 ⟨Nat.zero_le _, Nat.zero_le _⟩) hS hP hD [0, 1, 2, 3, 4] rfl rfl rfl (fun H locs hP hD hS => ?_)
      have hP : va_P (gD G) vwCl [(h0, moE ad 0 s_textSize s_place s_people s_readPeople s_acts s_seen s_seed o7.1 o7.2.1 o7.2.2.1 s_restMany s_restFirst), (ad 5, aI G 7 q_kind), (ad 10, aI G 17 q_page), (ad 11, aI G 17 o7.2.2.2.1), (ad 20, aI G 7 o7.2.2.2.2)] H := hP
      have hD : va_D A [(h0, moE ad 0 s_textSize s_place s_people s_readPeople s_acts s_seen s_seed o7.1 o7.2.1 o7.2.2.1 s_restMany s_restFirst), (ad 5, aI G 7 q_kind), (ad 10, aI G 17 q_page), (ad 11, aI G 17 o7.2.2.2.1), (ad 20, aI G 7 o7.2.2.2.2)] := hD
      refine lv_iload_n hx hb dX4_toFeed_33 rfl (lv_at hl 2 rfl) ?_
      refine lv_if_ne (tgt := 44) hx hb dX4_toFeed_34 (by decide) (fun c9 => ?_) (fun c9 => ?_)
      · have hf := iteF hf c9
        refine lv_aload_n hx hb dX4_toFeed_44 rfl (lv_at hl 0 rfl) ?_
        refine va_get (D := gD G) (ci := 4) (v := .int o7.2.2.1) (C := RX4) (T := TX4) (N := 29) hx hb hts hi_X4 hown hK.1 hP 0 rfl rfl 23 (by decide) kl_165 (fun _ h9 => h9) rfl dX4_toFeed_45 ?_
        have hv := Option.some.inj hf
        exact hret _ _ _ _ _ (by rw [← hv]; exact hP) hS (by rw [← hv]) dX4_toFeed_48
      · have hf := iteT hf c9
        refine lv_aload_n hx hb dX4_toFeed_37 rfl (lv_at hl 0 rfl) ?_
        refine va_get (D := gD G) (ci := 4) (v := .int o7.2.1) (C := RX4) (T := TX4) (N := 29) hx hb hts hi_X4 hown hK.1 hP 0 rfl rfl 22 (by decide) kl_162 (fun _ h9 => h9) rfl dX4_toFeed_38 ?_
        refine lv_goto (tgt := 48) hx hb dX4_toFeed_41 (by decide) ?_
        have hv := Option.some.inj hf
        exact hret _ _ _ _ _ (by rw [← hv]; exact hP) hS (by rw [← hv]) dX4_toFeed_48
    · have hf := iteT hf c6
      refine lv_bipush (v := (-2)) hx hb dX4_toFeed_25 (by decide) ?_
      have hv := Option.some.inj hf
      exact hret _ _ _ _ _ (by rw [← hv]; exact hP) hS (by rw [← hv]) dX4_toFeed_27
  · have hf := iteF hf c3
    refine lv_iconst (v := (-1)) hx hb dX4_toFeed_13 (by decide) ?_
    have hv := Option.some.inj hf
    exact hret _ _ _ _ _ (by rw [← hv]; exact hP) hS (by rw [← hv]) dX4_toFeed_14
def fX4_giveUp_85 (s_people : Int32) (q_kind : Nat → Int32) (q_page : Nat → Int32) (a1 : Int32) (k52 : Int32 → Int32 → Int32 → Int32 → Int32 → (Nat → Int32) → (Nat → Int32) → Option (Int32 × Int32 × Int32 × (Nat → Int32) × (Nat → Int32))) (x2 : Int32) (x3 : Int32) (x4 : Int32) (s_thrown : Int32) (s_rowSize : Int32) (q_trial : Nat → Int32) (q_row : Nat → Int32) : Option (Int32 × Int32 × Int32 × (Nat → Int32) × (Nat → Int32)) :=
  (fX4_begin q_page q_trial).bind fun o12 => (ck 14 17 (ck 14 17 ((fX4_layFall s_people s_rowSize q_kind (upd o12 (Int32.toNatClampNeg 14) ((o12 (Int32.toNatClampNeg 14)) &&& (x4 ^^^ (-1)))) q_row).bind fun o16 => ((fX4_placeOf o16.1 o16.2.2 a1).bind fun o18 => ((if o18 = (-9) then (k52 x2 x3 (x4 + 1) s_thrown o16.1 o16.2.1 o16.2.2) else (k52 x2 x4 (x4 + 1) s_thrown o16.1 o16.2.1 o16.2.2)))))))
def fX4_giveUp_52 (s_people : Int32) (q_kind : Nat → Int32) (q_page : Nat → Int32) (a1 : Int32) : Nat → Int32 → Int32 → Int32 → Int32 → Int32 → (Nat → Int32) → (Nat → Int32) → Option (Int32 × Int32 × Int32 × (Nat → Int32) × (Nat → Int32))
  | 0, _, _, _, _, _, _, _ => none
  | n + 1, x2, x3, x4, s_thrown, s_rowSize, q_trial, q_row => (if x2 < x4 then some (x3, s_thrown, s_rowSize, q_trial, q_row) else (if (x4 &&& (x2 ^^^ (-1))) = 0 then (if x3 = (-9) then (fX4_giveUp_85 s_people q_kind q_page a1 (fun x2 x3 x4 s_thrown s_rowSize q_trial q_row => fX4_giveUp_52 s_people q_kind q_page a1 n x2 x3 x4 s_thrown s_rowSize q_trial q_row) x2 x3 x4 s_thrown s_rowSize q_trial q_row) else (fX4_many x4).bind fun o21 => ((fX4_many x3).bind fun o23 => ((if o23 ≤ o21 then (fX4_giveUp_52 s_people q_kind q_page a1 n x2 x3 (x4 + 1) s_thrown s_rowSize q_trial q_row) else (fX4_giveUp_85 s_people q_kind q_page a1 (fun x2 x3 x4 s_thrown s_rowSize q_trial q_row => fX4_giveUp_52 s_people q_kind q_page a1 n x2 x3 x4 s_thrown s_rowSize q_trial q_row) x2 x3 x4 s_thrown s_rowSize q_trial q_row))))) else (fX4_giveUp_52 s_people q_kind q_page a1 n x2 x3 (x4 + 1) s_thrown s_rowSize q_trial q_row)))
def fX4_giveUp (s_thrown : Int32) (s_people : Int32) (s_rowSize : Int32) (q_kind : Nat → Int32) (q_page : Nat → Int32) (q_trial : Nat → Int32) (q_row : Nat → Int32) (a1 : Int32) : Option (Int32 × Int32 × Int32 × (Nat → Int32) × (Nat → Int32)) :=
  (fX4_noPerson s_people a1).bind fun o1 => ((if o1 = 0 then ck 14 17 ((fX4_has (q_page (Int32.toNatClampNeg 14)) a1).bind fun o5 => ((if o5 = 0 then some ((-3), 0, s_rowSize, q_trial, q_row) else ck 14 17 ((fX4_giveUp_52 s_people q_kind q_page a1 130 ((q_page (Int32.toNatClampNeg 14)) &&& (((1 : Int32) <<< (a1 &&& 31)) ^^^ (-1))) (-9) 0 0 s_rowSize q_trial q_row))))) else some ((-1), 0, s_rowSize, q_trial, q_row)))
set_option maxHeartbeats 4000000 in
set_option maxRecDepth 100000 in
theorem ctX4_giveUp (l : Launch) (G : GG) (h0 : Nat) (ad : Nat → Nat) (s_thrown : Int32) (s_textSize : Int32) (s_place : Int32) (s_people : Int32) (s_readPeople : Int32) (s_acts : Int32) (s_seen : Int32) (s_seed : Int64) (s_rowSize : Int32) (s_feedMany : Int32) (s_feedRow : Int32) (s_restMany : Int32) (s_restFirst : Int32) (q_kind : Nat → Int32) (q_page : Nat → Int32) (q_trial : Nat → Int32) (q_row : Nat → Int32) (a1 : Int32) (out : Int32 × Int32 × Int32 × (Nat → Int32) × (Nat → Int32)) (hf : fX4_giveUp s_thrown s_people s_rowSize q_kind q_page q_trial q_row a1 = some out) : Met l yX4_giveUp wsX4_giveUp ({ frames := 4, cells := 0, slots := 0, locals := 90 }) (PcW G [.ref h0, .int a1] [(h0, moE ad s_thrown s_textSize s_place s_people s_readPeople s_acts s_seen s_seed s_rowSize s_feedMany s_feedRow s_restMany s_restFirst), (ad 5, aI G 7 q_kind), (ad 10, aI G 17 q_page), (ad 11, aI G 17 q_trial), (ad 20, aI G 7 q_row)]) (QiW G [(h0, moE ad s_thrown s_textSize s_place s_people s_readPeople s_acts s_seen s_seed s_rowSize s_feedMany s_feedRow s_restMany s_restFirst), (ad 5, aI G 7 q_kind), (ad 10, aI G 17 q_page), (ad 11, aI G 17 q_trial), (ad 20, aI G 7 q_row)] [(h0, moE ad out.2.1 s_textSize s_place s_people s_readPeople s_acts s_seen s_seed out.2.2.1 s_feedMany s_feedRow s_restMany s_restFirst), (ad 5, aI G 7 q_kind), (ad 10, aI G 17 q_page), (ad 11, aI G 17 out.2.2.2.1), (ad 20, aI G 7 out.2.2.2.2)] out.1) 0 0 (inA [(h0, moE ad s_thrown s_textSize s_place s_people s_readPeople s_acts s_seen s_seed s_rowSize s_feedMany s_feedRow s_restMany s_restFirst), (ad 5, aI G 7 q_kind), (ad 10, aI G 17 q_page), (ad 11, aI G 17 q_trial), (ad 20, aI G 7 q_row)]) := by
  refine mk_Wi (cc := cX4_giveUp) (maxL := 5) (by decide) rfl (Nat.le_of_ble_eq_true rfl) ?_
  intro p e s m args below meth c Q ls A S hP hK hD hl hret
  obtain ⟨hx, hb, hml, hown, hts⟩ := S
  have hown : s.vm.findClass RX4 = some m.cls := hown
  have kl_60 := hts (.fieldLink RX4 60 "ArrestOrderModel" "thrown" "I") (by decide +kernel)
  have hi_X4 : ∀ w ∈ wsX40, w ∈ wsX4_giveUp := fun _ h => List.mem_cons_of_mem _ (List.mem_append_right _ h)
  have kl_25 := hts (.fieldLink RX4 25 "ArrestOrderModel" "page" "[I") (by decide +kernel)
  have kl_28 := hts (.fieldLink RX4 28 "ArrestOrderModel" "trial" "[I") (by decide +kernel)
  have hS : va_S A s.heap s.heap [] := va_S.rf
  have hl : lv_has ls 5 [(0, .ref h0), (1, .int a1)] := hl
  have hC52 : ∀ (n : Nat) (x2 : Int32) (x3 : Int32) (x4 : Int32) (s_thrown : Int32) (s_rowSize : Int32) (q_trial : Nat → Int32) (q_row : Nat → Int32) (H : Heap) (locs : List Loc) (ls : Array Slot), va_P (gD G) vwCl [(h0, moE ad s_thrown s_textSize s_place s_people s_readPeople s_acts s_seen s_seed s_rowSize s_feedMany s_feedRow s_restMany s_restFirst), (ad 5, aI G 7 q_kind), (ad 10, aI G 17 q_page), (ad 11, aI G 17 q_trial), (ad 20, aI G 7 q_row)] H → va_D A [(h0, moE ad s_thrown s_textSize s_place s_people s_readPeople s_acts s_seen s_seed s_rowSize s_feedMany s_feedRow s_restMany s_restFirst), (ad 5, aI G 7 q_kind), (ad 10, aI G 17 q_page), (ad 11, aI G 17 q_trial), (ad 20, aI G 7 q_row)] → va_S A s.heap H locs → lv_has ls 5 [(0, .ref h0), (1, .int a1), (2, .int x2), (3, .int x3), (4, .int x4)] → fX4_giveUp_52 s_people q_kind q_page a1 n x2 x3 x4 s_thrown s_rowSize q_trial q_row = some out → W p l e ({ frames := 4, cells := 0, slots := 0, locals := 90 }) s m args below meth c H locs 0 0 Q (F0 m 52 ls []) := by
    intro n52
    induction n52 with
    | zero => intro x2 x3 x4 s_thrown s_rowSize q_trial q_row H locs ls hP hD hS hl hf; exact absurd (show none = some out from hf) (fun z => by cases z)
    | succ n52 ih52 =>
      have hC85 : ∀ (x2 : Int32) (x3 : Int32) (x4 : Int32) (s_thrown : Int32) (s_rowSize : Int32) (q_trial : Nat → Int32) (q_row : Nat → Int32) (H : Heap) (locs : List Loc) (ls : Array Slot), va_P (gD G) vwCl [(h0, moE ad s_thrown s_textSize s_place s_people s_readPeople s_acts s_seen s_seed s_rowSize s_feedMany s_feedRow s_restMany s_restFirst), (ad 5, aI G 7 q_kind), (ad 10, aI G 17 q_page), (ad 11, aI G 17 q_trial), (ad 20, aI G 7 q_row)] H → va_D A [(h0, moE ad s_thrown s_textSize s_place s_people s_readPeople s_acts s_seen s_seed s_rowSize s_feedMany s_feedRow s_restMany s_restFirst), (ad 5, aI G 7 q_kind), (ad 10, aI G 17 q_page), (ad 11, aI G 17 q_trial), (ad 20, aI G 7 q_row)] → va_S A s.heap H locs → lv_has ls 5 [(0, .ref h0), (1, .int a1), (2, .int x2), (3, .int x3), (4, .int x4)] → fX4_giveUp_85 s_people q_kind q_page a1 (fun x2 x3 x4 s_thrown s_rowSize q_trial q_row => fX4_giveUp_52 s_people q_kind q_page a1 n52 x2 x3 x4 s_thrown s_rowSize q_trial q_row) x2 x3 x4 s_thrown s_rowSize q_trial q_row = some out → W p l e ({ frames := 4, cells := 0, slots := 0, locals := 90 }) s m args below meth c H locs 0 0 Q (F0 m 85 ls []) := by
        intro x2 x3 x4 s_thrown s_rowSize q_trial q_row H locs ls hP hD hS hl hf
        refine lv_aload_n hx hb dX4_giveUp_85 rfl (lv_at hl 0 rfl) ?_
        obtain ⟨o12, hc13, hf⟩ := bindS hf
        refine rw_v (va_runV (C := RX4) (As := []) (rest := []) ⟨hx, hb, hml, hown, hts⟩ (ctX4_begin l G h0 ad s_thrown s_textSize s_place s_people s_readPeople s_acts s_seen s_seed s_rowSize s_feedMany s_feedRow s_restMany s_restFirst q_page q_trial o12 hc13) (cwV 0 hts gX4_giveUp_X4_begin rfl rfl rfl (by decide +kernel) ⟨Nat.le_of_ble_eq_true rfl, Nat.le_of_ble_eq_true rfl⟩) (preW_V (q0 := 0) (ci := 4) (hP.sub (ws' := [(h0, moE ad s_thrown s_textSize s_place s_people s_readPeople s_acts s_seen s_seed s_rowSize s_feedMany s_feedRow s_restMany s_restFirst), (ad 10, aI G 17 q_page), (ad 11, aI G 17 q_trial)]) [0, 2, 3] rfl) (hD.sub (ws' := [(h0, moE ad s_thrown s_textSize s_place s_people s_readPeople s_acts s_seen s_seed s_rowSize s_feedMany s_feedRow s_restMany s_restFirst), (ad 10, aI G 17 q_page), (ad 11, aI G 17 q_trial)]) [0, 2, 3] (by decide) rfl) hK rfl rfl) rfl rfl hl.1 rfl (lv_room (Nat.le_of_ble_eq_true rfl)) dX4_giveUp_86 ⟨Nat.zero_le _, Nat.zero_le _⟩) hS hP hD [0, 2, 3] rfl rfl rfl (fun H locs hP hD hS => ?_)
        have hP : va_P (gD G) vwCl [(h0, moE ad s_thrown s_textSize s_place s_people s_readPeople s_acts s_seen s_seed s_rowSize s_feedMany s_feedRow s_restMany s_restFirst), (ad 5, aI G 7 q_kind), (ad 10, aI G 17 q_page), (ad 11, aI G 17 o12), (ad 20, aI G 7 q_row)] H := hP
        have hD : va_D A [(h0, moE ad s_thrown s_textSize s_place s_people s_readPeople s_acts s_seen s_seed s_rowSize s_feedMany s_feedRow s_restMany s_restFirst), (ad 5, aI G 7 q_kind), (ad 10, aI G 17 q_page), (ad 11, aI G 17 o12), (ad 20, aI G 7 q_row)] := hD
        refine lv_aload_n hx hb dX4_giveUp_89 rfl (lv_at hl 0 rfl) ?_
        refine va_get (D := gD G) (ci := 4) (v := .ref (ad 11)) (C := RX4) (T := TX4) (N := 29) hx hb hts hi_X4 hown hK.1 hP 0 rfl rfl 11 (by decide) kl_28 (fun _ h9 => h9) rfl dX4_giveUp_90 ?_
        refine lv_bipush (v := 14) hx hb dX4_giveUp_93 (by decide) ?_
        refine lv_dup2_11 hx hb dX4_giveUp_95 rfl rfl ?_
        obtain ⟨hi14, hf⟩ := ckS hf
        refine va_iald hx hb hK.1 hP 3 0 rfl rfl hi14 dX4_giveUp_96 ?_
        refine lv_iload hx hb dX4_giveUp_97 (lv_at hl 4 rfl) ?_
        refine lv_iconst (v := (-1)) hx hb dX4_giveUp_99 (by decide) ?_
        refine lv_ixor hx hb dX4_giveUp_100 ?_
        refine lv_iand hx hb dX4_giveUp_101 ?_
        obtain ⟨hi15, hf⟩ := ckS hf
        refine va_iast hx hb hK.1 hP hD hS 3 0 rfl rfl hi15 dX4_giveUp_102 (fun H locs hP hD hS => ?_)
        have hP : va_P (gD G) vwCl [(h0, moE ad s_thrown s_textSize s_place s_people s_readPeople s_acts s_seen s_seed s_rowSize s_feedMany s_feedRow s_restMany s_restFirst), (ad 5, aI G 7 q_kind), (ad 10, aI G 17 q_page), (ad 11, aI G 17 (upd o12 (Int32.toNatClampNeg 14) ((o12 (Int32.toNatClampNeg 14)) &&& (x4 ^^^ (-1))))), (ad 20, aI G 7 q_row)] H := hP
        have hD : va_D A [(h0, moE ad s_thrown s_textSize s_place s_people s_readPeople s_acts s_seen s_seed s_rowSize s_feedMany s_feedRow s_restMany s_restFirst), (ad 5, aI G 7 q_kind), (ad 10, aI G 17 q_page), (ad 11, aI G 17 (upd o12 (Int32.toNatClampNeg 14) ((o12 (Int32.toNatClampNeg 14)) &&& (x4 ^^^ (-1))))), (ad 20, aI G 7 q_row)] := hD
        refine lv_aload_n hx hb dX4_giveUp_103 rfl (lv_at hl 0 rfl) ?_
        obtain ⟨o16, hc17, hf⟩ := bindS hf
        refine rw_v (va_runV (C := RX4) (As := []) (rest := []) ⟨hx, hb, hml, hown, hts⟩ (ctX4_layFall l G h0 ad s_thrown s_textSize s_place s_people s_readPeople s_acts s_seen s_seed s_rowSize s_feedMany s_feedRow s_restMany s_restFirst q_kind (upd o12 (Int32.toNatClampNeg 14) ((o12 (Int32.toNatClampNeg 14)) &&& (x4 ^^^ (-1)))) q_row o16 hc17) (cwV 0 hts gX4_giveUp_X4_layFall rfl rfl rfl (by decide +kernel) ⟨Nat.le_of_ble_eq_true rfl, Nat.le_of_ble_eq_true rfl⟩) (preW_V (q0 := 0) (ci := 4) (hP.sub (ws' := [(h0, moE ad s_thrown s_textSize s_place s_people s_readPeople s_acts s_seen s_seed s_rowSize s_feedMany s_feedRow s_restMany s_restFirst), (ad 5, aI G 7 q_kind), (ad 11, aI G 17 (upd o12 (Int32.toNatClampNeg 14) ((o12 (Int32.toNatClampNeg 14)) &&& (x4 ^^^ (-1))))), (ad 20, aI G 7 q_row)]) [0, 1, 3, 4] rfl) (hD.sub (ws' := [(h0, moE ad s_thrown s_textSize s_place s_people s_readPeople s_acts s_seen s_seed s_rowSize s_feedMany s_feedRow s_restMany s_restFirst), (ad 5, aI G 7 q_kind), (ad 11, aI G 17 (upd o12 (Int32.toNatClampNeg 14) ((o12 (Int32.toNatClampNeg 14)) &&& (x4 ^^^ (-1))))), (ad 20, aI G 7 q_row)]) [0, 1, 3, 4] (by decide) rfl) hK rfl rfl) rfl rfl hl.1 rfl (lv_room (Nat.le_of_ble_eq_true rfl)) dX4_giveUp_104 ⟨Nat.zero_le _, Nat.zero_le _⟩) hS hP hD [0, 1, 3, 4] rfl rfl rfl (fun H locs hP hD hS => ?_)
        have hP : va_P (gD G) vwCl [(h0, moE ad s_thrown s_textSize s_place s_people s_readPeople s_acts s_seen s_seed o16.1 s_feedMany s_feedRow s_restMany s_restFirst), (ad 5, aI G 7 q_kind), (ad 10, aI G 17 q_page), (ad 11, aI G 17 o16.2.1), (ad 20, aI G 7 o16.2.2)] H := hP
        have hD : va_D A [(h0, moE ad s_thrown s_textSize s_place s_people s_readPeople s_acts s_seen s_seed o16.1 s_feedMany s_feedRow s_restMany s_restFirst), (ad 5, aI G 7 q_kind), (ad 10, aI G 17 q_page), (ad 11, aI G 17 o16.2.1), (ad 20, aI G 7 o16.2.2)] := hD
        refine lv_aload_n hx hb dX4_giveUp_107 rfl (lv_at hl 0 rfl) ?_
        refine lv_iload_n hx hb dX4_giveUp_108 rfl (lv_at hl 1 rfl) ?_
        obtain ⟨o18, hc19, hf⟩ := bindS hf
        refine ro_i (va_runV (C := RX4) (As := [.int a1]) (rest := []) ⟨hx, hb, hml, hown, hts⟩ (ctX4_placeOf l G h0 ad s_thrown s_textSize s_place s_people s_readPeople s_acts s_seen s_seed o16.1 s_feedMany s_feedRow s_restMany s_restFirst o16.2.2 a1 o18 hc19) (cwV 1 hts gX4_giveUp_X4_placeOf rfl rfl rfl (by decide +kernel) ⟨Nat.le_of_ble_eq_true rfl, Nat.le_of_ble_eq_true rfl⟩) (preR_V (q0 := 0) (ci := 4) (hP.sub (ws' := [(h0, moE ad s_thrown s_textSize s_place s_people s_readPeople s_acts s_seen s_seed o16.1 s_feedMany s_feedRow s_restMany s_restFirst), (ad 20, aI G 7 o16.2.2)]) [0, 4] rfl) hK rfl rfl) rfl rfl hl.1 rfl (lv_room (Nat.le_of_ble_eq_true rfl)) dX4_giveUp_109 ⟨Nat.zero_le _, Nat.zero_le _⟩) hS hP (fun H locs hP hS => ?_)
        refine lv_bipush (v := (-9)) hx hb dX4_giveUp_112 (by decide) ?_
        refine lv_icmp_ne (tgt := 121) hx hb dX4_giveUp_114 (by decide) (fun c20 => ?_) (fun c20 => ?_)
        · have hf := iteF hf c20
          refine lv_iload hx hb dX4_giveUp_121 (lv_at hl 4 rfl) ?_
          refine lv_istore_n (lv' := [(3, .int x4), (0, .ref h0), (1, .int a1), (2, .int x2), (4, .int x4)]) hx hb dX4_giveUp_123 rfl hl (by decide) rfl (fun ls hl => ?_)
          refine lv_iinc (v := (x4 + 1)) (lv' := [(4, .int (x4 + 1)), (3, .int x4), (0, .ref h0), (1, .int a1), (2, .int x2)]) hx hb dX4_giveUp_124 hl (k := 4) rfl rfl (by decide) rfl (fun ls hl => ?_)
          refine lv_goto (tgt := 52) hx hb dX4_giveUp_127 (by decide) ?_
          exact ih52 x2 x4 (x4 + 1) s_thrown o16.1 o16.2.1 o16.2.2 _ _ _ hP hD hS (lv_sub hl [2, 3, 4, 1, 0] rfl) hf
        · have hf := iteT hf c20
          refine lv_iload_n hx hb dX4_giveUp_117 rfl (lv_at hl 3 rfl) ?_
          refine lv_goto (tgt := 123) hx hb dX4_giveUp_118 (by decide) ?_
          refine lv_istore_n (lv' := [(3, .int x3), (0, .ref h0), (1, .int a1), (2, .int x2), (4, .int x4)]) hx hb dX4_giveUp_123 rfl hl (by decide) rfl (fun ls hl => ?_)
          refine lv_iinc (v := (x4 + 1)) (lv' := [(4, .int (x4 + 1)), (3, .int x3), (0, .ref h0), (1, .int a1), (2, .int x2)]) hx hb dX4_giveUp_124 hl (k := 4) rfl rfl (by decide) rfl (fun ls hl => ?_)
          refine lv_goto (tgt := 52) hx hb dX4_giveUp_127 (by decide) ?_
          exact ih52 x2 x3 (x4 + 1) s_thrown o16.1 o16.2.1 o16.2.2 _ _ _ hP hD hS (lv_sub hl [2, 3, 4, 1, 0] rfl) hf
      intro x2 x3 x4 s_thrown s_rowSize q_trial q_row H locs ls hP hD hS hl hf
      refine lv_iload hx hb dX4_giveUp_52 (lv_at hl 4 rfl) ?_
      refine lv_iload_n hx hb dX4_giveUp_54 rfl (lv_at hl 2 rfl) ?_
      refine lv_icmp_gt (tgt := 130) hx hb dX4_giveUp_55 (by decide) (fun c9 => ?_) (fun c9 => ?_)
      · have hf := iteT hf c9
        refine lv_iload_n hx hb dX4_giveUp_130 rfl (lv_at hl 3 rfl) ?_
        have hv := Option.some.inj hf
        exact hret _ _ _ _ _ (by rw [← hv]; exact hP) hS (by rw [← hv]) dX4_giveUp_131
      · have hf := iteF hf c9
        refine lv_iload hx hb dX4_giveUp_58 (lv_at hl 4 rfl) ?_
        refine lv_iload_n hx hb dX4_giveUp_60 rfl (lv_at hl 2 rfl) ?_
        refine lv_iconst (v := (-1)) hx hb dX4_giveUp_61 (by decide) ?_
        refine lv_ixor hx hb dX4_giveUp_62 ?_
        refine lv_iand hx hb dX4_giveUp_63 ?_
        refine lv_if_ne (tgt := 124) hx hb dX4_giveUp_64 (by decide) (fun c10 => ?_) (fun c10 => ?_)
        · have hf := iteF hf c10
          refine lv_iinc (v := (x4 + 1)) (lv' := [(4, .int (x4 + 1)), (0, .ref h0), (1, .int a1), (2, .int x2), (3, .int x3)]) hx hb dX4_giveUp_124 hl (k := 4) rfl rfl (by decide) rfl (fun ls hl => ?_)
          refine lv_goto (tgt := 52) hx hb dX4_giveUp_127 (by decide) ?_
          exact ih52 x2 x3 (x4 + 1) s_thrown s_rowSize q_trial q_row _ _ _ hP hD hS (lv_sub hl [1, 2, 3, 4, 0] rfl) hf
        · have hf := iteT hf c10
          refine lv_iload_n hx hb dX4_giveUp_67 rfl (lv_at hl 3 rfl) ?_
          refine lv_bipush (v := (-9)) hx hb dX4_giveUp_68 (by decide) ?_
          refine lv_icmp_eq (tgt := 85) hx hb dX4_giveUp_70 (by decide) (fun c11 => ?_) (fun c11 => ?_)
          · have hf := iteT hf c11
            exact hC85 x2 x3 x4 s_thrown s_rowSize q_trial q_row _ _ _ hP hD hS (lv_sub hl [0, 1, 2, 3, 4] rfl) hf
          · have hf := iteF hf c11
            refine lv_iload hx hb dX4_giveUp_73 (lv_at hl 4 rfl) ?_
            obtain ⟨o21, hc22, hf⟩ := bindS hf
            refine ro_i (va_runS (As := [.int x4]) (rest := []) ⟨hx, hb, hml, hown, hts⟩ (ctX4_many l G x4 o21 hc22) (va_cwS 1 hts gX4_giveUp_X4_many rfl rfl rfl (by decide +kernel) ⟨Nat.le_of_ble_eq_true rfl, Nat.le_of_ble_eq_true rfl⟩) (preR_S (hP.sub (ws' := []) [] rfl) hK) rfl rfl hl.1 rfl (lv_room (Nat.le_of_ble_eq_true rfl)) dX4_giveUp_75 ⟨Nat.zero_le _, Nat.zero_le _⟩) hS hP (fun H locs hP hS => ?_)
            refine lv_iload_n hx hb dX4_giveUp_78 rfl (lv_at hl 3 rfl) ?_
            obtain ⟨o23, hc24, hf⟩ := bindS hf
            refine ro_i (va_runS (As := [.int x3]) (rest := [.int o21]) ⟨hx, hb, hml, hown, hts⟩ (ctX4_many l G x3 o23 hc24) (va_cwS 1 hts gX4_giveUp_X4_many rfl rfl rfl (by decide +kernel) ⟨Nat.le_of_ble_eq_true rfl, Nat.le_of_ble_eq_true rfl⟩) (preR_S (hP.sub (ws' := []) [] rfl) hK) rfl rfl hl.1 rfl (lv_room (Nat.le_of_ble_eq_true rfl)) dX4_giveUp_79 ⟨Nat.zero_le _, Nat.zero_le _⟩) hS hP (fun H locs hP hS => ?_)
            refine lv_icmp_ge (tgt := 124) hx hb dX4_giveUp_82 (by decide) (fun c25 => ?_) (fun c25 => ?_)
            · have hf := iteT hf c25
              refine lv_iinc (v := (x4 + 1)) (lv' := [(4, .int (x4 + 1)), (0, .ref h0), (1, .int a1), (2, .int x2), (3, .int x3)]) hx hb dX4_giveUp_124 hl (k := 4) rfl rfl (by decide) rfl (fun ls hl => ?_)
              refine lv_goto (tgt := 52) hx hb dX4_giveUp_127 (by decide) ?_
              exact ih52 x2 x3 (x4 + 1) s_thrown s_rowSize q_trial q_row _ _ _ hP hD hS (lv_sub hl [1, 2, 3, 4, 0] rfl) hf
            · have hf := iteF hf c25
              exact hC85 x2 x3 x4 s_thrown s_rowSize q_trial q_row _ _ _ hP hD hS (lv_sub hl [0, 1, 2, 3, 4] rfl) hf
  refine lv_aload_n hx hb dX4_giveUp_0 rfl (lv_at hl 0 rfl) ?_
  refine lv_iconst (v := 0) hx hb dX4_giveUp_1 (by decide) ?_
  refine va_put (D := gD G) (ci := 4) (v := .int 0) (ty := .int) (C := RX4) (T := TX4) (N := 29) hx hb hts hi_X4 tyX4 tyX4_ok nmX4 hown hK.1 hP hD hS 0 rfl rfl 0 (by decide) kl_60 (fun _ h9 => h9) rfl (tyX4_ok 0 (by decide)) rfl rfl (Nat.le_of_ble_eq_true rfl) dX4_giveUp_2 (fun H locs hP hD hS => ?_)
  have hP : va_P (gD G) vwCl [(h0, moE ad 0 s_textSize s_place s_people s_readPeople s_acts s_seen s_seed s_rowSize s_feedMany s_feedRow s_restMany s_restFirst), (ad 5, aI G 7 q_kind), (ad 10, aI G 17 q_page), (ad 11, aI G 17 q_trial), (ad 20, aI G 7 q_row)] H := hP
  have hD : va_D A [(h0, moE ad 0 s_textSize s_place s_people s_readPeople s_acts s_seen s_seed s_rowSize s_feedMany s_feedRow s_restMany s_restFirst), (ad 5, aI G 7 q_kind), (ad 10, aI G 17 q_page), (ad 11, aI G 17 q_trial), (ad 20, aI G 7 q_row)] := hD
  refine lv_aload_n hx hb dX4_giveUp_5 rfl (lv_at hl 0 rfl) ?_
  refine lv_iload_n hx hb dX4_giveUp_6 rfl (lv_at hl 1 rfl) ?_
  obtain ⟨o1, hc2, hf⟩ := bindS hf
  refine ro_i (va_runV (C := RX4) (As := [.int a1]) (rest := []) ⟨hx, hb, hml, hown, hts⟩ (ctX4_noPerson l G h0 ad 0 s_textSize s_place s_people s_readPeople s_acts s_seen s_seed s_rowSize s_feedMany s_feedRow s_restMany s_restFirst a1 o1 hc2) (cwV 1 hts gX4_giveUp_X4_noPerson rfl rfl rfl (by decide +kernel) ⟨Nat.le_of_ble_eq_true rfl, Nat.le_of_ble_eq_true rfl⟩) (preR_V (q0 := 0) (ci := 4) (hP.sub (ws' := [(h0, moE ad 0 s_textSize s_place s_people s_readPeople s_acts s_seen s_seed s_rowSize s_feedMany s_feedRow s_restMany s_restFirst)]) [0] rfl) hK rfl rfl) rfl rfl hl.1 rfl (lv_room (Nat.le_of_ble_eq_true rfl)) dX4_giveUp_7 ⟨Nat.zero_le _, Nat.zero_le _⟩) hS hP (fun H locs hP hS => ?_)
  refine lv_if_eq (tgt := 15) hx hb dX4_giveUp_10 (by decide) (fun c3 => ?_) (fun c3 => ?_)
  · have hf := iteT hf c3
    refine lv_aload_n hx hb dX4_giveUp_15 rfl (lv_at hl 0 rfl) ?_
    refine va_get (D := gD G) (ci := 4) (v := .ref (ad 10)) (C := RX4) (T := TX4) (N := 29) hx hb hts hi_X4 hown hK.1 hP 0 rfl rfl 10 (by decide) kl_25 (fun _ h9 => h9) rfl dX4_giveUp_16 ?_
    refine lv_bipush (v := 14) hx hb dX4_giveUp_19 (by decide) ?_
    obtain ⟨hi4, hf⟩ := ckS hf
    refine va_iald hx hb hK.1 hP 2 0 rfl rfl hi4 dX4_giveUp_21 ?_
    refine lv_iload_n hx hb dX4_giveUp_22 rfl (lv_at hl 1 rfl) ?_
    obtain ⟨o5, hc6, hf⟩ := bindS hf
    refine ro_i (va_runS (As := [.int (q_page (Int32.toNatClampNeg 14)), .int a1]) (rest := []) ⟨hx, hb, hml, hown, hts⟩ (ctX4_has l G (q_page (Int32.toNatClampNeg 14)) a1 o5 hc6) (va_cwS 2 hts gX4_giveUp_X4_has rfl rfl rfl (by decide +kernel) ⟨Nat.le_of_ble_eq_true rfl, Nat.le_of_ble_eq_true rfl⟩) (preR_S (hP.sub (ws' := []) [] rfl) hK) rfl rfl hl.1 rfl (lv_room (Nat.le_of_ble_eq_true rfl)) dX4_giveUp_23 ⟨Nat.zero_le _, Nat.zero_le _⟩) hS hP (fun H locs hP hS => ?_)
    refine lv_if_ne (tgt := 32) hx hb dX4_giveUp_26 (by decide) (fun c7 => ?_) (fun c7 => ?_)
    · have hf := iteF hf c7
      refine lv_aload_n hx hb dX4_giveUp_32 rfl (lv_at hl 0 rfl) ?_
      refine va_get (D := gD G) (ci := 4) (v := .ref (ad 10)) (C := RX4) (T := TX4) (N := 29) hx hb hts hi_X4 hown hK.1 hP 0 rfl rfl 10 (by decide) kl_25 (fun _ h9 => h9) rfl dX4_giveUp_33 ?_
      refine lv_bipush (v := 14) hx hb dX4_giveUp_36 (by decide) ?_
      obtain ⟨hi8, hf⟩ := ckS hf
      refine va_iald hx hb hK.1 hP 2 0 rfl rfl hi8 dX4_giveUp_38 ?_
      refine lv_iconst (v := 1) hx hb dX4_giveUp_39 (by decide) ?_
      refine lv_iload_n hx hb dX4_giveUp_40 rfl (lv_at hl 1 rfl) ?_
      refine lv_ishl hx hb dX4_giveUp_41 ?_
      refine lv_iconst (v := (-1)) hx hb dX4_giveUp_42 (by decide) ?_
      refine lv_ixor hx hb dX4_giveUp_43 ?_
      refine lv_iand hx hb dX4_giveUp_44 ?_
      refine lv_istore_n (lv' := [(2, .int ((q_page (Int32.toNatClampNeg 14)) &&& (((1 : Int32) <<< (a1 &&& 31)) ^^^ (-1)))), (0, .ref h0), (1, .int a1)]) hx hb dX4_giveUp_45 rfl hl (by decide) rfl (fun ls hl => ?_)
      refine lv_bipush (v := (-9)) hx hb dX4_giveUp_46 (by decide) ?_
      refine lv_istore_n (lv' := [(3, .int (-9)), (2, .int ((q_page (Int32.toNatClampNeg 14)) &&& (((1 : Int32) <<< (a1 &&& 31)) ^^^ (-1)))), (0, .ref h0), (1, .int a1)]) hx hb dX4_giveUp_48 rfl hl (by decide) rfl (fun ls hl => ?_)
      refine lv_iconst (v := 0) hx hb dX4_giveUp_49 (by decide) ?_
      refine lv_istore (lv' := [(4, .int 0), (3, .int (-9)), (2, .int ((q_page (Int32.toNatClampNeg 14)) &&& (((1 : Int32) <<< (a1 &&& 31)) ^^^ (-1)))), (0, .ref h0), (1, .int a1)]) hx hb dX4_giveUp_50 hl (by decide) rfl (fun ls hl => ?_)
      exact hC52 130 ((q_page (Int32.toNatClampNeg 14)) &&& (((1 : Int32) <<< (a1 &&& 31)) ^^^ (-1))) (-9) 0 0 s_rowSize q_trial q_row _ _ _ hP hD hS (lv_sub hl [3, 4, 2, 1, 0] rfl) hf
    · have hf := iteT hf c7
      refine lv_bipush (v := (-3)) hx hb dX4_giveUp_29 (by decide) ?_
      have hv := Option.some.inj hf
      exact hret _ _ _ _ _ (by rw [← hv]; exact hP) hS (by rw [← hv]) dX4_giveUp_31
  · have hf := iteF hf c3
    refine lv_iconst (v := (-1)) hx hb dX4_giveUp_13 (by decide) ?_
    have hv := Option.some.inj hf
    exact hret _ _ _ _ _ (by rw [← hv]; exact hP) hS (by rw [← hv]) dX4_giveUp_14
def fX4_lateness (s_people : Int32) (s_rowSize : Int32) (q_kind : Nat → Int32) (q_trial : Nat → Int32) (q_row : Nat → Int32) (a1 : Int32) : Option (Int32 × Int32 × (Nat → Int32) × (Nat → Int32)) :=
  (fX4_layFall s_people s_rowSize q_kind q_trial q_row).bind fun o1 => ((fX4_placeOf o1.1 o1.2.2 a1).bind fun o3 => ((if o3 = (-9) then some (9, o1.1, o1.2.1, o1.2.2) else (fX4_placeOf o1.1 o1.2.2 a1).bind fun o6 => (some (o6, o1.1, o1.2.1, o1.2.2)))))
set_option maxHeartbeats 4000000 in
set_option maxRecDepth 100000 in
theorem ctX4_lateness (l : Launch) (G : GG) (h0 : Nat) (ad : Nat → Nat) (s_thrown : Int32) (s_textSize : Int32) (s_place : Int32) (s_people : Int32) (s_readPeople : Int32) (s_acts : Int32) (s_seen : Int32) (s_seed : Int64) (s_rowSize : Int32) (s_feedMany : Int32) (s_feedRow : Int32) (s_restMany : Int32) (s_restFirst : Int32) (q_kind : Nat → Int32) (q_trial : Nat → Int32) (q_row : Nat → Int32) (a1 : Int32) (out : Int32 × Int32 × (Nat → Int32) × (Nat → Int32)) (hf : fX4_lateness s_people s_rowSize q_kind q_trial q_row a1 = some out) : Met l yX4_lateness wsX4_lateness ({ frames := 4, cells := 0, slots := 0, locals := 90 }) (PcW G [.ref h0, .int a1] [(h0, moE ad s_thrown s_textSize s_place s_people s_readPeople s_acts s_seen s_seed s_rowSize s_feedMany s_feedRow s_restMany s_restFirst), (ad 5, aI G 7 q_kind), (ad 11, aI G 17 q_trial), (ad 20, aI G 7 q_row)]) (QiW G [(h0, moE ad s_thrown s_textSize s_place s_people s_readPeople s_acts s_seen s_seed s_rowSize s_feedMany s_feedRow s_restMany s_restFirst), (ad 5, aI G 7 q_kind), (ad 11, aI G 17 q_trial), (ad 20, aI G 7 q_row)] [(h0, moE ad s_thrown s_textSize s_place s_people s_readPeople s_acts s_seen s_seed out.2.1 s_feedMany s_feedRow s_restMany s_restFirst), (ad 5, aI G 7 q_kind), (ad 11, aI G 17 out.2.2.1), (ad 20, aI G 7 out.2.2.2)] out.1) 0 0 (inA [(h0, moE ad s_thrown s_textSize s_place s_people s_readPeople s_acts s_seen s_seed s_rowSize s_feedMany s_feedRow s_restMany s_restFirst), (ad 5, aI G 7 q_kind), (ad 11, aI G 17 q_trial), (ad 20, aI G 7 q_row)]) := by
  refine mk_Wi (cc := cX4_lateness) (maxL := 2) (by decide) rfl (Nat.le_of_ble_eq_true rfl) ?_
  intro p e s m args below meth c Q ls A S hP hK hD hl hret
  obtain ⟨hx, hb, hml, hown, hts⟩ := S
  have hown : s.vm.findClass RX4 = some m.cls := hown
  have hS : va_S A s.heap s.heap [] := va_S.rf
  have hl : lv_has ls 2 [(0, .ref h0), (1, .int a1)] := hl
  refine lv_aload_n hx hb dX4_lateness_0 rfl (lv_at hl 0 rfl) ?_
  obtain ⟨o1, hc2, hf⟩ := bindS hf
  refine rw_v (va_runV (C := RX4) (As := []) (rest := []) ⟨hx, hb, hml, hown, hts⟩ (ctX4_layFall l G h0 ad s_thrown s_textSize s_place s_people s_readPeople s_acts s_seen s_seed s_rowSize s_feedMany s_feedRow s_restMany s_restFirst q_kind q_trial q_row o1 hc2) (cwV 0 hts gX4_lateness_X4_layFall rfl rfl rfl (by decide +kernel) ⟨Nat.le_of_ble_eq_true rfl, Nat.le_of_ble_eq_true rfl⟩) (preW_V (q0 := 0) (ci := 4) (hP.sub (ws' := [(h0, moE ad s_thrown s_textSize s_place s_people s_readPeople s_acts s_seen s_seed s_rowSize s_feedMany s_feedRow s_restMany s_restFirst), (ad 5, aI G 7 q_kind), (ad 11, aI G 17 q_trial), (ad 20, aI G 7 q_row)]) [0, 1, 2, 3] rfl) (hD.sub (ws' := [(h0, moE ad s_thrown s_textSize s_place s_people s_readPeople s_acts s_seen s_seed s_rowSize s_feedMany s_feedRow s_restMany s_restFirst), (ad 5, aI G 7 q_kind), (ad 11, aI G 17 q_trial), (ad 20, aI G 7 q_row)]) [0, 1, 2, 3] (by decide) rfl) hK rfl rfl) rfl rfl hl.1 rfl (lv_room (Nat.le_of_ble_eq_true rfl)) dX4_lateness_1 ⟨Nat.zero_le _, Nat.zero_le _⟩) hS hP hD [0, 1, 2, 3] rfl rfl rfl (fun H locs hP hD hS => ?_)
  have hP : va_P (gD G) vwCl [(h0, moE ad s_thrown s_textSize s_place s_people s_readPeople s_acts s_seen s_seed o1.1 s_feedMany s_feedRow s_restMany s_restFirst), (ad 5, aI G 7 q_kind), (ad 11, aI G 17 o1.2.1), (ad 20, aI G 7 o1.2.2)] H := hP
  have hD : va_D A [(h0, moE ad s_thrown s_textSize s_place s_people s_readPeople s_acts s_seen s_seed o1.1 s_feedMany s_feedRow s_restMany s_restFirst), (ad 5, aI G 7 q_kind), (ad 11, aI G 17 o1.2.1), (ad 20, aI G 7 o1.2.2)] := hD
  refine lv_aload_n hx hb dX4_lateness_4 rfl (lv_at hl 0 rfl) ?_
  refine lv_iload_n hx hb dX4_lateness_5 rfl (lv_at hl 1 rfl) ?_
  obtain ⟨o3, hc4, hf⟩ := bindS hf
  refine ro_i (va_runV (C := RX4) (As := [.int a1]) (rest := []) ⟨hx, hb, hml, hown, hts⟩ (ctX4_placeOf l G h0 ad s_thrown s_textSize s_place s_people s_readPeople s_acts s_seen s_seed o1.1 s_feedMany s_feedRow s_restMany s_restFirst o1.2.2 a1 o3 hc4) (cwV 1 hts gX4_lateness_X4_placeOf rfl rfl rfl (by decide +kernel) ⟨Nat.le_of_ble_eq_true rfl, Nat.le_of_ble_eq_true rfl⟩) (preR_V (q0 := 0) (ci := 4) (hP.sub (ws' := [(h0, moE ad s_thrown s_textSize s_place s_people s_readPeople s_acts s_seen s_seed o1.1 s_feedMany s_feedRow s_restMany s_restFirst), (ad 20, aI G 7 o1.2.2)]) [0, 3] rfl) hK rfl rfl) rfl rfl hl.1 rfl (lv_room (Nat.le_of_ble_eq_true rfl)) dX4_lateness_6 ⟨Nat.zero_le _, Nat.zero_le _⟩) hS hP (fun H locs hP hS => ?_)
  refine lv_bipush (v := (-9)) hx hb dX4_lateness_9 (by decide) ?_
  refine lv_icmp_ne (tgt := 19) hx hb dX4_lateness_11 (by decide) (fun c5 => ?_) (fun c5 => ?_)
  · have hf := iteF hf c5
    refine lv_aload_n hx hb dX4_lateness_19 rfl (lv_at hl 0 rfl) ?_
    refine lv_iload_n hx hb dX4_lateness_20 rfl (lv_at hl 1 rfl) ?_
    obtain ⟨o6, hc7, hf⟩ := bindS hf
    refine ro_i (va_runV (C := RX4) (As := [.int a1]) (rest := []) ⟨hx, hb, hml, hown, hts⟩ (ctX4_placeOf l G h0 ad s_thrown s_textSize s_place s_people s_readPeople s_acts s_seen s_seed o1.1 s_feedMany s_feedRow s_restMany s_restFirst o1.2.2 a1 o6 hc7) (cwV 1 hts gX4_lateness_X4_placeOf rfl rfl rfl (by decide +kernel) ⟨Nat.le_of_ble_eq_true rfl, Nat.le_of_ble_eq_true rfl⟩) (preR_V (q0 := 0) (ci := 4) (hP.sub (ws' := [(h0, moE ad s_thrown s_textSize s_place s_people s_readPeople s_acts s_seen s_seed o1.1 s_feedMany s_feedRow s_restMany s_restFirst), (ad 20, aI G 7 o1.2.2)]) [0, 3] rfl) hK rfl rfl) rfl rfl hl.1 rfl (lv_room (Nat.le_of_ble_eq_true rfl)) dX4_lateness_21 ⟨Nat.zero_le _, Nat.zero_le _⟩) hS hP (fun H locs hP hS => ?_)
    have hv := Option.some.inj hf
    exact hret _ _ _ _ _ (by rw [← hv]; exact hP) hS (by rw [← hv]) dX4_lateness_24
  · have hf := iteT hf c5
    refine lv_bipush (v := 9) hx hb dX4_lateness_14 (by decide) ?_
    refine lv_goto (tgt := 24) hx hb dX4_lateness_16 (by decide) ?_
    have hv := Option.some.inj hf
    exact hret _ _ _ _ _ (by rw [← hv]; exact hP) hS (by rw [← hv]) dX4_lateness_24
def fX4_claim_81 (k41 : Int32 → Int32 → Int32 → Int32 → Int32 → (Nat → Int32) → (Nat → Int32) → Option (Int32 × Int32 × Int32 × (Nat → Int32) × (Nat → Int32))) (x3 : Int32) (x4 : Int32) (x5 : Int32) (y0 : Int32) (s_thrown : Int32) (s_rowSize : Int32) (q_trial : Nat → Int32) (q_row : Nat → Int32) : Option (Int32 × Int32 × Int32 × (Nat → Int32) × (Nat → Int32)) :=
  (if x5 ≤ x3 then (k41 y0 x3 (x4 + 1) s_thrown s_rowSize q_trial q_row) else (k41 y0 x5 (x4 + 1) s_thrown s_rowSize q_trial q_row))
def fX4_claim_41 (s_people : Int32) (q_kind : Nat → Int32) (q_page : Nat → Int32) (a1 : Int32) : Nat → Int32 → Int32 → Int32 → Int32 → Int32 → (Nat → Int32) → (Nat → Int32) → Option (Int32 × Int32 × Int32 × (Nat → Int32) × (Nat → Int32))
  | 0, _, _, _, _, _, _, _ => none
  | n + 1, x2, x3, x4, s_thrown, s_rowSize, q_trial, q_row => (if 10 ≤ x4 then some (x2, s_thrown, s_rowSize, q_trial, q_row) else (fX4_begin q_page q_trial).bind fun o9 => (ck (0 + a1) 17 ((fX4_lateness s_people s_rowSize q_kind (upd o9 (Int32.toNatClampNeg (0 + a1)) x4) q_row a1).bind fun o12 => ((if o12.1 ≤ x3 then (fX4_claim_81 (fun x2 x3 x4 s_thrown s_rowSize q_trial q_row => fX4_claim_41 s_people q_kind q_page a1 n x2 x3 x4 s_thrown s_rowSize q_trial q_row) x3 x4 o12.1 x2 s_thrown o12.2.1 o12.2.2.1 o12.2.2.2) else (fX4_claim_81 (fun x2 x3 x4 s_thrown s_rowSize q_trial q_row => fX4_claim_41 s_people q_kind q_page a1 n x2 x3 x4 s_thrown s_rowSize q_trial q_row) x3 x4 o12.1 x4 s_thrown o12.2.1 o12.2.2.1 o12.2.2.2))))))
def fX4_claim (s_thrown : Int32) (s_people : Int32) (s_rowSize : Int32) (q_kind : Nat → Int32) (q_page : Nat → Int32) (q_trial : Nat → Int32) (q_row : Nat → Int32) (a1 : Int32) : Option (Int32 × Int32 × Int32 × (Nat → Int32) × (Nat → Int32)) :=
  (fX4_noPerson s_people a1).bind fun o1 => ((if o1 = 0 then ck 14 17 ((fX4_has (q_page (Int32.toNatClampNeg 14)) a1).bind fun o5 => ((if o5 = 0 then some ((-3), 0, s_rowSize, q_trial, q_row) else (fX4_claim_41 s_people q_kind q_page a1 12 (-9) (-9) 0 0 s_rowSize q_trial q_row)))) else some ((-1), 0, s_rowSize, q_trial, q_row)))
set_option maxHeartbeats 4000000 in
set_option maxRecDepth 100000 in
theorem ctX4_claim (l : Launch) (G : GG) (h0 : Nat) (ad : Nat → Nat) (s_thrown : Int32) (s_textSize : Int32) (s_place : Int32) (s_people : Int32) (s_readPeople : Int32) (s_acts : Int32) (s_seen : Int32) (s_seed : Int64) (s_rowSize : Int32) (s_feedMany : Int32) (s_feedRow : Int32) (s_restMany : Int32) (s_restFirst : Int32) (q_kind : Nat → Int32) (q_page : Nat → Int32) (q_trial : Nat → Int32) (q_row : Nat → Int32) (a1 : Int32) (out : Int32 × Int32 × Int32 × (Nat → Int32) × (Nat → Int32)) (hf : fX4_claim s_thrown s_people s_rowSize q_kind q_page q_trial q_row a1 = some out) : Met l yX4_claim wsX4_claim ({ frames := 5, cells := 0, slots := 0, locals := 111 }) (PcW G [.ref h0, .int a1] [(h0, moE ad s_thrown s_textSize s_place s_people s_readPeople s_acts s_seen s_seed s_rowSize s_feedMany s_feedRow s_restMany s_restFirst), (ad 5, aI G 7 q_kind), (ad 10, aI G 17 q_page), (ad 11, aI G 17 q_trial), (ad 20, aI G 7 q_row)]) (QiW G [(h0, moE ad s_thrown s_textSize s_place s_people s_readPeople s_acts s_seen s_seed s_rowSize s_feedMany s_feedRow s_restMany s_restFirst), (ad 5, aI G 7 q_kind), (ad 10, aI G 17 q_page), (ad 11, aI G 17 q_trial), (ad 20, aI G 7 q_row)] [(h0, moE ad out.2.1 s_textSize s_place s_people s_readPeople s_acts s_seen s_seed out.2.2.1 s_feedMany s_feedRow s_restMany s_restFirst), (ad 5, aI G 7 q_kind), (ad 10, aI G 17 q_page), (ad 11, aI G 17 out.2.2.2.1), (ad 20, aI G 7 out.2.2.2.2)] out.1) 0 0 (inA [(h0, moE ad s_thrown s_textSize s_place s_people s_readPeople s_acts s_seen s_seed s_rowSize s_feedMany s_feedRow s_restMany s_restFirst), (ad 5, aI G 7 q_kind), (ad 10, aI G 17 q_page), (ad 11, aI G 17 q_trial), (ad 20, aI G 7 q_row)]) := by
  refine mk_Wi (cc := cX4_claim) (maxL := 6) (by decide) rfl (Nat.le_of_ble_eq_true rfl) ?_
  intro p e s m args below meth c Q ls A S hP hK hD hl hret
  obtain ⟨hx, hb, hml, hown, hts⟩ := S
  have hown : s.vm.findClass RX4 = some m.cls := hown
  have kl_60 := hts (.fieldLink RX4 60 "ArrestOrderModel" "thrown" "I") (by decide +kernel)
  have hi_X4 : ∀ w ∈ wsX40, w ∈ wsX4_claim := fun _ h => List.mem_cons_of_mem _ (List.mem_append_right _ h)
  have kl_25 := hts (.fieldLink RX4 25 "ArrestOrderModel" "page" "[I") (by decide +kernel)
  have kl_28 := hts (.fieldLink RX4 28 "ArrestOrderModel" "trial" "[I") (by decide +kernel)
  have hS : va_S A s.heap s.heap [] := va_S.rf
  have hl : lv_has ls 6 [(0, .ref h0), (1, .int a1)] := hl
  have hC41 : ∀ (n : Nat) (x2 : Int32) (x3 : Int32) (x4 : Int32) (s_thrown : Int32) (s_rowSize : Int32) (q_trial : Nat → Int32) (q_row : Nat → Int32) (H : Heap) (locs : List Loc) (ls : Array Slot), va_P (gD G) vwCl [(h0, moE ad s_thrown s_textSize s_place s_people s_readPeople s_acts s_seen s_seed s_rowSize s_feedMany s_feedRow s_restMany s_restFirst), (ad 5, aI G 7 q_kind), (ad 10, aI G 17 q_page), (ad 11, aI G 17 q_trial), (ad 20, aI G 7 q_row)] H → va_D A [(h0, moE ad s_thrown s_textSize s_place s_people s_readPeople s_acts s_seen s_seed s_rowSize s_feedMany s_feedRow s_restMany s_restFirst), (ad 5, aI G 7 q_kind), (ad 10, aI G 17 q_page), (ad 11, aI G 17 q_trial), (ad 20, aI G 7 q_row)] → va_S A s.heap H locs → lv_has ls 6 [(0, .ref h0), (1, .int a1), (2, .int x2), (3, .int x3), (4, .int x4)] → fX4_claim_41 s_people q_kind q_page a1 n x2 x3 x4 s_thrown s_rowSize q_trial q_row = some out → W p l e ({ frames := 5, cells := 0, slots := 0, locals := 111 }) s m args below meth c H locs 0 0 Q (F0 m 41 ls []) := by
    intro n41
    induction n41 with
    | zero => intro x2 x3 x4 s_thrown s_rowSize q_trial q_row H locs ls hP hD hS hl hf; exact absurd (show none = some out from hf) (fun z => by cases z)
    | succ n41 ih41 =>
      have hC81 : ∀ (x3 : Int32) (x4 : Int32) (x5 : Int32) (y0 : Int32) (s_thrown : Int32) (s_rowSize : Int32) (q_trial : Nat → Int32) (q_row : Nat → Int32) (H : Heap) (locs : List Loc) (ls : Array Slot), va_P (gD G) vwCl [(h0, moE ad s_thrown s_textSize s_place s_people s_readPeople s_acts s_seen s_seed s_rowSize s_feedMany s_feedRow s_restMany s_restFirst), (ad 5, aI G 7 q_kind), (ad 10, aI G 17 q_page), (ad 11, aI G 17 q_trial), (ad 20, aI G 7 q_row)] H → va_D A [(h0, moE ad s_thrown s_textSize s_place s_people s_readPeople s_acts s_seen s_seed s_rowSize s_feedMany s_feedRow s_restMany s_restFirst), (ad 5, aI G 7 q_kind), (ad 10, aI G 17 q_page), (ad 11, aI G 17 q_trial), (ad 20, aI G 7 q_row)] → va_S A s.heap H locs → lv_has ls 6 [(0, .ref h0), (1, .int a1), (3, .int x3), (4, .int x4), (5, .int x5)] → fX4_claim_81 (fun x2 x3 x4 s_thrown s_rowSize q_trial q_row => fX4_claim_41 s_people q_kind q_page a1 n41 x2 x3 x4 s_thrown s_rowSize q_trial q_row) x3 x4 x5 y0 s_thrown s_rowSize q_trial q_row = some out → W p l e ({ frames := 5, cells := 0, slots := 0, locals := 111 }) s m args below meth c H locs 0 0 Q (F0 m 81 ls [.int y0]) := by
        intro x3 x4 x5 y0 s_thrown s_rowSize q_trial q_row H locs ls hP hD hS hl hf
        refine lv_istore_n (lv' := [(2, .int y0), (0, .ref h0), (1, .int a1), (3, .int x3), (4, .int x4), (5, .int x5)]) hx hb dX4_claim_81 rfl hl (by decide) rfl (fun ls hl => ?_)
        refine lv_iload hx hb dX4_claim_82 (lv_at hl 5 rfl) ?_
        refine lv_iload_n hx hb dX4_claim_84 rfl (lv_at hl 3 rfl) ?_
        refine lv_icmp_le (tgt := 93) hx hb dX4_claim_85 (by decide) (fun c15 => ?_) (fun c15 => ?_)
        · have hf := iteT hf c15
          refine lv_iload_n hx hb dX4_claim_93 rfl (lv_at hl 3 rfl) ?_
          refine lv_istore_n (lv' := [(3, .int x3), (2, .int y0), (0, .ref h0), (1, .int a1), (4, .int x4), (5, .int x5)]) hx hb dX4_claim_94 rfl hl (by decide) rfl (fun ls hl => ?_)
          refine lv_iinc (v := (x4 + 1)) (lv' := [(4, .int (x4 + 1)), (3, .int x3), (2, .int y0), (0, .ref h0), (1, .int a1), (5, .int x5)]) hx hb dX4_claim_95 hl (k := 4) rfl rfl (by decide) rfl (fun ls hl => ?_)
          refine lv_goto (tgt := 41) hx hb dX4_claim_98 (by decide) ?_
          exact ih41 y0 x3 (x4 + 1) s_thrown s_rowSize q_trial q_row _ _ _ hP hD hS (lv_sub hl [3, 4, 2, 1, 0] rfl) hf
        · have hf := iteF hf c15
          refine lv_iload hx hb dX4_claim_88 (lv_at hl 5 rfl) ?_
          refine lv_goto (tgt := 94) hx hb dX4_claim_90 (by decide) ?_
          refine lv_istore_n (lv' := [(3, .int x5), (2, .int y0), (0, .ref h0), (1, .int a1), (4, .int x4), (5, .int x5)]) hx hb dX4_claim_94 rfl hl (by decide) rfl (fun ls hl => ?_)
          refine lv_iinc (v := (x4 + 1)) (lv' := [(4, .int (x4 + 1)), (3, .int x5), (2, .int y0), (0, .ref h0), (1, .int a1), (5, .int x5)]) hx hb dX4_claim_95 hl (k := 4) rfl rfl (by decide) rfl (fun ls hl => ?_)
          refine lv_goto (tgt := 41) hx hb dX4_claim_98 (by decide) ?_
          exact ih41 y0 x5 (x4 + 1) s_thrown s_rowSize q_trial q_row _ _ _ hP hD hS (lv_sub hl [3, 4, 2, 1, 0] rfl) hf
      intro x2 x3 x4 s_thrown s_rowSize q_trial q_row H locs ls hP hD hS hl hf
      refine lv_iload hx hb dX4_claim_41 (lv_at hl 4 rfl) ?_
      refine lv_bipush (v := 10) hx hb dX4_claim_43 (by decide) ?_
      refine lv_icmp_ge (tgt := 101) hx hb dX4_claim_45 (by decide) (fun c8 => ?_) (fun c8 => ?_)
      · have hf := iteT hf c8
        refine lv_iload_n hx hb dX4_claim_101 rfl (lv_at hl 2 rfl) ?_
        have hv := Option.some.inj hf
        exact hret _ _ _ _ _ (by rw [← hv]; exact hP) hS (by rw [← hv]) dX4_claim_102
      · have hf := iteF hf c8
        refine lv_aload_n hx hb dX4_claim_48 rfl (lv_at hl 0 rfl) ?_
        obtain ⟨o9, hc10, hf⟩ := bindS hf
        refine rw_v (va_runV (C := RX4) (As := []) (rest := []) ⟨hx, hb, hml, hown, hts⟩ (ctX4_begin l G h0 ad s_thrown s_textSize s_place s_people s_readPeople s_acts s_seen s_seed s_rowSize s_feedMany s_feedRow s_restMany s_restFirst q_page q_trial o9 hc10) (cwV 0 hts gX4_claim_X4_begin rfl rfl rfl (by decide +kernel) ⟨Nat.le_of_ble_eq_true rfl, Nat.le_of_ble_eq_true rfl⟩) (preW_V (q0 := 0) (ci := 4) (hP.sub (ws' := [(h0, moE ad s_thrown s_textSize s_place s_people s_readPeople s_acts s_seen s_seed s_rowSize s_feedMany s_feedRow s_restMany s_restFirst), (ad 10, aI G 17 q_page), (ad 11, aI G 17 q_trial)]) [0, 2, 3] rfl) (hD.sub (ws' := [(h0, moE ad s_thrown s_textSize s_place s_people s_readPeople s_acts s_seen s_seed s_rowSize s_feedMany s_feedRow s_restMany s_restFirst), (ad 10, aI G 17 q_page), (ad 11, aI G 17 q_trial)]) [0, 2, 3] (by decide) rfl) hK rfl rfl) rfl rfl hl.1 rfl (lv_room (Nat.le_of_ble_eq_true rfl)) dX4_claim_49 ⟨Nat.zero_le _, Nat.zero_le _⟩) hS hP hD [0, 2, 3] rfl rfl rfl (fun H locs hP hD hS => ?_)
        have hP : va_P (gD G) vwCl [(h0, moE ad s_thrown s_textSize s_place s_people s_readPeople s_acts s_seen s_seed s_rowSize s_feedMany s_feedRow s_restMany s_restFirst), (ad 5, aI G 7 q_kind), (ad 10, aI G 17 q_page), (ad 11, aI G 17 o9), (ad 20, aI G 7 q_row)] H := hP
        have hD : va_D A [(h0, moE ad s_thrown s_textSize s_place s_people s_readPeople s_acts s_seen s_seed s_rowSize s_feedMany s_feedRow s_restMany s_restFirst), (ad 5, aI G 7 q_kind), (ad 10, aI G 17 q_page), (ad 11, aI G 17 o9), (ad 20, aI G 7 q_row)] := hD
        refine lv_aload_n hx hb dX4_claim_52 rfl (lv_at hl 0 rfl) ?_
        refine va_get (D := gD G) (ci := 4) (v := .ref (ad 11)) (C := RX4) (T := TX4) (N := 29) hx hb hts hi_X4 hown hK.1 hP 0 rfl rfl 11 (by decide) kl_28 (fun _ h9 => h9) rfl dX4_claim_53 ?_
        refine lv_iconst (v := 0) hx hb dX4_claim_56 (by decide) ?_
        refine lv_iload_n hx hb dX4_claim_57 rfl (lv_at hl 1 rfl) ?_
        refine lv_iadd hx hb dX4_claim_58 ?_
        refine lv_iload hx hb dX4_claim_59 (lv_at hl 4 rfl) ?_
        obtain ⟨hi11, hf⟩ := ckS hf
        refine va_iast hx hb hK.1 hP hD hS 3 0 rfl rfl hi11 dX4_claim_61 (fun H locs hP hD hS => ?_)
        have hP : va_P (gD G) vwCl [(h0, moE ad s_thrown s_textSize s_place s_people s_readPeople s_acts s_seen s_seed s_rowSize s_feedMany s_feedRow s_restMany s_restFirst), (ad 5, aI G 7 q_kind), (ad 10, aI G 17 q_page), (ad 11, aI G 17 (upd o9 (Int32.toNatClampNeg (0 + a1)) x4)), (ad 20, aI G 7 q_row)] H := hP
        have hD : va_D A [(h0, moE ad s_thrown s_textSize s_place s_people s_readPeople s_acts s_seen s_seed s_rowSize s_feedMany s_feedRow s_restMany s_restFirst), (ad 5, aI G 7 q_kind), (ad 10, aI G 17 q_page), (ad 11, aI G 17 (upd o9 (Int32.toNatClampNeg (0 + a1)) x4)), (ad 20, aI G 7 q_row)] := hD
        refine lv_aload_n hx hb dX4_claim_62 rfl (lv_at hl 0 rfl) ?_
        refine lv_iload_n hx hb dX4_claim_63 rfl (lv_at hl 1 rfl) ?_
        obtain ⟨o12, hc13, hf⟩ := bindS hf
        refine rw_i (va_runV (C := RX4) (As := [.int a1]) (rest := []) ⟨hx, hb, hml, hown, hts⟩ (ctX4_lateness l G h0 ad s_thrown s_textSize s_place s_people s_readPeople s_acts s_seen s_seed s_rowSize s_feedMany s_feedRow s_restMany s_restFirst q_kind (upd o9 (Int32.toNatClampNeg (0 + a1)) x4) q_row a1 o12 hc13) (cwV 1 hts gX4_claim_X4_lateness rfl rfl rfl (by decide +kernel) ⟨Nat.le_of_ble_eq_true rfl, Nat.le_of_ble_eq_true rfl⟩) (preW_V (q0 := 0) (ci := 4) (hP.sub (ws' := [(h0, moE ad s_thrown s_textSize s_place s_people s_readPeople s_acts s_seen s_seed s_rowSize s_feedMany s_feedRow s_restMany s_restFirst), (ad 5, aI G 7 q_kind), (ad 11, aI G 17 (upd o9 (Int32.toNatClampNeg (0 + a1)) x4)), (ad 20, aI G 7 q_row)]) [0, 1, 3, 4] rfl) (hD.sub (ws' := [(h0, moE ad s_thrown s_textSize s_place s_people s_readPeople s_acts s_seen s_seed s_rowSize s_feedMany s_feedRow s_restMany s_restFirst), (ad 5, aI G 7 q_kind), (ad 11, aI G 17 (upd o9 (Int32.toNatClampNeg (0 + a1)) x4)), (ad 20, aI G 7 q_row)]) [0, 1, 3, 4] (by decide) rfl) hK rfl rfl) rfl rfl hl.1 rfl (lv_room (Nat.le_of_ble_eq_true rfl)) dX4_claim_64 ⟨Nat.zero_le _, Nat.zero_le _⟩) hS hP hD [0, 1, 3, 4] rfl rfl rfl (fun H locs hP hD hS => ?_)
        have hP : va_P (gD G) vwCl [(h0, moE ad s_thrown s_textSize s_place s_people s_readPeople s_acts s_seen s_seed o12.2.1 s_feedMany s_feedRow s_restMany s_restFirst), (ad 5, aI G 7 q_kind), (ad 10, aI G 17 q_page), (ad 11, aI G 17 o12.2.2.1), (ad 20, aI G 7 o12.2.2.2)] H := hP
        have hD : va_D A [(h0, moE ad s_thrown s_textSize s_place s_people s_readPeople s_acts s_seen s_seed o12.2.1 s_feedMany s_feedRow s_restMany s_restFirst), (ad 5, aI G 7 q_kind), (ad 10, aI G 17 q_page), (ad 11, aI G 17 o12.2.2.1), (ad 20, aI G 7 o12.2.2.2)] := hD
        refine lv_istore (lv' := [(5, .int o12.1), (0, .ref h0), (1, .int a1), (2, .int x2), (3, .int x3), (4, .int x4)]) hx hb dX4_claim_67 hl (by decide) rfl (fun ls hl => ?_)
        refine lv_iload hx hb dX4_claim_69 (lv_at hl 0 rfl) ?_
        refine lv_iload_n hx hb dX4_claim_71 rfl (lv_at hl 4 rfl) ?_
        refine lv_icmp_le (tgt := 80) hx hb dX4_claim_72 (by decide) (fun c14 => ?_) (fun c14 => ?_)
        · have hf := iteT hf c14
          refine lv_iload_n hx hb dX4_claim_80 rfl (lv_at hl 3 rfl) ?_
          exact hC81 x3 x4 o12.1 x2 s_thrown o12.2.1 o12.2.2.1 o12.2.2.2 _ _ _ hP hD hS (lv_sub hl [1, 2, 4, 5, 0] rfl) hf
        · have hf := iteF hf c14
          refine lv_iload hx hb dX4_claim_75 (lv_at hl 5 rfl) ?_
          refine lv_goto (tgt := 81) hx hb dX4_claim_77 (by decide) ?_
          exact hC81 x3 x4 o12.1 x4 s_thrown o12.2.1 o12.2.2.1 o12.2.2.2 _ _ _ hP hD hS (lv_sub hl [1, 2, 4, 5, 0] rfl) hf
  refine lv_aload_n hx hb dX4_claim_0 rfl (lv_at hl 0 rfl) ?_
  refine lv_iconst (v := 0) hx hb dX4_claim_1 (by decide) ?_
  refine va_put (D := gD G) (ci := 4) (v := .int 0) (ty := .int) (C := RX4) (T := TX4) (N := 29) hx hb hts hi_X4 tyX4 tyX4_ok nmX4 hown hK.1 hP hD hS 0 rfl rfl 0 (by decide) kl_60 (fun _ h9 => h9) rfl (tyX4_ok 0 (by decide)) rfl rfl (Nat.le_of_ble_eq_true rfl) dX4_claim_2 (fun H locs hP hD hS => ?_)
  have hP : va_P (gD G) vwCl [(h0, moE ad 0 s_textSize s_place s_people s_readPeople s_acts s_seen s_seed s_rowSize s_feedMany s_feedRow s_restMany s_restFirst), (ad 5, aI G 7 q_kind), (ad 10, aI G 17 q_page), (ad 11, aI G 17 q_trial), (ad 20, aI G 7 q_row)] H := hP
  have hD : va_D A [(h0, moE ad 0 s_textSize s_place s_people s_readPeople s_acts s_seen s_seed s_rowSize s_feedMany s_feedRow s_restMany s_restFirst), (ad 5, aI G 7 q_kind), (ad 10, aI G 17 q_page), (ad 11, aI G 17 q_trial), (ad 20, aI G 7 q_row)] := hD
  refine lv_aload_n hx hb dX4_claim_5 rfl (lv_at hl 0 rfl) ?_
  refine lv_iload_n hx hb dX4_claim_6 rfl (lv_at hl 1 rfl) ?_
  obtain ⟨o1, hc2, hf⟩ := bindS hf
  refine ro_i (va_runV (C := RX4) (As := [.int a1]) (rest := []) ⟨hx, hb, hml, hown, hts⟩ (ctX4_noPerson l G h0 ad 0 s_textSize s_place s_people s_readPeople s_acts s_seen s_seed s_rowSize s_feedMany s_feedRow s_restMany s_restFirst a1 o1 hc2) (cwV 1 hts gX4_claim_X4_noPerson rfl rfl rfl (by decide +kernel) ⟨Nat.le_of_ble_eq_true rfl, Nat.le_of_ble_eq_true rfl⟩) (preR_V (q0 := 0) (ci := 4) (hP.sub (ws' := [(h0, moE ad 0 s_textSize s_place s_people s_readPeople s_acts s_seen s_seed s_rowSize s_feedMany s_feedRow s_restMany s_restFirst)]) [0] rfl) hK rfl rfl) rfl rfl hl.1 rfl (lv_room (Nat.le_of_ble_eq_true rfl)) dX4_claim_7 ⟨Nat.zero_le _, Nat.zero_le _⟩) hS hP (fun H locs hP hS => ?_)
  refine lv_if_eq (tgt := 15) hx hb dX4_claim_10 (by decide) (fun c3 => ?_) (fun c3 => ?_)
  · have hf := iteT hf c3
    refine lv_aload_n hx hb dX4_claim_15 rfl (lv_at hl 0 rfl) ?_
    refine va_get (D := gD G) (ci := 4) (v := .ref (ad 10)) (C := RX4) (T := TX4) (N := 29) hx hb hts hi_X4 hown hK.1 hP 0 rfl rfl 10 (by decide) kl_25 (fun _ h9 => h9) rfl dX4_claim_16 ?_
    refine lv_bipush (v := 14) hx hb dX4_claim_19 (by decide) ?_
    obtain ⟨hi4, hf⟩ := ckS hf
    refine va_iald hx hb hK.1 hP 2 0 rfl rfl hi4 dX4_claim_21 ?_
    refine lv_iload_n hx hb dX4_claim_22 rfl (lv_at hl 1 rfl) ?_
    obtain ⟨o5, hc6, hf⟩ := bindS hf
    refine ro_i (va_runS (As := [.int (q_page (Int32.toNatClampNeg 14)), .int a1]) (rest := []) ⟨hx, hb, hml, hown, hts⟩ (ctX4_has l G (q_page (Int32.toNatClampNeg 14)) a1 o5 hc6) (va_cwS 2 hts gX4_claim_X4_has rfl rfl rfl (by decide +kernel) ⟨Nat.le_of_ble_eq_true rfl, Nat.le_of_ble_eq_true rfl⟩) (preR_S (hP.sub (ws' := []) [] rfl) hK) rfl rfl hl.1 rfl (lv_room (Nat.le_of_ble_eq_true rfl)) dX4_claim_23 ⟨Nat.zero_le _, Nat.zero_le _⟩) hS hP (fun H locs hP hS => ?_)
    refine lv_if_ne (tgt := 32) hx hb dX4_claim_26 (by decide) (fun c7 => ?_) (fun c7 => ?_)
    · have hf := iteF hf c7
      refine lv_bipush (v := (-9)) hx hb dX4_claim_32 (by decide) ?_
      refine lv_istore_n (lv' := [(2, .int (-9)), (0, .ref h0), (1, .int a1)]) hx hb dX4_claim_34 rfl hl (by decide) rfl (fun ls hl => ?_)
      refine lv_bipush (v := (-9)) hx hb dX4_claim_35 (by decide) ?_
      refine lv_istore_n (lv' := [(3, .int (-9)), (2, .int (-9)), (0, .ref h0), (1, .int a1)]) hx hb dX4_claim_37 rfl hl (by decide) rfl (fun ls hl => ?_)
      refine lv_iconst (v := 0) hx hb dX4_claim_38 (by decide) ?_
      refine lv_istore (lv' := [(4, .int 0), (3, .int (-9)), (2, .int (-9)), (0, .ref h0), (1, .int a1)]) hx hb dX4_claim_39 hl (by decide) rfl (fun ls hl => ?_)
      exact hC41 12 (-9) (-9) 0 0 s_rowSize q_trial q_row _ _ _ hP hD hS (lv_sub hl [3, 4, 2, 1, 0] rfl) hf
    · have hf := iteT hf c7
      refine lv_bipush (v := (-3)) hx hb dX4_claim_29 (by decide) ?_
      have hv := Option.some.inj hf
      exact hret _ _ _ _ _ (by rw [← hv]; exact hP) hS (by rw [← hv]) dX4_claim_31
  · have hf := iteF hf c3
    refine lv_iconst (v := (-1)) hx hb dX4_claim_13 (by decide) ?_
    have hv := Option.some.inj hf
    exact hret _ _ _ _ _ (by rw [← hv]; exact hP) hS (by rw [← hv]) dX4_claim_14
