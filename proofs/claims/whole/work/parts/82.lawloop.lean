/-! the law's loop and its start -/
set_option maxHeartbeats 8000000 in
set_option maxRecDepth 100000 in
theorem law_loop {p : Program} {l : Launch} {e : Env} {s : State} {m : MethodId} {below : List Frame} {meth : Method} {c : Code} {b L : Nat} {xs : Nat → Int32} {G : GG} {hX : Nat} {aX : AX} {hM : Nat} {aM : Nat → Nat} (hL : L ≤ 256) (C0 : lw_At p s m meth c b L xs) (hK : KK G s) :
    ∀ (n i : Nat) (S : XS) (T : MS), i ≤ L → L < i + n → Rel S T → AtW p l e s m below meth c b G hX aX hM aM S T i 18 := by
  obtain ⟨hx, hb, hr, hml, hown, hts0, hX0, hbl, hlocks, hgv⟩ := id C0
  have hb : c.code = cL_law := hb
  have hbA : ¬ (fun q : Nat => s.heap.size ≤ q) b := Nat.not_le.mpr hbl
  intro n
  induction n with
  | zero => intro i S T h1 h2; exact absurd h2 (by omega)
  | succ n ih =>
    intro i S T hi hin hR H locs ls hP hD hS hl
    refine lv_iload_n hx hb dL_law_18 rfl (lv_at hl 3 rfl) ?_
    refine lv_aload_n hx hb dL_law_19 rfl (lv_at hl 0 rfl) ?_
    refine va_slen hx hb hX0 hbl hbA hS dL_law_20 ?_
    refine lv_iconst (v := 4) hx hb dL_law_21 (by decide) ?_
    refine lv_isub hx hb dL_law_22 ?_
    have hd : (Int32.ofNat L - 4).toInt = (L : Int) - 4 := pk_sub_toInt (a := L) (b := 4) (by omega) (by decide)
    have hni : (nI i).toInt = (i : Int) := nI_toInt (by omega)
    refine lv_icmp_gt (tgt := 910) hx hb dL_law_23 (by decide) (fun cg => ?_) (fun cg => ?_)
    · refine lv_iconst (v := 1) hx hb dL_law_910 (by decide) ?_
      refine va_forget (fun q hq => hS.2.2 q hq) ?_
      refine W.widen (k := 600000) (n := 7302250) (Nat.le_of_ble_eq_true rfl) (Nat.le_of_ble_eq_true rfl) ?_
      exact lw_ret hx hb hr hlocks dL_law_911
    · have hi4 : i + 4 ≤ L := by
        rcases Nat.lt_or_ge L (i + 4) with q | q
        · exact absurd (by rw [fa_lt, hd, hni]; omega) cg
        · exact q
      have v0 : vp_in (nI i) L := vp_in_nI (by omega) (by omega)
      have nx : ∀ (S' : XS) (T' : MS), Rel S' T' → AtW p l e s m below meth c b G hX aX hM aM S' T' i 904 := by
        intro S' T' hR' H locs ls hP hD hS hl
        refine lv_iinc (v := nI i + 4) (lv' := [(3, .int (nI i + 4)), (0, .ref b), (1, .ref hX), (2, .ref hM)]) hx hb dL_law_904 hl (k := 3) rfl rfl (by decide) rfl (fun ls hl => ?_)
        refine lv_goto (tgt := 18) hx hb dL_law_907 (by decide) ?_
        rw [show nI i + 4 = nI (i + 4) from nI_add i 4] at hl
        exact ih (i + 4) S' T' hi4 (by omega) hR' H locs ls hP hD hS (lv_sub hl [1, 2, 3, 0] rfl)
      refine lv_aload_n hx hb dL_law_26 rfl (lv_at hl 0 rfl) ?_
      refine lv_iload_n hx hb dL_law_27 rfl (lv_at hl 3 rfl) ?_
      refine va_sld hx hb hX0 hbl hbA hS v0 dL_law_28 ?_
      refine lv_bipush (v := 31) hx hb dL_law_29 (by decide) ?_
      refine lv_iand hx hb dL_law_31 ?_
      obtain ⟨j, hj, ej⟩ := pk_andE (xs (Int32.toNatClampNeg (nI i))) (m := 31) 5 (by decide)
      rw [ej]
      have hj : j < 32 := hj
      rcases (show j = 0 ∨ j = 1 ∨ j = 2 ∨ j = 3 ∨ j = 4 ∨ j = 5 ∨ j = 6 ∨ j = 7 ∨ j = 8 ∨ j = 9 ∨ j = 10 ∨ j = 11 ∨ j = 12 ∨ j = 13 ∨ j = 14 ∨ j = 15 ∨ j = 16 ∨ j = 17 ∨ j = 18 ∨ j = 19 ∨ j = 20 ∨ j = 21 ∨ j = 22 ∨ j = 23 ∨ j = 24 ∨ j = 25 ∨ j = 26 ∨ j = 27 ∨ j = 28 ∨ j = 29 ∨ j = 30 ∨ j = 31 by omega) with rfl | rfl | rfl | rfl | rfl | rfl | rfl | rfl | rfl | rfl | rfl | rfl | rfl | rfl | rfl | rfl | rfl | rfl | rfl | rfl | rfl | rfl | rfl | rfl | rfl | rfl | rfl | rfl | rfl | rfl | rfl | rfl
      · refine lv_tableIn (off := 132) (tgt := 164) hx hb dL_law_32 (by decide) (by decide) (by decide +kernel) (by decide) ?_
        exact law_0 hL C0 hK hi4 hR nx H locs ls hP hD hS hl
      · refine lv_tableIn (off := 155) (tgt := 187) hx hb dL_law_32 (by decide) (by decide) (by decide +kernel) (by decide) ?_
        exact law_1 hL C0 hK hi4 hR nx H locs ls hP hD hS hl
      · refine lv_tableIn (off := 168) (tgt := 200) hx hb dL_law_32 (by decide) (by decide) (by decide +kernel) (by decide) ?_
        exact law_2 hL C0 hK hi4 hR nx H locs ls hP hD hS hl
      · refine lv_tableIn (off := 181) (tgt := 213) hx hb dL_law_32 (by decide) (by decide) (by decide +kernel) (by decide) ?_
        exact law_3 hL C0 hK hi4 hR nx H locs ls hP hD hS hl
      · refine lv_tableIn (off := 194) (tgt := 226) hx hb dL_law_32 (by decide) (by decide) (by decide +kernel) (by decide) ?_
        exact law_4 hL C0 hK hi4 hR nx H locs ls hP hD hS hl
      · refine lv_tableIn (off := 217) (tgt := 249) hx hb dL_law_32 (by decide) (by decide) (by decide +kernel) (by decide) ?_
        exact law_5 hL C0 hK hi4 hR nx H locs ls hP hD hS hl
      · refine lv_tableIn (off := 250) (tgt := 282) hx hb dL_law_32 (by decide) (by decide) (by decide +kernel) (by decide) ?_
        exact law_6 hL C0 hK hi4 hR nx H locs ls hP hD hS hl
      · refine lv_tableIn (off := 273) (tgt := 305) hx hb dL_law_32 (by decide) (by decide) (by decide +kernel) (by decide) ?_
        exact law_7 hL C0 hK hi4 hR nx H locs ls hP hD hS hl
      · refine lv_tableIn (off := 296) (tgt := 328) hx hb dL_law_32 (by decide) (by decide) (by decide +kernel) (by decide) ?_
        exact law_8 hL C0 hK hi4 hR nx H locs ls hP hD hS hl
      · refine lv_tableIn (off := 319) (tgt := 351) hx hb dL_law_32 (by decide) (by decide) (by decide +kernel) (by decide) ?_
        exact law_9 hL C0 hK hi4 hR nx H locs ls hP hD hS hl
      · refine lv_tableIn (off := 352) (tgt := 384) hx hb dL_law_32 (by decide) (by decide) (by decide +kernel) (by decide) ?_
        exact law_10 hL C0 hK hi4 hR nx H locs ls hP hD hS hl
      · refine lv_tableIn (off := 385) (tgt := 417) hx hb dL_law_32 (by decide) (by decide) (by decide +kernel) (by decide) ?_
        exact law_11 hL C0 hK hi4 hR nx H locs ls hP hD hS hl
      · refine lv_tableIn (off := 398) (tgt := 430) hx hb dL_law_32 (by decide) (by decide) (by decide +kernel) (by decide) ?_
        exact law_12 hL C0 hK hi4 hR nx H locs ls hP hD hS hl
      · refine lv_tableIn (off := 411) (tgt := 443) hx hb dL_law_32 (by decide) (by decide) (by decide +kernel) (by decide) ?_
        exact law_13 hL C0 hK hi4 hR nx H locs ls hP hD hS hl
      · refine lv_tableIn (off := 424) (tgt := 456) hx hb dL_law_32 (by decide) (by decide) (by decide +kernel) (by decide) ?_
        exact law_14 hL C0 hK hi4 hR nx H locs ls hP hD hS hl
      · refine lv_tableIn (off := 447) (tgt := 479) hx hb dL_law_32 (by decide) (by decide) (by decide +kernel) (by decide) ?_
        exact law_15 hL C0 hK hi4 hR nx H locs ls hP hD hS hl
      · refine lv_tableIn (off := 460) (tgt := 492) hx hb dL_law_32 (by decide) (by decide) (by decide +kernel) (by decide) ?_
        exact law_16 hL C0 hK hi4 hR nx H locs ls hP hD hS hl
      · refine lv_tableIn (off := 493) (tgt := 525) hx hb dL_law_32 (by decide) (by decide) (by decide +kernel) (by decide) ?_
        exact law_17 hL C0 hK hi4 hR nx H locs ls hP hD hS hl
      · refine lv_tableIn (off := 516) (tgt := 548) hx hb dL_law_32 (by decide) (by decide) (by decide +kernel) (by decide) ?_
        exact law_18 hL C0 hK hi4 hR nx H locs ls hP hD hS hl
      · refine lv_tableIn (off := 539) (tgt := 571) hx hb dL_law_32 (by decide) (by decide) (by decide +kernel) (by decide) ?_
        exact law_19 hL C0 hK hi4 hR nx H locs ls hP hD hS hl
      · refine lv_tableIn (off := 588) (tgt := 620) hx hb dL_law_32 (by decide) (by decide) (by decide +kernel) (by decide) ?_
        exact law_20 hL C0 hK hi4 hR nx H locs ls hP hD hS hl
      · refine lv_tableIn (off := 621) (tgt := 653) hx hb dL_law_32 (by decide) (by decide) (by decide +kernel) (by decide) ?_
        exact law_21 hL C0 hK hi4 hR nx H locs ls hP hD hS hl
      · refine lv_tableIn (off := 634) (tgt := 666) hx hb dL_law_32 (by decide) (by decide) (by decide +kernel) (by decide) ?_
        exact law_22 hL C0 hK hi4 hR nx H locs ls hP hD hS hl
      · refine lv_tableIn (off := 657) (tgt := 689) hx hb dL_law_32 (by decide) (by decide) (by decide +kernel) (by decide) ?_
        exact law_23 hL C0 hK hi4 hR nx H locs ls hP hD hS hl
      · refine lv_tableIn (off := 700) (tgt := 732) hx hb dL_law_32 (by decide) (by decide) (by decide +kernel) (by decide) ?_
        exact law_24 hL C0 hK hi4 hR nx H locs ls hP hD hS hl
      · refine lv_tableIn (off := 749) (tgt := 781) hx hb dL_law_32 (by decide) (by decide) (by decide +kernel) (by decide) ?_
        exact law_25 hL C0 hK hi4 hR nx H locs ls hP hD hS hl
      · refine lv_tableIn (off := 803) (tgt := 835) hx hb dL_law_32 (by decide) (by decide) (by decide +kernel) (by decide) ?_
        exact law_26 hL C0 hK hi4 hR nx H locs ls hP hD hS hl
      · refine lv_tableIn (off := 826) (tgt := 858) hx hb dL_law_32 (by decide) (by decide) (by decide +kernel) (by decide) ?_
        exact law_27 hL C0 hK hi4 hR nx H locs ls hP hD hS hl
      · refine lv_tableIn (off := 849) (tgt := 881) hx hb dL_law_32 (by decide) (by decide) (by decide +kernel) (by decide) ?_
        exact law_28 hL C0 hK hi4 hR nx H locs ls hP hD hS hl
      · refine lv_tableOut (tgt := 904) hx hb dL_law_32 (by decide) (by decide) ?_
        exact nx S T hR H locs ls hP hD hS hl
      · refine lv_tableOut (tgt := 904) hx hb dL_law_32 (by decide) (by decide) ?_
        exact nx S T hR H locs ls hP hD hS hl
      · refine lv_tableOut (tgt := 904) hx hb dL_law_32 (by decide) (by decide) ?_
        exact nx S T hR H locs ls hP hD hS hl
