/-! the law, case by case -/
set_option maxHeartbeats 4000000 in
set_option maxRecDepth 100000 in
theorem law_24 {p : Program} {l : Launch} {e : Env} {s : State} {m : MethodId} {below : List Frame} {meth : Method} {c : Code} {b L : Nat} {xs : Nat → Int32} {G : GG} {hX : Nat} {aX : AX} {hM : Nat} {aM : Nat → Nat} {S : XS} {T : MS} {i : Nat} (hL : L ≤ 256) (C0 : lw_At p s m meth c b L xs) (hK : KK G s) (hi : i + 4 ≤ L) (hR : Rel S T)
    (hk : ∀ (S' : XS) (T' : MS), Rel S' T' → AtW p l e s m below meth c b G hX aX hM aM S' T' i 904) : AtW p l e s m below meth c b G hX aX hM aM S T i 732 := by
  intro H locs ls hP hD hS hl
  obtain ⟨hx, hb, hr, hml, hown, hts0, hX0, hbl, hlocks, hgv⟩ := C0
  have hown : s.vm.findClass RL = some m.cls := hown
  have hb : c.code = cL_law := hb
  have hts : ∀ w ∈ wsL_law, w.before #[Value.ref b] s = true := fun w h => hts0 w (wsL_law_in w h)
  have hbA : ¬ (fun q : Nat => s.heap.size ≤ q) b := Nat.not_le.mpr hbl
  have v1 : vp_in (nI i + 1) L := by rw [nI_1]; exact vp_in_nI (by omega) (by omega)
  have v2 : vp_in (nI i + 2) L := by rw [show nI i + 2 = nI (i + 2) from nI_add i 2]; exact vp_in_nI (by omega) (by omega)
  by_cases hz : (xs (Int32.toNatClampNeg (nI i + 2))) = 0
  · obtain ⟨r, S', T', gx, gm, hR'⟩ := op_toss ((xs (Int32.toNatClampNeg (nI i + 1)))) (0) hR
    refine lv_aload_n hx hb dL_law_732 rfl (lv_at hl 1 rfl) ?_
    refine lv_aload_n hx hb dL_law_733 rfl (lv_at hl 0 rfl) ?_
    refine lv_iload_n hx hb dL_law_734 rfl (lv_at hl 3 rfl) ?_
    refine lv_iconst (v := 1) hx hb dL_law_735 (by decide) ?_
    refine lv_iadd hx hb dL_law_736 ?_
    refine va_sld hx hb hX0 hbl hbA hS v1 dL_law_737 ?_
    refine lv_aload_n hx hb dL_law_738 rfl (lv_at hl 0 rfl) ?_
    refine lv_iload_n hx hb dL_law_739 rfl (lv_at hl 3 rfl) ?_
    refine lv_iconst (v := 2) hx hb dL_law_740 (by decide) ?_
    refine lv_iadd hx hb dL_law_741 ?_
    refine va_sld hx hb hX0 hbl hbA hS v2 dL_law_742 ?_
    refine lv_if_eq (tgt := 750) hx hb dL_law_743 (by decide) (fun _ => ?_) (fun cz => absurd hz cz)
    refine lv_iconst (v := 0) hx hb dL_law_750 (by decide) ?_
    refine call_iL (va_runV (C := RX3) (As := [.int (xs (Int32.toNatClampNeg (nI i + 1))), .int 0]) (rest := []) ⟨hx, hb, hml, hown, hts⟩ (cfX_toss l G hX aX S S' ((xs (Int32.toNatClampNeg (nI i + 1)))) (0) r gx) (cwV 2 hts gL_law_X3_toss rfl rfl rfl (by decide +kernel) ⟨Nat.le_of_ble_eq_true rfl, Nat.le_of_ble_eq_true rfl⟩) (preW_V (q0 := 0) (ci := 3) (P_L hP) (D_L hD) hK rfl rfl) rfl rfl hl.1 rfl (lv_room (Nat.le_of_ble_eq_true rfl)) dL_law_751 ⟨Nat.le_of_ble_eq_true rfl, Nat.le_of_ble_eq_true rfl⟩) hS hP hD addrX (fun H locs hP hD hS => ?_)
    refine lv_aload_n hx hb dL_law_754 rfl (lv_at hl 2 rfl) ?_
    refine lv_aload_n hx hb dL_law_755 rfl (lv_at hl 0 rfl) ?_
    refine lv_iload_n hx hb dL_law_756 rfl (lv_at hl 3 rfl) ?_
    refine lv_iconst (v := 1) hx hb dL_law_757 (by decide) ?_
    refine lv_iadd hx hb dL_law_758 ?_
    refine va_sld hx hb hX0 hbl hbA hS v1 dL_law_759 ?_
    refine lv_aload_n hx hb dL_law_760 rfl (lv_at hl 0 rfl) ?_
    refine lv_iload_n hx hb dL_law_761 rfl (lv_at hl 3 rfl) ?_
    refine lv_iconst (v := 2) hx hb dL_law_762 (by decide) ?_
    refine lv_iadd hx hb dL_law_763 ?_
    refine va_sld hx hb hX0 hbl hbA hS v2 dL_law_764 ?_
    refine lv_if_eq (tgt := 772) hx hb dL_law_765 (by decide) (fun _ => ?_) (fun cz => absurd hz cz)
    refine lv_iconst (v := 0) hx hb dL_law_772 (by decide) ?_
    refine call_iR (va_runV (C := RX4) (As := [.int (xs (Int32.toNatClampNeg (nI i + 1))), .int 0]) (rest := [.int r]) ⟨hx, hb, hml, hown, hts⟩ (cfM_toss l G hM aM T T' ((xs (Int32.toNatClampNeg (nI i + 1)))) (0) r gm) (cwV 2 hts gL_law_X4_toss rfl rfl rfl (by decide +kernel) ⟨Nat.le_of_ble_eq_true rfl, Nat.le_of_ble_eq_true rfl⟩) (preW_V (q0 := 0) (ci := 4) (P_R hP) (D_R hD) hK rfl rfl) rfl rfl hl.1 rfl (lv_room (Nat.le_of_ble_eq_true rfl)) dL_law_773 ⟨Nat.le_of_ble_eq_true rfl, Nat.le_of_ble_eq_true rfl⟩) hS hP hD addrM (fun H locs hP hD hS => ?_)
    refine lv_icmp_eq (tgt := 904) hx hb dL_law_776 (by decide) (fun _ => ?_) (fun cz => absurd rfl cz)
    exact hk S' T' hR' H locs ls hP hD hS hl
  · obtain ⟨r, S', T', gx, gm, hR'⟩ := op_toss ((xs (Int32.toNatClampNeg (nI i + 1)))) (1) hR
    refine lv_aload_n hx hb dL_law_732 rfl (lv_at hl 1 rfl) ?_
    refine lv_aload_n hx hb dL_law_733 rfl (lv_at hl 0 rfl) ?_
    refine lv_iload_n hx hb dL_law_734 rfl (lv_at hl 3 rfl) ?_
    refine lv_iconst (v := 1) hx hb dL_law_735 (by decide) ?_
    refine lv_iadd hx hb dL_law_736 ?_
    refine va_sld hx hb hX0 hbl hbA hS v1 dL_law_737 ?_
    refine lv_aload_n hx hb dL_law_738 rfl (lv_at hl 0 rfl) ?_
    refine lv_iload_n hx hb dL_law_739 rfl (lv_at hl 3 rfl) ?_
    refine lv_iconst (v := 2) hx hb dL_law_740 (by decide) ?_
    refine lv_iadd hx hb dL_law_741 ?_
    refine va_sld hx hb hX0 hbl hbA hS v2 dL_law_742 ?_
    refine lv_if_eq (tgt := 750) hx hb dL_law_743 (by decide) (fun cz => absurd cz hz) (fun _ => ?_)
    refine lv_iconst (v := 1) hx hb dL_law_746 (by decide) ?_
    refine lv_goto (tgt := 751) hx hb dL_law_747 (by decide) ?_
    refine call_iL (va_runV (C := RX3) (As := [.int (xs (Int32.toNatClampNeg (nI i + 1))), .int 1]) (rest := []) ⟨hx, hb, hml, hown, hts⟩ (cfX_toss l G hX aX S S' ((xs (Int32.toNatClampNeg (nI i + 1)))) (1) r gx) (cwV 2 hts gL_law_X3_toss rfl rfl rfl (by decide +kernel) ⟨Nat.le_of_ble_eq_true rfl, Nat.le_of_ble_eq_true rfl⟩) (preW_V (q0 := 0) (ci := 3) (P_L hP) (D_L hD) hK rfl rfl) rfl rfl hl.1 rfl (lv_room (Nat.le_of_ble_eq_true rfl)) dL_law_751 ⟨Nat.le_of_ble_eq_true rfl, Nat.le_of_ble_eq_true rfl⟩) hS hP hD addrX (fun H locs hP hD hS => ?_)
    refine lv_aload_n hx hb dL_law_754 rfl (lv_at hl 2 rfl) ?_
    refine lv_aload_n hx hb dL_law_755 rfl (lv_at hl 0 rfl) ?_
    refine lv_iload_n hx hb dL_law_756 rfl (lv_at hl 3 rfl) ?_
    refine lv_iconst (v := 1) hx hb dL_law_757 (by decide) ?_
    refine lv_iadd hx hb dL_law_758 ?_
    refine va_sld hx hb hX0 hbl hbA hS v1 dL_law_759 ?_
    refine lv_aload_n hx hb dL_law_760 rfl (lv_at hl 0 rfl) ?_
    refine lv_iload_n hx hb dL_law_761 rfl (lv_at hl 3 rfl) ?_
    refine lv_iconst (v := 2) hx hb dL_law_762 (by decide) ?_
    refine lv_iadd hx hb dL_law_763 ?_
    refine va_sld hx hb hX0 hbl hbA hS v2 dL_law_764 ?_
    refine lv_if_eq (tgt := 772) hx hb dL_law_765 (by decide) (fun cz => absurd cz hz) (fun _ => ?_)
    refine lv_iconst (v := 1) hx hb dL_law_768 (by decide) ?_
    refine lv_goto (tgt := 773) hx hb dL_law_769 (by decide) ?_
    refine call_iR (va_runV (C := RX4) (As := [.int (xs (Int32.toNatClampNeg (nI i + 1))), .int 1]) (rest := [.int r]) ⟨hx, hb, hml, hown, hts⟩ (cfM_toss l G hM aM T T' ((xs (Int32.toNatClampNeg (nI i + 1)))) (1) r gm) (cwV 2 hts gL_law_X4_toss rfl rfl rfl (by decide +kernel) ⟨Nat.le_of_ble_eq_true rfl, Nat.le_of_ble_eq_true rfl⟩) (preW_V (q0 := 0) (ci := 4) (P_R hP) (D_R hD) hK rfl rfl) rfl rfl hl.1 rfl (lv_room (Nat.le_of_ble_eq_true rfl)) dL_law_773 ⟨Nat.le_of_ble_eq_true rfl, Nat.le_of_ble_eq_true rfl⟩) hS hP hD addrM (fun H locs hP hD hS => ?_)
    refine lv_icmp_eq (tgt := 904) hx hb dL_law_776 (by decide) (fun _ => ?_) (fun cz => absurd rfl cz)
    exact hk S' T' hR' H locs ls hP hD hS hl
set_option maxHeartbeats 4000000 in
set_option maxRecDepth 100000 in
theorem law_25 {p : Program} {l : Launch} {e : Env} {s : State} {m : MethodId} {below : List Frame} {meth : Method} {c : Code} {b L : Nat} {xs : Nat → Int32} {G : GG} {hX : Nat} {aX : AX} {hM : Nat} {aM : Nat → Nat} {S : XS} {T : MS} {i : Nat} (hL : L ≤ 256) (C0 : lw_At p s m meth c b L xs) (hK : KK G s) (hi : i + 4 ≤ L) (hR : Rel S T)
    (hk : ∀ (S' : XS) (T' : MS), Rel S' T' → AtW p l e s m below meth c b G hX aX hM aM S' T' i 904) : AtW p l e s m below meth c b G hX aX hM aM S T i 781 := by
  intro H locs ls hP hD hS hl
  obtain ⟨hx, hb, hr, hml, hown, hts0, hX0, hbl, hlocks, hgv⟩ := C0
  have hown : s.vm.findClass RL = some m.cls := hown
  have hb : c.code = cL_law := hb
  have hts : ∀ w ∈ wsL_law, w.before #[Value.ref b] s = true := fun w h => hts0 w (wsL_law_in w h)
  have hbA : ¬ (fun q : Nat => s.heap.size ≤ q) b := Nat.not_le.mpr hbl
  have v1 : vp_in (nI i + 1) L := by rw [nI_1]; exact vp_in_nI (by omega) (by omega)
  have v2 : vp_in (nI i + 2) L := by rw [show nI i + 2 = nI (i + 2) from nI_add i 2]; exact vp_in_nI (by omega) (by omega)
  obtain ⟨r, S', T', gx, gm, hR'⟩ := op_seed ((j_lshl (Int32.toInt64 (xs (Int32.toNatClampNeg (nI i + 1)))) 32 ||| (Int32.toInt64 (xs (Int32.toNatClampNeg (nI i + 2))) &&& 4294967295))) hR
  refine lv_aload_n hx hb dL_law_781 rfl (lv_at hl 1 rfl) ?_
  refine lv_aload_n hx hb dL_law_782 rfl (lv_at hl 0 rfl) ?_
  refine lv_iload_n hx hb dL_law_783 rfl (lv_at hl 3 rfl) ?_
  refine lv_iconst (v := 1) hx hb dL_law_784 (by decide) ?_
  refine lv_iadd hx hb dL_law_785 ?_
  refine va_sld hx hb hX0 hbl hbA hS v1 dL_law_786 ?_
  refine lv_i2l (v := (Int32.toInt64 (xs (Int32.toNatClampNeg (nI i + 1))))) hx hb dL_law_787 rfl ?_
  refine lv_bipush (v := 32) hx hb dL_law_788 (by decide) ?_
  refine lv_lshl (v := (j_lshl (Int32.toInt64 (xs (Int32.toNatClampNeg (nI i + 1)))) 32)) hx hb dL_law_790 rfl ?_
  refine lv_aload_n hx hb dL_law_791 rfl (lv_at hl 0 rfl) ?_
  refine lv_iload_n hx hb dL_law_792 rfl (lv_at hl 3 rfl) ?_
  refine lv_iconst (v := 2) hx hb dL_law_793 (by decide) ?_
  refine lv_iadd hx hb dL_law_794 ?_
  refine va_sld hx hb hX0 hbl hbA hS v2 dL_law_795 ?_
  refine lv_i2l (v := (Int32.toInt64 (xs (Int32.toNatClampNeg (nI i + 2))))) hx hb dL_law_796 rfl ?_
  refine lv_ldc2 (v := 4294967295) hx hb hown (hts0 _ (lwr_1 (.constantLong RL 118 (4294967295)) (by decide +kernel))) dL_law_797 ?_
  refine lv_land hx hb dL_law_800 ?_
  refine lv_lor hx hb dL_law_801 ?_
  refine call_lL (va_runV (C := RX3) (As := [.long (j_lshl (Int32.toInt64 (xs (Int32.toNatClampNeg (nI i + 1)))) 32 ||| (Int32.toInt64 (xs (Int32.toNatClampNeg (nI i + 2))) &&& 4294967295))]) (rest := []) ⟨hx, hb, hml, hown, hts⟩ (cfX_seed l G hX aX S S' ((j_lshl (Int32.toInt64 (xs (Int32.toNatClampNeg (nI i + 1)))) 32 ||| (Int32.toInt64 (xs (Int32.toNatClampNeg (nI i + 2))) &&& 4294967295))) r gx) (cwV 1 hts gL_law_X3_seed rfl rfl rfl (by decide +kernel) ⟨Nat.le_of_ble_eq_true rfl, Nat.le_of_ble_eq_true rfl⟩) (preW_V (q0 := 0) (ci := 3) (P_L hP) (D_L hD) hK rfl rfl) rfl rfl hl.1 rfl (lv_room (Nat.le_of_ble_eq_true rfl)) dL_law_802 ⟨Nat.le_of_ble_eq_true rfl, Nat.le_of_ble_eq_true rfl⟩) hS hP hD addrX (fun H locs hP hD hS => ?_)
  refine lv_aload_n hx hb dL_law_805 rfl (lv_at hl 2 rfl) ?_
  refine lv_aload_n hx hb dL_law_806 rfl (lv_at hl 0 rfl) ?_
  refine lv_iload_n hx hb dL_law_807 rfl (lv_at hl 3 rfl) ?_
  refine lv_iconst (v := 1) hx hb dL_law_808 (by decide) ?_
  refine lv_iadd hx hb dL_law_809 ?_
  refine va_sld hx hb hX0 hbl hbA hS v1 dL_law_810 ?_
  refine lv_i2l (v := (Int32.toInt64 (xs (Int32.toNatClampNeg (nI i + 1))))) hx hb dL_law_811 rfl ?_
  refine lv_bipush (v := 32) hx hb dL_law_812 (by decide) ?_
  refine lv_lshl (v := (j_lshl (Int32.toInt64 (xs (Int32.toNatClampNeg (nI i + 1)))) 32)) hx hb dL_law_814 rfl ?_
  refine lv_aload_n hx hb dL_law_815 rfl (lv_at hl 0 rfl) ?_
  refine lv_iload_n hx hb dL_law_816 rfl (lv_at hl 3 rfl) ?_
  refine lv_iconst (v := 2) hx hb dL_law_817 (by decide) ?_
  refine lv_iadd hx hb dL_law_818 ?_
  refine va_sld hx hb hX0 hbl hbA hS v2 dL_law_819 ?_
  refine lv_i2l (v := (Int32.toInt64 (xs (Int32.toNatClampNeg (nI i + 2))))) hx hb dL_law_820 rfl ?_
  refine lv_ldc2 (v := 4294967295) hx hb hown (hts0 _ (lwr_1 (.constantLong RL 118 (4294967295)) (by decide +kernel))) dL_law_821 ?_
  refine lv_land hx hb dL_law_824 ?_
  refine lv_lor hx hb dL_law_825 ?_
  refine call_lR (va_runV (C := RX4) (As := [.long (j_lshl (Int32.toInt64 (xs (Int32.toNatClampNeg (nI i + 1)))) 32 ||| (Int32.toInt64 (xs (Int32.toNatClampNeg (nI i + 2))) &&& 4294967295))]) (rest := [.long r]) ⟨hx, hb, hml, hown, hts⟩ (cfM_seed l G hM aM T T' ((j_lshl (Int32.toInt64 (xs (Int32.toNatClampNeg (nI i + 1)))) 32 ||| (Int32.toInt64 (xs (Int32.toNatClampNeg (nI i + 2))) &&& 4294967295))) r gm) (cwV 1 hts gL_law_X4_seed rfl rfl rfl (by decide +kernel) ⟨Nat.le_of_ble_eq_true rfl, Nat.le_of_ble_eq_true rfl⟩) (preW_V (q0 := 0) (ci := 4) (P_R hP) (D_R hD) hK rfl rfl) rfl rfl hl.1 rfl (lv_room (Nat.le_of_ble_eq_true rfl)) dL_law_826 ⟨Nat.le_of_ble_eq_true rfl, Nat.le_of_ble_eq_true rfl⟩) hS hP hD addrM (fun H locs hP hD hS => ?_)
  refine W.lcmp hx hb dL_law_829 ?_
  refine lv_if_eq (tgt := 904) hx hb dL_law_830 (by decide) (fun _ => ?_) (fun cz => absurd ((lg_cmp_eq _ _).mpr rfl) cz)
  exact hk S' T' hR' H locs ls hP hD hS hl
set_option maxHeartbeats 4000000 in
set_option maxRecDepth 100000 in
theorem law_26 {p : Program} {l : Launch} {e : Env} {s : State} {m : MethodId} {below : List Frame} {meth : Method} {c : Code} {b L : Nat} {xs : Nat → Int32} {G : GG} {hX : Nat} {aX : AX} {hM : Nat} {aM : Nat → Nat} {S : XS} {T : MS} {i : Nat} (hL : L ≤ 256) (C0 : lw_At p s m meth c b L xs) (hK : KK G s) (hi : i + 4 ≤ L) (hR : Rel S T)
    (hk : ∀ (S' : XS) (T' : MS), Rel S' T' → AtW p l e s m below meth c b G hX aX hM aM S' T' i 904) : AtW p l e s m below meth c b G hX aX hM aM S T i 835 := by
  intro H locs ls hP hD hS hl
  obtain ⟨hx, hb, hr, hml, hown, hts0, hX0, hbl, hlocks, hgv⟩ := C0
  have hown : s.vm.findClass RL = some m.cls := hown
  have hb : c.code = cL_law := hb
  have hts : ∀ w ∈ wsL_law, w.before #[Value.ref b] s = true := fun w h => hts0 w (wsL_law_in w h)
  have hbA : ¬ (fun q : Nat => s.heap.size ≤ q) b := Nat.not_le.mpr hbl
  have v1 : vp_in (nI i + 1) L := by rw [nI_1]; exact vp_in_nI (by omega) (by omega)
  obtain ⟨r, S', T', gx, gm, hR'⟩ := op_days ((xs (Int32.toNatClampNeg (nI i + 1)))) hR
  refine lv_aload_n hx hb dL_law_835 rfl (lv_at hl 1 rfl) ?_
  refine lv_aload_n hx hb dL_law_836 rfl (lv_at hl 0 rfl) ?_
  refine lv_iload_n hx hb dL_law_837 rfl (lv_at hl 3 rfl) ?_
  refine lv_iconst (v := 1) hx hb dL_law_838 (by decide) ?_
  refine lv_iadd hx hb dL_law_839 ?_
  refine va_sld hx hb hX0 hbl hbA hS v1 dL_law_840 ?_
  refine call_iL (va_runV (C := RX3) (As := [.int (xs (Int32.toNatClampNeg (nI i + 1)))]) (rest := []) ⟨hx, hb, hml, hown, hts⟩ (cfX_days l G hX aX S S' ((xs (Int32.toNatClampNeg (nI i + 1)))) r gx) (cwV 1 hts gL_law_X3_days rfl rfl rfl (by decide +kernel) ⟨Nat.le_of_ble_eq_true rfl, Nat.le_of_ble_eq_true rfl⟩) (preW_V (q0 := 0) (ci := 3) (P_L hP) (D_L hD) hK rfl rfl) rfl rfl hl.1 rfl (lv_room (Nat.le_of_ble_eq_true rfl)) dL_law_841 ⟨Nat.le_of_ble_eq_true rfl, Nat.le_of_ble_eq_true rfl⟩) hS hP hD addrX (fun H locs hP hD hS => ?_)
  refine lv_aload_n hx hb dL_law_844 rfl (lv_at hl 2 rfl) ?_
  refine lv_aload_n hx hb dL_law_845 rfl (lv_at hl 0 rfl) ?_
  refine lv_iload_n hx hb dL_law_846 rfl (lv_at hl 3 rfl) ?_
  refine lv_iconst (v := 1) hx hb dL_law_847 (by decide) ?_
  refine lv_iadd hx hb dL_law_848 ?_
  refine va_sld hx hb hX0 hbl hbA hS v1 dL_law_849 ?_
  refine call_iR (va_runV (C := RX4) (As := [.int (xs (Int32.toNatClampNeg (nI i + 1)))]) (rest := [.int r]) ⟨hx, hb, hml, hown, hts⟩ (cfM_days l G hM aM T T' ((xs (Int32.toNatClampNeg (nI i + 1)))) r gm) (cwV 1 hts gL_law_X4_days rfl rfl rfl (by decide +kernel) ⟨Nat.le_of_ble_eq_true rfl, Nat.le_of_ble_eq_true rfl⟩) (preW_V (q0 := 0) (ci := 4) (P_R hP) (D_R hD) hK rfl rfl) rfl rfl hl.1 rfl (lv_room (Nat.le_of_ble_eq_true rfl)) dL_law_850 ⟨Nat.le_of_ble_eq_true rfl, Nat.le_of_ble_eq_true rfl⟩) hS hP hD addrM (fun H locs hP hD hS => ?_)
  refine lv_icmp_eq (tgt := 904) hx hb dL_law_853 (by decide) (fun _ => ?_) (fun cz => absurd rfl cz)
  exact hk S' T' hR' H locs ls hP hD hS hl
set_option maxHeartbeats 4000000 in
set_option maxRecDepth 100000 in
theorem law_27 {p : Program} {l : Launch} {e : Env} {s : State} {m : MethodId} {below : List Frame} {meth : Method} {c : Code} {b L : Nat} {xs : Nat → Int32} {G : GG} {hX : Nat} {aX : AX} {hM : Nat} {aM : Nat → Nat} {S : XS} {T : MS} {i : Nat} (hL : L ≤ 256) (C0 : lw_At p s m meth c b L xs) (hK : KK G s) (hi : i + 4 ≤ L) (hR : Rel S T)
    (hk : ∀ (S' : XS) (T' : MS), Rel S' T' → AtW p l e s m below meth c b G hX aX hM aM S' T' i 904) : AtW p l e s m below meth c b G hX aX hM aM S T i 858 := by
  intro H locs ls hP hD hS hl
  obtain ⟨hx, hb, hr, hml, hown, hts0, hX0, hbl, hlocks, hgv⟩ := C0
  have hown : s.vm.findClass RL = some m.cls := hown
  have hb : c.code = cL_law := hb
  have hts : ∀ w ∈ wsL_law, w.before #[Value.ref b] s = true := fun w h => hts0 w (wsL_law_in w h)
  have hbA : ¬ (fun q : Nat => s.heap.size ≤ q) b := Nat.not_le.mpr hbl
  have v1 : vp_in (nI i + 1) L := by rw [nI_1]; exact vp_in_nI (by omega) (by omega)
  obtain ⟨r, S', T', gx, gm, hR'⟩ := op_keep ((xs (Int32.toNatClampNeg (nI i + 1)))) hR
  refine lv_aload_n hx hb dL_law_858 rfl (lv_at hl 1 rfl) ?_
  refine lv_aload_n hx hb dL_law_859 rfl (lv_at hl 0 rfl) ?_
  refine lv_iload_n hx hb dL_law_860 rfl (lv_at hl 3 rfl) ?_
  refine lv_iconst (v := 1) hx hb dL_law_861 (by decide) ?_
  refine lv_iadd hx hb dL_law_862 ?_
  refine va_sld hx hb hX0 hbl hbA hS v1 dL_law_863 ?_
  refine call_iL (va_runV (C := RX3) (As := [.int (xs (Int32.toNatClampNeg (nI i + 1)))]) (rest := []) ⟨hx, hb, hml, hown, hts⟩ (cfX_keep l G hX aX S S' ((xs (Int32.toNatClampNeg (nI i + 1)))) r gx) (cwV 1 hts gL_law_X3_keep rfl rfl rfl (by decide +kernel) ⟨Nat.le_of_ble_eq_true rfl, Nat.le_of_ble_eq_true rfl⟩) (preW_V (q0 := 0) (ci := 3) (P_L hP) (D_L hD) hK rfl rfl) rfl rfl hl.1 rfl (lv_room (Nat.le_of_ble_eq_true rfl)) dL_law_864 ⟨Nat.le_of_ble_eq_true rfl, Nat.le_of_ble_eq_true rfl⟩) hS hP hD addrX (fun H locs hP hD hS => ?_)
  refine lv_aload_n hx hb dL_law_867 rfl (lv_at hl 2 rfl) ?_
  refine lv_aload_n hx hb dL_law_868 rfl (lv_at hl 0 rfl) ?_
  refine lv_iload_n hx hb dL_law_869 rfl (lv_at hl 3 rfl) ?_
  refine lv_iconst (v := 1) hx hb dL_law_870 (by decide) ?_
  refine lv_iadd hx hb dL_law_871 ?_
  refine va_sld hx hb hX0 hbl hbA hS v1 dL_law_872 ?_
  refine call_iR (va_runV (C := RX4) (As := [.int (xs (Int32.toNatClampNeg (nI i + 1)))]) (rest := [.int r]) ⟨hx, hb, hml, hown, hts⟩ (cfM_keep l G hM aM T T' ((xs (Int32.toNatClampNeg (nI i + 1)))) r gm) (cwV 1 hts gL_law_X4_keep rfl rfl rfl (by decide +kernel) ⟨Nat.le_of_ble_eq_true rfl, Nat.le_of_ble_eq_true rfl⟩) (preW_V (q0 := 0) (ci := 4) (P_R hP) (D_R hD) hK rfl rfl) rfl rfl hl.1 rfl (lv_room (Nat.le_of_ble_eq_true rfl)) dL_law_873 ⟨Nat.le_of_ble_eq_true rfl, Nat.le_of_ble_eq_true rfl⟩) hS hP hD addrM (fun H locs hP hD hS => ?_)
  refine lv_icmp_eq (tgt := 904) hx hb dL_law_876 (by decide) (fun _ => ?_) (fun cz => absurd rfl cz)
  exact hk S' T' hR' H locs ls hP hD hS hl
set_option maxHeartbeats 4000000 in
set_option maxRecDepth 100000 in
theorem law_28 {p : Program} {l : Launch} {e : Env} {s : State} {m : MethodId} {below : List Frame} {meth : Method} {c : Code} {b L : Nat} {xs : Nat → Int32} {G : GG} {hX : Nat} {aX : AX} {hM : Nat} {aM : Nat → Nat} {S : XS} {T : MS} {i : Nat} (hL : L ≤ 256) (C0 : lw_At p s m meth c b L xs) (hK : KK G s) (hi : i + 4 ≤ L) (hR : Rel S T)
    (hk : ∀ (S' : XS) (T' : MS), Rel S' T' → AtW p l e s m below meth c b G hX aX hM aM S' T' i 904) : AtW p l e s m below meth c b G hX aX hM aM S T i 881 := by
  intro H locs ls hP hD hS hl
  obtain ⟨hx, hb, hr, hml, hown, hts0, hX0, hbl, hlocks, hgv⟩ := C0
  have hown : s.vm.findClass RL = some m.cls := hown
  have hb : c.code = cL_law := hb
  have hts : ∀ w ∈ wsL_law, w.before #[Value.ref b] s = true := fun w h => hts0 w (wsL_law_in w h)
  have hbA : ¬ (fun q : Nat => s.heap.size ≤ q) b := Nat.not_le.mpr hbl
  have v1 : vp_in (nI i + 1) L := by rw [nI_1]; exact vp_in_nI (by omega) (by omega)
  obtain ⟨r, S', T', gx, gm, hR'⟩ := op_again ((xs (Int32.toNatClampNeg (nI i + 1)))) hR
  refine lv_aload_n hx hb dL_law_881 rfl (lv_at hl 1 rfl) ?_
  refine lv_aload_n hx hb dL_law_882 rfl (lv_at hl 0 rfl) ?_
  refine lv_iload_n hx hb dL_law_883 rfl (lv_at hl 3 rfl) ?_
  refine lv_iconst (v := 1) hx hb dL_law_884 (by decide) ?_
  refine lv_iadd hx hb dL_law_885 ?_
  refine va_sld hx hb hX0 hbl hbA hS v1 dL_law_886 ?_
  refine call_iL (va_runV (C := RX3) (As := [.int (xs (Int32.toNatClampNeg (nI i + 1)))]) (rest := []) ⟨hx, hb, hml, hown, hts⟩ (cfX_again l G hX aX S S' ((xs (Int32.toNatClampNeg (nI i + 1)))) r gx) (cwV 1 hts gL_law_X3_again rfl rfl rfl (by decide +kernel) ⟨Nat.le_of_ble_eq_true rfl, Nat.le_of_ble_eq_true rfl⟩) (preW_V (q0 := 0) (ci := 3) (P_L hP) (D_L hD) hK rfl rfl) rfl rfl hl.1 rfl (lv_room (Nat.le_of_ble_eq_true rfl)) dL_law_887 ⟨Nat.le_of_ble_eq_true rfl, Nat.le_of_ble_eq_true rfl⟩) hS hP hD addrX (fun H locs hP hD hS => ?_)
  refine lv_aload_n hx hb dL_law_890 rfl (lv_at hl 2 rfl) ?_
  refine lv_aload_n hx hb dL_law_891 rfl (lv_at hl 0 rfl) ?_
  refine lv_iload_n hx hb dL_law_892 rfl (lv_at hl 3 rfl) ?_
  refine lv_iconst (v := 1) hx hb dL_law_893 (by decide) ?_
  refine lv_iadd hx hb dL_law_894 ?_
  refine va_sld hx hb hX0 hbl hbA hS v1 dL_law_895 ?_
  refine call_iR (va_runV (C := RX4) (As := [.int (xs (Int32.toNatClampNeg (nI i + 1)))]) (rest := [.int r]) ⟨hx, hb, hml, hown, hts⟩ (cfM_again l G hM aM T T' ((xs (Int32.toNatClampNeg (nI i + 1)))) r gm) (cwV 1 hts gL_law_X4_again rfl rfl rfl (by decide +kernel) ⟨Nat.le_of_ble_eq_true rfl, Nat.le_of_ble_eq_true rfl⟩) (preW_V (q0 := 0) (ci := 4) (P_R hP) (D_R hD) hK rfl rfl) rfl rfl hl.1 rfl (lv_room (Nat.le_of_ble_eq_true rfl)) dL_law_896 ⟨Nat.le_of_ble_eq_true rfl, Nat.le_of_ble_eq_true rfl⟩) hS hP hD addrM (fun H locs hP hD hS => ?_)
  refine lv_icmp_eq (tgt := 904) hx hb dL_law_899 (by decide) (fun _ => ?_) (fun cz => absurd rfl cz)
  exact hk S' T' hR' H locs ls hP hD hS hl
