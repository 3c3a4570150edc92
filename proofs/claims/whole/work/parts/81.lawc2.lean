/-! the law, case by case -/
set_option maxHeartbeats 4000000 in
set_option maxRecDepth 100000 in
theorem law_16 {p : Program} {l : Launch} {e : Env} {s : State} {m : MethodId} {below : List Frame} {meth : Method} {c : Code} {b L : Nat} {xs : Nat → Int32} {G : GG} {hX : Nat} {aX : AX} {hM : Nat} {aM : Nat → Nat} {S : XS} {T : MS} {i : Nat} (hL : L ≤ 256) (C0 : lw_At p s m meth c b L xs) (hK : KK G s) (hi : i + 4 ≤ L) (hR : Rel S T)
    (hk : ∀ (S' : XS) (T' : MS), Rel S' T' → AtW p l e s m below meth c b G hX aX hM aM S' T' i 904) : AtW p l e s m below meth c b G hX aX hM aM S T i 492 := by
  intro H locs ls hP hD hS hl
  obtain ⟨hx, hb, hr, hml, hown, hts0, hX0, hbl, hlocks, hgv⟩ := C0
  have hown : s.vm.findClass RL = some m.cls := hown
  have hb : c.code = cL_law := hb
  have hts : ∀ w ∈ wsL_law, w.before #[Value.ref b] s = true := fun w h => hts0 w (wsL_law_in w h)
  have hbA : ¬ (fun q : Nat => s.heap.size ≤ q) b := Nat.not_le.mpr hbl
  have v1 : vp_in (nI i + 1) L := by rw [nI_1]; exact vp_in_nI (by omega) (by omega)
  have v2 : vp_in (nI i + 2) L := by rw [show nI i + 2 = nI (i + 2) from nI_add i 2]; exact vp_in_nI (by omega) (by omega)
  obtain ⟨r, S', T', gx, gm, hR'⟩ := op_toFeed ((xs (Int32.toNatClampNeg (nI i + 1)))) ((xs (Int32.toNatClampNeg (nI i + 2)))) hR
  refine lv_aload_n hx hb dL_law_492 rfl (lv_at hl 1 rfl) ?_
  refine lv_aload_n hx hb dL_law_493 rfl (lv_at hl 0 rfl) ?_
  refine lv_iload_n hx hb dL_law_494 rfl (lv_at hl 3 rfl) ?_
  refine lv_iconst (v := 1) hx hb dL_law_495 (by decide) ?_
  refine lv_iadd hx hb dL_law_496 ?_
  refine va_sld hx hb hX0 hbl hbA hS v1 dL_law_497 ?_
  refine lv_aload_n hx hb dL_law_498 rfl (lv_at hl 0 rfl) ?_
  refine lv_iload_n hx hb dL_law_499 rfl (lv_at hl 3 rfl) ?_
  refine lv_iconst (v := 2) hx hb dL_law_500 (by decide) ?_
  refine lv_iadd hx hb dL_law_501 ?_
  refine va_sld hx hb hX0 hbl hbA hS v2 dL_law_502 ?_
  refine call_iL (va_runV (C := RX3) (As := [.int (xs (Int32.toNatClampNeg (nI i + 1))), .int (xs (Int32.toNatClampNeg (nI i + 2)))]) (rest := []) ⟨hx, hb, hml, hown, hts⟩ (cfX_toFeed l G hX aX S S' ((xs (Int32.toNatClampNeg (nI i + 1)))) ((xs (Int32.toNatClampNeg (nI i + 2)))) r gx) (cwV 2 hts gL_law_X3_toFeed rfl rfl rfl (by decide +kernel) ⟨Nat.le_of_ble_eq_true rfl, Nat.le_of_ble_eq_true rfl⟩) (preW_V (q0 := 0) (ci := 3) (P_L hP) (D_L hD) hK rfl rfl) rfl rfl hl.1 rfl (lv_room (Nat.le_of_ble_eq_true rfl)) dL_law_503 ⟨Nat.le_of_ble_eq_true rfl, Nat.le_of_ble_eq_true rfl⟩) hS hP hD addrX (fun H locs hP hD hS => ?_)
  refine lv_aload_n hx hb dL_law_506 rfl (lv_at hl 2 rfl) ?_
  refine lv_aload_n hx hb dL_law_507 rfl (lv_at hl 0 rfl) ?_
  refine lv_iload_n hx hb dL_law_508 rfl (lv_at hl 3 rfl) ?_
  refine lv_iconst (v := 1) hx hb dL_law_509 (by decide) ?_
  refine lv_iadd hx hb dL_law_510 ?_
  refine va_sld hx hb hX0 hbl hbA hS v1 dL_law_511 ?_
  refine lv_aload_n hx hb dL_law_512 rfl (lv_at hl 0 rfl) ?_
  refine lv_iload_n hx hb dL_law_513 rfl (lv_at hl 3 rfl) ?_
  refine lv_iconst (v := 2) hx hb dL_law_514 (by decide) ?_
  refine lv_iadd hx hb dL_law_515 ?_
  refine va_sld hx hb hX0 hbl hbA hS v2 dL_law_516 ?_
  refine call_iR (va_runV (C := RX4) (As := [.int (xs (Int32.toNatClampNeg (nI i + 1))), .int (xs (Int32.toNatClampNeg (nI i + 2)))]) (rest := [.int r]) ⟨hx, hb, hml, hown, hts⟩ (cfM_toFeed l G hM aM T T' ((xs (Int32.toNatClampNeg (nI i + 1)))) ((xs (Int32.toNatClampNeg (nI i + 2)))) r gm) (cwV 2 hts gL_law_X4_toFeed rfl rfl rfl (by decide +kernel) ⟨Nat.le_of_ble_eq_true rfl, Nat.le_of_ble_eq_true rfl⟩) (preW_V (q0 := 0) (ci := 4) (P_R hP) (D_R hD) hK rfl rfl) rfl rfl hl.1 rfl (lv_room (Nat.le_of_ble_eq_true rfl)) dL_law_517 ⟨Nat.le_of_ble_eq_true rfl, Nat.le_of_ble_eq_true rfl⟩) hS hP hD addrM (fun H locs hP hD hS => ?_)
  refine lv_icmp_eq (tgt := 904) hx hb dL_law_520 (by decide) (fun _ => ?_) (fun cz => absurd rfl cz)
  exact hk S' T' hR' H locs ls hP hD hS hl
set_option maxHeartbeats 4000000 in
set_option maxRecDepth 100000 in
theorem law_17 {p : Program} {l : Launch} {e : Env} {s : State} {m : MethodId} {below : List Frame} {meth : Method} {c : Code} {b L : Nat} {xs : Nat → Int32} {G : GG} {hX : Nat} {aX : AX} {hM : Nat} {aM : Nat → Nat} {S : XS} {T : MS} {i : Nat} (hL : L ≤ 256) (C0 : lw_At p s m meth c b L xs) (hK : KK G s) (hi : i + 4 ≤ L) (hR : Rel S T)
    (hk : ∀ (S' : XS) (T' : MS), Rel S' T' → AtW p l e s m below meth c b G hX aX hM aM S' T' i 904) : AtW p l e s m below meth c b G hX aX hM aM S T i 525 := by
  intro H locs ls hP hD hS hl
  obtain ⟨hx, hb, hr, hml, hown, hts0, hX0, hbl, hlocks, hgv⟩ := C0
  have hown : s.vm.findClass RL = some m.cls := hown
  have hb : c.code = cL_law := hb
  have hts : ∀ w ∈ wsL_law, w.before #[Value.ref b] s = true := fun w h => hts0 w (wsL_law_in w h)
  have hbA : ¬ (fun q : Nat => s.heap.size ≤ q) b := Nat.not_le.mpr hbl
  have v1 : vp_in (nI i + 1) L := by rw [nI_1]; exact vp_in_nI (by omega) (by omega)
  obtain ⟨r, S', T', gx, gm, hR'⟩ := op_giveUp ((xs (Int32.toNatClampNeg (nI i + 1)))) hR
  refine lv_aload_n hx hb dL_law_525 rfl (lv_at hl 1 rfl) ?_
  refine lv_aload_n hx hb dL_law_526 rfl (lv_at hl 0 rfl) ?_
  refine lv_iload_n hx hb dL_law_527 rfl (lv_at hl 3 rfl) ?_
  refine lv_iconst (v := 1) hx hb dL_law_528 (by decide) ?_
  refine lv_iadd hx hb dL_law_529 ?_
  refine va_sld hx hb hX0 hbl hbA hS v1 dL_law_530 ?_
  refine call_iL (va_runV (C := RX3) (As := [.int (xs (Int32.toNatClampNeg (nI i + 1)))]) (rest := []) ⟨hx, hb, hml, hown, hts⟩ (cfX_giveUp l G hX aX S S' ((xs (Int32.toNatClampNeg (nI i + 1)))) r gx) (cwV 1 hts gL_law_X3_giveUp rfl rfl rfl (by decide +kernel) ⟨Nat.le_of_ble_eq_true rfl, Nat.le_of_ble_eq_true rfl⟩) (preW_V (q0 := 0) (ci := 3) (P_L hP) (D_L hD) hK rfl rfl) rfl rfl hl.1 rfl (lv_room (Nat.le_of_ble_eq_true rfl)) dL_law_531 ⟨Nat.le_of_ble_eq_true rfl, Nat.le_of_ble_eq_true rfl⟩) hS hP hD addrX (fun H locs hP hD hS => ?_)
  refine lv_aload_n hx hb dL_law_534 rfl (lv_at hl 2 rfl) ?_
  refine lv_aload_n hx hb dL_law_535 rfl (lv_at hl 0 rfl) ?_
  refine lv_iload_n hx hb dL_law_536 rfl (lv_at hl 3 rfl) ?_
  refine lv_iconst (v := 1) hx hb dL_law_537 (by decide) ?_
  refine lv_iadd hx hb dL_law_538 ?_
  refine va_sld hx hb hX0 hbl hbA hS v1 dL_law_539 ?_
  refine call_iR (va_runV (C := RX4) (As := [.int (xs (Int32.toNatClampNeg (nI i + 1)))]) (rest := [.int r]) ⟨hx, hb, hml, hown, hts⟩ (cfM_giveUp l G hM aM T T' ((xs (Int32.toNatClampNeg (nI i + 1)))) r gm) (cwV 1 hts gL_law_X4_giveUp rfl rfl rfl (by decide +kernel) ⟨Nat.le_of_ble_eq_true rfl, Nat.le_of_ble_eq_true rfl⟩) (preW_V (q0 := 0) (ci := 4) (P_R hP) (D_R hD) hK rfl rfl) rfl rfl hl.1 rfl (lv_room (Nat.le_of_ble_eq_true rfl)) dL_law_540 ⟨Nat.le_of_ble_eq_true rfl, Nat.le_of_ble_eq_true rfl⟩) hS hP hD addrM (fun H locs hP hD hS => ?_)
  refine lv_icmp_eq (tgt := 904) hx hb dL_law_543 (by decide) (fun _ => ?_) (fun cz => absurd rfl cz)
  exact hk S' T' hR' H locs ls hP hD hS hl
set_option maxHeartbeats 4000000 in
set_option maxRecDepth 100000 in
theorem law_18 {p : Program} {l : Launch} {e : Env} {s : State} {m : MethodId} {below : List Frame} {meth : Method} {c : Code} {b L : Nat} {xs : Nat → Int32} {G : GG} {hX : Nat} {aX : AX} {hM : Nat} {aM : Nat → Nat} {S : XS} {T : MS} {i : Nat} (hL : L ≤ 256) (C0 : lw_At p s m meth c b L xs) (hK : KK G s) (hi : i + 4 ≤ L) (hR : Rel S T)
    (hk : ∀ (S' : XS) (T' : MS), Rel S' T' → AtW p l e s m below meth c b G hX aX hM aM S' T' i 904) : AtW p l e s m below meth c b G hX aX hM aM S T i 548 := by
  intro H locs ls hP hD hS hl
  obtain ⟨hx, hb, hr, hml, hown, hts0, hX0, hbl, hlocks, hgv⟩ := C0
  have hown : s.vm.findClass RL = some m.cls := hown
  have hb : c.code = cL_law := hb
  have hts : ∀ w ∈ wsL_law, w.before #[Value.ref b] s = true := fun w h => hts0 w (wsL_law_in w h)
  have hbA : ¬ (fun q : Nat => s.heap.size ≤ q) b := Nat.not_le.mpr hbl
  have v1 : vp_in (nI i + 1) L := by rw [nI_1]; exact vp_in_nI (by omega) (by omega)
  obtain ⟨r, S', T', gx, gm, hR'⟩ := op_claim ((xs (Int32.toNatClampNeg (nI i + 1)))) hR
  refine lv_aload_n hx hb dL_law_548 rfl (lv_at hl 1 rfl) ?_
  refine lv_aload_n hx hb dL_law_549 rfl (lv_at hl 0 rfl) ?_
  refine lv_iload_n hx hb dL_law_550 rfl (lv_at hl 3 rfl) ?_
  refine lv_iconst (v := 1) hx hb dL_law_551 (by decide) ?_
  refine lv_iadd hx hb dL_law_552 ?_
  refine va_sld hx hb hX0 hbl hbA hS v1 dL_law_553 ?_
  refine call_iL (va_runV (C := RX3) (As := [.int (xs (Int32.toNatClampNeg (nI i + 1)))]) (rest := []) ⟨hx, hb, hml, hown, hts⟩ (cfX_claim l G hX aX S S' ((xs (Int32.toNatClampNeg (nI i + 1)))) r gx) (cwV 1 hts gL_law_X3_claim rfl rfl rfl (by decide +kernel) ⟨Nat.le_of_ble_eq_true rfl, Nat.le_of_ble_eq_true rfl⟩) (preW_V (q0 := 0) (ci := 3) (P_L hP) (D_L hD) hK rfl rfl) rfl rfl hl.1 rfl (lv_room (Nat.le_of_ble_eq_true rfl)) dL_law_554 ⟨Nat.le_of_ble_eq_true rfl, Nat.le_of_ble_eq_true rfl⟩) hS hP hD addrX (fun H locs hP hD hS => ?_)
  refine lv_aload_n hx hb dL_law_557 rfl (lv_at hl 2 rfl) ?_
  refine lv_aload_n hx hb dL_law_558 rfl (lv_at hl 0 rfl) ?_
  refine lv_iload_n hx hb dL_law_559 rfl (lv_at hl 3 rfl) ?_
  refine lv_iconst (v := 1) hx hb dL_law_560 (by decide) ?_
  refine lv_iadd hx hb dL_law_561 ?_
  refine va_sld hx hb hX0 hbl hbA hS v1 dL_law_562 ?_
  refine call_iR (va_runV (C := RX4) (As := [.int (xs (Int32.toNatClampNeg (nI i + 1)))]) (rest := [.int r]) ⟨hx, hb, hml, hown, hts⟩ (cfM_claim l G hM aM T T' ((xs (Int32.toNatClampNeg (nI i + 1)))) r gm) (cwV 1 hts gL_law_X4_claim rfl rfl rfl (by decide +kernel) ⟨Nat.le_of_ble_eq_true rfl, Nat.le_of_ble_eq_true rfl⟩) (preW_V (q0 := 0) (ci := 4) (P_R hP) (D_R hD) hK rfl rfl) rfl rfl hl.1 rfl (lv_room (Nat.le_of_ble_eq_true rfl)) dL_law_563 ⟨Nat.le_of_ble_eq_true rfl, Nat.le_of_ble_eq_true rfl⟩) hS hP hD addrM (fun H locs hP hD hS => ?_)
  refine lv_icmp_eq (tgt := 904) hx hb dL_law_566 (by decide) (fun _ => ?_) (fun cz => absurd rfl cz)
  exact hk S' T' hR' H locs ls hP hD hS hl
set_option maxHeartbeats 4000000 in
set_option maxRecDepth 100000 in
theorem law_19 {p : Program} {l : Launch} {e : Env} {s : State} {m : MethodId} {below : List Frame} {meth : Method} {c : Code} {b L : Nat} {xs : Nat → Int32} {G : GG} {hX : Nat} {aX : AX} {hM : Nat} {aM : Nat → Nat} {S : XS} {T : MS} {i : Nat} (hL : L ≤ 256) (C0 : lw_At p s m meth c b L xs) (hK : KK G s) (hi : i + 4 ≤ L) (hR : Rel S T)
    (hk : ∀ (S' : XS) (T' : MS), Rel S' T' → AtW p l e s m below meth c b G hX aX hM aM S' T' i 904) : AtW p l e s m below meth c b G hX aX hM aM S T i 571 := by
  intro H locs ls hP hD hS hl
  obtain ⟨hx, hb, hr, hml, hown, hts0, hX0, hbl, hlocks, hgv⟩ := C0
  have hown : s.vm.findClass RL = some m.cls := hown
  have hb : c.code = cL_law := hb
  have hts : ∀ w ∈ wsL_law, w.before #[Value.ref b] s = true := fun w h => hts0 w (wsL_law_in w h)
  have hbA : ¬ (fun q : Nat => s.heap.size ≤ q) b := Nat.not_le.mpr hbl
  have v1 : vp_in (nI i + 1) L := by rw [nI_1]; exact vp_in_nI (by omega) (by omega)
  have v2 : vp_in (nI i + 2) L := by rw [show nI i + 2 = nI (i + 2) from nI_add i 2]; exact vp_in_nI (by omega) (by omega)
  by_cases hz : (xs (Int32.toNatClampNeg (nI i + 2))) = 0
  · obtain ⟨r, S', T', gx, gm, hR'⟩ := op_share ((xs (Int32.toNatClampNeg (nI i + 1)))) (0) hR
    refine lv_aload_n hx hb dL_law_571 rfl (lv_at hl 1 rfl) ?_
    refine lv_aload_n hx hb dL_law_572 rfl (lv_at hl 0 rfl) ?_
    refine lv_iload_n hx hb dL_law_573 rfl (lv_at hl 3 rfl) ?_
    refine lv_iconst (v := 1) hx hb dL_law_574 (by decide) ?_
    refine lv_iadd hx hb dL_law_575 ?_
    refine va_sld hx hb hX0 hbl hbA hS v1 dL_law_576 ?_
    refine lv_aload_n hx hb dL_law_577 rfl (lv_at hl 0 rfl) ?_
    refine lv_iload_n hx hb dL_law_578 rfl (lv_at hl 3 rfl) ?_
    refine lv_iconst (v := 2) hx hb dL_law_579 (by decide) ?_
    refine lv_iadd hx hb dL_law_580 ?_
    refine va_sld hx hb hX0 hbl hbA hS v2 dL_law_581 ?_
    refine lv_if_eq (tgt := 589) hx hb dL_law_582 (by decide) (fun _ => ?_) (fun cz => absurd hz cz)
    refine lv_iconst (v := 0) hx hb dL_law_589 (by decide) ?_
    refine call_iL (va_runV (C := RX3) (As := [.int (xs (Int32.toNatClampNeg (nI i + 1))), .int 0]) (rest := []) ⟨hx, hb, hml, hown, hts⟩ (cfX_share l G hX aX S S' ((xs (Int32.toNatClampNeg (nI i + 1)))) (0) r gx) (cwV 2 hts gL_law_X3_share rfl rfl rfl (by decide +kernel) ⟨Nat.le_of_ble_eq_true rfl, Nat.le_of_ble_eq_true rfl⟩) (preW_V (q0 := 0) (ci := 3) (P_L hP) (D_L hD) hK rfl rfl) rfl rfl hl.1 rfl (lv_room (Nat.le_of_ble_eq_true rfl)) dL_law_590 ⟨Nat.le_of_ble_eq_true rfl, Nat.le_of_ble_eq_true rfl⟩) hS hP hD addrX (fun H locs hP hD hS => ?_)
    refine lv_aload_n hx hb dL_law_593 rfl (lv_at hl 2 rfl) ?_
    refine lv_aload_n hx hb dL_law_594 rfl (lv_at hl 0 rfl) ?_
    refine lv_iload_n hx hb dL_law_595 rfl (lv_at hl 3 rfl) ?_
    refine lv_iconst (v := 1) hx hb dL_law_596 (by decide) ?_
    refine lv_iadd hx hb dL_law_597 ?_
    refine va_sld hx hb hX0 hbl hbA hS v1 dL_law_598 ?_
    refine lv_aload_n hx hb dL_law_599 rfl (lv_at hl 0 rfl) ?_
    refine lv_iload_n hx hb dL_law_600 rfl (lv_at hl 3 rfl) ?_
    refine lv_iconst (v := 2) hx hb dL_law_601 (by decide) ?_
    refine lv_iadd hx hb dL_law_602 ?_
    refine va_sld hx hb hX0 hbl hbA hS v2 dL_law_603 ?_
    refine lv_if_eq (tgt := 611) hx hb dL_law_604 (by decide) (fun _ => ?_) (fun cz => absurd hz cz)
    refine lv_iconst (v := 0) hx hb dL_law_611 (by decide) ?_
    refine call_iR (va_runV (C := RX4) (As := [.int (xs (Int32.toNatClampNeg (nI i + 1))), .int 0]) (rest := [.int r]) ⟨hx, hb, hml, hown, hts⟩ (cfM_share l G hM aM T T' ((xs (Int32.toNatClampNeg (nI i + 1)))) (0) r gm) (cwV 2 hts gL_law_X4_share rfl rfl rfl (by decide +kernel) ⟨Nat.le_of_ble_eq_true rfl, Nat.le_of_ble_eq_true rfl⟩) (preW_V (q0 := 0) (ci := 4) (P_R hP) (D_R hD) hK rfl rfl) rfl rfl hl.1 rfl (lv_room (Nat.le_of_ble_eq_true rfl)) dL_law_612 ⟨Nat.le_of_ble_eq_true rfl, Nat.le_of_ble_eq_true rfl⟩) hS hP hD addrM (fun H locs hP hD hS => ?_)
    refine lv_icmp_eq (tgt := 904) hx hb dL_law_615 (by decide) (fun _ => ?_) (fun cz => absurd rfl cz)
    exact hk S' T' hR' H locs ls hP hD hS hl
  · obtain ⟨r, S', T', gx, gm, hR'⟩ := op_share ((xs (Int32.toNatClampNeg (nI i + 1)))) (1) hR
    refine lv_aload_n hx hb dL_law_571 rfl (lv_at hl 1 rfl) ?_
    refine lv_aload_n hx hb dL_law_572 rfl (lv_at hl 0 rfl) ?_
    refine lv_iload_n hx hb dL_law_573 rfl (lv_at hl 3 rfl) ?_
    refine lv_iconst (v := 1) hx hb dL_law_574 (by decide) ?_
    refine lv_iadd hx hb dL_law_575 ?_
    refine va_sld hx hb hX0 hbl hbA hS v1 dL_law_576 ?_
    refine lv_aload_n hx hb dL_law_577 rfl (lv_at hl 0 rfl) ?_
    refine lv_iload_n hx hb dL_law_578 rfl (lv_at hl 3 rfl) ?_
    refine lv_iconst (v := 2) hx hb dL_law_579 (by decide) ?_
    refine lv_iadd hx hb dL_law_580 ?_
    refine va_sld hx hb hX0 hbl hbA hS v2 dL_law_581 ?_
    refine lv_if_eq (tgt := 589) hx hb dL_law_582 (by decide) (fun cz => absurd cz hz) (fun _ => ?_)
    refine lv_iconst (v := 1) hx hb dL_law_585 (by decide) ?_
    refine lv_goto (tgt := 590) hx hb dL_law_586 (by decide) ?_
    refine call_iL (va_runV (C := RX3) (As := [.int (xs (Int32.toNatClampNeg (nI i + 1))), .int 1]) (rest := []) ⟨hx, hb, hml, hown, hts⟩ (cfX_share l G hX aX S S' ((xs (Int32.toNatClampNeg (nI i + 1)))) (1) r gx) (cwV 2 hts gL_law_X3_share rfl rfl rfl (by decide +kernel) ⟨Nat.le_of_ble_eq_true rfl, Nat.le_of_ble_eq_true rfl⟩) (preW_V (q0 := 0) (ci := 3) (P_L hP) (D_L hD) hK rfl rfl) rfl rfl hl.1 rfl (lv_room (Nat.le_of_ble_eq_true rfl)) dL_law_590 ⟨Nat.le_of_ble_eq_true rfl, Nat.le_of_ble_eq_true rfl⟩) hS hP hD addrX (fun H locs hP hD hS => ?_)
    refine lv_aload_n hx hb dL_law_593 rfl (lv_at hl 2 rfl) ?_
    refine lv_aload_n hx hb dL_law_594 rfl (lv_at hl 0 rfl) ?_
    refine lv_iload_n hx hb dL_law_595 rfl (lv_at hl 3 rfl) ?_
    refine lv_iconst (v := 1) hx hb dL_law_596 (by decide) ?_
    refine lv_iadd hx hb dL_law_597 ?_
    refine va_sld hx hb hX0 hbl hbA hS v1 dL_law_598 ?_
    refine lv_aload_n hx hb dL_law_599 rfl (lv_at hl 0 rfl) ?_
    refine lv_iload_n hx hb dL_law_600 rfl (lv_at hl 3 rfl) ?_
    refine lv_iconst (v := 2) hx hb dL_law_601 (by decide) ?_
    refine lv_iadd hx hb dL_law_602 ?_
    refine va_sld hx hb hX0 hbl hbA hS v2 dL_law_603 ?_
    refine lv_if_eq (tgt := 611) hx hb dL_law_604 (by decide) (fun cz => absurd cz hz) (fun _ => ?_)
    refine lv_iconst (v := 1) hx hb dL_law_607 (by decide) ?_
    refine lv_goto (tgt := 612) hx hb dL_law_608 (by decide) ?_
    refine call_iR (va_runV (C := RX4) (As := [.int (xs (Int32.toNatClampNeg (nI i + 1))), .int 1]) (rest := [.int r]) ⟨hx, hb, hml, hown, hts⟩ (cfM_share l G hM aM T T' ((xs (Int32.toNatClampNeg (nI i + 1)))) (1) r gm) (cwV 2 hts gL_law_X4_share rfl rfl rfl (by decide +kernel) ⟨Nat.le_of_ble_eq_true rfl, Nat.le_of_ble_eq_true rfl⟩) (preW_V (q0 := 0) (ci := 4) (P_R hP) (D_R hD) hK rfl rfl) rfl rfl hl.1 rfl (lv_room (Nat.le_of_ble_eq_true rfl)) dL_law_612 ⟨Nat.le_of_ble_eq_true rfl, Nat.le_of_ble_eq_true rfl⟩) hS hP hD addrM (fun H locs hP hD hS => ?_)
    refine lv_icmp_eq (tgt := 904) hx hb dL_law_615 (by decide) (fun _ => ?_) (fun cz => absurd rfl cz)
    exact hk S' T' hR' H locs ls hP hD hS hl
set_option maxHeartbeats 4000000 in
set_option maxRecDepth 100000 in
theorem law_20 {p : Program} {l : Launch} {e : Env} {s : State} {m : MethodId} {below : List Frame} {meth : Method} {c : Code} {b L : Nat} {xs : Nat → Int32} {G : GG} {hX : Nat} {aX : AX} {hM : Nat} {aM : Nat → Nat} {S : XS} {T : MS} {i : Nat} (hL : L ≤ 256) (C0 : lw_At p s m meth c b L xs) (hK : KK G s) (hi : i + 4 ≤ L) (hR : Rel S T)
    (hk : ∀ (S' : XS) (T' : MS), Rel S' T' → AtW p l e s m below meth c b G hX aX hM aM S' T' i 904) : AtW p l e s m below meth c b G hX aX hM aM S T i 620 := by
  intro H locs ls hP hD hS hl
  obtain ⟨hx, hb, hr, hml, hown, hts0, hX0, hbl, hlocks, hgv⟩ := C0
  have hown : s.vm.findClass RL = some m.cls := hown
  have hb : c.code = cL_law := hb
  have hts : ∀ w ∈ wsL_law, w.before #[Value.ref b] s = true := fun w h => hts0 w (wsL_law_in w h)
  have hbA : ¬ (fun q : Nat => s.heap.size ≤ q) b := Nat.not_le.mpr hbl
  have v1 : vp_in (nI i + 1) L := by rw [nI_1]; exact vp_in_nI (by omega) (by omega)
  have v2 : vp_in (nI i + 2) L := by rw [show nI i + 2 = nI (i + 2) from nI_add i 2]; exact vp_in_nI (by omega) (by omega)
  obtain ⟨r, S', T', gx, gm, hR'⟩ := op_see ((xs (Int32.toNatClampNeg (nI i + 1)))) ((xs (Int32.toNatClampNeg (nI i + 2)))) hR
  refine lv_aload_n hx hb dL_law_620 rfl (lv_at hl 1 rfl) ?_
  refine lv_aload_n hx hb dL_law_621 rfl (lv_at hl 0 rfl) ?_
  refine lv_iload_n hx hb dL_law_622 rfl (lv_at hl 3 rfl) ?_
  refine lv_iconst (v := 1) hx hb dL_law_623 (by decide) ?_
  refine lv_iadd hx hb dL_law_624 ?_
  refine va_sld hx hb hX0 hbl hbA hS v1 dL_law_625 ?_
  refine lv_aload_n hx hb dL_law_626 rfl (lv_at hl 0 rfl) ?_
  refine lv_iload_n hx hb dL_law_627 rfl (lv_at hl 3 rfl) ?_
  refine lv_iconst (v := 2) hx hb dL_law_628 (by decide) ?_
  refine lv_iadd hx hb dL_law_629 ?_
  refine va_sld hx hb hX0 hbl hbA hS v2 dL_law_630 ?_
  refine call_iL (va_runV (C := RX3) (As := [.int (xs (Int32.toNatClampNeg (nI i + 1))), .int (xs (Int32.toNatClampNeg (nI i + 2)))]) (rest := []) ⟨hx, hb, hml, hown, hts⟩ (cfX_see l G hX aX S S' ((xs (Int32.toNatClampNeg (nI i + 1)))) ((xs (Int32.toNatClampNeg (nI i + 2)))) r gx) (cwV 2 hts gL_law_X3_see rfl rfl rfl (by decide +kernel) ⟨Nat.le_of_ble_eq_true rfl, Nat.le_of_ble_eq_true rfl⟩) (preW_V (q0 := 0) (ci := 3) (P_L hP) (D_L hD) hK rfl rfl) rfl rfl hl.1 rfl (lv_room (Nat.le_of_ble_eq_true rfl)) dL_law_631 ⟨Nat.le_of_ble_eq_true rfl, Nat.le_of_ble_eq_true rfl⟩) hS hP hD addrX (fun H locs hP hD hS => ?_)
  refine lv_aload_n hx hb dL_law_634 rfl (lv_at hl 2 rfl) ?_
  refine lv_aload_n hx hb dL_law_635 rfl (lv_at hl 0 rfl) ?_
  refine lv_iload_n hx hb dL_law_636 rfl (lv_at hl 3 rfl) ?_
  refine lv_iconst (v := 1) hx hb dL_law_637 (by decide) ?_
  refine lv_iadd hx hb dL_law_638 ?_
  refine va_sld hx hb hX0 hbl hbA hS v1 dL_law_639 ?_
  refine lv_aload_n hx hb dL_law_640 rfl (lv_at hl 0 rfl) ?_
  refine lv_iload_n hx hb dL_law_641 rfl (lv_at hl 3 rfl) ?_
  refine lv_iconst (v := 2) hx hb dL_law_642 (by decide) ?_
  refine lv_iadd hx hb dL_law_643 ?_
  refine va_sld hx hb hX0 hbl hbA hS v2 dL_law_644 ?_
  refine call_iR (va_runV (C := RX4) (As := [.int (xs (Int32.toNatClampNeg (nI i + 1))), .int (xs (Int32.toNatClampNeg (nI i + 2)))]) (rest := [.int r]) ⟨hx, hb, hml, hown, hts⟩ (cfM_see l G hM aM T T' ((xs (Int32.toNatClampNeg (nI i + 1)))) ((xs (Int32.toNatClampNeg (nI i + 2)))) r gm) (cwV 2 hts gL_law_X4_see rfl rfl rfl (by decide +kernel) ⟨Nat.le_of_ble_eq_true rfl, Nat.le_of_ble_eq_true rfl⟩) (preW_V (q0 := 0) (ci := 4) (P_R hP) (D_R hD) hK rfl rfl) rfl rfl hl.1 rfl (lv_room (Nat.le_of_ble_eq_true rfl)) dL_law_645 ⟨Nat.le_of_ble_eq_true rfl, Nat.le_of_ble_eq_true rfl⟩) hS hP hD addrM (fun H locs hP hD hS => ?_)
  refine lv_icmp_eq (tgt := 904) hx hb dL_law_648 (by decide) (fun _ => ?_) (fun cz => absurd rfl cz)
  exact hk S' T' hR' H locs ls hP hD hS hl
set_option maxHeartbeats 4000000 in
set_option maxRecDepth 100000 in
theorem law_21 {p : Program} {l : Launch} {e : Env} {s : State} {m : MethodId} {below : List Frame} {meth : Method} {c : Code} {b L : Nat} {xs : Nat → Int32} {G : GG} {hX : Nat} {aX : AX} {hM : Nat} {aM : Nat → Nat} {S : XS} {T : MS} {i : Nat} (hL : L ≤ 256) (C0 : lw_At p s m meth c b L xs) (hK : KK G s) (hi : i + 4 ≤ L) (hR : Rel S T)
    (hk : ∀ (S' : XS) (T' : MS), Rel S' T' → AtW p l e s m below meth c b G hX aX hM aM S' T' i 904) : AtW p l e s m below meth c b G hX aX hM aM S T i 653 := by
  intro H locs ls hP hD hS hl
  obtain ⟨hx, hb, hr, hml, hown, hts0, hX0, hbl, hlocks, hgv⟩ := C0
  have hown : s.vm.findClass RL = some m.cls := hown
  have hb : c.code = cL_law := hb
  have hts : ∀ w ∈ wsL_law, w.before #[Value.ref b] s = true := fun w h => hts0 w (wsL_law_in w h)
  have hbA : ¬ (fun q : Nat => s.heap.size ≤ q) b := Nat.not_le.mpr hbl
  obtain ⟨r, S', T', gx, gm, hR'⟩ := op_unsee  hR
  refine lv_aload_n hx hb dL_law_653 rfl (lv_at hl 1 rfl) ?_
  refine call_iL (va_runV (C := RX3) (As := []) (rest := []) ⟨hx, hb, hml, hown, hts⟩ (cfX_unsee l G hX aX S S'  r gx) (cwV 0 hts gL_law_X3_unsee rfl rfl rfl (by decide +kernel) ⟨Nat.le_of_ble_eq_true rfl, Nat.le_of_ble_eq_true rfl⟩) (preW_V (q0 := 0) (ci := 3) (P_L hP) (D_L hD) hK rfl rfl) rfl rfl hl.1 rfl (lv_room (Nat.le_of_ble_eq_true rfl)) dL_law_654 ⟨Nat.le_of_ble_eq_true rfl, Nat.le_of_ble_eq_true rfl⟩) hS hP hD addrX (fun H locs hP hD hS => ?_)
  refine lv_aload_n hx hb dL_law_657 rfl (lv_at hl 2 rfl) ?_
  refine call_iR (va_runV (C := RX4) (As := []) (rest := [.int r]) ⟨hx, hb, hml, hown, hts⟩ (cfM_unsee l G hM aM T T'  r gm) (cwV 0 hts gL_law_X4_unsee rfl rfl rfl (by decide +kernel) ⟨Nat.le_of_ble_eq_true rfl, Nat.le_of_ble_eq_true rfl⟩) (preW_V (q0 := 0) (ci := 4) (P_R hP) (D_R hD) hK rfl rfl) rfl rfl hl.1 rfl (lv_room (Nat.le_of_ble_eq_true rfl)) dL_law_658 ⟨Nat.le_of_ble_eq_true rfl, Nat.le_of_ble_eq_true rfl⟩) hS hP hD addrM (fun H locs hP hD hS => ?_)
  refine lv_icmp_eq (tgt := 904) hx hb dL_law_661 (by decide) (fun _ => ?_) (fun cz => absurd rfl cz)
  exact hk S' T' hR' H locs ls hP hD hS hl
set_option maxHeartbeats 4000000 in
set_option maxRecDepth 100000 in
theorem law_22 {p : Program} {l : Launch} {e : Env} {s : State} {m : MethodId} {below : List Frame} {meth : Method} {c : Code} {b L : Nat} {xs : Nat → Int32} {G : GG} {hX : Nat} {aX : AX} {hM : Nat} {aM : Nat → Nat} {S : XS} {T : MS} {i : Nat} (hL : L ≤ 256) (C0 : lw_At p s m meth c b L xs) (hK : KK G s) (hi : i + 4 ≤ L) (hR : Rel S T)
    (hk : ∀ (S' : XS) (T' : MS), Rel S' T' → AtW p l e s m below meth c b G hX aX hM aM S' T' i 904) : AtW p l e s m below meth c b G hX aX hM aM S T i 666 := by
  intro H locs ls hP hD hS hl
  obtain ⟨hx, hb, hr, hml, hown, hts0, hX0, hbl, hlocks, hgv⟩ := C0
  have hown : s.vm.findClass RL = some m.cls := hown
  have hb : c.code = cL_law := hb
  have hts : ∀ w ∈ wsL_law, w.before #[Value.ref b] s = true := fun w h => hts0 w (wsL_law_in w h)
  have hbA : ¬ (fun q : Nat => s.heap.size ≤ q) b := Nat.not_le.mpr hbl
  have v1 : vp_in (nI i + 1) L := by rw [nI_1]; exact vp_in_nI (by omega) (by omega)
  obtain ⟨r, S', T', gx, gm, hR'⟩ := op_did ((xs (Int32.toNatClampNeg (nI i + 1)))) hR
  refine lv_aload_n hx hb dL_law_666 rfl (lv_at hl 1 rfl) ?_
  refine lv_aload_n hx hb dL_law_667 rfl (lv_at hl 0 rfl) ?_
  refine lv_iload_n hx hb dL_law_668 rfl (lv_at hl 3 rfl) ?_
  refine lv_iconst (v := 1) hx hb dL_law_669 (by decide) ?_
  refine lv_iadd hx hb dL_law_670 ?_
  refine va_sld hx hb hX0 hbl hbA hS v1 dL_law_671 ?_
  refine call_iL (va_runV (C := RX3) (As := [.int (xs (Int32.toNatClampNeg (nI i + 1)))]) (rest := []) ⟨hx, hb, hml, hown, hts⟩ (cfX_did l G hX aX S S' ((xs (Int32.toNatClampNeg (nI i + 1)))) r gx) (cwV 1 hts gL_law_X3_did rfl rfl rfl (by decide +kernel) ⟨Nat.le_of_ble_eq_true rfl, Nat.le_of_ble_eq_true rfl⟩) (preW_V (q0 := 0) (ci := 3) (P_L hP) (D_L hD) hK rfl rfl) rfl rfl hl.1 rfl (lv_room (Nat.le_of_ble_eq_true rfl)) dL_law_672 ⟨Nat.le_of_ble_eq_true rfl, Nat.le_of_ble_eq_true rfl⟩) hS hP hD addrX (fun H locs hP hD hS => ?_)
  refine lv_aload_n hx hb dL_law_675 rfl (lv_at hl 2 rfl) ?_
  refine lv_aload_n hx hb dL_law_676 rfl (lv_at hl 0 rfl) ?_
  refine lv_iload_n hx hb dL_law_677 rfl (lv_at hl 3 rfl) ?_
  refine lv_iconst (v := 1) hx hb dL_law_678 (by decide) ?_
  refine lv_iadd hx hb dL_law_679 ?_
  refine va_sld hx hb hX0 hbl hbA hS v1 dL_law_680 ?_
  refine call_iR (va_runV (C := RX4) (As := [.int (xs (Int32.toNatClampNeg (nI i + 1)))]) (rest := [.int r]) ⟨hx, hb, hml, hown, hts⟩ (cfM_did l G hM aM T T' ((xs (Int32.toNatClampNeg (nI i + 1)))) r gm) (cwV 1 hts gL_law_X4_did rfl rfl rfl (by decide +kernel) ⟨Nat.le_of_ble_eq_true rfl, Nat.le_of_ble_eq_true rfl⟩) (preW_V (q0 := 0) (ci := 4) (P_R hP) (D_R hD) hK rfl rfl) rfl rfl hl.1 rfl (lv_room (Nat.le_of_ble_eq_true rfl)) dL_law_681 ⟨Nat.le_of_ble_eq_true rfl, Nat.le_of_ble_eq_true rfl⟩) hS hP hD addrM (fun H locs hP hD hS => ?_)
  refine lv_icmp_eq (tgt := 904) hx hb dL_law_684 (by decide) (fun _ => ?_) (fun cz => absurd rfl cz)
  exact hk S' T' hR' H locs ls hP hD hS hl
set_option maxHeartbeats 4000000 in
set_option maxRecDepth 100000 in
theorem law_23 {p : Program} {l : Launch} {e : Env} {s : State} {m : MethodId} {below : List Frame} {meth : Method} {c : Code} {b L : Nat} {xs : Nat → Int32} {G : GG} {hX : Nat} {aX : AX} {hM : Nat} {aM : Nat → Nat} {S : XS} {T : MS} {i : Nat} (hL : L ≤ 256) (C0 : lw_At p s m meth c b L xs) (hK : KK G s) (hi : i + 4 ≤ L) (hR : Rel S T)
    (hk : ∀ (S' : XS) (T' : MS), Rel S' T' → AtW p l e s m below meth c b G hX aX hM aM S' T' i 904) : AtW p l e s m below meth c b G hX aX hM aM S T i 689 := by
  intro H locs ls hP hD hS hl
  obtain ⟨hx, hb, hr, hml, hown, hts0, hX0, hbl, hlocks, hgv⟩ := C0
  have hown : s.vm.findClass RL = some m.cls := hown
  have hb : c.code = cL_law := hb
  have hts : ∀ w ∈ wsL_law, w.before #[Value.ref b] s = true := fun w h => hts0 w (wsL_law_in w h)
  have hbA : ¬ (fun q : Nat => s.heap.size ≤ q) b := Nat.not_le.mpr hbl
  have v1 : vp_in (nI i + 1) L := by rw [nI_1]; exact vp_in_nI (by omega) (by omega)
  have v2 : vp_in (nI i + 2) L := by rw [show nI i + 2 = nI (i + 2) from nI_add i 2]; exact vp_in_nI (by omega) (by omega)
  have v3 : vp_in (nI i + 3) L := by rw [show nI i + 3 = nI (i + 3) from nI_add i 3]; exact vp_in_nI (by omega) (by omega)
  obtain ⟨r, S', T', gx, gm, hR'⟩ := op_rests ((xs (Int32.toNatClampNeg (nI i + 1)))) ((xs (Int32.toNatClampNeg (nI i + 2)))) ((xs (Int32.toNatClampNeg (nI i + 3)))) hR
  refine lv_aload_n hx hb dL_law_689 rfl (lv_at hl 1 rfl) ?_
  refine lv_aload_n hx hb dL_law_690 rfl (lv_at hl 0 rfl) ?_
  refine lv_iload_n hx hb dL_law_691 rfl (lv_at hl 3 rfl) ?_
  refine lv_iconst (v := 1) hx hb dL_law_692 (by decide) ?_
  refine lv_iadd hx hb dL_law_693 ?_
  refine va_sld hx hb hX0 hbl hbA hS v1 dL_law_694 ?_
  refine lv_aload_n hx hb dL_law_695 rfl (lv_at hl 0 rfl) ?_
  refine lv_iload_n hx hb dL_law_696 rfl (lv_at hl 3 rfl) ?_
  refine lv_iconst (v := 2) hx hb dL_law_697 (by decide) ?_
  refine lv_iadd hx hb dL_law_698 ?_
  refine va_sld hx hb hX0 hbl hbA hS v2 dL_law_699 ?_
  refine lv_aload_n hx hb dL_law_700 rfl (lv_at hl 0 rfl) ?_
  refine lv_iload_n hx hb dL_law_701 rfl (lv_at hl 3 rfl) ?_
  refine lv_iconst (v := 3) hx hb dL_law_702 (by decide) ?_
  refine lv_iadd hx hb dL_law_703 ?_
  refine va_sld hx hb hX0 hbl hbA hS v3 dL_law_704 ?_
  refine call_iL (va_runV (C := RX3) (As := [.int (xs (Int32.toNatClampNeg (nI i + 1))), .int (xs (Int32.toNatClampNeg (nI i + 2))), .int (xs (Int32.toNatClampNeg (nI i + 3)))]) (rest := []) ⟨hx, hb, hml, hown, hts⟩ (cfX_rests l G hX aX S S' ((xs (Int32.toNatClampNeg (nI i + 1)))) ((xs (Int32.toNatClampNeg (nI i + 2)))) ((xs (Int32.toNatClampNeg (nI i + 3)))) r gx) (cwV 3 hts gL_law_X3_rests rfl rfl rfl (by decide +kernel) ⟨Nat.le_of_ble_eq_true rfl, Nat.le_of_ble_eq_true rfl⟩) (preW_V (q0 := 0) (ci := 3) (P_L hP) (D_L hD) hK rfl rfl) rfl rfl hl.1 rfl (lv_room (Nat.le_of_ble_eq_true rfl)) dL_law_705 ⟨Nat.le_of_ble_eq_true rfl, Nat.le_of_ble_eq_true rfl⟩) hS hP hD addrX (fun H locs hP hD hS => ?_)
  refine lv_aload_n hx hb dL_law_708 rfl (lv_at hl 2 rfl) ?_
  refine lv_aload_n hx hb dL_law_709 rfl (lv_at hl 0 rfl) ?_
  refine lv_iload_n hx hb dL_law_710 rfl (lv_at hl 3 rfl) ?_
  refine lv_iconst (v := 1) hx hb dL_law_711 (by decide) ?_
  refine lv_iadd hx hb dL_law_712 ?_
  refine va_sld hx hb hX0 hbl hbA hS v1 dL_law_713 ?_
  refine lv_aload_n hx hb dL_law_714 rfl (lv_at hl 0 rfl) ?_
  refine lv_iload_n hx hb dL_law_715 rfl (lv_at hl 3 rfl) ?_
  refine lv_iconst (v := 2) hx hb dL_law_716 (by decide) ?_
  refine lv_iadd hx hb dL_law_717 ?_
  refine va_sld hx hb hX0 hbl hbA hS v2 dL_law_718 ?_
  refine lv_aload_n hx hb dL_law_719 rfl (lv_at hl 0 rfl) ?_
  refine lv_iload_n hx hb dL_law_720 rfl (lv_at hl 3 rfl) ?_
  refine lv_iconst (v := 3) hx hb dL_law_721 (by decide) ?_
  refine lv_iadd hx hb dL_law_722 ?_
  refine va_sld hx hb hX0 hbl hbA hS v3 dL_law_723 ?_
  refine call_iR (va_runV (C := RX4) (As := [.int (xs (Int32.toNatClampNeg (nI i + 1))), .int (xs (Int32.toNatClampNeg (nI i + 2))), .int (xs (Int32.toNatClampNeg (nI i + 3)))]) (rest := [.int r]) ⟨hx, hb, hml, hown, hts⟩ (cfM_rests l G hM aM T T' ((xs (Int32.toNatClampNeg (nI i + 1)))) ((xs (Int32.toNatClampNeg (nI i + 2)))) ((xs (Int32.toNatClampNeg (nI i + 3)))) r gm) (cwV 3 hts gL_law_X4_rests rfl rfl rfl (by decide +kernel) ⟨Nat.le_of_ble_eq_true rfl, Nat.le_of_ble_eq_true rfl⟩) (preW_V (q0 := 0) (ci := 4) (P_R hP) (D_R hD) hK rfl rfl) rfl rfl hl.1 rfl (lv_room (Nat.le_of_ble_eq_true rfl)) dL_law_724 ⟨Nat.le_of_ble_eq_true rfl, Nat.le_of_ble_eq_true rfl⟩) hS hP hD addrM (fun H locs hP hD hS => ?_)
  refine lv_icmp_eq (tgt := 904) hx hb dL_law_727 (by decide) (fun _ => ?_) (fun cz => absurd rfl cz)
  exact hk S' T' hR' H locs ls hP hD hS hl
