/-! the law, case by case -/
set_option maxHeartbeats 4000000 in
set_option maxRecDepth 100000 in
theorem law_0 {p : Program} {l : Launch} {e : Env} {s : State} {m : MethodId} {below : List Frame} {meth : Method} {c : Code} {b L : Nat} {xs : Nat → Int32} {G : GG} {hX : Nat} {aX : AX} {hM : Nat} {aM : Nat → Nat} {S : XS} {T : MS} {i : Nat} (hL : L ≤ 256) (C0 : lw_At p s m meth c b L xs) (hK : KK G s) (hi : i + 4 ≤ L) (hR : Rel S T)
    (hk : ∀ (S' : XS) (T' : MS), Rel S' T' → AtW p l e s m below meth c b G hX aX hM aM S' T' i 904) : AtW p l e s m below meth c b G hX aX hM aM S T i 164 := by
  intro H locs ls hP hD hS hl
  obtain ⟨hx, hb, hr, hml, hown, hts0, hX0, hbl, hlocks, hgv⟩ := C0
  have hown : s.vm.findClass RL = some m.cls := hown
  have hb : c.code = cL_law := hb
  have hts : ∀ w ∈ wsL_law, w.before #[Value.ref b] s = true := fun w h => hts0 w (wsL_law_in w h)
  have hbA : ¬ (fun q : Nat => s.heap.size ≤ q) b := Nat.not_le.mpr hbl
  have v1 : vp_in (nI i + 1) L := by rw [nI_1]; exact vp_in_nI (by omega) (by omega)
  obtain ⟨r, S', T', gx, gm, hR'⟩ := op_write ((xs (Int32.toNatClampNeg (nI i + 1)))) hR
  refine lv_aload_n hx hb dL_law_164 rfl (lv_at hl 1 rfl) ?_
  refine lv_aload_n hx hb dL_law_165 rfl (lv_at hl 0 rfl) ?_
  refine lv_iload_n hx hb dL_law_166 rfl (lv_at hl 3 rfl) ?_
  refine lv_iconst (v := 1) hx hb dL_law_167 (by decide) ?_
  refine lv_iadd hx hb dL_law_168 ?_
  refine va_sld hx hb hX0 hbl hbA hS v1 dL_law_169 ?_
  refine call_iL (va_runV (C := RX3) (As := [.int (xs (Int32.toNatClampNeg (nI i + 1)))]) (rest := []) ⟨hx, hb, hml, hown, hts⟩ (cfX_write l G hX aX S S' ((xs (Int32.toNatClampNeg (nI i + 1)))) r gx) (cwV 1 hts gL_law_X3_write rfl rfl rfl (by decide +kernel) ⟨Nat.le_of_ble_eq_true rfl, Nat.le_of_ble_eq_true rfl⟩) (preW_V (q0 := 0) (ci := 3) (P_L hP) (D_L hD) hK rfl rfl) rfl rfl hl.1 rfl (lv_room (Nat.le_of_ble_eq_true rfl)) dL_law_170 ⟨Nat.le_of_ble_eq_true rfl, Nat.le_of_ble_eq_true rfl⟩) hS hP hD addrX (fun H locs hP hD hS => ?_)
  refine lv_aload_n hx hb dL_law_173 rfl (lv_at hl 2 rfl) ?_
  refine lv_aload_n hx hb dL_law_174 rfl (lv_at hl 0 rfl) ?_
  refine lv_iload_n hx hb dL_law_175 rfl (lv_at hl 3 rfl) ?_
  refine lv_iconst (v := 1) hx hb dL_law_176 (by decide) ?_
  refine lv_iadd hx hb dL_law_177 ?_
  refine va_sld hx hb hX0 hbl hbA hS v1 dL_law_178 ?_
  refine call_iR (va_runV (C := RX4) (As := [.int (xs (Int32.toNatClampNeg (nI i + 1)))]) (rest := [.int r]) ⟨hx, hb, hml, hown, hts⟩ (cfM_write l G hM aM T T' ((xs (Int32.toNatClampNeg (nI i + 1)))) r gm) (cwV 1 hts gL_law_X4_write rfl rfl rfl (by decide +kernel) ⟨Nat.le_of_ble_eq_true rfl, Nat.le_of_ble_eq_true rfl⟩) (preW_V (q0 := 0) (ci := 4) (P_R hP) (D_R hD) hK rfl rfl) rfl rfl hl.1 rfl (lv_room (Nat.le_of_ble_eq_true rfl)) dL_law_179 ⟨Nat.le_of_ble_eq_true rfl, Nat.le_of_ble_eq_true rfl⟩) hS hP hD addrM (fun H locs hP hD hS => ?_)
  refine lv_icmp_eq (tgt := 904) hx hb dL_law_182 (by decide) (fun _ => ?_) (fun cz => absurd rfl cz)
  exact hk S' T' hR' H locs ls hP hD hS hl
set_option maxHeartbeats 4000000 in
set_option maxRecDepth 100000 in
theorem law_1 {p : Program} {l : Launch} {e : Env} {s : State} {m : MethodId} {below : List Frame} {meth : Method} {c : Code} {b L : Nat} {xs : Nat → Int32} {G : GG} {hX : Nat} {aX : AX} {hM : Nat} {aM : Nat → Nat} {S : XS} {T : MS} {i : Nat} (hL : L ≤ 256) (C0 : lw_At p s m meth c b L xs) (hK : KK G s) (hi : i + 4 ≤ L) (hR : Rel S T)
    (hk : ∀ (S' : XS) (T' : MS), Rel S' T' → AtW p l e s m below meth c b G hX aX hM aM S' T' i 904) : AtW p l e s m below meth c b G hX aX hM aM S T i 187 := by
  intro H locs ls hP hD hS hl
  obtain ⟨hx, hb, hr, hml, hown, hts0, hX0, hbl, hlocks, hgv⟩ := C0
  have hown : s.vm.findClass RL = some m.cls := hown
  have hb : c.code = cL_law := hb
  have hts : ∀ w ∈ wsL_law, w.before #[Value.ref b] s = true := fun w h => hts0 w (wsL_law_in w h)
  have hbA : ¬ (fun q : Nat => s.heap.size ≤ q) b := Nat.not_le.mpr hbl
  obtain ⟨r, S', T', gx, gm, hR'⟩ := op_wipe  hR
  refine lv_aload_n hx hb dL_law_187 rfl (lv_at hl 1 rfl) ?_
  refine call_iL (va_runV (C := RX3) (As := []) (rest := []) ⟨hx, hb, hml, hown, hts⟩ (cfX_wipe l G hX aX S S'  r gx) (cwV 0 hts gL_law_X3_wipe rfl rfl rfl (by decide +kernel) ⟨Nat.le_of_ble_eq_true rfl, Nat.le_of_ble_eq_true rfl⟩) (preW_V (q0 := 0) (ci := 3) (P_L hP) (D_L hD) hK rfl rfl) rfl rfl hl.1 rfl (lv_room (Nat.le_of_ble_eq_true rfl)) dL_law_188 ⟨Nat.le_of_ble_eq_true rfl, Nat.le_of_ble_eq_true rfl⟩) hS hP hD addrX (fun H locs hP hD hS => ?_)
  refine lv_aload_n hx hb dL_law_191 rfl (lv_at hl 2 rfl) ?_
  refine call_iR (va_runV (C := RX4) (As := []) (rest := [.int r]) ⟨hx, hb, hml, hown, hts⟩ (cfM_wipe l G hM aM T T'  r gm) (cwV 0 hts gL_law_X4_wipe rfl rfl rfl (by decide +kernel) ⟨Nat.le_of_ble_eq_true rfl, Nat.le_of_ble_eq_true rfl⟩) (preW_V (q0 := 0) (ci := 4) (P_R hP) (D_R hD) hK rfl rfl) rfl rfl hl.1 rfl (lv_room (Nat.le_of_ble_eq_true rfl)) dL_law_192 ⟨Nat.le_of_ble_eq_true rfl, Nat.le_of_ble_eq_true rfl⟩) hS hP hD addrM (fun H locs hP hD hS => ?_)
  refine lv_icmp_eq (tgt := 904) hx hb dL_law_195 (by decide) (fun _ => ?_) (fun cz => absurd rfl cz)
  exact hk S' T' hR' H locs ls hP hD hS hl
