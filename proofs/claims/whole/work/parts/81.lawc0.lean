/-! the law, case by case -/
set_option maxHeartbeats 4000000 in
set_option maxRecDepth 100000 in
theorem law_0 {p : Program} {l : Launch} {e : Env} {s : State} {m : MethodId} {below : List Frame} {meth : Method} {c : Code} {b L : Nat} {xs : Nat → Int32} {G : GG} {hX : Nat} {aX : AX} {hM : Nat} {aM : Nat → Nat} {S : XS} {T : MS} {i : Nat} (hL : L ≤ 256) (C0 : lw_At p s m meth c b L xs) (hK : KK G s) (hi : i + 4 ≤ L) (hR : Rel S T)
    (hk : ∀ (S' : XS) (T' : MS), Rel S' T' → AtW p l e s m below meth c b G hX aX hM aM S' T' i 904) : AtW p l e s m below meth c b G hX aX hM aM S T i 164 := by
  intro H locs ls hP hD hS hl
  obtain ⟨hx, hb, hr, hml, hown, hts0, hX0, hbl, hlocks, hgv⟩ := C0
  have hown : s.vm.findClass RL = some m.cls := hown
  have hb : c.code = cL_law := hb
  have hts : ∀ w ∈ wsL_law, w.before #[Value.ref b] s = true := fun w h => hts0 w (wsL_law_in w h)
  have hbA : ¬ (fun q : Nat => s.heap.size ≤ q) b := Nat.not_le.mpr hbl
  have v1 : vp_in (nI i + 1) L := by rw [nI_1]; exact vp_in_nI (by omega) (by omega)
  obtain ⟨r, S', T', gx, gm, hR'⟩ := op_write ((xs (Int32.toNatClampNeg (nI i + 1)))) hR
  refine lv_aload_n hx hb dL_law_164 rfl (lv_at hl 1 rfl) ?_
  refine lv_aload_n hx hb dL_law_165 rfl (lv_at hl 0 rfl) ?_
  refine lv_iload_n hx hb dL_law_166 rfl (lv_at hl 3 rfl) ?_
  refine lv_iconst (v := 1) hx hb dL_law_167 (by decide) ?_
  refine lv_iadd hx hb dL_law_168 ?_
  refine va_sld hx hb hX0 hbl hbA hS v1 dL_law_169 ?_
  refine call_iL (va_runV (C := RX3) (As := [.int (xs (Int32.toNatClampNeg (nI i + 1)))]) (rest := []) ⟨hx, hb, hml, hown, hts⟩ (cfX_write l G hX aX S S' ((xs (Int32.toNatClampNeg (nI i + 1)))) r gx) (cwV 1 hts gL_law_X3_write rfl rfl rfl (by decide +kernel) ⟨Nat.le_of_ble_eq_true rfl, Nat.le_of_ble_eq_true rfl⟩) (preW_V (q0 := 0) (ci := 3) (P_L hP) (D_L hD) hK rfl rfl) rfl rfl hl.1 rfl (lv_room (Nat.le_of_ble_eq_true rfl)) dL_law_170 ⟨Nat.le_of_ble_eq_true rfl, Nat.le_of_ble_eq_true rfl⟩) hS hP hD addrX (fun H locs hP hD hS => ?_)
  refine lv_aload_n hx hb dL_law_173 rfl (lv_at hl 2 rfl) ?_
  refine lv_aload_n hx hb dL_law_174 rfl (lv_at hl 0 rfl) ?_
  refine lv_iload_n hx hb dL_law_175 rfl (lv_at hl 3 rfl) ?_
  refine lv_iconst (v := 1) hx hb dL_law_176 (by decide) ?_
  refine lv_iadd hx hb dL_law_177 ?_
  refine va_sld hx hb hX0 hbl hbA hS v1 dL_law_178 ?_
  refine call_iR (va_runV (C := RX4) (As := [.int (xs (Int32.toNatClampNeg (nI i + 1)))]) (rest := [.int r]) ⟨hx, hb, hml, hown, hts⟩ (cfM_write l G hM aM T T' ((xs (Int32.toNatClampNeg (nI i + 1)))) r gm) (cwV 1 hts gL_law_X4_write rfl rfl rfl (by decide +kernel) ⟨Nat.le_of_ble_eq_true rfl, Nat.le_of_ble_eq_true rfl⟩) (preW_V (q0 := 0) (ci := 4) (P_R hP) (D_R hD) hK rfl rfl) rfl rfl hl.1 rfl (lv_room (Nat.le_of_ble_eq_true rfl)) dL_law_179 ⟨Nat.le_of_ble_eq_true rfl, Nat.le_of_ble_eq_true rfl⟩) hS hP hD addrM (fun H locs hP hD hS => ?_)
  refine lv_icmp_eq (tgt := 904) hx hb dL_law_182 (by decide) (fun _ => ?_) (fun cz => absurd rfl cz)
  exact hk S' T' hR' H locs ls hP hD hS hl
set_option maxHeartbeats 4000000 in
set_option maxRecDepth 100000 in
theorem law_1 {p : Program} {l : Launch} {e : Env} {s : State} {m : MethodId} {below : List Frame} {meth : Method} {c : Code} {b L : Nat} {xs : Nat → Int32} {G : GG} {hX : Nat} {aX : AX} {hM : Nat} {aM : Nat → Nat} {S : XS} {T : MS} {i : Nat} (hL : L ≤ 256) (C0 : lw_At p s m meth c b L xs) (hK : KK G s) (hi : i + 4 ≤ L) (hR : Rel S T)
    (hk : ∀ (S' : XS) (T' : MS), Rel S' T' → AtW p l e s m below meth c b G hX aX hM aM S' T' i 904) : AtW p l e s m below meth c b G hX aX hM aM S T i 187 := by
  intro H locs ls hP hD hS hl
  obtain ⟨hx, hb, hr, hml, hown, hts0, hX0, hbl, hlocks, hgv⟩ := C0
  have hown : s.vm.findClass RL = some m.cls := hown
  have hb : c.code = cL_law := hb
  have hts : ∀ w ∈ wsL_law, w.before #[Value.ref b] s = true := fun w h => hts0 w (wsL_law_in w h)
  have hbA : ¬ (fun q : Nat => s.heap.size ≤ q) b := Nat.not_le.mpr hbl
  obtain ⟨r, S', T', gx, gm, hR'⟩ := op_wipe  hR
  refine lv_aload_n hx hb dL_law_187 rfl (lv_at hl 1 rfl) ?_
  refine call_iL (va_runV (C := RX3) (As := []) (rest := []) ⟨hx, hb, hml, hown, hts⟩ (cfX_wipe l G hX aX S S'  r gx) (cwV 0 hts gL_law_X3_wipe rfl rfl rfl (by decide +kernel) ⟨Nat.le_of_ble_eq_true rfl, Nat.le_of_ble_eq_true rfl⟩) (preW_V (q0 := 0) (ci := 3) (P_L hP) (D_L hD) hK rfl rfl) rfl rfl hl.1 rfl (lv_room (Nat.le_of_ble_eq_true rfl)) dL_law_188 ⟨Nat.le_of_ble_eq_true rfl, Nat.le_of_ble_eq_true rfl⟩) hS hP hD addrX (fun H locs hP hD hS => ?_)
  refine lv_aload_n hx hb dL_law_191 rfl (lv_at hl 2 rfl) ?_
  refine call_iR (va_runV (C := RX4) (As := []) (rest := [.int r]) ⟨hx, hb, hml, hown, hts⟩ (cfM_wipe l G hM aM T T'  r gm) (cwV 0 hts gL_law_X4_wipe rfl rfl rfl (by decide +kernel) ⟨Nat.le_of_ble_eq_true rfl, Nat.le_of_ble_eq_true rfl⟩) (preW_V (q0 := 0) (ci := 4) (P_R hP) (D_R hD) hK rfl rfl) rfl rfl hl.1 rfl (lv_room (Nat.le_of_ble_eq_true rfl)) dL_law_192 ⟨Nat.le_of_ble_eq_true rfl, Nat.le_of_ble_eq_true rfl⟩) hS hP hD addrM (fun H locs hP hD hS => ?_)
  refine lv_icmp_eq (tgt := 904) hx hb dL_law_195 (by decide) (fun _ => ?_) (fun cz => absurd rfl cz)
  exact hk S' T' hR' H locs ls hP hD hS hl
set_option maxHeartbeats 4000000 in
set_option maxRecDepth 100000 in
theorem law_2 {p : Program} {l : Launch} {e : Env} {s : State} {m : MethodId} {below : List Frame} {meth : Method} {c : Code} {b L : Nat} {xs : Nat → Int32} {G : GG} {hX : Nat} {aX : AX} {hM : Nat} {aM : Nat → Nat} {S : XS} {T : MS} {i : Nat} (hL : L ≤ 256) (C0 : lw_At p s m meth c b L xs) (hK : KK G s) (hi : i + 4 ≤ L) (hR : Rel S T)
    (hk : ∀ (S' : XS) (T' : MS), Rel S' T' → AtW p l e s m below meth c b G hX aX hM aM S' T' i 904) : AtW p l e s m below meth c b G hX aX hM aM S T i 200 := by
  intro H locs ls hP hD hS hl
  obtain ⟨hx, hb, hr, hml, hown, hts0, hX0, hbl, hlocks, hgv⟩ := C0
  have hown : s.vm.findClass RL = some m.cls := hown
  have hb : c.code = cL_law := hb
  have hts : ∀ w ∈ wsL_law, w.before #[Value.ref b] s = true := fun w h => hts0 w (wsL_law_in w h)
  have hbA : ¬ (fun q : Nat => s.heap.size ≤ q) b := Nat.not_le.mpr hbl
  obtain ⟨r, S', T', gx, gm, hR'⟩ := op_fault  hR
  refine lv_aload_n hx hb dL_law_200 rfl (lv_at hl 1 rfl) ?_
  refine call_iL (va_runV (C := RX3) (As := []) (rest := []) ⟨hx, hb, hml, hown, hts⟩ (cfX_fault l G hX aX S S'  r gx) (cwV 0 hts gL_law_X3_fault rfl rfl rfl (by decide +kernel) ⟨Nat.le_of_ble_eq_true rfl, Nat.le_of_ble_eq_true rfl⟩) (preW_V (q0 := 0) (ci := 3) (P_L hP) (D_L hD) hK rfl rfl) rfl rfl hl.1 rfl (lv_room (Nat.le_of_ble_eq_true rfl)) dL_law_201 ⟨Nat.le_of_ble_eq_true rfl, Nat.le_of_ble_eq_true rfl⟩) hS hP hD addrX (fun H locs hP hD hS => ?_)
  refine lv_aload_n hx hb dL_law_204 rfl (lv_at hl 2 rfl) ?_
  refine call_iR (va_runV (C := RX4) (As := []) (rest := [.int r]) ⟨hx, hb, hml, hown, hts⟩ (cfM_fault l G hM aM T T'  r gm) (cwV 0 hts gL_law_X4_fault rfl rfl rfl (by decide +kernel) ⟨Nat.le_of_ble_eq_true rfl, Nat.le_of_ble_eq_true rfl⟩) (preW_V (q0 := 0) (ci := 4) (P_R hP) (D_R hD) hK rfl rfl) rfl rfl hl.1 rfl (lv_room (Nat.le_of_ble_eq_true rfl)) dL_law_205 ⟨Nat.le_of_ble_eq_true rfl, Nat.le_of_ble_eq_true rfl⟩) hS hP hD addrM (fun H locs hP hD hS => ?_)
  refine lv_icmp_eq (tgt := 904) hx hb dL_law_208 (by decide) (fun _ => ?_) (fun cz => absurd rfl cz)
  exact hk S' T' hR' H locs ls hP hD hS hl
set_option maxHeartbeats 4000000 in
set_option maxRecDepth 100000 in
theorem law_3 {p : Program} {l : Launch} {e : Env} {s : State} {m : MethodId} {below : List Frame} {meth : Method} {c : Code} {b L : Nat} {xs : Nat → Int32} {G : GG} {hX : Nat} {aX : AX} {hM : Nat} {aM : Nat → Nat} {S : XS} {T : MS} {i : Nat} (hL : L ≤ 256) (C0 : lw_At p s m meth c b L xs) (hK : KK G s) (hi : i + 4 ≤ L) (hR : Rel S T)
    (hk : ∀ (S' : XS) (T' : MS), Rel S' T' → AtW p l e s m below meth c b G hX aX hM aM S' T' i 904) : AtW p l e s m below meth c b G hX aX hM aM S T i 213 := by
  intro H locs ls hP hD hS hl
  obtain ⟨hx, hb, hr, hml, hown, hts0, hX0, hbl, hlocks, hgv⟩ := C0
  have hown : s.vm.findClass RL = some m.cls := hown
  have hb : c.code = cL_law := hb
  have hts : ∀ w ∈ wsL_law, w.before #[Value.ref b] s = true := fun w h => hts0 w (wsL_law_in w h)
  have hbA : ¬ (fun q : Nat => s.heap.size ≤ q) b := Nat.not_le.mpr hbl
  obtain ⟨r, S', T', gx, gm, hR'⟩ := op_county  hR
  refine lv_aload_n hx hb dL_law_213 rfl (lv_at hl 1 rfl) ?_
  refine call_iL (va_runV (C := RX3) (As := []) (rest := []) ⟨hx, hb, hml, hown, hts⟩ (cfX_county l G hX aX S S'  r gx) (cwV 0 hts gL_law_X3_county rfl rfl rfl (by decide +kernel) ⟨Nat.le_of_ble_eq_true rfl, Nat.le_of_ble_eq_true rfl⟩) (preW_V (q0 := 0) (ci := 3) (P_L hP) (D_L hD) hK rfl rfl) rfl rfl hl.1 rfl (lv_room (Nat.le_of_ble_eq_true rfl)) dL_law_214 ⟨Nat.le_of_ble_eq_true rfl, Nat.le_of_ble_eq_true rfl⟩) hS hP hD addrX (fun H locs hP hD hS => ?_)
  refine lv_aload_n hx hb dL_law_217 rfl (lv_at hl 2 rfl) ?_
  refine call_iR (va_runV (C := RX4) (As := []) (rest := [.int r]) ⟨hx, hb, hml, hown, hts⟩ (cfM_county l G hM aM T T'  r gm) (cwV 0 hts gL_law_X4_county rfl rfl rfl (by decide +kernel) ⟨Nat.le_of_ble_eq_true rfl, Nat.le_of_ble_eq_true rfl⟩) (preW_V (q0 := 0) (ci := 4) (P_R hP) (D_R hD) hK rfl rfl) rfl rfl hl.1 rfl (lv_room (Nat.le_of_ble_eq_true rfl)) dL_law_218 ⟨Nat.le_of_ble_eq_true rfl, Nat.le_of_ble_eq_true rfl⟩) hS hP hD addrM (fun H locs hP hD hS => ?_)
  refine lv_icmp_eq (tgt := 904) hx hb dL_law_221 (by decide) (fun _ => ?_) (fun cz => absurd rfl cz)
  exact hk S' T' hR' H locs ls hP hD hS hl
set_option maxHeartbeats 4000000 in
set_option maxRecDepth 100000 in
theorem law_4 {p : Program} {l : Launch} {e : Env} {s : State} {m : MethodId} {below : List Frame} {meth : Method} {c : Code} {b L : Nat} {xs : Nat → Int32} {G : GG} {hX : Nat} {aX : AX} {hM : Nat} {aM : Nat → Nat} {S : XS} {T : MS} {i : Nat} (hL : L ≤ 256) (C0 : lw_At p s m meth c b L xs) (hK : KK G s) (hi : i + 4 ≤ L) (hR : Rel S T)
    (hk : ∀ (S' : XS) (T' : MS), Rel S' T' → AtW p l e s m below meth c b G hX aX hM aM S' T' i 904) : AtW p l e s m below meth c b G hX aX hM aM S T i 226 := by
  intro H locs ls hP hD hS hl
  obtain ⟨hx, hb, hr, hml, hown, hts0, hX0, hbl, hlocks, hgv⟩ := C0
  have hown : s.vm.findClass RL = some m.cls := hown
  have hb : c.code = cL_law := hb
  have hts : ∀ w ∈ wsL_law, w.before #[Value.ref b] s = true := fun w h => hts0 w (wsL_law_in w h)
  have hbA : ¬ (fun q : Nat => s.heap.size ≤ q) b := Nat.not_le.mpr hbl
  have v1 : vp_in (nI i + 1) L := by rw [nI_1]; exact vp_in_nI (by omega) (by omega)
  obtain ⟨r, S', T', gx, gm, hR'⟩ := op_about ((xs (Int32.toNatClampNeg (nI i + 1)))) hR
  refine lv_aload_n hx hb dL_law_226 rfl (lv_at hl 1 rfl) ?_
  refine lv_aload_n hx hb dL_law_227 rfl (lv_at hl 0 rfl) ?_
  refine lv_iload_n hx hb dL_law_228 rfl (lv_at hl 3 rfl) ?_
  refine lv_iconst (v := 1) hx hb dL_law_229 (by decide) ?_
  refine lv_iadd hx hb dL_law_230 ?_
  refine va_sld hx hb hX0 hbl hbA hS v1 dL_law_231 ?_
  refine call_iL (va_runV (C := RX3) (As := [.int (xs (Int32.toNatClampNeg (nI i + 1)))]) (rest := []) ⟨hx, hb, hml, hown, hts⟩ (cfX_about l G hX aX S S' ((xs (Int32.toNatClampNeg (nI i + 1)))) r gx) (cwV 1 hts gL_law_X3_about rfl rfl rfl (by decide +kernel) ⟨Nat.le_of_ble_eq_true rfl, Nat.le_of_ble_eq_true rfl⟩) (preW_V (q0 := 0) (ci := 3) (P_L hP) (D_L hD) hK rfl rfl) rfl rfl hl.1 rfl (lv_room (Nat.le_of_ble_eq_true rfl)) dL_law_232 ⟨Nat.le_of_ble_eq_true rfl, Nat.le_of_ble_eq_true rfl⟩) hS hP hD addrX (fun H locs hP hD hS => ?_)
  refine lv_aload_n hx hb dL_law_235 rfl (lv_at hl 2 rfl) ?_
  refine lv_aload_n hx hb dL_law_236 rfl (lv_at hl 0 rfl) ?_
  refine lv_iload_n hx hb dL_law_237 rfl (lv_at hl 3 rfl) ?_
  refine lv_iconst (v := 1) hx hb dL_law_238 (by decide) ?_
  refine lv_iadd hx hb dL_law_239 ?_
  refine va_sld hx hb hX0 hbl hbA hS v1 dL_law_240 ?_
  refine call_iR (va_runV (C := RX4) (As := [.int (xs (Int32.toNatClampNeg (nI i + 1)))]) (rest := [.int r]) ⟨hx, hb, hml, hown, hts⟩ (cfM_about l G hM aM T T' ((xs (Int32.toNatClampNeg (nI i + 1)))) r gm) (cwV 1 hts gL_law_X4_about rfl rfl rfl (by decide +kernel) ⟨Nat.le_of_ble_eq_true rfl, Nat.le_of_ble_eq_true rfl⟩) (preW_V (q0 := 0) (ci := 4) (P_R hP) (D_R hD) hK rfl rfl) rfl rfl hl.1 rfl (lv_room (Nat.le_of_ble_eq_true rfl)) dL_law_241 ⟨Nat.le_of_ble_eq_true rfl, Nat.le_of_ble_eq_true rfl⟩) hS hP hD addrM (fun H locs hP hD hS => ?_)
  refine lv_icmp_eq (tgt := 904) hx hb dL_law_244 (by decide) (fun _ => ?_) (fun cz => absurd rfl cz)
  exact hk S' T' hR' H locs ls hP hD hS hl
set_option maxHeartbeats 4000000 in
set_option maxRecDepth 100000 in
theorem law_5 {p : Program} {l : Launch} {e : Env} {s : State} {m : MethodId} {below : List Frame} {meth : Method} {c : Code} {b L : Nat} {xs : Nat → Int32} {G : GG} {hX : Nat} {aX : AX} {hM : Nat} {aM : Nat → Nat} {S : XS} {T : MS} {i : Nat} (hL : L ≤ 256) (C0 : lw_At p s m meth c b L xs) (hK : KK G s) (hi : i + 4 ≤ L) (hR : Rel S T)
    (hk : ∀ (S' : XS) (T' : MS), Rel S' T' → AtW p l e s m below meth c b G hX aX hM aM S' T' i 904) : AtW p l e s m below meth c b G hX aX hM aM S T i 249 := by
  intro H locs ls hP hD hS hl
  obtain ⟨hx, hb, hr, hml, hown, hts0, hX0, hbl, hlocks, hgv⟩ := C0
  have hown : s.vm.findClass RL = some m.cls := hown
  have hb : c.code = cL_law := hb
  have hts : ∀ w ∈ wsL_law, w.before #[Value.ref b] s = true := fun w h => hts0 w (wsL_law_in w h)
  have hbA : ¬ (fun q : Nat => s.heap.size ≤ q) b := Nat.not_le.mpr hbl
  have v1 : vp_in (nI i + 1) L := by rw [nI_1]; exact vp_in_nI (by omega) (by omega)
  have v2 : vp_in (nI i + 2) L := by rw [show nI i + 2 = nI (i + 2) from nI_add i 2]; exact vp_in_nI (by omega) (by omega)
  obtain ⟨r, S', T', gx, gm, hR'⟩ := op_person ((xs (Int32.toNatClampNeg (nI i + 1)))) ((xs (Int32.toNatClampNeg (nI i + 2)))) hR
  refine lv_aload_n hx hb dL_law_249 rfl (lv_at hl 1 rfl) ?_
  refine lv_aload_n hx hb dL_law_250 rfl (lv_at hl 0 rfl) ?_
  refine lv_iload_n hx hb dL_law_251 rfl (lv_at hl 3 rfl) ?_
  refine lv_iconst (v := 1) hx hb dL_law_252 (by decide) ?_
  refine lv_iadd hx hb dL_law_253 ?_
  refine va_sld hx hb hX0 hbl hbA hS v1 dL_law_254 ?_
  refine lv_aload_n hx hb dL_law_255 rfl (lv_at hl 0 rfl) ?_
  refine lv_iload_n hx hb dL_law_256 rfl (lv_at hl 3 rfl) ?_
  refine lv_iconst (v := 2) hx hb dL_law_257 (by decide) ?_
  refine lv_iadd hx hb dL_law_258 ?_
  refine va_sld hx hb hX0 hbl hbA hS v2 dL_law_259 ?_
  refine call_iL (va_runV (C := RX3) (As := [.int (xs (Int32.toNatClampNeg (nI i + 1))), .int (xs (Int32.toNatClampNeg (nI i + 2)))]) (rest := []) ⟨hx, hb, hml, hown, hts⟩ (cfX_person l G hX aX S S' ((xs (Int32.toNatClampNeg (nI i + 1)))) ((xs (Int32.toNatClampNeg (nI i + 2)))) r gx) (cwV 2 hts gL_law_X3_person rfl rfl rfl (by decide +kernel) ⟨Nat.le_of_ble_eq_true rfl, Nat.le_of_ble_eq_true rfl⟩) (preW_V (q0 := 0) (ci := 3) (P_L hP) (D_L hD) hK rfl rfl) rfl rfl hl.1 rfl (lv_room (Nat.le_of_ble_eq_true rfl)) dL_law_260 ⟨Nat.le_of_ble_eq_true rfl, Nat.le_of_ble_eq_true rfl⟩) hS hP hD addrX (fun H locs hP hD hS => ?_)
  refine lv_aload_n hx hb dL_law_263 rfl (lv_at hl 2 rfl) ?_
  refine lv_aload_n hx hb dL_law_264 rfl (lv_at hl 0 rfl) ?_
  refine lv_iload_n hx hb dL_law_265 rfl (lv_at hl 3 rfl) ?_
  refine lv_iconst (v := 1) hx hb dL_law_266 (by decide) ?_
  refine lv_iadd hx hb dL_law_267 ?_
  refine va_sld hx hb hX0 hbl hbA hS v1 dL_law_268 ?_
  refine lv_aload_n hx hb dL_law_269 rfl (lv_at hl 0 rfl) ?_
  refine lv_iload_n hx hb dL_law_270 rfl (lv_at hl 3 rfl) ?_
  refine lv_iconst (v := 2) hx hb dL_law_271 (by decide) ?_
  refine lv_iadd hx hb dL_law_272 ?_
  refine va_sld hx hb hX0 hbl hbA hS v2 dL_law_273 ?_
  refine call_iR (va_runV (C := RX4) (As := [.int (xs (Int32.toNatClampNeg (nI i + 1))), .int (xs (Int32.toNatClampNeg (nI i + 2)))]) (rest := [.int r]) ⟨hx, hb, hml, hown, hts⟩ (cfM_person l G hM aM T T' ((xs (Int32.toNatClampNeg (nI i + 1)))) ((xs (Int32.toNatClampNeg (nI i + 2)))) r gm) (cwV 2 hts gL_law_X4_person rfl rfl rfl (by decide +kernel) ⟨Nat.le_of_ble_eq_true rfl, Nat.le_of_ble_eq_true rfl⟩) (preW_V (q0 := 0) (ci := 4) (P_R hP) (D_R hD) hK rfl rfl) rfl rfl hl.1 rfl (lv_room (Nat.le_of_ble_eq_true rfl)) dL_law_274 ⟨Nat.le_of_ble_eq_true rfl, Nat.le_of_ble_eq_true rfl⟩) hS hP hD addrM (fun H locs hP hD hS => ?_)
  refine lv_icmp_eq (tgt := 904) hx hb dL_law_277 (by decide) (fun _ => ?_) (fun cz => absurd rfl cz)
  exact hk S' T' hR' H locs ls hP hD hS hl
set_option maxHeartbeats 4000000 in
set_option maxRecDepth 100000 in
theorem law_6 {p : Program} {l : Launch} {e : Env} {s : State} {m : MethodId} {below : List Frame} {meth : Method} {c : Code} {b L : Nat} {xs : Nat → Int32} {G : GG} {hX : Nat} {aX : AX} {hM : Nat} {aM : Nat → Nat} {S : XS} {T : MS} {i : Nat} (hL : L ≤ 256) (C0 : lw_At p s m meth c b L xs) (hK : KK G s) (hi : i + 4 ≤ L) (hR : Rel S T)
    (hk : ∀ (S' : XS) (T' : MS), Rel S' T' → AtW p l e s m below meth c b G hX aX hM aM S' T' i 904) : AtW p l e s m below meth c b G hX aX hM aM S T i 282 := by
  intro H locs ls hP hD hS hl
  obtain ⟨hx, hb, hr, hml, hown, hts0, hX0, hbl, hlocks, hgv⟩ := C0
  have hown : s.vm.findClass RL = some m.cls := hown
  have hb : c.code = cL_law := hb
  have hts : ∀ w ∈ wsL_law, w.before #[Value.ref b] s = true := fun w h => hts0 w (wsL_law_in w h)
  have hbA : ¬ (fun q : Nat => s.heap.size ≤ q) b := Nat.not_le.mpr hbl
  have v1 : vp_in (nI i + 1) L := by rw [nI_1]; exact vp_in_nI (by omega) (by omega)
  obtain ⟨r, S', T', gx, gm, hR'⟩ := op_take ((xs (Int32.toNatClampNeg (nI i + 1)))) hR
  refine lv_aload_n hx hb dL_law_282 rfl (lv_at hl 1 rfl) ?_
  refine lv_aload_n hx hb dL_law_283 rfl (lv_at hl 0 rfl) ?_
  refine lv_iload_n hx hb dL_law_284 rfl (lv_at hl 3 rfl) ?_
  refine lv_iconst (v := 1) hx hb dL_law_285 (by decide) ?_
  refine lv_iadd hx hb dL_law_286 ?_
  refine va_sld hx hb hX0 hbl hbA hS v1 dL_law_287 ?_
  refine call_iL (va_runV (C := RX3) (As := [.int (xs (Int32.toNatClampNeg (nI i + 1)))]) (rest := []) ⟨hx, hb, hml, hown, hts⟩ (cfX_take l G hX aX S S' ((xs (Int32.toNatClampNeg (nI i + 1)))) r gx) (cwV 1 hts gL_law_X3_take rfl rfl rfl (by decide +kernel) ⟨Nat.le_of_ble_eq_true rfl, Nat.le_of_ble_eq_true rfl⟩) (preW_V (q0 := 0) (ci := 3) (P_L hP) (D_L hD) hK rfl rfl) rfl rfl hl.1 rfl (lv_room (Nat.le_of_ble_eq_true rfl)) dL_law_288 ⟨Nat.le_of_ble_eq_true rfl, Nat.le_of_ble_eq_true rfl⟩) hS hP hD addrX (fun H locs hP hD hS => ?_)
  refine lv_aload_n hx hb dL_law_291 rfl (lv_at hl 2 rfl) ?_
  refine lv_aload_n hx hb dL_law_292 rfl (lv_at hl 0 rfl) ?_
  refine lv_iload_n hx hb dL_law_293 rfl (lv_at hl 3 rfl) ?_
  refine lv_iconst (v := 1) hx hb dL_law_294 (by decide) ?_
  refine lv_iadd hx hb dL_law_295 ?_
  refine va_sld hx hb hX0 hbl hbA hS v1 dL_law_296 ?_
  refine call_iR (va_runV (C := RX4) (As := [.int (xs (Int32.toNatClampNeg (nI i + 1)))]) (rest := [.int r]) ⟨hx, hb, hml, hown, hts⟩ (cfM_take l G hM aM T T' ((xs (Int32.toNatClampNeg (nI i + 1)))) r gm) (cwV 1 hts gL_law_X4_take rfl rfl rfl (by decide +kernel) ⟨Nat.le_of_ble_eq_true rfl, Nat.le_of_ble_eq_true rfl⟩) (preW_V (q0 := 0) (ci := 4) (P_R hP) (D_R hD) hK rfl rfl) rfl rfl hl.1 rfl (lv_room (Nat.le_of_ble_eq_true rfl)) dL_law_297 ⟨Nat.le_of_ble_eq_true rfl, Nat.le_of_ble_eq_true rfl⟩) hS hP hD addrM (fun H locs hP hD hS => ?_)
  refine lv_icmp_eq (tgt := 904) hx hb dL_law_300 (by decide) (fun _ => ?_) (fun cz => absurd rfl cz)
  exact hk S' T' hR' H locs ls hP hD hS hl
set_option maxHeartbeats 4000000 in
set_option maxRecDepth 100000 in
theorem law_7 {p : Program} {l : Launch} {e : Env} {s : State} {m : MethodId} {below : List Frame} {meth : Method} {c : Code} {b L : Nat} {xs : Nat → Int32} {G : GG} {hX : Nat} {aX : AX} {hM : Nat} {aM : Nat → Nat} {S : XS} {T : MS} {i : Nat} (hL : L ≤ 256) (C0 : lw_At p s m meth c b L xs) (hK : KK G s) (hi : i + 4 ≤ L) (hR : Rel S T)
    (hk : ∀ (S' : XS) (T' : MS), Rel S' T' → AtW p l e s m below meth c b G hX aX hM aM S' T' i 904) : AtW p l e s m below meth c b G hX aX hM aM S T i 305 := by
  intro H locs ls hP hD hS hl
  obtain ⟨hx, hb, hr, hml, hown, hts0, hX0, hbl, hlocks, hgv⟩ := C0
  have hown : s.vm.findClass RL = some m.cls := hown
  have hb : c.code = cL_law := hb
  have hts : ∀ w ∈ wsL_law, w.before #[Value.ref b] s = true := fun w h => hts0 w (wsL_law_in w h)
  have hbA : ¬ (fun q : Nat => s.heap.size ≤ q) b := Nat.not_le.mpr hbl
  have v1 : vp_in (nI i + 1) L := by rw [nI_1]; exact vp_in_nI (by omega) (by omega)
  obtain ⟨r, S', T', gx, gm, hR'⟩ := op_free ((xs (Int32.toNatClampNeg (nI i + 1)))) hR
  refine lv_aload_n hx hb dL_law_305 rfl (lv_at hl 1 rfl) ?_
  refine lv_aload_n hx hb dL_law_306 rfl (lv_at hl 0 rfl) ?_
  refine lv_iload_n hx hb dL_law_307 rfl (lv_at hl 3 rfl) ?_
  refine lv_iconst (v := 1) hx hb dL_law_308 (by decide) ?_
  refine lv_iadd hx hb dL_law_309 ?_
  refine va_sld hx hb hX0 hbl hbA hS v1 dL_law_310 ?_
  refine call_iL (va_runV (C := RX3) (As := [.int (xs (Int32.toNatClampNeg (nI i + 1)))]) (rest := []) ⟨hx, hb, hml, hown, hts⟩ (cfX_free l G hX aX S S' ((xs (Int32.toNatClampNeg (nI i + 1)))) r gx) (cwV 1 hts gL_law_X3_free rfl rfl rfl (by decide +kernel) ⟨Nat.le_of_ble_eq_true rfl, Nat.le_of_ble_eq_true rfl⟩) (preW_V (q0 := 0) (ci := 3) (P_L hP) (D_L hD) hK rfl rfl) rfl rfl hl.1 rfl (lv_room (Nat.le_of_ble_eq_true rfl)) dL_law_311 ⟨Nat.le_of_ble_eq_true rfl, Nat.le_of_ble_eq_true rfl⟩) hS hP hD addrX (fun H locs hP hD hS => ?_)
  refine lv_aload_n hx hb dL_law_314 rfl (lv_at hl 2 rfl) ?_
  refine lv_aload_n hx hb dL_law_315 rfl (lv_at hl 0 rfl) ?_
  refine lv_iload_n hx hb dL_law_316 rfl (lv_at hl 3 rfl) ?_
  refine lv_iconst (v := 1) hx hb dL_law_317 (by decide) ?_
  refine lv_iadd hx hb dL_law_318 ?_
  refine va_sld hx hb hX0 hbl hbA hS v1 dL_law_319 ?_
  refine call_iR (va_runV (C := RX4) (As := [.int (xs (Int32.toNatClampNeg (nI i + 1)))]) (rest := [.int r]) ⟨hx, hb, hml, hown, hts⟩ (cfM_free l G hM aM T T' ((xs (Int32.toNatClampNeg (nI i + 1)))) r gm) (cwV 1 hts gL_law_X4_free rfl rfl rfl (by decide +kernel) ⟨Nat.le_of_ble_eq_true rfl, Nat.le_of_ble_eq_true rfl⟩) (preW_V (q0 := 0) (ci := 4) (P_R hP) (D_R hD) hK rfl rfl) rfl rfl hl.1 rfl (lv_room (Nat.le_of_ble_eq_true rfl)) dL_law_320 ⟨Nat.le_of_ble_eq_true rfl, Nat.le_of_ble_eq_true rfl⟩) hS hP hD addrM (fun H locs hP hD hS => ?_)
  refine lv_icmp_eq (tgt := 904) hx hb dL_law_323 (by decide) (fun _ => ?_) (fun cz => absurd rfl cz)
  exact hk S' T' hR' H locs ls hP hD hS hl
