def gX_write (S : XS) (a1 : Int32) : Option (Int32 × XS) :=
  (fX3_write (xs_length S) (xs_bytes S) a1).bind fun o => some (o.1, ((xs_keptSlots S), (xs_seenCount S), (xs_seed S), o.2.1, o.2.2, (xs_now S), (xs_trial S), (xs_first S), (xs_count S), (xs_seen S), (xs_oneHas S), (xs_otherHas S), (xs_ring S), (xs_slots S)))
set_option maxHeartbeats 4000000 in
set_option maxRecDepth 100000 in
theorem cfX_write (l : Launch) (G : GG) (h0 : Nat) (a : AX) (S S' : XS) (a1 : Int32) (r : Int32) (hg : gX_write S a1 = some (r, S')) : Met l yX3_write wsX3_write ({ frames := 1, cells := 0, slots := 0, locals := 21 }) (PcW G [.ref h0, .int a1] (wX G h0 a S)) (QiW G (wX G h0 a S) (wX G h0 a S') r) 0 0 (inA (wX G h0 a S)) := by
  obtain ⟨o, hf, hg⟩ := bindS hg
  cases hg
  have h := ctX3_write l G h0 a.1 a.2.1 (xs_keptSlots S) (xs_seenCount S) (xs_seed S) (xs_length S) (xs_bytes S) a1 _ hf
  exact frW (X := wX G h0 a S) h [0, 1, 2] (by decide) rfl rfl
def gX_wipe (S : XS) : Option (Int32 × XS) :=
  (fX3_wipe (xs_length S)).bind fun o => some (o.1, ((xs_keptSlots S), (xs_seenCount S), (xs_seed S), o.2, (xs_bytes S), (xs_now S), (xs_trial S), (xs_first S), (xs_count S), (xs_seen S), (xs_oneHas S), (xs_otherHas S), (xs_ring S), (xs_slots S)))
set_option maxHeartbeats 4000000 in
set_option maxRecDepth 100000 in
theorem cfX_wipe (l : Launch) (G : GG) (h0 : Nat) (a : AX) (S S' : XS) (r : Int32) (hg : gX_wipe S = some (r, S')) : Met l yX3_wipe wsX3_wipe ({ frames := 0, cells := 0, slots := 0, locals := 0 }) (PcW G [.ref h0] (wX G h0 a S)) (QiW G (wX G h0 a S) (wX G h0 a S') r) 0 0 (inA (wX G h0 a S)) := by
  obtain ⟨o, hf, hg⟩ := bindS hg
  cases hg
  have h := ctX3_wipe l G h0 a.1 a.2.1 (xs_keptSlots S) (xs_seenCount S) (xs_seed S) (xs_length S) _ hf
  exact frW (X := wX G h0 a S) h [0, 1] (by decide) rfl rfl
def gX_fault (S : XS) : Option (Int32 × XS) :=
  (fX3_fault (xs_length S) (xs_bytes S) (xs_trial S).1 (xs_trial S).2.1 (xs_trial S).2.2.1 (xs_trial S).2.2.2.1 (xs_trial S).2.2.2.2.1 (xs_trial S).2.2.2.2.2.1 (xs_trial S).2.2.2.2.2.2).bind fun o => some (o.1, ((xs_keptSlots S), (xs_seenCount S), (xs_seed S), (xs_length S), (xs_bytes S), (xs_now S), (o.2.1, o.2.2.1, o.2.2.2.1, o.2.2.2.2.1, o.2.2.2.2.2.1, o.2.2.2.2.2.2.1, o.2.2.2.2.2.2.2), (xs_first S), (xs_count S), (xs_seen S), (xs_oneHas S), (xs_otherHas S), (xs_ring S), (xs_slots S)))
set_option maxHeartbeats 4000000 in
set_option maxRecDepth 100000 in
theorem cfX_fault (l : Launch) (G : GG) (h0 : Nat) (a : AX) (S S' : XS) (r : Int32) (hg : gX_fault S = some (r, S')) : Met l yX3_fault wsX3_fault ({ frames := 6, cells := 0, slots := 0, locals := 135 }) (PcW G [.ref h0] (wX G h0 a S)) (QiW G (wX G h0 a S) (wX G h0 a S') r) 0 0 (inA (wX G h0 a S)) := by
  obtain ⟨o, hf, hg⟩ := bindS hg
  cases hg
  have h := ctX3_fault l G h0 a.1 a.2.1 (xs_keptSlots S) (xs_seenCount S) (xs_seed S) (xs_length S) (xs_bytes S) (xs_trial S).1 (xs_trial S).2.1 (xs_trial S).2.2.1 (xs_trial S).2.2.2.1 (xs_trial S).2.2.2.2.1 (xs_trial S).2.2.2.2.2.1 (xs_trial S).2.2.2.2.2.2 _ hf
  exact frW (X := wX G h0 a S) h [0, 1, 2, 4] (by decide) rfl rfl
def gX_county (S : XS) : Option (Int32 × XS) :=
  (fX3_county (xs_keptSlots S) (xs_length S) (xs_bytes S) (xs_now S).1 (xs_now S).2.1 (xs_now S).2.2.1 (xs_now S).2.2.2.1 (xs_now S).2.2.2.2.1 (xs_now S).2.2.2.2.2.1 (xs_now S).2.2.2.2.2.2 (xs_trial S).1 (xs_trial S).2.1 (xs_trial S).2.2.1 (xs_trial S).2.2.2.1 (xs_trial S).2.2.2.2.1 (xs_trial S).2.2.2.2.2.1 (xs_trial S).2.2.2.2.2.2 (xs_count S)).bind fun o => some (o.1, (o.2.1, (xs_seenCount S), (xs_seed S), (xs_length S), (xs_bytes S), (o.2.2.1, o.2.2.2.1, o.2.2.2.2.1, o.2.2.2.2.2.1, o.2.2.2.2.2.2.1, o.2.2.2.2.2.2.2.1, o.2.2.2.2.2.2.2.2.1), (o.2.2.2.2.2.2.2.2.2.1, o.2.2.2.2.2.2.2.2.2.2.1, o.2.2.2.2.2.2.2.2.2.2.2.1, o.2.2.2.2.2.2.2.2.2.2.2.2.1, o.2.2.2.2.2.2.2.2.2.2.2.2.2.1, o.2.2.2.2.2.2.2.2.2.2.2.2.2.2.1, o.2.2.2.2.2.2.2.2.2.2.2.2.2.2.2.1), (xs_first S), o.2.2.2.2.2.2.2.2.2.2.2.2.2.2.2.2, (xs_seen S), (xs_oneHas S), (xs_otherHas S), (xs_ring S), (xs_slots S)))
set_option maxHeartbeats 4000000 in
set_option maxRecDepth 100000 in
theorem cfX_county (l : Launch) (G : GG) (h0 : Nat) (a : AX) (S S' : XS) (r : Int32) (hg : gX_county S = some (r, S')) : Met l yX3_county wsX3_county ({ frames := 6, cells := 0, slots := 0, locals := 135 }) (PcW G [.ref h0] (wX G h0 a S)) (QiW G (wX G h0 a S) (wX G h0 a S') r) 0 0 (inA (wX G h0 a S)) := by
  obtain ⟨o, hf, hg⟩ := bindS hg
  cases hg
  have h := ctX3_county l G h0 a.1 a.2.1 a.2.2.1 (xs_keptSlots S) (xs_seenCount S) (xs_seed S) (xs_length S) (xs_bytes S) (xs_now S).1 (xs_now S).2.1 (xs_now S).2.2.1 (xs_now S).2.2.2.1 (xs_now S).2.2.2.2.1 (xs_now S).2.2.2.2.2.1 (xs_now S).2.2.2.2.2.2 (xs_trial S).1 (xs_trial S).2.1 (xs_trial S).2.2.1 (xs_trial S).2.2.2.1 (xs_trial S).2.2.2.2.1 (xs_trial S).2.2.2.2.2.1 (xs_trial S).2.2.2.2.2.2 (xs_first S) (xs_count S) _ hf
  exact frW (X := wX G h0 a S) h [0, 1, 2, 3, 4, 5] (by decide) rfl rfl
def gX_about (S : XS) (a1 : Int32) : Option (Int32 × XS) :=
  (fX3_about (xs_seenCount S) (xs_length S) (xs_now S).1 (xs_now S).2.1 (xs_now S).2.2.1 (xs_now S).2.2.2.1 (xs_now S).2.2.2.2.1 (xs_now S).2.2.2.2.2.1 (xs_now S).2.2.2.2.2.2 (xs_count S) a1).bind fun o => some (o, S)
set_option maxHeartbeats 4000000 in
set_option maxRecDepth 100000 in
theorem cfX_about (l : Launch) (G : GG) (h0 : Nat) (a : AX) (S S' : XS) (a1 : Int32) (r : Int32) (hg : gX_about S a1 = some (r, S')) : Met l yX3_about wsX3_about ({ frames := 3, cells := 0, slots := 0, locals := 69 }) (PcW G [.ref h0, .int a1] (wX G h0 a S)) (QiW G (wX G h0 a S) (wX G h0 a S') r) 0 0 (inA (wX G h0 a S)) := by
  obtain ⟨o, hf, hg⟩ := bindS hg
  cases hg
  have h := ctX3_about l G h0 a.1 a.2.1 a.2.2.1 (xs_keptSlots S) (xs_seenCount S) (xs_seed S) (xs_length S) (xs_now S).1 (xs_now S).2.1 (xs_now S).2.2.1 (xs_now S).2.2.2.1 (xs_now S).2.2.2.2.1 (xs_now S).2.2.2.2.2.1 (xs_now S).2.2.2.2.2.2 (xs_first S) (xs_count S) a1 _ hf
  exact frR (X := wX G h0 a S) h [0, 1, 3, 5] rfl
def gX_person (S : XS) (a1 : Int32) (a2 : Int32) : Option (Int32 × XS) :=
  (fX3_person (xs_now S).1 (xs_now S).2.1 (xs_now S).2.2.1 (xs_now S).2.2.2.1 a1 a2).bind fun o => some (o, S)
set_option maxHeartbeats 4000000 in
set_option maxRecDepth 100000 in
theorem cfX_person (l : Launch) (G : GG) (h0 : Nat) (a : AX) (S S' : XS) (a1 : Int32) (a2 : Int32) (r : Int32) (hg : gX_person S a1 a2 = some (r, S')) : Met l yX3_person wsX3_person ({ frames := 3, cells := 0, slots := 0, locals := 66 }) (PcW G [.ref h0, .int a1, .int a2] (wX G h0 a S)) (QiW G (wX G h0 a S) (wX G h0 a S') r) 0 0 (inA (wX G h0 a S)) := by
  obtain ⟨o, hf, hg⟩ := bindS hg
  cases hg
  have h := ctX3_person l G h0 a.1 (xs_keptSlots S) (xs_seenCount S) (xs_seed S) (xs_now S).1 (xs_now S).2.1 (xs_now S).2.2.1 (xs_now S).2.2.2.1 (xs_now S).2.2.2.2.1 (xs_now S).2.2.2.2.2.1 (xs_now S).2.2.2.2.2.2 a1 a2 _ hf
  exact frR (X := wX G h0 a S) h [0, 3] rfl
def gX_take (S : XS) (a1 : Int32) : Option (Int32 × XS) :=
  (fX3_take (xs_now S).1 (xs_now S).2.1 (xs_now S).2.2.1 (xs_now S).2.2.2.1 (xs_now S).2.2.2.2.1 (xs_now S).2.2.2.2.2.1 (xs_now S).2.2.2.2.2.2 (xs_first S) (xs_count S) (xs_ring S) a1).bind fun o => some (o.1, ((xs_keptSlots S), (xs_seenCount S), (xs_seed S), (xs_length S), (xs_bytes S), ((xs_now S).1, (xs_now S).2.1, (xs_now S).2.2.1, (xs_now S).2.2.2.1, o.2.1, (xs_now S).2.2.2.2.2.1, (xs_now S).2.2.2.2.2.2), (xs_trial S), o.2.2.1, o.2.2.2.1, (xs_seen S), (xs_oneHas S), (xs_otherHas S), o.2.2.2.2, (xs_slots S)))
set_option maxHeartbeats 4000000 in
set_option maxRecDepth 100000 in
theorem cfX_take (l : Launch) (G : GG) (h0 : Nat) (a : AX) (S S' : XS) (a1 : Int32) (r : Int32) (hg : gX_take S a1 = some (r, S')) : Met l yX3_take wsX3_take ({ frames := 3, cells := 0, slots := 0, locals := 69 }) (PcW G [.ref h0, .int a1] (wX G h0 a S)) (QiW G (wX G h0 a S) (wX G h0 a S') r) 0 0 (inA (wX G h0 a S)) := by
  obtain ⟨o, hf, hg⟩ := bindS hg
  cases hg
  have h := ctX3_take l G h0 a.1 a.2.2.1 a.2.2.2.1 (xs_keptSlots S) (xs_seenCount S) (xs_seed S) (xs_now S).1 (xs_now S).2.1 (xs_now S).2.2.1 (xs_now S).2.2.2.1 (xs_now S).2.2.2.2.1 (xs_now S).2.2.2.2.2.1 (xs_now S).2.2.2.2.2.2 (xs_first S) (xs_count S) (xs_ring S) a1 _ hf
  exact frS (X := (wXf G h0 a S)) (A := plist a.2.2.2.1 (xs_ring S) 14) (B := plist a.2.2.2.2 (xs_slots S) 2) (frI (X := (wXf G h0 a S) ++ plist a.2.2.2.2 (xs_slots S) 2) (T := plist a.2.2.2.1 (xs_ring S) 14) h [0, 3, 5, 6] (by decide) rfl rfl)
def gX_free (S : XS) (a1 : Int32) : Option (Int32 × XS) :=
  (fX3_free (xs_now S).1 (xs_now S).2.1 (xs_now S).2.2.1 (xs_now S).2.2.2.1 (xs_now S).2.2.2.2.1 (xs_now S).2.2.2.2.2.1 (xs_now S).2.2.2.2.2.2 (xs_first S) (xs_count S) (xs_ring S) a1).bind fun o => some (o.1, ((xs_keptSlots S), (xs_seenCount S), (xs_seed S), (xs_length S), (xs_bytes S), ((xs_now S).1, (xs_now S).2.1, (xs_now S).2.2.1, (xs_now S).2.2.2.1, o.2.1, (xs_now S).2.2.2.2.2.1, (xs_now S).2.2.2.2.2.2), (xs_trial S), o.2.2.1, o.2.2.2.1, (xs_seen S), (xs_oneHas S), (xs_otherHas S), o.2.2.2.2, (xs_slots S)))
set_option maxHeartbeats 4000000 in
set_option maxRecDepth 100000 in
theorem cfX_free (l : Launch) (G : GG) (h0 : Nat) (a : AX) (S S' : XS) (a1 : Int32) (r : Int32) (hg : gX_free S a1 = some (r, S')) : Met l yX3_free wsX3_free ({ frames := 2, cells := 0, slots := 0, locals := 42 }) (PcW G [.ref h0, .int a1] (wX G h0 a S)) (QiW G (wX G h0 a S) (wX G h0 a S') r) 0 0 (inA (wX G h0 a S)) := by
  obtain ⟨o, hf, hg⟩ := bindS hg
  cases hg
  have h := ctX3_free l G h0 a.1 a.2.2.1 a.2.2.2.1 (xs_keptSlots S) (xs_seenCount S) (xs_seed S) (xs_now S).1 (xs_now S).2.1 (xs_now S).2.2.1 (xs_now S).2.2.2.1 (xs_now S).2.2.2.2.1 (xs_now S).2.2.2.2.2.1 (xs_now S).2.2.2.2.2.2 (xs_first S) (xs_count S) (xs_ring S) a1 _ hf
  exact frS (X := (wXf G h0 a S)) (A := plist a.2.2.2.1 (xs_ring S) 14) (B := plist a.2.2.2.2 (xs_slots S) 2) (frI (X := (wXf G h0 a S) ++ plist a.2.2.2.2 (xs_slots S) 2) (T := plist a.2.2.2.1 (xs_ring S) 14) h [0, 3, 5, 6] (by decide) rfl rfl)
def gX_die (S : XS) (a1 : Int32) : Option (Int32 × XS) :=
  (fX3_die (xs_now S).1 (xs_now S).2.1 (xs_now S).2.2.1 (xs_now S).2.2.2.1 (xs_now S).2.2.2.2.1 (xs_now S).2.2.2.2.2.1 (xs_now S).2.2.2.2.2.2 (xs_first S) (xs_count S) (xs_ring S) a1).bind fun o => some (o.1, ((xs_keptSlots S), (xs_seenCount S), (xs_seed S), (xs_length S), (xs_bytes S), ((xs_now S).1, (xs_now S).2.1, (xs_now S).2.2.1, (xs_now S).2.2.2.1, o.2.1, o.2.2.1, (xs_now S).2.2.2.2.2.2), (xs_trial S), o.2.2.2.1, o.2.2.2.2.1, (xs_seen S), (xs_oneHas S), (xs_otherHas S), o.2.2.2.2.2, (xs_slots S)))
set_option maxHeartbeats 4000000 in
set_option maxRecDepth 100000 in
theorem cfX_die (l : Launch) (G : GG) (h0 : Nat) (a : AX) (S S' : XS) (a1 : Int32) (r : Int32) (hg : gX_die S a1 = some (r, S')) : Met l yX3_die wsX3_die ({ frames := 2, cells := 0, slots := 0, locals := 42 }) (PcW G [.ref h0, .int a1] (wX G h0 a S)) (QiW G (wX G h0 a S) (wX G h0 a S') r) 0 0 (inA (wX G h0 a S)) := by
  obtain ⟨o, hf, hg⟩ := bindS hg
  cases hg
  have h := ctX3_die l G h0 a.1 a.2.2.1 a.2.2.2.1 (xs_keptSlots S) (xs_seenCount S) (xs_seed S) (xs_now S).1 (xs_now S).2.1 (xs_now S).2.2.1 (xs_now S).2.2.2.1 (xs_now S).2.2.2.2.1 (xs_now S).2.2.2.2.2.1 (xs_now S).2.2.2.2.2.2 (xs_first S) (xs_count S) (xs_ring S) a1 _ hf
  exact frS (X := (wXf G h0 a S)) (A := plist a.2.2.2.1 (xs_ring S) 14) (B := plist a.2.2.2.2 (xs_slots S) 2) (frI (X := (wXf G h0 a S) ++ plist a.2.2.2.2 (xs_slots S) 2) (T := plist a.2.2.2.1 (xs_ring S) 14) h [0, 3, 5, 6] (by decide) rfl rfl)
def gX_feed (S : XS) (a1 : Int32) (a2 : Int32) : Option (Int32 × XS) :=
  (fX3_feed (xs_now S).1 (xs_now S).2.1 (xs_now S).2.2.1 (xs_now S).2.2.2.1 (xs_now S).2.2.2.2.1 (xs_now S).2.2.2.2.2.1 (xs_now S).2.2.2.2.2.2 (xs_first S) (xs_count S) (xs_ring S) a1 a2).bind fun o => some (o.1, ((xs_keptSlots S), (xs_seenCount S), (xs_seed S), (xs_length S), (xs_bytes S), ((xs_now S).1, (xs_now S).2.1, (xs_now S).2.2.1, o.2.1, (xs_now S).2.2.2.2.1, (xs_now S).2.2.2.2.2.1, (xs_now S).2.2.2.2.2.2), (xs_trial S), o.2.2.1, o.2.2.2.1, (xs_seen S), (xs_oneHas S), (xs_otherHas S), o.2.2.2.2, (xs_slots S)))
set_option maxHeartbeats 4000000 in
set_option maxRecDepth 100000 in
theorem cfX_feed (l : Launch) (G : GG) (h0 : Nat) (a : AX) (S S' : XS) (a1 : Int32) (a2 : Int32) (r : Int32) (hg : gX_feed S a1 a2 = some (r, S')) : Met l yX3_feed wsX3_feed ({ frames := 2, cells := 0, slots := 0, locals := 43 }) (PcW G [.ref h0, .int a1, .int a2] (wX G h0 a S)) (QiW G (wX G h0 a S) (wX G h0 a S') r) 0 0 (inA (wX G h0 a S)) := by
  obtain ⟨o, hf, hg⟩ := bindS hg
  cases hg
  have h := ctX3_feed l G h0 a.1 a.2.2.1 a.2.2.2.1 (xs_keptSlots S) (xs_seenCount S) (xs_seed S) (xs_now S).1 (xs_now S).2.1 (xs_now S).2.2.1 (xs_now S).2.2.2.1 (xs_now S).2.2.2.2.1 (xs_now S).2.2.2.2.2.1 (xs_now S).2.2.2.2.2.2 (xs_first S) (xs_count S) (xs_ring S) a1 a2 _ hf
  exact frS (X := (wXf G h0 a S)) (A := plist a.2.2.2.1 (xs_ring S) 14) (B := plist a.2.2.2.2 (xs_slots S) 2) (frI (X := (wXf G h0 a S) ++ plist a.2.2.2.2 (xs_slots S) 2) (T := plist a.2.2.2.1 (xs_ring S) 14) h [0, 3, 5, 6] (by decide) rfl rfl)
def gX_grade (S : XS) (a1 : Int32) (a2 : Int32) : Option (Int32 × XS) :=
  (fX3_grade (xs_now S).1 (xs_now S).2.1 (xs_now S).2.2.1 (xs_now S).2.2.2.1 (xs_now S).2.2.2.2.1 (xs_now S).2.2.2.2.2.1 (xs_now S).2.2.2.2.2.2 (xs_first S) (xs_count S) (xs_ring S) a1 a2).bind fun o => some (o.1, ((xs_keptSlots S), (xs_seenCount S), (xs_seed S), (xs_length S), (xs_bytes S), ((xs_now S).1, (xs_now S).2.1, o.2.1, (xs_now S).2.2.2.1, (xs_now S).2.2.2.2.1, (xs_now S).2.2.2.2.2.1, (xs_now S).2.2.2.2.2.2), (xs_trial S), o.2.2.1, o.2.2.2.1, (xs_seen S), (xs_oneHas S), (xs_otherHas S), o.2.2.2.2, (xs_slots S)))
set_option maxHeartbeats 4000000 in
set_option maxRecDepth 100000 in
theorem cfX_grade (l : Launch) (G : GG) (h0 : Nat) (a : AX) (S S' : XS) (a1 : Int32) (a2 : Int32) (r : Int32) (hg : gX_grade S a1 a2 = some (r, S')) : Met l yX3_grade wsX3_grade ({ frames := 2, cells := 0, slots := 0, locals := 42 }) (PcW G [.ref h0, .int a1, .int a2] (wX G h0 a S)) (QiW G (wX G h0 a S) (wX G h0 a S') r) 0 0 (inA (wX G h0 a S)) := by
  obtain ⟨o, hf, hg⟩ := bindS hg
  cases hg
  have h := ctX3_grade l G h0 a.1 a.2.2.1 a.2.2.2.1 (xs_keptSlots S) (xs_seenCount S) (xs_seed S) (xs_now S).1 (xs_now S).2.1 (xs_now S).2.2.1 (xs_now S).2.2.2.1 (xs_now S).2.2.2.2.1 (xs_now S).2.2.2.2.2.1 (xs_now S).2.2.2.2.2.2 (xs_first S) (xs_count S) (xs_ring S) a1 a2 _ hf
  exact frS (X := (wXf G h0 a S)) (A := plist a.2.2.2.1 (xs_ring S) 14) (B := plist a.2.2.2.2 (xs_slots S) 2) (frI (X := (wXf G h0 a S) ++ plist a.2.2.2.2 (xs_slots S) 2) (T := plist a.2.2.2.1 (xs_ring S) 14) h [0, 3, 5, 6] (by decide) rfl rfl)
def gX_day (S : XS) : Option (Int32 × XS) :=
  (fX3_day (xs_now S).1 (xs_now S).2.1 (xs_now S).2.2.1 (xs_now S).2.2.2.1 (xs_now S).2.2.2.2.1 (xs_now S).2.2.2.2.2.1 (xs_now S).2.2.2.2.2.2 (xs_first S) (xs_count S) (xs_ring S)).bind fun o => some (o.1, ((xs_keptSlots S), (xs_seenCount S), (xs_seed S), (xs_length S), (xs_bytes S), ((xs_now S).1, (xs_now S).2.1, (xs_now S).2.2.1, (xs_now S).2.2.2.1, o.2.1, (xs_now S).2.2.2.2.2.1, o.2.2.1), (xs_trial S), o.2.2.2.1, o.2.2.2.2.1, (xs_seen S), (xs_oneHas S), (xs_otherHas S), o.2.2.2.2.2, (xs_slots S)))
set_option maxHeartbeats 4000000 in
set_option maxRecDepth 100000 in
theorem cfX_day (l : Launch) (G : GG) (h0 : Nat) (a : AX) (S S' : XS) (r : Int32) (hg : gX_day S = some (r, S')) : Met l yX3_day wsX3_day ({ frames := 4, cells := 0, slots := 0, locals := 90 }) (PcW G [.ref h0] (wX G h0 a S)) (QiW G (wX G h0 a S) (wX G h0 a S') r) 0 0 (inA (wX G h0 a S)) := by
  obtain ⟨o, hf, hg⟩ := bindS hg
  cases hg
  have h := ctX3_day l G h0 a.1 a.2.2.1 a.2.2.2.1 (xs_keptSlots S) (xs_seenCount S) (xs_seed S) (xs_now S).1 (xs_now S).2.1 (xs_now S).2.2.1 (xs_now S).2.2.2.1 (xs_now S).2.2.2.2.1 (xs_now S).2.2.2.2.2.1 (xs_now S).2.2.2.2.2.2 (xs_first S) (xs_count S) (xs_ring S) _ hf
  exact frS (X := (wXf G h0 a S)) (A := plist a.2.2.2.1 (xs_ring S) 14) (B := plist a.2.2.2.2 (xs_slots S) 2) (frI (X := (wXf G h0 a S) ++ plist a.2.2.2.2 (xs_slots S) 2) (T := plist a.2.2.2.1 (xs_ring S) 14) h [0, 3, 5, 6] (by decide) rfl rfl)
def gX_undo (S : XS) : Option (Int32 × XS) :=
  (fX3_undo (xs_now S).1 (xs_now S).2.1 (xs_now S).2.2.1 (xs_now S).2.2.2.1 (xs_now S).2.2.2.2.1 (xs_now S).2.2.2.2.2.1 (xs_now S).2.2.2.2.2.2 (xs_first S) (xs_count S) (xs_ring S)).bind fun o => some (o.1, ((xs_keptSlots S), (xs_seenCount S), (xs_seed S), (xs_length S), (xs_bytes S), (o.2.1, o.2.2.1, o.2.2.2.1, o.2.2.2.2.1, o.2.2.2.2.2.1, o.2.2.2.2.2.2.1, o.2.2.2.2.2.2.2.1), (xs_trial S), (xs_first S), o.2.2.2.2.2.2.2.2, (xs_seen S), (xs_oneHas S), (xs_otherHas S), (xs_ring S), (xs_slots S)))
set_option maxHeartbeats 4000000 in
set_option maxRecDepth 100000 in
theorem cfX_undo (l : Launch) (G : GG) (h0 : Nat) (a : AX) (S S' : XS) (r : Int32) (hg : gX_undo S = some (r, S')) : Met l yX3_undo wsX3_undo ({ frames := 2, cells := 0, slots := 0, locals := 42 }) (PcW G [.ref h0] (wX G h0 a S)) (QiW G (wX G h0 a S) (wX G h0 a S') r) 0 0 (inA (wX G h0 a S)) := by
  obtain ⟨o, hf, hg⟩ := bindS hg
  cases hg
  have h := ctX3_undo l G h0 a.1 a.2.2.1 a.2.2.2.1 (xs_keptSlots S) (xs_seenCount S) (xs_seed S) (xs_now S).1 (xs_now S).2.1 (xs_now S).2.2.1 (xs_now S).2.2.2.1 (xs_now S).2.2.2.2.1 (xs_now S).2.2.2.2.2.1 (xs_now S).2.2.2.2.2.2 (xs_first S) (xs_count S) (xs_ring S) _ hf
  exact frS (X := (wXf G h0 a S)) (A := plist a.2.2.2.1 (xs_ring S) 14) (B := plist a.2.2.2.2 (xs_slots S) 2) (frI (X := (wXf G h0 a S) ++ plist a.2.2.2.2 (xs_slots S) 2) (T := plist a.2.2.2.1 (xs_ring S) 14) h [0, 3, 5, 6] (by decide) rfl rfl)
def gX_fall (S : XS) : Option (Int32 × XS) :=
  (fX3_fall (xs_now S).1 (xs_now S).2.1 (xs_now S).2.2.1 (xs_now S).2.2.2.1 (xs_now S).2.2.2.2.1).bind fun o => some (o, S)
set_option maxHeartbeats 4000000 in
set_option maxRecDepth 100000 in
theorem cfX_fall (l : Launch) (G : GG) (h0 : Nat) (a : AX) (S S' : XS) (r : Int32) (hg : gX_fall S = some (r, S')) : Met l yX3_fall wsX3_fall ({ frames := 4, cells := 0, slots := 0, locals := 93 }) (PcW G [.ref h0] (wX G h0 a S)) (QiW G (wX G h0 a S) (wX G h0 a S') r) 0 0 (inA (wX G h0 a S)) := by
  obtain ⟨o, hf, hg⟩ := bindS hg
  cases hg
  have h := ctX3_fall l G h0 a.1 (xs_keptSlots S) (xs_seenCount S) (xs_seed S) (xs_now S).1 (xs_now S).2.1 (xs_now S).2.2.1 (xs_now S).2.2.2.1 (xs_now S).2.2.2.2.1 (xs_now S).2.2.2.2.2.1 (xs_now S).2.2.2.2.2.2 _ hf
  exact frR (X := wX G h0 a S) h [0, 3] rfl
def gX_place (S : XS) (a1 : Int32) : Option (Int32 × XS) :=
  (fX3_place (xs_now S).1 (xs_now S).2.1 (xs_now S).2.2.1 (xs_now S).2.2.2.1 (xs_now S).2.2.2.2.1 a1).bind fun o => some (o, S)
set_option maxHeartbeats 4000000 in
set_option maxRecDepth 100000 in
theorem cfX_place (l : Launch) (G : GG) (h0 : Nat) (a : AX) (S S' : XS) (a1 : Int32) (r : Int32) (hg : gX_place S a1 = some (r, S')) : Met l yX3_place wsX3_place ({ frames := 4, cells := 0, slots := 0, locals := 93 }) (PcW G [.ref h0, .int a1] (wX G h0 a S)) (QiW G (wX G h0 a S) (wX G h0 a S') r) 0 0 (inA (wX G h0 a S)) := by
  obtain ⟨o, hf, hg⟩ := bindS hg
  cases hg
  have h := ctX3_place l G h0 a.1 (xs_keptSlots S) (xs_seenCount S) (xs_seed S) (xs_now S).1 (xs_now S).2.1 (xs_now S).2.2.1 (xs_now S).2.2.2.1 (xs_now S).2.2.2.2.1 (xs_now S).2.2.2.2.2.1 (xs_now S).2.2.2.2.2.2 a1 _ hf
  exact frR (X := wX G h0 a S) h [0, 3] rfl
def gX_last (S : XS) : Option (Int32 × XS) :=
  (fX3_last (xs_now S).1 (xs_now S).2.1 (xs_now S).2.2.1 (xs_now S).2.2.2.1 (xs_now S).2.2.2.2.1).bind fun o => some (o, S)
set_option maxHeartbeats 4000000 in
set_option maxRecDepth 100000 in
theorem cfX_last (l : Launch) (G : GG) (h0 : Nat) (a : AX) (S S' : XS) (r : Int32) (hg : gX_last S = some (r, S')) : Met l yX3_last wsX3_last ({ frames := 4, cells := 0, slots := 0, locals := 93 }) (PcW G [.ref h0] (wX G h0 a S)) (QiW G (wX G h0 a S) (wX G h0 a S') r) 0 0 (inA (wX G h0 a S)) := by
  obtain ⟨o, hf, hg⟩ := bindS hg
  cases hg
  have h := ctX3_last l G h0 a.1 (xs_keptSlots S) (xs_seenCount S) (xs_seed S) (xs_now S).1 (xs_now S).2.1 (xs_now S).2.2.1 (xs_now S).2.2.2.1 (xs_now S).2.2.2.2.1 (xs_now S).2.2.2.2.2.1 (xs_now S).2.2.2.2.2.2 _ hf
  exact frR (X := wX G h0 a S) h [0, 3] rfl
def gX_toFeed (S : XS) (a1 : Int32) (a2 : Int32) : Option (Int32 × XS) :=
  (fX3_toFeed (xs_now S).1 (xs_now S).2.1 (xs_now S).2.2.1 (xs_now S).2.2.2.1 (xs_now S).2.2.2.2.1 (xs_now S).2.2.2.2.2.1 (xs_now S).2.2.2.2.2.2 (xs_trial S).1 (xs_trial S).2.1 (xs_trial S).2.2.1 (xs_trial S).2.2.2.1 (xs_trial S).2.2.2.2.1 (xs_trial S).2.2.2.2.2.1 (xs_trial S).2.2.2.2.2.2 a1 a2).bind fun o => some (o.1, ((xs_keptSlots S), (xs_seenCount S), (xs_seed S), (xs_length S), (xs_bytes S), (xs_now S), (o.2.1, o.2.2.1, o.2.2.2.1, o.2.2.2.2.1, o.2.2.2.2.2.1, o.2.2.2.2.2.2.1, o.2.2.2.2.2.2.2), (xs_first S), (xs_count S), (xs_seen S), (xs_oneHas S), (xs_otherHas S), (xs_ring S), (xs_slots S)))
set_option maxHeartbeats 4000000 in
set_option maxRecDepth 100000 in
theorem cfX_toFeed (l : Launch) (G : GG) (h0 : Nat) (a : AX) (S S' : XS) (a1 : Int32) (a2 : Int32) (r : Int32) (hg : gX_toFeed S a1 a2 = some (r, S')) : Met l yX3_toFeed wsX3_toFeed ({ frames := 6, cells := 0, slots := 0, locals := 144 }) (PcW G [.ref h0, .int a1, .int a2] (wX G h0 a S)) (QiW G (wX G h0 a S) (wX G h0 a S') r) 0 0 (inA (wX G h0 a S)) := by
  obtain ⟨o, hf, hg⟩ := bindS hg
  cases hg
  have h := ctX3_toFeed l G h0 a.1 (xs_keptSlots S) (xs_seenCount S) (xs_seed S) (xs_now S).1 (xs_now S).2.1 (xs_now S).2.2.1 (xs_now S).2.2.2.1 (xs_now S).2.2.2.2.1 (xs_now S).2.2.2.2.2.1 (xs_now S).2.2.2.2.2.2 (xs_trial S).1 (xs_trial S).2.1 (xs_trial S).2.2.1 (xs_trial S).2.2.2.1 (xs_trial S).2.2.2.2.1 (xs_trial S).2.2.2.2.2.1 (xs_trial S).2.2.2.2.2.2 a1 a2 _ hf
  exact frW (X := wX G h0 a S) h [0, 3, 4] (by decide) rfl rfl
def gX_giveUp (S : XS) (a1 : Int32) : Option (Int32 × XS) :=
  (fX3_giveUp (xs_now S).1 (xs_now S).2.1 (xs_now S).2.2.1 (xs_now S).2.2.2.1 (xs_now S).2.2.2.2.1 a1).bind fun o => some (o, S)
set_option maxHeartbeats 4000000 in
set_option maxRecDepth 100000 in
theorem cfX_giveUp (l : Launch) (G : GG) (h0 : Nat) (a : AX) (S S' : XS) (a1 : Int32) (r : Int32) (hg : gX_giveUp S a1 = some (r, S')) : Met l yX3_giveUp wsX3_giveUp ({ frames := 5, cells := 0, slots := 0, locals := 115 }) (PcW G [.ref h0, .int a1] (wX G h0 a S)) (QiW G (wX G h0 a S) (wX G h0 a S') r) 0 0 (inA (wX G h0 a S)) := by
  obtain ⟨o, hf, hg⟩ := bindS hg
  cases hg
  have h := ctX3_giveUp l G h0 a.1 (xs_keptSlots S) (xs_seenCount S) (xs_seed S) (xs_now S).1 (xs_now S).2.1 (xs_now S).2.2.1 (xs_now S).2.2.2.1 (xs_now S).2.2.2.2.1 (xs_now S).2.2.2.2.2.1 (xs_now S).2.2.2.2.2.2 a1 _ hf
  exact frR (X := wX G h0 a S) h [0, 3] rfl
def gX_claim (S : XS) (a1 : Int32) : Option (Int32 × XS) :=
  (fX3_claim (xs_now S).1 (xs_now S).2.1 (xs_now S).2.2.1 (xs_now S).2.2.2.1 (xs_now S).2.2.2.2.1 (xs_now S).2.2.2.2.2.1 (xs_now S).2.2.2.2.2.2 (xs_trial S).1 (xs_trial S).2.1 (xs_trial S).2.2.1 (xs_trial S).2.2.2.1 (xs_trial S).2.2.2.2.1 (xs_trial S).2.2.2.2.2.1 (xs_trial S).2.2.2.2.2.2 a1).bind fun o => some (o.1, ((xs_keptSlots S), (xs_seenCount S), (xs_seed S), (xs_length S), (xs_bytes S), (xs_now S), (o.2.1, o.2.2.1, o.2.2.2.1, o.2.2.2.2.1, o.2.2.2.2.2.1, o.2.2.2.2.2.2.1, o.2.2.2.2.2.2.2), (xs_first S), (xs_count S), (xs_seen S), (xs_oneHas S), (xs_otherHas S), (xs_ring S), (xs_slots S)))
set_option maxHeartbeats 4000000 in
set_option maxRecDepth 100000 in
theorem cfX_claim (l : Launch) (G : GG) (h0 : Nat) (a : AX) (S S' : XS) (a1 : Int32) (r : Int32) (hg : gX_claim S a1 = some (r, S')) : Met l yX3_claim wsX3_claim ({ frames := 5, cells := 0, slots := 0, locals := 115 }) (PcW G [.ref h0, .int a1] (wX G h0 a S)) (QiW G (wX G h0 a S) (wX G h0 a S') r) 0 0 (inA (wX G h0 a S)) := by
  obtain ⟨o, hf, hg⟩ := bindS hg
  cases hg
  have h := ctX3_claim l G h0 a.1 (xs_keptSlots S) (xs_seenCount S) (xs_seed S) (xs_now S).1 (xs_now S).2.1 (xs_now S).2.2.1 (xs_now S).2.2.2.1 (xs_now S).2.2.2.2.1 (xs_now S).2.2.2.2.2.1 (xs_now S).2.2.2.2.2.2 (xs_trial S).1 (xs_trial S).2.1 (xs_trial S).2.2.1 (xs_trial S).2.2.2.1 (xs_trial S).2.2.2.2.1 (xs_trial S).2.2.2.2.2.1 (xs_trial S).2.2.2.2.2.2 a1 _ hf
  exact frW (X := wX G h0 a S) h [0, 3, 4] (by decide) rfl rfl
def gX_share (S : XS) (a1 : Int32) (a2 : Int32) : Option (Int32 × XS) :=
  (fX3_share (xs_now S).1 (xs_now S).2.1 (xs_now S).2.2.1 (xs_now S).2.2.2.1 (xs_now S).2.2.2.2.1 a1 a2).bind fun o => some (o, S)
set_option maxHeartbeats 4000000 in
set_option maxRecDepth 100000 in
theorem cfX_share (l : Launch) (G : GG) (h0 : Nat) (a : AX) (S S' : XS) (a1 : Int32) (a2 : Int32) (r : Int32) (hg : gX_share S a1 a2 = some (r, S')) : Met l yX3_share wsX3_share ({ frames := 5, cells := 0, slots := 0, locals := 114 }) (PcW G [.ref h0, .int a1, .int a2] (wX G h0 a S)) (QiW G (wX G h0 a S) (wX G h0 a S') r) 0 0 (inA (wX G h0 a S)) := by
  obtain ⟨o, hf, hg⟩ := bindS hg
  cases hg
  have h := ctX3_share l G h0 a.1 (xs_keptSlots S) (xs_seenCount S) (xs_seed S) (xs_now S).1 (xs_now S).2.1 (xs_now S).2.2.1 (xs_now S).2.2.2.1 (xs_now S).2.2.2.2.1 (xs_now S).2.2.2.2.2.1 (xs_now S).2.2.2.2.2.2 a1 a2 _ hf
  exact frR (X := wX G h0 a S) h [0, 3] rfl
def gX_see (S : XS) (a1 : Int32) (a2 : Int32) : Option (Int32 × XS) :=
  (fX3_see (xs_seenCount S) (xs_now S).1 (xs_seen S) a1 a2).bind fun o => some (o.1, ((xs_keptSlots S), o.2.1, (xs_seed S), (xs_length S), (xs_bytes S), (xs_now S), (xs_trial S), (xs_first S), (xs_count S), o.2.2, (xs_oneHas S), (xs_otherHas S), (xs_ring S), (xs_slots S)))
set_option maxHeartbeats 4000000 in
set_option maxRecDepth 100000 in
theorem cfX_see (l : Launch) (G : GG) (h0 : Nat) (a : AX) (S S' : XS) (a1 : Int32) (a2 : Int32) (r : Int32) (hg : gX_see S a1 a2 = some (r, S')) : Met l yX3_see wsX3_see ({ frames := 1, cells := 0, slots := 0, locals := 21 }) (PcW G [.ref h0, .int a1, .int a2] (wX G h0 a S)) (QiW G (wX G h0 a S) (wX G h0 a S') r) 0 0 (inA (wX G h0 a S)) := by
  obtain ⟨o, hf, hg⟩ := bindS hg
  cases hg
  have h := ctX3_see l G h0 a.1 (xs_keptSlots S) (xs_seenCount S) (xs_seed S) (xs_now S).1 (xs_now S).2.1 (xs_now S).2.2.1 (xs_now S).2.2.2.1 (xs_now S).2.2.2.2.1 (xs_now S).2.2.2.2.2.1 (xs_now S).2.2.2.2.2.2 (xs_seen S) a1 a2 _ hf
  exact frW (X := wX G h0 a S) h [0, 3, 8] (by decide) rfl rfl
def gX_unsee (S : XS) : Option (Int32 × XS) :=
  (fX3_unsee (xs_seenCount S)).bind fun o => some (o.1, ((xs_keptSlots S), o.2, (xs_seed S), (xs_length S), (xs_bytes S), (xs_now S), (xs_trial S), (xs_first S), (xs_count S), (xs_seen S), (xs_oneHas S), (xs_otherHas S), (xs_ring S), (xs_slots S)))
set_option maxHeartbeats 4000000 in
set_option maxRecDepth 100000 in
theorem cfX_unsee (l : Launch) (G : GG) (h0 : Nat) (a : AX) (S S' : XS) (r : Int32) (hg : gX_unsee S = some (r, S')) : Met l yX3_unsee wsX3_unsee ({ frames := 0, cells := 0, slots := 0, locals := 0 }) (PcW G [.ref h0] (wX G h0 a S)) (QiW G (wX G h0 a S) (wX G h0 a S') r) 0 0 (inA (wX G h0 a S)) := by
  obtain ⟨o, hf, hg⟩ := bindS hg
  cases hg
  have h := ctX3_unsee l G h0 a.1 (xs_keptSlots S) (xs_seenCount S) (xs_seed S) _ hf
  exact frW (X := wX G h0 a S) h [0] (by decide) rfl rfl
def gX_did (S : XS) (a1 : Int32) : Option (Int32 × XS) :=
  (fX3_did (xs_seenCount S) (xs_now S).1 (xs_now S).2.1 (xs_now S).2.2.1 (xs_now S).2.2.2.1 (xs_now S).2.2.2.2.1 (xs_now S).2.2.2.2.2.1 (xs_now S).2.2.2.2.2.2 (xs_trial S).1 (xs_trial S).2.1 (xs_trial S).2.2.1 (xs_trial S).2.2.2.1 (xs_trial S).2.2.2.2.1 (xs_trial S).2.2.2.2.2.1 (xs_trial S).2.2.2.2.2.2 (xs_seen S) a1).bind fun o => some (o.1, ((xs_keptSlots S), (xs_seenCount S), (xs_seed S), (xs_length S), (xs_bytes S), (xs_now S), (o.2.1, o.2.2.1, o.2.2.2.1, o.2.2.2.2.1, o.2.2.2.2.2.1, o.2.2.2.2.2.2.1, o.2.2.2.2.2.2.2), (xs_first S), (xs_count S), (xs_seen S), (xs_oneHas S), (xs_otherHas S), (xs_ring S), (xs_slots S)))
set_option maxHeartbeats 4000000 in
set_option maxRecDepth 100000 in
theorem cfX_did (l : Launch) (G : GG) (h0 : Nat) (a : AX) (S S' : XS) (a1 : Int32) (r : Int32) (hg : gX_did S a1 = some (r, S')) : Met l yX3_did wsX3_did ({ frames := 6, cells := 0, slots := 0, locals := 138 }) (PcW G [.ref h0, .int a1] (wX G h0 a S)) (QiW G (wX G h0 a S) (wX G h0 a S') r) 0 0 (inA (wX G h0 a S)) := by
  obtain ⟨o, hf, hg⟩ := bindS hg
  cases hg
  have h := ctX3_did l G h0 a.1 (xs_keptSlots S) (xs_seenCount S) (xs_seed S) (xs_now S).1 (xs_now S).2.1 (xs_now S).2.2.1 (xs_now S).2.2.2.1 (xs_now S).2.2.2.2.1 (xs_now S).2.2.2.2.2.1 (xs_now S).2.2.2.2.2.2 (xs_trial S).1 (xs_trial S).2.1 (xs_trial S).2.2.1 (xs_trial S).2.2.2.1 (xs_trial S).2.2.2.2.1 (xs_trial S).2.2.2.2.2.1 (xs_trial S).2.2.2.2.2.2 (xs_seen S) a1 _ hf
  exact frW (X := wX G h0 a S) h [0, 3, 4, 8] (by decide) rfl rfl
def gX_rests (S : XS) (a1 : Int32) (a2 : Int32) (a3 : Int32) : Option (Int32 × XS) :=
  (fX3_rests (xs_now S).1 (xs_now S).2.1 (xs_now S).2.2.1 (xs_now S).2.2.2.1 (xs_now S).2.2.2.2.1 (xs_now S).2.2.2.2.2.1 (xs_now S).2.2.2.2.2.2 (xs_trial S).1 (xs_trial S).2.1 (xs_trial S).2.2.1 (xs_trial S).2.2.2.1 (xs_trial S).2.2.2.2.1 (xs_trial S).2.2.2.2.2.1 (xs_trial S).2.2.2.2.2.2 (xs_oneHas S) (xs_otherHas S) a1 a2 a3).bind fun o => some (o.1, ((xs_keptSlots S), (xs_seenCount S), (xs_seed S), (xs_length S), (xs_bytes S), (xs_now S), (o.2.1, o.2.2.1, o.2.2.2.1, o.2.2.2.2.1, o.2.2.2.2.2.1, o.2.2.2.2.2.2.1, o.2.2.2.2.2.2.2.1), (xs_first S), (xs_count S), (xs_seen S), o.2.2.2.2.2.2.2.2.1, o.2.2.2.2.2.2.2.2.2, (xs_ring S), (xs_slots S)))
set_option maxHeartbeats 4000000 in
set_option maxRecDepth 100000 in
theorem cfX_rests (l : Launch) (G : GG) (h0 : Nat) (a : AX) (S S' : XS) (a1 : Int32) (a2 : Int32) (a3 : Int32) (r : Int32) (hg : gX_rests S a1 a2 a3 = some (r, S')) : Met l yX3_rests wsX3_rests ({ frames := 6, cells := 0, slots := 0, locals := 140 }) (PcW G [.ref h0, .int a1, .int a2, .int a3] (wX G h0 a S)) (QiW G (wX G h0 a S) (wX G h0 a S') r) 0 0 (inA (wX G h0 a S)) := by
  obtain ⟨o, hf, hg⟩ := bindS hg
  cases hg
  have h := ctX3_rests l G h0 a.1 (xs_keptSlots S) (xs_seenCount S) (xs_seed S) (xs_now S).1 (xs_now S).2.1 (xs_now S).2.2.1 (xs_now S).2.2.2.1 (xs_now S).2.2.2.2.1 (xs_now S).2.2.2.2.2.1 (xs_now S).2.2.2.2.2.2 (xs_trial S).1 (xs_trial S).2.1 (xs_trial S).2.2.1 (xs_trial S).2.2.2.1 (xs_trial S).2.2.2.2.1 (xs_trial S).2.2.2.2.2.1 (xs_trial S).2.2.2.2.2.2 (xs_oneHas S) (xs_otherHas S) a1 a2 a3 _ hf
  exact frW (X := wX G h0 a S) h [0, 3, 4, 9, 10] (by decide) rfl rfl
def gX_toss (S : XS) (a1 : Int32) (a2 : Int32) : Option (Int32 × XS) :=
  (fX3_toss (xs_now S).1 (xs_now S).2.1 (xs_now S).2.2.1 (xs_now S).2.2.2.1 (xs_now S).2.2.2.2.1 a1 a2).bind fun o => some (o, S)
set_option maxHeartbeats 4000000 in
set_option maxRecDepth 100000 in
theorem cfX_toss (l : Launch) (G : GG) (h0 : Nat) (a : AX) (S S' : XS) (a1 : Int32) (a2 : Int32) (r : Int32) (hg : gX_toss S a1 a2 = some (r, S')) : Met l yX3_toss wsX3_toss ({ frames := 5, cells := 0, slots := 0, locals := 115 }) (PcW G [.ref h0, .int a1, .int a2] (wX G h0 a S)) (QiW G (wX G h0 a S) (wX G h0 a S') r) 0 0 (inA (wX G h0 a S)) := by
  obtain ⟨o, hf, hg⟩ := bindS hg
  cases hg
  have h := ctX3_toss l G h0 a.1 (xs_keptSlots S) (xs_seenCount S) (xs_seed S) (xs_now S).1 (xs_now S).2.1 (xs_now S).2.2.1 (xs_now S).2.2.2.1 (xs_now S).2.2.2.2.1 (xs_now S).2.2.2.2.2.1 (xs_now S).2.2.2.2.2.2 a1 a2 _ hf
  exact frR (X := wX G h0 a S) h [0, 3] rfl
def gX_seed (S : XS) (a1 : Int64) : Option (Int64 × XS) :=
  (fX3_seed (xs_seed S) a1).bind fun o => some (o.1, ((xs_keptSlots S), (xs_seenCount S), o.2, (xs_length S), (xs_bytes S), (xs_now S), (xs_trial S), (xs_first S), (xs_count S), (xs_seen S), (xs_oneHas S), (xs_otherHas S), (xs_ring S), (xs_slots S)))
set_option maxHeartbeats 4000000 in
set_option maxRecDepth 100000 in
theorem cfX_seed (l : Launch) (G : GG) (h0 : Nat) (a : AX) (S S' : XS) (a1 : Int64) (r : Int64) (hg : gX_seed S a1 = some (r, S')) : Met l yX3_seed wsX3_seed ({ frames := 0, cells := 0, slots := 0, locals := 0 }) (PcW G [.ref h0, .long a1] (wX G h0 a S)) (QlW G (wX G h0 a S) (wX G h0 a S') r) 0 0 (inA (wX G h0 a S)) := by
  obtain ⟨o, hf, hg⟩ := bindS hg
  cases hg
  have h := ctX3_seed l G h0 a.1 (xs_keptSlots S) (xs_seenCount S) (xs_seed S) a1 _ hf
  exact frWL (X := wX G h0 a S) h [0] (by decide) rfl rfl
def gX_days (S : XS) (a1 : Int32) : Option (Int32 × XS) :=
  (fX3_days (xs_seed S) (xs_now S).1 (xs_now S).2.1 (xs_now S).2.2.1 (xs_now S).2.2.2.1 (xs_now S).2.2.2.2.1 (xs_now S).2.2.2.2.2.1 (xs_now S).2.2.2.2.2.2 (xs_trial S).1 (xs_trial S).2.1 (xs_trial S).2.2.1 (xs_trial S).2.2.2.1 (xs_trial S).2.2.2.2.1 (xs_trial S).2.2.2.2.2.1 (xs_trial S).2.2.2.2.2.2 a1).bind fun o => some (o.1, ((xs_keptSlots S), (xs_seenCount S), o.2.1, (xs_length S), (xs_bytes S), (xs_now S), (o.2.2.1, o.2.2.2.1, o.2.2.2.2.1, o.2.2.2.2.2.1, o.2.2.2.2.2.2.1, o.2.2.2.2.2.2.2.1, o.2.2.2.2.2.2.2.2), (xs_first S), (xs_count S), (xs_seen S), (xs_oneHas S), (xs_otherHas S), (xs_ring S), (xs_slots S)))
set_option maxHeartbeats 4000000 in
set_option maxRecDepth 100000 in
theorem cfX_days (l : Launch) (G : GG) (h0 : Nat) (a : AX) (S S' : XS) (a1 : Int32) (r : Int32) (hg : gX_days S a1 = some (r, S')) : Met l yX3_days wsX3_days ({ frames := 4, cells := 0, slots := 0, locals := 90 }) (PcW G [.ref h0, .int a1] (wX G h0 a S)) (QiW G (wX G h0 a S) (wX G h0 a S') r) 0 0 (inA (wX G h0 a S)) := by
  obtain ⟨o, hf, hg⟩ := bindS hg
  cases hg
  have h := ctX3_days l G h0 a.1 (xs_keptSlots S) (xs_seenCount S) (xs_seed S) (xs_now S).1 (xs_now S).2.1 (xs_now S).2.2.1 (xs_now S).2.2.2.1 (xs_now S).2.2.2.2.1 (xs_now S).2.2.2.2.2.1 (xs_now S).2.2.2.2.2.2 (xs_trial S).1 (xs_trial S).2.1 (xs_trial S).2.2.1 (xs_trial S).2.2.2.1 (xs_trial S).2.2.2.2.1 (xs_trial S).2.2.2.2.2.1 (xs_trial S).2.2.2.2.2.2 a1 _ hf
  exact frW (X := wX G h0 a S) h [0, 3, 4] (by decide) rfl rfl
def gX_keep (S : XS) (a1 : Int32) : Option (Int32 × XS) :=
  (fX3_keep (xs_keptSlots S) (xs_now S).1 (xs_now S).2.1 (xs_now S).2.2.1 (xs_now S).2.2.2.1 (xs_now S).2.2.2.2.1 (xs_now S).2.2.2.2.2.1 (xs_now S).2.2.2.2.2.2 (xs_slots S) a1).bind fun o => some (o.1, (o.2.1, (xs_seenCount S), (xs_seed S), (xs_length S), (xs_bytes S), (xs_now S), (xs_trial S), (xs_first S), (xs_count S), (xs_seen S), (xs_oneHas S), (xs_otherHas S), (xs_ring S), o.2.2))
set_option maxHeartbeats 4000000 in
set_option maxRecDepth 100000 in
theorem cfX_keep (l : Launch) (G : GG) (h0 : Nat) (a : AX) (S S' : XS) (a1 : Int32) (r : Int32) (hg : gX_keep S a1 = some (r, S')) : Met l yX3_keep wsX3_keep ({ frames := 1, cells := 0, slots := 0, locals := 21 }) (PcW G [.ref h0, .int a1] (wX G h0 a S)) (QiW G (wX G h0 a S) (wX G h0 a S') r) 0 0 (inA (wX G h0 a S)) := by
  obtain ⟨o, hf, hg⟩ := bindS hg
  cases hg
  have h := ctX3_keep l G h0 a.1 a.2.2.2.2 (xs_keptSlots S) (xs_seenCount S) (xs_seed S) (xs_now S).1 (xs_now S).2.1 (xs_now S).2.2.1 (xs_now S).2.2.2.1 (xs_now S).2.2.2.2.1 (xs_now S).2.2.2.2.2.1 (xs_now S).2.2.2.2.2.2 (xs_slots S) a1 _ hf
  exact frI (X := (wXf G h0 a S) ++ plist a.2.2.2.1 (xs_ring S) 14) (T := plist a.2.2.2.2 (xs_slots S) 2) h [0, 3, 7] (by decide) rfl rfl
def gX_again (S : XS) (a1 : Int32) : Option (Int32 × XS) :=
  (fX3_again (xs_keptSlots S) (xs_now S).1 (xs_now S).2.1 (xs_now S).2.2.1 (xs_now S).2.2.2.1 (xs_now S).2.2.2.2.1 (xs_now S).2.2.2.2.2.1 (xs_now S).2.2.2.2.2.2 (xs_count S) (xs_slots S) a1).bind fun o => some (o.1, ((xs_keptSlots S), (xs_seenCount S), (xs_seed S), (xs_length S), (xs_bytes S), (o.2.1, o.2.2.1, o.2.2.2.1, o.2.2.2.2.1, o.2.2.2.2.2.1, o.2.2.2.2.2.2.1, o.2.2.2.2.2.2.2.1), (xs_trial S), (xs_first S), o.2.2.2.2.2.2.2.2, (xs_seen S), (xs_oneHas S), (xs_otherHas S), (xs_ring S), (xs_slots S)))
set_option maxHeartbeats 4000000 in
set_option maxRecDepth 100000 in
theorem cfX_again (l : Launch) (G : GG) (h0 : Nat) (a : AX) (S S' : XS) (a1 : Int32) (r : Int32) (hg : gX_again S a1 = some (r, S')) : Met l yX3_again wsX3_again ({ frames := 1, cells := 0, slots := 0, locals := 21 }) (PcW G [.ref h0, .int a1] (wX G h0 a S)) (QiW G (wX G h0 a S) (wX G h0 a S') r) 0 0 (inA (wX G h0 a S)) := by
  obtain ⟨o, hf, hg⟩ := bindS hg
  cases hg
  have h := ctX3_again l G h0 a.1 a.2.2.1 a.2.2.2.2 (xs_keptSlots S) (xs_seenCount S) (xs_seed S) (xs_now S).1 (xs_now S).2.1 (xs_now S).2.2.1 (xs_now S).2.2.2.1 (xs_now S).2.2.2.2.1 (xs_now S).2.2.2.2.2.1 (xs_now S).2.2.2.2.2.2 (xs_first S) (xs_count S) (xs_slots S) a1 _ hf
  exact frI (X := (wXf G h0 a S) ++ plist a.2.2.2.1 (xs_ring S) 14) (T := plist a.2.2.2.2 (xs_slots S) 2) h [0, 3, 5, 7] (by decide) rfl rfl
