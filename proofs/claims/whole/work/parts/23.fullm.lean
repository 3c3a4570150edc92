def gM_write (T : MS) (a1 : Int32) : Option (Int32 × MS) :=
  (fX4_write (ms_thrown T) (ms_textSize T) (ms_text T) a1).bind fun o => some (o.1, (o.2.1, o.2.2.2, o.2.2.1, (ms_place T), (ms_people T), (ms_kind T), (ms_readPeople T), (ms_readDeed T), (ms_readKind T), (ms_readFeeds T), (ms_page T), (ms_trial T), (ms_book T), (ms_acts T), (ms_kept T), (ms_isKept T), (ms_seen T), (ms_seenOne T), (ms_seenTwo T), (ms_seed T), (ms_row T), (ms_rowSize T), (ms_feedMany T), (ms_feedRow T), (ms_restMany T), (ms_restFirst T), (ms_value T), (ms_gains T), (ms_weight T)))
set_option maxHeartbeats 4000000 in
set_option maxRecDepth 100000 in
theorem cfM_write (l : Launch) (G : GG) (h0 : Nat) (ad : Nat → Nat) (T T' : MS) (a1 : Int32) (r : Int32) (hg : gM_write T a1 = some (r, T')) : Met l yX4_write wsX4_write ({ frames := 1, cells := 0, slots := 0, locals := 25 }) (PcW G [.ref h0, .int a1] (wM G h0 ad T)) (QiW G (wM G h0 ad T) (wM G h0 ad T') r) 0 0 (inA (wM G h0 ad T)) := by
  obtain ⟨o, hf, hg⟩ := bindS hg
  cases hg
  have h := ctX4_write l G h0 ad (ms_thrown T) (ms_textSize T) (ms_place T) (ms_people T) (ms_readPeople T) (ms_acts T) (ms_seen T) (ms_seed T) (ms_rowSize T) (ms_feedMany T) (ms_feedRow T) (ms_restMany T) (ms_restFirst T) (ms_text T) a1 _ hf
  exact frW (X := wM G h0 ad T) h [0, 1] (by decide) rfl rfl
def gM_wipe (T : MS) : Option (Int32 × MS) :=
  (fX4_wipe (ms_thrown T) (ms_textSize T)).bind fun o => some (o.1, (o.2.1, (ms_text T), o.2.2, (ms_place T), (ms_people T), (ms_kind T), (ms_readPeople T), (ms_readDeed T), (ms_readKind T), (ms_readFeeds T), (ms_page T), (ms_trial T), (ms_book T), (ms_acts T), (ms_kept T), (ms_isKept T), (ms_seen T), (ms_seenOne T), (ms_seenTwo T), (ms_seed T), (ms_row T), (ms_rowSize T), (ms_feedMany T), (ms_feedRow T), (ms_restMany T), (ms_restFirst T), (ms_value T), (ms_gains T), (ms_weight T)))
set_option maxHeartbeats 4000000 in
set_option maxRecDepth 100000 in
theorem cfM_wipe (l : Launch) (G : GG) (h0 : Nat) (ad : Nat → Nat) (T T' : MS) (r : Int32) (hg : gM_wipe T = some (r, T')) : Met l yX4_wipe wsX4_wipe ({ frames := 0, cells := 0, slots := 0, locals := 0 }) (PcW G [.ref h0] (wM G h0 ad T)) (QiW G (wM G h0 ad T) (wM G h0 ad T') r) 0 0 (inA (wM G h0 ad T)) := by
  obtain ⟨o, hf, hg⟩ := bindS hg
  cases hg
  have h := ctX4_wipe l G h0 ad (ms_thrown T) (ms_textSize T) (ms_place T) (ms_people T) (ms_readPeople T) (ms_acts T) (ms_seen T) (ms_seed T) (ms_rowSize T) (ms_feedMany T) (ms_feedRow T) (ms_restMany T) (ms_restFirst T) _ hf
  exact frW (X := wM G h0 ad T) h [0] (by decide) rfl rfl
def gM_fault (T : MS) : Option (Int32 × MS) :=
  (fX4_fault (ms_thrown T) (ms_textSize T) (ms_place T) (ms_readPeople T) (ms_text T) (ms_readDeed T) (ms_readKind T) (ms_readFeeds T)).bind fun o => some (o.1, (o.2.1, (ms_text T), (ms_textSize T), o.2.2.1, (ms_people T), (ms_kind T), o.2.2.2.1, o.2.2.2.2.1, o.2.2.2.2.2.1, o.2.2.2.2.2.2, (ms_page T), (ms_trial T), (ms_book T), (ms_acts T), (ms_kept T), (ms_isKept T), (ms_seen T), (ms_seenOne T), (ms_seenTwo T), (ms_seed T), (ms_row T), (ms_rowSize T), (ms_feedMany T), (ms_feedRow T), (ms_restMany T), (ms_restFirst T), (ms_value T), (ms_gains T), (ms_weight T)))
set_option maxHeartbeats 4000000 in
set_option maxRecDepth 100000 in
theorem cfM_fault (l : Launch) (G : GG) (h0 : Nat) (ad : Nat → Nat) (T T' : MS) (r : Int32) (hg : gM_fault T = some (r, T')) : Met l yX4_fault wsX4_fault ({ frames := 5, cells := 0, slots := 0, locals := 109 }) (PcW G [.ref h0] (wM G h0 ad T)) (QiW G (wM G h0 ad T) (wM G h0 ad T') r) 0 0 (inA (wM G h0 ad T)) := by
  obtain ⟨o, hf, hg⟩ := bindS hg
  cases hg
  have h := ctX4_fault l G h0 ad (ms_thrown T) (ms_textSize T) (ms_place T) (ms_people T) (ms_readPeople T) (ms_acts T) (ms_seen T) (ms_seed T) (ms_rowSize T) (ms_feedMany T) (ms_feedRow T) (ms_restMany T) (ms_restFirst T) (ms_text T) (ms_readDeed T) (ms_readKind T) (ms_readFeeds T) _ hf
  exact frW (X := wM G h0 ad T) h [0, 1, 3, 4, 5] (by decide) rfl rfl
def gM_county (T : MS) : Option (Int32 × MS) :=
  (fX4_county (ms_thrown T) (ms_textSize T) (ms_place T) (ms_people T) (ms_readPeople T) (ms_acts T) (ms_text T) (ms_kind T) (ms_readDeed T) (ms_readKind T) (ms_readFeeds T) (ms_page T) (ms_isKept T)).bind fun o => some (o.1, (o.2.1, (ms_text T), (ms_textSize T), o.2.2.1, o.2.2.2.1, o.2.2.2.2.2.2.1, o.2.2.2.2.1, o.2.2.2.2.2.2.2.1, o.2.2.2.2.2.2.2.2.1, o.2.2.2.2.2.2.2.2.2.1, o.2.2.2.2.2.2.2.2.2.2.1, (ms_trial T), (ms_book T), o.2.2.2.2.2.1, (ms_kept T), o.2.2.2.2.2.2.2.2.2.2.2, (ms_seen T), (ms_seenOne T), (ms_seenTwo T), (ms_seed T), (ms_row T), (ms_rowSize T), (ms_feedMany T), (ms_feedRow T), (ms_restMany T), (ms_restFirst T), (ms_value T), (ms_gains T), (ms_weight T)))
set_option maxHeartbeats 4000000 in
set_option maxRecDepth 100000 in
theorem cfM_county (l : Launch) (G : GG) (h0 : Nat) (ad : Nat → Nat) (T T' : MS) (r : Int32) (hg : gM_county T = some (r, T')) : Met l yX4_county wsX4_county ({ frames := 5, cells := 0, slots := 0, locals := 109 }) (PcW G [.ref h0] (wM G h0 ad T)) (QiW G (wM G h0 ad T) (wM G h0 ad T') r) 0 0 (inA (wM G h0 ad T)) := by
  obtain ⟨o, hf, hg⟩ := bindS hg
  cases hg
  have h := ctX4_county l G h0 ad (ms_thrown T) (ms_textSize T) (ms_place T) (ms_people T) (ms_readPeople T) (ms_acts T) (ms_seen T) (ms_seed T) (ms_rowSize T) (ms_feedMany T) (ms_feedRow T) (ms_restMany T) (ms_restFirst T) (ms_text T) (ms_kind T) (ms_readDeed T) (ms_readKind T) (ms_readFeeds T) (ms_page T) (ms_isKept T) _ hf
  exact frW (X := wM G h0 ad T) h [0, 1, 2, 3, 4, 5, 6, 10] (by decide) rfl rfl
def gM_about (T : MS) (a1 : Int32) : Option (Int32 × MS) :=
  (fX4_about (ms_thrown T) (ms_textSize T) (ms_people T) (ms_acts T) (ms_seen T) (ms_kind T) (ms_page T) a1).bind fun o => some (o.1, (o.2, (ms_text T), (ms_textSize T), (ms_place T), (ms_people T), (ms_kind T), (ms_readPeople T), (ms_readDeed T), (ms_readKind T), (ms_readFeeds T), (ms_page T), (ms_trial T), (ms_book T), (ms_acts T), (ms_kept T), (ms_isKept T), (ms_seen T), (ms_seenOne T), (ms_seenTwo T), (ms_seed T), (ms_row T), (ms_rowSize T), (ms_feedMany T), (ms_feedRow T), (ms_restMany T), (ms_restFirst T), (ms_value T), (ms_gains T), (ms_weight T)))
set_option maxHeartbeats 4000000 in
set_option maxRecDepth 100000 in
theorem cfM_about (l : Launch) (G : GG) (h0 : Nat) (ad : Nat → Nat) (T T' : MS) (a1 : Int32) (r : Int32) (hg : gM_about T a1 = some (r, T')) : Met l yX4_about wsX4_about ({ frames := 3, cells := 0, slots := 0, locals := 69 }) (PcW G [.ref h0, .int a1] (wM G h0 ad T)) (QiW G (wM G h0 ad T) (wM G h0 ad T') r) 0 0 (inA (wM G h0 ad T)) := by
  obtain ⟨o, hf, hg⟩ := bindS hg
  cases hg
  have h := ctX4_about l G h0 ad (ms_thrown T) (ms_textSize T) (ms_place T) (ms_people T) (ms_readPeople T) (ms_acts T) (ms_seen T) (ms_seed T) (ms_rowSize T) (ms_feedMany T) (ms_feedRow T) (ms_restMany T) (ms_restFirst T) (ms_kind T) (ms_page T) a1 _ hf
  exact frW (X := wM G h0 ad T) h [0, 2, 6] (by decide) rfl rfl
def gM_person (T : MS) (a1 : Int32) (a2 : Int32) : Option (Int32 × MS) :=
  (fX4_person (ms_thrown T) (ms_people T) (ms_kind T) (ms_page T) a1 a2).bind fun o => some (o.1, (o.2, (ms_text T), (ms_textSize T), (ms_place T), (ms_people T), (ms_kind T), (ms_readPeople T), (ms_readDeed T), (ms_readKind T), (ms_readFeeds T), (ms_page T), (ms_trial T), (ms_book T), (ms_acts T), (ms_kept T), (ms_isKept T), (ms_seen T), (ms_seenOne T), (ms_seenTwo T), (ms_seed T), (ms_row T), (ms_rowSize T), (ms_feedMany T), (ms_feedRow T), (ms_restMany T), (ms_restFirst T), (ms_value T), (ms_gains T), (ms_weight T)))
set_option maxHeartbeats 4000000 in
set_option maxRecDepth 100000 in
theorem cfM_person (l : Launch) (G : GG) (h0 : Nat) (ad : Nat → Nat) (T T' : MS) (a1 : Int32) (a2 : Int32) (r : Int32) (hg : gM_person T a1 a2 = some (r, T')) : Met l yX4_person wsX4_person ({ frames := 2, cells := 0, slots := 0, locals := 46 }) (PcW G [.ref h0, .int a1, .int a2] (wM G h0 ad T)) (QiW G (wM G h0 ad T) (wM G h0 ad T') r) 0 0 (inA (wM G h0 ad T)) := by
  obtain ⟨o, hf, hg⟩ := bindS hg
  cases hg
  have h := ctX4_person l G h0 ad (ms_thrown T) (ms_textSize T) (ms_place T) (ms_people T) (ms_readPeople T) (ms_acts T) (ms_seen T) (ms_seed T) (ms_rowSize T) (ms_feedMany T) (ms_feedRow T) (ms_restMany T) (ms_restFirst T) (ms_kind T) (ms_page T) a1 a2 _ hf
  exact frW (X := wM G h0 ad T) h [0, 2, 6] (by decide) rfl rfl
def gM_take (T : MS) (a1 : Int32) : Option (Int32 × MS) :=
  (fX4_take (ms_thrown T) (ms_people T) (ms_acts T) (ms_kind T) (ms_page T) (ms_book T) a1).bind fun o => some (o.1, (o.2.1, (ms_text T), (ms_textSize T), (ms_place T), (ms_people T), (ms_kind T), (ms_readPeople T), (ms_readDeed T), (ms_readKind T), (ms_readFeeds T), o.2.2.2.1, (ms_trial T), o.2.2.2.2, o.2.2.1, (ms_kept T), (ms_isKept T), (ms_seen T), (ms_seenOne T), (ms_seenTwo T), (ms_seed T), (ms_row T), (ms_rowSize T), (ms_feedMany T), (ms_feedRow T), (ms_restMany T), (ms_restFirst T), (ms_value T), (ms_gains T), (ms_weight T)))
set_option maxHeartbeats 4000000 in
set_option maxRecDepth 100000 in
theorem cfM_take (l : Launch) (G : GG) (h0 : Nat) (ad : Nat → Nat) (T T' : MS) (a1 : Int32) (r : Int32) (hg : gM_take T a1 = some (r, T')) : Met l yX4_take wsX4_take ({ frames := 3, cells := 0, slots := 0, locals := 69 }) (PcW G [.ref h0, .int a1] (wM G h0 ad T)) (QiW G (wM G h0 ad T) (wM G h0 ad T') r) 0 0 (inA (wM G h0 ad T)) := by
  obtain ⟨o, hf, hg⟩ := bindS hg
  cases hg
  have h := ctX4_take l G h0 ad (ms_thrown T) (ms_textSize T) (ms_place T) (ms_people T) (ms_readPeople T) (ms_acts T) (ms_seen T) (ms_seed T) (ms_rowSize T) (ms_feedMany T) (ms_feedRow T) (ms_restMany T) (ms_restFirst T) (ms_kind T) (ms_page T) (ms_book T) a1 _ hf
  exact frW (X := wM G h0 ad T) h [0, 2, 6, 8] (by decide) rfl rfl
def gM_free (T : MS) (a1 : Int32) : Option (Int32 × MS) :=
  (fX4_free (ms_thrown T) (ms_people T) (ms_acts T) (ms_page T) (ms_book T) a1).bind fun o => some (o.1, (o.2.1, (ms_text T), (ms_textSize T), (ms_place T), (ms_people T), (ms_kind T), (ms_readPeople T), (ms_readDeed T), (ms_readKind T), (ms_readFeeds T), o.2.2.2.1, (ms_trial T), o.2.2.2.2, o.2.2.1, (ms_kept T), (ms_isKept T), (ms_seen T), (ms_seenOne T), (ms_seenTwo T), (ms_seed T), (ms_row T), (ms_rowSize T), (ms_feedMany T), (ms_feedRow T), (ms_restMany T), (ms_restFirst T), (ms_value T), (ms_gains T), (ms_weight T)))
set_option maxHeartbeats 4000000 in
set_option maxRecDepth 100000 in
theorem cfM_free (l : Launch) (G : GG) (h0 : Nat) (ad : Nat → Nat) (T T' : MS) (a1 : Int32) (r : Int32) (hg : gM_free T a1 = some (r, T')) : Met l yX4_free wsX4_free ({ frames := 2, cells := 0, slots := 0, locals := 46 }) (PcW G [.ref h0, .int a1] (wM G h0 ad T)) (QiW G (wM G h0 ad T) (wM G h0 ad T') r) 0 0 (inA (wM G h0 ad T)) := by
  obtain ⟨o, hf, hg⟩ := bindS hg
  cases hg
  have h := ctX4_free l G h0 ad (ms_thrown T) (ms_textSize T) (ms_place T) (ms_people T) (ms_readPeople T) (ms_acts T) (ms_seen T) (ms_seed T) (ms_rowSize T) (ms_feedMany T) (ms_feedRow T) (ms_restMany T) (ms_restFirst T) (ms_page T) (ms_book T) a1 _ hf
  exact frW (X := wM G h0 ad T) h [0, 6, 8] (by decide) rfl rfl
def gM_die (T : MS) (a1 : Int32) : Option (Int32 × MS) :=
  (fX4_die (ms_thrown T) (ms_people T) (ms_acts T) (ms_page T) (ms_book T) a1).bind fun o => some (o.1, (o.2.1, (ms_text T), (ms_textSize T), (ms_place T), (ms_people T), (ms_kind T), (ms_readPeople T), (ms_readDeed T), (ms_readKind T), (ms_readFeeds T), o.2.2.2.1, (ms_trial T), o.2.2.2.2, o.2.2.1, (ms_kept T), (ms_isKept T), (ms_seen T), (ms_seenOne T), (ms_seenTwo T), (ms_seed T), (ms_row T), (ms_rowSize T), (ms_feedMany T), (ms_feedRow T), (ms_restMany T), (ms_restFirst T), (ms_value T), (ms_gains T), (ms_weight T)))
set_option maxHeartbeats 4000000 in
set_option maxRecDepth 100000 in
theorem cfM_die (l : Launch) (G : GG) (h0 : Nat) (ad : Nat → Nat) (T T' : MS) (a1 : Int32) (r : Int32) (hg : gM_die T a1 = some (r, T')) : Met l yX4_die wsX4_die ({ frames := 2, cells := 0, slots := 0, locals := 46 }) (PcW G [.ref h0, .int a1] (wM G h0 ad T)) (QiW G (wM G h0 ad T) (wM G h0 ad T') r) 0 0 (inA (wM G h0 ad T)) := by
  obtain ⟨o, hf, hg⟩ := bindS hg
  cases hg
  have h := ctX4_die l G h0 ad (ms_thrown T) (ms_textSize T) (ms_place T) (ms_people T) (ms_readPeople T) (ms_acts T) (ms_seen T) (ms_seed T) (ms_rowSize T) (ms_feedMany T) (ms_feedRow T) (ms_restMany T) (ms_restFirst T) (ms_page T) (ms_book T) a1 _ hf
  exact frW (X := wM G h0 ad T) h [0, 6, 8] (by decide) rfl rfl
def gM_feed (T : MS) (a1 : Int32) (a2 : Int32) : Option (Int32 × MS) :=
  (fX4_feed (ms_thrown T) (ms_people T) (ms_acts T) (ms_page T) (ms_book T) a1 a2).bind fun o => some (o.1, (o.2.1, (ms_text T), (ms_textSize T), (ms_place T), (ms_people T), (ms_kind T), (ms_readPeople T), (ms_readDeed T), (ms_readKind T), (ms_readFeeds T), o.2.2.2.1, (ms_trial T), o.2.2.2.2, o.2.2.1, (ms_kept T), (ms_isKept T), (ms_seen T), (ms_seenOne T), (ms_seenTwo T), (ms_seed T), (ms_row T), (ms_rowSize T), (ms_feedMany T), (ms_feedRow T), (ms_restMany T), (ms_restFirst T), (ms_value T), (ms_gains T), (ms_weight T)))
set_option maxHeartbeats 4000000 in
set_option maxRecDepth 100000 in
theorem cfM_feed (l : Launch) (G : GG) (h0 : Nat) (ad : Nat → Nat) (T T' : MS) (a1 : Int32) (a2 : Int32) (r : Int32) (hg : gM_feed T a1 a2 = some (r, T')) : Met l yX4_feed wsX4_feed ({ frames := 2, cells := 0, slots := 0, locals := 46 }) (PcW G [.ref h0, .int a1, .int a2] (wM G h0 ad T)) (QiW G (wM G h0 ad T) (wM G h0 ad T') r) 0 0 (inA (wM G h0 ad T)) := by
  obtain ⟨o, hf, hg⟩ := bindS hg
  cases hg
  have h := ctX4_feed l G h0 ad (ms_thrown T) (ms_textSize T) (ms_place T) (ms_people T) (ms_readPeople T) (ms_acts T) (ms_seen T) (ms_seed T) (ms_rowSize T) (ms_feedMany T) (ms_feedRow T) (ms_restMany T) (ms_restFirst T) (ms_page T) (ms_book T) a1 a2 _ hf
  exact frW (X := wM G h0 ad T) h [0, 6, 8] (by decide) rfl rfl
def gM_grade (T : MS) (a1 : Int32) (a2 : Int32) : Option (Int32 × MS) :=
  (fX4_grade (ms_thrown T) (ms_people T) (ms_acts T) (ms_page T) (ms_book T) a1 a2).bind fun o => some (o.1, (o.2.1, (ms_text T), (ms_textSize T), (ms_place T), (ms_people T), (ms_kind T), (ms_readPeople T), (ms_readDeed T), (ms_readKind T), (ms_readFeeds T), o.2.2.2.1, (ms_trial T), o.2.2.2.2, o.2.2.1, (ms_kept T), (ms_isKept T), (ms_seen T), (ms_seenOne T), (ms_seenTwo T), (ms_seed T), (ms_row T), (ms_rowSize T), (ms_feedMany T), (ms_feedRow T), (ms_restMany T), (ms_restFirst T), (ms_value T), (ms_gains T), (ms_weight T)))
set_option maxHeartbeats 4000000 in
set_option maxRecDepth 100000 in
theorem cfM_grade (l : Launch) (G : GG) (h0 : Nat) (ad : Nat → Nat) (T T' : MS) (a1 : Int32) (a2 : Int32) (r : Int32) (hg : gM_grade T a1 a2 = some (r, T')) : Met l yX4_grade wsX4_grade ({ frames := 2, cells := 0, slots := 0, locals := 46 }) (PcW G [.ref h0, .int a1, .int a2] (wM G h0 ad T)) (QiW G (wM G h0 ad T) (wM G h0 ad T') r) 0 0 (inA (wM G h0 ad T)) := by
  obtain ⟨o, hf, hg⟩ := bindS hg
  cases hg
  have h := ctX4_grade l G h0 ad (ms_thrown T) (ms_textSize T) (ms_place T) (ms_people T) (ms_readPeople T) (ms_acts T) (ms_seen T) (ms_seed T) (ms_rowSize T) (ms_feedMany T) (ms_feedRow T) (ms_restMany T) (ms_restFirst T) (ms_page T) (ms_book T) a1 a2 _ hf
  exact frW (X := wM G h0 ad T) h [0, 6, 8] (by decide) rfl rfl
def gM_day (T : MS) : Option (Int32 × MS) :=
  (fX4_day (ms_thrown T) (ms_people T) (ms_acts T) (ms_kind T) (ms_page T) (ms_book T)).bind fun o => some (o.1, (o.2.1, (ms_text T), (ms_textSize T), (ms_place T), (ms_people T), (ms_kind T), (ms_readPeople T), (ms_readDeed T), (ms_readKind T), (ms_readFeeds T), o.2.2.2.1, (ms_trial T), o.2.2.2.2, o.2.2.1, (ms_kept T), (ms_isKept T), (ms_seen T), (ms_seenOne T), (ms_seenTwo T), (ms_seed T), (ms_row T), (ms_rowSize T), (ms_feedMany T), (ms_feedRow T), (ms_restMany T), (ms_restFirst T), (ms_value T), (ms_gains T), (ms_weight T)))
set_option maxHeartbeats 4000000 in
set_option maxRecDepth 100000 in
theorem cfM_day (l : Launch) (G : GG) (h0 : Nat) (ad : Nat → Nat) (T T' : MS) (r : Int32) (hg : gM_day T = some (r, T')) : Met l yX4_day wsX4_day ({ frames := 4, cells := 0, slots := 0, locals := 92 }) (PcW G [.ref h0] (wM G h0 ad T)) (QiW G (wM G h0 ad T) (wM G h0 ad T') r) 0 0 (inA (wM G h0 ad T)) := by
  obtain ⟨o, hf, hg⟩ := bindS hg
  cases hg
  have h := ctX4_day l G h0 ad (ms_thrown T) (ms_textSize T) (ms_place T) (ms_people T) (ms_readPeople T) (ms_acts T) (ms_seen T) (ms_seed T) (ms_rowSize T) (ms_feedMany T) (ms_feedRow T) (ms_restMany T) (ms_restFirst T) (ms_kind T) (ms_page T) (ms_book T) _ hf
  exact frW (X := wM G h0 ad T) h [0, 2, 6, 8] (by decide) rfl rfl
def gM_undo (T : MS) : Option (Int32 × MS) :=
  (fX4_undo (ms_thrown T) (ms_acts T) (ms_page T) (ms_book T)).bind fun o => some (o.1, (o.2.1, (ms_text T), (ms_textSize T), (ms_place T), (ms_people T), (ms_kind T), (ms_readPeople T), (ms_readDeed T), (ms_readKind T), (ms_readFeeds T), o.2.2.2, (ms_trial T), (ms_book T), o.2.2.1, (ms_kept T), (ms_isKept T), (ms_seen T), (ms_seenOne T), (ms_seenTwo T), (ms_seed T), (ms_row T), (ms_rowSize T), (ms_feedMany T), (ms_feedRow T), (ms_restMany T), (ms_restFirst T), (ms_value T), (ms_gains T), (ms_weight T)))
set_option maxHeartbeats 4000000 in
set_option maxRecDepth 100000 in
theorem cfM_undo (l : Launch) (G : GG) (h0 : Nat) (ad : Nat → Nat) (T T' : MS) (r : Int32) (hg : gM_undo T = some (r, T')) : Met l yX4_undo wsX4_undo ({ frames := 0, cells := 0, slots := 0, locals := 0 }) (PcW G [.ref h0] (wM G h0 ad T)) (QiW G (wM G h0 ad T) (wM G h0 ad T') r) 0 0 (inA (wM G h0 ad T)) := by
  obtain ⟨o, hf, hg⟩ := bindS hg
  cases hg
  have h := ctX4_undo l G h0 ad (ms_thrown T) (ms_textSize T) (ms_place T) (ms_people T) (ms_readPeople T) (ms_acts T) (ms_seen T) (ms_seed T) (ms_rowSize T) (ms_feedMany T) (ms_feedRow T) (ms_restMany T) (ms_restFirst T) (ms_page T) (ms_book T) _ hf
  exact frW (X := wM G h0 ad T) h [0, 6, 8] (by decide) rfl rfl
def gM_fall (T : MS) : Option (Int32 × MS) :=
  (fX4_fall (ms_thrown T) (ms_people T) (ms_rowSize T) (ms_kind T) (ms_page T) (ms_trial T) (ms_row T)).bind fun o => some (o.1, (o.2.1, (ms_text T), (ms_textSize T), (ms_place T), (ms_people T), (ms_kind T), (ms_readPeople T), (ms_readDeed T), (ms_readKind T), (ms_readFeeds T), (ms_page T), o.2.2.2.1, (ms_book T), (ms_acts T), (ms_kept T), (ms_isKept T), (ms_seen T), (ms_seenOne T), (ms_seenTwo T), (ms_seed T), o.2.2.2.2, o.2.2.1, (ms_feedMany T), (ms_feedRow T), (ms_restMany T), (ms_restFirst T), (ms_value T), (ms_gains T), (ms_weight T)))
set_option maxHeartbeats 4000000 in
set_option maxRecDepth 100000 in
theorem cfM_fall (l : Launch) (G : GG) (h0 : Nat) (ad : Nat → Nat) (T T' : MS) (r : Int32) (hg : gM_fall T = some (r, T')) : Met l yX4_fall wsX4_fall ({ frames := 4, cells := 0, slots := 0, locals := 90 }) (PcW G [.ref h0] (wM G h0 ad T)) (QiW G (wM G h0 ad T) (wM G h0 ad T') r) 0 0 (inA (wM G h0 ad T)) := by
  obtain ⟨o, hf, hg⟩ := bindS hg
  cases hg
  have h := ctX4_fall l G h0 ad (ms_thrown T) (ms_textSize T) (ms_place T) (ms_people T) (ms_readPeople T) (ms_acts T) (ms_seen T) (ms_seed T) (ms_rowSize T) (ms_feedMany T) (ms_feedRow T) (ms_restMany T) (ms_restFirst T) (ms_kind T) (ms_page T) (ms_trial T) (ms_row T) _ hf
  exact frW (X := wM G h0 ad T) h [0, 2, 6, 7, 13] (by decide) rfl rfl
def gM_place (T : MS) (a1 : Int32) : Option (Int32 × MS) :=
  (fX4_place (ms_thrown T) (ms_people T) (ms_rowSize T) (ms_kind T) (ms_page T) (ms_trial T) (ms_row T) a1).bind fun o => some (o.1, (o.2.1, (ms_text T), (ms_textSize T), (ms_place T), (ms_people T), (ms_kind T), (ms_readPeople T), (ms_readDeed T), (ms_readKind T), (ms_readFeeds T), (ms_page T), o.2.2.2.1, (ms_book T), (ms_acts T), (ms_kept T), (ms_isKept T), (ms_seen T), (ms_seenOne T), (ms_seenTwo T), (ms_seed T), o.2.2.2.2, o.2.2.1, (ms_feedMany T), (ms_feedRow T), (ms_restMany T), (ms_restFirst T), (ms_value T), (ms_gains T), (ms_weight T)))
set_option maxHeartbeats 4000000 in
set_option maxRecDepth 100000 in
theorem cfM_place (l : Launch) (G : GG) (h0 : Nat) (ad : Nat → Nat) (T T' : MS) (a1 : Int32) (r : Int32) (hg : gM_place T a1 = some (r, T')) : Met l yX4_place wsX4_place ({ frames := 4, cells := 0, slots := 0, locals := 90 }) (PcW G [.ref h0, .int a1] (wM G h0 ad T)) (QiW G (wM G h0 ad T) (wM G h0 ad T') r) 0 0 (inA (wM G h0 ad T)) := by
  obtain ⟨o, hf, hg⟩ := bindS hg
  cases hg
  have h := ctX4_place l G h0 ad (ms_thrown T) (ms_textSize T) (ms_place T) (ms_people T) (ms_readPeople T) (ms_acts T) (ms_seen T) (ms_seed T) (ms_rowSize T) (ms_feedMany T) (ms_feedRow T) (ms_restMany T) (ms_restFirst T) (ms_kind T) (ms_page T) (ms_trial T) (ms_row T) a1 _ hf
  exact frW (X := wM G h0 ad T) h [0, 2, 6, 7, 13] (by decide) rfl rfl
def gM_last (T : MS) : Option (Int32 × MS) :=
  (fX4_last (ms_thrown T) (ms_people T) (ms_rowSize T) (ms_kind T) (ms_page T) (ms_trial T) (ms_row T)).bind fun o => some (o.1, (o.2.1, (ms_text T), (ms_textSize T), (ms_place T), (ms_people T), (ms_kind T), (ms_readPeople T), (ms_readDeed T), (ms_readKind T), (ms_readFeeds T), (ms_page T), o.2.2.2.1, (ms_book T), (ms_acts T), (ms_kept T), (ms_isKept T), (ms_seen T), (ms_seenOne T), (ms_seenTwo T), (ms_seed T), o.2.2.2.2, o.2.2.1, (ms_feedMany T), (ms_feedRow T), (ms_restMany T), (ms_restFirst T), (ms_value T), (ms_gains T), (ms_weight T)))
set_option maxHeartbeats 4000000 in
set_option maxRecDepth 100000 in
theorem cfM_last (l : Launch) (G : GG) (h0 : Nat) (ad : Nat → Nat) (T T' : MS) (r : Int32) (hg : gM_last T = some (r, T')) : Met l yX4_last wsX4_last ({ frames := 4, cells := 0, slots := 0, locals := 90 }) (PcW G [.ref h0] (wM G h0 ad T)) (QiW G (wM G h0 ad T) (wM G h0 ad T') r) 0 0 (inA (wM G h0 ad T)) := by
  obtain ⟨o, hf, hg⟩ := bindS hg
  cases hg
  have h := ctX4_last l G h0 ad (ms_thrown T) (ms_textSize T) (ms_place T) (ms_people T) (ms_readPeople T) (ms_acts T) (ms_seen T) (ms_seed T) (ms_rowSize T) (ms_feedMany T) (ms_feedRow T) (ms_restMany T) (ms_restFirst T) (ms_kind T) (ms_page T) (ms_trial T) (ms_row T) _ hf
  exact frW (X := wM G h0 ad T) h [0, 2, 6, 7, 13] (by decide) rfl rfl
def gM_toFeed (T : MS) (a1 : Int32) (a2 : Int32) : Option (Int32 × MS) :=
  (fX4_toFeed (ms_thrown T) (ms_people T) (ms_rowSize T) (ms_feedMany T) (ms_feedRow T) (ms_kind T) (ms_page T) (ms_trial T) (ms_row T) a1 a2).bind fun o => some (o.1, (o.2.1, (ms_text T), (ms_textSize T), (ms_place T), (ms_people T), (ms_kind T), (ms_readPeople T), (ms_readDeed T), (ms_readKind T), (ms_readFeeds T), (ms_page T), o.2.2.2.2.2.1, (ms_book T), (ms_acts T), (ms_kept T), (ms_isKept T), (ms_seen T), (ms_seenOne T), (ms_seenTwo T), (ms_seed T), o.2.2.2.2.2.2, o.2.2.1, o.2.2.2.1, o.2.2.2.2.1, (ms_restMany T), (ms_restFirst T), (ms_value T), (ms_gains T), (ms_weight T)))
set_option maxHeartbeats 4000000 in
set_option maxRecDepth 100000 in
theorem cfM_toFeed (l : Launch) (G : GG) (h0 : Nat) (ad : Nat → Nat) (T T' : MS) (a1 : Int32) (a2 : Int32) (r : Int32) (hg : gM_toFeed T a1 a2 = some (r, T')) : Met l yX4_toFeed wsX4_toFeed ({ frames := 6, cells := 0, slots := 0, locals := 137 }) (PcW G [.ref h0, .int a1, .int a2] (wM G h0 ad T)) (QiW G (wM G h0 ad T) (wM G h0 ad T') r) 0 0 (inA (wM G h0 ad T)) := by
  obtain ⟨o, hf, hg⟩ := bindS hg
  cases hg
  have h := ctX4_toFeed l G h0 ad (ms_thrown T) (ms_textSize T) (ms_place T) (ms_people T) (ms_readPeople T) (ms_acts T) (ms_seen T) (ms_seed T) (ms_rowSize T) (ms_feedMany T) (ms_feedRow T) (ms_restMany T) (ms_restFirst T) (ms_kind T) (ms_page T) (ms_trial T) (ms_row T) a1 a2 _ hf
  exact frW (X := wM G h0 ad T) h [0, 2, 6, 7, 13] (by decide) rfl rfl
def gM_giveUp (T : MS) (a1 : Int32) : Option (Int32 × MS) :=
  (fX4_giveUp (ms_thrown T) (ms_people T) (ms_rowSize T) (ms_kind T) (ms_page T) (ms_trial T) (ms_row T) a1).bind fun o => some (o.1, (o.2.1, (ms_text T), (ms_textSize T), (ms_place T), (ms_people T), (ms_kind T), (ms_readPeople T), (ms_readDeed T), (ms_readKind T), (ms_readFeeds T), (ms_page T), o.2.2.2.1, (ms_book T), (ms_acts T), (ms_kept T), (ms_isKept T), (ms_seen T), (ms_seenOne T), (ms_seenTwo T), (ms_seed T), o.2.2.2.2, o.2.2.1, (ms_feedMany T), (ms_feedRow T), (ms_restMany T), (ms_restFirst T), (ms_value T), (ms_gains T), (ms_weight T)))
set_option maxHeartbeats 4000000 in
set_option maxRecDepth 100000 in
theorem cfM_giveUp (l : Launch) (G : GG) (h0 : Nat) (ad : Nat → Nat) (T T' : MS) (a1 : Int32) (r : Int32) (hg : gM_giveUp T a1 = some (r, T')) : Met l yX4_giveUp wsX4_giveUp ({ frames := 4, cells := 0, slots := 0, locals := 90 }) (PcW G [.ref h0, .int a1] (wM G h0 ad T)) (QiW G (wM G h0 ad T) (wM G h0 ad T') r) 0 0 (inA (wM G h0 ad T)) := by
  obtain ⟨o, hf, hg⟩ := bindS hg
  cases hg
  have h := ctX4_giveUp l G h0 ad (ms_thrown T) (ms_textSize T) (ms_place T) (ms_people T) (ms_readPeople T) (ms_acts T) (ms_seen T) (ms_seed T) (ms_rowSize T) (ms_feedMany T) (ms_feedRow T) (ms_restMany T) (ms_restFirst T) (ms_kind T) (ms_page T) (ms_trial T) (ms_row T) a1 _ hf
  exact frW (X := wM G h0 ad T) h [0, 2, 6, 7, 13] (by decide) rfl rfl
def gM_claim (T : MS) (a1 : Int32) : Option (Int32 × MS) :=
  (fX4_claim (ms_thrown T) (ms_people T) (ms_rowSize T) (ms_kind T) (ms_page T) (ms_trial T) (ms_row T) a1).bind fun o => some (o.1, (o.2.1, (ms_text T), (ms_textSize T), (ms_place T), (ms_people T), (ms_kind T), (ms_readPeople T), (ms_readDeed T), (ms_readKind T), (ms_readFeeds T), (ms_page T), o.2.2.2.1, (ms_book T), (ms_acts T), (ms_kept T), (ms_isKept T), (ms_seen T), (ms_seenOne T), (ms_seenTwo T), (ms_seed T), o.2.2.2.2, o.2.2.1, (ms_feedMany T), (ms_feedRow T), (ms_restMany T), (ms_restFirst T), (ms_value T), (ms_gains T), (ms_weight T)))
set_option maxHeartbeats 4000000 in
set_option maxRecDepth 100000 in
theorem cfM_claim (l : Launch) (G : GG) (h0 : Nat) (ad : Nat → Nat) (T T' : MS) (a1 : Int32) (r : Int32) (hg : gM_claim T a1 = some (r, T')) : Met l yX4_claim wsX4_claim ({ frames := 5, cells := 0, slots := 0, locals := 111 }) (PcW G [.ref h0, .int a1] (wM G h0 ad T)) (QiW G (wM G h0 ad T) (wM G h0 ad T') r) 0 0 (inA (wM G h0 ad T)) := by
  obtain ⟨o, hf, hg⟩ := bindS hg
  cases hg
  have h := ctX4_claim l G h0 ad (ms_thrown T) (ms_textSize T) (ms_place T) (ms_people T) (ms_readPeople T) (ms_acts T) (ms_seen T) (ms_seed T) (ms_rowSize T) (ms_feedMany T) (ms_feedRow T) (ms_restMany T) (ms_restFirst T) (ms_kind T) (ms_page T) (ms_trial T) (ms_row T) a1 _ hf
  exact frW (X := wM G h0 ad T) h [0, 2, 6, 7, 13] (by decide) rfl rfl
def gM_share (T : MS) (a1 : Int32) (a2 : Int32) : Option (Int32 × MS) :=
  (fX4_share (ms_thrown T) (ms_people T) (ms_rowSize T) (ms_kind T) (ms_page T) (ms_trial T) (ms_row T) (ms_value T) a1 a2).bind fun o => some (o.1, (o.2.1, (ms_text T), (ms_textSize T), (ms_place T), (ms_people T), (ms_kind T), (ms_readPeople T), (ms_readDeed T), (ms_readKind T), (ms_readFeeds T), (ms_page T), o.2.2.2.1, (ms_book T), (ms_acts T), (ms_kept T), (ms_isKept T), (ms_seen T), (ms_seenOne T), (ms_seenTwo T), (ms_seed T), o.2.2.2.2.1, o.2.2.1, (ms_feedMany T), (ms_feedRow T), (ms_restMany T), (ms_restFirst T), o.2.2.2.2.2, (ms_gains T), (ms_weight T)))
set_option maxHeartbeats 4000000 in
set_option maxRecDepth 100000 in
theorem cfM_share (l : Launch) (G : GG) (h0 : Nat) (ad : Nat → Nat) (T T' : MS) (a1 : Int32) (a2 : Int32) (r : Int32) (hg : gM_share T a1 a2 = some (r, T')) : Met l yX4_share wsX4_share ({ frames := 4, cells := 0, slots := 0, locals := 90 }) (PcW G [.ref h0, .int a1, .int a2] (wM G h0 ad T)) (QiW G (wM G h0 ad T) (wM G h0 ad T') r) 0 0 (inA (wM G h0 ad T)) := by
  obtain ⟨o, hf, hg⟩ := bindS hg
  cases hg
  have h := ctX4_share l G h0 ad (ms_thrown T) (ms_textSize T) (ms_place T) (ms_people T) (ms_readPeople T) (ms_acts T) (ms_seen T) (ms_seed T) (ms_rowSize T) (ms_feedMany T) (ms_feedRow T) (ms_restMany T) (ms_restFirst T) (ms_kind T) (ms_page T) (ms_trial T) (ms_row T) (ms_value T) a1 a2 _ hf
  exact frW (X := wM G h0 ad T) h [0, 2, 6, 7, 13, 14] (by decide) rfl rfl
def gM_see (T : MS) (a1 : Int32) (a2 : Int32) : Option (Int32 × MS) :=
  (fX4_see (ms_thrown T) (ms_people T) (ms_seen T) (ms_seenOne T) (ms_seenTwo T) a1 a2).bind fun o => some (o.1, (o.2.1, (ms_text T), (ms_textSize T), (ms_place T), (ms_people T), (ms_kind T), (ms_readPeople T), (ms_readDeed T), (ms_readKind T), (ms_readFeeds T), (ms_page T), (ms_trial T), (ms_book T), (ms_acts T), (ms_kept T), (ms_isKept T), o.2.2.1, o.2.2.2.1, o.2.2.2.2, (ms_seed T), (ms_row T), (ms_rowSize T), (ms_feedMany T), (ms_feedRow T), (ms_restMany T), (ms_restFirst T), (ms_value T), (ms_gains T), (ms_weight T)))
set_option maxHeartbeats 4000000 in
set_option maxRecDepth 100000 in
theorem cfM_see (l : Launch) (G : GG) (h0 : Nat) (ad : Nat → Nat) (T T' : MS) (a1 : Int32) (a2 : Int32) (r : Int32) (hg : gM_see T a1 a2 = some (r, T')) : Met l yX4_see wsX4_see ({ frames := 2, cells := 0, slots := 0, locals := 46 }) (PcW G [.ref h0, .int a1, .int a2] (wM G h0 ad T)) (QiW G (wM G h0 ad T) (wM G h0 ad T') r) 0 0 (inA (wM G h0 ad T)) := by
  obtain ⟨o, hf, hg⟩ := bindS hg
  cases hg
  have h := ctX4_see l G h0 ad (ms_thrown T) (ms_textSize T) (ms_place T) (ms_people T) (ms_readPeople T) (ms_acts T) (ms_seen T) (ms_seed T) (ms_rowSize T) (ms_feedMany T) (ms_feedRow T) (ms_restMany T) (ms_restFirst T) (ms_seenOne T) (ms_seenTwo T) a1 a2 _ hf
  exact frW (X := wM G h0 ad T) h [0, 11, 12] (by decide) rfl rfl
def gM_unsee (T : MS) : Option (Int32 × MS) :=
  (fX4_unsee (ms_thrown T) (ms_seen T)).bind fun o => some (o.1, (o.2.1, (ms_text T), (ms_textSize T), (ms_place T), (ms_people T), (ms_kind T), (ms_readPeople T), (ms_readDeed T), (ms_readKind T), (ms_readFeeds T), (ms_page T), (ms_trial T), (ms_book T), (ms_acts T), (ms_kept T), (ms_isKept T), o.2.2, (ms_seenOne T), (ms_seenTwo T), (ms_seed T), (ms_row T), (ms_rowSize T), (ms_feedMany T), (ms_feedRow T), (ms_restMany T), (ms_restFirst T), (ms_value T), (ms_gains T), (ms_weight T)))
set_option maxHeartbeats 4000000 in
set_option maxRecDepth 100000 in
theorem cfM_unsee (l : Launch) (G : GG) (h0 : Nat) (ad : Nat → Nat) (T T' : MS) (r : Int32) (hg : gM_unsee T = some (r, T')) : Met l yX4_unsee wsX4_unsee ({ frames := 0, cells := 0, slots := 0, locals := 0 }) (PcW G [.ref h0] (wM G h0 ad T)) (QiW G (wM G h0 ad T) (wM G h0 ad T') r) 0 0 (inA (wM G h0 ad T)) := by
  obtain ⟨o, hf, hg⟩ := bindS hg
  cases hg
  have h := ctX4_unsee l G h0 ad (ms_thrown T) (ms_textSize T) (ms_place T) (ms_people T) (ms_readPeople T) (ms_acts T) (ms_seen T) (ms_seed T) (ms_rowSize T) (ms_feedMany T) (ms_feedRow T) (ms_restMany T) (ms_restFirst T) _ hf
  exact frW (X := wM G h0 ad T) h [0] (by decide) rfl rfl
def gM_did (T : MS) (a1 : Int32) : Option (Int32 × MS) :=
  (fX4_did (ms_thrown T) (ms_people T) (ms_seen T) (ms_rowSize T) (ms_kind T) (ms_page T) (ms_trial T) (ms_seenOne T) (ms_seenTwo T) (ms_row T) a1).bind fun o => some (o.1, (o.2.1, (ms_text T), (ms_textSize T), (ms_place T), (ms_people T), (ms_kind T), (ms_readPeople T), (ms_readDeed T), (ms_readKind T), (ms_readFeeds T), (ms_page T), o.2.2.2.1, (ms_book T), (ms_acts T), (ms_kept T), (ms_isKept T), (ms_seen T), (ms_seenOne T), (ms_seenTwo T), (ms_seed T), o.2.2.2.2, o.2.2.1, (ms_feedMany T), (ms_feedRow T), (ms_restMany T), (ms_restFirst T), (ms_value T), (ms_gains T), (ms_weight T)))
set_option maxHeartbeats 4000000 in
set_option maxRecDepth 100000 in
theorem cfM_did (l : Launch) (G : GG) (h0 : Nat) (ad : Nat → Nat) (T T' : MS) (a1 : Int32) (r : Int32) (hg : gM_did T a1 = some (r, T')) : Met l yX4_did wsX4_did ({ frames := 4, cells := 0, slots := 0, locals := 90 }) (PcW G [.ref h0, .int a1] (wM G h0 ad T)) (QiW G (wM G h0 ad T) (wM G h0 ad T') r) 0 0 (inA (wM G h0 ad T)) := by
  obtain ⟨o, hf, hg⟩ := bindS hg
  cases hg
  have h := ctX4_did l G h0 ad (ms_thrown T) (ms_textSize T) (ms_place T) (ms_people T) (ms_readPeople T) (ms_acts T) (ms_seen T) (ms_seed T) (ms_rowSize T) (ms_feedMany T) (ms_feedRow T) (ms_restMany T) (ms_restFirst T) (ms_kind T) (ms_page T) (ms_trial T) (ms_seenOne T) (ms_seenTwo T) (ms_row T) a1 _ hf
  exact frW (X := wM G h0 ad T) h [0, 2, 6, 7, 11, 12, 13] (by decide) rfl rfl
def gM_rests (T : MS) (a1 : Int32) (a2 : Int32) (a3 : Int32) : Option (Int32 × MS) :=
  (fX4_rests (ms_thrown T) (ms_people T) (ms_rowSize T) (ms_restMany T) (ms_restFirst T) (ms_kind T) (ms_page T) (ms_trial T) (ms_row T) (ms_gains T) a1 a2 a3).bind fun o => some (o.1, (o.2.1, (ms_text T), (ms_textSize T), (ms_place T), (ms_people T), (ms_kind T), (ms_readPeople T), (ms_readDeed T), (ms_readKind T), (ms_readFeeds T), (ms_page T), o.2.2.2.2.2.1, (ms_book T), (ms_acts T), (ms_kept T), (ms_isKept T), (ms_seen T), (ms_seenOne T), (ms_seenTwo T), (ms_seed T), o.2.2.2.2.2.2.1, o.2.2.1, (ms_feedMany T), (ms_feedRow T), o.2.2.2.1, o.2.2.2.2.1, (ms_value T), o.2.2.2.2.2.2.2, (ms_weight T)))
set_option maxHeartbeats 4000000 in
set_option maxRecDepth 100000 in
theorem cfM_rests (l : Launch) (G : GG) (h0 : Nat) (ad : Nat → Nat) (T T' : MS) (a1 : Int32) (a2 : Int32) (a3 : Int32) (r : Int32) (hg : gM_rests T a1 a2 a3 = some (r, T')) : Met l yX4_rests wsX4_rests ({ frames := 6, cells := 0, slots := 0, locals := 138 }) (PcW G [.ref h0, .int a1, .int a2, .int a3] (wM G h0 ad T)) (QiW G (wM G h0 ad T) (wM G h0 ad T') r) 0 0 (inA (wM G h0 ad T)) := by
  obtain ⟨o, hf, hg⟩ := bindS hg
  cases hg
  have h := ctX4_rests l G h0 ad (ms_thrown T) (ms_textSize T) (ms_place T) (ms_people T) (ms_readPeople T) (ms_acts T) (ms_seen T) (ms_seed T) (ms_rowSize T) (ms_feedMany T) (ms_feedRow T) (ms_restMany T) (ms_restFirst T) (ms_kind T) (ms_page T) (ms_trial T) (ms_row T) (ms_gains T) a1 a2 a3 _ hf
  exact frW (X := wM G h0 ad T) h [0, 2, 6, 7, 13, 15] (by decide) rfl rfl
def gM_toss (T : MS) (a1 : Int32) (a2 : Int32) : Option (Int32 × MS) :=
  (fX4_toss (ms_thrown T) (ms_people T) (ms_kind T) (ms_page T) (ms_trial T) (ms_weight T) a1 a2).bind fun o => some (o.1, (o.2.1, (ms_text T), (ms_textSize T), (ms_place T), (ms_people T), (ms_kind T), (ms_readPeople T), (ms_readDeed T), (ms_readKind T), (ms_readFeeds T), (ms_page T), o.2.2.1, (ms_book T), (ms_acts T), (ms_kept T), (ms_isKept T), (ms_seen T), (ms_seenOne T), (ms_seenTwo T), (ms_seed T), (ms_row T), (ms_rowSize T), (ms_feedMany T), (ms_feedRow T), (ms_restMany T), (ms_restFirst T), (ms_value T), (ms_gains T), o.2.2.2))
set_option maxHeartbeats 4000000 in
set_option maxRecDepth 100000 in
theorem cfM_toss (l : Launch) (G : GG) (h0 : Nat) (ad : Nat → Nat) (T T' : MS) (a1 : Int32) (a2 : Int32) (r : Int32) (hg : gM_toss T a1 a2 = some (r, T')) : Met l yX4_toss wsX4_toss ({ frames := 3, cells := 0, slots := 0, locals := 69 }) (PcW G [.ref h0, .int a1, .int a2] (wM G h0 ad T)) (QiW G (wM G h0 ad T) (wM G h0 ad T') r) 0 0 (inA (wM G h0 ad T)) := by
  obtain ⟨o, hf, hg⟩ := bindS hg
  cases hg
  have h := ctX4_toss l G h0 ad (ms_thrown T) (ms_textSize T) (ms_place T) (ms_people T) (ms_readPeople T) (ms_acts T) (ms_seen T) (ms_seed T) (ms_rowSize T) (ms_feedMany T) (ms_feedRow T) (ms_restMany T) (ms_restFirst T) (ms_kind T) (ms_page T) (ms_trial T) (ms_weight T) a1 a2 _ hf
  exact frW (X := wM G h0 ad T) h [0, 2, 6, 7, 16] (by decide) rfl rfl
def gM_seed (T : MS) (a1 : Int64) : Option (Int64 × MS) :=
  (fX4_seed (ms_thrown T) (ms_seed T) a1).bind fun o => some (o.1, (o.2.1, (ms_text T), (ms_textSize T), (ms_place T), (ms_people T), (ms_kind T), (ms_readPeople T), (ms_readDeed T), (ms_readKind T), (ms_readFeeds T), (ms_page T), (ms_trial T), (ms_book T), (ms_acts T), (ms_kept T), (ms_isKept T), (ms_seen T), (ms_seenOne T), (ms_seenTwo T), o.2.2, (ms_row T), (ms_rowSize T), (ms_feedMany T), (ms_feedRow T), (ms_restMany T), (ms_restFirst T), (ms_value T), (ms_gains T), (ms_weight T)))
set_option maxHeartbeats 4000000 in
set_option maxRecDepth 100000 in
theorem cfM_seed (l : Launch) (G : GG) (h0 : Nat) (ad : Nat → Nat) (T T' : MS) (a1 : Int64) (r : Int64) (hg : gM_seed T a1 = some (r, T')) : Met l yX4_seed wsX4_seed ({ frames := 0, cells := 0, slots := 0, locals := 0 }) (PcW G [.ref h0, .long a1] (wM G h0 ad T)) (QlW G (wM G h0 ad T) (wM G h0 ad T') r) 0 0 (inA (wM G h0 ad T)) := by
  obtain ⟨o, hf, hg⟩ := bindS hg
  cases hg
  have h := ctX4_seed l G h0 ad (ms_thrown T) (ms_textSize T) (ms_place T) (ms_people T) (ms_readPeople T) (ms_acts T) (ms_seen T) (ms_seed T) (ms_rowSize T) (ms_feedMany T) (ms_feedRow T) (ms_restMany T) (ms_restFirst T) a1 _ hf
  exact frWL (X := wM G h0 ad T) h [0] (by decide) rfl rfl
def gM_days (T : MS) (a1 : Int32) : Option (Int32 × MS) :=
  (fX4_days (ms_thrown T) (ms_people T) (ms_seed T) (ms_kind T) (ms_page T) (ms_trial T) a1).bind fun o => some (o.1, (o.2.1, (ms_text T), (ms_textSize T), (ms_place T), (ms_people T), (ms_kind T), (ms_readPeople T), (ms_readDeed T), (ms_readKind T), (ms_readFeeds T), (ms_page T), o.2.2.2, (ms_book T), (ms_acts T), (ms_kept T), (ms_isKept T), (ms_seen T), (ms_seenOne T), (ms_seenTwo T), o.2.2.1, (ms_row T), (ms_rowSize T), (ms_feedMany T), (ms_feedRow T), (ms_restMany T), (ms_restFirst T), (ms_value T), (ms_gains T), (ms_weight T)))
set_option maxHeartbeats 4000000 in
set_option maxRecDepth 100000 in
theorem cfM_days (l : Launch) (G : GG) (h0 : Nat) (ad : Nat → Nat) (T T' : MS) (a1 : Int32) (r : Int32) (hg : gM_days T a1 = some (r, T')) : Met l yX4_days wsX4_days ({ frames := 4, cells := 0, slots := 0, locals := 92 }) (PcW G [.ref h0, .int a1] (wM G h0 ad T)) (QiW G (wM G h0 ad T) (wM G h0 ad T') r) 0 0 (inA (wM G h0 ad T)) := by
  obtain ⟨o, hf, hg⟩ := bindS hg
  cases hg
  have h := ctX4_days l G h0 ad (ms_thrown T) (ms_textSize T) (ms_place T) (ms_people T) (ms_readPeople T) (ms_acts T) (ms_seen T) (ms_seed T) (ms_rowSize T) (ms_feedMany T) (ms_feedRow T) (ms_restMany T) (ms_restFirst T) (ms_kind T) (ms_page T) (ms_trial T) a1 _ hf
  exact frW (X := wM G h0 ad T) h [0, 2, 6, 7] (by decide) rfl rfl
def gM_keep (T : MS) (a1 : Int32) : Option (Int32 × MS) :=
  (fX4_keep (ms_thrown T) (ms_page T) (ms_kept T) (ms_isKept T) a1).bind fun o => some (o.1, (o.2.1, (ms_text T), (ms_textSize T), (ms_place T), (ms_people T), (ms_kind T), (ms_readPeople T), (ms_readDeed T), (ms_readKind T), (ms_readFeeds T), (ms_page T), (ms_trial T), (ms_book T), (ms_acts T), o.2.2.1, o.2.2.2, (ms_seen T), (ms_seenOne T), (ms_seenTwo T), (ms_seed T), (ms_row T), (ms_rowSize T), (ms_feedMany T), (ms_feedRow T), (ms_restMany T), (ms_restFirst T), (ms_value T), (ms_gains T), (ms_weight T)))
set_option maxHeartbeats 4000000 in
set_option maxRecDepth 100000 in
theorem cfM_keep (l : Launch) (G : GG) (h0 : Nat) (ad : Nat → Nat) (T T' : MS) (a1 : Int32) (r : Int32) (hg : gM_keep T a1 = some (r, T')) : Met l yX4_keep wsX4_keep ({ frames := 1, cells := 0, slots := 0, locals := 25 }) (PcW G [.ref h0, .int a1] (wM G h0 ad T)) (QiW G (wM G h0 ad T) (wM G h0 ad T') r) 0 0 (inA (wM G h0 ad T)) := by
  obtain ⟨o, hf, hg⟩ := bindS hg
  cases hg
  have h := ctX4_keep l G h0 ad (ms_thrown T) (ms_textSize T) (ms_place T) (ms_people T) (ms_readPeople T) (ms_acts T) (ms_seen T) (ms_seed T) (ms_rowSize T) (ms_feedMany T) (ms_feedRow T) (ms_restMany T) (ms_restFirst T) (ms_page T) (ms_kept T) (ms_isKept T) a1 _ hf
  exact frW (X := wM G h0 ad T) h [0, 6, 9, 10] (by decide) rfl rfl
def gM_again (T : MS) (a1 : Int32) : Option (Int32 × MS) :=
  (fX4_again (ms_thrown T) (ms_acts T) (ms_page T) (ms_kept T) (ms_isKept T) a1).bind fun o => some (o.1, (o.2.1, (ms_text T), (ms_textSize T), (ms_place T), (ms_people T), (ms_kind T), (ms_readPeople T), (ms_readDeed T), (ms_readKind T), (ms_readFeeds T), o.2.2.2, (ms_trial T), (ms_book T), o.2.2.1, (ms_kept T), (ms_isKept T), (ms_seen T), (ms_seenOne T), (ms_seenTwo T), (ms_seed T), (ms_row T), (ms_rowSize T), (ms_feedMany T), (ms_feedRow T), (ms_restMany T), (ms_restFirst T), (ms_value T), (ms_gains T), (ms_weight T)))
set_option maxHeartbeats 4000000 in
set_option maxRecDepth 100000 in
theorem cfM_again (l : Launch) (G : GG) (h0 : Nat) (ad : Nat → Nat) (T T' : MS) (a1 : Int32) (r : Int32) (hg : gM_again T a1 = some (r, T')) : Met l yX4_again wsX4_again ({ frames := 1, cells := 0, slots := 0, locals := 25 }) (PcW G [.ref h0, .int a1] (wM G h0 ad T)) (QiW G (wM G h0 ad T) (wM G h0 ad T') r) 0 0 (inA (wM G h0 ad T)) := by
  obtain ⟨o, hf, hg⟩ := bindS hg
  cases hg
  have h := ctX4_again l G h0 ad (ms_thrown T) (ms_textSize T) (ms_place T) (ms_people T) (ms_readPeople T) (ms_acts T) (ms_seen T) (ms_seed T) (ms_rowSize T) (ms_feedMany T) (ms_feedRow T) (ms_restMany T) (ms_restFirst T) (ms_page T) (ms_kept T) (ms_isKept T) a1 _ hf
  exact frW (X := wM G h0 ad T) h [0, 6, 9, 10] (by decide) rfl rfl
