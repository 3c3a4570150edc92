/-! PURE: Long.bitCount, byte by byte -/
def mkB (b : Nat) : Nat → Nat
  | 0 => 0
  | k + 1 => 256 * mkB b k + b
theorem and_byte {H M l m : Nat} (hl : l < 256) (hm : m < 256) : (256 * H + l) &&& (256 * M + m) = 256 * (H &&& M) + (l &&& m) := by
  apply Nat.eq_of_testBit_eq
  intro i
  have hlm : l &&& m < 2 ^ 8 := Nat.lt_of_le_of_lt Nat.and_le_left hl
  rw [Nat.testBit_and, show (256 : Nat) = 2 ^ 8 from rfl, Nat.testBit_two_pow_mul_add H (i := 8) hl, Nat.testBit_two_pow_mul_add M (i := 8) hm, Nat.testBit_two_pow_mul_add (H &&& M) (i := 8) hlm]
  by_cases c : i < 8
  · rw [if_pos c, if_pos c, if_pos c, Nat.testBit_and]
  · rw [if_neg c, if_neg c, if_neg c, Nat.testBit_and]
def bs1 (k x : Nat) : Nat := x - ((x / 2) &&& mkB 85 k)
def bs2 (k x : Nat) : Nat := (x &&& mkB 51 k) + ((x / 4) &&& mkB 51 k)
def bs3 (k x : Nat) : Nat := (x + x / 16) &&& mkB 15 k
def bb1 (l : Nat) : Nat := l - ((l / 2) &&& 85)
def bb2 (l : Nat) : Nat := (l &&& 51) + ((l / 4) &&& 51)
def bb3 (l : Nat) : Nat := (l + l / 16) &&& 15
theorem kb1 : ∀ l, l < 256 → ∀ r, r < 2 → (l / 2 + 128 * r) &&& 85 = (l / 2) &&& 85 := by decide +kernel
theorem kb1b : ∀ l, l < 256 → (l / 2) &&& 85 ≤ l := by decide +kernel
theorem kb2 : ∀ l, l < 256 → ∀ r, r < 4 → (l / 4 + 64 * r) &&& 51 = (l / 4) &&& 51 := by decide +kernel
theorem kb2b : ∀ l, l < 256 → bb2 l ≤ 102 ∧ bb2 l % 16 ≤ 6 := by decide +kernel
theorem kb3 : ∀ l, l < 103 → ∀ r, r < 7 → (l + l / 16 + 16 * r) &&& 15 = (l + l / 16) &&& 15 := by decide +kernel
theorem kbp : ∀ l, l < 256 → bb1 l < 256 ∧ bb3 (bb2 (bb1 l)) = fb_ct (fun i => l.testBit i) 8 := by decide +kernel
theorem bs1_s {k H l : Nat} (hl : l < 256) : bs1 (k + 1) (256 * H + l) = 256 * bs1 k H + bb1 l := by
  unfold bs1 bb1
  rw [mkB, show (256 * H + l) / 2 = 256 * (H / 2) + (l / 2 + 128 * (H % 2)) by omega, and_byte (by omega) (by decide), kb1 l hl (H % 2) (by omega)]
  have h1 := kb1b l hl
  have h2 : H / 2 &&& mkB 85 k ≤ H / 2 := Nat.and_le_left
  omega
theorem bs2_s {k H l : Nat} (hl : l < 256) : bs2 (k + 1) (256 * H + l) = 256 * bs2 k H + bb2 l := by
  unfold bs2 bb2
  rw [mkB, show (256 * H + l) / 4 = 256 * (H / 4) + (l / 4 + 64 * (H % 4)) by omega, and_byte hl (by decide), and_byte (by omega) (by decide), kb2 l hl (H % 4) (by omega)]
  omega
theorem bs3_s {k H l : Nat} (hl : l < 103) (hH : H % 16 ≤ 6) : bs3 (k + 1) (256 * H + l) = 256 * bs3 k H + bb3 l := by
  unfold bs3 bb3
  rw [mkB, show 256 * H + l + (256 * H + l) / 16 = 256 * (H + H / 16) + (l + l / 16 + 16 * (H % 16)) by omega, and_byte (by omega) (by decide), kb3 l hl (H % 16) (by omega)]
theorem bs2_16 : ∀ (k x : Nat), bs2 k x % 16 ≤ 6
  | 0, x => by unfold bs2; rw [mkB, Nat.and_zero, Nat.and_zero]; decide
  | k + 1, x => by
    have h := bs2_s (k := k) (H := x / 256) (l := x % 256) (by omega)
    rw [show 256 * (x / 256) + x % 256 = x by omega] at h
    have := (kb2b (x % 256) (by omega)).2
    omega
def bS (k x : Nat) : Nat := bs3 k (bs2 k (bs1 k x))
theorem bS_s (k x : Nat) : bS (k + 1) x = 256 * bS k (x / 256) + fb_ct (fun i => (x % 256).testBit i) 8 := by
  have hl : x % 256 < 256 := by omega
  have e : x = 256 * (x / 256) + x % 256 := by omega
  have hb := kbp (x % 256) hl
  unfold bS
  rw [← hb.2]
  conv => lhs; rw [e]
  have h2 := kb2b (bb1 (x % 256)) hb.1
  rw [bs1_s hl, bs2_s hb.1, bs3_s (by omega) (bs2_16 k _)]
theorem ct_s (k x : Nat) : fb_ct (fun i => x.testBit i) (8 + k) = fb_ct (fun i => (x % 256).testBit i) 8 + fb_ct (fun i => (x / 256).testBit i) k := by
  rw [fb_ct_split]
  congr 1
  · apply fb_ct_cong
    intro i hi
    show x.testBit i = (x % 2 ^ 8).testBit i
    rw [Nat.testBit_mod_two_pow]; simp [hi]
  · apply fb_ct_cong
    intro i _
    show x.testBit (8 + i) = (x / 2 ^ 8).testBit i
    rw [Nat.testBit_div_two_pow, Nat.add_comm]
theorem mk_all : mkB 85 8 = 6148914691236517205 ∧ mkB 51 8 = 3689348814741910323 ∧ mkB 15 8 = 1085102592571150095 := by decide +kernel
theorem sum_8 {y p0 p1 p2 p3 p4 p5 p6 p7 : Nat} (h0 : p0 ≤ 8) (h1 : p1 ≤ 8) (h2 : p2 ≤ 8) (h3 : p3 ≤ 8) (h4 : p4 ≤ 8) (h5 : p5 ≤ 8) (h6 : p6 ≤ 8) (h7 : p7 ≤ 8) (A1 A2 A3 A4 A5 A6 : Nat)
    (e : y = 256 * A1 + p0) (e1 : A1 = 256 * A2 + p1) (e2 : A2 = 256 * A3 + p2) (e3 : A3 = 256 * A4 + p3) (e4 : A4 = 256 * A5 + p4) (e5 : A5 = 256 * A6 + p5) (e6 : A6 = 256 * p7 + p6) :
    (y + y / 2 ^ 8 + (y + y / 2 ^ 8) / 2 ^ 16 + (y + y / 2 ^ 8 + (y + y / 2 ^ 8) / 2 ^ 16) / 2 ^ 32) % 128 = p0 + p1 + p2 + p3 + p4 + p5 + p6 + p7 ∧ y + y / 2 ^ 8 + (y + y / 2 ^ 8) / 2 ^ 16 < 2 ^ 64 := by
  have d1 : y / 2 ^ 8 = A1 := by omega
  rw [d1]
  have d2 : (y + A1) / 2 ^ 16 = A2 + A3 := by omega
  rw [d2]
  have d3 : (y + A1 + (A2 + A3)) / 2 ^ 32 = A4 + A5 + A6 + p7 := by omega
  rw [d3]
  omega
theorem long_count {F : Nat} (hF : F < 2 ^ 49) : fJ13_bitCount_95d88 (lN F) = some (nI (fb_ct (fun i => F.testBit i) 64)) := by
  obtain ⟨k1, k2, k3⟩ := mk_all
  have sh : ∀ (n k : Nat), n < 2 ^ 64 → k < 64 → j_lushr (lN n) (nI k) = lN (n / 2 ^ k) := fun n k hn hk => wb_shr hn hk
  have c1 : (6148914691236517205 : Int64) = lN 6148914691236517205 := rfl
  have c2 : (3689348814741910323 : Int64) = lN 3689348814741910323 := rfl
  have c3 : (1085102592571150095 : Int64) = lN 1085102592571150095 := rfl
  have x1 : lN F - (j_lushr (lN F) 1 &&& 6148914691236517205) = lN (bs1 8 F) := by
    rw [show (1 : Int32) = nI 1 from rfl, sh F 1 (by omega) (by decide), c1, fb_andL, lN_sub (Nat.le_trans Nat.and_le_left (by omega))]
    unfold bs1; rw [k1]
  have b1 : bs1 8 F ≤ F := by unfold bs1; omega
  have x2 : (lN (bs1 8 F) &&& 3689348814741910323) + (j_lushr (lN (bs1 8 F)) 2 &&& 3689348814741910323) = lN (bs2 8 (bs1 8 F)) := by
    rw [show (2 : Int32) = nI 2 from rfl, sh _ 2 (by omega) (by decide), c2, fb_andL, fb_andL, lN_add]
    unfold bs2; rw [k2]
  have b2 : bs2 8 (bs1 8 F) < 2 ^ 51 := by
    unfold bs2
    have h1 : bs1 8 F &&& mkB 51 8 ≤ bs1 8 F := Nat.and_le_left
    have h2 : bs1 8 F / 4 &&& mkB 51 8 ≤ bs1 8 F / 4 := Nat.and_le_left
    omega
  have x3 : (lN (bs2 8 (bs1 8 F)) + j_lushr (lN (bs2 8 (bs1 8 F))) 4) &&& 1085102592571150095 = lN (bS 8 F) := by
    rw [show (4 : Int32) = nI 4 from rfl, sh _ 4 (by omega) (by decide), lN_add, c3, fb_andL]
    unfold bS bs3; rw [k3]
  have q0 := bS_s 7 F
  have q1 := bS_s 6 (F / 256)
  have q2 := bS_s 5 (F / 256 / 256)
  have q3 := bS_s 4 (F / 256 / 256 / 256)
  have q4 := bS_s 3 (F / 256 / 256 / 256 / 256)
  have q5 := bS_s 2 (F / 256 / 256 / 256 / 256 / 256)
  have q6 := bS_s 1 (F / 256 / 256 / 256 / 256 / 256 / 256)
  have q7 := bS_s 0 (F / 256 / 256 / 256 / 256 / 256 / 256 / 256)
  have z0 : bS 0 (F / 256 / 256 / 256 / 256 / 256 / 256 / 256 / 256) = 0 := by unfold bS bs3; rw [mkB, Nat.and_zero]
  have r0 := ct_s 56 F
  have r1 := ct_s 48 (F / 256)
  have r2 := ct_s 40 (F / 256 / 256)
  have r3 := ct_s 32 (F / 256 / 256 / 256)
  have r4 := ct_s 24 (F / 256 / 256 / 256 / 256)
  have r5 := ct_s 16 (F / 256 / 256 / 256 / 256 / 256)
  have r6 := ct_s 8 (F / 256 / 256 / 256 / 256 / 256 / 256)
  have r7 := ct_s 0 (F / 256 / 256 / 256 / 256 / 256 / 256 / 256)
  have w0 : fb_ct (fun i => (F / 256 / 256 / 256 / 256 / 256 / 256 / 256 / 256).testBit i) 0 = 0 := rfl
  obtain ⟨s1', s2'⟩ := sum_8 (fb_ct_le _ 8) (fb_ct_le _ 8) (fb_ct_le _ 8) (fb_ct_le _ 8) (fb_ct_le _ 8) (fb_ct_le _ 8) (fb_ct_le _ 8) (fb_ct_le _ 8) _ _ _ _ _ _ q0 q1 q2 q3 q4 q5 (q6.trans (by rw [q7, z0, Nat.mul_zero, Nat.zero_add]))
  have hcount : fb_ct (fun i => F.testBit i) 64 = fb_ct (fun i => (F % 256).testBit i) 8 + fb_ct (fun i => (F / 256 % 256).testBit i) 8 + fb_ct (fun i => (F / 256 / 256 % 256).testBit i) 8 + fb_ct (fun i => (F / 256 / 256 / 256 % 256).testBit i) 8 + fb_ct (fun i => (F / 256 / 256 / 256 / 256 % 256).testBit i) 8 + fb_ct (fun i => (F / 256 / 256 / 256 / 256 / 256 % 256).testBit i) 8 + fb_ct (fun i => (F / 256 / 256 / 256 / 256 / 256 / 256 % 256).testBit i) 8 + fb_ct (fun i => (F / 256 / 256 / 256 / 256 / 256 / 256 / 256 % 256).testBit i) 8 := by
    rw [show (64 : Nat) = 8 + 56 from rfl, r0, show (56 : Nat) = 8 + 48 from rfl, r1, show (48 : Nat) = 8 + 40 from rfl, r2, show (40 : Nat) = 8 + 32 from rfl, r3, show (32 : Nat) = 8 + 24 from rfl, r4, show (24 : Nat) = 8 + 16 from rfl, r5, show (16 : Nat) = 8 + 8 from rfl, r6]
    have r7' : fb_ct (fun i => (F / 256 / 256 / 256 / 256 / 256 / 256 / 256).testBit i) 8 = fb_ct (fun i => (F / 256 / 256 / 256 / 256 / 256 / 256 / 256 % 256).testBit i) 8 := by
      have : fb_ct (fun i => (F / 256 / 256 / 256 / 256 / 256 / 256 / 256).testBit i) (8 + 0) = _ := r7
      rw [w0, Nat.add_zero] at this
      exact this
    rw [r7']
    simp only [Nat.add_assoc]
  have s2' : bS 8 F + bS 8 F / 2 ^ 8 + (bS 8 F + bS 8 F / 2 ^ 8) / 2 ^ 16 < 2 ^ 64 := s2'
  have y64 : bS 8 F < 2 ^ 64 := by omega
  unfold fJ13_bitCount_95d88
  rw [x1, x2, x3, show (8 : Int32) = nI 8 from rfl, show (16 : Int32) = nI 16 from rfl, show (32 : Int32) = nI 32 from rfl, sh _ 8 y64 (by decide), lN_add, sh _ 16 (Nat.lt_of_le_of_lt (Nat.le_add_right _ _) s2') (by decide), lN_add, sh _ 32 s2' (by decide), lN_add, lN_i, pk_and _ 7 (by decide)]
  congr 2
  show (BitVec.ofNat 32 _).toNat % 2 ^ 7 = _
  rw [BitVec.toNat_ofNat, Nat.mod_mod_of_dvd _ (by decide), hcount, ← s1']
