/-! PURE: fractions told by both -/
theorem div_wide (x y : Int32) : (x.toInt64 / y.toInt64).toInt32 = x / y := by
  apply Int32.toInt_inj.mp
  rw [Int64.toInt_toInt32, Int64.toInt_div, Int32.toInt_div, Int32.toInt_toInt64, Int32.toInt_toInt64]
  exact Int.bmod_bmod_of_dvd (by decide)
theorem frac_both {u : Int32} {a B : Nat} (ha : a < 2 ^ 31) (hB : 0 < B) (hB2 : B < 2 ^ 13) (hu : u = nI a ∨ (0 < a ∧ u = -nI a)) (up : Int32) : ∃ r, fX3_inLeastTerms u (nI B) up = some r ∧ fX4_fraction (Int32.toInt64 u) (Int32.toInt64 (nI B)) up = some r := by
  have hg0 : 0 < Nat.gcd a B := Nat.gcd_pos_of_pos_right a hB
  have hgB : Nat.gcd a B ≤ B := Nat.gcd_le_right a hB
  have hg31 : Nat.gcd a B < 2 ^ 31 := by omega
  have hX := x_gcd 13 0 a B 102 hB2 (by omega) (by omega) ha (by omega)
  have hM := m_gcd 13 a B 100 hB2 (by omega) (by omega) (by omega)
  have hX : fX3_commonDivisor (nI a) (nI B) = some (nI (Nat.gcd a B)) := hX
  have hne := nI_ne0 hg0 hg31
  have hnl : ¬ nI (Nat.gcd a B) ≤ 0 := nI_nle hg0 hg31
  have hlne := lN_ne0 hg0 (show Nat.gcd a B < 2 ^ 63 by omega)
  have hw : lN (Nat.gcd a B) = Int32.toInt64 (nI (Nat.gcd a B)) := (nI_l hg31).symm
  have habs : (if 0 ≤ u then u else 0 - u) = nI a ∧ fX4_divisor (Int32.toInt64 u) (Int32.toInt64 (nI B)) = some (lN (Nat.gcd a B)) := by
    unfold fX4_divisor
    rw [nI_l (show B < 2 ^ 31 by omega)]
    rcases hu with rfl | ⟨h0, rfl⟩
    · rw [if_pos (nI_pos' ha), nI_l ha, if_pos ((lg_cmp_ge _ _).mpr (by
        rw [show (0 : Int64) = lN 0 from rfl, pk_lLE (by decide) (by omega)]; omega))]
      exact ⟨rfl, hM⟩
    · have hT : (-nI a).toInt = -(a : Int) := sb_negT ha
      have h1 : ¬ (0 : Int32) ≤ -nI a := by rw [fa_le, hT]; show ¬ (0 : Int) ≤ _; omega
      have h2 : (-nI a).toInt64.toInt = -(a : Int) := by rw [Int32.toInt_toInt64, hT]
      have h3 : ¬ (0 : Int32) ≤ lg_cmp (-nI a).toInt64 0 := by
        rw [lg_cmp_ge, fa_le64, h2]; show ¬ (0 : Int) ≤ _; omega
      have h4 : -(-nI a).toInt64 = lN a := by
        apply Int64.toInt_inj.mp
        rw [Int64.toInt_neg, h2, pk_lT (by omega)]
        simp only [Int.neg_neg]
        exact Int.bmod_eq_of_le (by omega) (by omega)
      have h5 : (0 : Int32) - -nI a = nI a := by
        apply Int32.toInt_inj.mp
        rw [Int32.toInt_sub, hT, nI_toInt ha]
        show ((0 : Int) - -(a : Int)).bmod (2 ^ 32) = (a : Int)
        rw [show (0 : Int) - -(a : Int) = (a : Int) by omega]
        exact Int.bmod_eq_of_le (by omega) (by omega)
      rw [if_neg h1, if_neg h3, h4, h5]
      exact ⟨rfl, hM⟩
  unfold fX3_inLeastTerms fX3_inLeastTerms_18 fX4_fraction
  rw [habs.1, hX, habs.2, Option.bind_some, Option.bind_some]
  unfold dv dvL
  rw [if_neg hnl, if_neg hnl, if_neg hne, if_neg hne, if_neg hlne, if_neg hlne, hw, div_wide, div_wide]
  by_cases c : up = 0
  · rw [if_pos c]; exact ⟨_, rfl, rfl⟩
  · rw [if_neg c]; exact ⟨_, rfl, rfl⟩
