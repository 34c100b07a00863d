/-! ===== the Model: cell ===== -/
theorem has_in {x : Int32} {m : Nat} (hm : m ≤ 40) : inB x 0 (nI m - 1) = hasB x 1 (nI m) := by
  unfold inB hasB
  by_cases h1 : x < 0
  · rw [if_pos h1, if_pos h1]
  · rw [if_neg h1, if_neg h1, if_neg (show ¬ (1 : Int32) < 0 by decide)]
    obtain ⟨j, hj, rfl⟩ := nI_of h1
    cases m with
    | zero =>
      rw [if_pos (show nI 0 - 1 < nI j from by
        rw [Int32.lt_iff_toInt_lt, nI_toInt hj, show (nI 0 - 1).toInt = -1 from by decide]; omega)]
      rcases Nat.lt_or_ge 0 j with q | q
      · rw [if_pos (nI_lt q hj)]
      · have : j = 0 := by omega
        rw [this]; decide
    | succ m =>
      rw [nI_pred]
      rcases Nat.lt_or_ge m j with q | q
      · rw [if_pos (nI_lt q hj)]
        rcases Nat.lt_or_ge (m + 1) j with q2 | q2
        · rw [if_pos (nI_lt q2 hj)]
        · have : j = m + 1 := by omega
          rw [this, if_neg (nI_nlt (Nat.le_refl _) (by omega)), pk_sub (Nat.le_refl _), Nat.sub_self, if_pos (by decide)]
      · rw [if_neg (nI_nlt q (by omega)), if_neg (nI_nlt (by omega) (by omega)), pk_sub (by omega), if_neg (show ¬ nI (m + 1 - j) < 1 from nlt1 (by omega) (by omega))]

