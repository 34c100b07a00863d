/-! ===== the Model: piece ===== -/
def whX (wh : Int32) : Bool := !decide (0 ≤ wh) || decide (1 < wh / 100) || !decide (wh - wh / 100 * 100 ≤ 11)
theorem wh_eq (wh : Int32) : (inB wh 0 11 = 0 ∧ inB wh 100 111 = 0) ↔ whX wh = true := by
  unfold whX
  by_cases h0 : wh < 0
  · have hn : ¬ 0 ≤ wh := by rw [Int32.le_iff_toInt_le]; rw [Int32.lt_iff_toInt_lt] at h0; omega
    have hl : wh < 100 := by
      rw [Int32.lt_iff_toInt_lt] at h0 ⊢
      have : (0 : Int32).toInt = 0 := by decide
      have : (100 : Int32).toInt = 100 := by decide
      omega
    unfold inB
    rw [if_pos h0, if_pos hl, decide_eq_false hn]
    simp
  · obtain ⟨k, hk, rfl⟩ := nI_of h0
    have e1 : nI k / 100 = nI (k / 100) := pk_div (d := 100) hk (by decide) (by decide)
    have e2 : nI k - nI k / 100 * 100 = nI (k % 100) := pk_rem (d := 100) hk (by decide) (by decide)
    rw [e2, e1]
    have p0 : (0 ≤ nI k) = True := eq_true (nI_pos' hk)
    have p1 : (1 < nI (k / 100)) = (1 < k / 100) := propext (nI_ltI (a := 1) (by omega) (by omega))
    have p2 : (nI (k % 100) ≤ 11) = (k % 100 ≤ 11) := propext (nI_leI (b := 11) (by omega) (by omega))
    have p3 : (nI k < 0) = False := eq_false h0
    have p4 : (11 < nI k) = (11 < k) := propext (nI_ltI (a := 11) (by omega) (by omega))
    have p5 : (nI k < 100) = (k < 100) := propext (nI_ltI (b := 100) (by omega) (by omega))
    have p6 : (111 < nI k) = (111 < k) := propext (nI_ltI (a := 111) (by omega) (by omega))
    unfold inB
    simp only [p0, p1, p2, p3, p4, p5, p6, if_false, decide_true, Bool.not_true, Bool.false_or, Bool.or_eq_true, Bool.not_eq_true', decide_eq_true_eq, decide_eq_false_iff_not]
    constructor
    · intro ⟨a, b⟩
      have a' : 11 < k := by
        rcases Nat.lt_or_ge 11 k with q | q
        · exact q
        · rw [if_neg (by omega)] at a; exact absurd a (by decide)
      have b' : k < 100 ∨ 111 < k := by
        rcases Nat.lt_or_ge k 100 with q | q
        · exact Or.inl q
        · rcases Nat.lt_or_ge 111 k with q2 | q2
          · exact Or.inr q2
          · rw [if_neg (by omega), if_neg (by omega)] at b; exact absurd b (by decide)
      omega
    · intro h
      have a' : 11 < k := by omega
      have b' : k < 100 ∨ 111 < k := by omega
      refine ⟨by rw [if_pos a'], ?_⟩
      rcases b' with q | q
      · rw [if_pos q]
      · rw [if_neg (by omega), if_pos q]
theorem adBad_eq {k nu sh wh : Int32} : adBad k nu sh wh = (decide (inB k 0 5 = 0) || decide (inB nu 0 9 = 0) || decide (inB sh 0 99 = 0) || whX wh) := by
  unfold adBad whX
  simp only [Bool.or_assoc]

