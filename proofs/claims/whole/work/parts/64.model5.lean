/-! ===== the Model: piece ===== -/
def whX (wh : Int32) : Bool := !decide (0 ≤ wh) || decide (1 < wh / 100) || !decide (wh - wh / 100 * 100 ≤ 11)
theorem wh_eq (wh : Int32) : (inB wh 0 11 = 0 ∧ inB wh 100 111 = 0) ↔ whX wh = true := by
  unfold whX
  by_cases h0 : wh < 0
  · have hn : ¬ 0 ≤ wh := by rw [Int32.le_iff_toInt_le]; rw [Int32.lt_iff_toInt_lt] at h0; omega
    have hl : wh < 100 := by
      rw [Int32.lt_iff_toInt_lt] at h0 ⊢
      have : (0 : Int32).toInt = 0 := by decide
      have : (100 : Int32).toInt = 100 := by decide
      omega
    unfold inB
    rw [if_pos h0, if_pos hl, decide_eq_false hn]
    simp
  · obtain ⟨k, hk, rfl⟩ := nI_of h0
    have e1 : nI k / 100 = nI (k / 100) := pk_div (d := 100) hk (by decide) (by decide)
    have e2 : nI k - nI k / 100 * 100 = nI (k % 100) := pk_rem (d := 100) hk (by decide) (by decide)
    rw [e2, e1]
    have p0 : (0 ≤ nI k) = True := eq_true (nI_pos' hk)
    have p1 : (1 < nI (k / 100)) = (1 < k / 100) := propext (nI_ltI (a := 1) (by omega) (by omega))
    have p2 : (nI (k % 100) ≤ 11) = (k % 100 ≤ 11) := propext (nI_leI (b := 11) (by omega) (by omega))
    have p3 : (nI k < 0) = False := eq_false h0
    have p4 : (11 < nI k) = (11 < k) := propext (nI_ltI (a := 11) (by omega) (by omega))
    have p5 : (nI k < 100) = (k < 100) := propext (nI_ltI (b := 100) (by omega) (by omega))
    have p6 : (111 < nI k) = (111 < k) := propext (nI_ltI (a := 111) (by omega) (by omega))
    unfold inB
    simp only [p0, p1, p2, p3, p4, p5, p6, if_false, decide_true, Bool.not_true, Bool.false_or, Bool.or_eq_true, Bool.not_eq_true', decide_eq_true_eq, decide_eq_false_iff_not]
    constructor
    · intro ⟨a, b⟩
      have a' : 11 < k := by
        rcases Nat.lt_or_ge 11 k with q | q
        · exact q
        · rw [if_neg (by omega)] at a; exact absurd a (by decide)
      have b' : k < 100 ∨ 111 < k := by
        rcases Nat.lt_or_ge k 100 with q | q
        · exact Or.inl q
        · rcases Nat.lt_or_ge 111 k with q2 | q2
          · exact Or.inr q2
          · rw [if_neg (by omega), if_neg (by omega)] at b; exact absurd b (by decide)
      omega
    · intro h
      have a' : 11 < k := by omega
      have b' : k < 100 ∨ 111 < k := by omega
      refine ⟨by rw [if_pos a'], ?_⟩
      rcases b' with q | q
      · rw [if_pos q]
      · rw [if_neg (by omega), if_pos q]
theorem adBad_eq {k nu sh wh : Int32} : adBad k nu sh wh = (decide (inB k 0 5 = 0) || decide (inB nu 0 9 = 0) || decide (inB sh 0 99 = 0) || whX wh) := by
  unfold adBad whX
  simp only [Bool.or_assoc]
set_option maxHeartbeats 4000000 in
theorem m_X7_piece {z : Zz} {d : Nat} {Q : Option Value → Lay → Mem → Prop} {rf : Nat → Value} {tl : Lay} {mem : Mem}  {n : Nat} {σ : Nat → Nat → Int32} {td ru k nu sh wh : Int32} (hdd : 1 ≤ d) (hM : isM 48 mem σ n td ru) (K : ∀ mem', isM 48 mem' (adS σ n k nu sh wh) (adN n k nu sh wh) td ru → (∀ j, j ≠ 48 → mem' j = mem j) → Q (some (.int (adR n k nu sh wh))) (LAY rf tl) mem') : Sim z d 0 0 mX7_piece 0 [.ref 47, .int k, .int nu, .int sh, .int wh, .float 0] [] (LAY rf tl) mem Q := by
  have h8 := hM.2.1
  have hn := hM.1
  have bad : adBad k nu sh wh = true → Q (some (.int (-2))) (LAY rf tl) mem := by
    intro h
    rw [adR, adS, adN, if_pos h, if_pos h, if_pos h] at K
    exact K mem hM (fun _ _ => rfl)
  have tail : adBad k nu sh wh = false → Sim z d 0 0 mX7_piece 55 [.ref 47, .int k, .int nu, .int sh, .int wh, .float 0] [] (LAY rf tl) mem Q := by
    intro hb
    rw [adR, adS, adN, hb, if_neg Bool.false_ne_true, if_neg Bool.false_ne_true, if_neg Bool.false_ne_true] at K
    refine s_aload_n (pc' := 56) dX7_piece_55 rfl lg0 rfl ?_
    refine c_X7_many  (pc' := 59) dX7_piece_56 rfl lkX7_101 (by omega) (Nat.le_of_ble_eq_true rfl) ?_
    rw [hn]
    refine s_bipush (pc' := 61) dX7_piece_59 rfl bipush_8 ?_
    rcases Nat.lt_or_ge n 8 with q | q
    · rw [if_pos q, if_pos q, if_pos q] at K
      refine s_icmp_ne (pc' := 64) (tgt := 67) dX7_piece_61 rfl (by decide) (fun _ => ?_) (fun c9 => absurd c9 (fun e => absurd ((nI_eq (a := n) (b := 8) (by omega) (by omega)).mp e) (by omega)))
      refine s_aload_n (pc' := 68) dX7_piece_67 rfl lg0 rfl ?_
      refine c_X7_many  (pc' := 71) dX7_piece_68 rfl lkX7_101 (by omega) (Nat.le_of_ble_eq_true rfl) ?_
      rw [hn]
      refine s_istore (pc' := 73) dX7_piece_71 rfl (Nat.le_of_ble_eq_true rfl) rfl ls5 ?_
      refine s_aload_n (pc' := 74) dX7_piece_73 rfl lg0 rfl ?_
      refine s_iload (pc' := 76) dX7_piece_74 rfl lg5 ?_
      refine s_iconst (pc' := 77) dX7_piece_76 rfl iconst_0 ?_
      refine s_iload_n (pc' := 78) dX7_piece_77 rfl lg1 ?_
      refine c_X7_change_0  (pc' := 81) dX7_piece_78 rfl lkX7_104 (by omega) (Nat.le_of_ble_eq_true rfl) q ?_
      refine s_aload_n (pc' := 82) dX7_piece_81 rfl lg0 rfl ?_
      refine s_iload (pc' := 84) dX7_piece_82 rfl lg5 ?_
      refine s_iconst (pc' := 85) dX7_piece_84 rfl iconst_1 ?_
      refine s_iload_n (pc' := 86) dX7_piece_85 rfl lg2 ?_
      refine c_X7_change_1  (pc' := 89) dX7_piece_86 rfl lkX7_104 (by omega) (Nat.le_of_ble_eq_true rfl) q ?_
      refine s_aload_n (pc' := 90) dX7_piece_89 rfl lg0 rfl ?_
      refine s_iload (pc' := 92) dX7_piece_90 rfl lg5 ?_
      refine s_iconst (pc' := 93) dX7_piece_92 rfl iconst_2 ?_
      refine s_iload_n (pc' := 94) dX7_piece_93 rfl lg3 ?_
      refine c_X7_change_2  (pc' := 97) dX7_piece_94 rfl lkX7_104 (by omega) (Nat.le_of_ble_eq_true rfl) q ?_
      refine s_aload_n (pc' := 98) dX7_piece_97 rfl lg0 rfl ?_
      refine s_iload (pc' := 100) dX7_piece_98 rfl lg5 ?_
      refine s_iconst (pc' := 101) dX7_piece_100 rfl iconst_3 ?_
      refine s_iload (pc' := 103) dX7_piece_101 rfl lg4 ?_
      refine s_bipush (pc' := 105) dX7_piece_103 rfl bipush_100 ?_
      refine s_irem (pc' := 106) dX7_piece_105 rfl (by decide) ?_
      refine c_X7_change_3  (pc' := 109) dX7_piece_106 rfl lkX7_104 (by omega) (Nat.le_of_ble_eq_true rfl) q ?_
      refine s_aload_n (pc' := 110) dX7_piece_109 rfl lg0 rfl ?_
      refine s_iload (pc' := 112) dX7_piece_110 rfl lg5 ?_
      refine s_iconst (pc' := 113) dX7_piece_112 rfl iconst_4 ?_
      refine s_iload (pc' := 115) dX7_piece_113 rfl lg4 ?_
      refine s_bipush (pc' := 117) dX7_piece_115 rfl bipush_100 ?_
      refine s_idiv (pc' := 118) dX7_piece_117 rfl (by decide) ?_
      refine c_X7_change_4  (pc' := 121) dX7_piece_118 rfl lkX7_104 (by omega) (Nat.le_of_ble_eq_true rfl) q ?_
      refine s_aload_n (pc' := 122) dX7_piece_121 rfl lg0 rfl ?_
      refine s_getRv (pc' := 125) (v := .ref 48) dX7_piece_122 rfl flX7_7 ly47 (by decide) rfl rfl ?_
      refine s_bipush (pc' := 127) dX7_piece_125 rfl bipush_40 ?_
      refine s_dup2 (pc' := 128) dX7_piece_127 rfl rfl rfl ?_
      refine s_ialdNv (pc' := 129) (k := 40) (v := nI n) dX7_piece_128 rfl ly48 (by decide) (by decide) (by rw [upE, udN (by omega), upE, udN (by omega), upE, udN (by omega), upE, udN (by omega), upE, udN (by omega)]; exact hn) ?_
      refine s_iconst (pc' := 130) dX7_piece_129 rfl iconst_1 ?_
      refine s_iadd (pc' := 131) dX7_piece_130 rfl ?_
      rw [nI_1]
      refine s_iastN (pc' := 132) (k := 40) dX7_piece_131 rfl ly48 (by decide) (by decide) ?_
      refine s_iload (pc' := 134) dX7_piece_132 rfl lg5 ?_
      refine s_iret dX7_piece_134 rfl (vp_nar_int _) ?_
      refine K _ ?_ (fun j hj => by rw [upN hj, upN hj, upN hj, upN hj, upN hj, upN hj])
      obtain ⟨h1, h2, h3, h4, h5⟩ := hM
      refine ⟨by rw [upE, udE], by omega, ?_, ?_, fun i hi w hw => ?_⟩
      · rw [upE, udN (by omega), upE, udN (by omega), upE, udN (by omega), upE, udN (by omega), upE, udN (by omega), upE, udN (by omega)]; exact h3
      · rw [upE, udN (by omega), upE, udN (by omega), upE, udN (by omega), upE, udN (by omega), upE, udN (by omega), upE, udN (by omega)]; exact h4
      · rw [upE, udN (by omega)]
        by_cases hin : i = n
        · subst hin
          have w5 : w = 0 ∨ w = 1 ∨ w = 2 ∨ w = 3 ∨ w = 4 := by omega
          rcases w5 with rfl | rfl | rfl | rfl | rfl <;> simp [am_up, upd, u2]
        · rw [upE, udN (by omega), upE, udN (by omega), upE, udN (by omega), upE, udN (by omega), upE, udN (by omega)]
          rw [h5 i (by omega) w hw]
          simp [u2, hin]
    · rw [if_neg (by omega), if_neg (by omega), if_neg (by omega)] at K
      have : n = 8 := by omega
      subst this
      refine s_icmp_ne (pc' := 64) (tgt := 67) dX7_piece_61 rfl (by decide) (fun c9 => absurd (by decide) c9) (fun _ => ?_)
      refine s_bipush (pc' := 66) dX7_piece_64 rfl bipush_m4 ?_
      refine s_iret dX7_piece_66 rfl (vp_nar_int _) ?_
      exact K mem hM (fun _ _ => rfl)
  rw [adBad_eq] at bad tail
  refine s_iload_n (pc' := 1) dX7_piece_0 rfl lg1 ?_
  refine s_iconst (pc' := 2) dX7_piece_1 rfl iconst_0 ?_
  refine s_iconst (pc' := 3) dX7_piece_2 rfl iconst_5 ?_
  refine c_X7_isIn  (pc' := 6) dX7_piece_3 rfl lkX7_86 (by omega) (Nat.le_of_ble_eq_true rfl) ?_
  refine s_if_eq (pc' := 9) (tgt := 52) dX7_piece_6 rfl (by decide) (fun c1 => ?_) (fun c1 => ?_)
  · skip
    refine s_bipush (pc' := 54) dX7_piece_52 rfl bipush_m2 ?_
    refine s_iret dX7_piece_54 rfl (vp_nar_int _) ?_
    exact bad (by rw [decide_eq_true c1]; rfl)
  · skip
    refine s_iload_n (pc' := 10) dX7_piece_9 rfl lg2 ?_
    refine s_iconst (pc' := 11) dX7_piece_10 rfl iconst_0 ?_
    refine s_bipush (pc' := 13) dX7_piece_11 rfl bipush_9 ?_
    refine c_X7_isIn  (pc' := 16) dX7_piece_13 rfl lkX7_86 (by omega) (Nat.le_of_ble_eq_true rfl) ?_
    refine s_if_eq (pc' := 19) (tgt := 52) dX7_piece_16 rfl (by decide) (fun c2 => ?_) (fun c2 => ?_)
    · skip
      refine s_bipush (pc' := 54) dX7_piece_52 rfl bipush_m2 ?_
      refine s_iret dX7_piece_54 rfl (vp_nar_int _) ?_
      exact bad (by rw [decide_eq_true c2]; simp)
    · skip
      refine s_iload_n (pc' := 20) dX7_piece_19 rfl lg3 ?_
      refine s_iconst (pc' := 21) dX7_piece_20 rfl iconst_0 ?_
      refine s_bipush (pc' := 23) dX7_piece_21 rfl bipush_99 ?_
      refine c_X7_isIn  (pc' := 26) dX7_piece_23 rfl lkX7_86 (by omega) (Nat.le_of_ble_eq_true rfl) ?_
      refine s_if_eq (pc' := 29) (tgt := 52) dX7_piece_26 rfl (by decide) (fun c3 => ?_) (fun c3 => ?_)
      · skip
        refine s_bipush (pc' := 54) dX7_piece_52 rfl bipush_m2 ?_
        refine s_iret dX7_piece_54 rfl (vp_nar_int _) ?_
        exact bad (by rw [decide_eq_true c3]; simp)
      · skip
        refine s_iload (pc' := 31) dX7_piece_29 rfl lg4 ?_
        refine s_iconst (pc' := 32) dX7_piece_31 rfl iconst_0 ?_
        refine s_bipush (pc' := 34) dX7_piece_32 rfl bipush_11 ?_
        refine c_X7_isIn  (pc' := 37) dX7_piece_34 rfl lkX7_86 (by omega) (Nat.le_of_ble_eq_true rfl) ?_
        refine s_if_ne (pc' := 40) (tgt := 55) dX7_piece_37 rfl (by decide) (fun c4 => ?_) (fun c4 => ?_)
        · refine tail ?_
          rw [decide_eq_false c1, decide_eq_false c2, decide_eq_false c3, Bool.false_or, Bool.false_or, Bool.false_or]
          exact Bool.eq_false_iff.mpr (fun h => c4 ((wh_eq wh).mpr h).1)
        · skip
          refine s_iload (pc' := 42) dX7_piece_40 rfl lg4 ?_
          refine s_bipush (pc' := 44) dX7_piece_42 rfl bipush_100 ?_
          refine s_bipush (pc' := 46) dX7_piece_44 rfl bipush_111 ?_
          refine c_X7_isIn  (pc' := 49) dX7_piece_46 rfl lkX7_86 (by omega) (Nat.le_of_ble_eq_true rfl) ?_
          refine s_if_ne (pc' := 52) (tgt := 55) dX7_piece_49 rfl (by decide) (fun c5 => ?_) (fun c5 => ?_)
          · refine tail ?_
            rw [decide_eq_false c1, decide_eq_false c2, decide_eq_false c3, Bool.false_or, Bool.false_or, Bool.false_or]
            exact Bool.eq_false_iff.mpr (fun h => c5 ((wh_eq wh).mpr h).2)
          · skip
            refine s_bipush (pc' := 54) dX7_piece_52 rfl bipush_m2 ?_
            refine s_iret dX7_piece_54 rfl (vp_nar_int _) ?_
            exact bad (by rw [(wh_eq wh).mp ⟨c4, c5⟩]; simp)
theorem c_X7_piece {z : Zz} {d kc ks : Nat} {mi : MI} {pc pc' : Nat} {L S : List Value} {Q : Option Value → Lay → Mem → Prop} {rf : Nat → Value} {tl : Lay} {mem : Mem}  {n : Nat} {σ : Nat → Nat → Int32} {td ru k nu sh wh : Int32} {idx : Nat} (hd : decode mi.2.1 pc = .ok (.invokevirtual idx, 3)) (hp : pc + 3 = pc') (hlk : Cond.methodLink mi.1.cls idx yX7_piece ∈ wok) (hdd : 1 + 1 ≤ d) (hcat : (S.map (fun v => v.category)).sum ≤ 8) (hM : isM 48 mem σ n td ru) (K : ∀ mem', isM 48 mem' (adS σ n k nu sh wh) (adN n k nu sh wh) td ru → (∀ j, j ≠ 48 → mem' j = mem j) → Sim z d kc ks mi pc' L (.int (adR n k nu sh wh) :: S) (LAY rf tl) mem' Q) : Sim z d kc ks mi pc L (.int wh :: .int sh :: .int nu :: .int k :: .ref 47 :: S) (LAY rf tl) mem Q :=
  s_invV (d2 := 1) hd hp okX7_piece hlk inX7_piece seX7_piece hdd (Nat.zero_add _) (Nat.zero_add _) rfl rfl ly47 rfl hcat (Nat.le_of_ble_eq_true rfl) (m_X7_piece (Nat.le_refl _) hM K)

