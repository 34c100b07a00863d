/-! ===== the Model: taken ===== -/
set_option maxHeartbeats 4000000 in
theorem m_X7_taken {z : Zz} {d : Nat} {Q : Option Value → Lay → Mem → Prop} {rf : Nat → Value} {tl : Lay} {mem : Mem}  {n : Nat} {σ : Nat → Nat → Int32} {td ru p k : Int32} (hdd : 2 ≤ d) (hM : isM 48 mem σ n td ru) (hk : kOK σ n) (hab : ∀ j, j < 6 → mem 65 j = am_kab j) (K :  Q (some (.int (takR σ n p k))) (LAY rf tl) mem) : Sim z d 0 0 mX7_taken 0 [.ref 47, .int p, .int k, .float 0] [] (LAY rf tl) mem Q := by
  have h8 := hM.2.1
  unfold takR at K
  refine s_iload_n (pc' := 1) dX7_taken_0 rfl lg2 ?_
  refine s_iconst (pc' := 2) dX7_taken_1 rfl iconst_0 ?_
  refine s_iconst (pc' := 3) dX7_taken_2 rfl iconst_5 ?_
  refine c_X7_isIn  (pc' := 6) dX7_taken_3 rfl lkX7_86 (by omega) (Nat.le_of_ble_eq_true rfl) ?_
  refine s_if_ne (pc' := 9) (tgt := 12) dX7_taken_6 rfl (by decide) (fun c1 => ?_) (fun c1 => ?_)
  · skip
    rw [if_neg c1] at K
    refine s_aload_n (pc' := 13) dX7_taken_12 rfl lg0 rfl ?_
    refine s_iload_n (pc' := 14) dX7_taken_13 rfl lg1 ?_
    refine c_X7_isPiece  (pc' := 17) dX7_taken_14 rfl lkX7_94 (by omega) (Nat.le_of_ble_eq_true rfl) hM.1 h8 ?_
    refine s_if_ne (pc' := 20) (tgt := 23) dX7_taken_17 rfl (by decide) (fun c2 => ?_) (fun c2 => ?_)
    · skip
      rcases pc_or p (n := n) (by omega) with q | ⟨a, ha, rfl, -⟩
      · exact absurd q c2
      obtain ⟨kk, hkk, ek⟩ := hk a ha
      rw [if_neg c2, ix_nI (by omega), ek, ix_nI (by omega)] at K
      refine s_aload_n (pc' := 24) dX7_taken_23 rfl lg0 rfl ?_
      refine s_iload_n (pc' := 25) dX7_taken_24 rfl lg1 ?_
      refine s_iconst (pc' := 26) dX7_taken_25 rfl iconst_0 ?_
      refine c_X7_of_0  (pc' := 29) dX7_taken_26 rfl lkX7_108 (by omega) (Nat.le_of_ble_eq_true rfl) hM ha ?_
      rw [ek]
      refine s_istore_n (pc' := 30) dX7_taken_29 rfl (Nat.le_of_ble_eq_true rfl) rfl ls3 ?_
      have no : kinB kk k = 0 → Sim z d 0 0 mX7_taken 30 [.ref 47, .int (nI a), .int k, .int (-1)] [] (LAY rf tl) mem Q := by
        intro h
        rw [if_pos h] at K
        refine s_iload_n (pc' := 31) dX7_taken_30 rfl lg3 ?_
        refine s_iconst (pc' := 32) dX7_taken_31 rfl iconst_m1 ?_
        refine s_icmp_eq (pc' := 35) (tgt := 50) dX7_taken_32 rfl (by decide) (fun _ => ?_) (fun c9 => absurd (by decide) c9)
        refine s_iload_n (pc' := 51) dX7_taken_50 rfl lg3 ?_
        refine s_iconst (pc' := 52) dX7_taken_51 rfl iconst_m1 ?_
        refine s_icmp_ne (pc' := 55) (tgt := 60) dX7_taken_52 rfl (by decide) (fun c9 => absurd (by decide) c9) (fun _ => ?_)
        refine s_bipush (pc' := 57) dX7_taken_55 rfl bipush_m13 ?_
        refine s_goto (tgt := 66) dX7_taken_57 (by decide) ?_
        refine s_iret dX7_taken_66 rfl (vp_nar_int _) ?_
        exact K
      have st : ∀ (c : Nat), c < 6 → (k = nI c → kinB kk k = 1) → (¬ k = nI c → Sim z d 0 0 mX7_taken 30 [.ref 47, .int (nI a), .int k, .int (am_kab c)] [] (LAY rf tl) mem Q) → Sim z d 0 0 mX7_taken 30 [.ref 47, .int (nI a), .int k, .int (nI c)] [] (LAY rf tl) mem Q := by
        intro c hc h1 h2
        refine s_iload_n (pc' := 31) dX7_taken_30 rfl lg3 ?_
        refine s_iconst (pc' := 32) dX7_taken_31 rfl iconst_m1 ?_
        refine s_icmp_eq (pc' := 35) (tgt := 50) dX7_taken_32 rfl (by decide) (fun c9 => absurd c9 (nI_m1 (by omega))) (fun _ => ?_)
        refine s_iload_n (pc' := 36) dX7_taken_35 rfl lg3 ?_
        refine s_iload_n (pc' := 37) dX7_taken_36 rfl lg2 ?_
        refine s_icmp_eq (pc' := 40) (tgt := 50) dX7_taken_37 rfl (by decide) (fun c3 => ?_) (fun c3 => ?_)
        · skip
          rw [if_neg (by rw [h1 c3.symm]; decide)] at K
          refine s_iload_n (pc' := 51) dX7_taken_50 rfl lg3 ?_
          refine s_iconst (pc' := 52) dX7_taken_51 rfl iconst_m1 ?_
          refine s_icmp_ne (pc' := 55) (tgt := 60) dX7_taken_52 rfl (by decide) (fun _ => ?_) (fun c9 => absurd c9 (nI_m1 (by omega)))
          refine s_aload_n (pc' := 61) dX7_taken_60 rfl lg0 rfl ?_
          refine s_iload_n (pc' := 62) dX7_taken_61 rfl lg1 ?_
          refine s_iconst (pc' := 63) dX7_taken_62 rfl iconst_1 ?_
          refine c_X7_of_1  (pc' := 66) dX7_taken_63 rfl lkX7_108 (by omega) (Nat.le_of_ble_eq_true rfl) hM ha ?_
          refine s_iret dX7_taken_66 rfl (vp_nar_int _) ?_
          exact K
        · skip
          refine s_aload_n (pc' := 41) dX7_taken_40 rfl lg0 rfl ?_
          refine s_getRv (pc' := 44) (v := .ref 65) dX7_taken_41 rfl flX7_70 ly47 (by decide) rfl rfl ?_
          refine s_iload_n (pc' := 45) dX7_taken_44 rfl lg3 ?_
          refine s_ialdNv (pc' := 46) (v := am_kab c) dX7_taken_45 rfl ly65 (by omega) (by decide) (hab c hc) ?_
          refine s_istore_n (pc' := 47) dX7_taken_46 rfl (Nat.le_of_ble_eq_true rfl) rfl ls3 ?_
          refine s_goto (tgt := 30) dX7_taken_47 (by decide) ?_
          exact h2 (fun q => c3 q.symm)
      have k6 : kk = 0 ∨ kk = 1 ∨ kk = 2 ∨ kk = 3 ∨ kk = 4 ∨ kk = 5 := by omega
      unfold kinB at no st
      rcases k6 with rfl | rfl | rfl | rfl | rfl | rfl
      · refine st 0 (by omega) (fun h => ?_) (fun h => no ?_) <;> simp [kinL, h] <;> first | decide | exact h
      · refine st 1 (by omega) (fun h => ?_) (fun h => st 0 (by omega) (fun h' => ?_) (fun h' => no ?_))
        · simp [kinL, h]; decide
        · simp [kinL, h']; decide
        · simp [kinL]; exact ⟨h, h'⟩
      · refine st 2 (by omega) (fun h => ?_) (fun h => st 0 (by omega) (fun h' => ?_) (fun h' => no ?_))
        · simp [kinL, h]; decide
        · simp [kinL, h']; decide
        · simp [kinL]; exact ⟨h, h'⟩
      · refine st 3 (by omega) (fun h => ?_) (fun h => st 1 (by omega) (fun h' => ?_) (fun h' => st 0 (by omega) (fun h'' => ?_) (fun h'' => no ?_)))
        · simp [kinL, h]; decide
        · simp [kinL, h']; decide
        · simp [kinL, h'']; decide
        · simp [kinL]; exact ⟨h, h', h''⟩
      · refine st 4 (by omega) (fun h => ?_) (fun h => st 2 (by omega) (fun h' => ?_) (fun h' => st 0 (by omega) (fun h'' => ?_) (fun h'' => no ?_)))
        · simp [kinL, h]; decide
        · simp [kinL, h']; decide
        · simp [kinL, h'']; decide
        · simp [kinL]; exact ⟨h, h', h''⟩
      · refine st 5 (by omega) (fun h => ?_) (fun h => st 0 (by omega) (fun h' => ?_) (fun h' => no ?_))
        · simp [kinL, h]; decide
        · simp [kinL, h']; decide
        · simp [kinL]; exact ⟨h, h'⟩
    · skip
      rw [if_pos c2] at K
      refine s_bipush (pc' := 22) dX7_taken_20 rfl bipush_m11 ?_
      refine s_iret dX7_taken_22 rfl (vp_nar_int _) ?_
      exact K
  · skip
    rw [if_pos c1] at K
    refine s_bipush (pc' := 11) dX7_taken_9 rfl bipush_m2 ?_
    refine s_iret dX7_taken_11 rfl (vp_nar_int _) ?_
    exact K
theorem c_X7_taken {z : Zz} {d kc ks : Nat} {mi : MI} {pc pc' : Nat} {L S : List Value} {Q : Option Value → Lay → Mem → Prop} {rf : Nat → Value} {tl : Lay} {mem : Mem}  {n : Nat} {σ : Nat → Nat → Int32} {td ru p k : Int32} {idx : Nat} (hd : decode mi.2.1 pc = .ok (.invokevirtual idx, 3)) (hp : pc + 3 = pc') (hlk : Cond.methodLink mi.1.cls idx yX7_taken ∈ wok) (hdd : 2 + 1 ≤ d) (hcat : (S.map (fun v => v.category)).sum ≤ 8) (hM : isM 48 mem σ n td ru) (hk : kOK σ n) (hab : ∀ j, j < 6 → mem 65 j = am_kab j) (K :  Sim z d kc ks mi pc' L (.int (takR σ n p k) :: S) (LAY rf tl) mem Q) : Sim z d kc ks mi pc L (.int k :: .int p :: .ref 47 :: S) (LAY rf tl) mem Q :=
  s_invV (d2 := 2) hd hp okX7_taken hlk inX7_taken seX7_taken hdd (Nat.zero_add _) (Nat.zero_add _) rfl rfl ly47 rfl hcat (Nat.le_of_ble_eq_true rfl) (m_X7_taken (Nat.le_refl _) hM hk hab K)

