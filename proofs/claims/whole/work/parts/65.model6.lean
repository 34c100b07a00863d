/-! ===== the Model: place, set ===== -/
set_option maxHeartbeats 4000000 in
theorem m_X7_place_0 {z : Zz} {d : Nat} {Q : Option Value → Lay → Mem → Prop} {rf : Nat → Value} {tl : Lay} {mem : Mem}  {o : Int32} (hdd : 0 ≤ d)  (K :  Q (some (.int 41)) (LAY rf tl) mem) : Sim z d 0 0 mX7_place 0 [.ref 47, .int 0, .int o] [] (LAY rf tl) mem Q := by
  refine s_iload_n (pc' := 1) dX7_place_0 rfl lg1 ?_
  refine s_if_ne (pc' := 4) (tgt := 9) dX7_place_1 rfl (by decide) (fun c9 => absurd (by decide) c9) (fun _ => ?_)
  refine s_bipush (pc' := 6) dX7_place_4 rfl bipush_41 ?_
  refine s_goto (tgt := 26) dX7_place_6 (by decide) ?_
  refine s_iret dX7_place_26 rfl (vp_nar_int _) ?_
  exact K
theorem c_X7_place_0 {z : Zz} {d kc ks : Nat} {mi : MI} {pc pc' : Nat} {L S : List Value} {Q : Option Value → Lay → Mem → Prop} {rf : Nat → Value} {tl : Lay} {mem : Mem}  {o : Int32} {idx : Nat} (hd : decode mi.2.1 pc = .ok (.invokevirtual idx, 3)) (hp : pc + 3 = pc') (hlk : Cond.methodLink mi.1.cls idx yX7_place ∈ wok) (hdd : 0 + 1 ≤ d) (hcat : (S.map (fun v => v.category)).sum ≤ 8)  (K :  Sim z d kc ks mi pc' L (.int 41 :: S) (LAY rf tl) mem Q) : Sim z d kc ks mi pc L (.int o :: .int 0 :: .ref 47 :: S) (LAY rf tl) mem Q :=
  s_invV (d2 := 0) hd hp okX7_place hlk inX7_place seX7_place hdd (Nat.zero_add _) (Nat.zero_add _) rfl rfl ly47 rfl hcat (Nat.le_of_ble_eq_true rfl) (m_X7_place_0 (Nat.le_refl _)  K)
set_option maxHeartbeats 4000000 in
theorem m_X7_place_s {z : Zz} {d : Nat} {Q : Option Value → Lay → Mem → Prop} {rf : Nat → Value} {tl : Lay} {mem : Mem}  {n w : Nat} {o : Int32} (hdd : 2 ≤ d) (hn : mem 48 40 = nI n) (h8 : n ≤ 8) (hw : 1 ≤ w) (hw5 : w < 1000) (K :  Q (some (.int (if pcB o (nI n) = 0 then -1 else nI (5 * ix o + w)))) (LAY rf tl) mem) : Sim z d 0 0 mX7_place 0 [.ref 47, .int (nI w), .int o] [] (LAY rf tl) mem Q := by
  refine s_iload_n (pc' := 1) dX7_place_0 rfl lg1 ?_
  refine s_if_ne (pc' := 4) (tgt := 9) dX7_place_1 rfl (by decide) (fun _ => ?_) (fun c9 => absurd c9 (nI_ne0 (by omega) (by omega)))
  refine s_aload_n (pc' := 10) dX7_place_9 rfl lg0 rfl ?_
  refine s_iload_n (pc' := 11) dX7_place_10 rfl lg2 ?_
  refine c_X7_isPiece  (pc' := 14) dX7_place_11 rfl lkX7_94 (by omega) (Nat.le_of_ble_eq_true rfl) hn h8 ?_
  refine s_if_eq (pc' := 17) (tgt := 25) dX7_place_14 rfl (by decide) (fun c1 => ?_) (fun c1 => ?_)
  · skip
    rw [if_pos c1] at K
    refine s_iconst (pc' := 26) dX7_place_25 rfl iconst_m1 ?_
    refine s_iret dX7_place_26 rfl (vp_nar_int _) ?_
    exact K
  · skip
    rcases pc_or o (n := n) (by omega) with q | ⟨a, ha, rfl, -⟩
    · exact absurd q c1
    rw [if_neg c1, ix_nI (by omega)] at K
    refine s_iconst (pc' := 18) dX7_place_17 rfl iconst_5 ?_
    refine s_iload_n (pc' := 19) dX7_place_18 rfl lg2 ?_
    refine s_imul (pc' := 20) dX7_place_19 rfl ?_
    refine s_iload_n (pc' := 21) dX7_place_20 rfl lg1 ?_
    refine s_iadd (pc' := 22) dX7_place_21 rfl ?_
    rw [mI5 rfl]
    refine s_goto (tgt := 26) dX7_place_22 (by decide) ?_
    refine s_iret dX7_place_26 rfl (vp_nar_int _) ?_
    exact K
theorem c_X7_place_s {z : Zz} {d kc ks : Nat} {mi : MI} {pc pc' : Nat} {L S : List Value} {Q : Option Value → Lay → Mem → Prop} {rf : Nat → Value} {tl : Lay} {mem : Mem}  {n w : Nat} {o : Int32} {idx : Nat} (hd : decode mi.2.1 pc = .ok (.invokevirtual idx, 3)) (hp : pc + 3 = pc') (hlk : Cond.methodLink mi.1.cls idx yX7_place ∈ wok) (hdd : 2 + 1 ≤ d) (hcat : (S.map (fun v => v.category)).sum ≤ 8) (hn : mem 48 40 = nI n) (h8 : n ≤ 8) (hw : 1 ≤ w) (hw5 : w < 1000) (K :  Sim z d kc ks mi pc' L (.int (if pcB o (nI n) = 0 then -1 else nI (5 * ix o + w)) :: S) (LAY rf tl) mem Q) : Sim z d kc ks mi pc L (.int o :: .int (nI w) :: .ref 47 :: S) (LAY rf tl) mem Q :=
  s_invV (d2 := 2) hd hp okX7_place hlk inX7_place seX7_place hdd (Nat.zero_add _) (Nat.zero_add _) rfl rfl ly47 rfl hcat (Nat.le_of_ble_eq_true rfl) (m_X7_place_s (Nat.le_refl _) hn h8 hw hw5 K)
set_option maxHeartbeats 4000000 in
theorem m_X7_set {z : Zz} {d : Nat} {Q : Option Value → Lay → Mem → Prop} {rf : Nat → Value} {tl : Lay} {mem : Mem}  {n : Nat} {σ : Nat → Nat → Int32} {td ru what o v : Int32} (hdd : 3 ≤ d) (hM : isM 48 mem σ n td ru) (K : ∀ mem', isM 48 mem' (setS σ n what o v) n (setT n td what o v) ru → (∀ j, j ≠ 48 → mem' j = mem j) → Q (some (.int (setR σ n td what o v))) (LAY rf tl) mem') : Sim z d 0 0 mX7_set 0 [.ref 47, .int what, .int o, .int v, .float 0, .float 0] [] (LAY rf tl) mem Q := by
  have h8 := hM.2.1
  have hn := hM.1
  have bad : setB n what o v = false → Q (some (.int (-2))) (LAY rf tl) mem := by
    intro h
    rw [setR, setS, setT, h, if_neg Bool.false_ne_true, if_neg Bool.false_ne_true, if_neg Bool.false_ne_true] at K
    exact K mem hM (fun _ _ => rfl)
  have good : setB n what o v = true → ∀ mem', isM 48 mem' (if what = 0 then σ else u2 σ (ix what) (ix o) v) n (if what = 0 then v else td) ru → (∀ j, j ≠ 48 → mem' j = mem j) → Q (some (.int (if what = 0 then td else σ (ix what) (ix o)))) (LAY rf tl) mem' := by
    intro h
    rw [setR, setS, setT, h, if_pos rfl, if_pos rfl, if_pos rfl] at K
    exact K
  clear K
  have t1 : what = 1 → Sim z d 0 0 mX7_set 41 [.ref 47, .int 1, .int o, .int v, .float 0, .float 0] [.int 9] (LAY rf tl) mem Q := by
    intro hw
    subst hw
    refine s_istore (pc' := 43) dX7_set_41 rfl (Nat.le_of_ble_eq_true rfl) rfl ls4 ?_
    refine s_iload_n (pc' := 44) dX7_set_43 rfl lg1 ?_
    refine s_iconst (pc' := 45) dX7_set_44 rfl iconst_0 ?_
    refine s_iconst (pc' := 46) dX7_set_45 rfl iconst_4 ?_
    refine c_X7_isIn  (pc' := 49) dX7_set_46 rfl lkX7_86 (by omega) (Nat.le_of_ble_eq_true rfl) ?_
    refine s_if_eq (pc' := 52) (tgt := 72) dX7_set_49 rfl (by decide) (fun c9 => absurd c9 (by decide)) (fun _ => ?_)
    refine s_iload_n (pc' := 53) dX7_set_52 rfl lg3 ?_
    refine s_iconst (pc' := 54) dX7_set_53 rfl iconst_0 ?_
    refine s_iload (pc' := 56) dX7_set_54 rfl lg4 ?_
    refine c_X7_isIn  (pc' := 59) dX7_set_56 rfl lkX7_86 (by omega) (Nat.le_of_ble_eq_true rfl) ?_
    refine s_if_eq (pc' := 62) (tgt := 72) dX7_set_59 rfl (by decide) (fun c1 => ?_) (fun c1 => ?_)
    · skip
      have g := bad (by unfold setB; rw [decide_eq_true (show inB v 0 (am_gre (ix 1)) = 0 from c1)]; simp)
      refine s_bipush (pc' := 74) dX7_set_72 rfl bipush_m2 ?_
      refine s_iret dX7_set_74 rfl (vp_nar_int _) ?_
      exact g
    · skip
      refine s_aload_n (pc' := 63) dX7_set_62 rfl lg0 rfl ?_
      refine s_iload_n (pc' := 64) dX7_set_63 rfl lg1 ?_
      refine s_iload_n (pc' := 65) dX7_set_64 rfl lg2 ?_
      refine c_X7_place_s (w := 1) (pc' := 68) dX7_set_65 rfl lkX7_98 (by omega) (Nat.le_of_ble_eq_true rfl) hn h8 (by decide) (by decide) ?_
      rcases pc_or o (n := n) (by omega) with q | ⟨a, ha, rfl, hq1⟩
      · rw [if_pos q]
        have g := bad (by unfold setB; rw [decide_eq_true q]; simp)
        refine s_iconst (pc' := 69) dX7_set_68 rfl iconst_m1 ?_
        refine s_icmp_ne (pc' := 72) (tgt := 75) dX7_set_69 rfl (by decide) (fun c9 => absurd (by decide) c9) (fun _ => ?_)
        refine s_bipush (pc' := 74) dX7_set_72 rfl bipush_m2 ?_
        refine s_iret dX7_set_74 rfl (vp_nar_int _) ?_
        exact g
      · have hq : ¬ pcB (nI a) (nI n) = 0 := by rw [hq1]; decide
        rw [if_neg hq, ix_nI (by omega)]
        have g := good (by unfold setB; rw [decide_eq_false hq, decide_eq_false (show ¬ inB v 0 (am_gre (ix 1)) = 0 from c1)]; decide)
        rw [if_neg (by decide), if_neg (by decide), if_neg (by decide), show ix 1 = 1 from by decide, ix_nI (by omega)] at g
        refine s_iconst (pc' := 69) dX7_set_68 rfl iconst_m1 ?_
        refine s_icmp_ne (pc' := 72) (tgt := 75) dX7_set_69 rfl (by decide) (fun _ => ?_) (fun c9 => absurd c9 (nI_m1 (by omega)))
        refine s_aload_n (pc' := 76) dX7_set_75 rfl lg0 rfl ?_
        refine s_getRv (pc' := 79) (v := .ref 48) dX7_set_76 rfl flX7_7 ly47 (by decide) rfl rfl ?_
        refine s_aload_n (pc' := 80) dX7_set_79 rfl lg0 rfl ?_
        refine s_iload_n (pc' := 81) dX7_set_80 rfl lg1 ?_
        refine s_iload_n (pc' := 82) dX7_set_81 rfl lg2 ?_
        refine c_X7_place_s (w := 1) (pc' := 85) dX7_set_82 rfl lkX7_98 (by omega) (Nat.le_of_ble_eq_true rfl) hn h8 (by decide) (by decide) ?_
        rw [if_neg hq, ix_nI (by omega)]
        refine s_ialdNv (pc' := 86) (v := σ 1 a) dX7_set_85 rfl ly48 (by omega) (by decide) (hM.2.2.2.2 a ha 1 (by decide)) ?_
        refine s_istore (pc' := 88) dX7_set_86 rfl (Nat.le_of_ble_eq_true rfl) rfl ls5 ?_
        refine s_aload_n (pc' := 89) dX7_set_88 rfl lg0 rfl ?_
        refine s_getRv (pc' := 92) (v := .ref 48) dX7_set_89 rfl flX7_7 ly47 (by decide) rfl rfl ?_
        refine s_aload_n (pc' := 93) dX7_set_92 rfl lg0 rfl ?_
        refine s_iload_n (pc' := 94) dX7_set_93 rfl lg1 ?_
        refine s_iload_n (pc' := 95) dX7_set_94 rfl lg2 ?_
        refine c_X7_place_s (w := 1) (pc' := 98) dX7_set_95 rfl lkX7_98 (by omega) (Nat.le_of_ble_eq_true rfl) hn h8 (by decide) (by decide) ?_
        rw [if_neg hq, ix_nI (by omega)]
        refine s_iload_n (pc' := 99) dX7_set_98 rfl lg3 ?_
        refine s_iastN (pc' := 100) dX7_set_99 rfl ly48 (by omega) (by decide) ?_
        refine s_iload (pc' := 102) dX7_set_100 rfl lg5 ?_
        refine s_iret dX7_set_102 rfl (vp_nar_int _) ?_
        exact g _ (hM.up (w := 1) (by decide) (by omega)) (fun j hj => upN hj)
  have t2 : what = 2 → Sim z d 0 0 mX7_set 41 [.ref 47, .int 2, .int o, .int v, .float 0, .float 0] [.int 99] (LAY rf tl) mem Q := by
    intro hw
    subst hw
    refine s_istore (pc' := 43) dX7_set_41 rfl (Nat.le_of_ble_eq_true rfl) rfl ls4 ?_
    refine s_iload_n (pc' := 44) dX7_set_43 rfl lg1 ?_
    refine s_iconst (pc' := 45) dX7_set_44 rfl iconst_0 ?_
    refine s_iconst (pc' := 46) dX7_set_45 rfl iconst_4 ?_
    refine c_X7_isIn  (pc' := 49) dX7_set_46 rfl lkX7_86 (by omega) (Nat.le_of_ble_eq_true rfl) ?_
    refine s_if_eq (pc' := 52) (tgt := 72) dX7_set_49 rfl (by decide) (fun c9 => absurd c9 (by decide)) (fun _ => ?_)
    refine s_iload_n (pc' := 53) dX7_set_52 rfl lg3 ?_
    refine s_iconst (pc' := 54) dX7_set_53 rfl iconst_0 ?_
    refine s_iload (pc' := 56) dX7_set_54 rfl lg4 ?_
    refine c_X7_isIn  (pc' := 59) dX7_set_56 rfl lkX7_86 (by omega) (Nat.le_of_ble_eq_true rfl) ?_
    refine s_if_eq (pc' := 62) (tgt := 72) dX7_set_59 rfl (by decide) (fun c1 => ?_) (fun c1 => ?_)
    · skip
      have g := bad (by unfold setB; rw [decide_eq_true (show inB v 0 (am_gre (ix 2)) = 0 from c1)]; simp)
      refine s_bipush (pc' := 74) dX7_set_72 rfl bipush_m2 ?_
      refine s_iret dX7_set_74 rfl (vp_nar_int _) ?_
      exact g
    · skip
      refine s_aload_n (pc' := 63) dX7_set_62 rfl lg0 rfl ?_
      refine s_iload_n (pc' := 64) dX7_set_63 rfl lg1 ?_
      refine s_iload_n (pc' := 65) dX7_set_64 rfl lg2 ?_
      refine c_X7_place_s (w := 2) (pc' := 68) dX7_set_65 rfl lkX7_98 (by omega) (Nat.le_of_ble_eq_true rfl) hn h8 (by decide) (by decide) ?_
      rcases pc_or o (n := n) (by omega) with q | ⟨a, ha, rfl, hq1⟩
      · rw [if_pos q]
        have g := bad (by unfold setB; rw [decide_eq_true q]; simp)
        refine s_iconst (pc' := 69) dX7_set_68 rfl iconst_m1 ?_
        refine s_icmp_ne (pc' := 72) (tgt := 75) dX7_set_69 rfl (by decide) (fun c9 => absurd (by decide) c9) (fun _ => ?_)
        refine s_bipush (pc' := 74) dX7_set_72 rfl bipush_m2 ?_
        refine s_iret dX7_set_74 rfl (vp_nar_int _) ?_
        exact g
      · have hq : ¬ pcB (nI a) (nI n) = 0 := by rw [hq1]; decide
        rw [if_neg hq, ix_nI (by omega)]
        have g := good (by unfold setB; rw [decide_eq_false hq, decide_eq_false (show ¬ inB v 0 (am_gre (ix 2)) = 0 from c1)]; decide)
        rw [if_neg (by decide), if_neg (by decide), if_neg (by decide), show ix 2 = 2 from by decide, ix_nI (by omega)] at g
        refine s_iconst (pc' := 69) dX7_set_68 rfl iconst_m1 ?_
        refine s_icmp_ne (pc' := 72) (tgt := 75) dX7_set_69 rfl (by decide) (fun _ => ?_) (fun c9 => absurd c9 (nI_m1 (by omega)))
        refine s_aload_n (pc' := 76) dX7_set_75 rfl lg0 rfl ?_
        refine s_getRv (pc' := 79) (v := .ref 48) dX7_set_76 rfl flX7_7 ly47 (by decide) rfl rfl ?_
        refine s_aload_n (pc' := 80) dX7_set_79 rfl lg0 rfl ?_
        refine s_iload_n (pc' := 81) dX7_set_80 rfl lg1 ?_
        refine s_iload_n (pc' := 82) dX7_set_81 rfl lg2 ?_
        refine c_X7_place_s (w := 2) (pc' := 85) dX7_set_82 rfl lkX7_98 (by omega) (Nat.le_of_ble_eq_true rfl) hn h8 (by decide) (by decide) ?_
        rw [if_neg hq, ix_nI (by omega)]
        refine s_ialdNv (pc' := 86) (v := σ 2 a) dX7_set_85 rfl ly48 (by omega) (by decide) (hM.2.2.2.2 a ha 2 (by decide)) ?_
        refine s_istore (pc' := 88) dX7_set_86 rfl (Nat.le_of_ble_eq_true rfl) rfl ls5 ?_
        refine s_aload_n (pc' := 89) dX7_set_88 rfl lg0 rfl ?_
        refine s_getRv (pc' := 92) (v := .ref 48) dX7_set_89 rfl flX7_7 ly47 (by decide) rfl rfl ?_
        refine s_aload_n (pc' := 93) dX7_set_92 rfl lg0 rfl ?_
        refine s_iload_n (pc' := 94) dX7_set_93 rfl lg1 ?_
        refine s_iload_n (pc' := 95) dX7_set_94 rfl lg2 ?_
        refine c_X7_place_s (w := 2) (pc' := 98) dX7_set_95 rfl lkX7_98 (by omega) (Nat.le_of_ble_eq_true rfl) hn h8 (by decide) (by decide) ?_
        rw [if_neg hq, ix_nI (by omega)]
        refine s_iload_n (pc' := 99) dX7_set_98 rfl lg3 ?_
        refine s_iastN (pc' := 100) dX7_set_99 rfl ly48 (by omega) (by decide) ?_
        refine s_iload (pc' := 102) dX7_set_100 rfl lg5 ?_
        refine s_iret dX7_set_102 rfl (vp_nar_int _) ?_
        exact g _ (hM.up (w := 2) (by decide) (by omega)) (fun j hj => upN hj)
  have t3 : what = 3 → Sim z d 0 0 mX7_set 41 [.ref 47, .int 3, .int o, .int v, .float 0, .float 0] [.int 11] (LAY rf tl) mem Q := by
    intro hw
    subst hw
    refine s_istore (pc' := 43) dX7_set_41 rfl (Nat.le_of_ble_eq_true rfl) rfl ls4 ?_
    refine s_iload_n (pc' := 44) dX7_set_43 rfl lg1 ?_
    refine s_iconst (pc' := 45) dX7_set_44 rfl iconst_0 ?_
    refine s_iconst (pc' := 46) dX7_set_45 rfl iconst_4 ?_
    refine c_X7_isIn  (pc' := 49) dX7_set_46 rfl lkX7_86 (by omega) (Nat.le_of_ble_eq_true rfl) ?_
    refine s_if_eq (pc' := 52) (tgt := 72) dX7_set_49 rfl (by decide) (fun c9 => absurd c9 (by decide)) (fun _ => ?_)
    refine s_iload_n (pc' := 53) dX7_set_52 rfl lg3 ?_
    refine s_iconst (pc' := 54) dX7_set_53 rfl iconst_0 ?_
    refine s_iload (pc' := 56) dX7_set_54 rfl lg4 ?_
    refine c_X7_isIn  (pc' := 59) dX7_set_56 rfl lkX7_86 (by omega) (Nat.le_of_ble_eq_true rfl) ?_
    refine s_if_eq (pc' := 62) (tgt := 72) dX7_set_59 rfl (by decide) (fun c1 => ?_) (fun c1 => ?_)
    · skip
      have g := bad (by unfold setB; rw [decide_eq_true (show inB v 0 (am_gre (ix 3)) = 0 from c1)]; simp)
      refine s_bipush (pc' := 74) dX7_set_72 rfl bipush_m2 ?_
      refine s_iret dX7_set_74 rfl (vp_nar_int _) ?_
      exact g
    · skip
      refine s_aload_n (pc' := 63) dX7_set_62 rfl lg0 rfl ?_
      refine s_iload_n (pc' := 64) dX7_set_63 rfl lg1 ?_
      refine s_iload_n (pc' := 65) dX7_set_64 rfl lg2 ?_
      refine c_X7_place_s (w := 3) (pc' := 68) dX7_set_65 rfl lkX7_98 (by omega) (Nat.le_of_ble_eq_true rfl) hn h8 (by decide) (by decide) ?_
      rcases pc_or o (n := n) (by omega) with q | ⟨a, ha, rfl, hq1⟩
      · rw [if_pos q]
        have g := bad (by unfold setB; rw [decide_eq_true q]; simp)
        refine s_iconst (pc' := 69) dX7_set_68 rfl iconst_m1 ?_
        refine s_icmp_ne (pc' := 72) (tgt := 75) dX7_set_69 rfl (by decide) (fun c9 => absurd (by decide) c9) (fun _ => ?_)
        refine s_bipush (pc' := 74) dX7_set_72 rfl bipush_m2 ?_
        refine s_iret dX7_set_74 rfl (vp_nar_int _) ?_
        exact g
      · have hq : ¬ pcB (nI a) (nI n) = 0 := by rw [hq1]; decide
        rw [if_neg hq, ix_nI (by omega)]
        have g := good (by unfold setB; rw [decide_eq_false hq, decide_eq_false (show ¬ inB v 0 (am_gre (ix 3)) = 0 from c1)]; decide)
        rw [if_neg (by decide), if_neg (by decide), if_neg (by decide), show ix 3 = 3 from by decide, ix_nI (by omega)] at g
        refine s_iconst (pc' := 69) dX7_set_68 rfl iconst_m1 ?_
        refine s_icmp_ne (pc' := 72) (tgt := 75) dX7_set_69 rfl (by decide) (fun _ => ?_) (fun c9 => absurd c9 (nI_m1 (by omega)))
        refine s_aload_n (pc' := 76) dX7_set_75 rfl lg0 rfl ?_
        refine s_getRv (pc' := 79) (v := .ref 48) dX7_set_76 rfl flX7_7 ly47 (by decide) rfl rfl ?_
        refine s_aload_n (pc' := 80) dX7_set_79 rfl lg0 rfl ?_
        refine s_iload_n (pc' := 81) dX7_set_80 rfl lg1 ?_
        refine s_iload_n (pc' := 82) dX7_set_81 rfl lg2 ?_
        refine c_X7_place_s (w := 3) (pc' := 85) dX7_set_82 rfl lkX7_98 (by omega) (Nat.le_of_ble_eq_true rfl) hn h8 (by decide) (by decide) ?_
        rw [if_neg hq, ix_nI (by omega)]
        refine s_ialdNv (pc' := 86) (v := σ 3 a) dX7_set_85 rfl ly48 (by omega) (by decide) (hM.2.2.2.2 a ha 3 (by decide)) ?_
        refine s_istore (pc' := 88) dX7_set_86 rfl (Nat.le_of_ble_eq_true rfl) rfl ls5 ?_
        refine s_aload_n (pc' := 89) dX7_set_88 rfl lg0 rfl ?_
        refine s_getRv (pc' := 92) (v := .ref 48) dX7_set_89 rfl flX7_7 ly47 (by decide) rfl rfl ?_
        refine s_aload_n (pc' := 93) dX7_set_92 rfl lg0 rfl ?_
        refine s_iload_n (pc' := 94) dX7_set_93 rfl lg1 ?_
        refine s_iload_n (pc' := 95) dX7_set_94 rfl lg2 ?_
        refine c_X7_place_s (w := 3) (pc' := 98) dX7_set_95 rfl lkX7_98 (by omega) (Nat.le_of_ble_eq_true rfl) hn h8 (by decide) (by decide) ?_
        rw [if_neg hq, ix_nI (by omega)]
        refine s_iload_n (pc' := 99) dX7_set_98 rfl lg3 ?_
        refine s_iastN (pc' := 100) dX7_set_99 rfl ly48 (by omega) (by decide) ?_
        refine s_iload (pc' := 102) dX7_set_100 rfl lg5 ?_
        refine s_iret dX7_set_102 rfl (vp_nar_int _) ?_
        exact g _ (hM.up (w := 3) (by decide) (by omega)) (fun j hj => upN hj)
  have t4 : what = 4 → Sim z d 0 0 mX7_set 41 [.ref 47, .int 4, .int o, .int v, .float 0, .float 0] [.int 1] (LAY rf tl) mem Q := by
    intro hw
    subst hw
    refine s_istore (pc' := 43) dX7_set_41 rfl (Nat.le_of_ble_eq_true rfl) rfl ls4 ?_
    refine s_iload_n (pc' := 44) dX7_set_43 rfl lg1 ?_
    refine s_iconst (pc' := 45) dX7_set_44 rfl iconst_0 ?_
    refine s_iconst (pc' := 46) dX7_set_45 rfl iconst_4 ?_
    refine c_X7_isIn  (pc' := 49) dX7_set_46 rfl lkX7_86 (by omega) (Nat.le_of_ble_eq_true rfl) ?_
    refine s_if_eq (pc' := 52) (tgt := 72) dX7_set_49 rfl (by decide) (fun c9 => absurd c9 (by decide)) (fun _ => ?_)
    refine s_iload_n (pc' := 53) dX7_set_52 rfl lg3 ?_
    refine s_iconst (pc' := 54) dX7_set_53 rfl iconst_0 ?_
    refine s_iload (pc' := 56) dX7_set_54 rfl lg4 ?_
    refine c_X7_isIn  (pc' := 59) dX7_set_56 rfl lkX7_86 (by omega) (Nat.le_of_ble_eq_true rfl) ?_
    refine s_if_eq (pc' := 62) (tgt := 72) dX7_set_59 rfl (by decide) (fun c1 => ?_) (fun c1 => ?_)
    · skip
      have g := bad (by unfold setB; rw [decide_eq_true (show inB v 0 (am_gre (ix 4)) = 0 from c1)]; simp)
      refine s_bipush (pc' := 74) dX7_set_72 rfl bipush_m2 ?_
      refine s_iret dX7_set_74 rfl (vp_nar_int _) ?_
      exact g
    · skip
      refine s_aload_n (pc' := 63) dX7_set_62 rfl lg0 rfl ?_
      refine s_iload_n (pc' := 64) dX7_set_63 rfl lg1 ?_
      refine s_iload_n (pc' := 65) dX7_set_64 rfl lg2 ?_
      refine c_X7_place_s (w := 4) (pc' := 68) dX7_set_65 rfl lkX7_98 (by omega) (Nat.le_of_ble_eq_true rfl) hn h8 (by decide) (by decide) ?_
      rcases pc_or o (n := n) (by omega) with q | ⟨a, ha, rfl, hq1⟩
      · rw [if_pos q]
        have g := bad (by unfold setB; rw [decide_eq_true q]; simp)
        refine s_iconst (pc' := 69) dX7_set_68 rfl iconst_m1 ?_
        refine s_icmp_ne (pc' := 72) (tgt := 75) dX7_set_69 rfl (by decide) (fun c9 => absurd (by decide) c9) (fun _ => ?_)
        refine s_bipush (pc' := 74) dX7_set_72 rfl bipush_m2 ?_
        refine s_iret dX7_set_74 rfl (vp_nar_int _) ?_
        exact g
      · have hq : ¬ pcB (nI a) (nI n) = 0 := by rw [hq1]; decide
        rw [if_neg hq, ix_nI (by omega)]
        have g := good (by unfold setB; rw [decide_eq_false hq, decide_eq_false (show ¬ inB v 0 (am_gre (ix 4)) = 0 from c1)]; decide)
        rw [if_neg (by decide), if_neg (by decide), if_neg (by decide), show ix 4 = 4 from by decide, ix_nI (by omega)] at g
        refine s_iconst (pc' := 69) dX7_set_68 rfl iconst_m1 ?_
        refine s_icmp_ne (pc' := 72) (tgt := 75) dX7_set_69 rfl (by decide) (fun _ => ?_) (fun c9 => absurd c9 (nI_m1 (by omega)))
        refine s_aload_n (pc' := 76) dX7_set_75 rfl lg0 rfl ?_
        refine s_getRv (pc' := 79) (v := .ref 48) dX7_set_76 rfl flX7_7 ly47 (by decide) rfl rfl ?_
        refine s_aload_n (pc' := 80) dX7_set_79 rfl lg0 rfl ?_
        refine s_iload_n (pc' := 81) dX7_set_80 rfl lg1 ?_
        refine s_iload_n (pc' := 82) dX7_set_81 rfl lg2 ?_
        refine c_X7_place_s (w := 4) (pc' := 85) dX7_set_82 rfl lkX7_98 (by omega) (Nat.le_of_ble_eq_true rfl) hn h8 (by decide) (by decide) ?_
        rw [if_neg hq, ix_nI (by omega)]
        refine s_ialdNv (pc' := 86) (v := σ 4 a) dX7_set_85 rfl ly48 (by omega) (by decide) (hM.2.2.2.2 a ha 4 (by decide)) ?_
        refine s_istore (pc' := 88) dX7_set_86 rfl (Nat.le_of_ble_eq_true rfl) rfl ls5 ?_
        refine s_aload_n (pc' := 89) dX7_set_88 rfl lg0 rfl ?_
        refine s_getRv (pc' := 92) (v := .ref 48) dX7_set_89 rfl flX7_7 ly47 (by decide) rfl rfl ?_
        refine s_aload_n (pc' := 93) dX7_set_92 rfl lg0 rfl ?_
        refine s_iload_n (pc' := 94) dX7_set_93 rfl lg1 ?_
        refine s_iload_n (pc' := 95) dX7_set_94 rfl lg2 ?_
        refine c_X7_place_s (w := 4) (pc' := 98) dX7_set_95 rfl lkX7_98 (by omega) (Nat.le_of_ble_eq_true rfl) hn h8 (by decide) (by decide) ?_
        rw [if_neg hq, ix_nI (by omega)]
        refine s_iload_n (pc' := 99) dX7_set_98 rfl lg3 ?_
        refine s_iastN (pc' := 100) dX7_set_99 rfl ly48 (by omega) (by decide) ?_
        refine s_iload (pc' := 102) dX7_set_100 rfl lg5 ?_
        refine s_iret dX7_set_102 rfl (vp_nar_int _) ?_
        exact g _ (hM.up (w := 4) (by decide) (by omega)) (fun j hj => upN hj)
  have t0 : what = 0 → Sim z d 0 0 mX7_set 41 [.ref 47, .int 0, .int o, .int v, .float 0, .float 0] [.int 999] (LAY rf tl) mem Q := by
    intro hw
    subst hw
    refine s_istore (pc' := 43) dX7_set_41 rfl (Nat.le_of_ble_eq_true rfl) rfl ls4 ?_
    refine s_iload_n (pc' := 44) dX7_set_43 rfl lg1 ?_
    refine s_iconst (pc' := 45) dX7_set_44 rfl iconst_0 ?_
    refine s_iconst (pc' := 46) dX7_set_45 rfl iconst_4 ?_
    refine c_X7_isIn  (pc' := 49) dX7_set_46 rfl lkX7_86 (by omega) (Nat.le_of_ble_eq_true rfl) ?_
    refine s_if_eq (pc' := 52) (tgt := 72) dX7_set_49 rfl (by decide) (fun c9 => absurd c9 (by decide)) (fun _ => ?_)
    refine s_iload_n (pc' := 53) dX7_set_52 rfl lg3 ?_
    refine s_iconst (pc' := 54) dX7_set_53 rfl iconst_0 ?_
    refine s_iload (pc' := 56) dX7_set_54 rfl lg4 ?_
    refine c_X7_isIn  (pc' := 59) dX7_set_56 rfl lkX7_86 (by omega) (Nat.le_of_ble_eq_true rfl) ?_
    refine s_if_eq (pc' := 62) (tgt := 72) dX7_set_59 rfl (by decide) (fun c1 => ?_) (fun c1 => ?_)
    · skip
      have g := bad (by unfold setB; rw [decide_eq_true (show inB v 0 (am_gre (ix 0)) = 0 from c1)]; simp)
      refine s_bipush (pc' := 74) dX7_set_72 rfl bipush_m2 ?_
      refine s_iret dX7_set_74 rfl (vp_nar_int _) ?_
      exact g
    · skip
      have g := good (by unfold setB; rw [decide_eq_false (show ¬ inB v 0 (am_gre (ix 0)) = 0 from c1), show decide ((0 : Int32) = 0) = true from rfl, Bool.true_or]; decide)
      rw [if_pos rfl, if_pos rfl, if_pos rfl] at g
      refine s_aload_n (pc' := 63) dX7_set_62 rfl lg0 rfl ?_
      refine s_iload_n (pc' := 64) dX7_set_63 rfl lg1 ?_
      refine s_iload_n (pc' := 65) dX7_set_64 rfl lg2 ?_
      refine c_X7_place_0 (pc' := 68) dX7_set_65 rfl lkX7_98 (by omega) (Nat.le_of_ble_eq_true rfl) ?_
      refine s_iconst (pc' := 69) dX7_set_68 rfl iconst_m1 ?_
      refine s_icmp_ne (pc' := 72) (tgt := 75) dX7_set_69 rfl (by decide) (fun _ => ?_) (fun c9 => absurd c9 (by decide))
      refine s_aload_n (pc' := 76) dX7_set_75 rfl lg0 rfl ?_
      refine s_getRv (pc' := 79) (v := .ref 48) dX7_set_76 rfl flX7_7 ly47 (by decide) rfl rfl ?_
      refine s_aload_n (pc' := 80) dX7_set_79 rfl lg0 rfl ?_
      refine s_iload_n (pc' := 81) dX7_set_80 rfl lg1 ?_
      refine s_iload_n (pc' := 82) dX7_set_81 rfl lg2 ?_
      refine c_X7_place_0 (pc' := 85) dX7_set_82 rfl lkX7_98 (by omega) (Nat.le_of_ble_eq_true rfl) ?_
      refine s_ialdNv (pc' := 86) (k := 41) (v := td) dX7_set_85 rfl ly48 (by decide) (by decide) hM.2.2.1 ?_
      refine s_istore (pc' := 88) dX7_set_86 rfl (Nat.le_of_ble_eq_true rfl) rfl ls5 ?_
      refine s_aload_n (pc' := 89) dX7_set_88 rfl lg0 rfl ?_
      refine s_getRv (pc' := 92) (v := .ref 48) dX7_set_89 rfl flX7_7 ly47 (by decide) rfl rfl ?_
      refine s_aload_n (pc' := 93) dX7_set_92 rfl lg0 rfl ?_
      refine s_iload_n (pc' := 94) dX7_set_93 rfl lg1 ?_
      refine s_iload_n (pc' := 95) dX7_set_94 rfl lg2 ?_
      refine c_X7_place_0 (pc' := 98) dX7_set_95 rfl lkX7_98 (by omega) (Nat.le_of_ble_eq_true rfl) ?_
      refine s_iload_n (pc' := 99) dX7_set_98 rfl lg3 ?_
      refine s_iastN (pc' := 100) (k := 41) dX7_set_99 rfl ly48 (by decide) (by decide) ?_
      refine s_iload (pc' := 102) dX7_set_100 rfl lg5 ?_
      refine s_iret dX7_set_102 rfl (vp_nar_int _) ?_
      refine g _ ?_ (fun j hj => upN hj)
      obtain ⟨h1, h2, h3, h4, h5⟩ := hM
      exact ⟨by rw [upE, udN (by decide)]; exact h1, h2, by rw [upE, udE], by rw [upE, udN (by decide)]; exact h4, fun i hi w hw => by rw [upE, udN (by omega)]; exact h5 i hi w hw⟩
  refine s_iload_n (pc' := 1) dX7_set_0 rfl lg1 ?_
  refine s_if_ne (pc' := 4) (tgt := 10) dX7_set_1 rfl (by decide) (fun d0 => ?_) (fun d0 => ?_)
  · skip
    refine s_iload_n (pc' := 11) dX7_set_10 rfl lg1 ?_
    refine s_iconst (pc' := 12) dX7_set_11 rfl iconst_1 ?_
    refine s_icmp_ne (pc' := 15) (tgt := 20) dX7_set_12 rfl (by decide) (fun d1 => ?_) (fun d1 => ?_)
    · skip
      refine s_iload_n (pc' := 21) dX7_set_20 rfl lg1 ?_
      refine s_iconst (pc' := 22) dX7_set_21 rfl iconst_2 ?_
      refine s_icmp_ne (pc' := 25) (tgt := 30) dX7_set_22 rfl (by decide) (fun d2 => ?_) (fun d2 => ?_)
      · skip
        refine s_iload_n (pc' := 31) dX7_set_30 rfl lg1 ?_
        refine s_iconst (pc' := 32) dX7_set_31 rfl iconst_3 ?_
        refine s_icmp_ne (pc' := 35) (tgt := 40) dX7_set_32 rfl (by decide) (fun d3 => ?_) (fun d3 => ?_)
        · skip
          refine s_iconst (pc' := 41) dX7_set_40 rfl iconst_1 ?_
          rcases in_or what (lo := 0) (hi := 4) rfl (m := 4) rfl (by omega) with q | ⟨k, hk, rfl, -⟩
          · have g := bad (by unfold setB; rw [decide_eq_true q]; rfl)
            refine s_istore (pc' := 43) dX7_set_41 rfl (Nat.le_of_ble_eq_true rfl) rfl ls4 ?_
            refine s_iload_n (pc' := 44) dX7_set_43 rfl lg1 ?_
            refine s_iconst (pc' := 45) dX7_set_44 rfl iconst_0 ?_
            refine s_iconst (pc' := 46) dX7_set_45 rfl iconst_4 ?_
            refine c_X7_isIn  (pc' := 49) dX7_set_46 rfl lkX7_86 (by omega) (Nat.le_of_ble_eq_true rfl) ?_
            refine s_if_eq (pc' := 52) (tgt := 72) dX7_set_49 rfl (by decide) (fun _ => ?_) (fun c9 => absurd (q) c9)
            refine s_bipush (pc' := 74) dX7_set_72 rfl bipush_m2 ?_
            refine s_iret dX7_set_74 rfl (vp_nar_int _) ?_
            exact g
          · have k5 : k = 0 ∨ k = 1 ∨ k = 2 ∨ k = 3 ∨ k = 4 := by omega
            rcases k5 with rfl | rfl | rfl | rfl | rfl
            · exact absurd nI_0 d0
            · exact absurd (show nI 1 = 1 from by decide) d1
            · exact absurd (show nI 2 = 2 from by decide) d2
            · exact absurd (show nI 3 = 3 from by decide) d3
            · exact t4 (by decide)
        · skip
          rw [d3]
          refine s_bipush (pc' := 37) dX7_set_35 rfl bipush_11 ?_
          refine s_goto (tgt := 41) dX7_set_37 (by decide) ?_
          exact t3 d3
      · skip
        rw [d2]
        refine s_bipush (pc' := 27) dX7_set_25 rfl bipush_99 ?_
        refine s_goto (tgt := 41) dX7_set_27 (by decide) ?_
        exact t2 d2
    · skip
      rw [d1]
      refine s_bipush (pc' := 17) dX7_set_15 rfl bipush_9 ?_
      refine s_goto (tgt := 41) dX7_set_17 (by decide) ?_
      exact t1 d1
  · skip
    rw [d0]
    refine s_sipush (pc' := 7) dX7_set_4 rfl sipush_999 ?_
    refine s_goto (tgt := 41) dX7_set_7 (by decide) ?_
    exact t0 d0
theorem c_X7_set {z : Zz} {d kc ks : Nat} {mi : MI} {pc pc' : Nat} {L S : List Value} {Q : Option Value → Lay → Mem → Prop} {rf : Nat → Value} {tl : Lay} {mem : Mem}  {n : Nat} {σ : Nat → Nat → Int32} {td ru what o v : Int32} {idx : Nat} (hd : decode mi.2.1 pc = .ok (.invokevirtual idx, 3)) (hp : pc + 3 = pc') (hlk : Cond.methodLink mi.1.cls idx yX7_set ∈ wok) (hdd : 3 + 1 ≤ d) (hcat : (S.map (fun v => v.category)).sum ≤ 8) (hM : isM 48 mem σ n td ru) (K : ∀ mem', isM 48 mem' (setS σ n what o v) n (setT n td what o v) ru → (∀ j, j ≠ 48 → mem' j = mem j) → Sim z d kc ks mi pc' L (.int (setR σ n td what o v) :: S) (LAY rf tl) mem' Q) : Sim z d kc ks mi pc L (.int v :: .int o :: .int what :: .ref 47 :: S) (LAY rf tl) mem Q :=
  s_invV (d2 := 3) hd hp okX7_set hlk inX7_set seX7_set hdd (Nat.zero_add _) (Nat.zero_add _) rfl rfl ly47 rfl hcat (Nat.le_of_ble_eq_true rfl) (m_X7_set (Nat.le_refl _) hM K)

