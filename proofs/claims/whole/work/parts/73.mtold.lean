/-! ===== the Model: told ===== -/
theorem in08_no {v : Int32} (h : inB v 0 8 = 0) : inB v 0 7 = 0 ∧ inB v 1 7 = 0 ∧ (¬ v = 0) ∧ ¬ v = 8 := by
  have e0 : (0 : Int32).toInt = 0 := by decide
  have e1 : (1 : Int32).toInt = 1 := by decide
  have e7 : (7 : Int32).toInt = 7 := by decide
  have e8 : (8 : Int32).toInt = 8 := by decide
  have hv : v < 0 ∨ 8 < v := by
    unfold inB at h
    by_cases h1 : v < 0
    · exact Or.inl h1
    · rw [if_neg h1] at h
      by_cases h2 : 8 < v
      · exact Or.inr h2
      · rw [if_neg h2] at h; exact absurd h (by decide)
  rw [Int32.lt_iff_toInt_lt, Int32.lt_iff_toInt_lt, e0, e8] at hv
  have n0 : ¬ v = 0 := fun q => by rw [q, e0] at hv; omega
  have n8 : ¬ v = 8 := fun q => by rw [q, e8] at hv; omega
  refine ⟨?_, ?_, n0, n8⟩
  · unfold inB
    rcases hv with q | q
    · rw [if_pos (by rw [Int32.lt_iff_toInt_lt, e0]; exact q)]
    · rw [if_pos (show (7 : Int32) < v by rw [Int32.lt_iff_toInt_lt, e7]; omega)]; split <;> rfl
  · unfold inB
    rcases hv with q | q
    · rw [if_pos (by rw [Int32.lt_iff_toInt_lt, e1]; omega)]
    · rw [if_pos (show (7 : Int32) < v by rw [Int32.lt_iff_toInt_lt, e7]; omega)]; split <;> rfl
set_option maxHeartbeats 4000000 in
theorem m_X7_told {z : Zz} {d : Nat} {Q : Option Value → Lay → Mem → Prop} {rf : Nat → Value} {tl : Lay} {mem : Mem}  {n w nt : Nat} {σ : Nat → Nat → Int32} {td o what : Int32} {T : Nat → Nat → List Int32} (hdd : 5 ≤ d) (hM : isM 48 mem σ n td (nI w)) (hT : isTM mem nt T) (hw : w < nt) (K : ∀ mem', rwf mem mem' → Q (some (.int (tolR σ n td (T w) o what))) (LAY rf tl) mem') : Sim z d 0 0 mX7_told 0 [.ref 47, .int o, .int what] [] (LAY rf tl) mem Q := by
  have h8 := hM.2.1
  have hn := hM.1
  unfold tolR at K
  have t1 : what = 1 → Sim z d 0 0 mX7_told 27 [.ref 47, .int o, .int 1] [] (LAY rf tl) mem Q := by
    intro hw0
    rw [hw0, if_neg (by decide), if_neg (by decide), if_neg (by decide)] at K
    refine s_iload_n (pc' := 28) dX7_told_27 rfl lg2 ?_
    refine s_iconst (pc' := 29) dX7_told_28 rfl iconst_0 ?_
    refine s_bipush (pc' := 31) dX7_told_29 rfl bipush_7 ?_
    refine c_X7_isIn  (pc' := 34) dX7_told_31 rfl lkX7_86 (by omega) (Nat.le_of_ble_eq_true rfl) ?_
    refine s_if_eq (pc' := 37) (tgt := 49) dX7_told_34 rfl (by decide) (fun c9 => absurd c9 (by decide)) (fun _ => ?_)
    refine s_iload_n (pc' := 38) dX7_told_37 rfl lg2 ?_
    refine s_if_le (pc' := 41) (tgt := 52) dX7_told_38 rfl (by decide) (fun c9 => absurd c9 (by decide)) (fun _ => ?_)
    refine s_aload_n (pc' := 42) dX7_told_41 rfl lg0 rfl ?_
    refine s_iload_n (pc' := 43) dX7_told_42 rfl lg1 ?_
    refine c_X7_isPiece  (pc' := 46) dX7_told_43 rfl lkX7_94 (by omega) (Nat.le_of_ble_eq_true rfl) hn h8 ?_
    rcases pc_or o (n := n) (by omega) with q | ⟨a, ha, rfl, q⟩
    · rw [if_pos q] at K
      rw [q]
      refine s_if_ne (pc' := 49) (tgt := 52) dX7_told_46 rfl (by decide) (fun c9 => absurd (rfl) c9) (fun _ => ?_)
      refine s_bipush (pc' := 51) dX7_told_49 rfl bipush_m2 ?_
      refine s_iret dX7_told_51 rfl (vp_nar_int _) ?_
      exact K mem rwf.rf
    · have q' : ¬ pcB (nI a) (nI n) = 0 := by rw [q]; decide
      rw [if_neg q'] at K
      rw [q]
      refine s_if_ne (pc' := 49) (tgt := 52) dX7_told_46 rfl (by decide) (fun _ => ?_) (fun c9 => absurd c9 (by decide))
      refine s_iload_n (pc' := 53) dX7_told_52 rfl lg2 ?_
      refine s_iconst (pc' := 54) dX7_told_53 rfl iconst_5 ?_
      refine s_icmp_ge (pc' := 57) (tgt := 71) dX7_told_54 rfl (by decide) (fun c9 => absurd c9 (by decide)) (fun _ => ?_)
      refine s_aload_n (pc' := 58) dX7_told_57 rfl lg0 rfl ?_
      refine s_getRv (pc' := 61) (v := .ref 48) dX7_told_58 rfl flX7_7 ly47 (by decide) rfl rfl ?_
      refine s_aload_n (pc' := 62) dX7_told_61 rfl lg0 rfl ?_
      refine s_iload_n (pc' := 63) dX7_told_62 rfl lg2 ?_
      refine s_iload_n (pc' := 64) dX7_told_63 rfl lg1 ?_
      refine c_X7_place_s (w := 1) (pc' := 67) dX7_told_64 rfl lkX7_98 (by omega) (Nat.le_of_ble_eq_true rfl) hn h8 (by decide) (by decide) ?_
      rw [if_neg q', ix_nI (by omega)]
      rw [ix_nI (by omega), if_neg (by decide), if_neg (by decide), if_neg (by decide), show ix 1 = 1 from by decide] at K
      refine s_ialdNv (pc' := 68) (v := σ 1 a) dX7_told_67 rfl ly48 (by omega) (by decide) (hM.2.2.2.2 a ha 1 (by decide)) ?_
      refine s_goto (tgt := 104) dX7_told_68 (by decide) ?_
      refine s_iret dX7_told_104 rfl (vp_nar_int _) ?_
      exact K mem rwf.rf
  have t2 : what = 2 → Sim z d 0 0 mX7_told 27 [.ref 47, .int o, .int 2] [] (LAY rf tl) mem Q := by
    intro hw0
    rw [hw0, if_neg (by decide), if_neg (by decide), if_neg (by decide)] at K
    refine s_iload_n (pc' := 28) dX7_told_27 rfl lg2 ?_
    refine s_iconst (pc' := 29) dX7_told_28 rfl iconst_0 ?_
    refine s_bipush (pc' := 31) dX7_told_29 rfl bipush_7 ?_
    refine c_X7_isIn  (pc' := 34) dX7_told_31 rfl lkX7_86 (by omega) (Nat.le_of_ble_eq_true rfl) ?_
    refine s_if_eq (pc' := 37) (tgt := 49) dX7_told_34 rfl (by decide) (fun c9 => absurd c9 (by decide)) (fun _ => ?_)
    refine s_iload_n (pc' := 38) dX7_told_37 rfl lg2 ?_
    refine s_if_le (pc' := 41) (tgt := 52) dX7_told_38 rfl (by decide) (fun c9 => absurd c9 (by decide)) (fun _ => ?_)
    refine s_aload_n (pc' := 42) dX7_told_41 rfl lg0 rfl ?_
    refine s_iload_n (pc' := 43) dX7_told_42 rfl lg1 ?_
    refine c_X7_isPiece  (pc' := 46) dX7_told_43 rfl lkX7_94 (by omega) (Nat.le_of_ble_eq_true rfl) hn h8 ?_
    rcases pc_or o (n := n) (by omega) with q | ⟨a, ha, rfl, q⟩
    · rw [if_pos q] at K
      rw [q]
      refine s_if_ne (pc' := 49) (tgt := 52) dX7_told_46 rfl (by decide) (fun c9 => absurd (rfl) c9) (fun _ => ?_)
      refine s_bipush (pc' := 51) dX7_told_49 rfl bipush_m2 ?_
      refine s_iret dX7_told_51 rfl (vp_nar_int _) ?_
      exact K mem rwf.rf
    · have q' : ¬ pcB (nI a) (nI n) = 0 := by rw [q]; decide
      rw [if_neg q'] at K
      rw [q]
      refine s_if_ne (pc' := 49) (tgt := 52) dX7_told_46 rfl (by decide) (fun _ => ?_) (fun c9 => absurd c9 (by decide))
      refine s_iload_n (pc' := 53) dX7_told_52 rfl lg2 ?_
      refine s_iconst (pc' := 54) dX7_told_53 rfl iconst_5 ?_
      refine s_icmp_ge (pc' := 57) (tgt := 71) dX7_told_54 rfl (by decide) (fun c9 => absurd c9 (by decide)) (fun _ => ?_)
      refine s_aload_n (pc' := 58) dX7_told_57 rfl lg0 rfl ?_
      refine s_getRv (pc' := 61) (v := .ref 48) dX7_told_58 rfl flX7_7 ly47 (by decide) rfl rfl ?_
      refine s_aload_n (pc' := 62) dX7_told_61 rfl lg0 rfl ?_
      refine s_iload_n (pc' := 63) dX7_told_62 rfl lg2 ?_
      refine s_iload_n (pc' := 64) dX7_told_63 rfl lg1 ?_
      refine c_X7_place_s (w := 2) (pc' := 67) dX7_told_64 rfl lkX7_98 (by omega) (Nat.le_of_ble_eq_true rfl) hn h8 (by decide) (by decide) ?_
      rw [if_neg q', ix_nI (by omega)]
      rw [ix_nI (by omega), if_neg (by decide), if_neg (by decide), if_neg (by decide), show ix 2 = 2 from by decide] at K
      refine s_ialdNv (pc' := 68) (v := σ 2 a) dX7_told_67 rfl ly48 (by omega) (by decide) (hM.2.2.2.2 a ha 2 (by decide)) ?_
      refine s_goto (tgt := 104) dX7_told_68 (by decide) ?_
      refine s_iret dX7_told_104 rfl (vp_nar_int _) ?_
      exact K mem rwf.rf
  have t3 : what = 3 → Sim z d 0 0 mX7_told 27 [.ref 47, .int o, .int 3] [] (LAY rf tl) mem Q := by
    intro hw0
    rw [hw0, if_neg (by decide), if_neg (by decide), if_neg (by decide)] at K
    refine s_iload_n (pc' := 28) dX7_told_27 rfl lg2 ?_
    refine s_iconst (pc' := 29) dX7_told_28 rfl iconst_0 ?_
    refine s_bipush (pc' := 31) dX7_told_29 rfl bipush_7 ?_
    refine c_X7_isIn  (pc' := 34) dX7_told_31 rfl lkX7_86 (by omega) (Nat.le_of_ble_eq_true rfl) ?_
    refine s_if_eq (pc' := 37) (tgt := 49) dX7_told_34 rfl (by decide) (fun c9 => absurd c9 (by decide)) (fun _ => ?_)
    refine s_iload_n (pc' := 38) dX7_told_37 rfl lg2 ?_
    refine s_if_le (pc' := 41) (tgt := 52) dX7_told_38 rfl (by decide) (fun c9 => absurd c9 (by decide)) (fun _ => ?_)
    refine s_aload_n (pc' := 42) dX7_told_41 rfl lg0 rfl ?_
    refine s_iload_n (pc' := 43) dX7_told_42 rfl lg1 ?_
    refine c_X7_isPiece  (pc' := 46) dX7_told_43 rfl lkX7_94 (by omega) (Nat.le_of_ble_eq_true rfl) hn h8 ?_
    rcases pc_or o (n := n) (by omega) with q | ⟨a, ha, rfl, q⟩
    · rw [if_pos q] at K
      rw [q]
      refine s_if_ne (pc' := 49) (tgt := 52) dX7_told_46 rfl (by decide) (fun c9 => absurd (rfl) c9) (fun _ => ?_)
      refine s_bipush (pc' := 51) dX7_told_49 rfl bipush_m2 ?_
      refine s_iret dX7_told_51 rfl (vp_nar_int _) ?_
      exact K mem rwf.rf
    · have q' : ¬ pcB (nI a) (nI n) = 0 := by rw [q]; decide
      rw [if_neg q'] at K
      rw [q]
      refine s_if_ne (pc' := 49) (tgt := 52) dX7_told_46 rfl (by decide) (fun _ => ?_) (fun c9 => absurd c9 (by decide))
      refine s_iload_n (pc' := 53) dX7_told_52 rfl lg2 ?_
      refine s_iconst (pc' := 54) dX7_told_53 rfl iconst_5 ?_
      refine s_icmp_ge (pc' := 57) (tgt := 71) dX7_told_54 rfl (by decide) (fun c9 => absurd c9 (by decide)) (fun _ => ?_)
      refine s_aload_n (pc' := 58) dX7_told_57 rfl lg0 rfl ?_
      refine s_getRv (pc' := 61) (v := .ref 48) dX7_told_58 rfl flX7_7 ly47 (by decide) rfl rfl ?_
      refine s_aload_n (pc' := 62) dX7_told_61 rfl lg0 rfl ?_
      refine s_iload_n (pc' := 63) dX7_told_62 rfl lg2 ?_
      refine s_iload_n (pc' := 64) dX7_told_63 rfl lg1 ?_
      refine c_X7_place_s (w := 3) (pc' := 67) dX7_told_64 rfl lkX7_98 (by omega) (Nat.le_of_ble_eq_true rfl) hn h8 (by decide) (by decide) ?_
      rw [if_neg q', ix_nI (by omega)]
      rw [ix_nI (by omega), if_neg (by decide), if_neg (by decide), if_neg (by decide), show ix 3 = 3 from by decide] at K
      refine s_ialdNv (pc' := 68) (v := σ 3 a) dX7_told_67 rfl ly48 (by omega) (by decide) (hM.2.2.2.2 a ha 3 (by decide)) ?_
      refine s_goto (tgt := 104) dX7_told_68 (by decide) ?_
      refine s_iret dX7_told_104 rfl (vp_nar_int _) ?_
      exact K mem rwf.rf
  have t4 : what = 4 → Sim z d 0 0 mX7_told 27 [.ref 47, .int o, .int 4] [] (LAY rf tl) mem Q := by
    intro hw0
    rw [hw0, if_neg (by decide), if_neg (by decide), if_neg (by decide)] at K
    refine s_iload_n (pc' := 28) dX7_told_27 rfl lg2 ?_
    refine s_iconst (pc' := 29) dX7_told_28 rfl iconst_0 ?_
    refine s_bipush (pc' := 31) dX7_told_29 rfl bipush_7 ?_
    refine c_X7_isIn  (pc' := 34) dX7_told_31 rfl lkX7_86 (by omega) (Nat.le_of_ble_eq_true rfl) ?_
    refine s_if_eq (pc' := 37) (tgt := 49) dX7_told_34 rfl (by decide) (fun c9 => absurd c9 (by decide)) (fun _ => ?_)
    refine s_iload_n (pc' := 38) dX7_told_37 rfl lg2 ?_
    refine s_if_le (pc' := 41) (tgt := 52) dX7_told_38 rfl (by decide) (fun c9 => absurd c9 (by decide)) (fun _ => ?_)
    refine s_aload_n (pc' := 42) dX7_told_41 rfl lg0 rfl ?_
    refine s_iload_n (pc' := 43) dX7_told_42 rfl lg1 ?_
    refine c_X7_isPiece  (pc' := 46) dX7_told_43 rfl lkX7_94 (by omega) (Nat.le_of_ble_eq_true rfl) hn h8 ?_
    rcases pc_or o (n := n) (by omega) with q | ⟨a, ha, rfl, q⟩
    · rw [if_pos q] at K
      rw [q]
      refine s_if_ne (pc' := 49) (tgt := 52) dX7_told_46 rfl (by decide) (fun c9 => absurd (rfl) c9) (fun _ => ?_)
      refine s_bipush (pc' := 51) dX7_told_49 rfl bipush_m2 ?_
      refine s_iret dX7_told_51 rfl (vp_nar_int _) ?_
      exact K mem rwf.rf
    · have q' : ¬ pcB (nI a) (nI n) = 0 := by rw [q]; decide
      rw [if_neg q'] at K
      rw [q]
      refine s_if_ne (pc' := 49) (tgt := 52) dX7_told_46 rfl (by decide) (fun _ => ?_) (fun c9 => absurd c9 (by decide))
      refine s_iload_n (pc' := 53) dX7_told_52 rfl lg2 ?_
      refine s_iconst (pc' := 54) dX7_told_53 rfl iconst_5 ?_
      refine s_icmp_ge (pc' := 57) (tgt := 71) dX7_told_54 rfl (by decide) (fun c9 => absurd c9 (by decide)) (fun _ => ?_)
      refine s_aload_n (pc' := 58) dX7_told_57 rfl lg0 rfl ?_
      refine s_getRv (pc' := 61) (v := .ref 48) dX7_told_58 rfl flX7_7 ly47 (by decide) rfl rfl ?_
      refine s_aload_n (pc' := 62) dX7_told_61 rfl lg0 rfl ?_
      refine s_iload_n (pc' := 63) dX7_told_62 rfl lg2 ?_
      refine s_iload_n (pc' := 64) dX7_told_63 rfl lg1 ?_
      refine c_X7_place_s (w := 4) (pc' := 67) dX7_told_64 rfl lkX7_98 (by omega) (Nat.le_of_ble_eq_true rfl) hn h8 (by decide) (by decide) ?_
      rw [if_neg q', ix_nI (by omega)]
      rw [ix_nI (by omega), if_neg (by decide), if_neg (by decide), if_neg (by decide), show ix 4 = 4 from by decide] at K
      refine s_ialdNv (pc' := 68) (v := σ 4 a) dX7_told_67 rfl ly48 (by omega) (by decide) (hM.2.2.2.2 a ha 4 (by decide)) ?_
      refine s_goto (tgt := 104) dX7_told_68 (by decide) ?_
      refine s_iret dX7_told_104 rfl (vp_nar_int _) ?_
      exact K mem rwf.rf
  have t5 : what = 5 → Sim z d 0 0 mX7_told 27 [.ref 47, .int o, .int 5] [] (LAY rf tl) mem Q := by
    intro hw0
    rw [hw0, if_neg (by decide), if_neg (by decide), if_neg (by decide)] at K
    refine s_iload_n (pc' := 28) dX7_told_27 rfl lg2 ?_
    refine s_iconst (pc' := 29) dX7_told_28 rfl iconst_0 ?_
    refine s_bipush (pc' := 31) dX7_told_29 rfl bipush_7 ?_
    refine c_X7_isIn  (pc' := 34) dX7_told_31 rfl lkX7_86 (by omega) (Nat.le_of_ble_eq_true rfl) ?_
    refine s_if_eq (pc' := 37) (tgt := 49) dX7_told_34 rfl (by decide) (fun c9 => absurd c9 (by decide)) (fun _ => ?_)
    refine s_iload_n (pc' := 38) dX7_told_37 rfl lg2 ?_
    refine s_if_le (pc' := 41) (tgt := 52) dX7_told_38 rfl (by decide) (fun c9 => absurd c9 (by decide)) (fun _ => ?_)
    refine s_aload_n (pc' := 42) dX7_told_41 rfl lg0 rfl ?_
    refine s_iload_n (pc' := 43) dX7_told_42 rfl lg1 ?_
    refine c_X7_isPiece  (pc' := 46) dX7_told_43 rfl lkX7_94 (by omega) (Nat.le_of_ble_eq_true rfl) hn h8 ?_
    rcases pc_or o (n := n) (by omega) with q | ⟨a, ha, rfl, q⟩
    · rw [if_pos q] at K
      rw [q]
      refine s_if_ne (pc' := 49) (tgt := 52) dX7_told_46 rfl (by decide) (fun c9 => absurd (rfl) c9) (fun _ => ?_)
      refine s_bipush (pc' := 51) dX7_told_49 rfl bipush_m2 ?_
      refine s_iret dX7_told_51 rfl (vp_nar_int _) ?_
      exact K mem rwf.rf
    · have q' : ¬ pcB (nI a) (nI n) = 0 := by rw [q]; decide
      rw [if_neg q'] at K
      rw [q]
      refine s_if_ne (pc' := 49) (tgt := 52) dX7_told_46 rfl (by decide) (fun _ => ?_) (fun c9 => absurd c9 (by decide))
      refine s_iload_n (pc' := 53) dX7_told_52 rfl lg2 ?_
      refine s_iconst (pc' := 54) dX7_told_53 rfl iconst_5 ?_
      refine s_icmp_ge (pc' := 57) (tgt := 71) dX7_told_54 rfl (by decide) (fun _ => ?_) (fun c9 => absurd (by decide) c9)
      refine s_iload_n (pc' := 72) dX7_told_71 rfl lg2 ?_
      refine s_iconst (pc' := 73) dX7_told_72 rfl iconst_5 ?_
      refine s_icmp_ne (pc' := 76) (tgt := 85) dX7_told_73 rfl (by decide) (fun c9 => absurd (by decide) c9) (fun _ => ?_)
      rw [ix_nI (by omega), if_neg (by decide), if_neg (by decide), if_pos rfl] at K
      refine s_aload_n (pc' := 77) dX7_told_76 rfl lg0 rfl ?_
      refine s_iload_n (pc' := 78) dX7_told_77 rfl lg1 ?_
      refine s_iconst (pc' := 79) dX7_told_78 rfl iconst_0 ?_
      refine c_X7_of_0  (pc' := 82) dX7_told_79 rfl lkX7_108 (by omega) (Nat.le_of_ble_eq_true rfl) hM ha ?_
      refine s_goto (tgt := 104) dX7_told_82 (by decide) ?_
      refine s_iret dX7_told_104 rfl (vp_nar_int _) ?_
      exact K mem rwf.rf
  have t6 : what = 6 → Sim z d 0 0 mX7_told 27 [.ref 47, .int o, .int 6] [] (LAY rf tl) mem Q := by
    intro hw0
    rw [hw0, if_neg (by decide), if_neg (by decide), if_neg (by decide)] at K
    refine s_iload_n (pc' := 28) dX7_told_27 rfl lg2 ?_
    refine s_iconst (pc' := 29) dX7_told_28 rfl iconst_0 ?_
    refine s_bipush (pc' := 31) dX7_told_29 rfl bipush_7 ?_
    refine c_X7_isIn  (pc' := 34) dX7_told_31 rfl lkX7_86 (by omega) (Nat.le_of_ble_eq_true rfl) ?_
    refine s_if_eq (pc' := 37) (tgt := 49) dX7_told_34 rfl (by decide) (fun c9 => absurd c9 (by decide)) (fun _ => ?_)
    refine s_iload_n (pc' := 38) dX7_told_37 rfl lg2 ?_
    refine s_if_le (pc' := 41) (tgt := 52) dX7_told_38 rfl (by decide) (fun c9 => absurd c9 (by decide)) (fun _ => ?_)
    refine s_aload_n (pc' := 42) dX7_told_41 rfl lg0 rfl ?_
    refine s_iload_n (pc' := 43) dX7_told_42 rfl lg1 ?_
    refine c_X7_isPiece  (pc' := 46) dX7_told_43 rfl lkX7_94 (by omega) (Nat.le_of_ble_eq_true rfl) hn h8 ?_
    rcases pc_or o (n := n) (by omega) with q | ⟨a, ha, rfl, q⟩
    · rw [if_pos q] at K
      rw [q]
      refine s_if_ne (pc' := 49) (tgt := 52) dX7_told_46 rfl (by decide) (fun c9 => absurd (rfl) c9) (fun _ => ?_)
      refine s_bipush (pc' := 51) dX7_told_49 rfl bipush_m2 ?_
      refine s_iret dX7_told_51 rfl (vp_nar_int _) ?_
      exact K mem rwf.rf
    · have q' : ¬ pcB (nI a) (nI n) = 0 := by rw [q]; decide
      rw [if_neg q'] at K
      rw [q]
      refine s_if_ne (pc' := 49) (tgt := 52) dX7_told_46 rfl (by decide) (fun _ => ?_) (fun c9 => absurd c9 (by decide))
      refine s_iload_n (pc' := 53) dX7_told_52 rfl lg2 ?_
      refine s_iconst (pc' := 54) dX7_told_53 rfl iconst_5 ?_
      refine s_icmp_ge (pc' := 57) (tgt := 71) dX7_told_54 rfl (by decide) (fun _ => ?_) (fun c9 => absurd (by decide) c9)
      refine s_iload_n (pc' := 72) dX7_told_71 rfl lg2 ?_
      refine s_iconst (pc' := 73) dX7_told_72 rfl iconst_5 ?_
      refine s_icmp_ne (pc' := 76) (tgt := 85) dX7_told_73 rfl (by decide) (fun _ => ?_) (fun c9 => absurd c9 (by decide))
      refine s_iload_n (pc' := 86) dX7_told_85 rfl lg2 ?_
      refine s_bipush (pc' := 88) dX7_told_86 rfl bipush_6 ?_
      refine s_icmp_ne (pc' := 91) (tgt := 99) dX7_told_88 rfl (by decide) (fun c9 => absurd (by decide) c9) (fun _ => ?_)
      rw [ix_nI (by omega), if_pos rfl] at K
      refine s_aload_n (pc' := 92) dX7_told_91 rfl lg0 rfl ?_
      refine s_iload_n (pc' := 93) dX7_told_92 rfl lg1 ?_
      refine c_X7_wears  (pc' := 96) dX7_told_93 rfl lkX7_118 (by omega) (Nat.le_of_ble_eq_true rfl) hM ha hT hw (fun m1 s1 => ?_)
      refine s_goto (tgt := 104) dX7_told_96 (by decide) ?_
      refine s_iret dX7_told_104 rfl (vp_nar_int _) ?_
      exact K m1 s1
  have t7 : what = 7 → Sim z d 0 0 mX7_told 27 [.ref 47, .int o, .int 7] [] (LAY rf tl) mem Q := by
    intro hw0
    rw [hw0, if_neg (by decide), if_neg (by decide), if_neg (by decide)] at K
    refine s_iload_n (pc' := 28) dX7_told_27 rfl lg2 ?_
    refine s_iconst (pc' := 29) dX7_told_28 rfl iconst_0 ?_
    refine s_bipush (pc' := 31) dX7_told_29 rfl bipush_7 ?_
    refine c_X7_isIn  (pc' := 34) dX7_told_31 rfl lkX7_86 (by omega) (Nat.le_of_ble_eq_true rfl) ?_
    refine s_if_eq (pc' := 37) (tgt := 49) dX7_told_34 rfl (by decide) (fun c9 => absurd c9 (by decide)) (fun _ => ?_)
    refine s_iload_n (pc' := 38) dX7_told_37 rfl lg2 ?_
    refine s_if_le (pc' := 41) (tgt := 52) dX7_told_38 rfl (by decide) (fun c9 => absurd c9 (by decide)) (fun _ => ?_)
    refine s_aload_n (pc' := 42) dX7_told_41 rfl lg0 rfl ?_
    refine s_iload_n (pc' := 43) dX7_told_42 rfl lg1 ?_
    refine c_X7_isPiece  (pc' := 46) dX7_told_43 rfl lkX7_94 (by omega) (Nat.le_of_ble_eq_true rfl) hn h8 ?_
    rcases pc_or o (n := n) (by omega) with q | ⟨a, ha, rfl, q⟩
    · rw [if_pos q] at K
      rw [q]
      refine s_if_ne (pc' := 49) (tgt := 52) dX7_told_46 rfl (by decide) (fun c9 => absurd (rfl) c9) (fun _ => ?_)
      refine s_bipush (pc' := 51) dX7_told_49 rfl bipush_m2 ?_
      refine s_iret dX7_told_51 rfl (vp_nar_int _) ?_
      exact K mem rwf.rf
    · have q' : ¬ pcB (nI a) (nI n) = 0 := by rw [q]; decide
      rw [if_neg q'] at K
      rw [q]
      refine s_if_ne (pc' := 49) (tgt := 52) dX7_told_46 rfl (by decide) (fun _ => ?_) (fun c9 => absurd c9 (by decide))
      refine s_iload_n (pc' := 53) dX7_told_52 rfl lg2 ?_
      refine s_iconst (pc' := 54) dX7_told_53 rfl iconst_5 ?_
      refine s_icmp_ge (pc' := 57) (tgt := 71) dX7_told_54 rfl (by decide) (fun _ => ?_) (fun c9 => absurd (by decide) c9)
      refine s_iload_n (pc' := 72) dX7_told_71 rfl lg2 ?_
      refine s_iconst (pc' := 73) dX7_told_72 rfl iconst_5 ?_
      refine s_icmp_ne (pc' := 76) (tgt := 85) dX7_told_73 rfl (by decide) (fun _ => ?_) (fun c9 => absurd c9 (by decide))
      refine s_iload_n (pc' := 86) dX7_told_85 rfl lg2 ?_
      refine s_bipush (pc' := 88) dX7_told_86 rfl bipush_6 ?_
      refine s_icmp_ne (pc' := 91) (tgt := 99) dX7_told_88 rfl (by decide) (fun _ => ?_) (fun c9 => absurd c9 (by decide))
      rw [ix_nI (by omega), if_neg (by decide), if_pos rfl] at K
      refine s_aload_n (pc' := 100) dX7_told_99 rfl lg0 rfl ?_
      refine s_iload_n (pc' := 101) dX7_told_100 rfl lg1 ?_
      refine c_X7_clashing  (pc' := 104) dX7_told_101 rfl lkX7_121 (by omega) (Nat.le_of_ble_eq_true rfl) hM ha hT hw (fun m1 s1 => ?_)
      refine s_iret dX7_told_104 rfl (vp_nar_int _) ?_
      exact K m1 s1
  refine s_iload_n (pc' := 1) dX7_told_0 rfl lg2 ?_
  refine s_bipush (pc' := 3) dX7_told_1 rfl bipush_8 ?_
  rcases in_or what (lo := 0) (hi := 8) rfl (m := 8) rfl (by omega) with h | ⟨k, hk, rfl, -⟩
  · obtain ⟨b1, b2, b3, b4⟩ := in08_no h
    rw [if_neg b3, if_neg b4, if_pos b2] at K
    refine s_icmp_ne (pc' := 6) (tgt := 27) dX7_told_3 rfl (by decide) (fun _ => ?_) (fun c9 => absurd c9 (b4))
    refine s_iload_n (pc' := 28) dX7_told_27 rfl lg2 ?_
    refine s_iconst (pc' := 29) dX7_told_28 rfl iconst_0 ?_
    refine s_bipush (pc' := 31) dX7_told_29 rfl bipush_7 ?_
    refine c_X7_isIn  (pc' := 34) dX7_told_31 rfl lkX7_86 (by omega) (Nat.le_of_ble_eq_true rfl) ?_
    refine s_if_eq (pc' := 37) (tgt := 49) dX7_told_34 rfl (by decide) (fun _ => ?_) (fun c9 => absurd (b1) c9)
    refine s_bipush (pc' := 51) dX7_told_49 rfl bipush_m2 ?_
    refine s_iret dX7_told_51 rfl (vp_nar_int _) ?_
    exact K mem rwf.rf
  · have k9 : k = 0 ∨ k = 1 ∨ k = 2 ∨ k = 3 ∨ k = 4 ∨ k = 5 ∨ k = 6 ∨ k = 7 ∨ k = 8 := by omega
    rcases k9 with rfl | rfl | rfl | rfl | rfl | rfl | rfl | rfl | rfl
    · rw [if_pos nI_0] at K
      rw [nI_0]
      refine s_icmp_ne (pc' := 6) (tgt := 27) dX7_told_3 rfl (by decide) (fun _ => ?_) (fun c9 => absurd c9 (by decide))
      refine s_iload_n (pc' := 28) dX7_told_27 rfl lg2 ?_
      refine s_iconst (pc' := 29) dX7_told_28 rfl iconst_0 ?_
      refine s_bipush (pc' := 31) dX7_told_29 rfl bipush_7 ?_
      refine c_X7_isIn  (pc' := 34) dX7_told_31 rfl lkX7_86 (by omega) (Nat.le_of_ble_eq_true rfl) ?_
      refine s_if_eq (pc' := 37) (tgt := 49) dX7_told_34 rfl (by decide) (fun c9 => absurd c9 (by decide)) (fun _ => ?_)
      refine s_iload_n (pc' := 38) dX7_told_37 rfl lg2 ?_
      refine s_if_le (pc' := 41) (tgt := 52) dX7_told_38 rfl (by decide) (fun _ => ?_) (fun c9 => absurd (by decide) c9)
      refine s_iload_n (pc' := 53) dX7_told_52 rfl lg2 ?_
      refine s_iconst (pc' := 54) dX7_told_53 rfl iconst_5 ?_
      refine s_icmp_ge (pc' := 57) (tgt := 71) dX7_told_54 rfl (by decide) (fun c9 => absurd c9 (by decide)) (fun _ => ?_)
      refine s_aload_n (pc' := 58) dX7_told_57 rfl lg0 rfl ?_
      refine s_getRv (pc' := 61) (v := .ref 48) dX7_told_58 rfl flX7_7 ly47 (by decide) rfl rfl ?_
      refine s_aload_n (pc' := 62) dX7_told_61 rfl lg0 rfl ?_
      refine s_iload_n (pc' := 63) dX7_told_62 rfl lg2 ?_
      refine s_iload_n (pc' := 64) dX7_told_63 rfl lg1 ?_
      refine c_X7_place_0 (pc' := 67) dX7_told_64 rfl lkX7_98 (by omega) (Nat.le_of_ble_eq_true rfl) ?_
      refine s_ialdNv (pc' := 68) (k := 41) (v := td) dX7_told_67 rfl ly48 (by decide) (by decide) hM.2.2.1 ?_
      refine s_goto (tgt := 104) dX7_told_68 (by decide) ?_
      refine s_iret dX7_told_104 rfl (vp_nar_int _) ?_
      exact K mem rwf.rf
    · rw [show nI 1 = 1 from by decide]
      refine s_icmp_ne (pc' := 6) (tgt := 27) dX7_told_3 rfl (by decide) (fun _ => ?_) (fun c9 => absurd c9 (by decide))
      exact t1 (by decide)
    · rw [show nI 2 = 2 from by decide]
      refine s_icmp_ne (pc' := 6) (tgt := 27) dX7_told_3 rfl (by decide) (fun _ => ?_) (fun c9 => absurd c9 (by decide))
      exact t2 (by decide)
    · rw [show nI 3 = 3 from by decide]
      refine s_icmp_ne (pc' := 6) (tgt := 27) dX7_told_3 rfl (by decide) (fun _ => ?_) (fun c9 => absurd c9 (by decide))
      exact t3 (by decide)
    · rw [show nI 4 = 4 from by decide]
      refine s_icmp_ne (pc' := 6) (tgt := 27) dX7_told_3 rfl (by decide) (fun _ => ?_) (fun c9 => absurd c9 (by decide))
      exact t4 (by decide)
    · rw [show nI 5 = 5 from by decide]
      refine s_icmp_ne (pc' := 6) (tgt := 27) dX7_told_3 rfl (by decide) (fun _ => ?_) (fun c9 => absurd c9 (by decide))
      exact t5 (by decide)
    · rw [show nI 6 = 6 from by decide]
      refine s_icmp_ne (pc' := 6) (tgt := 27) dX7_told_3 rfl (by decide) (fun _ => ?_) (fun c9 => absurd c9 (by decide))
      exact t6 (by decide)
    · rw [show nI 7 = 7 from by decide]
      refine s_icmp_ne (pc' := 6) (tgt := 27) dX7_told_3 rfl (by decide) (fun _ => ?_) (fun c9 => absurd c9 (by decide))
      exact t7 (by decide)
    · rw [show nI 8 = 8 from by decide, if_neg (by decide), if_pos rfl] at K
      rw [show nI 8 = 8 from by decide]
      refine s_icmp_ne (pc' := 6) (tgt := 27) dX7_told_3 rfl (by decide) (fun c9 => absurd (rfl) c9) (fun _ => ?_)
      refine s_iload_n (pc' := 7) dX7_told_6 rfl lg1 ?_
      refine s_iconst (pc' := 8) dX7_told_7 rfl iconst_0 ?_
      refine s_bipush (pc' := 10) dX7_told_8 rfl bipush_11 ?_
      refine c_X7_isIn  (pc' := 13) dX7_told_10 rfl lkX7_86 (by omega) (Nat.le_of_ble_eq_true rfl) ?_
      refine s_if_eq (pc' := 16) (tgt := 24) dX7_told_13 rfl (by decide) (fun c1 => ?_) (fun c1 => ?_)
      · skip
        rw [if_pos c1] at K
        refine s_bipush (pc' := 26) dX7_told_24 rfl bipush_m2 ?_
        refine s_iret dX7_told_26 rfl (vp_nar_int _) ?_
        exact K mem rwf.rf
      · skip
        rw [if_neg c1] at K
        refine s_aload_n (pc' := 17) dX7_told_16 rfl lg0 rfl ?_
        refine s_iload_n (pc' := 18) dX7_told_17 rfl lg1 ?_
        refine c_X7_lying  (pc' := 21) dX7_told_18 rfl lkX7_115 (by omega) (Nat.le_of_ble_eq_true rfl) hM ?_
        refine s_goto (tgt := 26) dX7_told_21 (by decide) ?_
        refine s_iret dX7_told_26 rfl (vp_nar_int _) ?_
        exact K mem rwf.rf
theorem c_X7_told {z : Zz} {d kc ks : Nat} {mi : MI} {pc pc' : Nat} {L S : List Value} {Q : Option Value → Lay → Mem → Prop} {rf : Nat → Value} {tl : Lay} {mem : Mem}  {n w nt : Nat} {σ : Nat → Nat → Int32} {td o what : Int32} {T : Nat → Nat → List Int32} {idx : Nat} (hd : decode mi.2.1 pc = .ok (.invokevirtual idx, 3)) (hp : pc + 3 = pc') (hlk : Cond.methodLink mi.1.cls idx yX7_told ∈ wok) (hdd : 5 + 1 ≤ d) (hcat : (S.map (fun v => v.category)).sum ≤ 8) (hM : isM 48 mem σ n td (nI w)) (hT : isTM mem nt T) (hw : w < nt) (K : ∀ mem', rwf mem mem' → Sim z d kc ks mi pc' L (.int (tolR σ n td (T w) o what) :: S) (LAY rf tl) mem' Q) : Sim z d kc ks mi pc L (.int what :: .int o :: .ref 47 :: S) (LAY rf tl) mem Q :=
  s_invV (d2 := 5) hd hp okX7_told hlk inX7_told seX7_told hdd (Nat.zero_add _) (Nat.zero_add _) rfl rfl ly47 rfl hcat (Nat.le_of_ble_eq_true rfl) (m_X7_told (Nat.le_refl _) hM hT hw K)

