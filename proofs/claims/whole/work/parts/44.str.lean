/-! ===== the two strings ===== -/
theorem am_sbW : ∀ k : Fin 96, ((am_sb 0 k.1 &&& 255).toUInt32 % 65536).toInt32 = am_sb 0 k.1 ∧ narrow .char (.int (am_sb 0 k.1)) = .int (am_sb 0 k.1) := by decide +kernel
set_option maxHeartbeats 4000000 in
theorem m_J0_isLatin1_aae02_3 {z : Zz} {d : Nat} {Q : Option Value → Lay → Mem → Prop} {lay : Lay} {mem : Mem}  (hdd : 0 ≤ d)  (K :  Q (some (.int 1)) lay mem) : Sim z d 0 0 mJ0_isLatin1_aae02 0 [.retAddr 3] [] (lay) mem Q := by
  refine s_gCmp (pc' := 3) dJ0_isLatin1_aae02_0 rfl kfJ0_38 ?_
  refine s_if_eq (pc' := 6) (tgt := 17) dJ0_isLatin1_aae02_3 rfl (by decide) (fun c9 => absurd c9 (by decide)) (fun _ => ?_)
  refine s_aload_n (pc' := 7) dJ0_isLatin1_aae02_6 rfl lg0 rfl ?_
  refine s_strc (pc' := 10) (j := 0) (by decide) dJ0_isLatin1_aae02_7 rfl kfJ0_15 ?_
  refine s_if_ne (pc' := 13) (tgt := 17) dJ0_isLatin1_aae02_10 rfl (by decide) (fun c9 => absurd (by decide) c9) (fun _ => ?_)
  refine s_iconst (pc' := 14) dJ0_isLatin1_aae02_13 rfl iconst_1 ?_
  refine s_goto (tgt := 18) dJ0_isLatin1_aae02_14 (by decide) ?_
  refine s_iret dJ0_isLatin1_aae02_18 rfl (by decide) ?_
  exact K
theorem c_J0_isLatin1_aae02_3 {z : Zz} {d kc ks : Nat} {mi : MI} {pc pc' : Nat} {L S : List Value} {Q : Option Value → Lay → Mem → Prop} {lay : Lay} {mem : Mem}  {idx : Nat} (hd : decode mi.2.1 pc = .ok (.invokevirtual idx, 3)) (hp : pc + 3 = pc') (hlk : Cond.methodLink mi.1.cls idx yJ0_isLatin1_aae02 ∈ wok) (hdd : 0 + 1 ≤ d) (hcat : (S.map (fun v => v.category)).sum ≤ 8)  (K :  Sim z d kc ks mi pc' L (.int 1 :: S) lay mem Q) : Sim z d kc ks mi pc L (.retAddr 3 :: S) (lay) mem Q :=
  s_invVs (d2 := 0) (j := 0) hd hp okJ0_isLatin1_aae02 hlk inJ0_isLatin1_aae02 seJ0_isLatin1_aae02 hdd (Nat.zero_add _) (Nat.zero_add _) rfl (by decide) rfl rfl hcat (Nat.le_of_ble_eq_true rfl) (m_J0_isLatin1_aae02_3 (Nat.le_refl _)  K)
set_option maxHeartbeats 4000000 in
theorem m_J0_isLatin1_aae02_4 {z : Zz} {d : Nat} {Q : Option Value → Lay → Mem → Prop} {lay : Lay} {mem : Mem}  (hdd : 0 ≤ d)  (K :  Q (some (.int 1)) lay mem) : Sim z d 0 0 mJ0_isLatin1_aae02 0 [.retAddr 4] [] (lay) mem Q := by
  refine s_gCmp (pc' := 3) dJ0_isLatin1_aae02_0 rfl kfJ0_38 ?_
  refine s_if_eq (pc' := 6) (tgt := 17) dJ0_isLatin1_aae02_3 rfl (by decide) (fun c9 => absurd c9 (by decide)) (fun _ => ?_)
  refine s_aload_n (pc' := 7) dJ0_isLatin1_aae02_6 rfl lg0 rfl ?_
  refine s_strc (pc' := 10) (j := 1) (by decide) dJ0_isLatin1_aae02_7 rfl kfJ0_15 ?_
  refine s_if_ne (pc' := 13) (tgt := 17) dJ0_isLatin1_aae02_10 rfl (by decide) (fun c9 => absurd (by decide) c9) (fun _ => ?_)
  refine s_iconst (pc' := 14) dJ0_isLatin1_aae02_13 rfl iconst_1 ?_
  refine s_goto (tgt := 18) dJ0_isLatin1_aae02_14 (by decide) ?_
  refine s_iret dJ0_isLatin1_aae02_18 rfl (by decide) ?_
  exact K
theorem c_J0_isLatin1_aae02_4 {z : Zz} {d kc ks : Nat} {mi : MI} {pc pc' : Nat} {L S : List Value} {Q : Option Value → Lay → Mem → Prop} {lay : Lay} {mem : Mem}  {idx : Nat} (hd : decode mi.2.1 pc = .ok (.invokevirtual idx, 3)) (hp : pc + 3 = pc') (hlk : Cond.methodLink mi.1.cls idx yJ0_isLatin1_aae02 ∈ wok) (hdd : 0 + 1 ≤ d) (hcat : (S.map (fun v => v.category)).sum ≤ 8)  (K :  Sim z d kc ks mi pc' L (.int 1 :: S) lay mem Q) : Sim z d kc ks mi pc L (.retAddr 4 :: S) (lay) mem Q :=
  s_invVs (d2 := 0) (j := 1) hd hp okJ0_isLatin1_aae02 hlk inJ0_isLatin1_aae02 seJ0_isLatin1_aae02 hdd (Nat.zero_add _) (Nat.zero_add _) rfl (by decide) rfl rfl hcat (Nat.le_of_ble_eq_true rfl) (m_J0_isLatin1_aae02_4 (Nat.le_refl _)  K)
set_option maxHeartbeats 4000000 in
theorem m_J0_coder_7d493 {z : Zz} {d : Nat} {Q : Option Value → Lay → Mem → Prop} {lay : Lay} {mem : Mem}  (hdd : 0 ≤ d)  (K :  Q (some (.int 0)) lay mem) : Sim z d 0 0 mJ0_coder_7d493 0 [.retAddr 4] [] (lay) mem Q := by
  refine s_gCmp (pc' := 3) dJ0_coder_7d493_0 rfl kfJ0_38 ?_
  refine s_if_eq (pc' := 6) (tgt := 13) dJ0_coder_7d493_3 rfl (by decide) (fun c9 => absurd c9 (by decide)) (fun _ => ?_)
  refine s_aload_n (pc' := 7) dJ0_coder_7d493_6 rfl lg0 rfl ?_
  refine s_strc (pc' := 10) (j := 1) (by decide) dJ0_coder_7d493_7 rfl kfJ0_15 ?_
  refine s_goto (tgt := 14) dJ0_coder_7d493_10 (by decide) ?_
  refine s_iret dJ0_coder_7d493_14 rfl (by decide) ?_
  exact K
theorem c_J0_coder_7d493 {z : Zz} {d kc ks : Nat} {mi : MI} {pc pc' : Nat} {L S : List Value} {Q : Option Value → Lay → Mem → Prop} {lay : Lay} {mem : Mem}  {idx : Nat} (hd : decode mi.2.1 pc = .ok (.invokevirtual idx, 3)) (hp : pc + 3 = pc') (hlk : Cond.methodLink mi.1.cls idx yJ0_coder_7d493 ∈ wok) (hdd : 0 + 1 ≤ d) (hcat : (S.map (fun v => v.category)).sum ≤ 8)  (K :  Sim z d kc ks mi pc' L (.int 0 :: S) lay mem Q) : Sim z d kc ks mi pc L (.retAddr 4 :: S) (lay) mem Q :=
  s_invVs (d2 := 0) (j := 1) hd hp okJ0_coder_7d493 hlk inJ0_coder_7d493 seJ0_coder_7d493 hdd (Nat.zero_add _) (Nat.zero_add _) rfl (by decide) rfl rfl hcat (Nat.le_of_ble_eq_true rfl) (m_J0_coder_7d493 (Nat.le_refl _)  K)
set_option maxHeartbeats 4000000 in
theorem m_J0_length_8abf5 {z : Zz} {d : Nat} {Q : Option Value → Lay → Mem → Prop} {lay : Lay} {mem : Mem}  (hdd : 1 ≤ d)  (K :  Q (some (.int 8)) lay mem) : Sim z d 0 0 mJ0_length_8abf5 0 [.retAddr 4] [] (lay) mem Q := by
  refine s_aload_n (pc' := 1) dJ0_length_8abf5_0 rfl lg0 rfl ?_
  refine s_strv (pc' := 4) (j := 1) (by decide) dJ0_length_8abf5_1 rfl kfJ0_9 ?_
  refine s_tblen (pc' := 5) (j := 1) (by decide) dJ0_length_8abf5_4 rfl ?_
  refine s_aload_n (pc' := 6) dJ0_length_8abf5_5 rfl lg0 rfl ?_
  refine c_J0_coder_7d493 (pc' := 9) dJ0_length_8abf5_6 rfl lkJ0_335 (by omega) (Nat.le_of_ble_eq_true rfl)  ?_
  refine s_ishr (pc' := 10) dJ0_length_8abf5_9 rfl ?_
  refine s_iret dJ0_length_8abf5_10 rfl (vp_nar_int _) ?_
  exact K
theorem c_J0_length_8abf5 {z : Zz} {d kc ks : Nat} {mi : MI} {pc pc' : Nat} {L S : List Value} {Q : Option Value → Lay → Mem → Prop} {lay : Lay} {mem : Mem}  {idx : Nat} (hd : decode mi.2.1 pc = .ok (.invokevirtual idx, 3)) (hp : pc + 3 = pc') (hlk : Cond.methodLink mi.1.cls idx yJ0_length_8abf5 ∈ wok) (hdd : 1 + 1 ≤ d) (hcat : (S.map (fun v => v.category)).sum ≤ 8)  (K :  Sim z d kc ks mi pc' L (.int 8 :: S) lay mem Q) : Sim z d kc ks mi pc L (.retAddr 4 :: S) (lay) mem Q :=
  s_invVs (d2 := 1) (j := 1) hd hp okJ0_length_8abf5 hlk inJ0_length_8abf5 seJ0_length_8abf5 hdd (Nat.zero_add _) (Nat.zero_add _) rfl (by decide) rfl rfl hcat (Nat.le_of_ble_eq_true rfl) (m_J0_length_8abf5 (Nat.le_refl _)  K)
set_option maxHeartbeats 4000000 in
theorem m_J3_checkIndex_8e157 {z : Zz} {d : Nat} {Q : Option Value → Lay → Mem → Prop} {lay : Lay} {mem : Mem} {k n : Nat} (hdd : 0 ≤ d) (hk : k < n) (hn : n ≤ 100000) (K :  Q (some (.int (nI k))) lay mem) : Sim z d 0 0 mJ3_checkIndex_8e157 0 [.int (nI k), .int (nI n), .retAddr 7] [] (lay) mem Q := by
  refine s_iload_n (pc' := 1) dJ3_checkIndex_8e157_0 rfl lg0 ?_
  refine s_if_lt (pc' := 4) (tgt := 9) dJ3_checkIndex_8e157_1 rfl (by decide) (fun c9 => absurd c9 (nI_pos (by omega))) (fun _ => ?_)
  refine s_iload_n (pc' := 5) dJ3_checkIndex_8e157_4 rfl lg0 ?_
  refine s_iload_n (pc' := 6) dJ3_checkIndex_8e157_5 rfl lg1 ?_
  refine s_icmp_lt (pc' := 9) (tgt := 16) dJ3_checkIndex_8e157_6 rfl (by decide) (fun _ => ?_) (fun c9 => absurd (nI_lt hk (by omega)) c9)
  refine s_iload_n (pc' := 17) dJ3_checkIndex_8e157_16 rfl lg0 ?_
  refine s_iret dJ3_checkIndex_8e157_17 rfl (vp_nar_int _) ?_
  exact K
theorem c_J3_checkIndex_8e157 {z : Zz} {d kc ks : Nat} {mi : MI} {pc pc' : Nat} {L S : List Value} {Q : Option Value → Lay → Mem → Prop} {lay : Lay} {mem : Mem} {k n : Nat} {idx : Nat} (hd : decode mi.2.1 pc = .ok (.invokestatic idx, 3)) (hp : pc + 3 = pc') (hlk : Cond.methodLink mi.1.cls idx yJ3_checkIndex_8e157 ∈ wok) (hdd : 0 + 1 ≤ d) (hcat : (S.map (fun v => v.category)).sum ≤ 8) (hk : k < n) (hn : n ≤ 100000) (K :  Sim z d kc ks mi pc' L (.int (nI k) :: S) lay mem Q) : Sim z d kc ks mi pc L (.retAddr 7 :: .int (nI n) :: .int (nI k) :: S) (lay) mem Q :=
  s_invS (d2 := 0) hd hp okJ3_checkIndex_8e157 hlk stJ3_checkIndex_8e157 hdd (Nat.zero_add _) (Nat.zero_add _) rfl rfl hcat (Nat.le_of_ble_eq_true rfl) (m_J3_checkIndex_8e157 (Nat.le_refl _) hk hn K)
set_option maxHeartbeats 4000000 in
theorem m_J0_checkIndex_df160 {z : Zz} {d : Nat} {Q : Option Value → Lay → Mem → Prop} {lay : Lay} {mem : Mem} {k n : Nat} (hdd : 1 ≤ d) (hk : k < n) (hn : n ≤ 100000) (K :  Q none lay mem) : Sim z d 0 0 mJ0_checkIndex_df160 0 [.int (nI k), .int (nI n)] [] (lay) mem Q := by
  refine s_iload_n (pc' := 1) dJ0_checkIndex_df160_0 rfl lg0 ?_
  refine s_iload_n (pc' := 2) dJ0_checkIndex_df160_1 rfl lg1 ?_
  refine s_gFmt (pc' := 5) dJ0_checkIndex_df160_2 rfl kfJ0_1053 ?_
  refine c_J3_checkIndex_8e157  (pc' := 8) dJ0_checkIndex_df160_5 rfl lkJ0_1059 (by omega) (Nat.le_of_ble_eq_true rfl) hk hn ?_
  refine s_pop (pc' := 9) dJ0_checkIndex_df160_8 rfl rfl ?_
  refine s_vret dJ0_checkIndex_df160_9 rfl ?_
  exact K
theorem c_J0_checkIndex_df160 {z : Zz} {d kc ks : Nat} {mi : MI} {pc pc' : Nat} {L S : List Value} {Q : Option Value → Lay → Mem → Prop} {lay : Lay} {mem : Mem} {k n : Nat} {idx : Nat} (hd : decode mi.2.1 pc = .ok (.invokestatic idx, 3)) (hp : pc + 3 = pc') (hlk : Cond.methodLink mi.1.cls idx yJ0_checkIndex_df160 ∈ wok) (hdd : 1 + 1 ≤ d) (hcat : (S.map (fun v => v.category)).sum ≤ 8) (hk : k < n) (hn : n ≤ 100000) (K :  Sim z d kc ks mi pc' L S lay mem Q) : Sim z d kc ks mi pc L (.int (nI n) :: .int (nI k) :: S) (lay) mem Q :=
  s_invS (d2 := 1) hd hp okJ0_checkIndex_df160 hlk stJ0_checkIndex_df160 hdd (Nat.zero_add _) (Nat.zero_add _) rfl rfl hcat (Nat.le_of_ble_eq_true rfl) (m_J0_checkIndex_df160 (Nat.le_refl _) hk hn K)
theorem am_sbW1 {k : Nat} (h : k < 96) : ((am_sb 0 k &&& 255).toUInt32 % 65536).toInt32 = am_sb 0 k := (am_sbW ⟨k, h⟩).1
theorem am_sbW2 {k : Nat} (h : k < 96) : narrow .char (.int (am_sb 0 k)) = .int (am_sb 0 k) := (am_sbW ⟨k, h⟩).2
set_option maxHeartbeats 4000000 in
theorem m_J1_charAt_3b067 {z : Zz} {d : Nat} {Q : Option Value → Lay → Mem → Prop} {lay : Lay} {mem : Mem} {k : Nat} (hdd : 2 ≤ d) (hk : k < 96) (K :  Q (some (.int (am_sb 0 k))) lay mem) : Sim z d 0 0 mJ1_charAt_3b067 0 [.retAddr 5, .int (nI k)] [] (lay) mem Q := by
  refine s_iload_n (pc' := 1) dJ1_charAt_3b067_0 rfl lg1 ?_
  refine s_aload_n (pc' := 2) dJ1_charAt_3b067_1 rfl lg0 rfl ?_
  refine s_tblen (pc' := 3) (j := 0) (by decide) dJ1_charAt_3b067_2 rfl ?_
  refine c_J0_checkIndex_df160 (n := 96) (pc' := 6) dJ1_charAt_3b067_3 rfl lkJ1_9 (by omega) (Nat.le_of_ble_eq_true rfl) hk (by decide) ?_
  refine s_aload_n (pc' := 7) dJ1_charAt_3b067_6 rfl lg0 rfl ?_
  refine s_iload_n (pc' := 8) dJ1_charAt_3b067_7 rfl lg1 ?_
  refine s_tbald (pc' := 9) (j := 0) (by decide) dJ1_charAt_3b067_8 rfl (am_in hk (by decide)) ?_
  refine s_sipush (pc' := 12) dJ1_charAt_3b067_9 rfl sipush_255 ?_
  refine s_iand (pc' := 13) dJ1_charAt_3b067_12 rfl ?_
  refine s_i2c (pc' := 14) dJ1_charAt_3b067_13 rfl ?_
  rw [nI_clamp (by omega), am_sbW1 hk]
  refine s_iret dJ1_charAt_3b067_14 rfl ((am_sbW2 hk)) ?_
  exact K
theorem c_J1_charAt_3b067 {z : Zz} {d kc ks : Nat} {mi : MI} {pc pc' : Nat} {L S : List Value} {Q : Option Value → Lay → Mem → Prop} {lay : Lay} {mem : Mem} {k : Nat} {idx : Nat} (hd : decode mi.2.1 pc = .ok (.invokestatic idx, 3)) (hp : pc + 3 = pc') (hlk : Cond.methodLink mi.1.cls idx yJ1_charAt_3b067 ∈ wok) (hdd : 2 + 1 ≤ d) (hcat : (S.map (fun v => v.category)).sum ≤ 8) (hk : k < 96) (K :  Sim z d kc ks mi pc' L (.int (am_sb 0 k) :: S) lay mem Q) : Sim z d kc ks mi pc L (.int (nI k) :: .retAddr 5 :: S) (lay) mem Q :=
  s_invS (d2 := 2) hd hp okJ1_charAt_3b067 hlk stJ1_charAt_3b067 hdd (Nat.zero_add _) (Nat.zero_add _) rfl rfl hcat (Nat.le_of_ble_eq_true rfl) (m_J1_charAt_3b067 (Nat.le_refl _) hk K)
set_option maxHeartbeats 4000000 in
theorem m_J0_charAt_5068e {z : Zz} {d : Nat} {Q : Option Value → Lay → Mem → Prop} {lay : Lay} {mem : Mem} {k : Nat} (hdd : 3 ≤ d) (hk : k < 96) (K :  Q (some (.int (am_sb 0 k))) lay mem) : Sim z d 0 0 mJ0_charAt_5068e 0 [.retAddr 3, .int (nI k)] [] (lay) mem Q := by
  refine s_aload_n (pc' := 1) dJ0_charAt_5068e_0 rfl lg0 rfl ?_
  refine c_J0_isLatin1_aae02_3 (pc' := 4) dJ0_charAt_5068e_1 rfl lkJ0_492 (by omega) (Nat.le_of_ble_eq_true rfl)  ?_
  refine s_if_eq (pc' := 7) (tgt := 16) dJ0_charAt_5068e_4 rfl (by decide) (fun c9 => absurd c9 (by decide)) (fun _ => ?_)
  refine s_aload_n (pc' := 8) dJ0_charAt_5068e_7 rfl lg0 rfl ?_
  refine s_strv (pc' := 11) (j := 0) (by decide) dJ0_charAt_5068e_8 rfl kfJ0_9 ?_
  refine s_iload_n (pc' := 12) dJ0_charAt_5068e_11 rfl lg1 ?_
  refine c_J1_charAt_3b067  (pc' := 15) dJ0_charAt_5068e_12 rfl lkJ0_495 (by omega) (Nat.le_of_ble_eq_true rfl) hk ?_
  refine s_iret dJ0_charAt_5068e_15 rfl ((am_sbW2 hk)) ?_
  exact K
theorem c_J0_charAt_5068e {z : Zz} {d kc ks : Nat} {mi : MI} {pc pc' : Nat} {L S : List Value} {Q : Option Value → Lay → Mem → Prop} {lay : Lay} {mem : Mem} {k : Nat} {idx : Nat} (hd : decode mi.2.1 pc = .ok (.invokevirtual idx, 3)) (hp : pc + 3 = pc') (hlk : Cond.methodLink mi.1.cls idx yJ0_charAt_5068e ∈ wok) (hdd : 3 + 1 ≤ d) (hcat : (S.map (fun v => v.category)).sum ≤ 8) (hk : k < 96) (K :  Sim z d kc ks mi pc' L (.int (am_sb 0 k) :: S) lay mem Q) : Sim z d kc ks mi pc L (.int (nI k) :: .retAddr 3 :: S) (lay) mem Q :=
  s_invVs (d2 := 3) (j := 0) hd hp okJ0_charAt_5068e hlk inJ0_charAt_5068e seJ0_charAt_5068e hdd (Nat.zero_add _) (Nat.zero_add _) rfl (by decide) rfl rfl hcat (Nat.le_of_ble_eq_true rfl) (m_J0_charAt_5068e (Nat.le_refl _) hk K)
set_option maxHeartbeats 4000000 in
theorem m_J1_canEncode_9a6ad {z : Zz} {d : Nat} {Q : Option Value → Lay → Mem → Prop} {lay : Lay} {mem : Mem} {k : Nat} (hdd : 0 ≤ d) (hk : k < 256) (K :  Q (some (.int 1)) lay mem) : Sim z d 0 0 mJ1_canEncode_9a6ad 0 [.int (nI k)] [] (lay) mem Q := by
  refine s_iload_n (pc' := 1) dJ1_canEncode_9a6ad_0 rfl lg0 ?_
  refine s_if_lt (pc' := 4) (tgt := 15) dJ1_canEncode_9a6ad_1 rfl (by decide) (fun c9 => absurd c9 (nI_pos (by omega))) (fun _ => ?_)
  refine s_iload_n (pc' := 5) dJ1_canEncode_9a6ad_4 rfl lg0 ?_
  refine s_sipush (pc' := 8) dJ1_canEncode_9a6ad_5 rfl sipush_255 ?_
  refine s_icmp_gt (pc' := 11) (tgt := 15) dJ1_canEncode_9a6ad_8 rfl (by decide) (fun c9 => absurd c9 (nI_nlt (a := 255) (b := k) (by omega) (by omega))) (fun _ => ?_)
  refine s_iconst (pc' := 12) dJ1_canEncode_9a6ad_11 rfl iconst_1 ?_
  refine s_goto (tgt := 16) dJ1_canEncode_9a6ad_12 (by decide) ?_
  refine s_iret dJ1_canEncode_9a6ad_16 rfl (by decide) ?_
  exact K
theorem c_J1_canEncode_9a6ad {z : Zz} {d kc ks : Nat} {mi : MI} {pc pc' : Nat} {L S : List Value} {Q : Option Value → Lay → Mem → Prop} {lay : Lay} {mem : Mem} {k : Nat} {idx : Nat} (hd : decode mi.2.1 pc = .ok (.invokestatic idx, 3)) (hp : pc + 3 = pc') (hlk : Cond.methodLink mi.1.cls idx yJ1_canEncode_9a6ad ∈ wok) (hdd : 0 + 1 ≤ d) (hcat : (S.map (fun v => v.category)).sum ≤ 8) (hk : k < 256) (K :  Sim z d kc ks mi pc' L (.int 1 :: S) lay mem Q) : Sim z d kc ks mi pc L (.int (nI k) :: S) (lay) mem Q :=
  s_invS (d2 := 0) hd hp okJ1_canEncode_9a6ad hlk stJ1_canEncode_9a6ad hdd (Nat.zero_add _) (Nat.zero_add _) rfl rfl hcat (Nat.le_of_ble_eq_true rfl) (m_J1_canEncode_9a6ad (Nat.le_refl _) hk K)
theorem am_sbS : ∀ (c : Fin 256) (k : Fin 8), (am_sb 1 k.1 = (nI c.1).toInt8.toInt32) = (am_sb 1 k.1 = nI c.1) := by
  have h : ∀ (c : Fin 256) (k : Fin 8), decide (am_sb 1 k.1 = (nI c.1).toInt8.toInt32) = decide (am_sb 1 k.1 = nI c.1) := by decide +kernel
  exact fun c k => propext (decide_eq_decide.mp (h c k))
def sgN (c : Int32) : Nat := fk (fun k => decide (am_sb 1 k = c)) 8
def sgI (c : Int32) : Int32 := if sgN c < 8 then nI (sgN c) else -1
set_option maxHeartbeats 4000000 in
theorem m_J1_indexOfChar_4cfef {z : Zz} {d : Nat} {Q : Option Value → Lay → Mem → Prop} {lay : Lay} {mem : Mem} {c : Nat} (hdd : 0 ≤ d) (hc : c < 256) (K :  Q (some (.int (sgI (nI c)))) lay mem) : Sim z d 0 0 mJ1_indexOfChar_4cfef 0 [.retAddr 6, .int (nI c), .int 0, .int 8, .float 0, .float 0] [] (lay) mem Q := by
  refine s_iload_n (pc' := 1) dJ1_indexOfChar_4cfef_0 rfl lg1 ?_
  refine s_i2b (pc' := 2) dJ1_indexOfChar_4cfef_1 rfl ?_
  refine s_istore (pc' := 4) dJ1_indexOfChar_4cfef_2 rfl (Nat.le_of_ble_eq_true rfl) rfl ls4 ?_
  refine s_iload_n (pc' := 5) dJ1_indexOfChar_4cfef_4 rfl lg2 ?_
  refine s_istore (pc' := 7) dJ1_indexOfChar_4cfef_5 rfl (Nat.le_of_ble_eq_true rfl) rfl ls5 ?_
  have loop : ∀ (k i : Nat), i + k = 8 → (∀ q, q < i → decide (am_sb 1 q = nI c) = false) → Sim z d 0 0 mJ1_indexOfChar_4cfef 7 [.retAddr 6, .int (nI c), .int 0, .int 8, .int (nI c).toInt8.toInt32, .int (nI i)] [] lay mem Q := by
    intro k
    induction k with
    | zero =>
      intro i hi hno
      have : i = 8 := by omega
      subst this
      rw [sgI, sgN, fk_none hno, if_neg (by omega)] at K
      refine s_iload (pc' := 9) dJ1_indexOfChar_4cfef_7 rfl lg5 ?_
      refine s_iload_n (pc' := 10) dJ1_indexOfChar_4cfef_9 rfl lg3 ?_
      refine s_icmp_ge (pc' := 13) (tgt := 31) dJ1_indexOfChar_4cfef_10 rfl (by decide) (fun _ => ?_) (fun c9 => absurd (by decide) c9)
      refine s_iconst (pc' := 32) dJ1_indexOfChar_4cfef_31 rfl iconst_m1 ?_
      refine s_iret dJ1_indexOfChar_4cfef_32 rfl (vp_nar_int _) ?_
      exact K
    | succ k ih =>
      intro i hi hno
      have es : (am_sb 1 i = (nI c).toInt8.toInt32) = (am_sb 1 i = nI c) := am_sbS ⟨c, hc⟩ ⟨i, by omega⟩
      refine s_iload (pc' := 9) dJ1_indexOfChar_4cfef_7 rfl lg5 ?_
      refine s_iload_n (pc' := 10) dJ1_indexOfChar_4cfef_9 rfl lg3 ?_
      refine s_icmp_ge (pc' := 13) (tgt := 31) dJ1_indexOfChar_4cfef_10 rfl (by decide) (fun c9 => absurd c9 (nI_ge (a := i) (b := 8) (by omega) (by omega))) (fun _ => ?_)
      refine s_aload_n (pc' := 14) dJ1_indexOfChar_4cfef_13 rfl lg0 rfl ?_
      refine s_iload (pc' := 16) dJ1_indexOfChar_4cfef_14 rfl lg5 ?_
      refine s_tbald (pc' := 17) (j := 1) (by decide) dJ1_indexOfChar_4cfef_16 rfl (am_in (by show i < 8; omega) (by decide)) ?_
      refine s_iload (pc' := 19) dJ1_indexOfChar_4cfef_17 rfl lg4 ?_
      rw [nI_clamp (by omega)]
      refine s_icmp_ne (pc' := 22) (tgt := 25) dJ1_indexOfChar_4cfef_19 rfl (by decide) (fun c1 => ?_) (fun c1 => ?_)
      · skip
        rw [es] at c1
        refine s_iincN (pc' := 28) dJ1_indexOfChar_4cfef_25 rfl lg5 rfl ls5 ?_
        refine s_goto (tgt := 7) dJ1_indexOfChar_4cfef_28 (by decide) ?_
        refine ih (i + 1) (by omega) (fun q hq => ?_)
        rcases Nat.lt_or_ge q i with q1 | q1
        · exact hno q q1
        · have : q = i := by omega
          rw [this]; exact decide_eq_false c1
      · skip
        rw [es] at c1
        have e := fk_at (m := 8) hno (decide_eq_true c1) (by omega)
        rw [sgI, sgN, e, if_pos (by omega)] at K
        refine s_iload (pc' := 24) dJ1_indexOfChar_4cfef_22 rfl lg5 ?_
        refine s_iret dJ1_indexOfChar_4cfef_24 rfl (vp_nar_int _) ?_
        exact K
  exact loop 8 0 (by omega) (fun q hq => absurd hq (Nat.not_lt_zero q))
theorem c_J1_indexOfChar_4cfef {z : Zz} {d kc ks : Nat} {mi : MI} {pc pc' : Nat} {L S : List Value} {Q : Option Value → Lay → Mem → Prop} {lay : Lay} {mem : Mem} {c : Nat} {idx : Nat} (hd : decode mi.2.1 pc = .ok (.invokestatic idx, 3)) (hp : pc + 3 = pc') (hlk : Cond.methodLink mi.1.cls idx yJ1_indexOfChar_4cfef ∈ wok) (hdd : 0 + 1 ≤ d) (hcat : (S.map (fun v => v.category)).sum ≤ 8) (hc : c < 256) (K :  Sim z d kc ks mi pc' L (.int (sgI (nI c)) :: S) lay mem Q) : Sim z d kc ks mi pc L (.int 8 :: .int 0 :: .int (nI c) :: .retAddr 6 :: S) (lay) mem Q :=
  s_invS (d2 := 0) hd hp okJ1_indexOfChar_4cfef hlk stJ1_indexOfChar_4cfef hdd (Nat.zero_add _) (Nat.zero_add _) rfl rfl hcat (Nat.le_of_ble_eq_true rfl) (m_J1_indexOfChar_4cfef (Nat.le_refl _) hc K)
set_option maxHeartbeats 4000000 in
theorem m_J1_indexOf_4cfef {z : Zz} {d : Nat} {Q : Option Value → Lay → Mem → Prop} {lay : Lay} {mem : Mem} {c : Nat} (hdd : 1 ≤ d) (hc : c < 256) (K :  Q (some (.int (sgI (nI c)))) lay mem) : Sim z d 0 0 mJ1_indexOf_4cfef 0 [.retAddr 6, .int (nI c), .int 0, .int 8] [] (lay) mem Q := by
  refine s_iload_n (pc' := 1) dJ1_indexOf_4cfef_0 rfl lg1 ?_
  refine c_J1_canEncode_9a6ad  (pc' := 4) dJ1_indexOf_4cfef_1 rfl lkJ1_88 (by omega) (Nat.le_of_ble_eq_true rfl) hc ?_
  refine s_if_ne (pc' := 7) (tgt := 9) dJ1_indexOf_4cfef_4 rfl (by decide) (fun _ => ?_) (fun c9 => absurd c9 (by decide))
  refine s_iload_n (pc' := 10) dJ1_indexOf_4cfef_9 rfl lg2 ?_
  refine s_iconst (pc' := 11) dJ1_indexOf_4cfef_10 rfl iconst_0 ?_
  refine c_J9_max_7cf53  (pc' := 14) dJ1_indexOf_4cfef_11 rfl lkJ1_92 (by omega) (Nat.le_of_ble_eq_true rfl) ?_
  refine s_istore_n (pc' := 15) dJ1_indexOf_4cfef_14 rfl (Nat.le_of_ble_eq_true rfl) rfl ls2 ?_
  refine s_iload_n (pc' := 16) dJ1_indexOf_4cfef_15 rfl lg3 ?_
  refine s_aload_n (pc' := 17) dJ1_indexOf_4cfef_16 rfl lg0 rfl ?_
  refine s_tblen (pc' := 18) (j := 1) (by decide) dJ1_indexOf_4cfef_17 rfl ?_
  refine c_J9_min_7cf53  (pc' := 21) dJ1_indexOf_4cfef_18 rfl lkJ1_38 (by omega) (Nat.le_of_ble_eq_true rfl) ?_
  refine s_istore_n (pc' := 22) dJ1_indexOf_4cfef_21 rfl (Nat.le_of_ble_eq_true rfl) rfl ls3 ?_
  refine s_iload_n (pc' := 23) dJ1_indexOf_4cfef_22 rfl lg2 ?_
  refine s_iload_n (pc' := 24) dJ1_indexOf_4cfef_23 rfl lg3 ?_
  rw [show mxI 0 0 = 0 from by decide, show mnI 8 (nI (am_sl 1)) = 8 from by decide]
  refine s_icmp_lt (pc' := 27) (tgt := 29) dJ1_indexOf_4cfef_24 rfl (by decide) (fun _ => ?_) (fun c9 => absurd (by decide) c9)
  refine s_aload_n (pc' := 30) dJ1_indexOf_4cfef_29 rfl lg0 rfl ?_
  refine s_iload_n (pc' := 31) dJ1_indexOf_4cfef_30 rfl lg1 ?_
  refine s_iload_n (pc' := 32) dJ1_indexOf_4cfef_31 rfl lg2 ?_
  refine s_iload_n (pc' := 33) dJ1_indexOf_4cfef_32 rfl lg3 ?_
  refine c_J1_indexOfChar_4cfef  (pc' := 36) dJ1_indexOf_4cfef_33 rfl lkJ1_95 (by omega) (Nat.le_of_ble_eq_true rfl) hc ?_
  refine s_iret dJ1_indexOf_4cfef_36 rfl (vp_nar_int _) ?_
  exact K
theorem c_J1_indexOf_4cfef {z : Zz} {d kc ks : Nat} {mi : MI} {pc pc' : Nat} {L S : List Value} {Q : Option Value → Lay → Mem → Prop} {lay : Lay} {mem : Mem} {c : Nat} {idx : Nat} (hd : decode mi.2.1 pc = .ok (.invokestatic idx, 3)) (hp : pc + 3 = pc') (hlk : Cond.methodLink mi.1.cls idx yJ1_indexOf_4cfef ∈ wok) (hdd : 1 + 1 ≤ d) (hcat : (S.map (fun v => v.category)).sum ≤ 8) (hc : c < 256) (K :  Sim z d kc ks mi pc' L (.int (sgI (nI c)) :: S) lay mem Q) : Sim z d kc ks mi pc L (.int 8 :: .int 0 :: .int (nI c) :: .retAddr 6 :: S) (lay) mem Q :=
  s_invS (d2 := 1) hd hp okJ1_indexOf_4cfef hlk stJ1_indexOf_4cfef hdd (Nat.zero_add _) (Nat.zero_add _) rfl rfl hcat (Nat.le_of_ble_eq_true rfl) (m_J1_indexOf_4cfef (Nat.le_refl _) hc K)
set_option maxHeartbeats 4000000 in
theorem m_J0_indexOf_7cf53 {z : Zz} {d : Nat} {Q : Option Value → Lay → Mem → Prop} {lay : Lay} {mem : Mem} {c : Nat} (hdd : 2 ≤ d) (hc : c < 256) (K :  Q (some (.int (sgI (nI c)))) lay mem) : Sim z d 0 0 mJ0_indexOf_7cf53 0 [.retAddr 4, .int (nI c), .int 0] [] (lay) mem Q := by
  refine s_aload_n (pc' := 1) dJ0_indexOf_7cf53_0 rfl lg0 rfl ?_
  refine c_J0_isLatin1_aae02_4  (pc' := 4) dJ0_indexOf_7cf53_1 rfl lkJ0_492 (by omega) (Nat.le_of_ble_eq_true rfl) ?_
  refine s_if_eq (pc' := 7) (tgt := 23) dJ0_indexOf_7cf53_4 rfl (by decide) (fun c9 => absurd c9 (by decide)) (fun _ => ?_)
  refine s_aload_n (pc' := 8) dJ0_indexOf_7cf53_7 rfl lg0 rfl ?_
  refine s_strv (pc' := 11) (j := 1) (by decide) dJ0_indexOf_7cf53_8 rfl kfJ0_9 ?_
  refine s_iload_n (pc' := 12) dJ0_indexOf_7cf53_11 rfl lg1 ?_
  refine s_iload_n (pc' := 13) dJ0_indexOf_7cf53_12 rfl lg2 ?_
  refine s_aload_n (pc' := 14) dJ0_indexOf_7cf53_13 rfl lg0 rfl ?_
  refine c_J0_length_8abf5  (pc' := 17) dJ0_indexOf_7cf53_14 rfl lkJ0_505 (by omega) (Nat.le_of_ble_eq_true rfl) ?_
  refine c_J1_indexOf_4cfef  (pc' := 20) dJ0_indexOf_7cf53_17 rfl lkJ0_637 (by omega) (Nat.le_of_ble_eq_true rfl) hc ?_
  refine s_goto (tgt := 36) dJ0_indexOf_7cf53_20 (by decide) ?_
  refine s_iret dJ0_indexOf_7cf53_36 rfl (vp_nar_int _) ?_
  exact K
theorem c_J0_indexOf_7cf53 {z : Zz} {d kc ks : Nat} {mi : MI} {pc pc' : Nat} {L S : List Value} {Q : Option Value → Lay → Mem → Prop} {lay : Lay} {mem : Mem} {c : Nat} {idx : Nat} (hd : decode mi.2.1 pc = .ok (.invokevirtual idx, 3)) (hp : pc + 3 = pc') (hlk : Cond.methodLink mi.1.cls idx yJ0_indexOf_7cf53 ∈ wok) (hdd : 2 + 1 ≤ d) (hcat : (S.map (fun v => v.category)).sum ≤ 8) (hc : c < 256) (K :  Sim z d kc ks mi pc' L (.int (sgI (nI c)) :: S) lay mem Q) : Sim z d kc ks mi pc L (.int 0 :: .int (nI c) :: .retAddr 4 :: S) (lay) mem Q :=
  s_invVs (d2 := 2) (j := 1) hd hp okJ0_indexOf_7cf53 hlk inJ0_indexOf_7cf53 seJ0_indexOf_7cf53 hdd (Nat.zero_add _) (Nat.zero_add _) rfl (by decide) rfl rfl hcat (Nat.le_of_ble_eq_true rfl) (m_J0_indexOf_7cf53 (Nat.le_refl _) hc K)
set_option maxHeartbeats 4000000 in
theorem m_J0_indexOf_0f7a4 {z : Zz} {d : Nat} {Q : Option Value → Lay → Mem → Prop} {lay : Lay} {mem : Mem} {c : Nat} (hdd : 3 ≤ d) (hc : c < 256) (K :  Q (some (.int (sgI (nI c)))) lay mem) : Sim z d 0 0 mJ0_indexOf_0f7a4 0 [.retAddr 4, .int (nI c)] [] (lay) mem Q := by
  refine s_aload_n (pc' := 1) dJ0_indexOf_0f7a4_0 rfl lg0 rfl ?_
  refine s_iload_n (pc' := 2) dJ0_indexOf_0f7a4_1 rfl lg1 ?_
  refine s_iconst (pc' := 3) dJ0_indexOf_0f7a4_2 rfl iconst_0 ?_
  refine c_J0_indexOf_7cf53  (pc' := 6) dJ0_indexOf_0f7a4_3 rfl lkJ0_633 (by omega) (Nat.le_of_ble_eq_true rfl) hc ?_
  refine s_iret dJ0_indexOf_0f7a4_6 rfl (vp_nar_int _) ?_
  exact K
theorem c_J0_indexOf_0f7a4 {z : Zz} {d kc ks : Nat} {mi : MI} {pc pc' : Nat} {L S : List Value} {Q : Option Value → Lay → Mem → Prop} {lay : Lay} {mem : Mem} {c : Nat} {idx : Nat} (hd : decode mi.2.1 pc = .ok (.invokevirtual idx, 3)) (hp : pc + 3 = pc') (hlk : Cond.methodLink mi.1.cls idx yJ0_indexOf_0f7a4 ∈ wok) (hdd : 3 + 1 ≤ d) (hcat : (S.map (fun v => v.category)).sum ≤ 8) (hc : c < 256) (K :  Sim z d kc ks mi pc' L (.int (sgI (nI c)) :: S) lay mem Q) : Sim z d kc ks mi pc L (.int (nI c) :: .retAddr 4 :: S) (lay) mem Q :=
  s_invVs (d2 := 3) (j := 1) hd hp okJ0_indexOf_0f7a4 hlk inJ0_indexOf_0f7a4 seJ0_indexOf_0f7a4 hdd (Nat.zero_add _) (Nat.zero_add _) rfl (by decide) rfl rfl hcat (Nat.le_of_ble_eq_true rfl) (m_J0_indexOf_0f7a4 (Nat.le_refl _) hc K)

