/-! ===== the two strings ===== -/
theorem am_sbW : ∀ k : Fin 96, ((am_sb 0 k.1 &&& 255).toUInt32.toUInt16.toUInt32.toInt32 = am_sb 0 k.1) := by decide +kernel
set_option maxHeartbeats 4000000 in
theorem m_J0_isLatin1_aae02_3 {z : Zz} {d : Nat} {Q : Option Value → Lay → Mem → Prop} {lay : Lay} {mem : Mem}  (hdd : 0 ≤ d)  (K :  Q (some (.int 1)) lay mem) : Sim z d 0 0 mJ0_isLatin1_aae02 0 [.retAddr 3] [] (lay) mem Q := by
  refine s_gCmp (pc' := 3) dJ0_isLatin1_aae02_0 rfl kfJ0_38 ?_
  refine s_if_eq (pc' := 6) (tgt := 17) dJ0_isLatin1_aae02_3 rfl (by decide) (fun c9 => absurd c9 (by decide)) (fun _ => ?_)
  refine s_aload_n (pc' := 7) dJ0_isLatin1_aae02_6 rfl lg0 rfl ?_
  refine s_strc (pc' := 10) (j := 0) (by decide) dJ0_isLatin1_aae02_7 rfl kfJ0_15 ?_
  refine s_if_ne (pc' := 13) (tgt := 17) dJ0_isLatin1_aae02_10 rfl (by decide) (fun c9 => absurd (by decide) c9) (fun _ => ?_)
  refine s_iconst (pc' := 14) dJ0_isLatin1_aae02_13 rfl iconst_1 ?_
  refine s_goto (tgt := 18) dJ0_isLatin1_aae02_14 (by decide) ?_
  refine s_iret dJ0_isLatin1_aae02_18 rfl (by decide) ?_
  exact K
theorem c_J0_isLatin1_aae02_3 {z : Zz} {d kc ks : Nat} {mi : MI} {pc pc' : Nat} {L S : List Value} {Q : Option Value → Lay → Mem → Prop} {lay : Lay} {mem : Mem}  {idx : Nat} (hd : decode mi.2.1 pc = .ok (.invokevirtual idx, 3)) (hp : pc + 3 = pc') (hlk : Cond.methodLink mi.1.cls idx yJ0_isLatin1_aae02 ∈ wok) (hdd : 0 + 1 ≤ d) (hcat : (S.map (fun v => v.category)).sum ≤ 8)  (K :  Sim z d kc ks mi pc' L (.int 1 :: S) lay mem Q) : Sim z d kc ks mi pc L (.retAddr 3 :: S) (lay) mem Q :=
  s_invVs (d2 := 0) (j := 0) hd hp okJ0_isLatin1_aae02 hlk inJ0_isLatin1_aae02 seJ0_isLatin1_aae02 hdd (Nat.zero_add _) (Nat.zero_add _) rfl (by decide) rfl rfl hcat (Nat.le_of_ble_eq_true rfl) (m_J0_isLatin1_aae02_3 (Nat.le_refl _)  K)
set_option maxHeartbeats 4000000 in
theorem m_J0_isLatin1_aae02_4 {z : Zz} {d : Nat} {Q : Option Value → Lay → Mem → Prop} {lay : Lay} {mem : Mem}  (hdd : 0 ≤ d)  (K :  Q (some (.int 1)) lay mem) : Sim z d 0 0 mJ0_isLatin1_aae02 0 [.retAddr 4] [] (lay) mem Q := by
  refine s_gCmp (pc' := 3) dJ0_isLatin1_aae02_0 rfl kfJ0_38 ?_
  refine s_if_eq (pc' := 6) (tgt := 17) dJ0_isLatin1_aae02_3 rfl (by decide) (fun c9 => absurd c9 (by decide)) (fun _ => ?_)
  refine s_aload_n (pc' := 7) dJ0_isLatin1_aae02_6 rfl lg0 rfl ?_
  refine s_strc (pc' := 10) (j := 1) (by decide) dJ0_isLatin1_aae02_7 rfl kfJ0_15 ?_
  refine s_if_ne (pc' := 13) (tgt := 17) dJ0_isLatin1_aae02_10 rfl (by decide) (fun c9 => absurd (by decide) c9) (fun _ => ?_)
  refine s_iconst (pc' := 14) dJ0_isLatin1_aae02_13 rfl iconst_1 ?_
  refine s_goto (tgt := 18) dJ0_isLatin1_aae02_14 (by decide) ?_
  refine s_iret dJ0_isLatin1_aae02_18 rfl (by decide) ?_
  exact K
theorem c_J0_isLatin1_aae02_4 {z : Zz} {d kc ks : Nat} {mi : MI} {pc pc' : Nat} {L S : List Value} {Q : Option Value → Lay → Mem → Prop} {lay : Lay} {mem : Mem}  {idx : Nat} (hd : decode mi.2.1 pc = .ok (.invokevirtual idx, 3)) (hp : pc + 3 = pc') (hlk : Cond.methodLink mi.1.cls idx yJ0_isLatin1_aae02 ∈ wok) (hdd : 0 + 1 ≤ d) (hcat : (S.map (fun v => v.category)).sum ≤ 8)  (K :  Sim z d kc ks mi pc' L (.int 1 :: S) lay mem Q) : Sim z d kc ks mi pc L (.retAddr 4 :: S) (lay) mem Q :=
  s_invVs (d2 := 0) (j := 1) hd hp okJ0_isLatin1_aae02 hlk inJ0_isLatin1_aae02 seJ0_isLatin1_aae02 hdd (Nat.zero_add _) (Nat.zero_add _) rfl (by decide) rfl rfl hcat (Nat.le_of_ble_eq_true rfl) (m_J0_isLatin1_aae02_4 (Nat.le_refl _)  K)
set_option maxHeartbeats 4000000 in
theorem m_J0_coder_7d493 {z : Zz} {d : Nat} {Q : Option Value → Lay → Mem → Prop} {lay : Lay} {mem : Mem}  (hdd : 0 ≤ d)  (K :  Q (some (.int 0)) lay mem) : Sim z d 0 0 mJ0_coder_7d493 0 [.retAddr 4] [] (lay) mem Q := by
  refine s_gCmp (pc' := 3) dJ0_coder_7d493_0 rfl kfJ0_38 ?_
  refine s_if_eq (pc' := 6) (tgt := 13) dJ0_coder_7d493_3 rfl (by decide) (fun c9 => absurd c9 (by decide)) (fun _ => ?_)
  refine s_aload_n (pc' := 7) dJ0_coder_7d493_6 rfl lg0 rfl ?_
  refine s_strc (pc' := 10) (j := 1) (by decide) dJ0_coder_7d493_7 rfl kfJ0_15 ?_
  refine s_goto (tgt := 14) dJ0_coder_7d493_10 (by decide) ?_
  refine s_iret dJ0_coder_7d493_14 rfl (by decide) ?_
  exact K
theorem c_J0_coder_7d493 {z : Zz} {d kc ks : Nat} {mi : MI} {pc pc' : Nat} {L S : List Value} {Q : Option Value → Lay → Mem → Prop} {lay : Lay} {mem : Mem}  {idx : Nat} (hd : decode mi.2.1 pc = .ok (.invokevirtual idx, 3)) (hp : pc + 3 = pc') (hlk : Cond.methodLink mi.1.cls idx yJ0_coder_7d493 ∈ wok) (hdd : 0 + 1 ≤ d) (hcat : (S.map (fun v => v.category)).sum ≤ 8)  (K :  Sim z d kc ks mi pc' L (.int 0 :: S) lay mem Q) : Sim z d kc ks mi pc L (.retAddr 4 :: S) (lay) mem Q :=
  s_invVs (d2 := 0) (j := 1) hd hp okJ0_coder_7d493 hlk inJ0_coder_7d493 seJ0_coder_7d493 hdd (Nat.zero_add _) (Nat.zero_add _) rfl (by decide) rfl rfl hcat (Nat.le_of_ble_eq_true rfl) (m_J0_coder_7d493 (Nat.le_refl _)  K)
set_option maxHeartbeats 4000000 in
theorem m_J0_length_8abf5 {z : Zz} {d : Nat} {Q : Option Value → Lay → Mem → Prop} {lay : Lay} {mem : Mem}  (hdd : 1 ≤ d)  (K :  Q (some (.int 8)) lay mem) : Sim z d 0 0 mJ0_length_8abf5 0 [.retAddr 4] [] (lay) mem Q := by
  refine s_aload_n (pc' := 1) dJ0_length_8abf5_0 rfl lg0 rfl ?_
  refine s_strv (pc' := 4) (j := 1) (by decide) dJ0_length_8abf5_1 rfl kfJ0_9 ?_
  refine s_tblen (pc' := 5) (j := 1) (by decide) dJ0_length_8abf5_4 rfl ?_
  refine s_aload_n (pc' := 6) dJ0_length_8abf5_5 rfl lg0 rfl ?_
  refine c_J0_coder_7d493 (pc' := 9) dJ0_length_8abf5_6 rfl lkJ0_335 (by omega) (Nat.le_of_ble_eq_true rfl)  ?_
  refine s_ishr (pc' := 10) dJ0_length_8abf5_9 rfl ?_
  refine s_iret dJ0_length_8abf5_10 rfl (vp_nar_int _) ?_
  exact K
theorem c_J0_length_8abf5 {z : Zz} {d kc ks : Nat} {mi : MI} {pc pc' : Nat} {L S : List Value} {Q : Option Value → Lay → Mem → Prop} {lay : Lay} {mem : Mem}  {idx : Nat} (hd : decode mi.2.1 pc = .ok (.invokevirtual idx, 3)) (hp : pc + 3 = pc') (hlk : Cond.methodLink mi.1.cls idx yJ0_length_8abf5 ∈ wok) (hdd : 1 + 1 ≤ d) (hcat : (S.map (fun v => v.category)).sum ≤ 8)  (K :  Sim z d kc ks mi pc' L (.int 8 :: S) lay mem Q) : Sim z d kc ks mi pc L (.retAddr 4 :: S) (lay) mem Q :=
  s_invVs (d2 := 1) (j := 1) hd hp okJ0_length_8abf5 hlk inJ0_length_8abf5 seJ0_length_8abf5 hdd (Nat.zero_add _) (Nat.zero_add _) rfl (by decide) rfl rfl hcat (Nat.le_of_ble_eq_true rfl) (m_J0_length_8abf5 (Nat.le_refl _)  K)
set_option maxHeartbeats 4000000 in
theorem m_J3_checkIndex_8e157 {z : Zz} {d : Nat} {Q : Option Value → Lay → Mem → Prop} {lay : Lay} {mem : Mem} {k n : Nat} (hdd : 0 ≤ d) (hk : k < n) (hn : n ≤ 100000) (K :  Q (some (.int (nI k))) lay mem) : Sim z d 0 0 mJ3_checkIndex_8e157 0 [.int (nI k), .int (nI n), .retAddr 7] [] (lay) mem Q := by
  refine s_iload_n (pc' := 1) dJ3_checkIndex_8e157_0 rfl lg0 ?_
  refine s_if_lt (pc' := 4) (tgt := 9) dJ3_checkIndex_8e157_1 rfl (by decide) (fun c9 => absurd c9 (nI_pos (by omega))) (fun _ => ?_)
  refine s_iload_n (pc' := 5) dJ3_checkIndex_8e157_4 rfl lg0 ?_
  refine s_iload_n (pc' := 6) dJ3_checkIndex_8e157_5 rfl lg1 ?_
  refine s_icmp_lt (pc' := 9) (tgt := 16) dJ3_checkIndex_8e157_6 rfl (by decide) (fun _ => ?_) (fun c9 => absurd (nI_lt hk (by omega)) c9)
  refine s_iload_n (pc' := 17) dJ3_checkIndex_8e157_16 rfl lg0 ?_
  refine s_iret dJ3_checkIndex_8e157_17 rfl (vp_nar_int _) ?_
  exact K
theorem c_J3_checkIndex_8e157 {z : Zz} {d kc ks : Nat} {mi : MI} {pc pc' : Nat} {L S : List Value} {Q : Option Value → Lay → Mem → Prop} {lay : Lay} {mem : Mem} {k n : Nat} {idx : Nat} (hd : decode mi.2.1 pc = .ok (.invokestatic idx, 3)) (hp : pc + 3 = pc') (hlk : Cond.methodLink mi.1.cls idx yJ3_checkIndex_8e157 ∈ wok) (hdd : 0 + 1 ≤ d) (hcat : (S.map (fun v => v.category)).sum ≤ 8) (hk : k < n) (hn : n ≤ 100000) (K :  Sim z d kc ks mi pc' L (.int (nI k) :: S) lay mem Q) : Sim z d kc ks mi pc L (.retAddr 7 :: .int (nI n) :: .int (nI k) :: S) (lay) mem Q :=
  s_invS (d2 := 0) hd hp okJ3_checkIndex_8e157 hlk stJ3_checkIndex_8e157 hdd (Nat.zero_add _) (Nat.zero_add _) rfl rfl hcat (Nat.le_of_ble_eq_true rfl) (m_J3_checkIndex_8e157 (Nat.le_refl _) hk hn K)
set_option maxHeartbeats 4000000 in
theorem m_J0_checkIndex_df160 {z : Zz} {d : Nat} {Q : Option Value → Lay → Mem → Prop} {lay : Lay} {mem : Mem} {k n : Nat} (hdd : 1 ≤ d) (hk : k < n) (hn : n ≤ 100000) (K :  Q none lay mem) : Sim z d 0 0 mJ0_checkIndex_df160 0 [.int (nI k), .int (nI n)] [] (lay) mem Q := by
  refine s_iload_n (pc' := 1) dJ0_checkIndex_df160_0 rfl lg0 ?_
  refine s_iload_n (pc' := 2) dJ0_checkIndex_df160_1 rfl lg1 ?_
  refine s_gFmt (pc' := 5) dJ0_checkIndex_df160_2 rfl kfJ0_1053 ?_
  refine c_J3_checkIndex_8e157  (pc' := 8) dJ0_checkIndex_df160_5 rfl lkJ0_1059 (by omega) (Nat.le_of_ble_eq_true rfl) hk hn ?_
  refine s_pop (pc' := 9) dJ0_checkIndex_df160_8 rfl rfl ?_
  refine s_vret dJ0_checkIndex_df160_9 rfl ?_
  exact K
theorem c_J0_checkIndex_df160 {z : Zz} {d kc ks : Nat} {mi : MI} {pc pc' : Nat} {L S : List Value} {Q : Option Value → Lay → Mem → Prop} {lay : Lay} {mem : Mem} {k n : Nat} {idx : Nat} (hd : decode mi.2.1 pc = .ok (.invokestatic idx, 3)) (hp : pc + 3 = pc') (hlk : Cond.methodLink mi.1.cls idx yJ0_checkIndex_df160 ∈ wok) (hdd : 1 + 1 ≤ d) (hcat : (S.map (fun v => v.category)).sum ≤ 8) (hk : k < n) (hn : n ≤ 100000) (K :  Sim z d kc ks mi pc' L S lay mem Q) : Sim z d kc ks mi pc L (.int (nI n) :: .int (nI k) :: S) (lay) mem Q :=
  s_invS (d2 := 1) hd hp okJ0_checkIndex_df160 hlk stJ0_checkIndex_df160 hdd (Nat.zero_add _) (Nat.zero_add _) rfl rfl hcat (Nat.le_of_ble_eq_true rfl) (m_J0_checkIndex_df160 (Nat.le_refl _) hk hn K)

