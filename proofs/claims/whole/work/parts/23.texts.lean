/-! ===== Texts: names, the two deeds, a part of a text told ===== -/
set_option maxHeartbeats 4000000 in
theorem m_X5_names {z : Zz} {d : Nat} {Q : Option Value → Lay → Mem → Prop} {rf : Nat → Value} {tl : Lay} {mem : Mem}  {v0 v1 v2 v3 v4 v5 : Int32} (hdd : 0 ≤ d)  (K : ∀ mem', (∀ j, j ≠ 3 → mem' j = mem j) → (mem' 3 0 = v0 ∧ mem' 3 1 = v1 ∧ mem' 3 2 = v2 ∧ mem' 3 3 = v3 ∧ mem' 3 4 = v4 ∧ mem' 3 5 = v5) → Q none (LAY rf tl) mem') : Sim z d 0 0 mX5_names 0 [.ref 1, .int v0, .int v1, .int v2, .int v3, .int v4, .int v5] [] (LAY rf tl) mem Q := by
  refine s_aload_n (pc' := 1) dX5_names_0 rfl lg0 rfl ?_
  refine s_getRv (pc' := 4) (v := .ref 3) dX5_names_1 rfl flX5_17 ly1 (by decide) rfl rfl ?_
  refine s_iconst (pc' := 5) dX5_names_4 rfl iconst_0 ?_
  refine s_iload_n (pc' := 6) dX5_names_5 rfl lg1 ?_
  refine s_iastN (pc' := 7) (k := 0) dX5_names_6 rfl ly3 (by decide) (by decide) ?_
  refine s_aload_n (pc' := 8) dX5_names_7 rfl lg0 rfl ?_
  refine s_getRv (pc' := 11) (v := .ref 3) dX5_names_8 rfl flX5_17 ly1 (by decide) rfl rfl ?_
  refine s_iconst (pc' := 12) dX5_names_11 rfl iconst_1 ?_
  refine s_iload_n (pc' := 13) dX5_names_12 rfl lg2 ?_
  refine s_iastN (pc' := 14) (k := 1) dX5_names_13 rfl ly3 (by decide) (by decide) ?_
  refine s_aload_n (pc' := 15) dX5_names_14 rfl lg0 rfl ?_
  refine s_getRv (pc' := 18) (v := .ref 3) dX5_names_15 rfl flX5_17 ly1 (by decide) rfl rfl ?_
  refine s_iconst (pc' := 19) dX5_names_18 rfl iconst_2 ?_
  refine s_iload_n (pc' := 20) dX5_names_19 rfl lg3 ?_
  refine s_iastN (pc' := 21) (k := 2) dX5_names_20 rfl ly3 (by decide) (by decide) ?_
  refine s_aload_n (pc' := 22) dX5_names_21 rfl lg0 rfl ?_
  refine s_getRv (pc' := 25) (v := .ref 3) dX5_names_22 rfl flX5_17 ly1 (by decide) rfl rfl ?_
  refine s_iconst (pc' := 26) dX5_names_25 rfl iconst_3 ?_
  refine s_iload (pc' := 28) dX5_names_26 rfl lg4 ?_
  refine s_iastN (pc' := 29) (k := 3) dX5_names_28 rfl ly3 (by decide) (by decide) ?_
  refine s_aload_n (pc' := 30) dX5_names_29 rfl lg0 rfl ?_
  refine s_getRv (pc' := 33) (v := .ref 3) dX5_names_30 rfl flX5_17 ly1 (by decide) rfl rfl ?_
  refine s_iconst (pc' := 34) dX5_names_33 rfl iconst_4 ?_
  refine s_iload (pc' := 36) dX5_names_34 rfl lg5 ?_
  refine s_iastN (pc' := 37) (k := 4) dX5_names_36 rfl ly3 (by decide) (by decide) ?_
  refine s_aload_n (pc' := 38) dX5_names_37 rfl lg0 rfl ?_
  refine s_getRv (pc' := 41) (v := .ref 3) dX5_names_38 rfl flX5_17 ly1 (by decide) rfl rfl ?_
  refine s_iconst (pc' := 42) dX5_names_41 rfl iconst_5 ?_
  refine s_iload (pc' := 44) dX5_names_42 rfl lg6 ?_
  refine s_iastN (pc' := 45) (k := 5) dX5_names_44 rfl ly3 (by decide) (by decide) ?_
  refine s_vret dX5_names_45 rfl ?_
  refine K _ (fun j hj => by simp [am_up, hj]) ?_
  simp [am_up, upd]
theorem c_X5_names {z : Zz} {d kc ks : Nat} {mi : MI} {pc pc' : Nat} {L S : List Value} {Q : Option Value → Lay → Mem → Prop} {rf : Nat → Value} {tl : Lay} {mem : Mem}  {v0 v1 v2 v3 v4 v5 : Int32} {idx : Nat} (hd : decode mi.2.1 pc = .ok (.invokevirtual idx, 3)) (hp : pc + 3 = pc') (hlk : Cond.methodLink mi.1.cls idx yX5_names ∈ wok) (hdd : 0 + 1 ≤ d) (hcat : (S.map (fun v => v.category)).sum ≤ 8)  (K : ∀ mem', (∀ j, j ≠ 3 → mem' j = mem j) → (mem' 3 0 = v0 ∧ mem' 3 1 = v1 ∧ mem' 3 2 = v2 ∧ mem' 3 3 = v3 ∧ mem' 3 4 = v4 ∧ mem' 3 5 = v5) → Sim z d kc ks mi pc' L S (LAY rf tl) mem' Q) : Sim z d kc ks mi pc L (.int v5 :: .int v4 :: .int v3 :: .int v2 :: .int v1 :: .int v0 :: .ref 1 :: S) (LAY rf tl) mem Q :=
  s_invV (d2 := 0) hd hp okX5_names hlk inX5_names seX5_names hdd (Nat.zero_add _) (Nat.zero_add _) rfl rfl ly1 rfl hcat (Nat.le_of_ble_eq_true rfl) (m_X5_names (Nat.le_refl _)  K)
def alI (tk x : Int32) : Int32 := if tk = 23 then -x else if x = 0 then 1 else 0
set_option maxHeartbeats 4000000 in
theorem m_X5_alone {z : Zz} {d : Nat} {Q : Option Value → Lay → Mem → Prop} {lay : Lay} {mem : Mem} {tk x : Int32} (hdd : 0 ≤ d)  (K :  Q (some (.int (alI tk x))) lay mem) : Sim z d 0 0 mX5_alone 0 [.int tk, .int x] [] (lay) mem Q := by
  refine s_iload_n (pc' := 1) dX5_alone_0 rfl lg0 ?_
  refine s_bipush (pc' := 3) dX5_alone_1 rfl bipush_23 ?_
  refine s_icmp_ne (pc' := 6) (tgt := 9) dX5_alone_3 rfl (by decide) (fun c1 => ?_) (fun c1 => ?_)
  · refine s_iload_n (pc' := 10) dX5_alone_9 rfl lg1 ?_
    refine s_if_ne (pc' := 13) (tgt := 17) dX5_alone_10 rfl (by decide) (fun c2 => ?_) (fun c2 => ?_)
    · refine s_iconst (pc' := 18) dX5_alone_17 rfl iconst_0 ?_
      refine s_iret dX5_alone_18 rfl (vp_nar_int _) ?_
      (simpa [alI, c1, c2] using K)
    · refine s_iconst (pc' := 14) dX5_alone_13 rfl iconst_1 ?_
      refine s_goto (tgt := 18) dX5_alone_14 (by decide) ?_
      refine s_iret dX5_alone_18 rfl (vp_nar_int _) ?_
      (simpa [alI, c1, c2] using K)
  · refine s_iload_n (pc' := 7) dX5_alone_6 rfl lg1 ?_
    refine s_ineg (pc' := 8) dX5_alone_7 rfl ?_
    refine s_iret dX5_alone_8 rfl (vp_nar_int _) ?_
    (simpa [alI, c1] using K)
theorem c_X5_alone {z : Zz} {d kc ks : Nat} {mi : MI} {pc pc' : Nat} {L S : List Value} {Q : Option Value → Lay → Mem → Prop} {lay : Lay} {mem : Mem} {tk x : Int32} {idx : Nat} (hd : decode mi.2.1 pc = .ok (.invokestatic idx, 3)) (hp : pc + 3 = pc') (hlk : Cond.methodLink mi.1.cls idx yX5_alone ∈ wok) (hdd : 0 + 1 ≤ d) (hcat : (S.map (fun v => v.category)).sum ≤ 8)  (K :  Sim z d kc ks mi pc' L (.int (alI tk x) :: S) lay mem Q) : Sim z d kc ks mi pc L (.int x :: .int tk :: S) (lay) mem Q :=
  s_invS (d2 := 0) hd hp okX5_alone hlk stX5_alone hdd (Nat.zero_add _) (Nat.zero_add _) rfl rfl hcat (Nat.le_of_ble_eq_true rfl) (m_X5_alone (Nat.le_refl _)  K)
def jnI (tk x y : Int32) : Int32 :=
  if tk = 9 then (if x = 0 then (if y = 0 then 0 else 1) else 1)
  else if tk = 10 then (if x = 0 then 0 else if y = 0 then 0 else 1)
  else if tk = 18 then (if y ≤ x then 0 else 1)
  else if tk = 19 then (if x = y then 1 else 0)
  else if tk = 15 then x + y
  else if tk = 16 then x - y
  else x * y
set_option maxHeartbeats 4000000 in
theorem m_X5_joined {z : Zz} {d : Nat} {Q : Option Value → Lay → Mem → Prop} {lay : Lay} {mem : Mem} {tk x y : Int32} (hdd : 0 ≤ d)  (K :  Q (some (.int (jnI tk x y))) lay mem) : Sim z d 0 0 mX5_joined 0 [.int tk, .int x, .int y] [] (lay) mem Q := by
  refine s_iload_n (pc' := 1) dX5_joined_0 rfl lg0 ?_
  refine s_ts11 (v0 := 9) (v1 := 10) (v2 := 11) (v3 := 12) (v4 := 13) (v5 := 14) (v6 := 15) (v7 := 16) (v8 := 17) (v9 := 18) (v10 := 19) (t0 := 60) (t1 := 74) (t2 := 118) (t3 := 118) (t4 := 118) (t5 := 118) (t6 := 110) (t7 := 114) (t8 := 118) (t9 := 88) (t10 := 99) (td := 118) dX5_joined_1 (by decide) (by decide) (by decide) (by decide) (by decide) (by decide) (by decide) (by decide) (by decide) (by decide) (by decide) (by decide) (by decide) (by decide) (by decide) (by decide) (by decide) (by decide) (by decide) (by decide) (by decide) (by decide) (by decide) (by decide) (fun e3 => ?_) (fun e3 => ?_) (fun e3 => ?_) (fun e3 => ?_) (fun e3 => ?_) (fun e3 => ?_) (fun e3 => ?_) (fun e3 => ?_) (fun e3 => ?_) (fun e3 => ?_) (fun e3 => ?_) (fun e3_0 e3_1 e3_2 e3_3 e3_4 e3_5 e3_6 e3_7 e3_8 e3_9 e3_10 => ?_)
  · refine s_iload_n (pc' := 61) dX5_joined_60 rfl lg1 ?_
    refine s_if_ne (pc' := 64) (tgt := 68) dX5_joined_61 rfl (by decide) (fun c4 => ?_) (fun c4 => ?_)
    · refine s_iconst (pc' := 69) dX5_joined_68 rfl iconst_1 ?_
      refine s_goto (tgt := 73) dX5_joined_69 (by decide) ?_
      refine s_iret dX5_joined_73 rfl (vp_nar_int _) ?_
      (first | (simp [jnI, e3, c4] at K; exact K) | (simpa [jnI, e3, c4] using K))
    · refine s_iload_n (pc' := 65) dX5_joined_64 rfl lg2 ?_
      refine s_if_eq (pc' := 68) (tgt := 72) dX5_joined_65 rfl (by decide) (fun c5 => ?_) (fun c5 => ?_)
      · refine s_iconst (pc' := 73) dX5_joined_72 rfl iconst_0 ?_
        refine s_iret dX5_joined_73 rfl (vp_nar_int _) ?_
        (first | (simp [jnI, e3, c4, c5] at K; exact K) | (simpa [jnI, e3, c4, c5] using K))
      · refine s_iconst (pc' := 69) dX5_joined_68 rfl iconst_1 ?_
        refine s_goto (tgt := 73) dX5_joined_69 (by decide) ?_
        refine s_iret dX5_joined_73 rfl (vp_nar_int _) ?_
        (first | (simp [jnI, e3, c4, c5] at K; exact K) | (simpa [jnI, e3, c4, c5] using K))
  · refine s_iload_n (pc' := 75) dX5_joined_74 rfl lg1 ?_
    refine s_if_eq (pc' := 78) (tgt := 86) dX5_joined_75 rfl (by decide) (fun c6 => ?_) (fun c6 => ?_)
    · refine s_iconst (pc' := 87) dX5_joined_86 rfl iconst_0 ?_
      refine s_iret dX5_joined_87 rfl (vp_nar_int _) ?_
      (first | (simp [jnI, e3, c6] at K; exact K) | (simpa [jnI, e3, c6] using K))
    · refine s_iload_n (pc' := 79) dX5_joined_78 rfl lg2 ?_
      refine s_if_eq (pc' := 82) (tgt := 86) dX5_joined_79 rfl (by decide) (fun c7 => ?_) (fun c7 => ?_)
      · refine s_iconst (pc' := 87) dX5_joined_86 rfl iconst_0 ?_
        refine s_iret dX5_joined_87 rfl (vp_nar_int _) ?_
        (first | (simp [jnI, e3, c6, c7] at K; exact K) | (simpa [jnI, e3, c6, c7] using K))
      · refine s_iconst (pc' := 83) dX5_joined_82 rfl iconst_1 ?_
        refine s_goto (tgt := 87) dX5_joined_83 (by decide) ?_
        refine s_iret dX5_joined_87 rfl (vp_nar_int _) ?_
        (first | (simp [jnI, e3, c6, c7] at K; exact K) | (simpa [jnI, e3, c6, c7] using K))
  · refine s_iload_n (pc' := 119) dX5_joined_118 rfl lg1 ?_
    refine s_iload_n (pc' := 120) dX5_joined_119 rfl lg2 ?_
    refine s_imul (pc' := 121) dX5_joined_120 rfl ?_
    refine s_iret dX5_joined_121 rfl (vp_nar_int _) ?_
    (first | (simp [jnI, e3] at K; exact K) | (simpa [jnI, e3] using K))
  · refine s_iload_n (pc' := 119) dX5_joined_118 rfl lg1 ?_
    refine s_iload_n (pc' := 120) dX5_joined_119 rfl lg2 ?_
    refine s_imul (pc' := 121) dX5_joined_120 rfl ?_
    refine s_iret dX5_joined_121 rfl (vp_nar_int _) ?_
    (first | (simp [jnI, e3] at K; exact K) | (simpa [jnI, e3] using K))
  · refine s_iload_n (pc' := 119) dX5_joined_118 rfl lg1 ?_
    refine s_iload_n (pc' := 120) dX5_joined_119 rfl lg2 ?_
    refine s_imul (pc' := 121) dX5_joined_120 rfl ?_
    refine s_iret dX5_joined_121 rfl (vp_nar_int _) ?_
    (first | (simp [jnI, e3] at K; exact K) | (simpa [jnI, e3] using K))
  · refine s_iload_n (pc' := 119) dX5_joined_118 rfl lg1 ?_
    refine s_iload_n (pc' := 120) dX5_joined_119 rfl lg2 ?_
    refine s_imul (pc' := 121) dX5_joined_120 rfl ?_
    refine s_iret dX5_joined_121 rfl (vp_nar_int _) ?_
    (first | (simp [jnI, e3] at K; exact K) | (simpa [jnI, e3] using K))
  · refine s_iload_n (pc' := 111) dX5_joined_110 rfl lg1 ?_
    refine s_iload_n (pc' := 112) dX5_joined_111 rfl lg2 ?_
    refine s_iadd (pc' := 113) dX5_joined_112 rfl ?_
    refine s_iret dX5_joined_113 rfl (vp_nar_int _) ?_
    (first | (simp [jnI, e3] at K; exact K) | (simpa [jnI, e3] using K))
  · refine s_iload_n (pc' := 115) dX5_joined_114 rfl lg1 ?_
    refine s_iload_n (pc' := 116) dX5_joined_115 rfl lg2 ?_
    refine s_isub (pc' := 117) dX5_joined_116 rfl ?_
    refine s_iret dX5_joined_117 rfl (vp_nar_int _) ?_
    (first | (simp [jnI, e3] at K; exact K) | (simpa [jnI, e3] using K))
  · refine s_iload_n (pc' := 119) dX5_joined_118 rfl lg1 ?_
    refine s_iload_n (pc' := 120) dX5_joined_119 rfl lg2 ?_
    refine s_imul (pc' := 121) dX5_joined_120 rfl ?_
    refine s_iret dX5_joined_121 rfl (vp_nar_int _) ?_
    (first | (simp [jnI, e3] at K; exact K) | (simpa [jnI, e3] using K))
  · refine s_iload_n (pc' := 89) dX5_joined_88 rfl lg1 ?_
    refine s_iload_n (pc' := 90) dX5_joined_89 rfl lg2 ?_
    refine s_icmp_ge (pc' := 93) (tgt := 97) dX5_joined_90 rfl (by decide) (fun c8 => ?_) (fun c8 => ?_)
    · refine s_iconst (pc' := 98) dX5_joined_97 rfl iconst_0 ?_
      refine s_iret dX5_joined_98 rfl (vp_nar_int _) ?_
      (first | (simp [jnI, e3, c8] at K; exact K) | (simpa [jnI, e3, c8] using K))
    · refine s_iconst (pc' := 94) dX5_joined_93 rfl iconst_1 ?_
      refine s_goto (tgt := 98) dX5_joined_94 (by decide) ?_
      refine s_iret dX5_joined_98 rfl (vp_nar_int _) ?_
      (first | (simp [jnI, e3, c8] at K; exact K) | (simpa [jnI, e3, c8] using K))
  · refine s_iload_n (pc' := 100) dX5_joined_99 rfl lg1 ?_
    refine s_iload_n (pc' := 101) dX5_joined_100 rfl lg2 ?_
    refine s_icmp_ne (pc' := 104) (tgt := 108) dX5_joined_101 rfl (by decide) (fun c9 => ?_) (fun c9 => ?_)
    · refine s_iconst (pc' := 109) dX5_joined_108 rfl iconst_0 ?_
      refine s_iret dX5_joined_109 rfl (vp_nar_int _) ?_
      (first | (simp [jnI, e3, c9] at K; exact K) | (simpa [jnI, e3, c9] using K))
    · refine s_iconst (pc' := 105) dX5_joined_104 rfl iconst_1 ?_
      refine s_goto (tgt := 109) dX5_joined_105 (by decide) ?_
      refine s_iret dX5_joined_109 rfl (vp_nar_int _) ?_
      (first | (simp [jnI, e3, c9] at K; exact K) | (simpa [jnI, e3, c9] using K))
  · refine s_iload_n (pc' := 119) dX5_joined_118 rfl lg1 ?_
    refine s_iload_n (pc' := 120) dX5_joined_119 rfl lg2 ?_
    refine s_imul (pc' := 121) dX5_joined_120 rfl ?_
    refine s_iret dX5_joined_121 rfl (vp_nar_int _) ?_
    (first | (simp [jnI, e3_0, e3_1, e3_2, e3_3, e3_4, e3_5, e3_6, e3_7, e3_8, e3_9, e3_10] at K; exact K) | (simpa [jnI, e3_0, e3_1, e3_2, e3_3, e3_4, e3_5, e3_6, e3_7, e3_8, e3_9, e3_10] using K))
theorem c_X5_joined {z : Zz} {d kc ks : Nat} {mi : MI} {pc pc' : Nat} {L S : List Value} {Q : Option Value → Lay → Mem → Prop} {lay : Lay} {mem : Mem} {tk x y : Int32} {idx : Nat} (hd : decode mi.2.1 pc = .ok (.invokestatic idx, 3)) (hp : pc + 3 = pc') (hlk : Cond.methodLink mi.1.cls idx yX5_joined ∈ wok) (hdd : 0 + 1 ≤ d) (hcat : (S.map (fun v => v.category)).sum ≤ 8)  (K :  Sim z d kc ks mi pc' L (.int (jnI tk x y) :: S) lay mem Q) : Sim z d kc ks mi pc L (.int y :: .int x :: .int tk :: S) (lay) mem Q :=
  s_invS (d2 := 0) hd hp okX5_joined hlk stX5_joined hdd (Nat.zero_add _) (Nat.zero_add _) rfl rfl hcat (Nat.le_of_ble_eq_true rfl) (m_X5_joined (Nat.le_refl _)  K)
set_option maxHeartbeats 4000000 in
theorem m_X4_startOf {z : Zz} {d : Nat} {Q : Option Value → Lay → Mem → Prop} {lay : Lay} {mem : Mem} {t : Nat} {rt : Nat → Value} {p : Int32} (hdd : 0 ≤ d) (ht : lay[t]? = some (4, 3, rt)) (K :  Q (some (.int (if p = 0 then 0 else if p = 1 then mem t 1 else mem t 2))) lay mem) : Sim z d 0 0 mX4_startOf 0 [.ref t, .int p] [] (lay) mem Q := by
  refine s_iload_n (pc' := 1) dX4_startOf_0 rfl lg1 ?_
  refine s_if_ne (pc' := 4) (tgt := 6) dX4_startOf_1 rfl (by decide) (fun c10 => ?_) (fun c10 => ?_)
  · refine s_iload_n (pc' := 7) dX4_startOf_6 rfl lg1 ?_
    refine s_iconst (pc' := 8) dX4_startOf_7 rfl iconst_1 ?_
    refine s_icmp_ne (pc' := 11) (tgt := 18) dX4_startOf_8 rfl (by decide) (fun c11 => ?_) (fun c11 => ?_)
    · refine s_aload_n (pc' := 19) dX4_startOf_18 rfl lg0 rfl ?_
      refine s_getI (pc' := 22) dX4_startOf_19 rfl flX4_19 ht (by decide) rfl ?_
      refine s_iret dX4_startOf_22 rfl (vp_nar_int _) ?_
      (simpa [c10, c11] using K)
    · refine s_aload_n (pc' := 12) dX4_startOf_11 rfl lg0 rfl ?_
      refine s_getI (pc' := 15) dX4_startOf_12 rfl flX4_15 ht (by decide) rfl ?_
      refine s_goto (tgt := 22) dX4_startOf_15 (by decide) ?_
      refine s_iret dX4_startOf_22 rfl (vp_nar_int _) ?_
      (simpa [c10, c11] using K)
  · refine s_iconst (pc' := 5) dX4_startOf_4 rfl iconst_0 ?_
    refine s_iret dX4_startOf_5 rfl (vp_nar_int _) ?_
    (simpa [c10] using K)
theorem c_X4_startOf {z : Zz} {d kc ks : Nat} {mi : MI} {pc pc' : Nat} {L S : List Value} {Q : Option Value → Lay → Mem → Prop} {lay : Lay} {mem : Mem} {t : Nat} {rt : Nat → Value} {p : Int32} {idx : Nat} (hd : decode mi.2.1 pc = .ok (.invokevirtual idx, 3)) (hp : pc + 3 = pc') (hlk : Cond.methodLink mi.1.cls idx yX4_startOf ∈ wok) (hdd : 0 + 1 ≤ d) (hcat : (S.map (fun v => v.category)).sum ≤ 8) (ht : lay[t]? = some (4, 3, rt)) (K :  Sim z d kc ks mi pc' L (.int (if p = 0 then 0 else if p = 1 then mem t 1 else mem t 2) :: S) lay mem Q) : Sim z d kc ks mi pc L (.int p :: .ref t :: S) (lay) mem Q :=
  s_invV (d2 := 0) hd hp okX4_startOf hlk inX4_startOf seX4_startOf hdd (Nat.zero_add _) (Nat.zero_add _) rfl rfl ht rfl hcat (Nat.le_of_ble_eq_true rfl) (m_X4_startOf (Nat.le_refl _) ht K)
set_option maxHeartbeats 4000000 in
theorem m_X4_endOf {z : Zz} {d : Nat} {Q : Option Value → Lay → Mem → Prop} {lay : Lay} {mem : Mem} {t a len : Nat} {rt ra : Nat → Value} {p : Int32} (hdd : 0 ≤ d) (ht : lay[t]? = some (4, 3, rt)) (hrt : rt 0 = .ref a) (ha : lay[a]? = some (8, len, ra)) (K :  Q (some (.int (if p = 0 then mem t 1 else if p = 1 then mem t 2 else nI len))) lay mem) : Sim z d 0 0 mX4_endOf 0 [.ref t, .int p] [] (lay) mem Q := by
  refine s_iload_n (pc' := 1) dX4_endOf_0 rfl lg1 ?_
  refine s_if_ne (pc' := 4) (tgt := 9) dX4_endOf_1 rfl (by decide) (fun c12 => ?_) (fun c12 => ?_)
  · refine s_iload_n (pc' := 10) dX4_endOf_9 rfl lg1 ?_
    refine s_iconst (pc' := 11) dX4_endOf_10 rfl iconst_1 ?_
    refine s_icmp_ne (pc' := 14) (tgt := 21) dX4_endOf_11 rfl (by decide) (fun c13 => ?_) (fun c13 => ?_)
    · refine s_aload_n (pc' := 22) dX4_endOf_21 rfl lg0 rfl ?_
      refine s_getRv (pc' := 25) (v := .ref a) dX4_endOf_22 rfl flX4_9 ht (by decide) rfl hrt ?_
      refine s_alen (pc' := 26) dX4_endOf_25 rfl ha (by decide) ?_
      refine s_iret dX4_endOf_26 rfl (vp_nar_int _) ?_
      (simpa [c12, c13] using K)
    · refine s_aload_n (pc' := 15) dX4_endOf_14 rfl lg0 rfl ?_
      refine s_getI (pc' := 18) dX4_endOf_15 rfl flX4_19 ht (by decide) rfl ?_
      refine s_goto (tgt := 26) dX4_endOf_18 (by decide) ?_
      refine s_iret dX4_endOf_26 rfl (vp_nar_int _) ?_
      (simpa [c12, c13] using K)
  · refine s_aload_n (pc' := 5) dX4_endOf_4 rfl lg0 rfl ?_
    refine s_getI (pc' := 8) dX4_endOf_5 rfl flX4_15 ht (by decide) rfl ?_
    refine s_iret dX4_endOf_8 rfl (vp_nar_int _) ?_
    (simpa [c12] using K)
theorem c_X4_endOf {z : Zz} {d kc ks : Nat} {mi : MI} {pc pc' : Nat} {L S : List Value} {Q : Option Value → Lay → Mem → Prop} {lay : Lay} {mem : Mem} {t a len : Nat} {rt ra : Nat → Value} {p : Int32} {idx : Nat} (hd : decode mi.2.1 pc = .ok (.invokevirtual idx, 3)) (hp : pc + 3 = pc') (hlk : Cond.methodLink mi.1.cls idx yX4_endOf ∈ wok) (hdd : 0 + 1 ≤ d) (hcat : (S.map (fun v => v.category)).sum ≤ 8) (ht : lay[t]? = some (4, 3, rt)) (hrt : rt 0 = .ref a) (ha : lay[a]? = some (8, len, ra)) (K :  Sim z d kc ks mi pc' L (.int (if p = 0 then mem t 1 else if p = 1 then mem t 2 else nI len) :: S) lay mem Q) : Sim z d kc ks mi pc L (.int p :: .ref t :: S) (lay) mem Q :=
  s_invV (d2 := 0) hd hp okX4_endOf hlk inX4_endOf seX4_endOf hdd (Nat.zero_add _) (Nat.zero_add _) rfl rfl ht rfl hcat (Nat.le_of_ble_eq_true rfl) (m_X4_endOf (Nat.le_refl _) ht hrt ha K)
/-- one sign told on a stack (top first) -/
def tk1 (v : Nat → Int32) (c : Int32) (st : List Int32) : List Int32 :=
  if 0 ≤ -1 - c then
    if 6 ≤ -1 - c then
      if -1 - c = 11 ∨ -1 - c = 23 then (match st with | x :: s => alI (-1 - c) x :: s | [] => [])
      else (match st with | y :: x :: s => jnI (-1 - c) x y :: s | s => s)
    else v (-1 - c).toNatClampNeg :: st
  else c :: st
def ev (v : Nat → Int32) (cs st : List Int32) : List Int32 := cs.foldl (fun s c => tk1 v c s) st
theorem ev_cons {v : Nat → Int32} {c : Int32} {cs st : List Int32} : ev v (c :: cs) st = ev v cs (tk1 v c st) := by
  unfold ev
  rw [List.foldl_cons]
theorem ev_nil {v : Nat → Int32} {st : List Int32} : ev v [] st = st := by
  unfold ev
  rw [List.foldl_nil]
/-- how deep the row of numbers is behind a sign -/
def wk1 (c : Int32) (k : Nat) : Option Nat :=
  if 0 ≤ -1 - c then
    if 6 ≤ -1 - c then
      if -1 - c = 11 ∨ -1 - c = 23 then (if 1 ≤ k then some k else none)
      else (if 2 ≤ k then some (k - 1) else none)
    else some (k + 1)
  else some (k + 1)
def wk : List Int32 → Nat → Option Nat
  | [], k => some k
  | c :: cs, k => (wk1 c k).bind (wk cs)
theorem wk_cons {c : Int32} {cs : List Int32} {k : Nat} : wk (c :: cs) k = (wk1 c k).bind (wk cs) := rfl
theorem wk_nil {k : Nat} : wk [] k = some k := rfl
theorem tk1_len {v : Nat → Int32} {c : Int32} {st : List Int32} {k : Nat} (h : wk1 c st.length = some k) : (tk1 v c st).length = k := by
  unfold wk1 at h
  unfold tk1
  split at h
  · rename_i h1
    rw [if_pos h1]
    split at h
    · rename_i h2
      rw [if_pos h2]
      split at h
      · rename_i h3
        rw [if_pos h3]
        split at h
        · cases h
          cases st with
          | nil => simp at *
          | cons x s => simp
        · cases h
      · rename_i h3
        rw [if_neg h3]
        split at h
        · cases h
          match st with
          | [] => simp at *
          | [x] => simp at *
          | y :: x :: s => simp
        · cases h
    · rename_i h2
      rw [if_neg h2]
      cases h
      simp
  · rename_i h1
    rw [if_neg h1]
    cases h
    simp
theorem tk1_num {v : Nat → Int32} {c : Int32} {st : List Int32} (h : ¬ 0 ≤ -1 - c) : tk1 v c st = c :: st := by unfold tk1; rw [if_neg h]
theorem tk1_nam {v : Nat → Int32} {c : Int32} {st : List Int32} (h : 0 ≤ -1 - c) (h2 : ¬ 6 ≤ -1 - c) : tk1 v c st = v (-1 - c).toNatClampNeg :: st := by unfold tk1; rw [if_pos h, if_neg h2]
theorem tk1_un {v : Nat → Int32} {c x : Int32} {st : List Int32} (h : 0 ≤ -1 - c) (h2 : 6 ≤ -1 - c) (h3 : -1 - c = 11 ∨ -1 - c = 23) : tk1 v c (x :: st) = alI (-1 - c) x :: st := by unfold tk1; rw [if_pos h, if_pos h2, if_pos h3]
theorem tk1_bin {v : Nat → Int32} {c x y : Int32} {st : List Int32} (h : 0 ≤ -1 - c) (h2 : 6 ≤ -1 - c) (h3 : ¬ (-1 - c = 11 ∨ -1 - c = 23)) : tk1 v c (y :: x :: st) = jnI (-1 - c) x y :: st := by unfold tk1; rw [if_pos h, if_pos h2, if_neg h3]
theorem wk1_le {c : Int32} {k k' : Nat} (h : wk1 c k = some k') : k' ≤ k + 1 := by
  unfold wk1 at h
  split at h <;> (try split at h) <;> (try split at h) <;> (try split at h) <;> first | (cases h; omega) | cases h
def tv (v : Nat → Int32) (code : List Int32) : Int32 := (ev v code []).headD 0
/-- the row of numbers in the cell id: bottom first -/
def stk (mem : Mem) (id : Nat) (st : List Int32) : Prop := ∀ j, j < st.length → mem id j = st.getD (st.length - 1 - j) 0
theorem stk_nil {mem : Mem} {id : Nat} : stk mem id [] := fun j h => absurd h (Nat.not_lt_zero j)
theorem stk_push {mem : Mem} {id : Nat} {st : List Int32} {x : Int32} (h : stk mem id st) : stk (am_up mem id st.length x) id (x :: st) := by
  intro j hj
  simp only [List.length_cons] at hj ⊢
  by_cases hq : j = st.length
  · subst hq
    simp [am_up, upd]
  · have := h j (by omega)
    have e : st.length + 1 - 1 - j = (st.length - 1 - j) + 1 := by omega
    rw [e]
    simp [am_up, upd, hq, this]
theorem stk_top {mem : Mem} {id : Nat} {st : List Int32} {x y : Int32} (h : stk mem id (x :: st)) : stk (am_up mem id st.length y) id (y :: st) := by
  intro j hj
  simp only [List.length_cons] at hj ⊢
  by_cases hq : j = st.length
  · subst hq
    simp [am_up, upd]
  · have := h j (by simp; omega)
    simp only [List.length_cons] at this
    have e : st.length + 1 - 1 - j = (st.length - 1 - j) + 1 := by omega
    rw [e] at this ⊢
    simp at this
    simp [am_up, upd, hq, this]
theorem stk_pop {mem : Mem} {id : Nat} {st : List Int32} {x : Int32} (h : stk mem id (x :: st)) : stk mem id st := by
  intro j hj
  have := h j (by simp; omega)
  simp only [List.length_cons] at this
  have e : st.length + 1 - 1 - j = (st.length - 1 - j) + 1 := by omega
  rw [e] at this
  simpa using this
theorem stk_hd {mem : Mem} {id : Nat} {st : List Int32} {x : Int32} (h : stk mem id (x :: st)) : mem id st.length = x := by
  have := h st.length (by simp)
  simpa using this
theorem vp6 {x : Int32} (h : 0 ≤ x) (h2 : ¬ 6 ≤ x) : vp_in x 6 := by
  rw [vp_in_iff]
  rw [Int32.le_iff_toInt_le] at h h2
  have h6 : (6 : Int32).toInt = 6 := by decide
  have h0 : (0 : Int32).toInt = 0 := by decide
  rw [h6] at h2; rw [h0] at h
  constructor <;> omega
def isTx (lay : Lay) (mem : Mem) (v : Value) (P : Nat → List Int32) : Prop := ∃ (t a len : Nat) (rt ra : Nat → Value), v = .ref t ∧ lay[t]? = some (4, 3, rt) ∧ rt 0 = .ref a ∧ lay[a]? = some (8, len, ra) ∧ (t = 5 ∨ 66 < t) ∧ (a = 6 ∨ 66 < a) ∧ len ≤ 160 ∧ len = (P 0).length + (P 1).length + (P 2).length ∧ mem t 1 = nI (P 0).length ∧ mem t 2 = nI ((P 0).length + (P 1).length) ∧ (∀ k, k < len → mem a k = (P 0 ++ (P 1 ++ P 2)).getD k 0) ∧ ∀ p, p < 3 → wk (P p) 0 = some 1
def sOf (P : Nat → List Int32) (p : Nat) : Nat := if p = 0 then 0 else if p = 1 then (P 0).length else (P 0).length + (P 1).length
def eOf (P : Nat → List Int32) (p : Nat) : Nat := sOf P p + (P p).length
theorem getD_app {a b : List Int32} {k : Nat} : (a ++ b).getD k 0 = if k < a.length then a.getD k 0 else b.getD (k - a.length) 0 := by
  simp only [List.getD_eq_getElem?_getD]
  split
  · rename_i h
    rw [List.getElem?_append_left h]
  · rename_i h
    rw [List.getElem?_append_right (by omega)]
theorem isTx.kept {lay : Lay} {mem mem' : Mem} {v : Value} {P : Nat → List Int32} (h : isTx lay mem v P) (hk : ∀ j, j = 5 ∨ j = 6 ∨ 66 < j → mem' j = mem j) : isTx lay mem' v P := by
  obtain ⟨t, a, len, rt, ra, hv, ht, hrt, ha, h4t, h4a, hl160, hlen, hm1, hm2, hcode, hwk⟩ := h
  exact ⟨t, a, len, rt, ra, hv, ht, hrt, ha, h4t, h4a, hl160, hlen, by rw [hk t (by omega)]; exact hm1, by rw [hk t (by omega)]; exact hm2, fun k hk2 => by rw [hk a (by omega)]; exact hcode k hk2, hwk⟩
theorem P_at {P : Nat → List Int32} {p k : Nat} (hp : p < 3) (hk : k < (P p).length) : (P 0 ++ (P 1 ++ P 2)).getD (sOf P p + k) 0 = (P p).getD k 0 := by
  have : p = 0 ∨ p = 1 ∨ p = 2 := by omega
  rcases this with rfl | rfl | rfl
  · rw [getD_app, if_pos (by simp [sOf]; exact hk)]; simp [sOf]
  · rw [getD_app, if_neg (by simp [sOf]), getD_app, if_pos (by simp [sOf]; exact hk)]; simp [sOf]
  · rw [getD_app, if_neg (by simp [sOf]; omega), getD_app, if_neg (by simp [sOf]; omega)]
    congr 1
    simp [sOf]; omega
theorem e_le {P : Nat → List Int32} {p : Nat} (hp : p < 3) : eOf P p ≤ (P 0).length + (P 1).length + (P 2).length := by
  have : p = 0 ∨ p = 1 ∨ p = 2 := by omega
  rcases this with rfl | rfl | rfl <;> simp [eOf, sOf] <;> omega
theorem nI_eq0 {p : Nat} (h : p < 1000) : (nI p = 0) = (p = 0) := propext (nI_eq (a := p) (b := 0) (by omega) (by omega))
theorem nI_eq1 {p : Nat} (h : p < 1000) : (nI p = 1) = (p = 1) := propext (nI_eq (a := p) (b := 1) (by omega) (by omega))
theorem st1_of {st : List Int32} (h : st.length = 1) : ∃ x, st = [x] := by
  match st, h with
  | [x], _ => exact ⟨x, rfl⟩
theorem st2_of {st : List Int32} (h : 2 ≤ st.length) : ∃ y x s, st = y :: x :: s := by
  match st, h with
  | y :: x :: s, _ => exact ⟨y, x, s, rfl⟩
theorem st3_of {st : List Int32} (h : 1 ≤ st.length) : ∃ x s, st = x :: s := by
  match st, h with
  | x :: s, _ => exact ⟨x, s, rfl⟩
theorem nlt1 {k : Nat} (h : 1 ≤ k) (h2 : k < 100000) : ¬ nI k < 1 := by
  have := nI_ltI (a := k) (b := 1) (by omega) (by omega)
  exact fun q => by have := this.mp q; omega
theorem nlt2 {k : Nat} (h : 2 ≤ k) (h2 : k < 100000) : ¬ nI k < 2 := by
  have := nI_ltI (a := k) (b := 2) (by omega) (by omega)
  exact fun q => by have := this.mp q; omega
set_option maxHeartbeats 4000000 in
theorem m_X5_valueOf {z : Zz} {d : Nat} {Q : Option Value → Lay → Mem → Prop} {rf : Nat → Value} {tl : Lay} {mem : Mem}  {w p nt : Nat} {P : Nat → List Int32} (hdd : 1 ≤ d) (hnt : mem 1 3 = nI nt) (hn6 : nt ≤ 6) (hw : w < nt) (hp3 : p < 3) (hT : isTx (LAY rf tl) mem (rf w) P) (K : ∀ mem', (∀ j, j ≠ 4 → mem' j = mem j) → Q (some (.int (tv (mem 3) (P p)))) (LAY rf tl) mem') : Sim z d 0 0 mX5_valueOf 0 [.ref 1, .int (nI w), .int (nI p), .float 0, .float 0, .float 0, .float 0, .float 0] [] (LAY rf tl) mem Q := by
  obtain ⟨t, a, len, rt, ra, hv, ht, hrt, ha, h4t, h4a, hl160, hlen, hm1, hm2, hcode, hwk⟩ := hT
  have hel := e_le (P := P) hp3
  have hs : (if nI p = 0 then (0 : Int32) else if nI p = 1 then mem t 1 else mem t 2) = nI (sOf P p) := by
    rw [hm1, hm2]
    have : p = 0 ∨ p = 1 ∨ p = 2 := by omega
    rcases this with rfl | rfl | rfl
    · rw [if_pos (by decide)]; rfl
    · rw [if_neg (by decide), if_pos (by decide)]; rfl
    · rw [if_neg (by decide), if_neg (by decide)]; rfl
  have he : (if nI p = 0 then mem t 1 else if nI p = 1 then mem t 2 else nI len) = nI (eOf P p) := by
    rw [hm1, hm2]
    have : p = 0 ∨ p = 1 ∨ p = 2 := by omega
    rcases this with rfl | rfl | rfl
    · rw [if_pos (by decide)]; simp [eOf, sOf]
    · rw [if_neg (by decide), if_pos (by decide)]; simp [eOf, sOf]
    · rw [if_neg (by decide), if_neg (by decide), hlen]; simp [eOf, sOf]
  have loop : ∀ (cs : List Int32) (i : Nat) (st : List Int32) (m1 : Mem) (x7 : Value), (∀ k, k < cs.length → m1 a (i + k) = cs.getD k 0) → i + cs.length = eOf P p → wk cs st.length = some 1 → (∀ j, j ≠ 4 → m1 j = mem j) → stk m1 4 st → st.length ≤ i → ev (mem 3) cs st = ev (mem 3) (P p) [] → Sim z d 0 0 mX5_valueOf 46 [.ref 1, .int (nI w), .int (nI p), .ref t, .int (nI (eOf P p)), .int (nI st.length), .int (nI i), x7] [] (LAY rf tl) m1 Q := by
    intro cs
    induction cs with
    | nil =>
      intro i st m1 x7 hc hi hw1 hm hst hsl hev
      simp only [List.length_nil, Nat.add_zero] at hi
      refine s_iload (pc' := 48) dX5_valueOf_46 rfl lg6 ?_
      refine s_iload (pc' := 50) dX5_valueOf_48 rfl lg4 ?_
      refine s_icmp_ge (pc' := 53) (tgt := 217) dX5_valueOf_50 rfl (by decide) (fun _ => ?_) (fun c9 => absurd (by rw [hi]; exact nI_le (Nat.le_refl _) (by omega)) c9)
      refine s_aload_n (pc' := 218) dX5_valueOf_217 rfl lg0 rfl ?_
      refine s_getRv (pc' := 221) (v := .ref 4) dX5_valueOf_218 rfl flX5_21 ly1 (by decide) rfl rfl ?_
      refine s_iconst (pc' := 222) dX5_valueOf_221 rfl iconst_0 ?_
      refine s_ialdN (pc' := 223) (k := 0) dX5_valueOf_222 rfl ly4 (by decide) (by decide) ?_
      refine s_iret dX5_valueOf_223 rfl (vp_nar_int _) ?_
      have h1 : st.length = 1 := by rw [wk_nil] at hw1; exact Option.some.inj hw1
      obtain ⟨x, rfl⟩ := st1_of h1
      have h2 : m1 4 0 = x := stk_hd (st := []) hst
      rw [h2]
      have h3 : tv (mem 3) (P p) = x := by
        unfold tv
        rw [← hev]
        rfl
      rw [h3] at K
      exact K m1 hm
    | cons c cs ih =>
      intro i st m1 x7 hc hi hw1 hm hst hsl hev
      simp only [List.length_cons] at hi
      rw [ev_cons] at hev
      have hc0 : m1 a i = c := by
        have := hc 0 (by simp)
        simpa using this
      have hcn : ∀ (m2 : Mem), (∀ j, j ≠ 4 → m2 j = mem j) → ∀ k, k < cs.length → m2 a (i + 1 + k) = cs.getD k 0 := by
        intro m2 h2 k hk
        rw [h2 a (by omega), ← hm a (by omega)]
        have := hc (k + 1) (by simp; omega)
        rw [show i + 1 + k = i + (k + 1) by omega, this]
        simp
      obtain ⟨k', hk1, hk2⟩ : ∃ k', wk1 c st.length = some k' ∧ wk cs k' = some 1 := by
        rw [wk_cons] at hw1
        exact Option.bind_eq_some_iff.mp hw1
      have hkl := wk1_le hk1
      have htl := tk1_len (v := mem 3) hk1
      have hup : ∀ (q : Nat) (x : Int32), ∀ j, j ≠ 4 → am_up m1 4 q x j = mem j := fun q x j hj => by
        simp [am_up, hj]; exact hm j hj
      have go : ∀ (m2 : Mem) (x : Value) (q : Nat), (tk1 (mem 3) c st).length = q → (∀ j, j ≠ 4 → m2 j = mem j) → stk m2 4 (tk1 (mem 3) c st) → Sim z d 0 0 mX5_valueOf 46 [.ref 1, .int (nI w), .int (nI p), .ref t, .int (nI (eOf P p)), .int (nI q), .int (nI (i + 1)), x] [] (LAY rf tl) m2 Q := fun m2 x q hq h1 h2 => by
        have := ih (i + 1) (tk1 (mem 3) c st) m2 x (hcn m2 h1) (by omega) (by rw [htl]; exact hk2) h1 h2 (by omega) hev
        rw [hq] at this
        exact this
      refine s_iload (pc' := 48) dX5_valueOf_46 rfl lg6 ?_
      refine s_iload (pc' := 50) dX5_valueOf_48 rfl lg4 ?_
      refine s_icmp_ge (pc' := 53) (tgt := 217) dX5_valueOf_50 rfl (by decide) (fun c9 => absurd c9 (nI_ge (by omega) (by omega))) (fun _ => ?_)
      refine s_iload (pc' := 55) dX5_valueOf_53 rfl lg5 ?_
      refine s_aload_n (pc' := 56) dX5_valueOf_55 rfl lg0 rfl ?_
      refine s_getRv (pc' := 59) (v := .ref 4) dX5_valueOf_56 rfl flX5_21 ly1 (by decide) rfl rfl ?_
      refine s_alen (pc' := 60) dX5_valueOf_59 rfl ly4 (by decide) ?_
      refine s_icmp_ge (pc' := 63) (tgt := 217) dX5_valueOf_60 rfl (by decide) (fun c9 => absurd c9 (nI_ge (by omega) (by omega))) (fun _ => ?_)
      refine s_iconst (pc' := 64) dX5_valueOf_63 rfl iconst_m1 ?_
      refine s_aload_n (pc' := 65) dX5_valueOf_64 rfl lg3 rfl ?_
      refine s_getRv (pc' := 68) (v := .ref a) dX5_valueOf_65 rfl flX5_38 ht (by decide) rfl hrt ?_
      refine s_iload (pc' := 70) dX5_valueOf_68 rfl lg6 ?_
      refine s_ialdNv (pc' := 71) (v := c) dX5_valueOf_70 rfl ha (by omega) (by omega) hc0 ?_
      refine s_isub (pc' := 72) dX5_valueOf_71 rfl ?_
      refine s_istore (pc' := 74) dX5_valueOf_72 rfl (Nat.le_of_ble_eq_true rfl) rfl ls7 ?_
      refine s_iload (pc' := 76) dX5_valueOf_74 rfl lg7 ?_
      refine s_if_ge (pc' := 79) (tgt := 99) dX5_valueOf_76 rfl (by decide) (fun c1 => ?_) (fun c1 => ?_)
      · skip
        refine s_iload (pc' := 101) dX5_valueOf_99 rfl lg7 ?_
        refine s_bipush (pc' := 103) dX5_valueOf_101 rfl bipush_6 ?_
        refine s_icmp_ge (pc' := 106) (tgt := 126) dX5_valueOf_103 rfl (by decide) (fun c2 => ?_) (fun c2 => ?_)
        · skip
          by_cases hu : -1 - c = 11 ∨ -1 - c = 23
          · have hst1 : 1 ≤ st.length := by
              unfold wk1 at hk1
              rw [if_pos c1, if_pos c2, if_pos hu] at hk1
              split at hk1
              · assumption
              · cases hk1
            obtain ⟨x, s, rfl⟩ := st3_of hst1
            have hin : Sim z d 0 0 mX5_valueOf 146 [.ref 1, .int (nI w), .int (nI p), .ref t, .int (nI (eOf P p)), .int (nI (x :: s).length), .int (nI i), .int (-1 - c)] [] (LAY rf tl) m1 Q := by
              refine s_aload_n (pc' := 147) dX5_valueOf_146 rfl lg0 rfl ?_
              refine s_getRv (pc' := 150) (v := .ref 4) dX5_valueOf_147 rfl flX5_21 ly1 (by decide) rfl rfl ?_
              refine s_iload (pc' := 152) dX5_valueOf_150 rfl lg5 ?_
              refine s_iconst (pc' := 153) dX5_valueOf_152 rfl iconst_1 ?_
              refine s_isub (pc' := 154) dX5_valueOf_153 rfl ?_
              rw [show (nI (x :: s).length - 1) = nI s.length from nI_pred _]
              refine s_iload (pc' := 156) dX5_valueOf_154 rfl lg7 ?_
              refine s_aload_n (pc' := 157) dX5_valueOf_156 rfl lg0 rfl ?_
              refine s_getRv (pc' := 160) (v := .ref 4) dX5_valueOf_157 rfl flX5_21 ly1 (by decide) rfl rfl ?_
              refine s_iload (pc' := 162) dX5_valueOf_160 rfl lg5 ?_
              refine s_iconst (pc' := 163) dX5_valueOf_162 rfl iconst_1 ?_
              refine s_isub (pc' := 164) dX5_valueOf_163 rfl ?_
              rw [show (nI (x :: s).length - 1) = nI s.length from nI_pred _]
              refine s_ialdNv (pc' := 165) (v := x) dX5_valueOf_164 rfl ly4 (by simp at hsl; omega) (by decide) (stk_hd hst) ?_
              refine c_X5_alone (pc' := 168) dX5_valueOf_165 rfl lkX5_43 (by omega) (Nat.le_of_ble_eq_true rfl)  ?_
              refine s_iastN (pc' := 169) dX5_valueOf_168 rfl ly4 (by simp at hsl; omega) (by decide) ?_
              refine s_goto (tgt := 211) dX5_valueOf_169 (by decide) ?_
              refine s_iincN (pc' := 214) dX5_valueOf_211 rfl lg6 rfl ls6 ?_
              refine s_goto (tgt := 46) dX5_valueOf_214 (by decide) ?_
              have e1 : tk1 (mem 3) c (x :: s) = alI (-1 - c) x :: s := tk1_un c1 c2 hu
              exact go (am_up m1 4 s.length (alI (-1 - c) x)) (.int (-1 - c)) (x :: s).length (by rw [e1]; rw [List.length_cons, List.length_cons]) (hup _ _) (by rw [e1]; exact stk_top hst)
            refine s_iload (pc' := 128) dX5_valueOf_126 rfl lg5 ?_
            refine s_iconst (pc' := 129) dX5_valueOf_128 rfl iconst_1 ?_
            refine s_icmp_lt (pc' := 132) (tgt := 172) dX5_valueOf_129 rfl (by decide) (fun c9 => absurd c9 (nlt1 hst1 (by omega))) (fun _ => ?_)
            refine s_iload (pc' := 134) dX5_valueOf_132 rfl lg7 ?_
            refine s_bipush (pc' := 136) dX5_valueOf_134 rfl bipush_11 ?_
            refine s_icmp_eq (pc' := 139) (tgt := 146) dX5_valueOf_136 rfl (by decide) (fun c3 => ?_) (fun c3 => ?_)
            · exact hin
            · skip
              refine s_iload (pc' := 141) dX5_valueOf_139 rfl lg7 ?_
              refine s_bipush (pc' := 143) dX5_valueOf_141 rfl bipush_23 ?_
              refine s_icmp_ne (pc' := 146) (tgt := 172) dX5_valueOf_143 rfl (by decide) (fun c9 => absurd (hu.resolve_left c3) c9) (fun _ => ?_)
              exact hin
          · have hst2 : 2 ≤ st.length := by
              unfold wk1 at hk1
              rw [if_pos c1, if_pos c2, if_neg hu] at hk1
              split at hk1
              · assumption
              · cases hk1
            obtain ⟨y, x, s, rfl⟩ := st2_of hst2
            refine s_iload (pc' := 128) dX5_valueOf_126 rfl lg5 ?_
            refine s_iconst (pc' := 129) dX5_valueOf_128 rfl iconst_1 ?_
            refine s_icmp_lt (pc' := 132) (tgt := 172) dX5_valueOf_129 rfl (by decide) (fun c9 => absurd c9 (nlt1 (by omega) (by omega))) (fun _ => ?_)
            refine s_iload (pc' := 134) dX5_valueOf_132 rfl lg7 ?_
            refine s_bipush (pc' := 136) dX5_valueOf_134 rfl bipush_11 ?_
            refine s_icmp_eq (pc' := 139) (tgt := 146) dX5_valueOf_136 rfl (by decide) (fun c9 => absurd c9 (fun q => hu (Or.inl q))) (fun _ => ?_)
            refine s_iload (pc' := 141) dX5_valueOf_139 rfl lg7 ?_
            refine s_bipush (pc' := 143) dX5_valueOf_141 rfl bipush_23 ?_
            refine s_icmp_ne (pc' := 146) (tgt := 172) dX5_valueOf_143 rfl (by decide) (fun _ => ?_) (fun c9 => absurd c9 (fun q => hu (Or.inr q)))
            refine s_iload (pc' := 174) dX5_valueOf_172 rfl lg5 ?_
            refine s_iconst (pc' := 175) dX5_valueOf_174 rfl iconst_2 ?_
            refine s_icmp_lt (pc' := 178) (tgt := 211) dX5_valueOf_175 rfl (by decide) (fun c9 => absurd c9 (nlt2 hst2 (by omega))) (fun _ => ?_)
            refine s_iincM (pc' := 181) dX5_valueOf_178 rfl lg5 rfl ls5 ?_
            refine s_aload_n (pc' := 182) dX5_valueOf_181 rfl lg0 rfl ?_
            refine s_getRv (pc' := 185) (v := .ref 4) dX5_valueOf_182 rfl flX5_21 ly1 (by decide) rfl rfl ?_
            refine s_iload (pc' := 187) dX5_valueOf_185 rfl lg5 ?_
            refine s_iconst (pc' := 188) dX5_valueOf_187 rfl iconst_1 ?_
            refine s_isub (pc' := 189) dX5_valueOf_188 rfl ?_
            rw [show (nI (x :: s).length - 1) = nI s.length from nI_pred _]
            refine s_iload (pc' := 191) dX5_valueOf_189 rfl lg7 ?_
            refine s_aload_n (pc' := 192) dX5_valueOf_191 rfl lg0 rfl ?_
            refine s_getRv (pc' := 195) (v := .ref 4) dX5_valueOf_192 rfl flX5_21 ly1 (by decide) rfl rfl ?_
            refine s_iload (pc' := 197) dX5_valueOf_195 rfl lg5 ?_
            refine s_iconst (pc' := 198) dX5_valueOf_197 rfl iconst_1 ?_
            refine s_isub (pc' := 199) dX5_valueOf_198 rfl ?_
            rw [show (nI (x :: s).length - 1) = nI s.length from nI_pred _]
            refine s_ialdNv (pc' := 200) (v := x) dX5_valueOf_199 rfl ly4 (by simp at hsl; omega) (by decide) (stk_hd (stk_pop hst)) ?_
            refine s_aload_n (pc' := 201) dX5_valueOf_200 rfl lg0 rfl ?_
            refine s_getRv (pc' := 204) (v := .ref 4) dX5_valueOf_201 rfl flX5_21 ly1 (by decide) rfl rfl ?_
            refine s_iload (pc' := 206) dX5_valueOf_204 rfl lg5 ?_
            refine s_ialdNv (pc' := 207) (v := y) dX5_valueOf_206 rfl ly4 (by simp at hsl ⊢; omega) (by decide) (stk_hd hst) ?_
            refine c_X5_joined (pc' := 210) dX5_valueOf_207 rfl lkX5_47 (by omega) (Nat.le_of_ble_eq_true rfl)  ?_
            refine s_iastN (pc' := 211) dX5_valueOf_210 rfl ly4 (by simp at hsl; omega) (by decide) ?_
            refine s_iincN (pc' := 214) dX5_valueOf_211 rfl lg6 rfl ls6 ?_
            refine s_goto (tgt := 46) dX5_valueOf_214 (by decide) ?_
            have e1 : tk1 (mem 3) c (y :: x :: s) = jnI (-1 - c) x y :: s := tk1_bin c1 c2 hu
            exact go (am_up m1 4 s.length (jnI (-1 - c) x y)) (.int (-1 - c)) (s.length + 1) (by rw [e1]; rw [List.length_cons]) (hup _ _) (by rw [e1]; exact stk_top (stk_pop hst))
        · skip
          refine s_aload_n (pc' := 107) dX5_valueOf_106 rfl lg0 rfl ?_
          refine s_getRv (pc' := 110) (v := .ref 4) dX5_valueOf_107 rfl flX5_21 ly1 (by decide) rfl rfl ?_
          refine s_iload (pc' := 112) dX5_valueOf_110 rfl lg5 ?_
          refine s_aload_n (pc' := 113) dX5_valueOf_112 rfl lg0 rfl ?_
          refine s_getRv (pc' := 116) (v := .ref 3) dX5_valueOf_113 rfl flX5_17 ly1 (by decide) rfl rfl ?_
          refine s_iload (pc' := 118) dX5_valueOf_116 rfl lg7 ?_
          refine s_iald (pc' := 119) dX5_valueOf_118 rfl ly3 (vp6 c1 c2) ?_
          refine s_iastN (pc' := 120) dX5_valueOf_119 rfl ly4 (by omega) (by decide) ?_
          refine s_iincN (pc' := 123) dX5_valueOf_120 rfl lg5 rfl ls5 ?_
          refine s_goto (tgt := 211) dX5_valueOf_123 (by decide) ?_
          refine s_iincN (pc' := 214) dX5_valueOf_211 rfl lg6 rfl ls6 ?_
          refine s_goto (tgt := 46) dX5_valueOf_214 (by decide) ?_
          have e1 : tk1 (mem 3) c st = mem 3 (-1 - c).toNatClampNeg :: st := tk1_nam c1 c2
          exact go (am_up m1 4 st.length (m1 3 (-1 - c).toNatClampNeg)) (.int (-1 - c)) (st.length + 1) (by rw [e1]; rw [List.length_cons]) (hup _ _) (by rw [e1, hm 3 (by decide)]; exact stk_push hst)
      · skip
        refine s_aload_n (pc' := 80) dX5_valueOf_79 rfl lg0 rfl ?_
        refine s_getRv (pc' := 83) (v := .ref 4) dX5_valueOf_80 rfl flX5_21 ly1 (by decide) rfl rfl ?_
        refine s_iload (pc' := 85) dX5_valueOf_83 rfl lg5 ?_
        refine s_aload_n (pc' := 86) dX5_valueOf_85 rfl lg3 rfl ?_
        refine s_getRv (pc' := 89) (v := .ref a) dX5_valueOf_86 rfl flX5_38 ht (by decide) rfl hrt ?_
        refine s_iload (pc' := 91) dX5_valueOf_89 rfl lg6 ?_
        refine s_ialdNv (pc' := 92) (v := c) dX5_valueOf_91 rfl ha (by omega) (by omega) hc0 ?_
        refine s_iastN (pc' := 93) dX5_valueOf_92 rfl ly4 (by omega) (by decide) ?_
        refine s_iincN (pc' := 96) dX5_valueOf_93 rfl lg5 rfl ls5 ?_
        refine s_goto (tgt := 211) dX5_valueOf_96 (by decide) ?_
        refine s_iincN (pc' := 214) dX5_valueOf_211 rfl lg6 rfl ls6 ?_
        refine s_goto (tgt := 46) dX5_valueOf_214 (by decide) ?_
        have e1 : tk1 (mem 3) c st = c :: st := tk1_num c1
        exact go (am_up m1 4 st.length c) (.int (-1 - c)) (st.length + 1) (by rw [e1]; rw [List.length_cons]) (hup _ _) (by rw [e1]; exact stk_push hst)
  refine s_iload_n (pc' := 1) dX5_valueOf_0 rfl lg1 ?_
  refine s_if_lt (pc' := 4) (tgt := 21) dX5_valueOf_1 rfl (by decide) (fun c9 => absurd c9 (nI_pos (by omega))) (fun _ => ?_)
  refine s_iload_n (pc' := 5) dX5_valueOf_4 rfl lg1 ?_
  refine s_aload_n (pc' := 6) dX5_valueOf_5 rfl lg0 rfl ?_
  refine s_getI (pc' := 9) dX5_valueOf_6 rfl flX5_24 ly1 (by decide) rfl ?_
  refine s_icmp_ge (pc' := 12) (tgt := 21) dX5_valueOf_9 rfl (by decide) (fun c9 => absurd c9 (by rw [hnt]; exact nI_ge hw (by omega))) (fun _ => ?_)
  refine s_aload_n (pc' := 13) dX5_valueOf_12 rfl lg0 rfl ?_
  refine s_getRv (pc' := 16) (v := .ref 2) dX5_valueOf_13 rfl flX5_11 ly1 (by decide) rfl rfl ?_
  refine s_iload_n (pc' := 17) dX5_valueOf_16 rfl lg1 ?_
  refine s_aaldv (pc' := 18) (v := .ref t) dX5_valueOf_17 rfl ly2 (by decide) (am_in (by omega) (by decide)) (by rw [am_cl (n := 6) (by omega) (by decide)]; exact hv) ?_
  refine s_goto (tgt := 22) dX5_valueOf_18 (by decide) ?_
  refine s_astore_n (pc' := 23) dX5_valueOf_22 rfl rfl (Nat.le_of_ble_eq_true rfl) rfl ls3 ?_
  refine s_aload_n (pc' := 24) dX5_valueOf_23 rfl lg3 rfl ?_
  refine s_ifnonnull (tgt := 29) dX5_valueOf_24 (by decide) ?_
  refine s_aload_n (pc' := 30) dX5_valueOf_29 rfl lg3 rfl ?_
  refine s_iload_n (pc' := 31) dX5_valueOf_30 rfl lg2 ?_
  refine c_X4_endOf (pc' := 34) dX5_valueOf_31 rfl lkX5_31 (by omega) (Nat.le_of_ble_eq_true rfl) ht hrt ha ?_
  rw [he]
  refine s_istore (pc' := 36) dX5_valueOf_34 rfl (Nat.le_of_ble_eq_true rfl) rfl ls4 ?_
  refine s_iconst (pc' := 37) dX5_valueOf_36 rfl iconst_0 ?_
  refine s_istore (pc' := 39) dX5_valueOf_37 rfl (Nat.le_of_ble_eq_true rfl) rfl ls5 ?_
  refine s_aload_n (pc' := 40) dX5_valueOf_39 rfl lg3 rfl ?_
  refine s_iload_n (pc' := 41) dX5_valueOf_40 rfl lg2 ?_
  refine c_X4_startOf (pc' := 44) dX5_valueOf_41 rfl lkX5_35 (by omega) (Nat.le_of_ble_eq_true rfl) ht ?_
  rw [hs]
  refine s_istore (pc' := 46) dX5_valueOf_44 rfl (Nat.le_of_ble_eq_true rfl) rfl ls6 ?_
  refine loop (P p) (sOf P p) [] mem _ (fun k hk => ?_) rfl (hwk p hp3) (fun _ _ => rfl) stk_nil (Nat.zero_le _) rfl
  have hel2 : sOf P p + (P p).length = eOf P p := rfl
  rw [hcode _ (by omega), P_at hp3 hk]
theorem c_X5_valueOf {z : Zz} {d kc ks : Nat} {mi : MI} {pc pc' : Nat} {L S : List Value} {Q : Option Value → Lay → Mem → Prop} {rf : Nat → Value} {tl : Lay} {mem : Mem}  {w p nt : Nat} {P : Nat → List Int32} {idx : Nat} (hd : decode mi.2.1 pc = .ok (.invokevirtual idx, 3)) (hp : pc + 3 = pc') (hlk : Cond.methodLink mi.1.cls idx yX5_valueOf ∈ wok) (hdd : 1 + 1 ≤ d) (hcat : (S.map (fun v => v.category)).sum ≤ 8) (hnt : mem 1 3 = nI nt) (hn6 : nt ≤ 6) (hw : w < nt) (hp3 : p < 3) (hT : isTx (LAY rf tl) mem (rf w) P) (K : ∀ mem', (∀ j, j ≠ 4 → mem' j = mem j) → Sim z d kc ks mi pc' L (.int (tv (mem 3) (P p)) :: S) (LAY rf tl) mem' Q) : Sim z d kc ks mi pc L (.int (nI p) :: .int (nI w) :: .ref 1 :: S) (LAY rf tl) mem Q :=
  s_invV (d2 := 1) hd hp okX5_valueOf hlk inX5_valueOf seX5_valueOf hdd (Nat.zero_add _) (Nat.zero_add _) rfl rfl ly1 rfl hcat (Nat.le_of_ble_eq_true rfl) (m_X5_valueOf (Nat.le_refl _) hnt hn6 hw hp3 hT K)
/-- all texts -/
def isTT (rf : Nat → Value) (tl : Lay) (mem : Mem) (nt : Nat) (T : Nat → Nat → List Int32) : Prop := mem 1 3 = nI nt ∧ 1 ≤ nt ∧ nt ≤ 6 ∧ ∀ w, w < nt → isTx (LAY rf tl) mem (rf w) (T w)
theorem isTT.kept {rf : Nat → Value} {tl : Lay} {mem mem' : Mem} {nt : Nat} {T : Nat → Nat → List Int32} (h : isTT rf tl mem nt T) (hk : ∀ j, j = 1 ∨ j = 5 ∨ j = 6 ∨ 66 < j → mem' j = mem j) : isTT rf tl mem' nt T :=
  ⟨by rw [hk 1 (by omega)]; exact h.1, h.2.1, h.2.2.1, fun w hw => (h.2.2.2 w hw).kept (fun j hj => hk j (by omega))⟩
theorem tk1_cong {v v' : Nat → Int32} (h : ∀ k, k < 6 → v k = v' k) (c : Int32) (st : List Int32) : tk1 v c st = tk1 v' c st := by
  by_cases h1 : 0 ≤ -1 - c
  · by_cases h2 : 6 ≤ -1 - c
    · unfold tk1
      rw [if_pos h1, if_pos h2, if_pos h1, if_pos h2]
    · rw [tk1_nam h1 h2, tk1_nam h1 h2, h]
      have := vp6 h1 h2
      unfold vp_in at this
      omega
  · rw [tk1_num h1, tk1_num h1]
theorem ev_cong {v v' : Nat → Int32} (h : ∀ k, k < 6 → v k = v' k) : ∀ (cs st : List Int32), ev v cs st = ev v' cs st
  | [], st => by rw [ev_nil, ev_nil]
  | c :: cs, st => by rw [ev_cons, ev_cons, tk1_cong h, ev_cong h cs]
theorem tv_cong {v v' : Nat → Int32} (h : ∀ k, k < 6 → v k = v' k) (cs : List Int32) : tv v cs = tv v' cs := by
  unfold tv; rw [ev_cong h]

