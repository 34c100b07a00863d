/-! ===== the Model: places, deeds ===== -/
set_option maxHeartbeats 4000000 in
theorem m_X7_places {z : Zz} {d : Nat} {Q : Option Value → Lay → Mem → Prop} {rf : Nat → Value} {tl : Lay} {mem : Mem}  {n : Nat} {σ : Nat → Nat → Int32} {td ru : Int32} (hdd : 2 ≤ d) (hM : isM 48 mem σ n td ru) (K :  Q (some (.int (nI (plM σ n)))) (LAY rf tl) mem) : Sim z d 0 0 mX7_places 0 [.ref 47, .float 0, .float 0] [] (LAY rf tl) mem Q := by
  have h8 := hM.2.1
  refine s_iconst (pc' := 1) dX7_places_0 rfl iconst_0 ?_
  refine s_istore_n (pc' := 2) dX7_places_1 rfl (Nat.le_of_ble_eq_true rfl) rfl ls1 ?_
  refine s_iconst (pc' := 3) dX7_places_2 rfl iconst_0 ?_
  refine s_istore_n (pc' := 4) dX7_places_3 rfl (Nat.le_of_ble_eq_true rfl) rfl ls2 ?_
  have loop : ∀ (k i : Nat), i + k = 12 → Sim z d 0 0 mX7_places 4 [.ref 47, .int (nI (ct (fun p => !decide (bo (fun i => decide (σ 3 i = nI p)) n = 0)) i)), .int (nI i)] [] (LAY rf tl) mem Q := by
    intro k
    induction k with
    | zero =>
      intro i hi
      have : i = 12 := by omega
      subst this
      refine s_iload_n (pc' := 5) dX7_places_4 rfl lg2 ?_
      refine s_bipush (pc' := 7) dX7_places_5 rfl bipush_12 ?_
      refine s_icmp_ge (pc' := 10) (tgt := 32) dX7_places_7 rfl (by decide) (fun _ => ?_) (fun c9 => absurd (by decide) c9)
      refine s_iload_n (pc' := 33) dX7_places_32 rfl lg1 ?_
      refine s_iret dX7_places_33 rfl (vp_nar_int _) ?_
      exact K
    | succ k ih =>
      intro i hi
      have h1 := ih (i + 1) (by omega)
      rw [ct] at h1
      refine s_iload_n (pc' := 5) dX7_places_4 rfl lg2 ?_
      refine s_bipush (pc' := 7) dX7_places_5 rfl bipush_12 ?_
      refine s_icmp_ge (pc' := 10) (tgt := 32) dX7_places_7 rfl (by decide) (fun c9 => absurd c9 (nI_ge (b := 12) (by omega) (by omega))) (fun _ => ?_)
      refine s_iload_n (pc' := 11) dX7_places_10 rfl lg1 ?_
      refine s_aload_n (pc' := 12) dX7_places_11 rfl lg0 rfl ?_
      refine s_iload_n (pc' := 13) dX7_places_12 rfl lg2 ?_
      refine c_X7_lying  (pc' := 16) dX7_places_13 rfl lkX7_115 (by omega) (Nat.le_of_ble_eq_true rfl) hM ?_
      refine s_if_eq (pc' := 19) (tgt := 23) dX7_places_16 rfl (by decide) (fun c1 => ?_) (fun c1 => ?_)
      · skip
        rw [decide_eq_true c1, Bool.not_true, if_neg Bool.false_ne_true] at h1
        refine s_iconst (pc' := 24) dX7_places_23 rfl iconst_0 ?_
        refine s_iadd (pc' := 25) dX7_places_24 rfl ?_
        rw [show nI (ct (fun p => !decide (bo (fun i => decide (σ 3 i = nI p)) n = 0)) i) + 0 = nI (ct (fun p => !decide (bo (fun i => decide (σ 3 i = nI p)) n = 0)) i + 0) from nI_add _ 0]
        refine s_istore_n (pc' := 26) dX7_places_25 rfl (Nat.le_of_ble_eq_true rfl) rfl ls1 ?_
        refine s_iincN (pc' := 29) dX7_places_26 rfl lg2 rfl ls2 ?_
        refine s_goto (tgt := 4) dX7_places_29 (by decide) ?_
        exact h1
      · skip
        rw [decide_eq_false c1, Bool.not_false, if_pos rfl] at h1
        refine s_iconst (pc' := 20) dX7_places_19 rfl iconst_1 ?_
        refine s_goto (tgt := 24) dX7_places_20 (by decide) ?_
        refine s_iadd (pc' := 25) dX7_places_24 rfl ?_
        rw [nI_1]
        refine s_istore_n (pc' := 26) dX7_places_25 rfl (Nat.le_of_ble_eq_true rfl) rfl ls1 ?_
        refine s_iincN (pc' := 29) dX7_places_26 rfl lg2 rfl ls2 ?_
        refine s_goto (tgt := 4) dX7_places_29 (by decide) ?_
        exact h1
  exact loop 12 0 (by omega)
theorem c_X7_places {z : Zz} {d kc ks : Nat} {mi : MI} {pc pc' : Nat} {L S : List Value} {Q : Option Value → Lay → Mem → Prop} {rf : Nat → Value} {tl : Lay} {mem : Mem}  {n : Nat} {σ : Nat → Nat → Int32} {td ru : Int32} {idx : Nat} (hd : decode mi.2.1 pc = .ok (.invokevirtual idx, 3)) (hp : pc + 3 = pc') (hlk : Cond.methodLink mi.1.cls idx yX7_places ∈ wok) (hdd : 2 + 1 ≤ d) (hcat : (S.map (fun v => v.category)).sum ≤ 8) (hM : isM 48 mem σ n td ru) (K :  Sim z d kc ks mi pc' L (.int (nI (plM σ n)) :: S) (LAY rf tl) mem Q) : Sim z d kc ks mi pc L (.ref 47 :: S) (LAY rf tl) mem Q :=
  s_invV (d2 := 2) hd hp okX7_places hlk inX7_places seX7_places hdd (Nat.zero_add _) (Nat.zero_add _) rfl rfl ly47 rfl hcat (Nat.le_of_ble_eq_true rfl) (m_X7_places (Nat.le_refl _) hM K)
set_option maxHeartbeats 4000000 in
theorem m_X7_yes {z : Zz} {d : Nat} {Q : Option Value → Lay → Mem → Prop} {lay : Lay} {mem : Mem} {v : Int32} (hdd : 0 ≤ d)  (K :  Q (some (.int (if v = 0 then 0 else 1))) lay mem) : Sim z d 0 0 mX7_yes 0 [.int v] [] (lay) mem Q := by
  refine s_iload_n (pc' := 1) dX7_yes_0 rfl lg0 ?_
  refine s_if_eq (pc' := 4) (tgt := 8) dX7_yes_1 rfl (by decide) (fun c1 => ?_) (fun c1 => ?_)
  · refine s_iconst (pc' := 9) dX7_yes_8 rfl iconst_0 ?_
    refine s_iret dX7_yes_9 rfl (vp_nar_int _) ?_
    (simpa [c1] using K)
  · refine s_iconst (pc' := 5) dX7_yes_4 rfl iconst_1 ?_
    refine s_goto (tgt := 9) dX7_yes_5 (by decide) ?_
    refine s_iret dX7_yes_9 rfl (vp_nar_int _) ?_
    (simpa [c1] using K)
theorem c_X7_yes {z : Zz} {d kc ks : Nat} {mi : MI} {pc pc' : Nat} {L S : List Value} {Q : Option Value → Lay → Mem → Prop} {lay : Lay} {mem : Mem} {v : Int32} {idx : Nat} (hd : decode mi.2.1 pc = .ok (.invokestatic idx, 3)) (hp : pc + 3 = pc') (hlk : Cond.methodLink mi.1.cls idx yX7_yes ∈ wok) (hdd : 0 + 1 ≤ d) (hcat : (S.map (fun v => v.category)).sum ≤ 8)  (K :  Sim z d kc ks mi pc' L (.int (if v = 0 then 0 else 1) :: S) lay mem Q) : Sim z d kc ks mi pc L (.int v :: S) (lay) mem Q :=
  s_invS (d2 := 0) hd hp okX7_yes hlk stX7_yes hdd (Nat.zero_add _) (Nat.zero_add _) rfl rfl hcat (Nat.le_of_ble_eq_true rfl) (m_X7_yes (Nat.le_refl _)  K)
def dmI (c x y : Int32) : Int32 := if c = -26 then x - y else if c = -25 then x + y else if c = -24 then (if x = y then 1 else 0) else if c = -23 then (if y ≤ x then 0 else 1) else if c = -21 then (if x = 0 then 0 else if y = 0 then 0 else 1) else if c = -20 then (if x = 0 then if y = 0 then 0 else 1 else 1) else x * y
set_option maxHeartbeats 4000000 in
theorem m_X7_deed {z : Zz} {d : Nat} {Q : Option Value → Lay → Mem → Prop} {lay : Lay} {mem : Mem} {c x y : Int32} (hdd : 1 ≤ d)  (K :  Q (some (.int (dmI c x y))) lay mem) : Sim z d 0 0 mX7_deed 0 [.int c, .int x, .int y] [] (lay) mem Q := by
  refine s_iload_n (pc' := 1) dX7_deed_0 rfl lg0 ?_
  refine s_ts7 (v0 := -26) (v1 := -25) (v2 := -24) (v3 := -23) (v4 := -22) (v5 := -21) (v6 := -20) (t0 := 110) (t1 := 106) (t2 := 92) (t3 := 78) (t4 := 114) (t5 := 61) (t6 := 44) (td := 114) dX7_deed_1 (by decide) (by decide) (by decide) (by decide) (by decide) (by decide) (by decide) (by decide) (by decide) (by decide) (by decide) (by decide) (by decide) (by decide) (by decide) (by decide) (fun e2 => ?_) (fun e2 => ?_) (fun e2 => ?_) (fun e2 => ?_) (fun e2 => ?_) (fun e2 => ?_) (fun e2 => ?_) (fun e2_0 e2_1 e2_2 e2_3 e2_4 e2_5 e2_6 => ?_)
  · refine s_iload_n (pc' := 111) dX7_deed_110 rfl lg1 ?_
    refine s_iload_n (pc' := 112) dX7_deed_111 rfl lg2 ?_
    refine s_isub (pc' := 113) dX7_deed_112 rfl ?_
    refine s_iret dX7_deed_113 rfl (vp_nar_int _) ?_
    (simpa [dmI, e2] using K)
  · refine s_iload_n (pc' := 107) dX7_deed_106 rfl lg1 ?_
    refine s_iload_n (pc' := 108) dX7_deed_107 rfl lg2 ?_
    refine s_iadd (pc' := 109) dX7_deed_108 rfl ?_
    refine s_iret dX7_deed_109 rfl (vp_nar_int _) ?_
    (simpa [dmI, e2] using K)
  · refine s_iload_n (pc' := 93) dX7_deed_92 rfl lg1 ?_
    refine s_iload_n (pc' := 94) dX7_deed_93 rfl lg2 ?_
    refine s_icmp_ne (pc' := 97) (tgt := 101) dX7_deed_94 rfl (by decide) (fun c3 => ?_) (fun c3 => ?_)
    · refine s_iconst (pc' := 102) dX7_deed_101 rfl iconst_0 ?_
      refine c_X7_yes (pc' := 105) dX7_deed_102 rfl lkX7_192 (by omega) (Nat.le_of_ble_eq_true rfl)  ?_
      refine s_iret dX7_deed_105 rfl (vp_nar_int _) ?_
      (simpa [dmI, e2, c3] using K)
    · refine s_iconst (pc' := 98) dX7_deed_97 rfl iconst_1 ?_
      refine s_goto (tgt := 102) dX7_deed_98 (by decide) ?_
      refine c_X7_yes (pc' := 105) dX7_deed_102 rfl lkX7_192 (by omega) (Nat.le_of_ble_eq_true rfl)  ?_
      refine s_iret dX7_deed_105 rfl (vp_nar_int _) ?_
      (simpa [dmI, e2, c3] using K)
  · refine s_iload_n (pc' := 79) dX7_deed_78 rfl lg1 ?_
    refine s_iload_n (pc' := 80) dX7_deed_79 rfl lg2 ?_
    refine s_icmp_ge (pc' := 83) (tgt := 87) dX7_deed_80 rfl (by decide) (fun c4 => ?_) (fun c4 => ?_)
    · refine s_iconst (pc' := 88) dX7_deed_87 rfl iconst_0 ?_
      refine c_X7_yes (pc' := 91) dX7_deed_88 rfl lkX7_192 (by omega) (Nat.le_of_ble_eq_true rfl)  ?_
      refine s_iret dX7_deed_91 rfl (vp_nar_int _) ?_
      (simpa [dmI, e2, c4] using K)
    · refine s_iconst (pc' := 84) dX7_deed_83 rfl iconst_1 ?_
      refine s_goto (tgt := 88) dX7_deed_84 (by decide) ?_
      refine c_X7_yes (pc' := 91) dX7_deed_88 rfl lkX7_192 (by omega) (Nat.le_of_ble_eq_true rfl)  ?_
      refine s_iret dX7_deed_91 rfl (vp_nar_int _) ?_
      (simpa [dmI, e2, c4] using K)
  · refine s_iload_n (pc' := 115) dX7_deed_114 rfl lg1 ?_
    refine s_iload_n (pc' := 116) dX7_deed_115 rfl lg2 ?_
    refine s_imul (pc' := 117) dX7_deed_116 rfl ?_
    refine s_iret dX7_deed_117 rfl (vp_nar_int _) ?_
    (simpa [dmI, e2] using K)
  · refine s_iload_n (pc' := 62) dX7_deed_61 rfl lg1 ?_
    refine s_if_eq (pc' := 65) (tgt := 73) dX7_deed_62 rfl (by decide) (fun c5 => ?_) (fun c5 => ?_)
    · refine s_iconst (pc' := 74) dX7_deed_73 rfl iconst_0 ?_
      refine c_X7_yes (pc' := 77) dX7_deed_74 rfl lkX7_192 (by omega) (Nat.le_of_ble_eq_true rfl)  ?_
      refine s_iret dX7_deed_77 rfl (vp_nar_int _) ?_
      (simpa [dmI, e2, c5] using K)
    · refine s_iload_n (pc' := 66) dX7_deed_65 rfl lg2 ?_
      refine s_if_eq (pc' := 69) (tgt := 73) dX7_deed_66 rfl (by decide) (fun c6 => ?_) (fun c6 => ?_)
      · refine s_iconst (pc' := 74) dX7_deed_73 rfl iconst_0 ?_
        refine c_X7_yes (pc' := 77) dX7_deed_74 rfl lkX7_192 (by omega) (Nat.le_of_ble_eq_true rfl)  ?_
        refine s_iret dX7_deed_77 rfl (vp_nar_int _) ?_
        (simpa [dmI, e2, c5, c6] using K)
      · refine s_iconst (pc' := 70) dX7_deed_69 rfl iconst_1 ?_
        refine s_goto (tgt := 74) dX7_deed_70 (by decide) ?_
        refine c_X7_yes (pc' := 77) dX7_deed_74 rfl lkX7_192 (by omega) (Nat.le_of_ble_eq_true rfl)  ?_
        refine s_iret dX7_deed_77 rfl (vp_nar_int _) ?_
        (simpa [dmI, e2, c5, c6] using K)
  · refine s_iload_n (pc' := 45) dX7_deed_44 rfl lg1 ?_
    refine s_if_ne (pc' := 48) (tgt := 52) dX7_deed_45 rfl (by decide) (fun c7 => ?_) (fun c7 => ?_)
    · refine s_iconst (pc' := 53) dX7_deed_52 rfl iconst_1 ?_
      refine s_goto (tgt := 57) dX7_deed_53 (by decide) ?_
      refine c_X7_yes (pc' := 60) dX7_deed_57 rfl lkX7_192 (by omega) (Nat.le_of_ble_eq_true rfl)  ?_
      refine s_iret dX7_deed_60 rfl (vp_nar_int _) ?_
      (simpa [dmI, e2, c7] using K)
    · refine s_iload_n (pc' := 49) dX7_deed_48 rfl lg2 ?_
      refine s_if_eq (pc' := 52) (tgt := 56) dX7_deed_49 rfl (by decide) (fun c8 => ?_) (fun c8 => ?_)
      · refine s_iconst (pc' := 57) dX7_deed_56 rfl iconst_0 ?_
        refine c_X7_yes (pc' := 60) dX7_deed_57 rfl lkX7_192 (by omega) (Nat.le_of_ble_eq_true rfl)  ?_
        refine s_iret dX7_deed_60 rfl (vp_nar_int _) ?_
        (simpa [dmI, e2, c7, c8] using K)
      · refine s_iconst (pc' := 53) dX7_deed_52 rfl iconst_1 ?_
        refine s_goto (tgt := 57) dX7_deed_53 (by decide) ?_
        refine c_X7_yes (pc' := 60) dX7_deed_57 rfl lkX7_192 (by omega) (Nat.le_of_ble_eq_true rfl)  ?_
        refine s_iret dX7_deed_60 rfl (vp_nar_int _) ?_
        (simpa [dmI, e2, c7, c8] using K)
  · refine s_iload_n (pc' := 115) dX7_deed_114 rfl lg1 ?_
    refine s_iload_n (pc' := 116) dX7_deed_115 rfl lg2 ?_
    refine s_imul (pc' := 117) dX7_deed_116 rfl ?_
    refine s_iret dX7_deed_117 rfl (vp_nar_int _) ?_
    (simpa [dmI, e2_0, e2_1, e2_2, e2_3, e2_4, e2_5, e2_6] using K)
theorem c_X7_deed {z : Zz} {d kc ks : Nat} {mi : MI} {pc pc' : Nat} {L S : List Value} {Q : Option Value → Lay → Mem → Prop} {lay : Lay} {mem : Mem} {c x y : Int32} {idx : Nat} (hd : decode mi.2.1 pc = .ok (.invokestatic idx, 3)) (hp : pc + 3 = pc') (hlk : Cond.methodLink mi.1.cls idx yX7_deed ∈ wok) (hdd : 1 + 1 ≤ d) (hcat : (S.map (fun v => v.category)).sum ≤ 8)  (K :  Sim z d kc ks mi pc' L (.int (dmI c x y) :: S) lay mem Q) : Sim z d kc ks mi pc L (.int y :: .int x :: .int c :: S) (lay) mem Q :=
  s_invS (d2 := 1) hd hp okX7_deed hlk stX7_deed hdd (Nat.zero_add _) (Nat.zero_add _) rfl rfl hcat (Nat.le_of_ble_eq_true rfl) (m_X7_deed (Nat.le_refl _)  K)
/-- the Model's sign for a sign of the class's code -/
def toM (c : Int32) : Int32 := if 0 ≤ -1 - c then (if 6 ≤ -1 - c then (if -1 - c = 9 then -20 else if -1 - c = 10 then -21 else if -1 - c = 11 then -22 else if -1 - c = 18 then -23 else if -1 - c = 19 then -24 else if -1 - c = 15 then -25 else if -1 - c = 16 then -26 else if -1 - c = 23 then -28 else -27) else -10 - (-1 - c)) else c
theorem dm_jn {t x y : Int32} (h11 : ¬ t = 11) (h23 : ¬ t = 23) : dmI (if t = 9 then -20 else if t = 10 then -21 else if t = 11 then -22 else if t = 18 then -23 else if t = 19 then -24 else if t = 15 then -25 else if t = 16 then -26 else if t = 23 then -28 else -27) x y = jnI t x y := by
  unfold dmI jnI
  by_cases h1 : t = 9
  · rw [if_pos h1, if_pos h1]; rfl
  rw [if_neg h1, if_neg h1]
  by_cases h2 : t = 10
  · rw [if_pos h2, if_pos h2]; rfl
  rw [if_neg h2, if_neg h2, if_neg h11]
  by_cases h3 : t = 18
  · rw [if_pos h3, if_pos h3]; rfl
  rw [if_neg h3, if_neg h3]
  by_cases h4 : t = 19
  · rw [if_pos h4, if_pos h4]; rfl
  rw [if_neg h4, if_neg h4]
  by_cases h5 : t = 15
  · rw [if_pos h5, if_pos h5]; rfl
  rw [if_neg h5, if_neg h5]
  by_cases h6 : t = 16
  · rw [if_pos h6, if_pos h6]; rfl
  rw [if_neg h6, if_neg h6, if_neg h23]
  rfl

