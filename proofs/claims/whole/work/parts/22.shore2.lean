/-! ===== Shore: its picture; what changes it ===== -/
/-- the shore at b is (σ, n, tide, rule): σ 0 kind, 1 number, 2 sharp, 3 place, 4 side -/
def isS (b : Nat) (mem : Mem) (σ : Nat → Nat → Int32) (n : Nat) (td ru : Int32) : Prop := mem b 8 = nI n ∧ n ≤ 8 ∧ mem b 9 = td ∧ mem b 10 = ru ∧ ∀ i, i < n → mem (b + 5) i = σ 0 i ∧ mem (b + 1) i = σ 1 i ∧ mem (b + 2) i = σ 2 i ∧ mem (b + 3) i = σ 3 i ∧ mem (b + 4) i = σ 4 i
theorem isS.kept {b : Nat} {mem mem' : Mem} {σ : Nat → Nat → Int32} {n : Nat} {td ru : Int32} (h : isS b mem σ n td ru) (hk : ∀ j, b ≤ j → j ≤ b + 5 → mem' j = mem j) : isS b mem' σ n td ru := by
  unfold isS at h ⊢
  rw [hk b (by omega) (by omega), hk (b + 1) (by omega) (by omega), hk (b + 2) (by omega) (by omega), hk (b + 3) (by omega) (by omega), hk (b + 4) (by omega) (by omega), hk (b + 5) (by omega) (by omega)]
  exact h
theorem cpy0_at {f g : Nat → Int32} {n i : Nat} (h : i < n) : va_cpy f g 0 0 n i = f i := by
  rw [pk_cpy_in (Nat.zero_le _) (by omega)]; simp
set_option maxHeartbeats 4000000 in
theorem m_X3_becomes_18_10 {z : Zz} {d : Nat} {Q : Option Value → Lay → Mem → Prop} {rf : Nat → Value} {tl : Lay} {mem : Mem}  {σ : Nat → Nat → Int32} {n : Nat} {td ru : Int32} (hdd : 2 ≤ d) (hS : isS 10 mem σ n td ru) (K : ∀ mem', isS 18 mem' σ n td ru → (∀ j, j < 18 ∨ 18 + 5 < j → mem' j = mem j) → Q none (LAY rf tl) mem') : Sim z d 0 0 mX3_becomes 0 [.ref 18, .ref 10] [] (LAY rf tl) mem Q := by
  have hn := hS.1
  have h8 := hS.2.1
  refine s_aload_n (pc' := 1) dX3_becomes_0 rfl lg1 rfl ?_
  refine s_getRv (pc' := 4) (v := .ref 11) dX3_becomes_1 rfl flX3_9 ly10 (by decide) rfl rfl ?_
  refine s_iconst (pc' := 5) dX3_becomes_4 rfl iconst_0 ?_
  refine s_aload_n (pc' := 6) dX3_becomes_5 rfl lg0 rfl ?_
  refine s_getRv (pc' := 9) (v := .ref 19) dX3_becomes_6 rfl flX3_9 ly18 (by decide) rfl rfl ?_
  refine s_iconst (pc' := 10) dX3_becomes_9 rfl iconst_0 ?_
  refine s_aload_n (pc' := 11) dX3_becomes_10 rfl lg1 rfl ?_
  refine s_getI (pc' := 14) dX3_becomes_11 rfl flX3_33 ly10 (by decide) rfl ?_
  refine s_acopy0 (pc' := 17) dX3_becomes_14 rfl lkX3_47 kAC1 kAC2 kAC3 ly11 ly19 (by simp [am_cp, hn]; rfl) (by omega) (by omega) (Nat.le_of_ble_eq_true rfl) ?_
  refine s_aload_n (pc' := 18) dX3_becomes_17 rfl lg1 rfl ?_
  refine s_getRv (pc' := 21) (v := .ref 12) dX3_becomes_18 rfl flX3_15 ly10 (by decide) rfl rfl ?_
  refine s_iconst (pc' := 22) dX3_becomes_21 rfl iconst_0 ?_
  refine s_aload_n (pc' := 23) dX3_becomes_22 rfl lg0 rfl ?_
  refine s_getRv (pc' := 26) (v := .ref 20) dX3_becomes_23 rfl flX3_15 ly18 (by decide) rfl rfl ?_
  refine s_iconst (pc' := 27) dX3_becomes_26 rfl iconst_0 ?_
  refine s_aload_n (pc' := 28) dX3_becomes_27 rfl lg1 rfl ?_
  refine s_getI (pc' := 31) dX3_becomes_28 rfl flX3_33 ly10 (by decide) rfl ?_
  refine s_acopy0 (pc' := 34) dX3_becomes_31 rfl lkX3_47 kAC1 kAC2 kAC3 ly12 ly20 (by simp [am_cp, hn]; rfl) (by omega) (by omega) (Nat.le_of_ble_eq_true rfl) ?_
  refine s_aload_n (pc' := 35) dX3_becomes_34 rfl lg1 rfl ?_
  refine s_getRv (pc' := 38) (v := .ref 13) dX3_becomes_35 rfl flX3_18 ly10 (by decide) rfl rfl ?_
  refine s_iconst (pc' := 39) dX3_becomes_38 rfl iconst_0 ?_
  refine s_aload_n (pc' := 40) dX3_becomes_39 rfl lg0 rfl ?_
  refine s_getRv (pc' := 43) (v := .ref 21) dX3_becomes_40 rfl flX3_18 ly18 (by decide) rfl rfl ?_
  refine s_iconst (pc' := 44) dX3_becomes_43 rfl iconst_0 ?_
  refine s_aload_n (pc' := 45) dX3_becomes_44 rfl lg1 rfl ?_
  refine s_getI (pc' := 48) dX3_becomes_45 rfl flX3_33 ly10 (by decide) rfl ?_
  refine s_acopy0 (pc' := 51) dX3_becomes_48 rfl lkX3_47 kAC1 kAC2 kAC3 ly13 ly21 (by simp [am_cp, hn]; rfl) (by omega) (by omega) (Nat.le_of_ble_eq_true rfl) ?_
  refine s_aload_n (pc' := 52) dX3_becomes_51 rfl lg1 rfl ?_
  refine s_getRv (pc' := 55) (v := .ref 14) dX3_becomes_52 rfl flX3_21 ly10 (by decide) rfl rfl ?_
  refine s_iconst (pc' := 56) dX3_becomes_55 rfl iconst_0 ?_
  refine s_aload_n (pc' := 57) dX3_becomes_56 rfl lg0 rfl ?_
  refine s_getRv (pc' := 60) (v := .ref 22) dX3_becomes_57 rfl flX3_21 ly18 (by decide) rfl rfl ?_
  refine s_iconst (pc' := 61) dX3_becomes_60 rfl iconst_0 ?_
  refine s_aload_n (pc' := 62) dX3_becomes_61 rfl lg1 rfl ?_
  refine s_getI (pc' := 65) dX3_becomes_62 rfl flX3_33 ly10 (by decide) rfl ?_
  refine s_acopy0 (pc' := 68) dX3_becomes_65 rfl lkX3_47 kAC1 kAC2 kAC3 ly14 ly22 (by simp [am_cp, hn]; rfl) (by omega) (by omega) (Nat.le_of_ble_eq_true rfl) ?_
  refine s_aload_n (pc' := 69) dX3_becomes_68 rfl lg1 rfl ?_
  refine s_getRv (pc' := 72) (v := .ref 15) dX3_becomes_69 rfl flX3_24 ly10 (by decide) rfl rfl ?_
  refine s_iconst (pc' := 73) dX3_becomes_72 rfl iconst_0 ?_
  refine s_aload_n (pc' := 74) dX3_becomes_73 rfl lg0 rfl ?_
  refine s_getRv (pc' := 77) (v := .ref 23) dX3_becomes_74 rfl flX3_24 ly18 (by decide) rfl rfl ?_
  refine s_iconst (pc' := 78) dX3_becomes_77 rfl iconst_0 ?_
  refine s_aload_n (pc' := 79) dX3_becomes_78 rfl lg1 rfl ?_
  refine s_getI (pc' := 82) dX3_becomes_79 rfl flX3_33 ly10 (by decide) rfl ?_
  refine s_acopy0 (pc' := 85) dX3_becomes_82 rfl lkX3_47 kAC1 kAC2 kAC3 ly15 ly23 (by simp [am_cp, hn]; rfl) (by omega) (by omega) (Nat.le_of_ble_eq_true rfl) ?_
  refine s_aload_n (pc' := 86) dX3_becomes_85 rfl lg0 rfl ?_
  refine s_aload_n (pc' := 87) dX3_becomes_86 rfl lg1 rfl ?_
  refine s_getI (pc' := 90) dX3_becomes_87 rfl flX3_33 ly10 (by decide) rfl ?_
  refine s_putI (pc' := 93) (ty := .int) dX3_becomes_90 rfl flX3_33 fw3_8 pdI rfl rfl ly18 (by decide) rfl ?_
  refine s_aload_n (pc' := 94) dX3_becomes_93 rfl lg0 rfl ?_
  refine s_aload_n (pc' := 95) dX3_becomes_94 rfl lg1 rfl ?_
  refine s_getI (pc' := 98) dX3_becomes_95 rfl flX3_37 ly10 (by decide) rfl ?_
  refine s_putI (pc' := 101) (ty := .int) dX3_becomes_98 rfl flX3_37 fw3_9 pdI rfl rfl ly18 (by decide) rfl ?_
  refine s_aload_n (pc' := 102) dX3_becomes_101 rfl lg0 rfl ?_
  refine s_aload_n (pc' := 103) dX3_becomes_102 rfl lg1 rfl ?_
  refine s_getI (pc' := 106) dX3_becomes_103 rfl flX3_40 ly10 (by decide) rfl ?_
  refine s_putI (pc' := 109) (ty := .int) dX3_becomes_106 rfl flX3_40 fw3_10 pdI rfl rfl ly18 (by decide) rfl ?_
  refine s_vret dX3_becomes_109 rfl ?_
  refine K _ ?_ (fun j hj => ?_)
  · obtain ⟨h1, h2, h3, h4, h5⟩ := hS
    refine ⟨?_, h2, ?_, ?_, fun i hi => ?_⟩
    · simp [am_up, am_cp, upd, h1]
    · simp [am_up, am_cp, upd, h3]
    · simp [am_up, am_cp, upd, h4]
    · obtain ⟨a0, a1, a2, a3, a4⟩ := h5 i hi
      refine ⟨?_, ?_, ?_, ?_, ?_⟩ <;> simp [am_up, am_cp, cpy0_at hi, *]
  · simp [am_up, am_cp, show ¬ j = 18 by omega, show ¬ j = 18 + 1 by omega, show ¬ j = 18 + 2 by omega, show ¬ j = 18 + 3 by omega, show ¬ j = 18 + 4 by omega, show ¬ j = 18 + 5 by omega]
theorem c_X3_becomes_18_10 {z : Zz} {d kc ks : Nat} {mi : MI} {pc pc' : Nat} {L S : List Value} {Q : Option Value → Lay → Mem → Prop} {rf : Nat → Value} {tl : Lay} {mem : Mem}  {σ : Nat → Nat → Int32} {n : Nat} {td ru : Int32} {idx : Nat} (hd : decode mi.2.1 pc = .ok (.invokevirtual idx, 3)) (hp : pc + 3 = pc') (hlk : Cond.methodLink mi.1.cls idx yX3_becomes ∈ wok) (hdd : 2 + 1 ≤ d) (hcat : (S.map (fun v => v.category)).sum ≤ 8) (hS : isS 10 mem σ n td ru) (K : ∀ mem', isS 18 mem' σ n td ru → (∀ j, j < 18 ∨ 18 + 5 < j → mem' j = mem j) → Sim z d kc ks mi pc' L S (LAY rf tl) mem' Q) : Sim z d kc ks mi pc L (.ref 10 :: .ref 18 :: S) (LAY rf tl) mem Q :=
  s_invV (d2 := 2) hd hp okX3_becomes hlk inX3_becomes seX3_becomes hdd (Nat.zero_add _) (Nat.zero_add _) rfl rfl ly18 rfl hcat (Nat.le_of_ble_eq_true rfl) (m_X3_becomes_18_10 (Nat.le_refl _) hS K)
set_option maxHeartbeats 4000000 in
theorem m_X3_becomes_26_10 {z : Zz} {d : Nat} {Q : Option Value → Lay → Mem → Prop} {rf : Nat → Value} {tl : Lay} {mem : Mem}  {σ : Nat → Nat → Int32} {n : Nat} {td ru : Int32} (hdd : 2 ≤ d) (hS : isS 10 mem σ n td ru) (K : ∀ mem', isS 26 mem' σ n td ru → (∀ j, j < 26 ∨ 26 + 5 < j → mem' j = mem j) → Q none (LAY rf tl) mem') : Sim z d 0 0 mX3_becomes 0 [.ref 26, .ref 10] [] (LAY rf tl) mem Q := by
  have hn := hS.1
  have h8 := hS.2.1
  refine s_aload_n (pc' := 1) dX3_becomes_0 rfl lg1 rfl ?_
  refine s_getRv (pc' := 4) (v := .ref 11) dX3_becomes_1 rfl flX3_9 ly10 (by decide) rfl rfl ?_
  refine s_iconst (pc' := 5) dX3_becomes_4 rfl iconst_0 ?_
  refine s_aload_n (pc' := 6) dX3_becomes_5 rfl lg0 rfl ?_
  refine s_getRv (pc' := 9) (v := .ref 27) dX3_becomes_6 rfl flX3_9 ly26 (by decide) rfl rfl ?_
  refine s_iconst (pc' := 10) dX3_becomes_9 rfl iconst_0 ?_
  refine s_aload_n (pc' := 11) dX3_becomes_10 rfl lg1 rfl ?_
  refine s_getI (pc' := 14) dX3_becomes_11 rfl flX3_33 ly10 (by decide) rfl ?_
  refine s_acopy0 (pc' := 17) dX3_becomes_14 rfl lkX3_47 kAC1 kAC2 kAC3 ly11 ly27 (by simp [am_cp, hn]; rfl) (by omega) (by omega) (Nat.le_of_ble_eq_true rfl) ?_
  refine s_aload_n (pc' := 18) dX3_becomes_17 rfl lg1 rfl ?_
  refine s_getRv (pc' := 21) (v := .ref 12) dX3_becomes_18 rfl flX3_15 ly10 (by decide) rfl rfl ?_
  refine s_iconst (pc' := 22) dX3_becomes_21 rfl iconst_0 ?_
  refine s_aload_n (pc' := 23) dX3_becomes_22 rfl lg0 rfl ?_
  refine s_getRv (pc' := 26) (v := .ref 28) dX3_becomes_23 rfl flX3_15 ly26 (by decide) rfl rfl ?_
  refine s_iconst (pc' := 27) dX3_becomes_26 rfl iconst_0 ?_
  refine s_aload_n (pc' := 28) dX3_becomes_27 rfl lg1 rfl ?_
  refine s_getI (pc' := 31) dX3_becomes_28 rfl flX3_33 ly10 (by decide) rfl ?_
  refine s_acopy0 (pc' := 34) dX3_becomes_31 rfl lkX3_47 kAC1 kAC2 kAC3 ly12 ly28 (by simp [am_cp, hn]; rfl) (by omega) (by omega) (Nat.le_of_ble_eq_true rfl) ?_
  refine s_aload_n (pc' := 35) dX3_becomes_34 rfl lg1 rfl ?_
  refine s_getRv (pc' := 38) (v := .ref 13) dX3_becomes_35 rfl flX3_18 ly10 (by decide) rfl rfl ?_
  refine s_iconst (pc' := 39) dX3_becomes_38 rfl iconst_0 ?_
  refine s_aload_n (pc' := 40) dX3_becomes_39 rfl lg0 rfl ?_
  refine s_getRv (pc' := 43) (v := .ref 29) dX3_becomes_40 rfl flX3_18 ly26 (by decide) rfl rfl ?_
  refine s_iconst (pc' := 44) dX3_becomes_43 rfl iconst_0 ?_
  refine s_aload_n (pc' := 45) dX3_becomes_44 rfl lg1 rfl ?_
  refine s_getI (pc' := 48) dX3_becomes_45 rfl flX3_33 ly10 (by decide) rfl ?_
  refine s_acopy0 (pc' := 51) dX3_becomes_48 rfl lkX3_47 kAC1 kAC2 kAC3 ly13 ly29 (by simp [am_cp, hn]; rfl) (by omega) (by omega) (Nat.le_of_ble_eq_true rfl) ?_
  refine s_aload_n (pc' := 52) dX3_becomes_51 rfl lg1 rfl ?_
  refine s_getRv (pc' := 55) (v := .ref 14) dX3_becomes_52 rfl flX3_21 ly10 (by decide) rfl rfl ?_
  refine s_iconst (pc' := 56) dX3_becomes_55 rfl iconst_0 ?_
  refine s_aload_n (pc' := 57) dX3_becomes_56 rfl lg0 rfl ?_
  refine s_getRv (pc' := 60) (v := .ref 30) dX3_becomes_57 rfl flX3_21 ly26 (by decide) rfl rfl ?_
  refine s_iconst (pc' := 61) dX3_becomes_60 rfl iconst_0 ?_
  refine s_aload_n (pc' := 62) dX3_becomes_61 rfl lg1 rfl ?_
  refine s_getI (pc' := 65) dX3_becomes_62 rfl flX3_33 ly10 (by decide) rfl ?_
  refine s_acopy0 (pc' := 68) dX3_becomes_65 rfl lkX3_47 kAC1 kAC2 kAC3 ly14 ly30 (by simp [am_cp, hn]; rfl) (by omega) (by omega) (Nat.le_of_ble_eq_true rfl) ?_
  refine s_aload_n (pc' := 69) dX3_becomes_68 rfl lg1 rfl ?_
  refine s_getRv (pc' := 72) (v := .ref 15) dX3_becomes_69 rfl flX3_24 ly10 (by decide) rfl rfl ?_
  refine s_iconst (pc' := 73) dX3_becomes_72 rfl iconst_0 ?_
  refine s_aload_n (pc' := 74) dX3_becomes_73 rfl lg0 rfl ?_
  refine s_getRv (pc' := 77) (v := .ref 31) dX3_becomes_74 rfl flX3_24 ly26 (by decide) rfl rfl ?_
  refine s_iconst (pc' := 78) dX3_becomes_77 rfl iconst_0 ?_
  refine s_aload_n (pc' := 79) dX3_becomes_78 rfl lg1 rfl ?_
  refine s_getI (pc' := 82) dX3_becomes_79 rfl flX3_33 ly10 (by decide) rfl ?_
  refine s_acopy0 (pc' := 85) dX3_becomes_82 rfl lkX3_47 kAC1 kAC2 kAC3 ly15 ly31 (by simp [am_cp, hn]; rfl) (by omega) (by omega) (Nat.le_of_ble_eq_true rfl) ?_
  refine s_aload_n (pc' := 86) dX3_becomes_85 rfl lg0 rfl ?_
  refine s_aload_n (pc' := 87) dX3_becomes_86 rfl lg1 rfl ?_
  refine s_getI (pc' := 90) dX3_becomes_87 rfl flX3_33 ly10 (by decide) rfl ?_
  refine s_putI (pc' := 93) (ty := .int) dX3_becomes_90 rfl flX3_33 fw3_8 pdI rfl rfl ly26 (by decide) rfl ?_
  refine s_aload_n (pc' := 94) dX3_becomes_93 rfl lg0 rfl ?_
  refine s_aload_n (pc' := 95) dX3_becomes_94 rfl lg1 rfl ?_
  refine s_getI (pc' := 98) dX3_becomes_95 rfl flX3_37 ly10 (by decide) rfl ?_
  refine s_putI (pc' := 101) (ty := .int) dX3_becomes_98 rfl flX3_37 fw3_9 pdI rfl rfl ly26 (by decide) rfl ?_
  refine s_aload_n (pc' := 102) dX3_becomes_101 rfl lg0 rfl ?_
  refine s_aload_n (pc' := 103) dX3_becomes_102 rfl lg1 rfl ?_
  refine s_getI (pc' := 106) dX3_becomes_103 rfl flX3_40 ly10 (by decide) rfl ?_
  refine s_putI (pc' := 109) (ty := .int) dX3_becomes_106 rfl flX3_40 fw3_10 pdI rfl rfl ly26 (by decide) rfl ?_
  refine s_vret dX3_becomes_109 rfl ?_
  refine K _ ?_ (fun j hj => ?_)
  · obtain ⟨h1, h2, h3, h4, h5⟩ := hS
    refine ⟨?_, h2, ?_, ?_, fun i hi => ?_⟩
    · simp [am_up, am_cp, upd, h1]
    · simp [am_up, am_cp, upd, h3]
    · simp [am_up, am_cp, upd, h4]
    · obtain ⟨a0, a1, a2, a3, a4⟩ := h5 i hi
      refine ⟨?_, ?_, ?_, ?_, ?_⟩ <;> simp [am_up, am_cp, cpy0_at hi, *]
  · simp [am_up, am_cp, show ¬ j = 26 by omega, show ¬ j = 26 + 1 by omega, show ¬ j = 26 + 2 by omega, show ¬ j = 26 + 3 by omega, show ¬ j = 26 + 4 by omega, show ¬ j = 26 + 5 by omega]
theorem c_X3_becomes_26_10 {z : Zz} {d kc ks : Nat} {mi : MI} {pc pc' : Nat} {L S : List Value} {Q : Option Value → Lay → Mem → Prop} {rf : Nat → Value} {tl : Lay} {mem : Mem}  {σ : Nat → Nat → Int32} {n : Nat} {td ru : Int32} {idx : Nat} (hd : decode mi.2.1 pc = .ok (.invokevirtual idx, 3)) (hp : pc + 3 = pc') (hlk : Cond.methodLink mi.1.cls idx yX3_becomes ∈ wok) (hdd : 2 + 1 ≤ d) (hcat : (S.map (fun v => v.category)).sum ≤ 8) (hS : isS 10 mem σ n td ru) (K : ∀ mem', isS 26 mem' σ n td ru → (∀ j, j < 26 ∨ 26 + 5 < j → mem' j = mem j) → Sim z d kc ks mi pc' L S (LAY rf tl) mem' Q) : Sim z d kc ks mi pc L (.ref 10 :: .ref 26 :: S) (LAY rf tl) mem Q :=
  s_invV (d2 := 2) hd hp okX3_becomes hlk inX3_becomes seX3_becomes hdd (Nat.zero_add _) (Nat.zero_add _) rfl rfl ly26 rfl hcat (Nat.le_of_ble_eq_true rfl) (m_X3_becomes_26_10 (Nat.le_refl _) hS K)
set_option maxHeartbeats 4000000 in
theorem m_X3_becomes_10_26 {z : Zz} {d : Nat} {Q : Option Value → Lay → Mem → Prop} {rf : Nat → Value} {tl : Lay} {mem : Mem}  {σ : Nat → Nat → Int32} {n : Nat} {td ru : Int32} (hdd : 2 ≤ d) (hS : isS 26 mem σ n td ru) (K : ∀ mem', isS 10 mem' σ n td ru → (∀ j, j < 10 ∨ 10 + 5 < j → mem' j = mem j) → Q none (LAY rf tl) mem') : Sim z d 0 0 mX3_becomes 0 [.ref 10, .ref 26] [] (LAY rf tl) mem Q := by
  have hn := hS.1
  have h8 := hS.2.1
  refine s_aload_n (pc' := 1) dX3_becomes_0 rfl lg1 rfl ?_
  refine s_getRv (pc' := 4) (v := .ref 27) dX3_becomes_1 rfl flX3_9 ly26 (by decide) rfl rfl ?_
  refine s_iconst (pc' := 5) dX3_becomes_4 rfl iconst_0 ?_
  refine s_aload_n (pc' := 6) dX3_becomes_5 rfl lg0 rfl ?_
  refine s_getRv (pc' := 9) (v := .ref 11) dX3_becomes_6 rfl flX3_9 ly10 (by decide) rfl rfl ?_
  refine s_iconst (pc' := 10) dX3_becomes_9 rfl iconst_0 ?_
  refine s_aload_n (pc' := 11) dX3_becomes_10 rfl lg1 rfl ?_
  refine s_getI (pc' := 14) dX3_becomes_11 rfl flX3_33 ly26 (by decide) rfl ?_
  refine s_acopy0 (pc' := 17) dX3_becomes_14 rfl lkX3_47 kAC1 kAC2 kAC3 ly27 ly11 (by simp [am_cp, hn]; rfl) (by omega) (by omega) (Nat.le_of_ble_eq_true rfl) ?_
  refine s_aload_n (pc' := 18) dX3_becomes_17 rfl lg1 rfl ?_
  refine s_getRv (pc' := 21) (v := .ref 28) dX3_becomes_18 rfl flX3_15 ly26 (by decide) rfl rfl ?_
  refine s_iconst (pc' := 22) dX3_becomes_21 rfl iconst_0 ?_
  refine s_aload_n (pc' := 23) dX3_becomes_22 rfl lg0 rfl ?_
  refine s_getRv (pc' := 26) (v := .ref 12) dX3_becomes_23 rfl flX3_15 ly10 (by decide) rfl rfl ?_
  refine s_iconst (pc' := 27) dX3_becomes_26 rfl iconst_0 ?_
  refine s_aload_n (pc' := 28) dX3_becomes_27 rfl lg1 rfl ?_
  refine s_getI (pc' := 31) dX3_becomes_28 rfl flX3_33 ly26 (by decide) rfl ?_
  refine s_acopy0 (pc' := 34) dX3_becomes_31 rfl lkX3_47 kAC1 kAC2 kAC3 ly28 ly12 (by simp [am_cp, hn]; rfl) (by omega) (by omega) (Nat.le_of_ble_eq_true rfl) ?_
  refine s_aload_n (pc' := 35) dX3_becomes_34 rfl lg1 rfl ?_
  refine s_getRv (pc' := 38) (v := .ref 29) dX3_becomes_35 rfl flX3_18 ly26 (by decide) rfl rfl ?_
  refine s_iconst (pc' := 39) dX3_becomes_38 rfl iconst_0 ?_
  refine s_aload_n (pc' := 40) dX3_becomes_39 rfl lg0 rfl ?_
  refine s_getRv (pc' := 43) (v := .ref 13) dX3_becomes_40 rfl flX3_18 ly10 (by decide) rfl rfl ?_
  refine s_iconst (pc' := 44) dX3_becomes_43 rfl iconst_0 ?_
  refine s_aload_n (pc' := 45) dX3_becomes_44 rfl lg1 rfl ?_
  refine s_getI (pc' := 48) dX3_becomes_45 rfl flX3_33 ly26 (by decide) rfl ?_
  refine s_acopy0 (pc' := 51) dX3_becomes_48 rfl lkX3_47 kAC1 kAC2 kAC3 ly29 ly13 (by simp [am_cp, hn]; rfl) (by omega) (by omega) (Nat.le_of_ble_eq_true rfl) ?_
  refine s_aload_n (pc' := 52) dX3_becomes_51 rfl lg1 rfl ?_
  refine s_getRv (pc' := 55) (v := .ref 30) dX3_becomes_52 rfl flX3_21 ly26 (by decide) rfl rfl ?_
  refine s_iconst (pc' := 56) dX3_becomes_55 rfl iconst_0 ?_
  refine s_aload_n (pc' := 57) dX3_becomes_56 rfl lg0 rfl ?_
  refine s_getRv (pc' := 60) (v := .ref 14) dX3_becomes_57 rfl flX3_21 ly10 (by decide) rfl rfl ?_
  refine s_iconst (pc' := 61) dX3_becomes_60 rfl iconst_0 ?_
  refine s_aload_n (pc' := 62) dX3_becomes_61 rfl lg1 rfl ?_
  refine s_getI (pc' := 65) dX3_becomes_62 rfl flX3_33 ly26 (by decide) rfl ?_
  refine s_acopy0 (pc' := 68) dX3_becomes_65 rfl lkX3_47 kAC1 kAC2 kAC3 ly30 ly14 (by simp [am_cp, hn]; rfl) (by omega) (by omega) (Nat.le_of_ble_eq_true rfl) ?_
  refine s_aload_n (pc' := 69) dX3_becomes_68 rfl lg1 rfl ?_
  refine s_getRv (pc' := 72) (v := .ref 31) dX3_becomes_69 rfl flX3_24 ly26 (by decide) rfl rfl ?_
  refine s_iconst (pc' := 73) dX3_becomes_72 rfl iconst_0 ?_
  refine s_aload_n (pc' := 74) dX3_becomes_73 rfl lg0 rfl ?_
  refine s_getRv (pc' := 77) (v := .ref 15) dX3_becomes_74 rfl flX3_24 ly10 (by decide) rfl rfl ?_
  refine s_iconst (pc' := 78) dX3_becomes_77 rfl iconst_0 ?_
  refine s_aload_n (pc' := 79) dX3_becomes_78 rfl lg1 rfl ?_
  refine s_getI (pc' := 82) dX3_becomes_79 rfl flX3_33 ly26 (by decide) rfl ?_
  refine s_acopy0 (pc' := 85) dX3_becomes_82 rfl lkX3_47 kAC1 kAC2 kAC3 ly31 ly15 (by simp [am_cp, hn]; rfl) (by omega) (by omega) (Nat.le_of_ble_eq_true rfl) ?_
  refine s_aload_n (pc' := 86) dX3_becomes_85 rfl lg0 rfl ?_
  refine s_aload_n (pc' := 87) dX3_becomes_86 rfl lg1 rfl ?_
  refine s_getI (pc' := 90) dX3_becomes_87 rfl flX3_33 ly26 (by decide) rfl ?_
  refine s_putI (pc' := 93) (ty := .int) dX3_becomes_90 rfl flX3_33 fw3_8 pdI rfl rfl ly10 (by decide) rfl ?_
  refine s_aload_n (pc' := 94) dX3_becomes_93 rfl lg0 rfl ?_
  refine s_aload_n (pc' := 95) dX3_becomes_94 rfl lg1 rfl ?_
  refine s_getI (pc' := 98) dX3_becomes_95 rfl flX3_37 ly26 (by decide) rfl ?_
  refine s_putI (pc' := 101) (ty := .int) dX3_becomes_98 rfl flX3_37 fw3_9 pdI rfl rfl ly10 (by decide) rfl ?_
  refine s_aload_n (pc' := 102) dX3_becomes_101 rfl lg0 rfl ?_
  refine s_aload_n (pc' := 103) dX3_becomes_102 rfl lg1 rfl ?_
  refine s_getI (pc' := 106) dX3_becomes_103 rfl flX3_40 ly26 (by decide) rfl ?_
  refine s_putI (pc' := 109) (ty := .int) dX3_becomes_106 rfl flX3_40 fw3_10 pdI rfl rfl ly10 (by decide) rfl ?_
  refine s_vret dX3_becomes_109 rfl ?_
  refine K _ ?_ (fun j hj => ?_)
  · obtain ⟨h1, h2, h3, h4, h5⟩ := hS
    refine ⟨?_, h2, ?_, ?_, fun i hi => ?_⟩
    · simp [am_up, am_cp, upd, h1]
    · simp [am_up, am_cp, upd, h3]
    · simp [am_up, am_cp, upd, h4]
    · obtain ⟨a0, a1, a2, a3, a4⟩ := h5 i hi
      refine ⟨?_, ?_, ?_, ?_, ?_⟩ <;> simp [am_up, am_cp, cpy0_at hi, *]
  · simp [am_up, am_cp, show ¬ j = 10 by omega, show ¬ j = 10 + 1 by omega, show ¬ j = 10 + 2 by omega, show ¬ j = 10 + 3 by omega, show ¬ j = 10 + 4 by omega, show ¬ j = 10 + 5 by omega]
theorem c_X3_becomes_10_26 {z : Zz} {d kc ks : Nat} {mi : MI} {pc pc' : Nat} {L S : List Value} {Q : Option Value → Lay → Mem → Prop} {rf : Nat → Value} {tl : Lay} {mem : Mem}  {σ : Nat → Nat → Int32} {n : Nat} {td ru : Int32} {idx : Nat} (hd : decode mi.2.1 pc = .ok (.invokevirtual idx, 3)) (hp : pc + 3 = pc') (hlk : Cond.methodLink mi.1.cls idx yX3_becomes ∈ wok) (hdd : 2 + 1 ≤ d) (hcat : (S.map (fun v => v.category)).sum ≤ 8) (hS : isS 26 mem σ n td ru) (K : ∀ mem', isS 10 mem' σ n td ru → (∀ j, j < 10 ∨ 10 + 5 < j → mem' j = mem j) → Sim z d kc ks mi pc' L S (LAY rf tl) mem' Q) : Sim z d kc ks mi pc L (.ref 26 :: .ref 10 :: S) (LAY rf tl) mem Q :=
  s_invV (d2 := 2) hd hp okX3_becomes hlk inX3_becomes seX3_becomes hdd (Nat.zero_add _) (Nat.zero_add _) rfl rfl ly10 rfl hcat (Nat.le_of_ble_eq_true rfl) (m_X3_becomes_10_26 (Nat.le_refl _) hS K)
def adBad (k nu sh wh : Int32) : Bool := decide (inB k 0 5 = 0) || decide (inB nu 0 9 = 0) || decide (inB sh 0 99 = 0) || !decide (0 ≤ wh) || decide (1 < wh / 100) || !decide (wh - wh / 100 * 100 ≤ 11)
def adR (n : Nat) (k nu sh wh : Int32) : Int32 := if adBad k nu sh wh then -2 else if n < 8 then nI n else -4
def adM (b n : Nat) (mem : Mem) (k nu sh wh : Int32) : Mem := if adBad k nu sh wh then mem else if n < 8 then am_up (am_up (am_up (am_up (am_up (am_up mem (b + 5) n k) (b + 1) n nu) (b + 2) n sh) (b + 4) n (wh / 100)) (b + 3) n (wh - wh / 100 * 100)) b 8 (nI (n + 1)) else mem
theorem nI_lt8 {n : Nat} (h : n ≤ 1000) : (nI n < 8) = (n < 8) := propext (by
  have := nI_ltI (a := n) (b := 8) (by omega) (by omega)
  exact this)
set_option maxHeartbeats 4000000 in
theorem m_X3_adds {z : Zz} {d : Nat} {Q : Option Value → Lay → Mem → Prop} {rf : Nat → Value} {tl : Lay} {mem : Mem}  {b n : Nat} {k nu sh wh : Int32} (hdd : 1 ≤ d) (hb : ISh b) (hn : mem b 8 = nI n) (h8 : n ≤ 8) (K :  Q (some (.int (adR n k nu sh wh))) (LAY rf tl) (adM b n mem k nu sh wh)) : Sim z d 0 0 mX3_adds 0 [.ref b, .int k, .int nu, .int sh, .int wh] [] (LAY rf tl) mem Q := by
  have tail : n < 8 → adBad k nu sh wh = false → Sim z d 0 0 mX3_adds 88 [.ref b, .int k, .int nu, .int sh, .int wh] [] (LAY rf tl) mem Q := by
    intro h1 h2
    refine s_aload_n (pc' := 89) dX3_adds_88 rfl lg0 rfl ?_
    refine s_getRv (pc' := 92) (v := .ref (b + 5)) dX3_adds_89 rfl flX3_24 (lyS hb) (by decide) rfl rfl ?_
    refine s_aload_n (pc' := 93) dX3_adds_92 rfl lg0 rfl ?_
    refine s_getIv (pc' := 96) (v := nI n) dX3_adds_93 rfl flX3_33 (lyS hb) (by decide) rfl (by simp [am_up, hn]) ?_
    refine s_iload_n (pc' := 97) dX3_adds_96 rfl lg1 ?_
    refine s_iastN (pc' := 98) dX3_adds_97 rfl (lyS5 hb) (by omega) (by decide) ?_
    refine s_aload_n (pc' := 99) dX3_adds_98 rfl lg0 rfl ?_
    refine s_getRv (pc' := 102) (v := .ref (b + 1)) dX3_adds_99 rfl flX3_9 (lyS hb) (by decide) rfl rfl ?_
    refine s_aload_n (pc' := 103) dX3_adds_102 rfl lg0 rfl ?_
    refine s_getIv (pc' := 106) (v := nI n) dX3_adds_103 rfl flX3_33 (lyS hb) (by decide) rfl (by simp [am_up, hn]) ?_
    refine s_iload_n (pc' := 107) dX3_adds_106 rfl lg2 ?_
    refine s_iastN (pc' := 108) dX3_adds_107 rfl (lyS1 hb) (by omega) (by decide) ?_
    refine s_aload_n (pc' := 109) dX3_adds_108 rfl lg0 rfl ?_
    refine s_getRv (pc' := 112) (v := .ref (b + 2)) dX3_adds_109 rfl flX3_15 (lyS hb) (by decide) rfl rfl ?_
    refine s_aload_n (pc' := 113) dX3_adds_112 rfl lg0 rfl ?_
    refine s_getIv (pc' := 116) (v := nI n) dX3_adds_113 rfl flX3_33 (lyS hb) (by decide) rfl (by simp [am_up, hn]) ?_
    refine s_iload_n (pc' := 117) dX3_adds_116 rfl lg3 ?_
    refine s_iastN (pc' := 118) dX3_adds_117 rfl (lyS2 hb) (by omega) (by decide) ?_
    refine s_aload_n (pc' := 119) dX3_adds_118 rfl lg0 rfl ?_
    refine s_getRv (pc' := 122) (v := .ref (b + 4)) dX3_adds_119 rfl flX3_21 (lyS hb) (by decide) rfl rfl ?_
    refine s_aload_n (pc' := 123) dX3_adds_122 rfl lg0 rfl ?_
    refine s_getIv (pc' := 126) (v := nI n) dX3_adds_123 rfl flX3_33 (lyS hb) (by decide) rfl (by simp [am_up, hn]) ?_
    refine s_iload (pc' := 128) dX3_adds_126 rfl lg4 ?_
    refine s_bipush (pc' := 130) dX3_adds_128 rfl bipush_100 ?_
    refine s_idiv (pc' := 131) dX3_adds_130 rfl (by decide) ?_
    refine s_iastN (pc' := 132) dX3_adds_131 rfl (lyS4 hb) (by omega) (by decide) ?_
    refine s_aload_n (pc' := 133) dX3_adds_132 rfl lg0 rfl ?_
    refine s_getRv (pc' := 136) (v := .ref (b + 3)) dX3_adds_133 rfl flX3_18 (lyS hb) (by decide) rfl rfl ?_
    refine s_aload_n (pc' := 137) dX3_adds_136 rfl lg0 rfl ?_
    refine s_getIv (pc' := 140) (v := nI n) dX3_adds_137 rfl flX3_33 (lyS hb) (by decide) rfl (by simp [am_up, hn]) ?_
    refine s_iload (pc' := 142) dX3_adds_140 rfl lg4 ?_
    refine s_bipush (pc' := 144) dX3_adds_142 rfl bipush_100 ?_
    refine s_irem (pc' := 145) dX3_adds_144 rfl (by decide) ?_
    refine s_iastN (pc' := 146) dX3_adds_145 rfl (lyS3 hb) (by omega) (by decide) ?_
    refine s_aload_n (pc' := 147) dX3_adds_146 rfl lg0 rfl ?_
    refine s_dup (pc' := 148) dX3_adds_147 rfl rfl ?_
    refine s_getIv (pc' := 151) (v := nI n) dX3_adds_148 rfl flX3_33 (lyS hb) (by decide) rfl (by simp [am_up, hn]) ?_
    refine s_iconst (pc' := 152) dX3_adds_151 rfl iconst_1 ?_
    refine s_iadd (pc' := 153) dX3_adds_152 rfl ?_
    refine s_putI (pc' := 156) (ty := .int) dX3_adds_153 rfl flX3_33 fw3_8 pdI rfl rfl (lyS hb) (by decide) rfl ?_
    refine s_aload_n (pc' := 157) dX3_adds_156 rfl lg0 rfl ?_
    refine s_getIv (pc' := 160) (v := nI (n + 1)) dX3_adds_157 rfl flX3_33 (lyS hb) (by decide) rfl (by simp [am_up, upd, nI_1]) ?_
    refine s_iconst (pc' := 161) dX3_adds_160 rfl iconst_1 ?_
    refine s_isub (pc' := 162) dX3_adds_161 rfl ?_
    refine s_iret dX3_adds_162 rfl (vp_nar_int _) ?_
    rw [nI_pred]
    simp only [adR, adM, h1, h2, if_true] at K
    rw [nI_1]
    exact K
  refine s_iload_n (pc' := 1) dX3_adds_0 rfl lg1 ?_
  refine s_iconst (pc' := 2) dX3_adds_1 rfl iconst_0 ?_
  refine s_gGreN (pc' := 5) (host := RX6) dX3_adds_2 rfl (by decide) ?_
  refine s_iconst (pc' := 6) dX3_adds_5 rfl iconst_5 ?_
  refine s_tald0v (pc' := 7) (v := 5) dX3_adds_6 rfl (by unfold vp_in; decide) (by decide) ?_
  refine cN_X6_isIn (pc' := 10) dX3_adds_7 rfl (by decide) (by omega) (Nat.le_of_ble_eq_true rfl)  ?_
  refine s_if_eq (pc' := 13) (tgt := 44) dX3_adds_10 rfl (by decide) (fun c1 => ?_) (fun c1 => ?_)
  · refine s_bipush (pc' := 46) dX3_adds_44 rfl bipush_m2 ?_
    refine s_iret dX3_adds_46 rfl (vp_nar_int _) ?_
    (first | (have h9 : ¬ n < 8 := (by rw [← nI_lt8 (by omega), ← hn]; assumption); simpa [adR, adM, adBad, h9, c1] using K) | simpa [adR, adM, adBad, c1] using K)
  · refine s_iload_n (pc' := 14) dX3_adds_13 rfl lg2 ?_
    refine s_iconst (pc' := 15) dX3_adds_14 rfl iconst_0 ?_
    refine s_gGreN (pc' := 18) (host := RX6) dX3_adds_15 rfl (by decide) ?_
    refine s_iconst (pc' := 19) dX3_adds_18 rfl iconst_1 ?_
    refine s_tald0v (pc' := 20) (v := 9) dX3_adds_19 rfl (by unfold vp_in; decide) (by decide) ?_
    refine cN_X6_isIn (pc' := 23) dX3_adds_20 rfl (by decide) (by omega) (Nat.le_of_ble_eq_true rfl)  ?_
    refine s_if_eq (pc' := 26) (tgt := 44) dX3_adds_23 rfl (by decide) (fun c2 => ?_) (fun c2 => ?_)
    · refine s_bipush (pc' := 46) dX3_adds_44 rfl bipush_m2 ?_
      refine s_iret dX3_adds_46 rfl (vp_nar_int _) ?_
      (first | (have h9 : ¬ n < 8 := (by rw [← nI_lt8 (by omega), ← hn]; assumption); simpa [adR, adM, adBad, h9, c1, c2] using K) | simpa [adR, adM, adBad, c1, c2] using K)
    · refine s_iload_n (pc' := 27) dX3_adds_26 rfl lg3 ?_
      refine s_iconst (pc' := 28) dX3_adds_27 rfl iconst_0 ?_
      refine s_gGreN (pc' := 31) (host := RX6) dX3_adds_28 rfl (by decide) ?_
      refine s_iconst (pc' := 32) dX3_adds_31 rfl iconst_2 ?_
      refine s_tald0v (pc' := 33) (v := 99) dX3_adds_32 rfl (by unfold vp_in; decide) (by decide) ?_
      refine cN_X6_isIn (pc' := 36) dX3_adds_33 rfl (by decide) (by omega) (Nat.le_of_ble_eq_true rfl)  ?_
      refine s_if_eq (pc' := 39) (tgt := 44) dX3_adds_36 rfl (by decide) (fun c3 => ?_) (fun c3 => ?_)
      · refine s_bipush (pc' := 46) dX3_adds_44 rfl bipush_m2 ?_
        refine s_iret dX3_adds_46 rfl (vp_nar_int _) ?_
        (first | (have h9 : ¬ n < 8 := (by rw [← nI_lt8 (by omega), ← hn]; assumption); simpa [adR, adM, adBad, h9, c1, c2, c3] using K) | simpa [adR, adM, adBad, c1, c2, c3] using K)
      · refine s_iload (pc' := 41) dX3_adds_39 rfl lg4 ?_
        refine s_if_ge (pc' := 44) (tgt := 47) dX3_adds_41 rfl (by decide) (fun c4 => ?_) (fun c4 => ?_)
        · refine s_iload (pc' := 49) dX3_adds_47 rfl lg4 ?_
          refine s_bipush (pc' := 51) dX3_adds_49 rfl bipush_100 ?_
          refine s_idiv (pc' := 52) dX3_adds_51 rfl (by decide) ?_
          refine s_gGreN (pc' := 55) (host := RX6) dX3_adds_52 rfl (by decide) ?_
          refine s_iconst (pc' := 56) dX3_adds_55 rfl iconst_4 ?_
          refine s_tald0v (pc' := 57) (v := 1) dX3_adds_56 rfl (by unfold vp_in; decide) (by decide) ?_
          refine s_icmp_gt (pc' := 60) (tgt := 73) dX3_adds_57 rfl (by decide) (fun c5 => ?_) (fun c5 => ?_)
          · refine s_bipush (pc' := 75) dX3_adds_73 rfl bipush_m2 ?_
            refine s_iret dX3_adds_75 rfl (vp_nar_int _) ?_
            (first | (have h9 : ¬ n < 8 := (by rw [← nI_lt8 (by omega), ← hn]; assumption); simpa [adR, adM, adBad, h9, c1, c2, c3, c4, c5] using K) | simpa [adR, adM, adBad, c1, c2, c3, c4, c5] using K)
          · refine s_iload (pc' := 62) dX3_adds_60 rfl lg4 ?_
            refine s_bipush (pc' := 64) dX3_adds_62 rfl bipush_100 ?_
            refine s_irem (pc' := 65) dX3_adds_64 rfl (by decide) ?_
            refine s_gGreN (pc' := 68) (host := RX6) dX3_adds_65 rfl (by decide) ?_
            refine s_iconst (pc' := 69) dX3_adds_68 rfl iconst_3 ?_
            refine s_tald0v (pc' := 70) (v := 11) dX3_adds_69 rfl (by unfold vp_in; decide) (by decide) ?_
            refine s_icmp_le (pc' := 73) (tgt := 76) dX3_adds_70 rfl (by decide) (fun c6 => ?_) (fun c6 => ?_)
            · refine s_aload_n (pc' := 77) dX3_adds_76 rfl lg0 rfl ?_
              refine s_getI (pc' := 80) dX3_adds_77 rfl flX3_33 (lyS hb) (by decide) rfl ?_
              refine s_bipush (pc' := 82) dX3_adds_80 rfl bipush_8 ?_
              refine s_icmp_lt (pc' := 85) (tgt := 88) dX3_adds_82 rfl (by decide) (fun c7 => ?_) (fun c7 => ?_)
              · exact tail (by rw [← nI_lt8 (by omega), ← hn]; assumption) (by simp [adBad, c1, c2, c3, c4, c5, c6, c7])
              · refine s_bipush (pc' := 87) dX3_adds_85 rfl bipush_m4 ?_
                refine s_iret dX3_adds_87 rfl (vp_nar_int _) ?_
                (first | (have h9 : ¬ n < 8 := (by rw [← nI_lt8 (by omega), ← hn]; assumption); simpa [adR, adM, adBad, h9, c1, c2, c3, c4, c5, c6, c7] using K) | simpa [adR, adM, adBad, c1, c2, c3, c4, c5, c6, c7] using K)
            · refine s_bipush (pc' := 75) dX3_adds_73 rfl bipush_m2 ?_
              refine s_iret dX3_adds_75 rfl (vp_nar_int _) ?_
              (first | (have h9 : ¬ n < 8 := (by rw [← nI_lt8 (by omega), ← hn]; assumption); simpa [adR, adM, adBad, h9, c1, c2, c3, c4, c5, c6] using K) | simpa [adR, adM, adBad, c1, c2, c3, c4, c5, c6] using K)
        · refine s_bipush (pc' := 46) dX3_adds_44 rfl bipush_m2 ?_
          refine s_iret dX3_adds_46 rfl (vp_nar_int _) ?_
          (first | (have h9 : ¬ n < 8 := (by rw [← nI_lt8 (by omega), ← hn]; assumption); simpa [adR, adM, adBad, h9, c1, c2, c3, c4] using K) | simpa [adR, adM, adBad, c1, c2, c3, c4] using K)
theorem c_X3_adds {z : Zz} {d kc ks : Nat} {mi : MI} {pc pc' : Nat} {L S : List Value} {Q : Option Value → Lay → Mem → Prop} {rf : Nat → Value} {tl : Lay} {mem : Mem}  {b n : Nat} {k nu sh wh : Int32} {idx : Nat} (hd : decode mi.2.1 pc = .ok (.invokevirtual idx, 3)) (hp : pc + 3 = pc') (hlk : Cond.methodLink mi.1.cls idx yX3_adds ∈ wok) (hdd : 1 + 1 ≤ d) (hcat : (S.map (fun v => v.category)).sum ≤ 8) (hb : ISh b) (hn : mem b 8 = nI n) (h8 : n ≤ 8) (K :  Sim z d kc ks mi pc' L (.int (adR n k nu sh wh) :: S) (LAY rf tl) (adM b n mem k nu sh wh) Q) : Sim z d kc ks mi pc L (.int wh :: .int sh :: .int nu :: .int k :: .ref b :: S) (LAY rf tl) mem Q :=
  s_invV (d2 := 1) hd hp okX3_adds hlk inX3_adds seX3_adds hdd (Nat.zero_add _) (Nat.zero_add _) rfl rfl (lyS hb) rfl hcat (Nat.le_of_ble_eq_true rfl) (m_X3_adds (Nat.le_refl _) hb hn h8 K)
set_option maxHeartbeats 4000000 in
theorem m_X3_wereOne {z : Zz} {d : Nat} {Q : Option Value → Lay → Mem → Prop} {rf : Nat → Value} {tl : Lay} {mem : Mem}  {b n p q : Nat} {x : Int32} (hdd : 2 ≤ d) (hb : ISh b) (h8 : n ≤ 8) (hpn : p < n) (hqn : q < n) (K :  Q (some (.int (if mem (b + 4) p = mem (b + 4) q then 0 else if mem (b + 1) p = mem (b + 1) q then if x < apI (mem (b + 3) p) (mem (b + 3) q) then 0 else 1 else 0))) (LAY rf tl) mem) : Sim z d 0 0 mX3_wereOne 0 [.ref b, .int (nI p), .int (nI q), .int x] [] (LAY rf tl) mem Q := by
  refine s_aload_n (pc' := 1) dX3_wereOne_0 rfl lg0 rfl ?_
  refine s_getRv (pc' := 4) (v := .ref (b + 4)) dX3_wereOne_1 rfl flX3_21 (lyS hb) (by decide) rfl rfl ?_
  refine s_iload_n (pc' := 5) dX3_wereOne_4 rfl lg1 ?_
  refine s_ialdN (pc' := 6) dX3_wereOne_5 rfl (lyS4 hb) (by omega) (by decide) ?_
  refine s_aload_n (pc' := 7) dX3_wereOne_6 rfl lg0 rfl ?_
  refine s_getRv (pc' := 10) (v := .ref (b + 4)) dX3_wereOne_7 rfl flX3_21 (lyS hb) (by decide) rfl rfl ?_
  refine s_iload_n (pc' := 11) dX3_wereOne_10 rfl lg2 ?_
  refine s_ialdN (pc' := 12) dX3_wereOne_11 rfl (lyS4 hb) (by omega) (by decide) ?_
  refine s_icmp_eq (pc' := 15) (tgt := 53) dX3_wereOne_12 rfl (by decide) (fun c8 => ?_) (fun c8 => ?_)
  · refine s_iconst (pc' := 54) dX3_wereOne_53 rfl iconst_0 ?_
    refine s_iret dX3_wereOne_54 rfl (by decide) ?_
    (simpa [c8] using K)
  · refine s_aload_n (pc' := 16) dX3_wereOne_15 rfl lg0 rfl ?_
    refine s_getRv (pc' := 19) (v := .ref (b + 1)) dX3_wereOne_16 rfl flX3_9 (lyS hb) (by decide) rfl rfl ?_
    refine s_iload_n (pc' := 20) dX3_wereOne_19 rfl lg1 ?_
    refine s_ialdN (pc' := 21) dX3_wereOne_20 rfl (lyS1 hb) (by omega) (by decide) ?_
    refine s_aload_n (pc' := 22) dX3_wereOne_21 rfl lg0 rfl ?_
    refine s_getRv (pc' := 25) (v := .ref (b + 1)) dX3_wereOne_22 rfl flX3_9 (lyS hb) (by decide) rfl rfl ?_
    refine s_iload_n (pc' := 26) dX3_wereOne_25 rfl lg2 ?_
    refine s_ialdN (pc' := 27) dX3_wereOne_26 rfl (lyS1 hb) (by omega) (by decide) ?_
    refine s_icmp_ne (pc' := 30) (tgt := 53) dX3_wereOne_27 rfl (by decide) (fun c9 => ?_) (fun c9 => ?_)
    · refine s_iconst (pc' := 54) dX3_wereOne_53 rfl iconst_0 ?_
      refine s_iret dX3_wereOne_54 rfl (by decide) ?_
      (simpa [c8, c9] using K)
    · refine s_aload_n (pc' := 31) dX3_wereOne_30 rfl lg0 rfl ?_
      refine s_getRv (pc' := 34) (v := .ref (b + 3)) dX3_wereOne_31 rfl flX3_18 (lyS hb) (by decide) rfl rfl ?_
      refine s_iload_n (pc' := 35) dX3_wereOne_34 rfl lg1 ?_
      refine s_ialdN (pc' := 36) dX3_wereOne_35 rfl (lyS3 hb) (by omega) (by decide) ?_
      refine s_aload_n (pc' := 37) dX3_wereOne_36 rfl lg0 rfl ?_
      refine s_getRv (pc' := 40) (v := .ref (b + 3)) dX3_wereOne_37 rfl flX3_18 (lyS hb) (by decide) rfl rfl ?_
      refine s_iload_n (pc' := 41) dX3_wereOne_40 rfl lg2 ?_
      refine s_ialdN (pc' := 42) dX3_wereOne_41 rfl (lyS3 hb) (by omega) (by decide) ?_
      refine cN_X6_apart (pc' := 45) dX3_wereOne_42 rfl (by decide) (by omega) (Nat.le_of_ble_eq_true rfl)  ?_
      refine s_iload_n (pc' := 46) dX3_wereOne_45 rfl lg3 ?_
      refine s_icmp_gt (pc' := 49) (tgt := 53) dX3_wereOne_46 rfl (by decide) (fun c10 => ?_) (fun c10 => ?_)
      · refine s_iconst (pc' := 54) dX3_wereOne_53 rfl iconst_0 ?_
        refine s_iret dX3_wereOne_54 rfl (by decide) ?_
        (simpa [c8, c9, c10] using K)
      · refine s_iconst (pc' := 50) dX3_wereOne_49 rfl iconst_1 ?_
        refine s_goto (tgt := 54) dX3_wereOne_50 (by decide) ?_
        refine s_iret dX3_wereOne_54 rfl (by decide) ?_
        (simpa [c8, c9, c10] using K)
theorem c_X3_wereOne {z : Zz} {d kc ks : Nat} {mi : MI} {pc pc' : Nat} {L S : List Value} {Q : Option Value → Lay → Mem → Prop} {rf : Nat → Value} {tl : Lay} {mem : Mem}  {b n p q : Nat} {x : Int32} {idx : Nat} (hd : decode mi.2.1 pc = .ok (.invokevirtual idx, 3)) (hp : pc + 3 = pc') (hlk : Cond.methodLink mi.1.cls idx yX3_wereOne ∈ wok) (hdd : 2 + 1 ≤ d) (hcat : (S.map (fun v => v.category)).sum ≤ 8) (hb : ISh b) (h8 : n ≤ 8) (hpn : p < n) (hqn : q < n) (K :  Sim z d kc ks mi pc' L (.int (if mem (b + 4) p = mem (b + 4) q then 0 else if mem (b + 1) p = mem (b + 1) q then if x < apI (mem (b + 3) p) (mem (b + 3) q) then 0 else 1 else 0) :: S) (LAY rf tl) mem Q) : Sim z d kc ks mi pc L (.int x :: .int (nI q) :: .int (nI p) :: .ref b :: S) (LAY rf tl) mem Q :=
  s_invV (d2 := 2) hd hp okX3_wereOne hlk inX3_wereOne seX3_wereOne hdd (Nat.zero_add _) (Nat.zero_add _) rfl rfl (lyS hb) rfl hcat (Nat.le_of_ble_eq_true rfl) (m_X3_wereOne (Nat.le_refl _) hb h8 hpn hqn K)

