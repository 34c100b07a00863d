/-! ===== set, told ===== -/
def setB (n : Nat) (what o v : Int32) : Bool := !decide (inB what 0 4 = 0) && (decide (what = 0) || !decide (pcB o (nI n) = 0)) && !decide (inB v 0 (am_gre (ix what)) = 0)
def setR (σ : Nat → Nat → Int32) (n : Nat) (td what o v : Int32) : Int32 := if setB n what o v then (if what = 0 then td else σ (ix what) (ix o)) else -2
def setS (σ : Nat → Nat → Int32) (n : Nat) (what o v : Int32) : Nat → Nat → Int32 := if setB n what o v then (if what = 0 then σ else u2 σ (ix what) (ix o) v) else σ
def setT (n : Nat) (td what o v : Int32) : Int32 := if setB n what o v then (if what = 0 then v else td) else td
set_option maxHeartbeats 4000000 in
theorem m_X6_set {z : Zz} {d : Nat} {Q : Option Value → Lay → Mem → Prop} {rf : Nat → Value} {tl : Lay} {mem : Mem}  {n : Nat} {σ : Nat → Nat → Int32} {td ru what o v : Int32} (hdd : 2 ≤ d) (hS : isS 10 mem σ n td ru) (K : ∀ mem', isS 10 mem' (setS σ n what o v) n (setT n td what o v) ru → nwf mem mem' → Q (some (.int (setR σ n td what o v))) (LAY rf tl) mem') : Sim z d 0 0 mX6_set 0 [.ref 0, .int what, .int o, .int v, .float 0, .float 0] [] (LAY rf tl) mem Q := by
  have h8 := hS.2.1
  have bad : setB n what o v = false → Q (some (.int (-2))) (LAY rf tl) mem := by
    intro h
    rw [setR, setS, setT, h, if_neg Bool.false_ne_true, if_neg Bool.false_ne_true, if_neg Bool.false_ne_true] at K
    exact K mem hS (fun _ _ => rfl)
  have good : setB n what o v = true → ∀ mem', isS 10 mem' (if what = 0 then σ else u2 σ (ix what) (ix o) v) n (if what = 0 then v else td) ru → nwf mem mem' → Q (some (.int (if what = 0 then td else σ (ix what) (ix o)))) (LAY rf tl) mem' := by
    intro h
    rw [setR, setS, setT, h, if_pos rfl, if_pos rfl, if_pos rfl] at K
    exact K
  clear K
  have t1 : what = 1 → ¬ pcB o (nI n) = 0 → Sim z d 0 0 mX6_set 27 [.ref 0, .int 1, .int o, .int v, .float 0, .float 0] [] (LAY rf tl) mem Q := by
    intro hw hp
    subst hw
    rcases pc_or o (n := n) (by omega) with q | ⟨a, ha, rfl, -⟩
    · exact absurd q hp
    refine s_iload_n (pc' := 28) dX6_set_27 rfl lg3 ?_
    refine s_iconst (pc' := 29) dX6_set_28 rfl iconst_0 ?_
    refine s_gGre (pc' := 32) dX6_set_29 rfl kfX6_64 ?_
    refine s_iload_n (pc' := 33) dX6_set_32 rfl lg1 ?_
    refine s_tald0v (pc' := 34) (v := 9) dX6_set_33 rfl (by unfold vp_in; decide) (by decide) ?_
    refine c_X6_isIn  (pc' := 37) dX6_set_34 rfl lkX6_56 (by omega) (Nat.le_of_ble_eq_true rfl) ?_
    refine s_if_ne (pc' := 40) (tgt := 43) dX6_set_37 rfl (by decide) (fun c1 => ?_) (fun c1 => ?_)
    · skip
      have g := good (by unfold setB; rw [decide_eq_false hp, decide_eq_false (show ¬ inB v 0 (am_gre (ix 1)) = 0 from c1)]; decide)
      rw [if_neg (by decide), if_neg (by decide), if_neg (by decide), show ix 1 = 1 from by decide, ix_nI (by omega)] at g
      refine s_iload_n (pc' := 44) dX6_set_43 rfl lg1 ?_
      refine s_if_ne (pc' := 47) (tgt := 67) dX6_set_44 rfl (by decide) (fun _ => ?_) (fun c9 => absurd c9 (by decide))
      refine s_aload_n (pc' := 68) dX6_set_67 rfl lg0 rfl ?_
      refine s_getRv (pc' := 71) (v := .ref 10) dX6_set_68 rfl flX6_28 ly0 (by decide) rfl rfl ?_
      refine s_iload_n (pc' := 72) dX6_set_71 rfl lg1 ?_
      refine c_X3_valuesOf_1 (pc' := 75) dX6_set_72 rfl lkX6_72 (by omega) (Nat.le_of_ble_eq_true rfl) (b := 10) (Or.inl rfl) ?_
      refine s_astore (pc' := 77) dX6_set_75 rfl rfl (Nat.le_of_ble_eq_true rfl) rfl ls4 ?_
      refine s_aload (pc' := 79) dX6_set_77 rfl lg4 rfl ?_
      refine s_iload_n (pc' := 80) dX6_set_79 rfl lg2 ?_
      refine s_ialdNv (pc' := 81) (v := σ 1 a) dX6_set_80 rfl ly11 (by omega) (by decide) (by obtain ⟨a0, a1, a2, a3, a4⟩ := hS.2.2.2.2 a ha; assumption) ?_
      refine s_istore (pc' := 83) dX6_set_81 rfl (Nat.le_of_ble_eq_true rfl) rfl ls5 ?_
      refine s_aload (pc' := 85) dX6_set_83 rfl lg4 rfl ?_
      refine s_iload_n (pc' := 86) dX6_set_85 rfl lg2 ?_
      refine s_iload_n (pc' := 87) dX6_set_86 rfl lg3 ?_
      refine s_iastN (pc' := 88) dX6_set_87 rfl ly11 (by omega) (by decide) ?_
      refine s_iload (pc' := 90) dX6_set_88 rfl lg5 ?_
      refine s_iret dX6_set_90 rfl (vp_nar_int _) ?_
      exact g _ (hS.up (w := 1) (by decide)) (fun j hj => by simp only [am_up]; rw [if_neg (by omega)])
    · skip
      have g := bad (by unfold setB; rw [decide_eq_true (show inB v 0 (am_gre (ix 1)) = 0 from c1)]; simp)
      refine s_bipush (pc' := 42) dX6_set_40 rfl bipush_m2 ?_
      refine s_iret dX6_set_42 rfl (vp_nar_int _) ?_
      exact g
  have t2 : what = 2 → ¬ pcB o (nI n) = 0 → Sim z d 0 0 mX6_set 27 [.ref 0, .int 2, .int o, .int v, .float 0, .float 0] [] (LAY rf tl) mem Q := by
    intro hw hp
    subst hw
    rcases pc_or o (n := n) (by omega) with q | ⟨a, ha, rfl, -⟩
    · exact absurd q hp
    refine s_iload_n (pc' := 28) dX6_set_27 rfl lg3 ?_
    refine s_iconst (pc' := 29) dX6_set_28 rfl iconst_0 ?_
    refine s_gGre (pc' := 32) dX6_set_29 rfl kfX6_64 ?_
    refine s_iload_n (pc' := 33) dX6_set_32 rfl lg1 ?_
    refine s_tald0v (pc' := 34) (v := 99) dX6_set_33 rfl (by unfold vp_in; decide) (by decide) ?_
    refine c_X6_isIn  (pc' := 37) dX6_set_34 rfl lkX6_56 (by omega) (Nat.le_of_ble_eq_true rfl) ?_
    refine s_if_ne (pc' := 40) (tgt := 43) dX6_set_37 rfl (by decide) (fun c1 => ?_) (fun c1 => ?_)
    · skip
      have g := good (by unfold setB; rw [decide_eq_false hp, decide_eq_false (show ¬ inB v 0 (am_gre (ix 2)) = 0 from c1)]; decide)
      rw [if_neg (by decide), if_neg (by decide), if_neg (by decide), show ix 2 = 2 from by decide, ix_nI (by omega)] at g
      refine s_iload_n (pc' := 44) dX6_set_43 rfl lg1 ?_
      refine s_if_ne (pc' := 47) (tgt := 67) dX6_set_44 rfl (by decide) (fun _ => ?_) (fun c9 => absurd c9 (by decide))
      refine s_aload_n (pc' := 68) dX6_set_67 rfl lg0 rfl ?_
      refine s_getRv (pc' := 71) (v := .ref 10) dX6_set_68 rfl flX6_28 ly0 (by decide) rfl rfl ?_
      refine s_iload_n (pc' := 72) dX6_set_71 rfl lg1 ?_
      refine c_X3_valuesOf_2 (pc' := 75) dX6_set_72 rfl lkX6_72 (by omega) (Nat.le_of_ble_eq_true rfl) (b := 10) (Or.inl rfl) ?_
      refine s_astore (pc' := 77) dX6_set_75 rfl rfl (Nat.le_of_ble_eq_true rfl) rfl ls4 ?_
      refine s_aload (pc' := 79) dX6_set_77 rfl lg4 rfl ?_
      refine s_iload_n (pc' := 80) dX6_set_79 rfl lg2 ?_
      refine s_ialdNv (pc' := 81) (v := σ 2 a) dX6_set_80 rfl ly12 (by omega) (by decide) (by obtain ⟨a0, a1, a2, a3, a4⟩ := hS.2.2.2.2 a ha; assumption) ?_
      refine s_istore (pc' := 83) dX6_set_81 rfl (Nat.le_of_ble_eq_true rfl) rfl ls5 ?_
      refine s_aload (pc' := 85) dX6_set_83 rfl lg4 rfl ?_
      refine s_iload_n (pc' := 86) dX6_set_85 rfl lg2 ?_
      refine s_iload_n (pc' := 87) dX6_set_86 rfl lg3 ?_
      refine s_iastN (pc' := 88) dX6_set_87 rfl ly12 (by omega) (by decide) ?_
      refine s_iload (pc' := 90) dX6_set_88 rfl lg5 ?_
      refine s_iret dX6_set_90 rfl (vp_nar_int _) ?_
      exact g _ (hS.up (w := 2) (by decide)) (fun j hj => by simp only [am_up]; rw [if_neg (by omega)])
    · skip
      have g := bad (by unfold setB; rw [decide_eq_true (show inB v 0 (am_gre (ix 2)) = 0 from c1)]; simp)
      refine s_bipush (pc' := 42) dX6_set_40 rfl bipush_m2 ?_
      refine s_iret dX6_set_42 rfl (vp_nar_int _) ?_
      exact g
  have t3 : what = 3 → ¬ pcB o (nI n) = 0 → Sim z d 0 0 mX6_set 27 [.ref 0, .int 3, .int o, .int v, .float 0, .float 0] [] (LAY rf tl) mem Q := by
    intro hw hp
    subst hw
    rcases pc_or o (n := n) (by omega) with q | ⟨a, ha, rfl, -⟩
    · exact absurd q hp
    refine s_iload_n (pc' := 28) dX6_set_27 rfl lg3 ?_
    refine s_iconst (pc' := 29) dX6_set_28 rfl iconst_0 ?_
    refine s_gGre (pc' := 32) dX6_set_29 rfl kfX6_64 ?_
    refine s_iload_n (pc' := 33) dX6_set_32 rfl lg1 ?_
    refine s_tald0v (pc' := 34) (v := 11) dX6_set_33 rfl (by unfold vp_in; decide) (by decide) ?_
    refine c_X6_isIn  (pc' := 37) dX6_set_34 rfl lkX6_56 (by omega) (Nat.le_of_ble_eq_true rfl) ?_
    refine s_if_ne (pc' := 40) (tgt := 43) dX6_set_37 rfl (by decide) (fun c1 => ?_) (fun c1 => ?_)
    · skip
      have g := good (by unfold setB; rw [decide_eq_false hp, decide_eq_false (show ¬ inB v 0 (am_gre (ix 3)) = 0 from c1)]; decide)
      rw [if_neg (by decide), if_neg (by decide), if_neg (by decide), show ix 3 = 3 from by decide, ix_nI (by omega)] at g
      refine s_iload_n (pc' := 44) dX6_set_43 rfl lg1 ?_
      refine s_if_ne (pc' := 47) (tgt := 67) dX6_set_44 rfl (by decide) (fun _ => ?_) (fun c9 => absurd c9 (by decide))
      refine s_aload_n (pc' := 68) dX6_set_67 rfl lg0 rfl ?_
      refine s_getRv (pc' := 71) (v := .ref 10) dX6_set_68 rfl flX6_28 ly0 (by decide) rfl rfl ?_
      refine s_iload_n (pc' := 72) dX6_set_71 rfl lg1 ?_
      refine c_X3_valuesOf_3 (pc' := 75) dX6_set_72 rfl lkX6_72 (by omega) (Nat.le_of_ble_eq_true rfl) (b := 10) (Or.inl rfl) ?_
      refine s_astore (pc' := 77) dX6_set_75 rfl rfl (Nat.le_of_ble_eq_true rfl) rfl ls4 ?_
      refine s_aload (pc' := 79) dX6_set_77 rfl lg4 rfl ?_
      refine s_iload_n (pc' := 80) dX6_set_79 rfl lg2 ?_
      refine s_ialdNv (pc' := 81) (v := σ 3 a) dX6_set_80 rfl ly13 (by omega) (by decide) (by obtain ⟨a0, a1, a2, a3, a4⟩ := hS.2.2.2.2 a ha; assumption) ?_
      refine s_istore (pc' := 83) dX6_set_81 rfl (Nat.le_of_ble_eq_true rfl) rfl ls5 ?_
      refine s_aload (pc' := 85) dX6_set_83 rfl lg4 rfl ?_
      refine s_iload_n (pc' := 86) dX6_set_85 rfl lg2 ?_
      refine s_iload_n (pc' := 87) dX6_set_86 rfl lg3 ?_
      refine s_iastN (pc' := 88) dX6_set_87 rfl ly13 (by omega) (by decide) ?_
      refine s_iload (pc' := 90) dX6_set_88 rfl lg5 ?_
      refine s_iret dX6_set_90 rfl (vp_nar_int _) ?_
      exact g _ (hS.up (w := 3) (by decide)) (fun j hj => by simp only [am_up]; rw [if_neg (by omega)])
    · skip
      have g := bad (by unfold setB; rw [decide_eq_true (show inB v 0 (am_gre (ix 3)) = 0 from c1)]; simp)
      refine s_bipush (pc' := 42) dX6_set_40 rfl bipush_m2 ?_
      refine s_iret dX6_set_42 rfl (vp_nar_int _) ?_
      exact g
  have t4 : what = 4 → ¬ pcB o (nI n) = 0 → Sim z d 0 0 mX6_set 27 [.ref 0, .int 4, .int o, .int v, .float 0, .float 0] [] (LAY rf tl) mem Q := by
    intro hw hp
    subst hw
    rcases pc_or o (n := n) (by omega) with q | ⟨a, ha, rfl, -⟩
    · exact absurd q hp
    refine s_iload_n (pc' := 28) dX6_set_27 rfl lg3 ?_
    refine s_iconst (pc' := 29) dX6_set_28 rfl iconst_0 ?_
    refine s_gGre (pc' := 32) dX6_set_29 rfl kfX6_64 ?_
    refine s_iload_n (pc' := 33) dX6_set_32 rfl lg1 ?_
    refine s_tald0v (pc' := 34) (v := 1) dX6_set_33 rfl (by unfold vp_in; decide) (by decide) ?_
    refine c_X6_isIn  (pc' := 37) dX6_set_34 rfl lkX6_56 (by omega) (Nat.le_of_ble_eq_true rfl) ?_
    refine s_if_ne (pc' := 40) (tgt := 43) dX6_set_37 rfl (by decide) (fun c1 => ?_) (fun c1 => ?_)
    · skip
      have g := good (by unfold setB; rw [decide_eq_false hp, decide_eq_false (show ¬ inB v 0 (am_gre (ix 4)) = 0 from c1)]; decide)
      rw [if_neg (by decide), if_neg (by decide), if_neg (by decide), show ix 4 = 4 from by decide, ix_nI (by omega)] at g
      refine s_iload_n (pc' := 44) dX6_set_43 rfl lg1 ?_
      refine s_if_ne (pc' := 47) (tgt := 67) dX6_set_44 rfl (by decide) (fun _ => ?_) (fun c9 => absurd c9 (by decide))
      refine s_aload_n (pc' := 68) dX6_set_67 rfl lg0 rfl ?_
      refine s_getRv (pc' := 71) (v := .ref 10) dX6_set_68 rfl flX6_28 ly0 (by decide) rfl rfl ?_
      refine s_iload_n (pc' := 72) dX6_set_71 rfl lg1 ?_
      refine c_X3_valuesOf_4 (pc' := 75) dX6_set_72 rfl lkX6_72 (by omega) (Nat.le_of_ble_eq_true rfl) (b := 10) (Or.inl rfl) ?_
      refine s_astore (pc' := 77) dX6_set_75 rfl rfl (Nat.le_of_ble_eq_true rfl) rfl ls4 ?_
      refine s_aload (pc' := 79) dX6_set_77 rfl lg4 rfl ?_
      refine s_iload_n (pc' := 80) dX6_set_79 rfl lg2 ?_
      refine s_ialdNv (pc' := 81) (v := σ 4 a) dX6_set_80 rfl ly14 (by omega) (by decide) (by obtain ⟨a0, a1, a2, a3, a4⟩ := hS.2.2.2.2 a ha; assumption) ?_
      refine s_istore (pc' := 83) dX6_set_81 rfl (Nat.le_of_ble_eq_true rfl) rfl ls5 ?_
      refine s_aload (pc' := 85) dX6_set_83 rfl lg4 rfl ?_
      refine s_iload_n (pc' := 86) dX6_set_85 rfl lg2 ?_
      refine s_iload_n (pc' := 87) dX6_set_86 rfl lg3 ?_
      refine s_iastN (pc' := 88) dX6_set_87 rfl ly14 (by omega) (by decide) ?_
      refine s_iload (pc' := 90) dX6_set_88 rfl lg5 ?_
      refine s_iret dX6_set_90 rfl (vp_nar_int _) ?_
      exact g _ (hS.up (w := 4) (by decide)) (fun j hj => by simp only [am_up]; rw [if_neg (by omega)])
    · skip
      have g := bad (by unfold setB; rw [decide_eq_true (show inB v 0 (am_gre (ix 4)) = 0 from c1)]; simp)
      refine s_bipush (pc' := 42) dX6_set_40 rfl bipush_m2 ?_
      refine s_iret dX6_set_42 rfl (vp_nar_int _) ?_
      exact g
  have t0 : what = 0 → Sim z d 0 0 mX6_set 27 [.ref 0, .int 0, .int o, .int v, .float 0, .float 0] [] (LAY rf tl) mem Q := by
    intro hw
    subst hw
    refine s_iload_n (pc' := 28) dX6_set_27 rfl lg3 ?_
    refine s_iconst (pc' := 29) dX6_set_28 rfl iconst_0 ?_
    refine s_gGre (pc' := 32) dX6_set_29 rfl kfX6_64 ?_
    refine s_iload_n (pc' := 33) dX6_set_32 rfl lg1 ?_
    refine s_tald0v (pc' := 34) (v := 999) dX6_set_33 rfl (by unfold vp_in; decide) (by decide) ?_
    refine c_X6_isIn  (pc' := 37) dX6_set_34 rfl lkX6_56 (by omega) (Nat.le_of_ble_eq_true rfl) ?_
    refine s_if_ne (pc' := 40) (tgt := 43) dX6_set_37 rfl (by decide) (fun c1 => ?_) (fun c1 => ?_)
    · skip
      have g := good (by unfold setB; rw [decide_eq_false (show ¬ inB v 0 (am_gre (ix 0)) = 0 from c1), show decide ((0 : Int32) = 0) = true from rfl, Bool.true_or]; decide)
      rw [if_pos rfl, if_pos rfl, if_pos rfl, ← hS.2.2.1] at g
      refine s_iload_n (pc' := 44) dX6_set_43 rfl lg1 ?_
      refine s_if_ne (pc' := 47) (tgt := 67) dX6_set_44 rfl (by decide) (fun c9 => absurd (by decide) c9) (fun _ => ?_)
      refine s_aload_n (pc' := 48) dX6_set_47 rfl lg0 rfl ?_
      refine s_getRv (pc' := 51) (v := .ref 10) dX6_set_48 rfl flX6_28 ly0 (by decide) rfl rfl ?_
      refine s_getI (pc' := 54) dX6_set_51 rfl flX6_68 ly10 (by decide) rfl ?_
      refine s_istore (pc' := 56) dX6_set_54 rfl (Nat.le_of_ble_eq_true rfl) rfl ls4 ?_
      refine s_aload_n (pc' := 57) dX6_set_56 rfl lg0 rfl ?_
      refine s_getRv (pc' := 60) (v := .ref 10) dX6_set_57 rfl flX6_28 ly0 (by decide) rfl rfl ?_
      refine s_iload_n (pc' := 61) dX6_set_60 rfl lg3 ?_
      refine s_putI (pc' := 64) (ty := .int) dX6_set_61 rfl flX6_68 fw3_9 pdI rfl rfl ly10 (by decide) rfl ?_
      refine s_iload (pc' := 66) dX6_set_64 rfl lg4 ?_
      refine s_iret dX6_set_66 rfl (vp_nar_int _) ?_
      refine g _ ?_ (fun j hj => by simp only [am_up]; rw [if_neg (by omega)])
      obtain ⟨q1, q2, q3, q4, q5⟩ := hS
      exact ⟨by simp [am_up, upd]; exact q1, q2, by simp [am_up, upd], by simp [am_up, upd]; exact q4, fun i hi => by simpa [am_up] using q5 i hi⟩
    · skip
      have g := bad (by unfold setB; rw [decide_eq_true (show inB v 0 (am_gre (ix 0)) = 0 from c1)]; simp)
      refine s_bipush (pc' := 42) dX6_set_40 rfl bipush_m2 ?_
      refine s_iret dX6_set_42 rfl (vp_nar_int _) ?_
      exact g
  refine s_iload_n (pc' := 1) dX6_set_0 rfl lg1 ?_
  refine s_iconst (pc' := 2) dX6_set_1 rfl iconst_0 ?_
  refine s_iconst (pc' := 3) dX6_set_2 rfl iconst_4 ?_
  refine c_X6_isIn  (pc' := 6) dX6_set_3 rfl lkX6_56 (by omega) (Nat.le_of_ble_eq_true rfl) ?_
  refine s_if_ne (pc' := 9) (tgt := 12) dX6_set_6 rfl (by decide) (fun c1 => ?_) (fun c1 => ?_)
  · skip
    refine s_iload_n (pc' := 13) dX6_set_12 rfl lg1 ?_
    refine s_if_eq (pc' := 16) (tgt := 27) dX6_set_13 rfl (by decide) (fun c2 => ?_) (fun c2 => ?_)
    · rw [c2]; exact t0 c2
    · skip
      refine s_aload_n (pc' := 17) dX6_set_16 rfl lg0 rfl ?_
      refine s_iload_n (pc' := 18) dX6_set_17 rfl lg2 ?_
      refine c_X6_isPiece  (pc' := 21) dX6_set_18 rfl lkX6_60 (by omega) (Nat.le_of_ble_eq_true rfl) ?_
      rw [hS.1]
      refine s_if_ne (pc' := 24) (tgt := 27) dX6_set_21 rfl (by decide) (fun c3 => ?_) (fun c3 => ?_)
      · rcases in_or what (lo := 0) (hi := 4) rfl (m := 4) rfl (by omega) with q | ⟨k, hk, rfl, -⟩
        · exact absurd q c1
        have k5 : k = 0 ∨ k = 1 ∨ k = 2 ∨ k = 3 ∨ k = 4 := by omega
        rcases k5 with rfl | rfl | rfl | rfl | rfl
        · exact absurd nI_0 c2
        · exact t1 (by decide) c3
        · exact t2 (by decide) c3
        · exact t3 (by decide) c3
        · exact t4 (by decide) c3
      · skip
        have g := bad (by unfold setB; rw [decide_eq_false c2, decide_eq_true c3]; simp)
        refine s_bipush (pc' := 26) dX6_set_24 rfl bipush_m2 ?_
        refine s_iret dX6_set_26 rfl (vp_nar_int _) ?_
        exact g
  · skip
    have g := bad (by unfold setB; rw [decide_eq_true c1]; rfl)
    refine s_bipush (pc' := 11) dX6_set_9 rfl bipush_m2 ?_
    refine s_iret dX6_set_11 rfl (vp_nar_int _) ?_
    exact g
theorem c_X6_set {z : Zz} {d kc ks : Nat} {mi : MI} {pc pc' : Nat} {L S : List Value} {Q : Option Value → Lay → Mem → Prop} {rf : Nat → Value} {tl : Lay} {mem : Mem}  {n : Nat} {σ : Nat → Nat → Int32} {td ru what o v : Int32} {idx : Nat} (hd : decode mi.2.1 pc = .ok (.invokevirtual idx, 3)) (hp : pc + 3 = pc') (hlk : Cond.methodLink mi.1.cls idx yX6_set ∈ wok) (hdd : 2 + 1 ≤ d) (hcat : (S.map (fun v => v.category)).sum ≤ 8) (hS : isS 10 mem σ n td ru) (K : ∀ mem', isS 10 mem' (setS σ n what o v) n (setT n td what o v) ru → nwf mem mem' → Sim z d kc ks mi pc' L (.int (setR σ n td what o v) :: S) (LAY rf tl) mem' Q) : Sim z d kc ks mi pc L (.int v :: .int o :: .int what :: .ref 0 :: S) (LAY rf tl) mem Q :=
  s_invV (d2 := 2) hd hp okX6_set hlk inX6_set seX6_set hdd (Nat.zero_add _) (Nat.zero_add _) rfl rfl ly0 rfl hcat (Nat.le_of_ble_eq_true rfl) (m_X6_set (Nat.le_refl _) hS K)
def tolR (σ : Nat → Nat → Int32) (n : Nat) (td : Int32) (P : Nat → List Int32) (o what : Int32) : Int32 := if what = 0 then td else if what = 8 then (if inB o 0 11 = 0 then -2 else bo (fun i => decide (σ 3 i = o)) n) else if inB what 1 7 = 0 then -2 else if pcB o (nI n) = 0 then -2 else if what = 6 then wears σ n td P (ix o) else if what = 7 then bo (fun i => !decide (i = ix o) && !decide (clB σ td P (ix o) i = 0)) n else if what = 5 then σ 0 (ix o) else σ (ix what) (ix o)
theorem bo_cong {p q : Nat → Bool} : ∀ {n : Nat}, (∀ k, k < n → p k = q k) → bo p n = bo q n
  | 0, _ => rfl
  | n + 1, h => by
    have h1 := bo_cong (n := n) (fun k hk => h k (by omega))
    have h2 := h n (by omega)
    unfold bo
    rw [h1, h2]
theorem in17_or (v : Int32) : inB v 1 7 = 0 ∨ ∃ k, 1 ≤ k ∧ k ≤ 7 ∧ v = nI k := by
  unfold inB
  by_cases h1 : v < 1
  · left; rw [if_pos h1]
  · by_cases h2 : 7 < v
    · left; rw [if_neg h1, if_pos h2]
    · right
      obtain ⟨k, hk, rfl⟩ := nI_of (x := v) (fun q => h1 (by rw [Int32.lt_iff_toInt_lt] at *; have : (0 : Int32).toInt = 0 := (by decide); have : (1 : Int32).toInt = 1 := (by decide); omega))
      refine ⟨k, ?_, ?_, rfl⟩
      · rcases Nat.lt_or_ge k 1 with q | q
        · exact absurd (nI_lt (a := k) (b := 1) q (by omega)) h1
        · exact q
      · rcases Nat.lt_or_ge 7 k with q | q
        · exact absurd (nI_lt (a := 7) (b := k) q hk) h2
        · exact q
set_option maxHeartbeats 4000000 in
theorem m_X6_told {z : Zz} {d : Nat} {Q : Option Value → Lay → Mem → Prop} {rf : Nat → Value} {tl : Lay} {mem : Mem}  {n w nt : Nat} {σ : Nat → Nat → Int32} {td o what : Int32} {T : Nat → Nat → List Int32} (hdd : 6 ≤ d) (hS : isS 10 mem σ n td (nI w)) (hT : isTT rf tl mem nt T) (hw : w < nt) (K : ∀ mem', scr mem mem' → Q (some (.int (tolR σ n td (T w) o what))) (LAY rf tl) mem') : Sim z d 0 0 mX6_told 0 [.ref 0, .int o, .int what] [] (LAY rf tl) mem Q := by
  have h8 := hS.2.1
  unfold tolR at K
  have t1 : what = 1 → ¬ pcB o (nI n) = 0 → Sim z d 0 0 mX6_told 93 [.ref 0, .int o, .int 1] [] (LAY rf tl) mem Q := by
    intro hw hp
    subst hw
    rcases pc_or o (n := n) (by omega) with q | ⟨a, ha, rfl, -⟩
    · exact absurd q hp
    have K2 := K mem (fun _ _ _ => rfl)
    rw [if_neg (by decide), if_neg (by decide), if_neg (by decide), if_neg hp, if_neg (by decide), if_neg (by decide), ix_nI (by omega)] at K2
    have e : (if (1 : Int32) = 5 then σ 0 a else σ (ix 1) a) = σ 1 a := by
      first | rw [if_pos rfl] | (rw [if_neg (by decide), show ix 1 = 1 from by decide])
    rw [e] at K2
    refine s_aload_n (pc' := 94) dX6_told_93 rfl lg0 rfl ?_
    refine s_getRv (pc' := 97) (v := .ref 10) dX6_told_94 rfl flX6_28 ly0 (by decide) rfl rfl ?_
    refine s_iload_n (pc' := 98) dX6_told_97 rfl lg2 ?_
    refine c_X3_valuesOf_1 (pc' := 101) dX6_told_98 rfl lkX6_72 (by omega) (Nat.le_of_ble_eq_true rfl) (b := 10) (Or.inl rfl) ?_
    refine s_iload_n (pc' := 102) dX6_told_101 rfl lg1 ?_
    refine s_ialdNv (pc' := 103) (v := σ 1 a) dX6_told_102 rfl ly11 (by omega) (by decide) (by obtain ⟨a0, a1, a2, a3, a4⟩ := hS.2.2.2.2 a ha; assumption) ?_
    refine s_iret dX6_told_103 rfl (vp_nar_int _) ?_
    exact K2
  have t2 : what = 2 → ¬ pcB o (nI n) = 0 → Sim z d 0 0 mX6_told 93 [.ref 0, .int o, .int 2] [] (LAY rf tl) mem Q := by
    intro hw hp
    subst hw
    rcases pc_or o (n := n) (by omega) with q | ⟨a, ha, rfl, -⟩
    · exact absurd q hp
    have K2 := K mem (fun _ _ _ => rfl)
    rw [if_neg (by decide), if_neg (by decide), if_neg (by decide), if_neg hp, if_neg (by decide), if_neg (by decide), ix_nI (by omega)] at K2
    have e : (if (2 : Int32) = 5 then σ 0 a else σ (ix 2) a) = σ 2 a := by
      first | rw [if_pos rfl] | (rw [if_neg (by decide), show ix 2 = 2 from by decide])
    rw [e] at K2
    refine s_aload_n (pc' := 94) dX6_told_93 rfl lg0 rfl ?_
    refine s_getRv (pc' := 97) (v := .ref 10) dX6_told_94 rfl flX6_28 ly0 (by decide) rfl rfl ?_
    refine s_iload_n (pc' := 98) dX6_told_97 rfl lg2 ?_
    refine c_X3_valuesOf_2 (pc' := 101) dX6_told_98 rfl lkX6_72 (by omega) (Nat.le_of_ble_eq_true rfl) (b := 10) (Or.inl rfl) ?_
    refine s_iload_n (pc' := 102) dX6_told_101 rfl lg1 ?_
    refine s_ialdNv (pc' := 103) (v := σ 2 a) dX6_told_102 rfl ly12 (by omega) (by decide) (by obtain ⟨a0, a1, a2, a3, a4⟩ := hS.2.2.2.2 a ha; assumption) ?_
    refine s_iret dX6_told_103 rfl (vp_nar_int _) ?_
    exact K2
  have t3 : what = 3 → ¬ pcB o (nI n) = 0 → Sim z d 0 0 mX6_told 93 [.ref 0, .int o, .int 3] [] (LAY rf tl) mem Q := by
    intro hw hp
    subst hw
    rcases pc_or o (n := n) (by omega) with q | ⟨a, ha, rfl, -⟩
    · exact absurd q hp
    have K2 := K mem (fun _ _ _ => rfl)
    rw [if_neg (by decide), if_neg (by decide), if_neg (by decide), if_neg hp, if_neg (by decide), if_neg (by decide), ix_nI (by omega)] at K2
    have e : (if (3 : Int32) = 5 then σ 0 a else σ (ix 3) a) = σ 3 a := by
      first | rw [if_pos rfl] | (rw [if_neg (by decide), show ix 3 = 3 from by decide])
    rw [e] at K2
    refine s_aload_n (pc' := 94) dX6_told_93 rfl lg0 rfl ?_
    refine s_getRv (pc' := 97) (v := .ref 10) dX6_told_94 rfl flX6_28 ly0 (by decide) rfl rfl ?_
    refine s_iload_n (pc' := 98) dX6_told_97 rfl lg2 ?_
    refine c_X3_valuesOf_3 (pc' := 101) dX6_told_98 rfl lkX6_72 (by omega) (Nat.le_of_ble_eq_true rfl) (b := 10) (Or.inl rfl) ?_
    refine s_iload_n (pc' := 102) dX6_told_101 rfl lg1 ?_
    refine s_ialdNv (pc' := 103) (v := σ 3 a) dX6_told_102 rfl ly13 (by omega) (by decide) (by obtain ⟨a0, a1, a2, a3, a4⟩ := hS.2.2.2.2 a ha; assumption) ?_
    refine s_iret dX6_told_103 rfl (vp_nar_int _) ?_
    exact K2
  have t4 : what = 4 → ¬ pcB o (nI n) = 0 → Sim z d 0 0 mX6_told 93 [.ref 0, .int o, .int 4] [] (LAY rf tl) mem Q := by
    intro hw hp
    subst hw
    rcases pc_or o (n := n) (by omega) with q | ⟨a, ha, rfl, -⟩
    · exact absurd q hp
    have K2 := K mem (fun _ _ _ => rfl)
    rw [if_neg (by decide), if_neg (by decide), if_neg (by decide), if_neg hp, if_neg (by decide), if_neg (by decide), ix_nI (by omega)] at K2
    have e : (if (4 : Int32) = 5 then σ 0 a else σ (ix 4) a) = σ 4 a := by
      first | rw [if_pos rfl] | (rw [if_neg (by decide), show ix 4 = 4 from by decide])
    rw [e] at K2
    refine s_aload_n (pc' := 94) dX6_told_93 rfl lg0 rfl ?_
    refine s_getRv (pc' := 97) (v := .ref 10) dX6_told_94 rfl flX6_28 ly0 (by decide) rfl rfl ?_
    refine s_iload_n (pc' := 98) dX6_told_97 rfl lg2 ?_
    refine c_X3_valuesOf_4 (pc' := 101) dX6_told_98 rfl lkX6_72 (by omega) (Nat.le_of_ble_eq_true rfl) (b := 10) (Or.inl rfl) ?_
    refine s_iload_n (pc' := 102) dX6_told_101 rfl lg1 ?_
    refine s_ialdNv (pc' := 103) (v := σ 4 a) dX6_told_102 rfl ly14 (by omega) (by decide) (by obtain ⟨a0, a1, a2, a3, a4⟩ := hS.2.2.2.2 a ha; assumption) ?_
    refine s_iret dX6_told_103 rfl (vp_nar_int _) ?_
    exact K2
  have t5 : what = 5 → ¬ pcB o (nI n) = 0 → Sim z d 0 0 mX6_told 93 [.ref 0, .int o, .int 5] [] (LAY rf tl) mem Q := by
    intro hw hp
    subst hw
    rcases pc_or o (n := n) (by omega) with q | ⟨a, ha, rfl, -⟩
    · exact absurd q hp
    have K2 := K mem (fun _ _ _ => rfl)
    rw [if_neg (by decide), if_neg (by decide), if_neg (by decide), if_neg hp, if_neg (by decide), if_neg (by decide), ix_nI (by omega)] at K2
    have e : (if (5 : Int32) = 5 then σ 0 a else σ (ix 5) a) = σ 0 a := by
      first | rw [if_pos rfl] | (rw [if_neg (by decide), show ix 5 = 5 from by decide])
    rw [e] at K2
    refine s_aload_n (pc' := 94) dX6_told_93 rfl lg0 rfl ?_
    refine s_getRv (pc' := 97) (v := .ref 10) dX6_told_94 rfl flX6_28 ly0 (by decide) rfl rfl ?_
    refine s_iload_n (pc' := 98) dX6_told_97 rfl lg2 ?_
    refine c_X3_valuesOf_5 (pc' := 101) dX6_told_98 rfl lkX6_72 (by omega) (Nat.le_of_ble_eq_true rfl) (b := 10) (Or.inl rfl) ?_
    refine s_iload_n (pc' := 102) dX6_told_101 rfl lg1 ?_
    refine s_ialdNv (pc' := 103) (v := σ 0 a) dX6_told_102 rfl ly15 (by omega) (by decide) (by obtain ⟨a0, a1, a2, a3, a4⟩ := hS.2.2.2.2 a ha; assumption) ?_
    refine s_iret dX6_told_103 rfl (vp_nar_int _) ?_
    exact K2
  refine s_iload_n (pc' := 1) dX6_told_0 rfl lg2 ?_
  refine s_if_ne (pc' := 4) (tgt := 12) dX6_told_1 rfl (by decide) (fun c1 => ?_) (fun c1 => ?_)
  · skip
    rw [if_neg c1] at K
    refine s_iload_n (pc' := 13) dX6_told_12 rfl lg2 ?_
    refine s_bipush (pc' := 15) dX6_told_13 rfl bipush_8 ?_
    refine s_icmp_ne (pc' := 18) (tgt := 42) dX6_told_15 rfl (by decide) (fun c2 => ?_) (fun c2 => ?_)
    · skip
      rw [if_neg c2] at K
      refine s_iload_n (pc' := 43) dX6_told_42 rfl lg2 ?_
      refine s_iconst (pc' := 44) dX6_told_43 rfl iconst_1 ?_
      refine s_bipush (pc' := 46) dX6_told_44 rfl bipush_7 ?_
      refine c_X6_isIn  (pc' := 49) dX6_told_46 rfl lkX6_56 (by omega) (Nat.le_of_ble_eq_true rfl) ?_
      refine s_if_eq (pc' := 52) (tgt := 60) dX6_told_49 rfl (by decide) (fun c3 => ?_) (fun c3 => ?_)
      · skip
        rw [if_pos c3] at K
        refine s_bipush (pc' := 62) dX6_told_60 rfl bipush_m2 ?_
        refine s_iret dX6_told_62 rfl (vp_nar_int _) ?_
        exact K mem (fun _ _ _ => rfl)
      · skip
        rw [if_neg c3] at K
        refine s_aload_n (pc' := 53) dX6_told_52 rfl lg0 rfl ?_
        refine s_iload_n (pc' := 54) dX6_told_53 rfl lg1 ?_
        refine c_X6_isPiece  (pc' := 57) dX6_told_54 rfl lkX6_60 (by omega) (Nat.le_of_ble_eq_true rfl) ?_
        rw [hS.1]
        refine s_if_ne (pc' := 60) (tgt := 63) dX6_told_57 rfl (by decide) (fun c4 => ?_) (fun c4 => ?_)
        · skip
          rw [if_neg c4] at K
          rcases pc_or o (n := n) (by omega) with q | ⟨a, ha, rfl, -⟩
          · exact absurd q c4
          rw [ix_nI (by omega)] at K
          refine s_iload_n (pc' := 64) dX6_told_63 rfl lg2 ?_
          refine s_bipush (pc' := 66) dX6_told_64 rfl bipush_6 ?_
          refine s_icmp_ne (pc' := 69) (tgt := 78) dX6_told_66 rfl (by decide) (fun c5 => ?_) (fun c5 => ?_)
          · skip
            rw [if_neg c5] at K
            refine s_iload_n (pc' := 79) dX6_told_78 rfl lg2 ?_
            refine s_bipush (pc' := 81) dX6_told_79 rfl bipush_7 ?_
            refine s_icmp_ne (pc' := 84) (tgt := 93) dX6_told_81 rfl (by decide) (fun c6 => ?_) (fun c6 => ?_)
            · rcases in17_or what with q | ⟨k, hk1, hk2, rfl⟩
              · exact absurd q c3
              have k7 : k = 1 ∨ k = 2 ∨ k = 3 ∨ k = 4 ∨ k = 5 ∨ k = 6 ∨ k = 7 := by omega
              rcases k7 with rfl | rfl | rfl | rfl | rfl | rfl | rfl
              · exact t1 (by decide) c4
              · exact t2 (by decide) c4
              · exact t3 (by decide) c4
              · exact t4 (by decide) c4
              · exact t5 (by decide) c4
              · exact absurd (show nI 6 = 6 from by decide) c5
              · exact absurd (show nI 7 = 7 from by decide) c6
            · skip
              rw [if_pos c6] at K
              refine s_aload_n (pc' := 85) dX6_told_84 rfl lg0 rfl ?_
              refine s_getRv (pc' := 88) (v := .ref 10) dX6_told_85 rfl flX6_28 ly0 (by decide) rfl rfl ?_
              refine s_iload_n (pc' := 89) dX6_told_88 rfl lg1 ?_
              refine c_X3_whichClash (b := 10) (pc' := 92) dX6_told_89 rfl lkX6_87 (by omega) (Nat.le_of_ble_eq_true rfl) (Or.inl rfl) hS ha hT hw (fun m1 s1 => ?_)
              refine s_iret dX6_told_92 rfl (vp_nar_int _) ?_
              exact K m1 s1
          · skip
            rw [if_pos c5] at K
            refine s_aload_n (pc' := 70) dX6_told_69 rfl lg0 rfl ?_
            refine s_getRv (pc' := 73) (v := .ref 10) dX6_told_70 rfl flX6_28 ly0 (by decide) rfl rfl ?_
            refine s_iload_n (pc' := 74) dX6_told_73 rfl lg1 ?_
            refine c_X3_wornOff (b := 10) (pc' := 77) dX6_told_74 rfl lkX6_84 (by omega) (Nat.le_of_ble_eq_true rfl) (Or.inl rfl) hS ha hT hw (fun m1 s1 => ?_)
            refine s_iret dX6_told_77 rfl (vp_nar_int _) ?_
            exact K m1 s1
        · skip
          rw [if_pos c4] at K
          refine s_bipush (pc' := 62) dX6_told_60 rfl bipush_m2 ?_
          refine s_iret dX6_told_62 rfl (vp_nar_int _) ?_
          exact K mem (fun _ _ _ => rfl)
    · skip
      rw [if_pos c2] at K
      refine s_iload_n (pc' := 19) dX6_told_18 rfl lg1 ?_
      refine s_iconst (pc' := 20) dX6_told_19 rfl iconst_0 ?_
      refine s_bipush (pc' := 22) dX6_told_20 rfl bipush_11 ?_
      refine c_X6_isIn  (pc' := 25) dX6_told_22 rfl lkX6_56 (by omega) (Nat.le_of_ble_eq_true rfl) ?_
      refine s_if_eq (pc' := 28) (tgt := 39) dX6_told_25 rfl (by decide) (fun c3 => ?_) (fun c3 => ?_)
      · skip
        rw [if_pos c3] at K
        refine s_bipush (pc' := 41) dX6_told_39 rfl bipush_m2 ?_
        refine s_iret dX6_told_41 rfl (vp_nar_int _) ?_
        exact K mem (fun _ _ _ => rfl)
      · skip
        rw [if_neg c3, ← bo_cong (p := fun i => decide (mem (10 + 3) i = o)) (fun k hk => by rw [(hS.2.2.2.2 k hk).2.2.2.1])] at K
        refine s_aload_n (pc' := 29) dX6_told_28 rfl lg0 rfl ?_
        refine s_getRv (pc' := 32) (v := .ref 10) dX6_told_29 rfl flX6_28 ly0 (by decide) rfl rfl ?_
        refine s_iload_n (pc' := 33) dX6_told_32 rfl lg1 ?_
        refine c_X3_whichAt (b := 10) (pc' := 36) dX6_told_33 rfl lkX6_80 (by omega) (Nat.le_of_ble_eq_true rfl) (Or.inl rfl) hS.1 hS.2.1 ?_
        refine s_goto (tgt := 41) dX6_told_36 (by decide) ?_
        refine s_iret dX6_told_41 rfl (vp_nar_int _) ?_
        exact K mem (fun _ _ _ => rfl)
  · skip
    rw [if_pos c1, ← hS.2.2.1] at K
    refine s_aload_n (pc' := 5) dX6_told_4 rfl lg0 rfl ?_
    refine s_getRv (pc' := 8) (v := .ref 10) dX6_told_5 rfl flX6_28 ly0 (by decide) rfl rfl ?_
    refine s_getI (pc' := 11) dX6_told_8 rfl flX6_68 ly10 (by decide) rfl ?_
    refine s_iret dX6_told_11 rfl (vp_nar_int _) ?_
    exact K mem (fun _ _ _ => rfl)
theorem c_X6_told {z : Zz} {d kc ks : Nat} {mi : MI} {pc pc' : Nat} {L S : List Value} {Q : Option Value → Lay → Mem → Prop} {rf : Nat → Value} {tl : Lay} {mem : Mem}  {n w nt : Nat} {σ : Nat → Nat → Int32} {td o what : Int32} {T : Nat → Nat → List Int32} {idx : Nat} (hd : decode mi.2.1 pc = .ok (.invokevirtual idx, 3)) (hp : pc + 3 = pc') (hlk : Cond.methodLink mi.1.cls idx yX6_told ∈ wok) (hdd : 6 + 1 ≤ d) (hcat : (S.map (fun v => v.category)).sum ≤ 8) (hS : isS 10 mem σ n td (nI w)) (hT : isTT rf tl mem nt T) (hw : w < nt) (K : ∀ mem', scr mem mem' → Sim z d kc ks mi pc' L (.int (tolR σ n td (T w) o what) :: S) (LAY rf tl) mem' Q) : Sim z d kc ks mi pc L (.int what :: .int o :: .ref 0 :: S) (LAY rf tl) mem Q :=
  s_invV (d2 := 6) hd hp okX6_told hlk inX6_told seX6_told hdd (Nat.zero_add _) (Nat.zero_add _) rfl rfl ly0 rfl hcat (Nat.le_of_ble_eq_true rfl) (m_X6_told (Nat.le_refl _) hS hT hw K)

