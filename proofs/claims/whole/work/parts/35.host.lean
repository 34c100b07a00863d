/-! ===== sheet, cell, copy, finds, taken, walk, told, set, piece ===== -/
def shtR (s so n : Int32) : Int32 := if shB s = 0 then -2 else if inB so (-1) 2 = 0 then -2 else if so = -1 then 1 else if ¬ n ≤ 40 then -2 else if ¬ 0 ≤ n then -14 else 1
def shtF (s so n : Int32) (mem mem' : Mem) : Prop := if shtR s so n = 1 then isR mem' (ix s) so (if so = -1 then 0 else ix n) (fun _ => 0) ∧ (∀ q, q ≠ 39 + 2 * ix s → q ≠ 40 + 2 * ix s → mem' q = mem q) else mem' = mem
theorem n40_or {n : Int32} (h1 : n ≤ 40) (h2 : 0 ≤ n) : ∃ k, k ≤ 40 ∧ n = nI k := by
  obtain ⟨j, hj, rfl⟩ := nI_of (fun q => by rw [Int32.lt_iff_toInt_lt] at q; rw [Int32.le_iff_toInt_le] at h2; omega : ¬ n < 0)
  exact ⟨j, (nI_leI (a := j) (b := 40) hj (by omega)).mp h1, rfl⟩
set_option maxHeartbeats 4000000 in
theorem m_X6_sheet {z : Zz} {d : Nat} {Q : Option Value → Lay → Mem → Prop} {rf : Nat → Value} {tl : Lay} {mem : Mem}  {s so n : Int32} (hdd : 2 ≤ d)  (K : ∀ mem', shtF s so n mem mem' → Q (some (.int (shtR s so n))) (LAY rf tl) mem') : Sim z d 0 0 mX6_sheet 0 [.ref 0, .int s, .int so, .int n] [] (LAY rf tl) mem Q := by
  have bad : shtR s so n ≠ 1 → Q (some (.int (shtR s so n))) (LAY rf tl) mem := fun h => K mem (by unfold shtF; rw [if_neg h])
  refine s_iload_n (pc' := 1) dX6_sheet_0 rfl lg1 ?_
  refine c_X6_isSheet  (pc' := 4) dX6_sheet_1 rfl lkX6_146 (by omega) (Nat.le_of_ble_eq_true rfl) ?_
  refine s_if_eq (pc' := 7) (tgt := 16) dX6_sheet_4 rfl (by decide) (fun c1 => ?_) (fun c1 => ?_)
  · skip
    have e : shtR s so n = -2 := by rw [shtR, if_pos c1]
    rw [e] at bad
    refine s_bipush (pc' := 18) dX6_sheet_16 rfl bipush_m2 ?_
    refine s_iret dX6_sheet_18 rfl (vp_nar_int _) ?_
    exact bad (by decide)
  · skip
    rcases sh_or s with h | ⟨j, hj, rfl, -⟩
    · exact absurd h c1
    refine s_iload_n (pc' := 8) dX6_sheet_7 rfl lg2 ?_
    refine s_iconst (pc' := 9) dX6_sheet_8 rfl iconst_m1 ?_
    refine s_iconst (pc' := 10) dX6_sheet_9 rfl iconst_2 ?_
    refine c_X6_isIn  (pc' := 13) dX6_sheet_10 rfl lkX6_56 (by omega) (Nat.le_of_ble_eq_true rfl) ?_
    refine s_if_ne (pc' := 16) (tgt := 19) dX6_sheet_13 rfl (by decide) (fun c2 => ?_) (fun c2 => ?_)
    · skip
      refine s_iload_n (pc' := 20) dX6_sheet_19 rfl lg2 ?_
      refine s_iconst (pc' := 21) dX6_sheet_20 rfl iconst_m1 ?_
      refine s_icmp_ne (pc' := 24) (tgt := 37) dX6_sheet_21 rfl (by decide) (fun c3 => ?_) (fun c3 => ?_)
      · skip
        refine s_iload_n (pc' := 38) dX6_sheet_37 rfl lg3 ?_
        refine s_bipush (pc' := 40) dX6_sheet_38 rfl bipush_40 ?_
        refine s_icmp_le (pc' := 43) (tgt := 46) dX6_sheet_40 rfl (by decide) (fun c4 => ?_) (fun c4 => ?_)
        · skip
          refine s_iload_n (pc' := 47) dX6_sheet_46 rfl lg3 ?_
          refine s_if_ge (pc' := 50) (tgt := 53) dX6_sheet_47 rfl (by decide) (fun c5 => ?_) (fun c5 => ?_)
          · skip
            have e : shtR (nI j) so n = 1 := by rw [shtR, if_neg c1, if_neg c2, if_neg c3, if_neg (fun q => q c4), if_neg (fun q => q c5)]
            rw [e] at K
            obtain ⟨k, hk, rfl⟩ := n40_or c4 c5
            refine s_aload_n (pc' := 54) dX6_sheet_53 rfl lg0 rfl ?_
            refine s_getRv (pc' := 57) (v := .ref 38) dX6_sheet_54 rfl flX6_47 ly0 (by decide) rfl rfl ?_
            refine s_iload_n (pc' := 58) dX6_sheet_57 rfl lg1 ?_
            refine s_aaldv (pc' := 59) (v := .ref (39 + 2 * j)) dX6_sheet_58 rfl ly38 (by decide) (am_in (by omega) (by decide)) (by rw [am_cl (n := 4) hj (by decide)]; exact R38_at hj) ?_
            refine s_iload_n (pc' := 60) dX6_sheet_59 rfl lg2 ?_
            refine s_iload_n (pc' := 61) dX6_sheet_60 rfl lg3 ?_
            refine c_X2_becomes  (pc' := 64) dX6_sheet_61 rfl lkX6_217 (by omega) (Nat.le_of_ble_eq_true rfl) hj (fun m1 r1 r2 r3 r4 => ?_)
            refine s_iconst (pc' := 65) dX6_sheet_64 rfl iconst_1 ?_
            refine s_iret dX6_sheet_65 rfl (vp_nar_int _) ?_
            refine K m1 ?_
            unfold shtF
            rw [if_pos e, if_neg c3, ix_nI (by omega), ix_nI (by omega)]
            exact ⟨⟨r2, r3, hk, fun q hq => r4 q (by omega)⟩, r1⟩
          · skip
            have e : shtR (nI j) so n = -14 := by rw [shtR, if_neg c1, if_neg c2, if_neg c3, if_neg (fun q => q c4), if_pos c5]
            rw [e] at bad
            refine s_bipush (pc' := 52) dX6_sheet_50 rfl bipush_m14 ?_
            refine s_iret dX6_sheet_52 rfl (vp_nar_int _) ?_
            exact bad (by decide)
        · skip
          have e : shtR (nI j) so n = -2 := by rw [shtR, if_neg c1, if_neg c2, if_neg c3, if_pos c4]
          rw [e] at bad
          refine s_bipush (pc' := 45) dX6_sheet_43 rfl bipush_m2 ?_
          refine s_iret dX6_sheet_45 rfl (vp_nar_int _) ?_
          exact bad (by decide)
      · skip
        have e : shtR (nI j) so n = 1 := by rw [shtR, if_neg c1, if_neg c2, if_pos c3]
        rw [e] at K
        refine s_aload_n (pc' := 25) dX6_sheet_24 rfl lg0 rfl ?_
        refine s_getRv (pc' := 28) (v := .ref 38) dX6_sheet_25 rfl flX6_47 ly0 (by decide) rfl rfl ?_
        refine s_iload_n (pc' := 29) dX6_sheet_28 rfl lg1 ?_
        refine s_aaldv (pc' := 30) (v := .ref (39 + 2 * j)) dX6_sheet_29 rfl ly38 (by decide) (am_in (by omega) (by decide)) (by rw [am_cl (n := 4) hj (by decide)]; exact R38_at hj) ?_
        refine s_iconst (pc' := 31) dX6_sheet_30 rfl iconst_m1 ?_
        refine s_iconst (pc' := 32) dX6_sheet_31 rfl iconst_0 ?_
        refine c_X2_becomes  (pc' := 35) dX6_sheet_32 rfl lkX6_217 (by omega) (Nat.le_of_ble_eq_true rfl) hj (fun m1 r1 r2 r3 r4 => ?_)
        refine s_iconst (pc' := 36) dX6_sheet_35 rfl iconst_1 ?_
        refine s_iret dX6_sheet_36 rfl (vp_nar_int _) ?_
        refine K m1 ?_
        unfold shtF
        rw [if_pos e, if_pos c3, ix_nI (by omega)]
        exact ⟨⟨by rw [c3]; exact r2, r3, by decide, fun q hq => absurd hq (Nat.not_lt_zero q)⟩, r1⟩
    · skip
      have e : shtR (nI j) so n = -2 := by rw [shtR, if_neg c1, if_pos c2]
      rw [e] at bad
      refine s_bipush (pc' := 18) dX6_sheet_16 rfl bipush_m2 ?_
      refine s_iret dX6_sheet_18 rfl (vp_nar_int _) ?_
      exact bad (by decide)
theorem c_X6_sheet {z : Zz} {d kc ks : Nat} {mi : MI} {pc pc' : Nat} {L S : List Value} {Q : Option Value → Lay → Mem → Prop} {rf : Nat → Value} {tl : Lay} {mem : Mem}  {s so n : Int32} {idx : Nat} (hd : decode mi.2.1 pc = .ok (.invokevirtual idx, 3)) (hp : pc + 3 = pc') (hlk : Cond.methodLink mi.1.cls idx yX6_sheet ∈ wok) (hdd : 2 + 1 ≤ d) (hcat : (S.map (fun v => v.category)).sum ≤ 8)  (K : ∀ mem', shtF s so n mem mem' → Sim z d kc ks mi pc' L (.int (shtR s so n) :: S) (LAY rf tl) mem' Q) : Sim z d kc ks mi pc L (.int n :: .int so :: .int s :: .ref 0 :: S) (LAY rf tl) mem Q :=
  s_invV (d2 := 2) hd hp okX6_sheet hlk inX6_sheet seX6_sheet hdd (Nat.zero_add _) (Nat.zero_add _) rfl rfl ly0 rfl hcat (Nat.le_of_ble_eq_true rfl) (m_X6_sheet (Nat.le_refl _)  K)
def celR (so : Nat → Int32) (sz : Nat → Nat) (s i : Int32) : Int32 := if shB s = 0 then -2 else if so (ix s) = -1 then -11 else if hasB i 1 (nI (sz (ix s))) = 0 then -12 else 1
def celF (so : Nat → Int32) (sz : Nat → Nat) (it : Nat → Nat → Int32) (s i v : Int32) (mem mem' : Mem) : Prop := if celR so sz s i = 1 then isR mem' (ix s) (so (ix s)) (sz (ix s)) (upd (it (ix s)) (ix i) (cutI (so (ix s)) v)) ∧ (∀ q, q ≠ 40 + 2 * ix s → mem' q = mem q) else mem' = mem
theorem has_or (x y : Int32) {sz : Nat} (h : sz ≤ 40) : hasB x y (nI sz) = 0 ∨ ∃ a b, x = nI a ∧ y = nI b ∧ a + b ≤ sz ∧ hasB x y (nI sz) = 1 := by
  unfold hasB
  by_cases h1 : x < 0
  · left; rw [if_pos h1]
  · by_cases h2 : y < 0
    · left; rw [if_neg h1, if_pos h2]
    · obtain ⟨a, ha, rfl⟩ := nI_of h1
      obtain ⟨b, hb, rfl⟩ := nI_of h2
      by_cases h3 : nI sz < nI a
      · left; rw [if_neg h1, if_neg h2, if_pos h3]
      · have h3' : a ≤ sz := by
          rcases Nat.lt_or_ge sz a with q | q
          · exact absurd (nI_lt q ha) h3
          · exact q
        by_cases h4 : nI sz - nI a < nI b
        · left; rw [if_neg h1, if_neg h2, if_neg h3, if_pos h4]
        · right
          refine ⟨a, b, rfl, rfl, ?_, by rw [if_neg h1, if_neg h2, if_neg h3, if_neg h4]⟩
          rw [pk_sub h3'] at h4
          rcases Nat.lt_or_ge (sz - a) b with q | q
          · exact absurd (nI_lt q hb) h4
          · omega
set_option maxHeartbeats 4000000 in
theorem m_X6_cell {z : Zz} {d : Nat} {Q : Option Value → Lay → Mem → Prop} {rf : Nat → Value} {tl : Lay} {mem : Mem}  {s i v : Int32} {so : Nat → Int32} {sz : Nat → Nat} {it : Nat → Nat → Int32} (hdd : 2 ≤ d) (hRR : isRR mem so sz it) (K : ∀ mem', celF so sz it s i v mem mem' → Q (some (.int (celR so sz s i))) (LAY rf tl) mem') : Sim z d 0 0 mX6_cell 0 [.ref 0, .int s, .int i, .int v, .float 0] [] (LAY rf tl) mem Q := by
  have bad : celR so sz s i ≠ 1 → Q (some (.int (celR so sz s i))) (LAY rf tl) mem := fun h => K mem (by unfold celF; rw [if_neg h])
  refine s_iload_n (pc' := 1) dX6_cell_0 rfl lg1 ?_
  refine c_X6_isSheet  (pc' := 4) dX6_cell_1 rfl lkX6_146 (by omega) (Nat.le_of_ble_eq_true rfl) ?_
  refine s_if_ne (pc' := 7) (tgt := 10) dX6_cell_4 rfl (by decide) (fun c1 => ?_) (fun c1 => ?_)
  · skip
    rcases sh_or s with h | ⟨j, hj, rfl, -⟩
    · exact absurd h c1
    have hR := hRR j hj
    have h40 := hR.2.2.1
    refine s_aload_n (pc' := 11) dX6_cell_10 rfl lg0 rfl ?_
    refine s_getRv (pc' := 14) (v := .ref 38) dX6_cell_11 rfl flX6_47 ly0 (by decide) rfl rfl ?_
    refine s_iload_n (pc' := 15) dX6_cell_14 rfl lg1 ?_
    refine s_aaldv (pc' := 16) (v := .ref (39 + 2 * j)) dX6_cell_15 rfl ly38 (by decide) (am_in (by omega) (by decide)) (by rw [am_cl (n := 4) hj (by decide)]; exact R38_at hj) ?_
    refine s_astore (pc' := 18) dX6_cell_16 rfl rfl (Nat.le_of_ble_eq_true rfl) rfl ls4 ?_
    refine s_aload (pc' := 20) dX6_cell_18 rfl lg4 rfl ?_
    refine c_X2_isMissing  (pc' := 23) dX6_cell_20 rfl lkX6_149 (by omega) (Nat.le_of_ble_eq_true rfl) hj ?_
    rw [hR.1]
    by_cases hm : so j = -1
    · have e : celR so sz (nI j) i = -11 := by rw [celR, if_neg c1, ix_nI (by omega), if_pos hm]
      rw [e] at bad
      rw [if_pos hm]
      refine s_if_eq (pc' := 26) (tgt := 29) dX6_cell_23 rfl (by decide) (fun c9 => absurd c9 (by decide)) (fun _ => ?_)
      refine s_bipush (pc' := 28) dX6_cell_26 rfl bipush_m11 ?_
      refine s_iret dX6_cell_28 rfl (vp_nar_int _) ?_
      exact bad (by decide)
    · rw [if_neg hm]
      refine s_if_eq (pc' := 26) (tgt := 29) dX6_cell_23 rfl (by decide) (fun _ => ?_) (fun c9 => absurd (by decide) c9)
      refine s_aload (pc' := 31) dX6_cell_29 rfl lg4 rfl ?_
      refine s_iload_n (pc' := 32) dX6_cell_31 rfl lg2 ?_
      refine s_iconst (pc' := 33) dX6_cell_32 rfl iconst_1 ?_
      refine c_X2_has  (pc' := 36) dX6_cell_33 rfl lkX6_230 (by omega) (Nat.le_of_ble_eq_true rfl) hj ?_
      rw [hR.2.1]
      refine s_if_ne (pc' := 39) (tgt := 42) dX6_cell_36 rfl (by decide) (fun c2 => ?_) (fun c2 => ?_)
      · skip
        have e : celR so sz (nI j) i = 1 := by rw [celR, if_neg c1, ix_nI (by omega), if_neg hm, if_neg c2]
        rw [e] at K
        rcases has_or i 1 h40 with h | ⟨a, b, rfl, hb1, hab, -⟩
        · exact absurd h c2
        have hb2 : 1 ≤ b := by
          rcases Nat.lt_or_ge b 1 with q | q
          · have : b = 0 := by omega
            rw [this] at hb1
            exact absurd hb1 (by decide)
          · exact q
        refine s_aload (pc' := 44) dX6_cell_42 rfl lg4 rfl ?_
        refine s_iload_n (pc' := 45) dX6_cell_44 rfl lg2 ?_
        refine s_iload_n (pc' := 46) dX6_cell_45 rfl lg3 ?_
        refine c_X2_puts  (pc' := 49) dX6_cell_46 rfl lkX6_220 (by omega) (Nat.le_of_ble_eq_true rfl) hj (by omega) ?_
        refine s_iconst (pc' := 50) dX6_cell_49 rfl iconst_1 ?_
        refine s_iret dX6_cell_50 rfl (vp_nar_int _) ?_
        refine K _ ?_
        unfold celF
        rw [if_pos e, ix_nI (by omega), ix_nI (by omega)]
        obtain ⟨r1, r2, r3, r4⟩ := hR
        refine ⟨⟨?_, ?_, r3, fun k hk => ?_⟩, fun q hq => if_neg hq⟩
        · rw [show am_up mem (40 + 2 * j) a (cutI (mem (39 + 2 * j) 1) v) (39 + 2 * j) = mem (39 + 2 * j) from if_neg (by omega)]; exact r1
        · rw [show am_up mem (40 + 2 * j) a (cutI (mem (39 + 2 * j) 1) v) (39 + 2 * j) = mem (39 + 2 * j) from if_neg (by omega)]; exact r2
        · rw [r1]
          by_cases hka : k = a
          · subst hka; simp [am_up, upd]
          · simp [am_up, upd, hka]; exact r4 k hk
      · skip
        have e : celR so sz (nI j) i = -12 := by rw [celR, if_neg c1, ix_nI (by omega), if_neg hm, if_pos c2]
        rw [e] at bad
        refine s_bipush (pc' := 41) dX6_cell_39 rfl bipush_m12 ?_
        refine s_iret dX6_cell_41 rfl (vp_nar_int _) ?_
        exact bad (by decide)
  · skip
    have e : celR so sz s i = -2 := by rw [celR, if_pos c1]
    rw [e] at bad
    refine s_bipush (pc' := 9) dX6_cell_7 rfl bipush_m2 ?_
    refine s_iret dX6_cell_9 rfl (vp_nar_int _) ?_
    exact bad (by decide)
theorem c_X6_cell {z : Zz} {d kc ks : Nat} {mi : MI} {pc pc' : Nat} {L S : List Value} {Q : Option Value → Lay → Mem → Prop} {rf : Nat → Value} {tl : Lay} {mem : Mem}  {s i v : Int32} {so : Nat → Int32} {sz : Nat → Nat} {it : Nat → Nat → Int32} {idx : Nat} (hd : decode mi.2.1 pc = .ok (.invokevirtual idx, 3)) (hp : pc + 3 = pc') (hlk : Cond.methodLink mi.1.cls idx yX6_cell ∈ wok) (hdd : 2 + 1 ≤ d) (hcat : (S.map (fun v => v.category)).sum ≤ 8) (hRR : isRR mem so sz it) (K : ∀ mem', celF so sz it s i v mem mem' → Sim z d kc ks mi pc' L (.int (celR so sz s i) :: S) (LAY rf tl) mem' Q) : Sim z d kc ks mi pc L (.int v :: .int i :: .int s :: .ref 0 :: S) (LAY rf tl) mem Q :=
  s_invV (d2 := 2) hd hp okX6_cell hlk inX6_cell seX6_cell hdd (Nat.zero_add _) (Nat.zero_add _) rfl rfl ly0 rfl hcat (Nat.le_of_ble_eq_true rfl) (m_X6_cell (Nat.le_refl _) hRR K)

