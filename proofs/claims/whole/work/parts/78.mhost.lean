/-! ===== the Model: sheet, cell, copy ===== -/
def uf {α : Type} (f : Nat → α) (j : Nat) (v : α) : Nat → α := fun k => if k = j then v else f k
theorem ufE {α : Type} {f : Nat → α} {j : Nat} {v : α} : uf f j v j = v := if_pos rfl
theorem ufN {α : Type} {f : Nat → α} {j k : Nat} {v : α} (h : k ≠ j) : uf f j v k = f k := if_neg h
def shf (mem mem' : Mem) : Prop := ∀ q, q ≠ 61 → q ≠ 62 → q ≠ 63 → q ≠ 64 → mem' q = mem q
theorem shf.rf {mem : Mem} : shf mem mem := fun _ _ _ _ _ => rfl
set_option maxHeartbeats 4000000 in
theorem m_X7_sheet {z : Zz} {d : Nat} {Q : Option Value → Lay → Mem → Prop} {rf : Nat → Value} {tl : Lay} {mem : Mem}  {s t m : Int32} {so : Nat → Int32} {sz : Nat → Nat} {it : Nat → Nat → Int32} (hdd : 2 ≤ d) (hR : isMR mem so sz it) (K : ∀ mem', (if shtR s t m = 1 then isMR mem' (uf so (ix s) t) (uf sz (ix s) (if t = -1 then 0 else ix m)) (uf it (ix s) (fun _ => 0)) else isMR mem' so sz it) → shf mem mem' → Q (some (.int (shtR s t m))) (LAY rf tl) mem') : Sim z d 0 0 mX7_sheet 0 [.ref 47, .int s, .int t, .int m, .float 0] [] (LAY rf tl) mem Q := by
  have bad : ∀ r, shtR s t m = r → ¬ r = 1 → Q (some (.int r)) (LAY rf tl) mem := by
    intro r hr h1
    rw [hr] at K
    exact K mem (by rw [if_neg h1]; exact hR) shf.rf
  have tail : ∀ (j y : Nat) (m1 : Mem), j < 4 → y ≤ 40 → ix s = j → (if t = -1 then 0 else ix m) = y → shtR s t m = 1 → m1 = am_up (am_up mem 61 j t) 62 j (nI y) → Sim z d 0 0 mX7_sheet 65 [.ref 47, .int (nI j), .int t, .int m, .float 0] [] (LAY rf tl) m1 Q := by
    intro j y m1 hj hy es ey hr hm1
    rw [hr, es, ey] at K
    refine s_iconst (pc' := 66) dX7_sheet_65 rfl iconst_0 ?_
    refine s_istore (pc' := 68) dX7_sheet_66 rfl (Nat.le_of_ble_eq_true rfl) rfl ls4 ?_
    have loop : ∀ (k i : Nat) (mm : Mem), i + k = 40 → (∀ q, q ≠ 63 → mm q = m1 q) → (∀ k, mm 63 k = if 40 * j ≤ k ∧ k < 40 * j + i then 0 else mem 63 k) → Sim z d 0 0 mX7_sheet 68 [.ref 47, .int (nI j), .int t, .int m, .int (nI i)] [] (LAY rf tl) mm Q := by
      intro k
      induction k with
      | zero =>
        intro i mm hi hm h63
        have : i = 40 := by omega
        subst this
        refine s_iload (pc' := 70) dX7_sheet_68 rfl lg4 ?_
        refine s_bipush (pc' := 72) dX7_sheet_70 rfl bipush_40 ?_
        refine s_icmp_ge (pc' := 75) (tgt := 94) dX7_sheet_72 rfl (by decide) (fun _ => ?_) (fun c9 => absurd (by decide) c9)
        refine s_iconst (pc' := 95) dX7_sheet_94 rfl iconst_1 ?_
        refine s_iret dX7_sheet_95 rfl (vp_nar_int _) ?_
        refine K mm ?_ (fun q q1 q2 q3 q4 => by rw [hm q q3, hm1, upN q2, upN q1])
        rw [if_pos rfl]
        intro j' hj'
        obtain ⟨r1, r2, r3, r4⟩ := hR j' hj'
        have e61 : mm 61 = upd (mem 61) j t := by rw [hm 61 (by decide), hm1, upN (by decide), upE]
        have e62 : mm 62 = upd (mem 62) j (nI y) := by rw [hm 62 (by decide), hm1, upE, upN (by decide)]
        rw [e61, e62]
        by_cases e : j' = j
        · subst e
          rw [ufE, ufE, ufE, udE, udE]
          exact ⟨rfl, rfl, hy, fun k hk => by rw [h63, if_pos ⟨by omega, by omega⟩]⟩
        · rw [ufN e, ufN e, ufN e, udN e, udN e]
          exact ⟨r1, r2, r3, fun k hk => by rw [h63, if_neg (by omega)]; exact r4 k hk⟩
      | succ k ih =>
        intro i mm hi hm h63
        refine s_iload (pc' := 70) dX7_sheet_68 rfl lg4 ?_
        refine s_bipush (pc' := 72) dX7_sheet_70 rfl bipush_40 ?_
        refine s_icmp_ge (pc' := 75) (tgt := 94) dX7_sheet_72 rfl (by decide) (fun c9 => absurd c9 (nI_ge (b := 40) (by omega) (by omega))) (fun _ => ?_)
        refine s_aload_n (pc' := 76) dX7_sheet_75 rfl lg0 rfl ?_
        refine s_getRv (pc' := 79) (v := .ref 63) dX7_sheet_76 rfl flX7_64 ly47 (by decide) rfl rfl ?_
        refine s_bipush (pc' := 81) dX7_sheet_79 rfl bipush_40 ?_
        refine s_iload_n (pc' := 82) dX7_sheet_81 rfl lg1 ?_
        refine s_imul (pc' := 83) dX7_sheet_82 rfl ?_
        refine s_iload (pc' := 85) dX7_sheet_83 rfl lg4 ?_
        refine s_iadd (pc' := 86) dX7_sheet_85 rfl ?_
        rw [mI40]
        refine s_iconst (pc' := 87) dX7_sheet_86 rfl iconst_0 ?_
        refine s_iastN (pc' := 88) dX7_sheet_87 rfl ly63 (by omega) (by decide) ?_
        refine s_iincN (pc' := 91) dX7_sheet_88 rfl lg4 rfl ls4 ?_
        refine s_goto (tgt := 68) dX7_sheet_91 (by decide) ?_
        refine ih (i + 1) _ (by omega) (fun q hq => by rw [upN hq]; exact hm q hq) (fun k => ?_)
        rw [upE]
        by_cases e : k = 40 * j + i
        · rw [e, udE, if_pos ⟨by omega, by omega⟩]
        · rw [udN e, h63]
          by_cases q : 40 * j ≤ k ∧ k < 40 * j + i
          · rw [if_pos q, if_pos ⟨by omega, by omega⟩]
          · rw [if_neg q, if_neg (by omega)]
    exact loop 40 0 m1 (by omega) (fun _ _ => rfl) (fun k => by rw [if_neg (by omega), hm1, upN (by decide), upN (by decide)])
  clear K
  refine s_iload_n (pc' := 1) dX7_sheet_0 rfl lg1 ?_
  refine c_X7_isSheet  (pc' := 4) dX7_sheet_1 rfl lkX7_245 (by omega) (Nat.le_of_ble_eq_true rfl) ?_
  refine s_if_eq (pc' := 7) (tgt := 27) dX7_sheet_4 rfl (by decide) (fun c1 => ?_) (fun c1 => ?_)
  · skip
    refine s_bipush (pc' := 29) dX7_sheet_27 rfl bipush_m2 ?_
    refine s_iret dX7_sheet_29 rfl (vp_nar_int _) ?_
    exact bad _ (by rw [shtR, if_pos c1]) (by decide)
  · skip
    rcases sh_or s with h | ⟨j, hj, rfl, -⟩
    · exact absurd h c1
    refine s_iload_n (pc' := 8) dX7_sheet_7 rfl lg2 ?_
    refine s_iconst (pc' := 9) dX7_sheet_8 rfl iconst_m1 ?_
    refine s_iconst (pc' := 10) dX7_sheet_9 rfl iconst_2 ?_
    refine c_X7_isIn  (pc' := 13) dX7_sheet_10 rfl lkX7_86 (by omega) (Nat.le_of_ble_eq_true rfl) ?_
    refine s_if_eq (pc' := 16) (tgt := 27) dX7_sheet_13 rfl (by decide) (fun c2 => ?_) (fun c2 => ?_)
    · skip
      refine s_bipush (pc' := 29) dX7_sheet_27 rfl bipush_m2 ?_
      refine s_iret dX7_sheet_29 rfl (vp_nar_int _) ?_
      exact bad _ (by rw [shtR, if_neg c1, if_pos c2]) (by decide)
    · skip
      refine s_iload_n (pc' := 17) dX7_sheet_16 rfl lg2 ?_
      refine s_iconst (pc' := 18) dX7_sheet_17 rfl iconst_m1 ?_
      refine s_icmp_eq (pc' := 21) (tgt := 30) dX7_sheet_18 rfl (by decide) (fun c3 => ?_) (fun c3 => ?_)
      · skip
        refine s_iload_n (pc' := 31) dX7_sheet_30 rfl lg2 ?_
        refine s_iconst (pc' := 32) dX7_sheet_31 rfl iconst_m1 ?_
        refine s_icmp_eq (pc' := 35) (tgt := 42) dX7_sheet_32 rfl (by decide) (fun _ => ?_) (fun c9 => absurd (c3) c9)
        refine s_aload_n (pc' := 43) dX7_sheet_42 rfl lg0 rfl ?_
        refine s_getRv (pc' := 46) (v := .ref 61) dX7_sheet_43 rfl flX7_58 ly47 (by decide) rfl rfl ?_
        refine s_iload_n (pc' := 47) dX7_sheet_46 rfl lg1 ?_
        refine s_iload_n (pc' := 48) dX7_sheet_47 rfl lg2 ?_
        refine s_iastN (pc' := 49) dX7_sheet_48 rfl ly61 (by omega) (by decide) ?_
        refine s_aload_n (pc' := 50) dX7_sheet_49 rfl lg0 rfl ?_
        refine s_getRv (pc' := 53) (v := .ref 62) dX7_sheet_50 rfl flX7_61 ly47 (by decide) rfl rfl ?_
        refine s_iload_n (pc' := 54) dX7_sheet_53 rfl lg1 ?_
        refine s_iload_n (pc' := 55) dX7_sheet_54 rfl lg2 ?_
        refine s_iconst (pc' := 56) dX7_sheet_55 rfl iconst_m1 ?_
        refine s_icmp_ne (pc' := 59) (tgt := 63) dX7_sheet_56 rfl (by decide) (fun c9 => absurd (c3) c9) (fun _ => ?_)
        refine s_iconst (pc' := 60) dX7_sheet_59 rfl iconst_0 ?_
        refine s_goto (tgt := 64) dX7_sheet_60 (by decide) ?_
        refine s_iastN (pc' := 65) dX7_sheet_64 rfl ly62 (by omega) (by decide) ?_
        exact tail j 0 _ hj (by omega) (ix_nI (by omega)) (by rw [if_pos c3]) (by rw [shtR, if_neg c1, if_neg c2, if_pos c3]) rfl
      · skip
        refine s_iload_n (pc' := 22) dX7_sheet_21 rfl lg3 ?_
        refine s_bipush (pc' := 24) dX7_sheet_22 rfl bipush_40 ?_
        refine s_icmp_le (pc' := 27) (tgt := 30) dX7_sheet_24 rfl (by decide) (fun c4 => ?_) (fun c4 => ?_)
        · skip
          refine s_iload_n (pc' := 31) dX7_sheet_30 rfl lg2 ?_
          refine s_iconst (pc' := 32) dX7_sheet_31 rfl iconst_m1 ?_
          refine s_icmp_eq (pc' := 35) (tgt := 42) dX7_sheet_32 rfl (by decide) (fun c9 => absurd c9 (c3)) (fun _ => ?_)
          refine s_iload_n (pc' := 36) dX7_sheet_35 rfl lg3 ?_
          refine s_if_ge (pc' := 39) (tgt := 42) dX7_sheet_36 rfl (by decide) (fun c5 => ?_) (fun c5 => ?_)
          · skip
            obtain ⟨y, hy, rfl⟩ := n40_or c4 c5
            refine s_aload_n (pc' := 43) dX7_sheet_42 rfl lg0 rfl ?_
            refine s_getRv (pc' := 46) (v := .ref 61) dX7_sheet_43 rfl flX7_58 ly47 (by decide) rfl rfl ?_
            refine s_iload_n (pc' := 47) dX7_sheet_46 rfl lg1 ?_
            refine s_iload_n (pc' := 48) dX7_sheet_47 rfl lg2 ?_
            refine s_iastN (pc' := 49) dX7_sheet_48 rfl ly61 (by omega) (by decide) ?_
            refine s_aload_n (pc' := 50) dX7_sheet_49 rfl lg0 rfl ?_
            refine s_getRv (pc' := 53) (v := .ref 62) dX7_sheet_50 rfl flX7_61 ly47 (by decide) rfl rfl ?_
            refine s_iload_n (pc' := 54) dX7_sheet_53 rfl lg1 ?_
            refine s_iload_n (pc' := 55) dX7_sheet_54 rfl lg2 ?_
            refine s_iconst (pc' := 56) dX7_sheet_55 rfl iconst_m1 ?_
            refine s_icmp_ne (pc' := 59) (tgt := 63) dX7_sheet_56 rfl (by decide) (fun _ => ?_) (fun c9 => absurd c9 (c3))
            refine s_iload_n (pc' := 64) dX7_sheet_63 rfl lg3 ?_
            refine s_iastN (pc' := 65) dX7_sheet_64 rfl ly62 (by omega) (by decide) ?_
            exact tail j y _ hj hy (ix_nI (by omega)) (by rw [if_neg c3, ix_nI (by omega)]) (by rw [shtR, if_neg c1, if_neg c2, if_neg c3, if_neg (fun h => h c4), if_neg (fun h => h c5)]) rfl
          · skip
            refine s_bipush (pc' := 41) dX7_sheet_39 rfl bipush_m14 ?_
            refine s_iret dX7_sheet_41 rfl (vp_nar_int _) ?_
            exact bad _ (by rw [shtR, if_neg c1, if_neg c2, if_neg c3, if_neg (fun h => h c4), if_pos c5]) (by decide)
        · skip
          refine s_bipush (pc' := 29) dX7_sheet_27 rfl bipush_m2 ?_
          refine s_iret dX7_sheet_29 rfl (vp_nar_int _) ?_
          exact bad _ (by rw [shtR, if_neg c1, if_neg c2, if_neg c3, if_pos c4]) (by decide)
theorem c_X7_sheet {z : Zz} {d kc ks : Nat} {mi : MI} {pc pc' : Nat} {L S : List Value} {Q : Option Value → Lay → Mem → Prop} {rf : Nat → Value} {tl : Lay} {mem : Mem}  {s t m : Int32} {so : Nat → Int32} {sz : Nat → Nat} {it : Nat → Nat → Int32} {idx : Nat} (hd : decode mi.2.1 pc = .ok (.invokevirtual idx, 3)) (hp : pc + 3 = pc') (hlk : Cond.methodLink mi.1.cls idx yX7_sheet ∈ wok) (hdd : 2 + 1 ≤ d) (hcat : (S.map (fun v => v.category)).sum ≤ 8) (hR : isMR mem so sz it) (K : ∀ mem', (if shtR s t m = 1 then isMR mem' (uf so (ix s) t) (uf sz (ix s) (if t = -1 then 0 else ix m)) (uf it (ix s) (fun _ => 0)) else isMR mem' so sz it) → shf mem mem' → Sim z d kc ks mi pc' L (.int (shtR s t m) :: S) (LAY rf tl) mem' Q) : Sim z d kc ks mi pc L (.int m :: .int t :: .int s :: .ref 47 :: S) (LAY rf tl) mem Q :=
  s_invV (d2 := 2) hd hp okX7_sheet hlk inX7_sheet seX7_sheet hdd (Nat.zero_add _) (Nat.zero_add _) rfl rfl ly47 rfl hcat (Nat.le_of_ble_eq_true rfl) (m_X7_sheet (Nat.le_refl _) hR K)
set_option maxHeartbeats 4000000 in
theorem m_X7_cell {z : Zz} {d : Nat} {Q : Option Value → Lay → Mem → Prop} {rf : Nat → Value} {tl : Lay} {mem : Mem}  {s i v : Int32} {so : Nat → Int32} {sz : Nat → Nat} {it : Nat → Nat → Int32} (hdd : 2 ≤ d) (hR : isMR mem so sz it) (K : ∀ mem', (if celR so sz s i = 1 then isMR mem' so sz (uf it (ix s) (upd (it (ix s)) (ix i) (cutI (so (ix s)) v))) else isMR mem' so sz it) → shf mem mem' → Q (some (.int (celR so sz s i))) (LAY rf tl) mem') : Sim z d 0 0 mX7_cell 0 [.ref 47, .int s, .int i, .int v] [] (LAY rf tl) mem Q := by
  have bad : ∀ r, celR so sz s i = r → ¬ r = 1 → Q (some (.int r)) (LAY rf tl) mem := by
    intro r hr h1
    rw [hr] at K
    exact K mem (by rw [if_neg h1]; exact hR) shf.rf
  refine s_iload_n (pc' := 1) dX7_cell_0 rfl lg1 ?_
  refine c_X7_isSheet  (pc' := 4) dX7_cell_1 rfl lkX7_245 (by omega) (Nat.le_of_ble_eq_true rfl) ?_
  refine s_if_ne (pc' := 7) (tgt := 10) dX7_cell_4 rfl (by decide) (fun c1 => ?_) (fun c1 => ?_)
  · skip
    rcases sh_or s with h | ⟨j, hj, rfl, -⟩
    · exact absurd h c1
    obtain ⟨r1, r2, r3, r4⟩ := hR j hj
    have ej : ix (nI j) = j := ix_nI (by omega)
    refine s_aload_n (pc' := 11) dX7_cell_10 rfl lg0 rfl ?_
    refine s_getRv (pc' := 14) (v := .ref 61) dX7_cell_11 rfl flX7_58 ly47 (by decide) rfl rfl ?_
    refine s_iload_n (pc' := 15) dX7_cell_14 rfl lg1 ?_
    refine s_ialdNv (pc' := 16) (v := so j) dX7_cell_15 rfl ly61 (by omega) (by decide) r1 ?_
    refine s_iconst (pc' := 17) dX7_cell_16 rfl iconst_m1 ?_
    refine s_icmp_ne (pc' := 20) (tgt := 23) dX7_cell_17 rfl (by decide) (fun c2 => ?_) (fun c2 => ?_)
    · skip
      refine s_iload_n (pc' := 24) dX7_cell_23 rfl lg2 ?_
      refine s_iconst (pc' := 25) dX7_cell_24 rfl iconst_0 ?_
      refine s_aload_n (pc' := 26) dX7_cell_25 rfl lg0 rfl ?_
      refine s_getRv (pc' := 29) (v := .ref 62) dX7_cell_26 rfl flX7_61 ly47 (by decide) rfl rfl ?_
      refine s_iload_n (pc' := 30) dX7_cell_29 rfl lg1 ?_
      refine s_ialdNv (pc' := 31) (v := nI (sz j)) dX7_cell_30 rfl ly62 (by omega) (by decide) r2 ?_
      refine s_iconst (pc' := 32) dX7_cell_31 rfl iconst_1 ?_
      refine s_isub (pc' := 33) dX7_cell_32 rfl ?_
      refine c_X7_isIn  (pc' := 36) dX7_cell_33 rfl lkX7_86 (by omega) (Nat.le_of_ble_eq_true rfl) ?_
      rw [has_in r3]
      refine s_if_ne (pc' := 39) (tgt := 42) dX7_cell_36 rfl (by decide) (fun c3 => ?_) (fun c3 => ?_)
      · skip
        rcases has_or i 1 (sz := sz j) r3 with h | ⟨a, b, rfl, eb, hab, -⟩
        · exact absurd h c3
        have hb : b = 1 ∨ b ≠ 1 := by omega
        have b1 : b = 1 := by
          have := (nI_eq (a := b) (b := 1) (by omega) (by omega)).mp eb.symm
          exact this
        have hr : celR so sz (nI j) (nI a) = 1 := by rw [celR, if_neg c1, ej, if_neg c2, if_neg c3]
        rw [hr, ej, ix_nI (by omega)] at K
        have fin : ∀ x, cutI (so j) v = x → Sim z d 0 0 mX7_cell 82 [.ref 47, .int (nI j), .int (nI a), .int v] [.int x, .int (nI (40 * j + a)), .ref 63] (LAY rf tl) mem Q := by
          intro x hx
          rw [hx] at K
          refine s_iastN (pc' := 83) dX7_cell_82 rfl ly63 (by omega) (by decide) ?_
          refine s_iconst (pc' := 84) dX7_cell_83 rfl iconst_1 ?_
          refine s_iret dX7_cell_84 rfl (vp_nar_int _) ?_
          refine K _ ?_ (fun q q1 q2 q3 q4 => upN q3)
          rw [if_pos rfl]
          intro j' hj'
          obtain ⟨s1, s2, s3, s4⟩ := hR j' hj'
          rw [upN (by decide), upN (by decide)]
          refine ⟨s1, s2, s3, fun k hk => ?_⟩
          rw [upE]
          by_cases e : j' = j
          · subst e
            rw [ufE]
            by_cases e2 : k = a
            · rw [e2, udE, udE]
            · rw [udN (by omega), udN e2]; exact s4 k hk
          · rw [ufN e, udN (by omega)]; exact s4 k hk
        refine s_aload_n (pc' := 43) dX7_cell_42 rfl lg0 rfl ?_
        refine s_getRv (pc' := 46) (v := .ref 63) dX7_cell_43 rfl flX7_64 ly47 (by decide) rfl rfl ?_
        refine s_bipush (pc' := 48) dX7_cell_46 rfl bipush_40 ?_
        refine s_iload_n (pc' := 49) dX7_cell_48 rfl lg1 ?_
        refine s_imul (pc' := 50) dX7_cell_49 rfl ?_
        refine s_iload_n (pc' := 51) dX7_cell_50 rfl lg2 ?_
        refine s_iadd (pc' := 52) dX7_cell_51 rfl ?_
        rw [mI40]
        refine s_aload_n (pc' := 53) dX7_cell_52 rfl lg0 rfl ?_
        refine s_getRv (pc' := 56) (v := .ref 61) dX7_cell_53 rfl flX7_58 ly47 (by decide) rfl rfl ?_
        refine s_iload_n (pc' := 57) dX7_cell_56 rfl lg1 ?_
        refine s_ialdNv (pc' := 58) (v := so j) dX7_cell_57 rfl ly61 (by omega) (by decide) r1 ?_
        refine s_if_ne (pc' := 61) (tgt := 66) dX7_cell_58 rfl (by decide) (fun c4 => ?_) (fun c4 => ?_)
        · skip
          refine s_aload_n (pc' := 67) dX7_cell_66 rfl lg0 rfl ?_
          refine s_getRv (pc' := 70) (v := .ref 61) dX7_cell_67 rfl flX7_58 ly47 (by decide) rfl rfl ?_
          refine s_iload_n (pc' := 71) dX7_cell_70 rfl lg1 ?_
          refine s_ialdNv (pc' := 72) (v := so j) dX7_cell_71 rfl ly61 (by omega) (by decide) r1 ?_
          refine s_iconst (pc' := 73) dX7_cell_72 rfl iconst_1 ?_
          refine s_icmp_ne (pc' := 76) (tgt := 81) dX7_cell_73 rfl (by decide) (fun c5 => ?_) (fun c5 => ?_)
          · skip
            refine s_iload_n (pc' := 82) dX7_cell_81 rfl lg3 ?_
            exact fin _ (by rw [cutI, if_neg c4, if_neg c5])
          · skip
            refine s_iload_n (pc' := 77) dX7_cell_76 rfl lg3 ?_
            refine s_i2s (pc' := 78) dX7_cell_77 rfl ?_
            refine s_goto (tgt := 82) dX7_cell_78 (by decide) ?_
            exact fin _ (by rw [cutI, if_neg c4, if_pos c5])
        · skip
          refine s_iload_n (pc' := 62) dX7_cell_61 rfl lg3 ?_
          refine s_i2b (pc' := 63) dX7_cell_62 rfl ?_
          refine s_goto (tgt := 82) dX7_cell_63 (by decide) ?_
          exact fin _ (by rw [cutI, if_pos c4])
      · skip
        refine s_bipush (pc' := 41) dX7_cell_39 rfl bipush_m12 ?_
        refine s_iret dX7_cell_41 rfl (vp_nar_int _) ?_
        exact bad _ (by rw [celR, if_neg c1, ej, if_neg c2, if_pos c3]) (by decide)
    · skip
      refine s_bipush (pc' := 22) dX7_cell_20 rfl bipush_m11 ?_
      refine s_iret dX7_cell_22 rfl (vp_nar_int _) ?_
      exact bad _ (by rw [celR, if_neg c1, ej, if_pos c2]) (by decide)
  · skip
    refine s_bipush (pc' := 9) dX7_cell_7 rfl bipush_m2 ?_
    refine s_iret dX7_cell_9 rfl (vp_nar_int _) ?_
    exact bad _ (by rw [celR, if_pos c1]) (by decide)
theorem c_X7_cell {z : Zz} {d kc ks : Nat} {mi : MI} {pc pc' : Nat} {L S : List Value} {Q : Option Value → Lay → Mem → Prop} {rf : Nat → Value} {tl : Lay} {mem : Mem}  {s i v : Int32} {so : Nat → Int32} {sz : Nat → Nat} {it : Nat → Nat → Int32} {idx : Nat} (hd : decode mi.2.1 pc = .ok (.invokevirtual idx, 3)) (hp : pc + 3 = pc') (hlk : Cond.methodLink mi.1.cls idx yX7_cell ∈ wok) (hdd : 2 + 1 ≤ d) (hcat : (S.map (fun v => v.category)).sum ≤ 8) (hR : isMR mem so sz it) (K : ∀ mem', (if celR so sz s i = 1 then isMR mem' so sz (uf it (ix s) (upd (it (ix s)) (ix i) (cutI (so (ix s)) v))) else isMR mem' so sz it) → shf mem mem' → Sim z d kc ks mi pc' L (.int (celR so sz s i) :: S) (LAY rf tl) mem' Q) : Sim z d kc ks mi pc L (.int v :: .int i :: .int s :: .ref 47 :: S) (LAY rf tl) mem Q :=
  s_invV (d2 := 2) hd hp okX7_cell hlk inX7_cell seX7_cell hdd (Nat.zero_add _) (Nat.zero_add _) rfl rfl ly47 rfl hcat (Nat.le_of_ble_eq_true rfl) (m_X7_cell (Nat.le_refl _) hR K)
theorem has_c {x y : Int32} {m : Nat} (hm : m ≤ 40) (hx : ¬ x < 0) (hy : ¬ y < 0) : (hasB x y (nI m) = 0) ↔ nI m - x < y := by
  obtain ⟨a, ha, rfl⟩ := nI_of hx
  obtain ⟨b, hb, rfl⟩ := nI_of hy
  have e : (nI m - nI a < nI b) ↔ (m : Int) - a < b := by
    rw [Int32.lt_iff_toInt_lt, Int32.toInt_sub, nI_toInt (by omega), nI_toInt (by omega), nI_toInt (by omega), Int.bmod_eq_of_le (by omega) (by omega)]
  unfold hasB
  rw [if_neg hx, if_neg hy]
  by_cases q : m < a
  · rw [if_pos (nI_lt q ha)]
    constructor
    · intro _; exact e.mpr (by omega)
    · intro _; rfl
  · rw [if_neg (nI_nlt (by omega) (by omega))]
    by_cases q2 : nI m - nI a < nI b
    · rw [if_pos q2]
      constructor
      · intro _; exact q2
      · intro _; rfl
    · rw [if_neg q2]
      constructor
      · intro c; exact absurd c (by decide)
      · intro c; exact absurd c q2
theorem has_n {x y s : Int32} (h : y < 0) : hasB x y s = 0 := by
  unfold hasB
  by_cases q : x < 0
  · rw [if_pos q]
  · rw [if_neg q, if_pos h]
set_option maxHeartbeats 4000000 in
theorem m_X7_copy {z : Zz} {d : Nat} {Q : Option Value → Lay → Mem → Prop} {rf : Nat → Value} {tl : Lay} {mem : Mem}  {s x o y m : Int32} {so : Nat → Int32} {sz : Nat → Nat} {it : Nat → Nat → Int32} (hdd : 2 ≤ d) (hR : isMR mem so sz it) (K : ∀ mem', (if 0 ≤ cpyR so sz s x o y m then isMR mem' so sz (uf it (ix o) (va_cpy (it (ix s)) (it (ix o)) (ix x) (ix y) (ix m))) else isMR mem' so sz it) → shf mem mem' → Q (some (.int (cpyR so sz s x o y m))) (LAY rf tl) mem') : Sim z d 0 0 mX7_copy 0 [.ref 47, .int s, .int x, .int o, .int y, .int m, .float 0] [] (LAY rf tl) mem Q := by
  have bad : ∀ r, cpyR so sz s x o y m = r → ¬ 0 ≤ r → Q (some (.int r)) (LAY rf tl) mem := by
    intro r hr h1
    rw [hr] at K
    exact K mem (by rw [if_neg h1]; exact hR) shf.rf
  refine s_iload_n (pc' := 1) dX7_copy_0 rfl lg1 ?_
  refine c_X7_isSheet  (pc' := 4) dX7_copy_1 rfl lkX7_245 (by omega) (Nat.le_of_ble_eq_true rfl) ?_
  refine s_if_eq (pc' := 7) (tgt := 14) dX7_copy_4 rfl (by decide) (fun c1 => ?_) (fun c1 => ?_)
  · skip
    refine s_bipush (pc' := 16) dX7_copy_14 rfl bipush_m2 ?_
    refine s_iret dX7_copy_16 rfl (vp_nar_int _) ?_
    exact bad _ (by rw [cpyR, if_pos c1]) (by decide)
  · skip
    rcases sh_or s with h | ⟨j, hj, rfl, -⟩
    · exact absurd h c1
    refine s_iload_n (pc' := 8) dX7_copy_7 rfl lg3 ?_
    refine c_X7_isSheet  (pc' := 11) dX7_copy_8 rfl lkX7_245 (by omega) (Nat.le_of_ble_eq_true rfl) ?_
    refine s_if_ne (pc' := 14) (tgt := 17) dX7_copy_11 rfl (by decide) (fun c2 => ?_) (fun c2 => ?_)
    · skip
      rcases sh_or o with h | ⟨g, hg, rfl, -⟩
      · exact absurd h c2
      have ej : ix (nI j) = j := ix_nI (by omega)
      have eg : ix (nI g) = g := ix_nI (by omega)
      obtain ⟨r1, r2, r3, r4⟩ := hR j hj
      obtain ⟨u1, u2, u3, u4⟩ := hR g hg
      refine s_aload_n (pc' := 18) dX7_copy_17 rfl lg0 rfl ?_
      refine s_getRv (pc' := 21) (v := .ref 61) dX7_copy_18 rfl flX7_58 ly47 (by decide) rfl rfl ?_
      refine s_iload_n (pc' := 22) dX7_copy_21 rfl lg1 ?_
      refine s_ialdNv (pc' := 23) (v := so j) dX7_copy_22 rfl ly61 (by omega) (by decide) r1 ?_
      refine s_iconst (pc' := 24) dX7_copy_23 rfl iconst_m1 ?_
      refine s_icmp_eq (pc' := 27) (tgt := 37) dX7_copy_24 rfl (by decide) (fun c3 => ?_) (fun c3 => ?_)
      · skip
        refine s_bipush (pc' := 39) dX7_copy_37 rfl bipush_m11 ?_
        refine s_iret dX7_copy_39 rfl (vp_nar_int _) ?_
        exact bad _ (by rw [cpyR, if_neg c1, if_neg c2, ej, if_pos c3]) (by decide)
      · skip
        refine s_aload_n (pc' := 28) dX7_copy_27 rfl lg0 rfl ?_
        refine s_getRv (pc' := 31) (v := .ref 61) dX7_copy_28 rfl flX7_58 ly47 (by decide) rfl rfl ?_
        refine s_iload_n (pc' := 32) dX7_copy_31 rfl lg3 ?_
        refine s_ialdNv (pc' := 33) (v := so g) dX7_copy_32 rfl ly61 (by omega) (by decide) u1 ?_
        refine s_iconst (pc' := 34) dX7_copy_33 rfl iconst_m1 ?_
        refine s_icmp_ne (pc' := 37) (tgt := 40) dX7_copy_34 rfl (by decide) (fun c4 => ?_) (fun c4 => ?_)
        · skip
          refine s_aload_n (pc' := 41) dX7_copy_40 rfl lg0 rfl ?_
          refine s_getRv (pc' := 44) (v := .ref 61) dX7_copy_41 rfl flX7_58 ly47 (by decide) rfl rfl ?_
          refine s_iload_n (pc' := 45) dX7_copy_44 rfl lg1 ?_
          refine s_ialdNv (pc' := 46) (v := so j) dX7_copy_45 rfl ly61 (by omega) (by decide) r1 ?_
          refine s_aload_n (pc' := 47) dX7_copy_46 rfl lg0 rfl ?_
          refine s_getRv (pc' := 50) (v := .ref 61) dX7_copy_47 rfl flX7_58 ly47 (by decide) rfl rfl ?_
          refine s_iload_n (pc' := 51) dX7_copy_50 rfl lg3 ?_
          refine s_ialdNv (pc' := 52) (v := so g) dX7_copy_51 rfl ly61 (by omega) (by decide) u1 ?_
          refine s_icmp_eq (pc' := 55) (tgt := 58) dX7_copy_52 rfl (by decide) (fun c5 => ?_) (fun c5 => ?_)
          · skip
            have b12 : (hasB x m (nI (sz j)) = 0 ∨ hasB y m (nI (sz g)) = 0) → Q (some (.int (-12))) (LAY rf tl) mem := by
              intro h
              refine bad _ ?_ (by decide)
              rw [cpyR, if_neg c1, if_neg c2, ej, eg, if_neg c3, if_neg c4, if_neg (fun h => h c5)]
              by_cases q : hasB x m (nI (sz j)) = 0
              · rw [if_pos q]
              · rw [if_neg q, if_pos (h.resolve_left q)]
            refine s_iload (pc' := 60) dX7_copy_58 rfl lg5 ?_
            refine s_if_lt (pc' := 63) (tgt := 99) dX7_copy_60 rfl (by decide) (fun c6 => ?_) (fun c6 => ?_)
            · skip
              refine s_bipush (pc' := 101) dX7_copy_99 rfl bipush_m12 ?_
              refine s_iret dX7_copy_101 rfl (vp_nar_int _) ?_
              exact b12 (Or.inl (has_n c6))
            · skip
              refine s_iload_n (pc' := 64) dX7_copy_63 rfl lg2 ?_
              refine s_if_lt (pc' := 67) (tgt := 99) dX7_copy_64 rfl (by decide) (fun c7 => ?_) (fun c7 => ?_)
              · skip
                refine s_bipush (pc' := 101) dX7_copy_99 rfl bipush_m12 ?_
                refine s_iret dX7_copy_101 rfl (vp_nar_int _) ?_
                exact b12 (Or.inl (by unfold hasB; rw [if_pos c7]))
              · skip
                refine s_iload (pc' := 69) dX7_copy_67 rfl lg4 ?_
                refine s_if_lt (pc' := 72) (tgt := 99) dX7_copy_69 rfl (by decide) (fun c8 => ?_) (fun c8 => ?_)
                · skip
                  refine s_bipush (pc' := 101) dX7_copy_99 rfl bipush_m12 ?_
                  refine s_iret dX7_copy_101 rfl (vp_nar_int _) ?_
                  exact b12 (Or.inr (by unfold hasB; rw [if_pos c8]))
                · skip
                  refine s_iload (pc' := 74) dX7_copy_72 rfl lg5 ?_
                  refine s_aload_n (pc' := 75) dX7_copy_74 rfl lg0 rfl ?_
                  refine s_getRv (pc' := 78) (v := .ref 62) dX7_copy_75 rfl flX7_61 ly47 (by decide) rfl rfl ?_
                  refine s_iload_n (pc' := 79) dX7_copy_78 rfl lg1 ?_
                  refine s_ialdNv (pc' := 80) (v := nI (sz j)) dX7_copy_79 rfl ly62 (by omega) (by decide) r2 ?_
                  refine s_iload_n (pc' := 81) dX7_copy_80 rfl lg2 ?_
                  refine s_isub (pc' := 82) dX7_copy_81 rfl ?_
                  refine s_icmp_gt (pc' := 85) (tgt := 99) dX7_copy_82 rfl (by decide) (fun c9 => ?_) (fun c9 => ?_)
                  · skip
                    refine s_bipush (pc' := 101) dX7_copy_99 rfl bipush_m12 ?_
                    refine s_iret dX7_copy_101 rfl (vp_nar_int _) ?_
                    exact b12 (Or.inl ((has_c r3 c7 c6).mpr c9))
                  · skip
                    refine s_iload (pc' := 87) dX7_copy_85 rfl lg5 ?_
                    refine s_aload_n (pc' := 88) dX7_copy_87 rfl lg0 rfl ?_
                    refine s_getRv (pc' := 91) (v := .ref 62) dX7_copy_88 rfl flX7_61 ly47 (by decide) rfl rfl ?_
                    refine s_iload_n (pc' := 92) dX7_copy_91 rfl lg3 ?_
                    refine s_ialdNv (pc' := 93) (v := nI (sz g)) dX7_copy_92 rfl ly62 (by omega) (by decide) u2 ?_
                    refine s_iload (pc' := 95) dX7_copy_93 rfl lg4 ?_
                    refine s_isub (pc' := 96) dX7_copy_95 rfl ?_
                    refine s_icmp_le (pc' := 99) (tgt := 102) dX7_copy_96 rfl (by decide) (fun c10 => ?_) (fun c10 => ?_)
                    · skip
                      have n10 : ¬ nI (sz g) - y < m := fun q => by rw [Int32.lt_iff_toInt_lt] at q; rw [Int32.le_iff_toInt_le] at c10; omega
                      have q1 : ¬ hasB x m (nI (sz j)) = 0 := fun q => c9 ((has_c r3 c7 c6).mp q)
                      have q2 : ¬ hasB y m (nI (sz g)) = 0 := fun q => n10 ((has_c u3 c8 c6).mp q)
                      rcases has_or x m (sz := sz j) r3 with h | ⟨a, c, rfl, rfl, hac, -⟩
                      · exact absurd h q1
                      rcases has_or y (nI c) (sz := sz g) u3 with h | ⟨b, c', rfl, ec', hbc, -⟩
                      · exact absurd h q2
                      have hcc : c = c' := (nI_eq (a := c) (b := c') (by omega) (by omega)).mp ec'
                      subst hcc
                      have hr : cpyR so sz (nI j) (nI a) (nI g) (nI b) (nI c) = nI c := by rw [cpyR, if_neg c1, if_neg c2, ej, eg, if_neg c3, if_neg c4, if_neg (fun h => h c5), if_neg q1, if_neg q2]
                      rw [hr, ej, eg, ix_nI (by omega), ix_nI (by omega), ix_nI (by omega)] at K
                      clear bad b12
                      refine s_iconst (pc' := 103) dX7_copy_102 rfl iconst_0 ?_
                      refine s_istore (pc' := 105) dX7_copy_103 rfl (Nat.le_of_ble_eq_true rfl) rfl ls6 ?_
                      have second : ∀ (k i : Nat) (m1 mm : Mem), i + k = c → (∀ q, q ≠ 64 → m1 q = mem q) → (∀ k, k < c → m1 64 k = it j (a + k)) → (∀ q, q ≠ 63 → mm q = m1 q) → (∀ k, mm 63 k = if 40 * g + b ≤ k ∧ k < 40 * g + b + i then it j (a + (k - (40 * g + b))) else mem 63 k) → Sim z d 0 0 mX7_copy 142 [.ref 47, .int (nI j), .int (nI a), .int (nI g), .int (nI b), .int (nI c), .int (nI i)] [] (LAY rf tl) mm Q := by
                        intro k
                        induction k with
                        | zero =>
                          intro i m1 mm hi h1 h64 hm h63
                          have : i = c := by omega
                          subst this
                          refine s_iload (pc' := 144) dX7_copy_142 rfl lg6 ?_
                          refine s_iload (pc' := 146) dX7_copy_144 rfl lg5 ?_
                          refine s_icmp_ge (pc' := 149) (tgt := 177) dX7_copy_146 rfl (by decide) (fun _ => ?_) (fun c9 => absurd (nI_le (Nat.le_refl _) (by omega)) c9)
                          refine s_iload (pc' := 179) dX7_copy_177 rfl lg5 ?_
                          refine s_iret dX7_copy_179 rfl (vp_nar_int _) ?_
                          refine K mm ?_ (fun q q1 q2 q3 q4 => by rw [hm q q3, h1 q q4])
                          rw [if_pos (nI_pos' (by omega))]
                          intro j' hj'
                          obtain ⟨s1, s2, s3, s4⟩ := hR j' hj'
                          rw [hm 61 (by decide), hm 62 (by decide), h1 61 (by decide), h1 62 (by decide)]
                          refine ⟨s1, s2, s3, fun k hk => ?_⟩
                          rw [h63]
                          by_cases e : j' = g
                          · subst e
                            rw [ufE]
                            by_cases q : b ≤ k ∧ k < b + i
                            · rw [if_pos (by omega), pk_cpy_in q.1 q.2]
                              congr 1
                              omega
                            · rw [if_neg (by omega), pk_cpy_out (by omega)]; exact s4 k hk
                          · rw [ufN e, if_neg (by omega)]; exact s4 k hk
                        | succ k ih =>
                          intro i m1 mm hi h1 h64 hm h63
                          refine s_iload (pc' := 144) dX7_copy_142 rfl lg6 ?_
                          refine s_iload (pc' := 146) dX7_copy_144 rfl lg5 ?_
                          refine s_icmp_ge (pc' := 149) (tgt := 177) dX7_copy_146 rfl (by decide) (fun c9 => absurd c9 (nI_ge (by omega) (by omega))) (fun _ => ?_)
                          refine s_aload_n (pc' := 150) dX7_copy_149 rfl lg0 rfl ?_
                          refine s_getRv (pc' := 153) (v := .ref 63) dX7_copy_150 rfl flX7_64 ly47 (by decide) rfl rfl ?_
                          refine s_bipush (pc' := 155) dX7_copy_153 rfl bipush_40 ?_
                          refine s_iload_n (pc' := 156) dX7_copy_155 rfl lg3 ?_
                          refine s_imul (pc' := 157) dX7_copy_156 rfl ?_
                          refine s_iload (pc' := 159) dX7_copy_157 rfl lg4 ?_
                          refine s_iadd (pc' := 160) dX7_copy_159 rfl ?_
                          refine s_iload (pc' := 162) dX7_copy_160 rfl lg6 ?_
                          refine s_iadd (pc' := 163) dX7_copy_162 rfl ?_
                          rw [mI40, nI_add]
                          refine s_aload_n (pc' := 164) dX7_copy_163 rfl lg0 rfl ?_
                          refine s_getRv (pc' := 167) (v := .ref 64) dX7_copy_164 rfl flX7_67 ly47 (by decide) rfl rfl ?_
                          refine s_iload (pc' := 169) dX7_copy_167 rfl lg6 ?_
                          refine s_ialdNv (pc' := 170) (v := it j (a + i)) dX7_copy_169 rfl ly64 (by omega) (by decide) (by rw [hm 64 (by decide)]; exact h64 i (by omega)) ?_
                          refine s_iastN (pc' := 171) dX7_copy_170 rfl ly63 (by omega) (by decide) ?_
                          refine s_iincN (pc' := 174) dX7_copy_171 rfl lg6 rfl ls6 ?_
                          refine s_goto (tgt := 142) dX7_copy_174 (by decide) ?_
                          refine ih (i + 1) m1 _ (by omega) h1 h64 (fun q hq => by rw [upN hq]; exact hm q hq) (fun k => ?_)
                          rw [upE]
                          by_cases e : k = 40 * g + b + i
                          · rw [e, udE, if_pos (by omega)]
                            congr 1
                            omega
                          · rw [udN e, h63]
                            by_cases q : 40 * g + b ≤ k ∧ k < 40 * g + b + i
                            · rw [if_pos q, if_pos (by omega)]
                            · rw [if_neg q, if_neg (by omega)]
                      have first : ∀ (k i : Nat) (mm : Mem), i + k = c → (∀ q, q ≠ 64 → mm q = mem q) → (∀ k, k < i → mm 64 k = it j (a + k)) → Sim z d 0 0 mX7_copy 105 [.ref 47, .int (nI j), .int (nI a), .int (nI g), .int (nI b), .int (nI c), .int (nI i)] [] (LAY rf tl) mm Q := by
                        intro k
                        induction k with
                        | zero =>
                          intro i mm hi hm h64
                          have : i = c := by omega
                          subst this
                          refine s_iload (pc' := 107) dX7_copy_105 rfl lg6 ?_
                          refine s_iload (pc' := 109) dX7_copy_107 rfl lg5 ?_
                          refine s_icmp_ge (pc' := 112) (tgt := 139) dX7_copy_109 rfl (by decide) (fun _ => ?_) (fun c9 => absurd (nI_le (Nat.le_refl _) (by omega)) c9)
                          refine s_iconst (pc' := 140) dX7_copy_139 rfl iconst_0 ?_
                          refine s_istore (pc' := 142) dX7_copy_140 rfl (Nat.le_of_ble_eq_true rfl) rfl ls6 ?_
                          exact second i 0 mm mm (by omega) hm h64 (fun _ _ => rfl) (fun k => by rw [if_neg (by omega), hm 63 (by decide)])
                        | succ k ih =>
                          intro i mm hi hm h64
                          refine s_iload (pc' := 107) dX7_copy_105 rfl lg6 ?_
                          refine s_iload (pc' := 109) dX7_copy_107 rfl lg5 ?_
                          refine s_icmp_ge (pc' := 112) (tgt := 139) dX7_copy_109 rfl (by decide) (fun c9 => absurd c9 (nI_ge (by omega) (by omega))) (fun _ => ?_)
                          refine s_aload_n (pc' := 113) dX7_copy_112 rfl lg0 rfl ?_
                          refine s_getRv (pc' := 116) (v := .ref 64) dX7_copy_113 rfl flX7_67 ly47 (by decide) rfl rfl ?_
                          refine s_iload (pc' := 118) dX7_copy_116 rfl lg6 ?_
                          refine s_aload_n (pc' := 119) dX7_copy_118 rfl lg0 rfl ?_
                          refine s_getRv (pc' := 122) (v := .ref 63) dX7_copy_119 rfl flX7_64 ly47 (by decide) rfl rfl ?_
                          refine s_bipush (pc' := 124) dX7_copy_122 rfl bipush_40 ?_
                          refine s_iload_n (pc' := 125) dX7_copy_124 rfl lg1 ?_
                          refine s_imul (pc' := 126) dX7_copy_125 rfl ?_
                          refine s_iload_n (pc' := 127) dX7_copy_126 rfl lg2 ?_
                          refine s_iadd (pc' := 128) dX7_copy_127 rfl ?_
                          refine s_iload (pc' := 130) dX7_copy_128 rfl lg6 ?_
                          refine s_iadd (pc' := 131) dX7_copy_130 rfl ?_
                          rw [mI40, nI_add]
                          refine s_ialdNv (pc' := 132) (v := it j (a + i)) dX7_copy_131 rfl ly63 (by omega) (by decide) (by rw [hm 63 (by decide), Nat.add_assoc]; exact r4 _ (by omega)) ?_
                          refine s_iastN (pc' := 133) dX7_copy_132 rfl ly64 (by omega) (by decide) ?_
                          refine s_iincN (pc' := 136) dX7_copy_133 rfl lg6 rfl ls6 ?_
                          refine s_goto (tgt := 105) dX7_copy_136 (by decide) ?_
                          refine ih (i + 1) _ (by omega) (fun q hq => by rw [upN hq]; exact hm q hq) (fun k hk => ?_)
                          rw [upE]
                          by_cases e : k = i
                          · rw [e, udE]
                          · rw [udN e]; exact h64 k (by omega)
                      exact first c 0 mem (by omega) (fun _ _ => rfl) (fun k hk => absurd hk (Nat.not_lt_zero k))
                    · skip
                      have n10 : nI (sz g) - y < m := by rw [Int32.lt_iff_toInt_lt]; rw [Int32.le_iff_toInt_le] at c10; omega
                      refine s_bipush (pc' := 101) dX7_copy_99 rfl bipush_m12 ?_
                      refine s_iret dX7_copy_101 rfl (vp_nar_int _) ?_
                      exact b12 (Or.inr ((has_c u3 c8 c6).mpr n10))
          · skip
            refine s_bipush (pc' := 57) dX7_copy_55 rfl bipush_m13 ?_
            refine s_iret dX7_copy_57 rfl (vp_nar_int _) ?_
            exact bad _ (by rw [cpyR, if_neg c1, if_neg c2, ej, eg, if_neg c3, if_neg c4, if_pos c5]) (by decide)
        · skip
          refine s_bipush (pc' := 39) dX7_copy_37 rfl bipush_m11 ?_
          refine s_iret dX7_copy_39 rfl (vp_nar_int _) ?_
          exact bad _ (by rw [cpyR, if_neg c1, if_neg c2, ej, eg, if_neg c3, if_pos c4]) (by decide)
    · skip
      refine s_bipush (pc' := 16) dX7_copy_14 rfl bipush_m2 ?_
      refine s_iret dX7_copy_16 rfl (vp_nar_int _) ?_
      exact bad _ (by rw [cpyR, if_neg c1, if_pos c2]) (by decide)
theorem c_X7_copy {z : Zz} {d kc ks : Nat} {mi : MI} {pc pc' : Nat} {L S : List Value} {Q : Option Value → Lay → Mem → Prop} {rf : Nat → Value} {tl : Lay} {mem : Mem}  {s x o y m : Int32} {so : Nat → Int32} {sz : Nat → Nat} {it : Nat → Nat → Int32} {idx : Nat} (hd : decode mi.2.1 pc = .ok (.invokevirtual idx, 3)) (hp : pc + 3 = pc') (hlk : Cond.methodLink mi.1.cls idx yX7_copy ∈ wok) (hdd : 2 + 1 ≤ d) (hcat : (S.map (fun v => v.category)).sum ≤ 8) (hR : isMR mem so sz it) (K : ∀ mem', (if 0 ≤ cpyR so sz s x o y m then isMR mem' so sz (uf it (ix o) (va_cpy (it (ix s)) (it (ix o)) (ix x) (ix y) (ix m))) else isMR mem' so sz it) → shf mem mem' → Sim z d kc ks mi pc' L (.int (cpyR so sz s x o y m) :: S) (LAY rf tl) mem' Q) : Sim z d kc ks mi pc L (.int m :: .int y :: .int o :: .int x :: .int s :: .ref 47 :: S) (LAY rf tl) mem Q :=
  s_invV (d2 := 2) hd hp okX7_copy hlk inX7_copy seX7_copy hdd (Nat.zero_add _) (Nat.zero_add _) rfl rfl ly47 rfl hcat (Nat.le_of_ble_eq_true rfl) (m_X7_copy (Nat.le_refl _) hR K)

