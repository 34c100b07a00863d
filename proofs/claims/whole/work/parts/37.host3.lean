/-! ===== copy, piece, finds ===== -/
def cpyR (so : Nat → Int32) (sz : Nat → Nat) (s i o j n : Int32) : Int32 := if shB s = 0 then -2 else if shB o = 0 then -2 else if so (ix s) = -1 then -11 else if so (ix o) = -1 then -11 else if ¬ so (ix s) = so (ix o) then -13 else if hasB i n (nI (sz (ix s))) = 0 then -12 else if hasB j n (nI (sz (ix o))) = 0 then -12 else n
def cpyF (so : Nat → Int32) (sz : Nat → Nat) (it : Nat → Nat → Int32) (s i o j n : Int32) (mem mem' : Mem) : Prop := if 0 ≤ cpyR so sz s i o j n then isR mem' (ix o) (so (ix o)) (sz (ix o)) (va_cpy (it (ix s)) (it (ix o)) (ix i) (ix j) (ix n)) ∧ (∀ q, q ≠ 40 + 2 * ix o → mem' q = mem q) else mem' = mem
set_option maxHeartbeats 4000000 in
theorem m_X6_copy {z : Zz} {d : Nat} {Q : Option Value → Lay → Mem → Prop} {rf : Nat → Value} {tl : Lay} {mem : Mem}  {s x o y m : Int32} {so : Nat → Int32} {sz : Nat → Nat} {it : Nat → Nat → Int32} (hdd : 2 ≤ d) (hRR : isRR mem so sz it) (K : ∀ mem', cpyF so sz it s x o y m mem mem' → Q (some (.int (cpyR so sz s x o y m))) (LAY rf tl) mem') : Sim z d 0 0 mX6_copy 0 [.ref 0, .int s, .int x, .int o, .int y, .int m, .float 0, .float 0] [] (LAY rf tl) mem Q := by
  have bad : ¬ 0 ≤ cpyR so sz s x o y m → Q (some (.int (cpyR so sz s x o y m))) (LAY rf tl) mem := fun h => K mem (by unfold cpyF; rw [if_neg h])
  refine s_iload_n (pc' := 1) dX6_copy_0 rfl lg1 ?_
  refine c_X6_isSheet  (pc' := 4) dX6_copy_1 rfl lkX6_146 (by omega) (Nat.le_of_ble_eq_true rfl) ?_
  refine s_if_eq (pc' := 7) (tgt := 14) dX6_copy_4 rfl (by decide) (fun c1 => ?_) (fun c1 => ?_)
  · skip
    have e : cpyR so sz s x o y m = -2 := by rw [cpyR, if_pos c1]
    rw [e] at bad
    refine s_bipush (pc' := 16) dX6_copy_14 rfl bipush_m2 ?_
    refine s_iret dX6_copy_16 rfl (vp_nar_int _) ?_
    exact bad (by decide)
  · skip
    refine s_iload_n (pc' := 8) dX6_copy_7 rfl lg3 ?_
    refine c_X6_isSheet  (pc' := 11) dX6_copy_8 rfl lkX6_146 (by omega) (Nat.le_of_ble_eq_true rfl) ?_
    refine s_if_ne (pc' := 14) (tgt := 17) dX6_copy_11 rfl (by decide) (fun c2 => ?_) (fun c2 => ?_)
    · skip
      rcases sh_or s with h | ⟨j, hj, rfl, -⟩
      · exact absurd h c1
      rcases sh_or o with h | ⟨l, hl, rfl, -⟩
      · exact absurd h c2
      have hR := hRR j hj
      have hR2 := hRR l hl
      have h40 := hR.2.2.1
      have h402 := hR2.2.2.1
      refine s_aload_n (pc' := 18) dX6_copy_17 rfl lg0 rfl ?_
      refine s_getRv (pc' := 21) (v := .ref 38) dX6_copy_18 rfl flX6_47 ly0 (by decide) rfl rfl ?_
      refine s_iload_n (pc' := 22) dX6_copy_21 rfl lg1 ?_
      refine s_aaldv (pc' := 23) (v := .ref (39 + 2 * j)) dX6_copy_22 rfl ly38 (by decide) (am_in (by omega) (by decide)) (by rw [am_cl (n := 4) hj (by decide)]; exact R38_at hj) ?_
      refine s_astore (pc' := 25) dX6_copy_23 rfl rfl (Nat.le_of_ble_eq_true rfl) rfl ls6 ?_
      refine s_aload_n (pc' := 26) dX6_copy_25 rfl lg0 rfl ?_
      refine s_getRv (pc' := 29) (v := .ref 38) dX6_copy_26 rfl flX6_47 ly0 (by decide) rfl rfl ?_
      refine s_iload_n (pc' := 30) dX6_copy_29 rfl lg3 ?_
      refine s_aaldv (pc' := 31) (v := .ref (39 + 2 * l)) dX6_copy_30 rfl ly38 (by decide) (am_in (by omega) (by decide)) (by rw [am_cl (n := 4) hl (by decide)]; exact R38_at hl) ?_
      refine s_astore (pc' := 33) dX6_copy_31 rfl rfl (Nat.le_of_ble_eq_true rfl) rfl ls7 ?_
      refine s_aload (pc' := 35) dX6_copy_33 rfl lg6 rfl ?_
      refine c_X2_isMissing  (pc' := 38) dX6_copy_35 rfl lkX6_149 (by omega) (Nat.le_of_ble_eq_true rfl) hj ?_
      rw [hR.1]
      by_cases m1 : so j = -1
      · rw [if_pos m1]
        have e : cpyR so sz (nI j) x (nI l) y m = -11 := by rw [cpyR, if_neg c1, if_neg c2, ix_nI (by omega), if_pos m1]
        rw [e] at bad
        refine s_if_ne (pc' := 41) (tgt := 49) dX6_copy_38 rfl (by decide) (fun _ => ?_) (fun c9 => absurd c9 (by decide))
        refine s_bipush (pc' := 51) dX6_copy_49 rfl bipush_m11 ?_
        refine s_iret dX6_copy_51 rfl (vp_nar_int _) ?_
        exact bad (by decide)
      rw [if_neg m1]
      refine s_if_ne (pc' := 41) (tgt := 49) dX6_copy_38 rfl (by decide) (fun c9 => absurd (by decide) c9) (fun _ => ?_)
      refine s_aload (pc' := 43) dX6_copy_41 rfl lg7 rfl ?_
      refine c_X2_isMissing  (pc' := 46) dX6_copy_43 rfl lkX6_149 (by omega) (Nat.le_of_ble_eq_true rfl) hl ?_
      rw [hR2.1]
      by_cases m2 : so l = -1
      · rw [if_pos m2]
        have e : cpyR so sz (nI j) x (nI l) y m = -11 := by rw [cpyR, if_neg c1, if_neg c2, ix_nI (by omega), if_neg m1, ix_nI (by omega), if_pos m2]
        rw [e] at bad
        refine s_if_eq (pc' := 49) (tgt := 52) dX6_copy_46 rfl (by decide) (fun c9 => absurd c9 (by decide)) (fun _ => ?_)
        refine s_bipush (pc' := 51) dX6_copy_49 rfl bipush_m11 ?_
        refine s_iret dX6_copy_51 rfl (vp_nar_int _) ?_
        exact bad (by decide)
      rw [if_neg m2]
      refine s_if_eq (pc' := 49) (tgt := 52) dX6_copy_46 rfl (by decide) (fun _ => ?_) (fun c9 => absurd (by decide) c9)
      refine s_aload (pc' := 54) dX6_copy_52 rfl lg6 rfl ?_
      refine s_getIv (pc' := 57) (v := so j) dX6_copy_54 rfl flX6_233 (lyR hj) (by decide) rfl hR.1 ?_
      refine s_aload (pc' := 59) dX6_copy_57 rfl lg7 rfl ?_
      refine s_getIv (pc' := 62) (v := so l) dX6_copy_59 rfl flX6_233 (lyR hl) (by decide) rfl hR2.1 ?_
      refine s_icmp_eq (pc' := 65) (tgt := 68) dX6_copy_62 rfl (by decide) (fun c3 => ?_) (fun c3 => ?_)
      · skip
        refine s_aload (pc' := 70) dX6_copy_68 rfl lg6 rfl ?_
        refine s_iload_n (pc' := 71) dX6_copy_70 rfl lg2 ?_
        refine s_iload (pc' := 73) dX6_copy_71 rfl lg5 ?_
        refine c_X2_has  (pc' := 76) dX6_copy_73 rfl lkX6_230 (by omega) (Nat.le_of_ble_eq_true rfl) hj ?_
        rw [hR.2.1]
        refine s_if_eq (pc' := 79) (tgt := 91) dX6_copy_76 rfl (by decide) (fun c4 => ?_) (fun c4 => ?_)
        · skip
          have e : cpyR so sz (nI j) x (nI l) y m = -12 := by rw [cpyR, if_neg c1, if_neg c2, ix_nI (by omega), if_neg m1, ix_nI (by omega), if_neg m2, if_neg (fun q => q c3), if_pos c4]
          rw [e] at bad
          refine s_bipush (pc' := 93) dX6_copy_91 rfl bipush_m12 ?_
          refine s_iret dX6_copy_93 rfl (vp_nar_int _) ?_
          exact bad (by decide)
        · skip
          refine s_aload (pc' := 81) dX6_copy_79 rfl lg7 rfl ?_
          refine s_iload (pc' := 83) dX6_copy_81 rfl lg4 ?_
          refine s_iload (pc' := 85) dX6_copy_83 rfl lg5 ?_
          refine c_X2_has  (pc' := 88) dX6_copy_85 rfl lkX6_230 (by omega) (Nat.le_of_ble_eq_true rfl) hl ?_
          rw [hR2.2.1]
          refine s_if_ne (pc' := 91) (tgt := 94) dX6_copy_88 rfl (by decide) (fun c5 => ?_) (fun c5 => ?_)
          · skip
            have e : cpyR so sz (nI j) x (nI l) y m = m := by rw [cpyR, if_neg c1, if_neg c2, ix_nI (by omega), if_neg m1, ix_nI (by omega), if_neg m2, if_neg (fun q => q c3), if_neg c4, if_neg c5]
            rw [e] at K
            unfold cpyF at K
            rw [e] at K
            rcases has_or x m h40 with h | ⟨a, b, rfl, rfl, hab, -⟩
            · exact absurd h c4
            rcases has_or y (nI b) h402 with h | ⟨a', b', rfl, hb', hab', -⟩
            · exact absurd h c5
            have hbb : b' = b := by
              have h1 : ix (nI b) = ix (nI b') := by rw [hb']
              rw [ix_nI (by omega), ix_nI (by omega)] at h1
              exact h1.symm
            subst hbb
            simp only [if_pos (nI_pos' (n := b') (by omega))] at K
            refine s_aload (pc' := 96) dX6_copy_94 rfl lg6 rfl ?_
            refine s_getRv (pc' := 99) (v := .ref (40 + 2 * j)) dX6_copy_96 rfl flX6_157 (lyR hj) (by decide) rfl rfl ?_
            refine s_iload_n (pc' := 100) dX6_copy_99 rfl lg2 ?_
            refine s_aload (pc' := 102) dX6_copy_100 rfl lg7 rfl ?_
            refine s_getRv (pc' := 105) (v := .ref (40 + 2 * l)) dX6_copy_102 rfl flX6_157 (lyR hl) (by decide) rfl rfl ?_
            refine s_iload (pc' := 107) dX6_copy_105 rfl lg4 ?_
            refine s_iload (pc' := 109) dX6_copy_107 rfl lg5 ?_
            refine s_acopy (pc' := 112) dX6_copy_109 rfl lkX6_236 kAC1 kAC2 kAC3 (lyRi hj) (lyRi hl) (nI_pos (by omega)) (nI_pos (by omega)) (nI_pos (by omega)) (by rw [nI_clamp (by omega), nI_clamp (by omega)]; omega) (by rw [nI_clamp (by omega), nI_clamp (by omega)]; omega) (by omega) (Nat.le_of_ble_eq_true rfl) ?_
            refine s_iload (pc' := 114) dX6_copy_112 rfl lg5 ?_
            refine s_iret dX6_copy_114 rfl (vp_nar_int _) ?_
            refine K _ ?_
            rw [ix_nI (by omega), ix_nI (by omega), ix_nI (by omega), ix_nI (by omega), ix_nI (by omega)]
            rw [nI_clamp (by omega), nI_clamp (by omega), nI_clamp (by omega)]
            refine ⟨⟨?_, ?_, h402, fun k hk => ?_⟩, fun q hq => if_neg hq⟩
            · rw [show am_cp mem (40 + 2 * j) (40 + 2 * l) a a' b' (39 + 2 * l) = mem (39 + 2 * l) from if_neg (by omega)]; exact hR2.1
            · rw [show am_cp mem (40 + 2 * j) (40 + 2 * l) a a' b' (39 + 2 * l) = mem (39 + 2 * l) from if_neg (by omega)]; exact hR2.2.1
            · rw [show am_cp mem (40 + 2 * j) (40 + 2 * l) a a' b' (40 + 2 * l) = va_cpy (mem (40 + 2 * j)) (mem (40 + 2 * l)) a a' b' from if_pos rfl]
              unfold va_cpy
              by_cases hr : a' ≤ k ∧ k < a' + b'
              · rw [if_pos hr, if_pos hr]; exact hR.2.2.2 _ (by omega)
              · rw [if_neg hr, if_neg hr]; exact hR2.2.2.2 _ hk
          · skip
            have e : cpyR so sz (nI j) x (nI l) y m = -12 := by rw [cpyR, if_neg c1, if_neg c2, ix_nI (by omega), if_neg m1, ix_nI (by omega), if_neg m2, if_neg (fun q => q c3), if_neg c4, if_pos c5]
            rw [e] at bad
            refine s_bipush (pc' := 93) dX6_copy_91 rfl bipush_m12 ?_
            refine s_iret dX6_copy_93 rfl (vp_nar_int _) ?_
            exact bad (by decide)
      · skip
        have e : cpyR so sz (nI j) x (nI l) y m = -13 := by rw [cpyR, if_neg c1, if_neg c2, ix_nI (by omega), if_neg m1, ix_nI (by omega), if_neg m2, if_pos c3]
        rw [e] at bad
        refine s_bipush (pc' := 67) dX6_copy_65 rfl bipush_m13 ?_
        refine s_iret dX6_copy_67 rfl (vp_nar_int _) ?_
        exact bad (by decide)
    · skip
      have e : cpyR so sz s x o y m = -2 := by rw [cpyR, if_neg c1, if_pos c2]
      rw [e] at bad
      refine s_bipush (pc' := 16) dX6_copy_14 rfl bipush_m2 ?_
      refine s_iret dX6_copy_16 rfl (vp_nar_int _) ?_
      exact bad (by decide)
theorem c_X6_copy {z : Zz} {d kc ks : Nat} {mi : MI} {pc pc' : Nat} {L S : List Value} {Q : Option Value → Lay → Mem → Prop} {rf : Nat → Value} {tl : Lay} {mem : Mem}  {s x o y m : Int32} {so : Nat → Int32} {sz : Nat → Nat} {it : Nat → Nat → Int32} {idx : Nat} (hd : decode mi.2.1 pc = .ok (.invokevirtual idx, 3)) (hp : pc + 3 = pc') (hlk : Cond.methodLink mi.1.cls idx yX6_copy ∈ wok) (hdd : 2 + 1 ≤ d) (hcat : (S.map (fun v => v.category)).sum ≤ 8) (hRR : isRR mem so sz it) (K : ∀ mem', cpyF so sz it s x o y m mem mem' → Sim z d kc ks mi pc' L (.int (cpyR so sz s x o y m) :: S) (LAY rf tl) mem' Q) : Sim z d kc ks mi pc L (.int m :: .int y :: .int o :: .int x :: .int s :: .ref 0 :: S) (LAY rf tl) mem Q :=
  s_invV (d2 := 2) hd hp okX6_copy hlk inX6_copy seX6_copy hdd (Nat.zero_add _) (Nat.zero_add _) rfl rfl ly0 rfl hcat (Nat.le_of_ble_eq_true rfl) (m_X6_copy (Nat.le_refl _) hRR K)
def adS (σ : Nat → Nat → Int32) (n : Nat) (k nu sh wh : Int32) : Nat → Nat → Int32 := if adBad k nu sh wh then σ else if n < 8 then u2 (u2 (u2 (u2 (u2 σ 0 n k) 1 n nu) 2 n sh) 4 n (wh / 100)) 3 n (wh - wh / 100 * 100) else σ
def adN (n : Nat) (k nu sh wh : Int32) : Nat := if adBad k nu sh wh then n else if n < 8 then n + 1 else n
theorem adN_le {n : Nat} {k nu sh wh : Int32} (h : n ≤ 8) : adN n k nu sh wh ≤ 8 := by
  unfold adN
  split
  · exact h
  · split <;> omega
theorem isS.ad {b : Nat} {mem : Mem} {σ : Nat → Nat → Int32} {n : Nat} {td ru k nu sh wh : Int32} (h : isS b mem σ n td ru) : isS b (adM b n mem k nu sh wh) (adS σ n k nu sh wh) (adN n k nu sh wh) td ru := by
  unfold adM adS adN
  by_cases h1 : adBad k nu sh wh = true
  · rw [if_pos h1, if_pos h1, if_pos h1]; exact h
  rw [if_neg h1, if_neg h1, if_neg h1]
  by_cases h2 : n < 8
  · rw [if_pos h2, if_pos h2, if_pos h2]
    obtain ⟨q1, q2, q3, q4, q5⟩ := h
    refine ⟨by simp [am_up, upd], by omega, by simp [am_up, upd]; exact q3, by simp [am_up, upd]; exact q4, fun i hi => ?_⟩
    by_cases hin : i = n
    · subst hin; simp [am_up, upd, u2]
    · obtain ⟨a0, a1, a2, a3, a4⟩ := q5 i (by omega)
      simp [am_up, upd, u2, hin, a0, a1, a2, a3, a4]
  · rw [if_neg h2, if_neg h2, if_neg h2]; exact h
theorem ad_frm {b n : Nat} {mem : Mem} {k nu sh wh : Int32} (j : Nat) (h : j < b ∨ b + 5 < j) : adM b n mem k nu sh wh j = mem j := by
  unfold adM
  split
  · rfl
  · split
    · simp only [am_up]
      rw [if_neg (by omega), if_neg (by omega), if_neg (by omega), if_neg (by omega), if_neg (by omega), if_neg (by omega)]
    · rfl
def nwf (mem mem' : Mem) : Prop := ∀ j, j < 10 ∨ 15 < j → mem' j = mem j
set_option maxHeartbeats 4000000 in
theorem m_X6_piece {z : Zz} {d : Nat} {Q : Option Value → Lay → Mem → Prop} {rf : Nat → Value} {tl : Lay} {mem : Mem}  {n : Nat} {σ : Nat → Nat → Int32} {td ru k nu sh wh : Int32} (hdd : 2 ≤ d) (hS : isS 10 mem σ n td ru) (K : ∀ mem', isS 10 mem' (adS σ n k nu sh wh) (adN n k nu sh wh) td ru → nwf mem mem' → Q (some (.int (adR n k nu sh wh))) (LAY rf tl) mem') : Sim z d 0 0 mX6_piece 0 [.ref 0, .int k, .int nu, .int sh, .int wh] [] (LAY rf tl) mem Q := by
  refine s_aload_n (pc' := 1) dX6_piece_0 rfl lg0 rfl ?_
  refine s_getRv (pc' := 4) (v := .ref 10) dX6_piece_1 rfl flX6_28 ly0 (by decide) rfl rfl ?_
  refine s_iload_n (pc' := 5) dX6_piece_4 rfl lg1 ?_
  refine s_iload_n (pc' := 6) dX6_piece_5 rfl lg2 ?_
  refine s_iload_n (pc' := 7) dX6_piece_6 rfl lg3 ?_
  refine s_iload (pc' := 9) dX6_piece_7 rfl lg4 ?_
  refine c_X3_adds (b := 10) (pc' := 12) dX6_piece_9 rfl lkX6_76 (by omega) (Nat.le_of_ble_eq_true rfl) (Or.inl rfl) hS.1 hS.2.1 ?_
  refine s_iret dX6_piece_12 rfl (vp_nar_int _) ?_
  exact K _ hS.ad (fun j hj => ad_frm j hj)
theorem c_X6_piece {z : Zz} {d kc ks : Nat} {mi : MI} {pc pc' : Nat} {L S : List Value} {Q : Option Value → Lay → Mem → Prop} {rf : Nat → Value} {tl : Lay} {mem : Mem}  {n : Nat} {σ : Nat → Nat → Int32} {td ru k nu sh wh : Int32} {idx : Nat} (hd : decode mi.2.1 pc = .ok (.invokevirtual idx, 3)) (hp : pc + 3 = pc') (hlk : Cond.methodLink mi.1.cls idx yX6_piece ∈ wok) (hdd : 2 + 1 ≤ d) (hcat : (S.map (fun v => v.category)).sum ≤ 8) (hS : isS 10 mem σ n td ru) (K : ∀ mem', isS 10 mem' (adS σ n k nu sh wh) (adN n k nu sh wh) td ru → nwf mem mem' → Sim z d kc ks mi pc' L (.int (adR n k nu sh wh) :: S) (LAY rf tl) mem' Q) : Sim z d kc ks mi pc L (.int wh :: .int sh :: .int nu :: .int k :: .ref 0 :: S) (LAY rf tl) mem Q :=
  s_invV (d2 := 2) hd hp okX6_piece hlk inX6_piece seX6_piece hdd (Nat.zero_add _) (Nat.zero_add _) rfl rfl ly0 rfl hcat (Nat.le_of_ble_eq_true rfl) (m_X6_piece (Nat.le_refl _) hS K)

