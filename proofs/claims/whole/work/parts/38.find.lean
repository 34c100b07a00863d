/-! ===== finds ===== -/
def fS (it : Nat → Int32) (x : Int32) (σ : Nat → Nat → Int32) (n : Nat) : Nat → (Nat → Nat → Int32) × Nat × Nat
  | 0 => (σ, n, 0)
  | i + 1 => (adS (fS it x σ n i).1 (fS it x σ n i).2.1 (it (ix (x + nI (4 * i)))) (it (ix (x + nI (4 * i)) + 1)) (it (ix (x + nI (4 * i)) + 2)) (it (ix (x + nI (4 * i)) + 3)), adN (fS it x σ n i).2.1 (it (ix (x + nI (4 * i)))) (it (ix (x + nI (4 * i)) + 1)) (it (ix (x + nI (4 * i)) + 2)) (it (ix (x + nI (4 * i)) + 3)), (fS it x σ n i).2.2 + (if adR (fS it x σ n i).2.1 (it (ix (x + nI (4 * i)))) (it (ix (x + nI (4 * i)) + 1)) (it (ix (x + nI (4 * i)) + 2)) (it (ix (x + nI (4 * i)) + 3)) < 0 then 0 else 1))
theorem fS_succ {it : Nat → Int32} {x : Int32} {σ : Nat → Nat → Int32} {n i : Nat} : fS it x σ n (i + 1) = (adS (fS it x σ n i).1 (fS it x σ n i).2.1 (it (ix (x + nI (4 * i)))) (it (ix (x + nI (4 * i)) + 1)) (it (ix (x + nI (4 * i)) + 2)) (it (ix (x + nI (4 * i)) + 3)), adN (fS it x σ n i).2.1 (it (ix (x + nI (4 * i)))) (it (ix (x + nI (4 * i)) + 1)) (it (ix (x + nI (4 * i)) + 2)) (it (ix (x + nI (4 * i)) + 3)), (fS it x σ n i).2.2 + (if adR (fS it x σ n i).2.1 (it (ix (x + nI (4 * i)))) (it (ix (x + nI (4 * i)) + 1)) (it (ix (x + nI (4 * i)) + 2)) (it (ix (x + nI (4 * i)) + 3)) < 0 then 0 else 1)) := rfl
/-- how many are looked at -/
def fM (x : Int32) (sz m : Nat) : Nat := fk (fun i => decide (hasB (x + nI (4 * i)) 4 (nI sz) = 0)) m
def fndE (so : Nat → Int32) (s t m : Int32) : Int32 := if shB s = 0 then -2 else if inB t 0 2 = 0 then -2 else if inB m 0 8 = 0 then -2 else if so (ix s) = -1 then -11 else if ¬ so (ix s) = t then -13 else 0
def fndN (so : Nat → Int32) (sz : Nat → Nat) (s t x m : Int32) : Nat := if fndE so s t m = 0 then fM x (sz (ix s)) (ix m) else 0
def fndR (so : Nat → Int32) (sz : Nat → Nat) (it : Nat → Nat → Int32) (σ : Nat → Nat → Int32) (n : Nat) (s t x m : Int32) : Int32 := if fndE so s t m = 0 then (if fM x (sz (ix s)) (ix m) < ix m then -12 else nI (fS (it (ix s)) x σ n (ix m)).2.2) else fndE so s t m
theorem nI_4 (x : Int32) (i : Nat) : x + nI (4 * i) + 4 = x + nI (4 * (i + 1)) := by
  rw [Int32.add_assoc, show (4 : Int32) = nI 4 from by decide, nI_add]
  congr 2
set_option maxHeartbeats 4000000 in
theorem m_X6_finds {z : Zz} {d : Nat} {Q : Option Value → Lay → Mem → Prop} {rf : Nat → Value} {tl : Lay} {mem : Mem}  {n : Nat} {σ : Nat → Nat → Int32} {td ru s t x m : Int32} {so : Nat → Int32} {sz : Nat → Nat} {it : Nat → Nat → Int32} (hdd : 2 ≤ d) (hS : isS 10 mem σ n td ru) (hRR : isRR mem so sz it) (K : ∀ mem', isS 10 mem' (fS (it (ix s)) x σ n (fndN so sz s t x m)).1 (fS (it (ix s)) x σ n (fndN so sz s t x m)).2.1 td ru → nwf mem mem' → Q (some (.int (fndR so sz it σ n s t x m))) (LAY rf tl) mem') : Sim z d 0 0 mX6_finds 0 [.ref 0, .int s, .int t, .int x, .int m, .float 0, .float 0, .float 0, .float 0] [] (LAY rf tl) mem Q := by
  have bad : ¬ fndE so s t m = 0 → Q (some (.int (fndE so s t m))) (LAY rf tl) mem := by
    intro h
    have h1 : fndN so sz s t x m = 0 := by rw [fndN, if_neg h]
    have h2 : fndR so sz it σ n s t x m = fndE so s t m := by rw [fndR, if_neg h]
    rw [h1, h2] at K
    exact K mem hS (fun _ _ => rfl)
  have tail : ∀ j c, j < 4 → c ≤ 8 → s = nI j → m = nI c → fndE so (nI j) t (nI c) = 0 → Sim z d 0 0 mX6_finds 61 [.ref 0, .int (nI j), .int t, .int x, .int (nI c), .ref (39 + 2 * j), .float 0, .float 0, .float 0] [] (LAY rf tl) mem Q := by
    intro j c hj hc e1 e2 e0
    subst e1; subst e2
    have hR := hRR j hj
    have h40 := hR.2.2.1
    rw [fndN, if_pos e0, fndR, if_pos e0, ix_nI (by omega), ix_nI (by omega)] at K
    refine s_iconst (pc' := 62) dX6_finds_61 rfl iconst_0 ?_
    refine s_istore (pc' := 64) dX6_finds_62 rfl (Nat.le_of_ble_eq_true rfl) rfl ls6 ?_
    refine s_iload_n (pc' := 65) dX6_finds_64 rfl lg3 ?_
    refine s_istore (pc' := 67) dX6_finds_65 rfl (Nat.le_of_ble_eq_true rfl) rfl ls7 ?_
    refine s_iconst (pc' := 68) dX6_finds_67 rfl iconst_0 ?_
    refine s_istore (pc' := 70) dX6_finds_68 rfl (Nat.le_of_ble_eq_true rfl) rfl ls8 ?_
    have loop : ∀ (k i : Nat) (mm : Mem), i + k = c → isS 10 mm (fS (it j) x σ n i).1 (fS (it j) x σ n i).2.1 td ru → nwf mem mm → (∀ q, q < i → decide (hasB (x + nI (4 * q)) 4 (nI (sz j)) = 0) = false) → Sim z d 0 0 mX6_finds 70 [.ref 0, .int (nI j), .int t, .int x, .int (nI c), .ref (39 + 2 * j), .int (nI (fS (it j) x σ n i).2.2), .int (x + nI (4 * i)), .int (nI i)] [] (LAY rf tl) mm Q := by
      intro k
      induction k with
      | zero =>
        intro i mm hi hSm hm hno
        have : i = c := by omega
        subst this
        rw [fM, fk_none hno, if_neg (by omega)] at K
        refine s_iload (pc' := 72) dX6_finds_70 rfl lg8 ?_
        refine s_iload (pc' := 74) dX6_finds_72 rfl lg4 ?_
        refine s_icmp_ge (pc' := 77) (tgt := 151) dX6_finds_74 rfl (by decide) (fun _ => ?_) (fun c9 => absurd (nI_le (Nat.le_refl _) (by omega)) c9)
        refine s_iload (pc' := 153) dX6_finds_151 rfl lg6 ?_
        refine s_iret dX6_finds_153 rfl (vp_nar_int _) ?_
        exact K mm hSm hm
      | succ k ih =>
        intro i mm hi hSm hm hno
        have hsz : mm (39 + 2 * j) 2 = nI (sz j) := by rw [hm _ (by omega)]; exact hR.2.1
        have hit : ∀ q, q < sz j → mm (40 + 2 * j) q = it j q := fun q hq => by rw [hm _ (by omega)]; exact hR.2.2.2 q hq
        refine s_iload (pc' := 72) dX6_finds_70 rfl lg8 ?_
        refine s_iload (pc' := 74) dX6_finds_72 rfl lg4 ?_
        refine s_icmp_ge (pc' := 77) (tgt := 151) dX6_finds_74 rfl (by decide) (fun c9 => absurd c9 (nI_ge (by omega) (by omega))) (fun _ => ?_)
        refine s_aload (pc' := 79) dX6_finds_77 rfl lg5 rfl ?_
        refine s_iload (pc' := 81) dX6_finds_79 rfl lg7 ?_
        refine s_iconst (pc' := 82) dX6_finds_81 rfl iconst_4 ?_
        refine c_X2_has  (pc' := 85) dX6_finds_82 rfl lkX6_230 (by omega) (Nat.le_of_ble_eq_true rfl) hj ?_
        rw [hsz]
        refine s_if_ne (pc' := 88) (tgt := 91) dX6_finds_85 rfl (by decide) (fun c1 => ?_) (fun c1 => ?_)
        · skip
          rcases has_or (x + nI (4 * i)) 4 h40 with h | ⟨a, b, ea, hb1, hab, -⟩
          · exact absurd h c1
          have hb2 : b = 4 := by
            have h1 : ix 4 = ix (nI b) := by rw [hb1]
            rw [ix_nI (by omega)] at h1
            exact h1.symm.trans (by decide)
          subst hb2
          have ih2 := ih (i + 1) _ (by omega) (by rw [fS_succ]; exact hSm.ad) (fun q hq => (ad_frm q hq).trans (hm q hq)) (fun q hq => by
            rcases Nat.lt_or_ge q i with q1 | q1
            · exact hno q q1
            · have : q = i := by omega
              rw [this]; exact decide_eq_false c1)
          rw [fS_succ, ← nI_4, ea, ix_nI (by omega)] at ih2
          rw [ea]
          refine s_aload_n (pc' := 92) dX6_finds_91 rfl lg0 rfl ?_
          refine s_getRv (pc' := 95) (v := .ref 10) dX6_finds_92 rfl flX6_28 ly0 (by decide) rfl rfl ?_
          refine s_aload (pc' := 97) dX6_finds_95 rfl lg5 rfl ?_
          refine s_getRv (pc' := 100) (v := .ref (40 + 2 * j)) dX6_finds_97 rfl flX6_157 (lyR hj) (by decide) rfl rfl ?_
          refine s_iload (pc' := 102) dX6_finds_100 rfl lg7 ?_
          refine s_ialdNv (pc' := 103) (v := it j a) dX6_finds_102 rfl (lyRi hj) (by omega) (by decide) (hit a (by omega)) ?_
          refine s_aload (pc' := 105) dX6_finds_103 rfl lg5 rfl ?_
          refine s_getRv (pc' := 108) (v := .ref (40 + 2 * j)) dX6_finds_105 rfl flX6_157 (lyR hj) (by decide) rfl rfl ?_
          refine s_iload (pc' := 110) dX6_finds_108 rfl lg7 ?_
          refine s_iconst (pc' := 111) dX6_finds_110 rfl iconst_1 ?_
          refine s_iadd (pc' := 112) dX6_finds_111 rfl ?_
          rw [nI_1]
          refine s_ialdNv (pc' := 113) (v := it j (a + 1)) dX6_finds_112 rfl (lyRi hj) (by omega) (by decide) (hit _ (by omega)) ?_
          refine s_aload (pc' := 115) dX6_finds_113 rfl lg5 rfl ?_
          refine s_getRv (pc' := 118) (v := .ref (40 + 2 * j)) dX6_finds_115 rfl flX6_157 (lyR hj) (by decide) rfl rfl ?_
          refine s_iload (pc' := 120) dX6_finds_118 rfl lg7 ?_
          refine s_iconst (pc' := 121) dX6_finds_120 rfl iconst_2 ?_
          refine s_iadd (pc' := 122) dX6_finds_121 rfl ?_
          rw [show nI a + 2 = nI (a + 2) from nI_add a 2]
          refine s_ialdNv (pc' := 123) (v := it j (a + 2)) dX6_finds_122 rfl (lyRi hj) (by omega) (by decide) (hit _ (by omega)) ?_
          refine s_aload (pc' := 125) dX6_finds_123 rfl lg5 rfl ?_
          refine s_getRv (pc' := 128) (v := .ref (40 + 2 * j)) dX6_finds_125 rfl flX6_157 (lyR hj) (by decide) rfl rfl ?_
          refine s_iload (pc' := 130) dX6_finds_128 rfl lg7 ?_
          refine s_iconst (pc' := 131) dX6_finds_130 rfl iconst_3 ?_
          refine s_iadd (pc' := 132) dX6_finds_131 rfl ?_
          rw [show nI a + 3 = nI (a + 3) from nI_add a 3]
          refine s_ialdNv (pc' := 133) (v := it j (a + 3)) dX6_finds_132 rfl (lyRi hj) (by omega) (by decide) (hit _ (by omega)) ?_
          refine c_X3_adds (b := 10) (pc' := 136) dX6_finds_133 rfl lkX6_76 (by omega) (Nat.le_of_ble_eq_true rfl) (Or.inl rfl) hSm.1 hSm.2.1 ?_
          refine s_if_lt (pc' := 139) (tgt := 142) dX6_finds_136 rfl (by decide) (fun c2 => ?_) (fun c2 => ?_)
          · skip
            rw [if_pos c2] at ih2
            refine s_iinc (pc' := 145) (v := nI a + 4) dX6_finds_142 rfl lg7 rfl rfl ls7 ?_
            refine s_iincN (pc' := 148) dX6_finds_145 rfl lg8 rfl ls8 ?_
            refine s_goto (tgt := 70) dX6_finds_148 (by decide) ?_
            exact ih2
          · skip
            rw [if_neg c2] at ih2
            refine s_iincN (pc' := 142) dX6_finds_139 rfl lg6 rfl ls6 ?_
            refine s_iinc (pc' := 145) (v := nI a + 4) dX6_finds_142 rfl lg7 rfl rfl ls7 ?_
            refine s_iincN (pc' := 148) dX6_finds_145 rfl lg8 rfl ls8 ?_
            refine s_goto (tgt := 70) dX6_finds_148 (by decide) ?_
            exact ih2
        · skip
          have e := fk_at (m := c) hno (decide_eq_true c1) (by omega)
          rw [fM, e, if_pos (by omega)] at K
          refine s_bipush (pc' := 90) dX6_finds_88 rfl bipush_m12 ?_
          refine s_iret dX6_finds_90 rfl (vp_nar_int _) ?_
          exact K mm hSm hm
    have l0 := loop c 0 mem (by omega) hS (fun _ _ => rfl) (fun q hq => absurd hq (Nat.not_lt_zero q))
    rw [show x + nI (4 * 0) = x from td_0 x] at l0
    exact l0
  refine s_iload_n (pc' := 1) dX6_finds_0 rfl lg1 ?_
  refine c_X6_isSheet  (pc' := 4) dX6_finds_1 rfl lkX6_146 (by omega) (Nat.le_of_ble_eq_true rfl) ?_
  refine s_if_eq (pc' := 7) (tgt := 27) dX6_finds_4 rfl (by decide) (fun c1 => ?_) (fun c1 => ?_)
  · skip
    have e : fndE so s t m = -2 := by rw [fndE, if_pos c1]
    rw [e] at bad
    refine s_bipush (pc' := 29) dX6_finds_27 rfl bipush_m2 ?_
    refine s_iret dX6_finds_29 rfl (vp_nar_int _) ?_
    exact bad (by decide)
  · skip
    refine s_iload_n (pc' := 8) dX6_finds_7 rfl lg2 ?_
    refine s_iconst (pc' := 9) dX6_finds_8 rfl iconst_0 ?_
    refine s_iconst (pc' := 10) dX6_finds_9 rfl iconst_2 ?_
    refine c_X6_isIn  (pc' := 13) dX6_finds_10 rfl lkX6_56 (by omega) (Nat.le_of_ble_eq_true rfl) ?_
    refine s_if_eq (pc' := 16) (tgt := 27) dX6_finds_13 rfl (by decide) (fun c2 => ?_) (fun c2 => ?_)
    · skip
      have e : fndE so s t m = -2 := by rw [fndE, if_neg c1, if_pos c2]
      rw [e] at bad
      refine s_bipush (pc' := 29) dX6_finds_27 rfl bipush_m2 ?_
      refine s_iret dX6_finds_29 rfl (vp_nar_int _) ?_
      exact bad (by decide)
    · skip
      refine s_iload (pc' := 18) dX6_finds_16 rfl lg4 ?_
      refine s_iconst (pc' := 19) dX6_finds_18 rfl iconst_0 ?_
      refine s_bipush (pc' := 21) dX6_finds_19 rfl bipush_8 ?_
      refine c_X6_isIn  (pc' := 24) dX6_finds_21 rfl lkX6_56 (by omega) (Nat.le_of_ble_eq_true rfl) ?_
      refine s_if_ne (pc' := 27) (tgt := 30) dX6_finds_24 rfl (by decide) (fun c3 => ?_) (fun c3 => ?_)
      · skip
        rcases sh_or s with h | ⟨j, hj, rfl, -⟩
        · exact absurd h c1
        rcases in_or m (lo := 0) (hi := 8) rfl (m := 8) rfl (by omega) with q | ⟨c, hc, rfl, -⟩
        · exact absurd q c3
        have hR := hRR j hj
        refine s_aload_n (pc' := 31) dX6_finds_30 rfl lg0 rfl ?_
        refine s_getRv (pc' := 34) (v := .ref 38) dX6_finds_31 rfl flX6_47 ly0 (by decide) rfl rfl ?_
        refine s_iload_n (pc' := 35) dX6_finds_34 rfl lg1 ?_
        refine s_aaldv (pc' := 36) (v := .ref (39 + 2 * j)) dX6_finds_35 rfl ly38 (by decide) (am_in (by omega) (by decide)) (by rw [am_cl (n := 4) hj (by decide)]; exact R38_at hj) ?_
        refine s_astore (pc' := 38) dX6_finds_36 rfl rfl (Nat.le_of_ble_eq_true rfl) rfl ls5 ?_
        refine s_aload (pc' := 40) dX6_finds_38 rfl lg5 rfl ?_
        refine c_X2_isMissing  (pc' := 43) dX6_finds_40 rfl lkX6_149 (by omega) (Nat.le_of_ble_eq_true rfl) hj ?_
        rw [hR.1]
        by_cases m1 : so j = -1
        · rw [if_pos m1]
          have e : fndE so (nI j) t (nI c) = -11 := by rw [fndE, if_neg c1, if_neg c2, if_neg c3, ix_nI (by omega), if_pos m1]
          rw [e] at bad
          refine s_if_eq (pc' := 46) (tgt := 49) dX6_finds_43 rfl (by decide) (fun c9 => absurd c9 (by decide)) (fun _ => ?_)
          refine s_bipush (pc' := 48) dX6_finds_46 rfl bipush_m11 ?_
          refine s_iret dX6_finds_48 rfl (vp_nar_int _) ?_
          exact bad (by decide)
        rw [if_neg m1]
        refine s_if_eq (pc' := 46) (tgt := 49) dX6_finds_43 rfl (by decide) (fun _ => ?_) (fun c9 => absurd (by decide) c9)
        refine s_aload (pc' := 51) dX6_finds_49 rfl lg5 rfl ?_
        refine s_getIv (pc' := 54) (v := so j) dX6_finds_51 rfl flX6_233 (lyR hj) (by decide) rfl hR.1 ?_
        refine s_iload_n (pc' := 55) dX6_finds_54 rfl lg2 ?_
        refine s_icmp_eq (pc' := 58) (tgt := 61) dX6_finds_55 rfl (by decide) (fun c4 => ?_) (fun c4 => ?_)
        · have e : fndE so (nI j) t (nI c) = 0 := by rw [fndE, if_neg c1, if_neg c2, if_neg c3, ix_nI (by omega), if_neg m1, if_neg (fun q => q c4)]
          exact tail j c hj hc rfl rfl e
        · skip
          have e : fndE so (nI j) t (nI c) = -13 := by rw [fndE, if_neg c1, if_neg c2, if_neg c3, ix_nI (by omega), if_neg m1, if_pos c4]
          rw [e] at bad
          refine s_bipush (pc' := 60) dX6_finds_58 rfl bipush_m13 ?_
          refine s_iret dX6_finds_60 rfl (vp_nar_int _) ?_
          exact bad (by decide)
      · skip
        have e : fndE so s t m = -2 := by rw [fndE, if_neg c1, if_neg c2, if_pos c3]
        rw [e] at bad
        refine s_bipush (pc' := 29) dX6_finds_27 rfl bipush_m2 ?_
        refine s_iret dX6_finds_29 rfl (vp_nar_int _) ?_
        exact bad (by decide)
theorem c_X6_finds {z : Zz} {d kc ks : Nat} {mi : MI} {pc pc' : Nat} {L S : List Value} {Q : Option Value → Lay → Mem → Prop} {rf : Nat → Value} {tl : Lay} {mem : Mem}  {n : Nat} {σ : Nat → Nat → Int32} {td ru s t x m : Int32} {so : Nat → Int32} {sz : Nat → Nat} {it : Nat → Nat → Int32} {idx : Nat} (hd : decode mi.2.1 pc = .ok (.invokevirtual idx, 3)) (hp : pc + 3 = pc') (hlk : Cond.methodLink mi.1.cls idx yX6_finds ∈ wok) (hdd : 2 + 1 ≤ d) (hcat : (S.map (fun v => v.category)).sum ≤ 8) (hS : isS 10 mem σ n td ru) (hRR : isRR mem so sz it) (K : ∀ mem', isS 10 mem' (fS (it (ix s)) x σ n (fndN so sz s t x m)).1 (fS (it (ix s)) x σ n (fndN so sz s t x m)).2.1 td ru → nwf mem mem' → Sim z d kc ks mi pc' L (.int (fndR so sz it σ n s t x m) :: S) (LAY rf tl) mem' Q) : Sim z d kc ks mi pc L (.int m :: .int x :: .int t :: .int s :: .ref 0 :: S) (LAY rf tl) mem Q :=
  s_invV (d2 := 2) hd hp okX6_finds hlk inX6_finds seX6_finds hdd (Nat.zero_add _) (Nat.zero_add _) rfl rfl ly0 rfl hcat (Nat.le_of_ble_eq_true rfl) (m_X6_finds (Nat.le_refl _) hS hRR K)

