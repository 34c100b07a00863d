/-! ===== the Model: finds, film, drawn ===== -/
theorem sub4 {x : Int32} {a m : Nat} (hm : m ≤ 40) (ha : a < 2 ^ 31) (hx : x = nI a) : (x ≤ nI m - 4) ↔ a + 4 ≤ m := by
  rw [hx, Int32.le_iff_toInt_le, Int32.toInt_sub, nI_toInt (by omega), nI_toInt (by omega), show (4 : Int32).toInt = 4 from by decide, Int.bmod_eq_of_le (by omega) (by omega)]
  omega
theorem has4 {a m : Nat} (hm : m ≤ 40) (ha : a < 2 ^ 31) : (hasB (nI a) 4 (nI m) = 0) ↔ ¬ a + 4 ≤ m := by
  rw [has_c hm (nI_pos ha) (by decide), Int32.lt_iff_toInt_lt, Int32.toInt_sub, nI_toInt (by omega), nI_toInt (by omega), show (4 : Int32).toInt = 4 from by decide, Int.bmod_eq_of_le (by omega) (by omega)]
  omega
set_option maxHeartbeats 4000000 in
theorem m_X7_finds {z : Zz} {d : Nat} {Q : Option Value → Lay → Mem → Prop} {rf : Nat → Value} {tl : Lay} {mem : Mem}  {n : Nat} {σ : Nat → Nat → Int32} {td ru s t x m : Int32} {so : Nat → Int32} {sz : Nat → Nat} {it : Nat → Nat → Int32} (hdd : 2 ≤ d) (hM : isM 48 mem σ n td ru) (hR : isMR mem so sz it) (K : ∀ mem', isM 48 mem' (fS (it (ix s)) x σ n (fndN so sz s t x m)).1 (fS (it (ix s)) x σ n (fndN so sz s t x m)).2.1 td ru → (∀ j, j ≠ 48 → mem' j = mem j) → Q (some (.int (fndR so sz it σ n s t x m))) (LAY rf tl) mem') : Sim z d 0 0 mX7_finds 0 [.ref 47, .int s, .int t, .int x, .int m, .float 0, .float 0, .float 0, .float 0] [] (LAY rf tl) mem Q := by
  have bad : ∀ r, fndE so s t m = r → ¬ r = 0 → Q (some (.int r)) (LAY rf tl) mem := by
    intro r hr h1
    rw [fndR, fndN, hr, if_neg h1, if_neg h1] at K
    exact K mem hM (fun _ _ => rfl)
  refine s_iload_n (pc' := 1) dX7_finds_0 rfl lg1 ?_
  refine c_X7_isSheet  (pc' := 4) dX7_finds_1 rfl lkX7_245 (by omega) (Nat.le_of_ble_eq_true rfl) ?_
  refine s_if_eq (pc' := 7) (tgt := 27) dX7_finds_4 rfl (by decide) (fun c1 => ?_) (fun c1 => ?_)
  · skip
    refine s_bipush (pc' := 29) dX7_finds_27 rfl bipush_m2 ?_
    refine s_iret dX7_finds_29 rfl (vp_nar_int _) ?_
    exact bad _ (by rw [fndE, if_pos c1]) (by decide)
  · skip
    rcases sh_or s with h | ⟨j, hj, rfl, -⟩
    · exact absurd h c1
    have ej : ix (nI j) = j := ix_nI (by omega)
    obtain ⟨r1, r2, r3, r4⟩ := hR j hj
    refine s_iload_n (pc' := 8) dX7_finds_7 rfl lg2 ?_
    refine s_iconst (pc' := 9) dX7_finds_8 rfl iconst_0 ?_
    refine s_iconst (pc' := 10) dX7_finds_9 rfl iconst_2 ?_
    refine c_X7_isIn  (pc' := 13) dX7_finds_10 rfl lkX7_86 (by omega) (Nat.le_of_ble_eq_true rfl) ?_
    refine s_if_eq (pc' := 16) (tgt := 27) dX7_finds_13 rfl (by decide) (fun c2 => ?_) (fun c2 => ?_)
    · skip
      refine s_bipush (pc' := 29) dX7_finds_27 rfl bipush_m2 ?_
      refine s_iret dX7_finds_29 rfl (vp_nar_int _) ?_
      exact bad _ (by rw [fndE, if_neg c1, if_pos c2]) (by decide)
    · skip
      refine s_iload (pc' := 18) dX7_finds_16 rfl lg4 ?_
      refine s_iconst (pc' := 19) dX7_finds_18 rfl iconst_0 ?_
      refine s_bipush (pc' := 21) dX7_finds_19 rfl bipush_8 ?_
      refine c_X7_isIn  (pc' := 24) dX7_finds_21 rfl lkX7_86 (by omega) (Nat.le_of_ble_eq_true rfl) ?_
      refine s_if_ne (pc' := 27) (tgt := 30) dX7_finds_24 rfl (by decide) (fun c3 => ?_) (fun c3 => ?_)
      · skip
        rcases in_or m (lo := 0) (hi := 8) rfl (m := 8) rfl (by omega) with h | ⟨c, hc, rfl, -⟩
        · exact absurd h c3
        refine s_aload_n (pc' := 31) dX7_finds_30 rfl lg0 rfl ?_
        refine s_getRv (pc' := 34) (v := .ref 61) dX7_finds_31 rfl flX7_58 ly47 (by decide) rfl rfl ?_
        refine s_iload_n (pc' := 35) dX7_finds_34 rfl lg1 ?_
        refine s_ialdNv (pc' := 36) (v := so j) dX7_finds_35 rfl ly61 (by omega) (by decide) r1 ?_
        refine s_iconst (pc' := 37) dX7_finds_36 rfl iconst_m1 ?_
        refine s_icmp_ne (pc' := 40) (tgt := 43) dX7_finds_37 rfl (by decide) (fun c4 => ?_) (fun c4 => ?_)
        · skip
          refine s_aload_n (pc' := 44) dX7_finds_43 rfl lg0 rfl ?_
          refine s_getRv (pc' := 47) (v := .ref 61) dX7_finds_44 rfl flX7_58 ly47 (by decide) rfl rfl ?_
          refine s_iload_n (pc' := 48) dX7_finds_47 rfl lg1 ?_
          refine s_ialdNv (pc' := 49) (v := so j) dX7_finds_48 rfl ly61 (by omega) (by decide) r1 ?_
          refine s_iload_n (pc' := 50) dX7_finds_49 rfl lg2 ?_
          refine s_icmp_eq (pc' := 53) (tgt := 56) dX7_finds_50 rfl (by decide) (fun c5 => ?_) (fun c5 => ?_)
          · skip
            have hE : fndE so (nI j) t (nI c) = 0 := by rw [fndE, if_neg c1, if_neg c2, if_neg c3, ej, if_neg c4, if_neg (fun h => h c5)]
            rw [fndR, fndN, if_pos hE, if_pos hE, ej, ix_nI (by omega)] at K
            clear bad
            refine s_iconst (pc' := 57) dX7_finds_56 rfl iconst_0 ?_
            refine s_istore (pc' := 59) dX7_finds_57 rfl (Nat.le_of_ble_eq_true rfl) rfl ls5 ?_
            refine s_iconst (pc' := 60) dX7_finds_59 rfl iconst_0 ?_
            refine s_istore (pc' := 62) dX7_finds_60 rfl (Nat.le_of_ble_eq_true rfl) rfl ls6 ?_
            have loop : ∀ (k i : Nat) (mm : Mem) (v7 v8 : Value), i + k = c → (∀ q, q < i → decide (hasB (x + nI (4 * q)) 4 (nI (sz j)) = 0) = false) → (0 < i → ∃ a, x = nI a ∧ a + 4 * i ≤ sz j) → isM 48 mm (fS (it j) x σ n i).1 (fS (it j) x σ n i).2.1 td ru → (∀ j, j ≠ 48 → mm j = mem j) → Sim z d 0 0 mX7_finds 62 [.ref 47, .int (nI j), .int t, .int x, .int (nI c), .int (nI (fS (it j) x σ n i).2.2), .int (nI i), v7, v8] [] (LAY rf tl) mm Q := by
              intro k
              induction k with
              | zero =>
                intro i mm v7 v8 hi hno hx hMm hm
                have : i = c := by omega
                subst this
                have e : fM x (sz j) i = i := fk_none hno
                rw [e, if_neg (Nat.lt_irrefl i)] at K
                refine s_iload (pc' := 64) dX7_finds_62 rfl lg6 ?_
                refine s_iload (pc' := 66) dX7_finds_64 rfl lg4 ?_
                refine s_icmp_ge (pc' := 69) (tgt := 163) dX7_finds_66 rfl (by decide) (fun _ => ?_) (fun c9 => absurd (nI_le (Nat.le_refl _) (by omega)) c9)
                refine s_iload (pc' := 165) dX7_finds_163 rfl lg5 ?_
                refine s_iret dX7_finds_165 rfl (vp_nar_int _) ?_
                exact K mm hMm hm
              | succ k ih =>
                intro i mm v7 v8 hi hno hx hMm hm
                have bad : hasB (x + nI (4 * i)) 4 (nI (sz j)) = 0 → Q (some (.int (-12))) (LAY rf tl) mm := by
                  intro h
                  have e : fM x (sz j) c = i := fk_at hno (decide_eq_true h) (by omega)
                  rw [e, if_pos (by omega)] at K
                  exact K mm hMm hm
                refine s_iload (pc' := 64) dX7_finds_62 rfl lg6 ?_
                refine s_iload (pc' := 66) dX7_finds_64 rfl lg4 ?_
                refine s_icmp_ge (pc' := 69) (tgt := 163) dX7_finds_66 rfl (by decide) (fun c9 => absurd c9 (nI_ge (by omega) (by omega))) (fun _ => ?_)
                refine s_iload_n (pc' := 70) dX7_finds_69 rfl lg3 ?_
                refine s_iconst (pc' := 71) dX7_finds_70 rfl iconst_4 ?_
                refine s_iload (pc' := 73) dX7_finds_71 rfl lg6 ?_
                refine s_imul (pc' := 74) dX7_finds_73 rfl ?_
                rw [show (4 : Int32) * nI i = nI (4 * i) from (Int32.ofNat_mul 4 i).symm]
                refine s_iadd (pc' := 75) dX7_finds_74 rfl ?_
                refine s_istore (pc' := 77) dX7_finds_75 rfl (Nat.le_of_ble_eq_true rfl) rfl ls7 ?_
                refine s_iload_n (pc' := 78) dX7_finds_77 rfl lg3 ?_
                refine s_if_lt (pc' := 81) (tgt := 94) dX7_finds_78 rfl (by decide) (fun c6 => ?_) (fun c6 => ?_)
                · skip
                  have i0 : i = 0 := by
                    rcases Nat.eq_zero_or_pos i with q | q
                    · exact q
                    · obtain ⟨a, ea, hal⟩ := hx q
                      rw [ea] at c6
                      exact absurd c6 (nI_pos (by omega))
                  have g := bad (by rw [i0]; unfold hasB; rw [if_pos (by rw [show x + nI (4 * 0) = x from td_0 x]; exact c6)])
                  refine s_bipush (pc' := 96) dX7_finds_94 rfl bipush_m12 ?_
                  refine s_iret dX7_finds_96 rfl (vp_nar_int _) ?_
                  exact g
                · skip
                  obtain ⟨a, ha, rfl⟩ := nI_of c6
                  have hal : i = 0 ∨ a + 4 * i ≤ sz j := by
                    rcases Nat.eq_zero_or_pos i with q | q
                    · exact Or.inl q
                    · obtain ⟨a', ea, h⟩ := hx q
                      have : a = a' := (nI_eq (by omega) (by omega)).mp ea
                      subst this
                      exact Or.inr h
                  have hb : a + 4 * i < 2 ^ 31 := by omega
                  rw [nI_add] at bad ⊢
                  refine s_iload (pc' := 83) dX7_finds_81 rfl lg7 ?_
                  refine s_aload_n (pc' := 84) dX7_finds_83 rfl lg0 rfl ?_
                  refine s_getRv (pc' := 87) (v := .ref 62) dX7_finds_84 rfl flX7_61 ly47 (by decide) rfl rfl ?_
                  refine s_iload_n (pc' := 88) dX7_finds_87 rfl lg1 ?_
                  refine s_ialdNv (pc' := 89) (v := nI (sz j)) dX7_finds_88 rfl ly62 (by omega) (by decide) (by rw [hm 62 (by decide)]; exact r2) ?_
                  refine s_iconst (pc' := 90) dX7_finds_89 rfl iconst_4 ?_
                  refine s_isub (pc' := 91) dX7_finds_90 rfl ?_
                  rcases Nat.lt_or_ge (sz j) (a + 4 * i + 4) with q | q
                  · have g := bad ((has4 r3 hb).mpr (by omega))
                    refine s_icmp_le (pc' := 94) (tgt := 97) dX7_finds_91 rfl (by decide) (fun c9 => absurd c9 (fun h => by have := (sub4 r3 hb rfl).mp h; omega)) (fun _ => ?_)
                    refine s_bipush (pc' := 96) dX7_finds_94 rfl bipush_m12 ?_
                    refine s_iret dX7_finds_96 rfl (vp_nar_int _) ?_
                    exact g
                  · skip
                    refine s_icmp_le (pc' := 94) (tgt := 97) dX7_finds_91 rfl (by decide) (fun _ => ?_) (fun c9 => absurd ((sub4 r3 hb rfl).mpr q) c9)
                    refine s_bipush (pc' := 99) dX7_finds_97 rfl bipush_40 ?_
                    refine s_iload_n (pc' := 100) dX7_finds_99 rfl lg1 ?_
                    refine s_imul (pc' := 101) dX7_finds_100 rfl ?_
                    refine s_iload (pc' := 103) dX7_finds_101 rfl lg7 ?_
                    refine s_iadd (pc' := 104) dX7_finds_103 rfl ?_
                    rw [mI40]
                    have gc : ∀ u, u < 4 → mm 63 (40 * j + (a + 4 * i) + u) = it j (a + 4 * i + u) := fun u hu => by rw [hm 63 (by decide), Nat.add_assoc (40 * j)]; exact r4 _ (by omega)
                    refine s_istore (pc' := 106) dX7_finds_104 rfl (Nat.le_of_ble_eq_true rfl) rfl ls8 ?_
                    refine s_iload (pc' := 108) dX7_finds_106 rfl lg5 ?_
                    refine s_aload_n (pc' := 109) dX7_finds_108 rfl lg0 rfl ?_
                    refine s_aload_n (pc' := 110) dX7_finds_109 rfl lg0 rfl ?_
                    refine s_getRv (pc' := 113) (v := .ref 63) dX7_finds_110 rfl flX7_64 ly47 (by decide) rfl rfl ?_
                    refine s_iload (pc' := 115) dX7_finds_113 rfl lg8 ?_
                    refine s_ialdNv (pc' := 116) (v := it j (a + 4 * i)) dX7_finds_115 rfl ly63 (by omega) (by decide) (gc 0 (by omega)) ?_
                    refine s_aload_n (pc' := 117) dX7_finds_116 rfl lg0 rfl ?_
                    refine s_getRv (pc' := 120) (v := .ref 63) dX7_finds_117 rfl flX7_64 ly47 (by decide) rfl rfl ?_
                    refine s_iload (pc' := 122) dX7_finds_120 rfl lg8 ?_
                    refine s_iconst (pc' := 123) dX7_finds_122 rfl iconst_1 ?_
                    refine s_iadd (pc' := 124) dX7_finds_123 rfl ?_
                    rw [show nI (40 * j + (a + 4 * i)) + 1 = nI (40 * j + (a + 4 * i) + 1) from nI_add _ 1]
                    refine s_ialdNv (pc' := 125) (v := it j (a + 4 * i + 1)) dX7_finds_124 rfl ly63 (by omega) (by decide) (gc 1 (by omega)) ?_
                    refine s_aload_n (pc' := 126) dX7_finds_125 rfl lg0 rfl ?_
                    refine s_getRv (pc' := 129) (v := .ref 63) dX7_finds_126 rfl flX7_64 ly47 (by decide) rfl rfl ?_
                    refine s_iload (pc' := 131) dX7_finds_129 rfl lg8 ?_
                    refine s_iconst (pc' := 132) dX7_finds_131 rfl iconst_2 ?_
                    refine s_iadd (pc' := 133) dX7_finds_132 rfl ?_
                    rw [show nI (40 * j + (a + 4 * i)) + 2 = nI (40 * j + (a + 4 * i) + 2) from nI_add _ 2]
                    refine s_ialdNv (pc' := 134) (v := it j (a + 4 * i + 2)) dX7_finds_133 rfl ly63 (by omega) (by decide) (gc 2 (by omega)) ?_
                    refine s_aload_n (pc' := 135) dX7_finds_134 rfl lg0 rfl ?_
                    refine s_getRv (pc' := 138) (v := .ref 63) dX7_finds_135 rfl flX7_64 ly47 (by decide) rfl rfl ?_
                    refine s_iload (pc' := 140) dX7_finds_138 rfl lg8 ?_
                    refine s_iconst (pc' := 141) dX7_finds_140 rfl iconst_3 ?_
                    refine s_iadd (pc' := 142) dX7_finds_141 rfl ?_
                    rw [show nI (40 * j + (a + 4 * i)) + 3 = nI (40 * j + (a + 4 * i) + 3) from nI_add _ 3]
                    refine s_ialdNv (pc' := 143) (v := it j (a + 4 * i + 3)) dX7_finds_142 rfl ly63 (by omega) (by decide) (gc 3 (by omega)) ?_
                    have eix : ix (nI a + nI (4 * i)) = a + 4 * i := by rw [nI_add, ix_nI (by omega)]
                    have h1 := fun (m1 : Mem) (v7 v8 : Value) => ih (i + 1) m1 v7 v8 (by omega) (fun u hu => by
                      rcases Nat.lt_or_ge u i with q1 | q1
                      · exact hno u q1
                      · have : u = i := by omega
                        rw [this, nI_add]
                        exact decide_eq_false (fun h => (has4 r3 hb).mp h q)) (fun _ => ⟨a, rfl, by omega⟩)
                    rw [fS_succ, eix] at h1
                    dsimp only at h1
                    refine c_X7_piece  (pc' := 146) dX7_finds_143 rfl lkX7_279 (by omega) (Nat.le_of_ble_eq_true rfl) hMm (fun m1 t1 t2 => ?_)
                    have h2 := fun v7 v8 => h1 m1 v7 v8 t1 (fun q hq => by rw [t2 q hq]; exact hm q hq)
                    refine s_if_lt (pc' := 149) (tgt := 153) dX7_finds_146 rfl (by decide) (fun c7 => ?_) (fun c7 => ?_)
                    · skip
                      rw [if_pos c7] at h2
                      refine s_iconst (pc' := 154) dX7_finds_153 rfl iconst_0 ?_
                      refine s_iadd (pc' := 155) dX7_finds_154 rfl ?_
                      rw [show nI (fS (it j) (nI a) σ n i).2.2 + 0 = nI ((fS (it j) (nI a) σ n i).2.2 + 0) from nI_add _ 0]
                      refine s_istore (pc' := 157) dX7_finds_155 rfl (Nat.le_of_ble_eq_true rfl) rfl ls5 ?_
                      refine s_iincN (pc' := 160) dX7_finds_157 rfl lg6 rfl ls6 ?_
                      refine s_goto (tgt := 62) dX7_finds_160 (by decide) ?_
                      exact h2 _ _
                    · skip
                      rw [if_neg c7] at h2
                      refine s_iconst (pc' := 150) dX7_finds_149 rfl iconst_1 ?_
                      refine s_goto (tgt := 154) dX7_finds_150 (by decide) ?_
                      refine s_iadd (pc' := 155) dX7_finds_154 rfl ?_
                      rw [nI_1]
                      refine s_istore (pc' := 157) dX7_finds_155 rfl (Nat.le_of_ble_eq_true rfl) rfl ls5 ?_
                      refine s_iincN (pc' := 160) dX7_finds_157 rfl lg6 rfl ls6 ?_
                      refine s_goto (tgt := 62) dX7_finds_160 (by decide) ?_
                      exact h2 _ _
            exact loop c 0 mem _ _ (by omega) (fun q hq => absurd hq (Nat.not_lt_zero q)) (fun h => absurd h (Nat.lt_irrefl 0)) hM (fun _ _ => rfl)
          · skip
            refine s_bipush (pc' := 55) dX7_finds_53 rfl bipush_m13 ?_
            refine s_iret dX7_finds_55 rfl (vp_nar_int _) ?_
            exact bad _ (by rw [fndE, if_neg c1, if_neg c2, if_neg c3, ej, if_neg c4, if_pos c5]) (by decide)
        · skip
          refine s_bipush (pc' := 42) dX7_finds_40 rfl bipush_m11 ?_
          refine s_iret dX7_finds_42 rfl (vp_nar_int _) ?_
          exact bad _ (by rw [fndE, if_neg c1, if_neg c2, if_neg c3, ej, if_pos c4]) (by decide)
      · skip
        refine s_bipush (pc' := 29) dX7_finds_27 rfl bipush_m2 ?_
        refine s_iret dX7_finds_29 rfl (vp_nar_int _) ?_
        exact bad _ (by rw [fndE, if_neg c1, if_neg c2, if_pos c3]) (by decide)
theorem c_X7_finds {z : Zz} {d kc ks : Nat} {mi : MI} {pc pc' : Nat} {L S : List Value} {Q : Option Value → Lay → Mem → Prop} {rf : Nat → Value} {tl : Lay} {mem : Mem}  {n : Nat} {σ : Nat → Nat → Int32} {td ru s t x m : Int32} {so : Nat → Int32} {sz : Nat → Nat} {it : Nat → Nat → Int32} {idx : Nat} (hd : decode mi.2.1 pc = .ok (.invokevirtual idx, 3)) (hp : pc + 3 = pc') (hlk : Cond.methodLink mi.1.cls idx yX7_finds ∈ wok) (hdd : 2 + 1 ≤ d) (hcat : (S.map (fun v => v.category)).sum ≤ 8) (hM : isM 48 mem σ n td ru) (hR : isMR mem so sz it) (K : ∀ mem', isM 48 mem' (fS (it (ix s)) x σ n (fndN so sz s t x m)).1 (fS (it (ix s)) x σ n (fndN so sz s t x m)).2.1 td ru → (∀ j, j ≠ 48 → mem' j = mem j) → Sim z d kc ks mi pc' L (.int (fndR so sz it σ n s t x m) :: S) (LAY rf tl) mem' Q) : Sim z d kc ks mi pc L (.int m :: .int x :: .int t :: .int s :: .ref 47 :: S) (LAY rf tl) mem Q :=
  s_invV (d2 := 2) hd hp okX7_finds hlk inX7_finds seX7_finds hdd (Nat.zero_add _) (Nat.zero_add _) rfl rfl ly47 rfl hcat (Nat.le_of_ble_eq_true rfl) (m_X7_finds (Nat.le_refl _) hM hR K)
theorem i8_nI {v : Nat} (h : v < 100) : (nI v).toInt8.toInt32 = nI v := by
  have key : ∀ v : Fin 100, (nI v.1).toInt8.toInt32 = nI v.1 := by decide +kernel
  exact key ⟨v, h⟩
set_option maxHeartbeats 4000000 in
theorem m_X7_film {z : Zz} {d : Nat} {Q : Option Value → Lay → Mem → Prop} {rf : Nat → Value} {tl : Lay} {mem : Mem}  {n w nt : Nat} {σ : Nat → Nat → Int32} {td s p m : Int32} {T : Nat → Nat → List Int32} {so : Nat → Int32} {sz : Nat → Nat} {it : Nat → Nat → Int32} (hdd : 5 ≤ d) (hM : isM 48 mem σ n td (nI w)) (hT : isTM mem nt T) (hw : w < nt) (hok : okS σ n) (hR : isMR mem so sz it) (K : ∀ mem', (if shB s = 0 ∨ pcB p (nI n) = 0 ∨ inB m 0 30 = 0 then isMR mem' so sz it else isMR mem' (uf so (ix s) 0) (uf sz (ix s) (ix m)) (uf it (ix s) (fun k => (sg n (T w) σ td k 2 (ix p)).toInt8.toInt32))) → (∀ k, k < 43 → mem' 48 k = mem 48 k) → (∀ q, q ≠ 48 → q ≠ 50 → (q < 56 ∨ 58 < q) → q ≠ 61 → q ≠ 62 → q ≠ 63 → q ≠ 64 → mem' q = mem q) → Q (some (.int (filmR n s p m))) (LAY rf tl) mem') : Sim z d 0 0 mX7_film 0 [.ref 47, .int s, .int p, .int m, .float 0] [] (LAY rf tl) mem Q := by
  have h8 := hM.2.1
  have bad : (shB s = 0 ∨ pcB p (nI n) = 0 ∨ inB m 0 30 = 0) → Q (some (.int (-2))) (LAY rf tl) mem := by
    intro h
    rw [filmR, if_pos h] at K
    exact K mem (by rw [if_pos h]; exact hR) (fun _ _ => rfl) (fun _ _ _ _ _ _ _ _ => rfl)
  refine s_iload_n (pc' := 1) dX7_film_0 rfl lg1 ?_
  refine c_X7_isSheet  (pc' := 4) dX7_film_1 rfl lkX7_245 (by omega) (Nat.le_of_ble_eq_true rfl) ?_
  refine s_if_eq (pc' := 7) (tgt := 25) dX7_film_4 rfl (by decide) (fun c1 => ?_) (fun c1 => ?_)
  · skip
    refine s_bipush (pc' := 27) dX7_film_25 rfl bipush_m2 ?_
    refine s_iret dX7_film_27 rfl (vp_nar_int _) ?_
    exact bad (Or.inl c1)
  · skip
    refine s_aload_n (pc' := 8) dX7_film_7 rfl lg0 rfl ?_
    refine s_iload_n (pc' := 9) dX7_film_8 rfl lg2 ?_
    refine c_X7_isPiece  (pc' := 12) dX7_film_9 rfl lkX7_94 (by omega) (Nat.le_of_ble_eq_true rfl) hM.1 h8 ?_
    refine s_if_eq (pc' := 15) (tgt := 25) dX7_film_12 rfl (by decide) (fun c2 => ?_) (fun c2 => ?_)
    · skip
      refine s_bipush (pc' := 27) dX7_film_25 rfl bipush_m2 ?_
      refine s_iret dX7_film_27 rfl (vp_nar_int _) ?_
      exact bad (Or.inr (Or.inl c2))
    · skip
      refine s_iload_n (pc' := 16) dX7_film_15 rfl lg3 ?_
      refine s_iconst (pc' := 17) dX7_film_16 rfl iconst_0 ?_
      refine s_bipush (pc' := 19) dX7_film_17 rfl bipush_30 ?_
      refine c_X7_isIn  (pc' := 22) dX7_film_19 rfl lkX7_86 (by omega) (Nat.le_of_ble_eq_true rfl) ?_
      refine s_if_ne (pc' := 25) (tgt := 28) dX7_film_22 rfl (by decide) (fun c3 => ?_) (fun c3 => ?_)
      · skip
        have hbad : ¬ (shB s = 0 ∨ pcB p (nI n) = 0 ∨ inB m 0 30 = 0) := fun h => h.elim c1 (fun h => h.elim c2 c3)
        rw [filmR, if_neg hbad] at K
        rcases sh_or s with h | ⟨j, hj, rfl, -⟩
        · exact absurd h c1
        rcases pc_or p (n := n) (by omega) with h | ⟨a, ha, rfl, -⟩
        · exact absurd h c2
        rcases in_or m (lo := 0) (hi := 30) rfl (m := 30) rfl (by omega) with h | ⟨c, hc, rfl, -⟩
        · exact absurd h c3
        have ej : ix (nI j) = j := ix_nI (by omega)
        have ec : ix (nI c) = c := ix_nI (by omega)
        rw [ej, ec, ix_nI (by omega)] at K
        have hr : shtR (nI j) 0 (nI c) = 1 := by
          rw [shtR, if_neg c1, if_neg (by decide), if_neg (by decide), if_neg (fun h => h ((nI_leI (a := c) (b := 40) (by omega) (by omega)).mpr (by omega))), if_neg (fun h => h (nI_pos' (by omega)))]
        refine s_aload_n (pc' := 29) dX7_film_28 rfl lg0 rfl ?_
        refine s_iload_n (pc' := 30) dX7_film_29 rfl lg1 ?_
        refine s_iconst (pc' := 31) dX7_film_30 rfl iconst_0 ?_
        refine s_iload_n (pc' := 32) dX7_film_31 rfl lg3 ?_
        refine c_X7_sheet  (pc' := 35) dX7_film_32 rfl lkX7_293 (by omega) (Nat.le_of_ble_eq_true rfl) hR (fun m1 g1 g2 => ?_)
        rw [if_pos hr, ej, ec, if_neg (by decide)] at g1
        have hM1 : isM 48 m1 σ n td (nI w) := hM.cp (fun k _ => by rw [g2 48 (by decide) (by decide) (by decide) (by decide)])
        have hT1 : isTM m1 nt T := hT.kept (by rw [g2 47 (by decide) (by decide) (by decide) (by decide)]) (g2 52 (by decide) (by decide) (by decide) (by decide)) (g2 53 (by decide) (by decide) (by decide) (by decide))
        refine s_pop (pc' := 36) dX7_film_35 rfl rfl ?_
        refine s_aload_n (pc' := 37) dX7_film_36 rfl lg0 rfl ?_
        refine s_aload_n (pc' := 38) dX7_film_37 rfl lg0 rfl ?_
        refine s_getRv (pc' := 41) (v := .ref 50) dX7_film_38 rfl flX7_16 ly47 (by decide) rfl rfl ?_
        refine c_X7_keep  (pc' := 44) dX7_film_41 rfl lkX7_223 (by omega) (Nat.le_of_ble_eq_true rfl) ly50 (by decide) (fun m2 g3 g4 => ?_)
        refine s_iconst (pc' := 45) dX7_film_44 rfl iconst_0 ?_
        refine s_istore (pc' := 47) dX7_film_45 rfl (Nat.le_of_ble_eq_true rfl) rfl ls4 ?_
        have loop : ∀ (k i : Nat) (mm : Mem), i + k = c → isM 48 mm (sg n (T w) σ td i) n (td + nI i) (nI w) → (∀ q, q ≠ 48 → q ≠ 50 → (q < 56 ∨ 58 < q) → q ≠ 63 → mm q = m1 q) → (∀ k, k < 43 → mm 50 k = m1 48 k) → (∀ k, mm 63 k = if 40 * j ≤ k ∧ k < 40 * j + i then (sg n (T w) σ td (k - 40 * j) 2 a).toInt8.toInt32 else m1 63 k) → Sim z d 0 0 mX7_film 47 [.ref 47, .int (nI j), .int (nI a), .int (nI c), .int (nI i)] [] (LAY rf tl) mm Q := by
          intro k
          induction k with
          | zero =>
            intro i mm hi hMm hm h50 h63
            have : i = c := by omega
            subst this
            refine s_iload (pc' := 49) dX7_film_47 rfl lg4 ?_
            refine s_iload_n (pc' := 50) dX7_film_49 rfl lg3 ?_
            refine s_icmp_ge (pc' := 53) (tgt := 81) dX7_film_50 rfl (by decide) (fun _ => ?_) (fun c9 => absurd (nI_le (Nat.le_refl _) (by omega)) c9)
            refine s_aload_n (pc' := 82) dX7_film_81 rfl lg0 rfl ?_
            refine s_aload_n (pc' := 83) dX7_film_82 rfl lg0 rfl ?_
            refine s_getRv (pc' := 86) (v := .ref 50) dX7_film_83 rfl flX7_16 ly47 (by decide) rfl rfl ?_
            refine c_X7_lay  (pc' := 89) dX7_film_86 rfl lkX7_233 (by omega) (Nat.le_of_ble_eq_true rfl) ly50 (by decide) (fun m3 g5 g6 => ?_)
            refine s_iload_n (pc' := 90) dX7_film_89 rfl lg3 ?_
            refine s_iret dX7_film_90 rfl (vp_nar_int _) ?_
            refine K m3 ?_ (fun k hk => by rw [g6 k hk, h50 k hk, g2 48 (by decide) (by decide) (by decide) (by decide)]) (fun q q1 q2 q3 q4 q5 q6 q7 => by rw [g5 q q1, hm q q1 q2 q3 q6, g2 q q4 q5 q6 q7])
            rw [if_neg hbad]
            intro j' hj'
            obtain ⟨s1, s2, s3, s4⟩ := g1 j' hj'
            rw [g5 61 (by decide), g5 62 (by decide), g5 63 (by decide), hm 61 (by decide) (by decide) (by decide) (by decide), hm 62 (by decide) (by decide) (by decide) (by decide)]
            refine ⟨s1, s2, s3, fun k hk => ?_⟩
            rw [h63]
            by_cases e : j' = j
            · subst e
              rw [ufE] at hk ⊢
              rw [if_pos (by omega), Nat.add_sub_cancel_left]
            · have := s4 k hk
              rw [ufN e] at hk s3 this ⊢
              rw [if_neg (by omega)]; exact this
          | succ k ih =>
            intro i mm hi hMm hm h50 h63
            have hTm : isTM mm nt T := hT1.kept (by rw [hm 47 (by decide) (by decide) (by decide) (by decide)]) (hm 52 (by decide) (by decide) (by decide) (by decide)) (hm 53 (by decide) (by decide) (by decide) (by decide))
            obtain ⟨sv, hsv, esv⟩ := ((hok.sg (td := td) (P := T w) i) a ha).2.2.1
            refine s_iload (pc' := 49) dX7_film_47 rfl lg4 ?_
            refine s_iload_n (pc' := 50) dX7_film_49 rfl lg3 ?_
            refine s_icmp_ge (pc' := 53) (tgt := 81) dX7_film_50 rfl (by decide) (fun c9 => absurd c9 (nI_ge (by omega) (by omega))) (fun _ => ?_)
            refine s_aload_n (pc' := 54) dX7_film_53 rfl lg0 rfl ?_
            refine s_getRv (pc' := 57) (v := .ref 63) dX7_film_54 rfl flX7_64 ly47 (by decide) rfl rfl ?_
            refine s_bipush (pc' := 59) dX7_film_57 rfl bipush_40 ?_
            refine s_iload_n (pc' := 60) dX7_film_59 rfl lg1 ?_
            refine s_imul (pc' := 61) dX7_film_60 rfl ?_
            refine s_iload (pc' := 63) dX7_film_61 rfl lg4 ?_
            refine s_iadd (pc' := 64) dX7_film_63 rfl ?_
            rw [mI40]
            refine s_aload_n (pc' := 65) dX7_film_64 rfl lg0 rfl ?_
            refine s_iload_n (pc' := 66) dX7_film_65 rfl lg2 ?_
            refine s_iconst (pc' := 67) dX7_film_66 rfl iconst_2 ?_
            refine c_X7_of_2  (pc' := 70) dX7_film_67 rfl lkX7_108 (by omega) (Nat.le_of_ble_eq_true rfl) hMm ha ?_
            refine s_iastN (pc' := 71) dX7_film_70 rfl ly63 (by omega) (by decide) ?_
            refine s_aload_n (pc' := 72) dX7_film_71 rfl lg0 rfl ?_
            refine c_X7_goTide  (pc' := 75) dX7_film_72 rfl lkX7_217 (by omega) (Nat.le_of_ble_eq_true rfl) (hMm.cp (fun k _ => by rw [upN (by decide)])) (hTm.kept (by rw [upN (by decide)]) (upN (by decide)) (upN (by decide))) hw (fun m4 h4 f4 => ?_)
            refine s_iincN (pc' := 78) dX7_film_75 rfl lg4 rfl ls4 ?_
            refine s_goto (tgt := 47) dX7_film_78 (by decide) ?_
            refine ih (i + 1) m4 (by omega) (by rw [sg_succ, ← td_succ]; exact h4) (fun q q1 q2 q3 q4 => by rw [f4 q q1 (by omega) (by omega) (by omega), upN q4]; exact hm q q1 q2 q3 q4) (fun k hk => by rw [f4 50 (by decide) (by decide) (by decide) (by decide), upN (by decide)]; exact h50 k hk) (fun k => ?_)
            rw [f4 63 (by decide) (by decide) (by decide) (by decide), upE]
            by_cases e : k = 40 * j + i
            · rw [e, udE, if_pos (by omega), Nat.add_sub_cancel_left, esv, i8_nI hsv]
            · rw [udN e, h63]
              by_cases q : 40 * j ≤ k ∧ k < 40 * j + i
              · rw [if_pos q, if_pos (by omega)]
              · rw [if_neg q, if_neg (by omega)]
        exact loop c 0 m2 (by omega) (by rw [td_0]; exact hM1.keep g3) (fun q _ q2 _ _ => g3 q q2) (fun k hk => g4 k hk) (fun k => by rw [if_neg (by omega), g3 63 (by decide)])
      · skip
        refine s_bipush (pc' := 27) dX7_film_25 rfl bipush_m2 ?_
        refine s_iret dX7_film_27 rfl (vp_nar_int _) ?_
        exact bad (Or.inr (Or.inr c3))
theorem c_X7_film {z : Zz} {d kc ks : Nat} {mi : MI} {pc pc' : Nat} {L S : List Value} {Q : Option Value → Lay → Mem → Prop} {rf : Nat → Value} {tl : Lay} {mem : Mem}  {n w nt : Nat} {σ : Nat → Nat → Int32} {td s p m : Int32} {T : Nat → Nat → List Int32} {so : Nat → Int32} {sz : Nat → Nat} {it : Nat → Nat → Int32} {idx : Nat} (hd : decode mi.2.1 pc = .ok (.invokevirtual idx, 3)) (hp : pc + 3 = pc') (hlk : Cond.methodLink mi.1.cls idx yX7_film ∈ wok) (hdd : 5 + 1 ≤ d) (hcat : (S.map (fun v => v.category)).sum ≤ 8) (hM : isM 48 mem σ n td (nI w)) (hT : isTM mem nt T) (hw : w < nt) (hok : okS σ n) (hR : isMR mem so sz it) (K : ∀ mem', (if shB s = 0 ∨ pcB p (nI n) = 0 ∨ inB m 0 30 = 0 then isMR mem' so sz it else isMR mem' (uf so (ix s) 0) (uf sz (ix s) (ix m)) (uf it (ix s) (fun k => (sg n (T w) σ td k 2 (ix p)).toInt8.toInt32))) → (∀ k, k < 43 → mem' 48 k = mem 48 k) → (∀ q, q ≠ 48 → q ≠ 50 → (q < 56 ∨ 58 < q) → q ≠ 61 → q ≠ 62 → q ≠ 63 → q ≠ 64 → mem' q = mem q) → Sim z d kc ks mi pc' L (.int (filmR n s p m) :: S) (LAY rf tl) mem' Q) : Sim z d kc ks mi pc L (.int m :: .int p :: .int s :: .ref 47 :: S) (LAY rf tl) mem Q :=
  s_invV (d2 := 5) hd hp okX7_film hlk inX7_film seX7_film hdd (Nat.zero_add _) (Nat.zero_add _) rfl rfl ly47 rfl hcat (Nat.le_of_ble_eq_true rfl) (m_X7_film (Nat.le_refl _) hM hT hw hok hR K)
set_option maxHeartbeats 4000000 in
theorem m_X7_drawn {z : Zz} {d : Nat} {Q : Option Value → Lay → Mem → Prop} {rf : Nat → Value} {tl : Lay} {mem : Mem}  {n w nt : Nat} {σ : Nat → Nat → Int32} {td seed m : Int32} {T : Nat → Nat → List Int32} (hdd : 5 ≤ d) (hM : isM 48 mem σ n td (nI w)) (hT : isTM mem nt T) (hw : w < nt) (K : ∀ mem', mtf mem mem' → Q (some (.int (if inB m 0 40 = 0 then -2 else nI (rou (dg n (T w) σ td seed (ix m)) n)))) (LAY rf tl) mem') : Sim z d 0 0 mX7_drawn 0 [.ref 47, .int seed, .int m, .float 0, .float 0, .float 0] [] (LAY rf tl) mem Q := by
  have h8 := hM.2.1
  refine s_iload_n (pc' := 1) dX7_drawn_0 rfl lg2 ?_
  refine s_iconst (pc' := 2) dX7_drawn_1 rfl iconst_0 ?_
  refine s_bipush (pc' := 4) dX7_drawn_2 rfl bipush_40 ?_
  refine c_X7_isIn  (pc' := 7) dX7_drawn_4 rfl lkX7_86 (by omega) (Nat.le_of_ble_eq_true rfl) ?_
  refine s_if_ne (pc' := 10) (tgt := 13) dX7_drawn_7 rfl (by decide) (fun c1 => ?_) (fun c1 => ?_)
  · skip
    rw [if_neg c1] at K
    rcases in_or m (lo := 0) (hi := 40) rfl (m := 40) rfl (by omega) with h | ⟨c, hc, rfl, -⟩
    · exact absurd h c1
    rw [ix_nI (by omega)] at K
    refine s_aload_n (pc' := 14) dX7_drawn_13 rfl lg0 rfl ?_
    refine s_aload_n (pc' := 15) dX7_drawn_14 rfl lg0 rfl ?_
    refine s_getRv (pc' := 18) (v := .ref 50) dX7_drawn_15 rfl flX7_16 ly47 (by decide) rfl rfl ?_
    refine c_X7_keep  (pc' := 21) dX7_drawn_18 rfl lkX7_223 (by omega) (Nat.le_of_ble_eq_true rfl) ly50 (by decide) (fun m1 g1 g2 => ?_)
    refine s_iload_n (pc' := 22) dX7_drawn_21 rfl lg1 ?_
    refine s_istore_n (pc' := 23) dX7_drawn_22 rfl (Nat.le_of_ble_eq_true rfl) rfl ls3 ?_
    refine s_iconst (pc' := 24) dX7_drawn_23 rfl iconst_0 ?_
    refine s_istore (pc' := 26) dX7_drawn_24 rfl (Nat.le_of_ble_eq_true rfl) rfl ls4 ?_
    have loop : ∀ (k i : Nat) (m : Mem) (v5 : Value), i + k = c → isM 48 m (dg n (T w) σ td seed i) n (td + nI i) (nI w) → mth mem m → Sim z d 0 0 mX7_drawn 26 [.ref 47, .int seed, .int (nI c), .int (zz seed i), .int (nI i), v5] [] (LAY rf tl) m Q := by
      intro k
      induction k with
      | zero =>
        intro i m v5 hi hMm hm
        have hic : i = c := by omega
        subst hic
        refine s_iload (pc' := 28) dX7_drawn_26 rfl lg4 ?_
        refine s_iload_n (pc' := 29) dX7_drawn_28 rfl lg2 ?_
        refine s_icmp_ge (pc' := 32) (tgt := 79) dX7_drawn_29 rfl (by decide) (fun _ => ?_) (fun c9 => absurd (nI_le (Nat.le_refl _) (by omega)) c9)
        refine s_aload_n (pc' := 80) dX7_drawn_79 rfl lg0 rfl ?_
        refine c_X7_rounds  (pc' := 83) dX7_drawn_80 rfl lkX7_220 (by omega) (Nat.le_of_ble_eq_true rfl) hMm ?_
        refine s_istore (pc' := 85) dX7_drawn_83 rfl (Nat.le_of_ble_eq_true rfl) rfl ls4 ?_
        refine s_aload_n (pc' := 86) dX7_drawn_85 rfl lg0 rfl ?_
        refine s_aload_n (pc' := 87) dX7_drawn_86 rfl lg0 rfl ?_
        refine s_getRv (pc' := 90) (v := .ref 50) dX7_drawn_87 rfl flX7_16 ly47 (by decide) rfl rfl ?_
        refine c_X7_lay  (pc' := 93) dX7_drawn_90 rfl lkX7_233 (by omega) (Nat.le_of_ble_eq_true rfl) ly50 (by decide) (fun m2 g3 g4 => ?_)
        refine s_iload (pc' := 95) dX7_drawn_93 rfl lg4 ?_
        refine s_iret dX7_drawn_95 rfl (vp_nar_int _) ?_
        exact K m2 (hm.lay g3 g4)
      | succ k ih =>
        intro i m v5 hi hMm hm
        have rest : ∀ m2 : Mem, isM 48 m2 (strk (dg n (T w) σ td seed i) n (zz seed (i + 1))) n (td + nI i) (nI w) → mth mem m2 → ∀ v, Sim z d 0 0 mX7_drawn 69 [.ref 47, .int seed, .int (nI c), .int (zz seed (i + 1)), .int (nI i), v] [] (LAY rf tl) m2 Q := by
          intro m2 hM2 t2 v
          refine s_aload_n (pc' := 70) dX7_drawn_69 rfl lg0 rfl ?_
          refine c_X7_goTide  (pc' := 73) dX7_drawn_70 rfl lkX7_217 (by omega) (Nat.le_of_ble_eq_true rfl) hM2 (hT.mth t2) hw (fun m3 h3 f3 => ?_)
          refine s_iincN (pc' := 76) dX7_drawn_73 rfl lg4 rfl ls4 ?_
          refine s_goto (tgt := 26) dX7_drawn_76 (by decide) ?_
          exact ih (i + 1) m3 _ (by omega) (by rw [dg_succ, ← td_succ]; exact h3) (t2.tide f3)
        refine s_iload (pc' := 28) dX7_drawn_26 rfl lg4 ?_
        refine s_iload_n (pc' := 29) dX7_drawn_28 rfl lg2 ?_
        refine s_icmp_ge (pc' := 32) (tgt := 79) dX7_drawn_29 rfl (by decide) (fun c9 => absurd c9 (nI_ge (by omega) (by omega))) (fun _ => ?_)
        refine s_iload_n (pc' := 33) dX7_drawn_32 rfl lg3 ?_
        refine s_ldcw (pc' := 36) dX7_drawn_33 rfl kcX7_296 ?_
        refine s_imul (pc' := 37) dX7_drawn_36 rfl ?_
        refine s_sipush (pc' := 40) dX7_drawn_37 rfl sipush_12345 ?_
        refine s_iadd (pc' := 41) dX7_drawn_40 rfl ?_
        rw [← zz_succ]
        refine s_istore_n (pc' := 42) dX7_drawn_41 rfl (Nat.le_of_ble_eq_true rfl) rfl ls3 ?_
        refine s_iload_n (pc' := 43) dX7_drawn_42 rfl lg3 ?_
        refine s_bipush (pc' := 45) dX7_drawn_43 rfl bipush_9 ?_
        refine s_iushr (pc' := 46) dX7_drawn_45 rfl ?_
        refine s_bipush (pc' := 48) dX7_drawn_46 rfl bipush_16 ?_
        refine s_irem (pc' := 49) dX7_drawn_48 rfl (by decide) ?_
        rw [show ((zz seed (i + 1)).toUInt32 >>> ((9 : Int32).toUInt32 &&& Int32.toUInt32 31)).toInt32 = usI (zz seed (i + 1)) 9 from rfl, rm_sk]
        have hsk : sk (zz seed (i + 1)) < 16 := Nat.mod_lt _ (by decide)
        refine s_istore (pc' := 51) dX7_drawn_49 rfl (Nat.le_of_ble_eq_true rfl) rfl ls5 ?_
        refine s_aload_n (pc' := 52) dX7_drawn_51 rfl lg0 rfl ?_
        refine s_iload (pc' := 54) dX7_drawn_52 rfl lg5 ?_
        refine c_X7_isPiece  (pc' := 57) dX7_drawn_54 rfl lkX7_94 (by omega) (Nat.le_of_ble_eq_true rfl) hMm.1 h8 ?_
        rcases Nat.lt_or_ge (sk (zz seed (i + 1))) n with q | q
        · have e : strk (dg n (T w) σ td seed i) n (zz seed (i + 1)) = u2 (dg n (T w) σ td seed i) 2 (sk (zz seed (i + 1))) 99 := if_pos q
          refine s_if_eq (pc' := 60) (tgt := 69) dX7_drawn_57 rfl (by decide) (fun c9 => absurd c9 (by unfold pcB; rw [if_neg (nI_pos (by omega)), if_neg (nI_ge q (by omega))]; decide)) (fun _ => ?_)
          refine s_aload_n (pc' := 61) dX7_drawn_60 rfl lg0 rfl ?_
          refine s_iload (pc' := 63) dX7_drawn_61 rfl lg5 ?_
          refine s_iconst (pc' := 64) dX7_drawn_63 rfl iconst_2 ?_
          refine s_bipush (pc' := 66) dX7_drawn_64 rfl bipush_99 ?_
          refine c_X7_change_2  (pc' := 69) dX7_drawn_66 rfl lkX7_104 (by omega) (Nat.le_of_ble_eq_true rfl) (by omega) ?_
          exact rest _ (by rw [e]; exact hMm.up (w := 2) (by decide) (by omega)) hm.up _
        · have e : strk (dg n (T w) σ td seed i) n (zz seed (i + 1)) = dg n (T w) σ td seed i := if_neg (by omega)
          refine s_if_eq (pc' := 60) (tgt := 69) dX7_drawn_57 rfl (by decide) (fun _ => ?_) (fun c9 => absurd (by unfold pcB; rw [if_neg (nI_pos (by omega)), if_pos (nI_le q (by omega))]) c9)
          exact rest m (by rw [e]; exact hMm) hm _
    exact loop c 0 m1 _ (by omega) (by rw [td_0]; exact hM.keep g1) (mth.keep g1 g2)
  · skip
    rw [if_pos c1] at K
    refine s_bipush (pc' := 12) dX7_drawn_10 rfl bipush_m2 ?_
    refine s_iret dX7_drawn_12 rfl (vp_nar_int _) ?_
    exact K mem mtf.rf
theorem c_X7_drawn {z : Zz} {d kc ks : Nat} {mi : MI} {pc pc' : Nat} {L S : List Value} {Q : Option Value → Lay → Mem → Prop} {rf : Nat → Value} {tl : Lay} {mem : Mem}  {n w nt : Nat} {σ : Nat → Nat → Int32} {td seed m : Int32} {T : Nat → Nat → List Int32} {idx : Nat} (hd : decode mi.2.1 pc = .ok (.invokevirtual idx, 3)) (hp : pc + 3 = pc') (hlk : Cond.methodLink mi.1.cls idx yX7_drawn ∈ wok) (hdd : 5 + 1 ≤ d) (hcat : (S.map (fun v => v.category)).sum ≤ 8) (hM : isM 48 mem σ n td (nI w)) (hT : isTM mem nt T) (hw : w < nt) (K : ∀ mem', mtf mem mem' → Sim z d kc ks mi pc' L (.int (if inB m 0 40 = 0 then -2 else nI (rou (dg n (T w) σ td seed (ix m)) n)) :: S) (LAY rf tl) mem' Q) : Sim z d kc ks mi pc L (.int m :: .int seed :: .ref 47 :: S) (LAY rf tl) mem Q :=
  s_invV (d2 := 5) hd hp okX7_drawn hlk inX7_drawn seX7_drawn hdd (Nat.zero_add _) (Nat.zero_add _) rfl rfl ly47 rfl hcat (Nat.le_of_ble_eq_true rfl) (m_X7_drawn (Nat.le_refl _) hM hT hw K)

