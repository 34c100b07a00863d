/-! ===== the Model: pair, twos ===== -/
theorem bit_sh {G k : Nat} (hG : G < 256) (hk : k < 8) : ((nI G >>> (nI k &&& 31)) &&& 1 = 0) ↔ (nI G &&& b1I k = 0) := by
  have key : ∀ k : Fin 8, ∀ G : Fin 256, ((nI G.1 >>> (nI k.1 &&& 31)) &&& 1 = 0) ↔ (nI G.1 &&& b1I k.1 = 0) := by decide +kernel
  exact key ⟨k, hk⟩ ⟨G, hG⟩
theorem or_b1 {G k : Nat} (hG : G < 256) (hk : k < 8) : ∃ G', G' < 256 ∧ nI G ||| b1I k = nI G' := by
  have e1 : b1I k = nI (2 ^ k) := by
    have key : ∀ p : Fin 12, b1I p.1 = nI (2 ^ p.1) := by decide +kernel
    exact key ⟨k, by omega⟩
  have h12 : 2 ^ k < 2 ^ 8 := Nat.pow_lt_pow_right (by decide) hk
  have hx := Nat.or_lt_two_pow (n := 8) hG h12
  refine ⟨G ||| 2 ^ k, hx, ?_⟩
  rw [e1]
  apply Int32_bv
  rw [Int32.toBitVec_or]
  apply BitVec.eq_of_toNat_eq
  rw [BitVec.toNat_or, pk_tn (by omega), pk_tn (by omega), pk_tn (by omega)]
theorem mtN_none {g : Nat → Bool} {h : Nat → Nat} {m0 : Nat} : ∀ {m : Nat}, (∀ o, o < m → g o = false) → mtN g h m0 m = m0
  | 0, _ => rfl
  | m + 1, hg => by rw [mtN_f (hg m (by omega)), mtN_none (fun o ho => hg o (by omega))]
set_option maxHeartbeats 4000000 in
theorem pa_all {z : Zz} {rf : Nat → Value} {tl : Lay} {n : Nat} {σ : Nat → Nat → Int32} {td ru x : Int32} {mem : Mem} (hM : isM 48 mem σ n td ru) : ∀ (k i G d : Nat) (Q : Option Value → Lay → Mem → Prop), i + k = n → G < 256 → k + 3 ≤ d → Q (some (.int (nI (prN σ n x k i (nI G))))) (LAY rf tl) mem → Sim z d 0 0 mX7_pair 0 [.ref 47, .int (nI i), .int x, .int (nI G), .float 0, .float 0, .float 0] [] (LAY rf tl) mem Q := by
  have hn := hM.1
  have h8 := hM.2.1
  intro k
  induction k with
  | zero =>
    intro i G d Q hi hG hd K
    have : i = n := by omega
    subst this
    refine s_iload_n (pc' := 1) dX7_pair_0 rfl lg1 ?_
    refine s_aload_n (pc' := 2) dX7_pair_1 rfl lg0 rfl ?_
    refine c_X7_many  (pc' := 5) dX7_pair_2 rfl lkX7_101 (by omega) (Nat.le_of_ble_eq_true rfl) ?_
    refine s_icmp_ne (pc' := 8) (tgt := 10) dX7_pair_5 rfl (by decide) (fun c9 => absurd (by rw [hn]) c9) (fun _ => ?_)
    refine s_iconst (pc' := 9) dX7_pair_8 rfl iconst_0 ?_
    refine s_iret dX7_pair_9 rfl (vp_nar_int _) ?_
    exact K
  | succ k ih =>
    intro i G d Q hi hG hd K
    rw [prN_s] at K
    refine s_iload_n (pc' := 1) dX7_pair_0 rfl lg1 ?_
    refine s_aload_n (pc' := 2) dX7_pair_1 rfl lg0 rfl ?_
    refine c_X7_many  (pc' := 5) dX7_pair_2 rfl lkX7_101 (by omega) (Nat.le_of_ble_eq_true rfl) ?_
    refine s_icmp_ne (pc' := 8) (tgt := 10) dX7_pair_5 rfl (by decide) (fun _ => ?_) (fun c9 => absurd c9 (by rw [hn]; exact fun e => absurd ((nI_eq (a := i) (b := n) (by omega) (by omega)).mp e) (by omega)))
    refine s_aload_n (pc' := 11) dX7_pair_10 rfl lg0 rfl ?_
    refine s_iload_n (pc' := 12) dX7_pair_11 rfl lg1 ?_
    refine s_iconst (pc' := 13) dX7_pair_12 rfl iconst_1 ?_
    refine s_iadd (pc' := 14) dX7_pair_13 rfl ?_
    rw [nI_1]
    refine s_iload_n (pc' := 15) dX7_pair_14 rfl lg2 ?_
    refine s_iload_n (pc' := 16) dX7_pair_15 rfl lg3 ?_
    refine s_invV (d2 := d - 1) (pc' := 19) dX7_pair_16 rfl okX7_pair lkX7_267 inX7_pair seX7_pair (by omega) (Nat.zero_add _) (Nat.zero_add _) rfl rfl ly47 rfl (Nat.le_of_ble_eq_true rfl) (Nat.le_of_ble_eq_true rfl) (ih (i + 1) G (d - 1) _ (by omega) hG (by omega) ?_)
    have hl := prN_le (σ := σ) (n := n) (x := x) k (i + 1) (nI G)
    refine s_istore (pc' := 21) dX7_pair_19 rfl (Nat.le_of_ble_eq_true rfl) rfl ls4 ?_
    refine s_iload_n (pc' := 22) dX7_pair_21 rfl lg1 ?_
    refine s_iconst (pc' := 23) dX7_pair_22 rfl iconst_1 ?_
    refine s_iadd (pc' := 24) dX7_pair_23 rfl ?_
    rw [nI_1]
    refine s_istore (pc' := 26) dX7_pair_24 rfl (Nat.le_of_ble_eq_true rfl) rfl ls5 ?_
    by_cases hg : nI G &&& b1I i = 0
    · rw [if_pos hg] at K
      have loop : ∀ (m o : Nat) (v6 : Value), o + m = n → i < o → mtN (fun o => decide (i < o) && decide (nI G &&& b1I o = 0) && woB σ i o x) (fun o => prN σ n x k (i + 1) (nI G ||| b1I o)) (prN σ n x k (i + 1) (nI G)) o ≤ 9 → Sim z d 0 0 mX7_pair 26 [.ref 47, .int (nI i), .int x, .int (nI G), .int (nI (mtN (fun o => decide (i < o) && decide (nI G &&& b1I o = 0) && woB σ i o x) (fun o => prN σ n x k (i + 1) (nI G ||| b1I o)) (prN σ n x k (i + 1) (nI G)) o)), .int (nI o), v6] [] (LAY rf tl) mem Q := by
        intro m
        induction m with
        | zero =>
          intro o v6 ho hio hb
          have : o = n := by omega
          subst this
          refine s_iload (pc' := 28) dX7_pair_26 rfl lg5 ?_
          refine s_aload_n (pc' := 29) dX7_pair_28 rfl lg0 rfl ?_
          refine c_X7_many  (pc' := 32) dX7_pair_29 rfl lkX7_101 (by omega) (Nat.le_of_ble_eq_true rfl) ?_
          refine s_icmp_ge (pc' := 35) (tgt := 150) dX7_pair_32 rfl (by decide) (fun _ => ?_) (fun c9 => absurd (by rw [hn]; exact nI_le (by omega) (by omega)) c9)
          refine s_iload (pc' := 152) dX7_pair_150 rfl lg4 ?_
          refine s_iret dX7_pair_152 rfl (vp_nar_int _) ?_
          exact K
        | succ m ihm =>
          intro o v6 ho hio hb
          have yes : ∀ v6, (decide (i < o) && decide (nI G &&& b1I o = 0) && woB σ i o x) = true → Sim z d 0 0 mX7_pair 116 [.ref 47, .int (nI i), .int x, .int (nI G), .int (nI (mtN (fun o => decide (i < o) && decide (nI G &&& b1I o = 0) && woB σ i o x) (fun o => prN σ n x k (i + 1) (nI G ||| b1I o)) (prN σ n x k (i + 1) (nI G)) o)), .int (nI o), v6] [] (LAY rf tl) mem Q := by
            intro v6 hy
            have hp := prN_le (σ := σ) (n := n) (x := x) k (i + 1) (nI G ||| b1I o)
            have hm := fun v => ihm (o + 1) v (by omega) (by omega)
            rw [mtN_t (g := fun o => decide (i < o) && decide (nI G &&& b1I o = 0) && woB σ i o x) hy] at hm
            obtain ⟨G', hG', eG'⟩ := or_b1 (k := o) hG (by omega)
            refine s_iload (pc' := 118) dX7_pair_116 rfl lg4 ?_
            refine s_iconst (pc' := 119) dX7_pair_118 rfl iconst_1 ?_
            refine s_aload_n (pc' := 120) dX7_pair_119 rfl lg0 rfl ?_
            refine s_iload_n (pc' := 121) dX7_pair_120 rfl lg1 ?_
            refine s_iconst (pc' := 122) dX7_pair_121 rfl iconst_1 ?_
            refine s_iadd (pc' := 123) dX7_pair_122 rfl ?_
            rw [nI_1]
            refine s_iload_n (pc' := 124) dX7_pair_123 rfl lg2 ?_
            refine s_iload_n (pc' := 125) dX7_pair_124 rfl lg3 ?_
            refine s_iconst (pc' := 126) dX7_pair_125 rfl iconst_1 ?_
            refine s_iload (pc' := 128) dX7_pair_126 rfl lg5 ?_
            refine s_ishl (pc' := 129) dX7_pair_128 rfl ?_
            refine s_ior (pc' := 130) dX7_pair_129 rfl ?_
            rw [show nI G ||| (1 : Int32) <<< (nI o &&& 31) = nI G' from eG']
            refine s_invV (d2 := d - 1) (pc' := 133) dX7_pair_130 rfl okX7_pair lkX7_267 inX7_pair seX7_pair (by omega) (Nat.zero_add _) (Nat.zero_add _) rfl rfl ly47 rfl (Nat.le_of_ble_eq_true rfl) (Nat.le_of_ble_eq_true rfl) (ih (i + 1) G' (d - 1) _ (by omega) hG' (by omega) ?_)
            rw [eG'] at hm hp
            refine s_iadd (pc' := 134) dX7_pair_133 rfl ?_
            rw [show (1 : Int32) + nI (prN σ n x k (i + 1) (nI G')) = nI (1 + prN σ n x k (i + 1) (nI G')) from nI_add 1 _]
            refine c_J9_max_7cf53 (pc' := 137) dX7_pair_134 rfl lkX7_83 (by omega) (Nat.le_of_ble_eq_true rfl)  ?_
            rw [mx_nI (by omega) (by omega)]
            refine s_goto (tgt := 142) dX7_pair_137 (by decide) ?_
            refine s_istore (pc' := 144) dX7_pair_142 rfl (Nat.le_of_ble_eq_true rfl) rfl ls4 ?_
            refine s_iincN (pc' := 147) dX7_pair_144 rfl lg5 rfl ls5 ?_
            refine s_goto (tgt := 26) dX7_pair_147 (by decide) ?_
            exact hm _ (by omega)
          have no : (decide (i < o) && decide (nI G &&& b1I o = 0) && woB σ i o x) = false → Sim z d 0 0 mX7_pair 108 [.ref 47, .int (nI i), .int x, .int (nI G), .int (nI (mtN (fun o => decide (i < o) && decide (nI G &&& b1I o = 0) && woB σ i o x) (fun o => prN σ n x k (i + 1) (nI G ||| b1I o)) (prN σ n x k (i + 1) (nI G)) o)), .int (nI o), v6] [] (LAY rf tl) mem Q := by
            intro hy
            have hm := fun v => ihm (o + 1) v (by omega) (by omega)
            rw [mtN_f (g := fun o => decide (i < o) && decide (nI G &&& b1I o = 0) && woB σ i o x) hy] at hm
            refine s_iconst (pc' := 109) dX7_pair_108 rfl iconst_0 ?_
            refine s_istore (pc' := 111) dX7_pair_109 rfl (Nat.le_of_ble_eq_true rfl) rfl ls6 ?_
            refine s_iload (pc' := 113) dX7_pair_111 rfl lg6 ?_
            refine s_if_eq (pc' := 116) (tgt := 140) dX7_pair_113 rfl (by decide) (fun _ => ?_) (fun c9 => absurd (rfl) c9)
            refine s_iload (pc' := 142) dX7_pair_140 rfl lg4 ?_
            refine s_istore (pc' := 144) dX7_pair_142 rfl (Nat.le_of_ble_eq_true rfl) rfl ls4 ?_
            refine s_iincN (pc' := 147) dX7_pair_144 rfl lg5 rfl ls5 ?_
            refine s_goto (tgt := 26) dX7_pair_147 (by decide) ?_
            exact hm _ hb
          refine s_iload (pc' := 28) dX7_pair_26 rfl lg5 ?_
          refine s_aload_n (pc' := 29) dX7_pair_28 rfl lg0 rfl ?_
          refine c_X7_many  (pc' := 32) dX7_pair_29 rfl lkX7_101 (by omega) (Nat.le_of_ble_eq_true rfl) ?_
          refine s_icmp_ge (pc' := 35) (tgt := 150) dX7_pair_32 rfl (by decide) (fun c9 => absurd c9 (by rw [hn]; exact nI_ge (by omega) (by omega))) (fun _ => ?_)
          refine s_iload_n (pc' := 36) dX7_pair_35 rfl lg3 ?_
          refine s_iload_n (pc' := 37) dX7_pair_36 rfl lg1 ?_
          refine s_ishr (pc' := 38) dX7_pair_37 rfl ?_
          refine s_iconst (pc' := 39) dX7_pair_38 rfl iconst_1 ?_
          refine s_iand (pc' := 40) dX7_pair_39 rfl ?_
          refine s_if_ne (pc' := 43) (tgt := 150) dX7_pair_40 rfl (by decide) (fun c9 => absurd ((bit_sh hG (by omega)).mpr hg) c9) (fun _ => ?_)
          refine s_iload_n (pc' := 44) dX7_pair_43 rfl lg3 ?_
          refine s_iload (pc' := 46) dX7_pair_44 rfl lg5 ?_
          refine s_ishr (pc' := 47) dX7_pair_46 rfl ?_
          refine s_iconst (pc' := 48) dX7_pair_47 rfl iconst_1 ?_
          refine s_iand (pc' := 49) dX7_pair_48 rfl ?_
          by_cases c2 : nI G &&& b1I o = 0
          · refine s_if_ne (pc' := 52) (tgt := 108) dX7_pair_49 rfl (by decide) (fun c9 => absurd ((bit_sh hG (by omega)).mpr c2) c9) (fun _ => ?_)
            refine s_aload_n (pc' := 53) dX7_pair_52 rfl lg0 rfl ?_
            refine s_iload_n (pc' := 54) dX7_pair_53 rfl lg1 ?_
            refine s_iconst (pc' := 55) dX7_pair_54 rfl iconst_4 ?_
            refine c_X7_of_4  (pc' := 58) dX7_pair_55 rfl lkX7_108 (by omega) (Nat.le_of_ble_eq_true rfl) hM (by omega) ?_
            refine s_aload_n (pc' := 59) dX7_pair_58 rfl lg0 rfl ?_
            refine s_iload (pc' := 61) dX7_pair_59 rfl lg5 ?_
            refine s_iconst (pc' := 62) dX7_pair_61 rfl iconst_4 ?_
            refine c_X7_of_4  (pc' := 65) dX7_pair_62 rfl lkX7_108 (by omega) (Nat.le_of_ble_eq_true rfl) hM (by omega) ?_
            refine s_icmp_eq (pc' := 68) (tgt := 108) dX7_pair_65 rfl (by decide) (fun c3 => ?_) (fun c3 => ?_)
            · skip
              refine no ?_
              unfold woB
              rw [decide_eq_true c3]
              simp
            · skip
              refine s_aload_n (pc' := 69) dX7_pair_68 rfl lg0 rfl ?_
              refine s_iload_n (pc' := 70) dX7_pair_69 rfl lg1 ?_
              refine s_iconst (pc' := 71) dX7_pair_70 rfl iconst_1 ?_
              refine c_X7_of_1  (pc' := 74) dX7_pair_71 rfl lkX7_108 (by omega) (Nat.le_of_ble_eq_true rfl) hM (by omega) ?_
              refine s_aload_n (pc' := 75) dX7_pair_74 rfl lg0 rfl ?_
              refine s_iload (pc' := 77) dX7_pair_75 rfl lg5 ?_
              refine s_iconst (pc' := 78) dX7_pair_77 rfl iconst_1 ?_
              refine c_X7_of_1  (pc' := 81) dX7_pair_78 rfl lkX7_108 (by omega) (Nat.le_of_ble_eq_true rfl) hM (by omega) ?_
              refine s_icmp_ne (pc' := 84) (tgt := 108) dX7_pair_81 rfl (by decide) (fun c4 => ?_) (fun c4 => ?_)
              · skip
                refine no ?_
                unfold woB
                rw [decide_eq_false c4]
                simp
              · skip
                refine s_aload_n (pc' := 85) dX7_pair_84 rfl lg0 rfl ?_
                refine s_iload_n (pc' := 86) dX7_pair_85 rfl lg1 ?_
                refine s_iconst (pc' := 87) dX7_pair_86 rfl iconst_3 ?_
                refine c_X7_of_3  (pc' := 90) dX7_pair_87 rfl lkX7_108 (by omega) (Nat.le_of_ble_eq_true rfl) hM (by omega) ?_
                refine s_aload_n (pc' := 91) dX7_pair_90 rfl lg0 rfl ?_
                refine s_iload (pc' := 93) dX7_pair_91 rfl lg5 ?_
                refine s_iconst (pc' := 94) dX7_pair_93 rfl iconst_3 ?_
                refine c_X7_of_3  (pc' := 97) dX7_pair_94 rfl lkX7_108 (by omega) (Nat.le_of_ble_eq_true rfl) hM (by omega) ?_
                refine c_X7_apart (pc' := 100) dX7_pair_97 rfl lkX7_196 (by omega) (Nat.le_of_ble_eq_true rfl)  ?_
                refine s_iload_n (pc' := 101) dX7_pair_100 rfl lg2 ?_
                refine s_icmp_gt (pc' := 104) (tgt := 108) dX7_pair_101 rfl (by decide) (fun c5 => ?_) (fun c5 => ?_)
                · skip
                  refine no ?_
                  unfold woB
                  rw [decide_eq_true c5]
                  simp
                · skip
                  refine s_iconst (pc' := 105) dX7_pair_104 rfl iconst_1 ?_
                  refine s_goto (tgt := 109) dX7_pair_105 (by decide) ?_
                  refine s_istore (pc' := 111) dX7_pair_109 rfl (Nat.le_of_ble_eq_true rfl) rfl ls6 ?_
                  refine s_iload (pc' := 113) dX7_pair_111 rfl lg6 ?_
                  refine s_if_eq (pc' := 116) (tgt := 140) dX7_pair_113 rfl (by decide) (fun c9 => absurd c9 (by decide)) (fun _ => ?_)
                  refine yes _ ?_
                  unfold woB
                  rw [decide_eq_false c3, decide_eq_true c4, decide_eq_false c5, decide_eq_true c2, decide_eq_true hio]
                  rfl
          · skip
            refine s_if_ne (pc' := 52) (tgt := 108) dX7_pair_49 rfl (by decide) (fun _ => ?_) (fun c9 => absurd c9 (fun e => c2 ((bit_sh hG (by omega)).mp e)))
            refine no ?_
            rw [decide_eq_false c2]
            simp
      have e0 : mtN (fun o => decide (i < o) && decide (nI G &&& b1I o = 0) && woB σ i o x) (fun o => prN σ n x k (i + 1) (nI G ||| b1I o)) (prN σ n x k (i + 1) (nI G)) (i + 1) = prN σ n x k (i + 1) (nI G) := mtN_none (fun o ho => by rw [decide_eq_false (by omega), Bool.false_and, Bool.false_and])
      have := loop (n - (i + 1)) (i + 1) (.float 0) (by omega) (by omega)
      rw [e0] at this
      exact this (by omega)
    · rw [if_neg hg] at K
      refine s_iload (pc' := 28) dX7_pair_26 rfl lg5 ?_
      refine s_aload_n (pc' := 29) dX7_pair_28 rfl lg0 rfl ?_
      refine c_X7_many  (pc' := 32) dX7_pair_29 rfl lkX7_101 (by omega) (Nat.le_of_ble_eq_true rfl) ?_
      refine s_icmp_ge (pc' := 35) (tgt := 150) dX7_pair_32 rfl (by decide) (fun c1 => ?_) (fun c1 => ?_)
      · skip
        refine s_iload (pc' := 152) dX7_pair_150 rfl lg4 ?_
        refine s_iret dX7_pair_152 rfl (vp_nar_int _) ?_
        exact K
      · skip
        refine s_iload_n (pc' := 36) dX7_pair_35 rfl lg3 ?_
        refine s_iload_n (pc' := 37) dX7_pair_36 rfl lg1 ?_
        refine s_ishr (pc' := 38) dX7_pair_37 rfl ?_
        refine s_iconst (pc' := 39) dX7_pair_38 rfl iconst_1 ?_
        refine s_iand (pc' := 40) dX7_pair_39 rfl ?_
        refine s_if_ne (pc' := 43) (tgt := 150) dX7_pair_40 rfl (by decide) (fun _ => ?_) (fun c9 => absurd c9 (fun e => hg ((bit_sh hG (by omega)).mp e)))
        refine s_iload (pc' := 152) dX7_pair_150 rfl lg4 ?_
        refine s_iret dX7_pair_152 rfl (vp_nar_int _) ?_
        exact K
set_option maxHeartbeats 4000000 in
theorem m_X7_twos {z : Zz} {d : Nat} {Q : Option Value → Lay → Mem → Prop} {rf : Nat → Value} {tl : Lay} {mem : Mem}  {n : Nat} {σ : Nat → Nat → Int32} {td ru x : Int32} (hdd : 12 ≤ d) (hM : isM 48 mem σ n td ru) (hok : okS σ n) (K :  Q (some (.int (twoR σ n x))) (LAY rf tl) mem) : Sim z d 0 0 mX7_twos 0 [.ref 47, .int x] [] (LAY rf tl) mem Q := by
  have h8 := hM.2.1
  unfold twoR at K
  rw [mtw_N n 0 0 (by omega), mw_pr hok h8] at K
  refine s_iload_n (pc' := 1) dX7_twos_0 rfl lg1 ?_
  refine s_iconst (pc' := 2) dX7_twos_1 rfl iconst_0 ?_
  refine s_bipush (pc' := 4) dX7_twos_2 rfl bipush_6 ?_
  refine c_X7_isIn  (pc' := 7) dX7_twos_4 rfl lkX7_86 (by omega) (Nat.le_of_ble_eq_true rfl) ?_
  refine s_if_eq (pc' := 10) (tgt := 20) dX7_twos_7 rfl (by decide) (fun c1 => ?_) (fun c1 => ?_)
  · skip
    rw [if_pos c1] at K
    refine s_bipush (pc' := 22) dX7_twos_20 rfl bipush_m2 ?_
    refine s_iret dX7_twos_22 rfl (vp_nar_int _) ?_
    exact K
  · skip
    rw [if_neg c1] at K
    refine s_aload_n (pc' := 11) dX7_twos_10 rfl lg0 rfl ?_
    refine s_iconst (pc' := 12) dX7_twos_11 rfl iconst_0 ?_
    refine s_iload_n (pc' := 13) dX7_twos_12 rfl lg1 ?_
    refine s_iconst (pc' := 14) dX7_twos_13 rfl iconst_0 ?_
    refine s_invV (d2 := d - 1) (pc' := 17) dX7_twos_14 rfl okX7_pair lkX7_267 inX7_pair seX7_pair (by omega) (Nat.zero_add _) (Nat.zero_add _) rfl rfl ly47 rfl (Nat.le_of_ble_eq_true rfl) (Nat.le_of_ble_eq_true rfl) (pa_all hM n 0 0 (d - 1) _ (by omega) (by omega) (by omega) ?_)
    refine s_goto (tgt := 22) dX7_twos_17 (by decide) ?_
    refine s_iret dX7_twos_22 rfl (vp_nar_int _) ?_
    exact K
theorem c_X7_twos {z : Zz} {d kc ks : Nat} {mi : MI} {pc pc' : Nat} {L S : List Value} {Q : Option Value → Lay → Mem → Prop} {rf : Nat → Value} {tl : Lay} {mem : Mem}  {n : Nat} {σ : Nat → Nat → Int32} {td ru x : Int32} {idx : Nat} (hd : decode mi.2.1 pc = .ok (.invokevirtual idx, 3)) (hp : pc + 3 = pc') (hlk : Cond.methodLink mi.1.cls idx yX7_twos ∈ wok) (hdd : 12 + 1 ≤ d) (hcat : (S.map (fun v => v.category)).sum ≤ 8) (hM : isM 48 mem σ n td ru) (hok : okS σ n) (K :  Sim z d kc ks mi pc' L (.int (twoR σ n x) :: S) (LAY rf tl) mem Q) : Sim z d kc ks mi pc L (.int x :: .ref 47 :: S) (LAY rf tl) mem Q :=
  s_invV (d2 := 12) hd hp okX7_twos hlk inX7_twos seX7_twos hdd (Nat.zero_add _) (Nat.zero_add _) rfl rfl ly47 rfl hcat (Nat.le_of_ble_eq_true rfl) (m_X7_twos (Nat.le_refl _) hM hok K)

