/-! ===== the Model: gcd, mean, chance; can, count ===== -/
theorem lcmp0 {b : Nat} (hb : b < 100000) : (lg_cmp (lN b) 0 = 0) ↔ b = 0 := by
  have e : (lN b = 0) ↔ b = 0 := pk_lEQ (a := b) (b := 0) (by omega) (by omega)
  unfold lg_cmp
  by_cases h : b = 0
  · subst h; decide
  · have h1 : lN b > 0 := (pk_lLT (a := 0) (b := b) (by omega) (by omega)).mpr (by omega)
    rw [if_pos h1]
    constructor
    · intro q; exact absurd q (by decide)
    · intro q; exact absurd q h
theorem lN_ne0 {b : Nat} (hb : b < 100000) (h : 0 < b) : ¬ lN b = 0 := fun q => by
  have := (pk_lEQ (a := b) (b := 0) (by omega) (by omega)).mp q
  omega
set_option maxHeartbeats 4000000 in
theorem gc_all {z : Zz} {rf : Nat → Value} {tl : Lay} {mem : Mem} : ∀ (k a b d : Nat) (Q : Option Value → Lay → Mem → Prop), b ≤ k → a < 100000 → b < 100000 → k + 1 ≤ d → Q (some (.long (lN (Nat.gcd a b)))) (LAY rf tl) mem → Sim z d 0 0 mX7_gcd 0 [.long (lN a), .double 0, .long (lN b), .double 0] [] (LAY rf tl) mem Q := by
  intro k
  induction k with
  | zero =>
    intro a b d Q hb ha hb1 hd K
    have : b = 0 := by omega
    subst this
    rw [Nat.gcd_zero_right] at K
    refine s_lload_n (pc' := 1) dX7_gcd_0 rfl lg2 ?_
    refine s_lconst (pc' := 2) (v := 0) dX7_gcd_1 rfl rfl ?_
    refine s_lcmp (pc' := 3) dX7_gcd_2 rfl ?_
    refine s_if_ne (pc' := 6) (tgt := 10) dX7_gcd_3 rfl (by decide) (fun c9 => absurd ((lcmp0 (by omega)).mpr rfl) c9) (fun _ => ?_)
    refine s_lload_n (pc' := 7) dX7_gcd_6 rfl lg0 ?_
    refine s_goto (tgt := 17) dX7_gcd_7 (by decide) ?_
    refine s_lret dX7_gcd_17 rfl ?_
    exact K
  | succ k ih =>
    intro a b d Q hb ha hb1 hd K
    by_cases h0 : b = 0
    · exact ih a b d Q (by omega) ha hb1 (by omega) K
    · refine s_lload_n (pc' := 1) dX7_gcd_0 rfl lg2 ?_
      refine s_lconst (pc' := 2) (v := 0) dX7_gcd_1 rfl rfl ?_
      refine s_lcmp (pc' := 3) dX7_gcd_2 rfl ?_
      refine s_if_ne (pc' := 6) (tgt := 10) dX7_gcd_3 rfl (by decide) (fun _ => ?_) (fun c9 => absurd c9 (fun q => h0 ((lcmp0 hb1).mp q)))
      refine s_lload_n (pc' := 11) dX7_gcd_10 rfl lg2 ?_
      refine s_lload_n (pc' := 12) dX7_gcd_11 rfl lg0 ?_
      refine s_lload_n (pc' := 13) dX7_gcd_12 rfl lg2 ?_
      refine s_lrem (pc' := 14) dX7_gcd_13 rfl (lN_ne0 hb1 (by omega)) ?_
      rw [pk_lRem (by omega) (by omega) (by omega)]
      have hlt : a % b < b := Nat.mod_lt _ (by omega)
      refine s_invS (d2 := d - 1) (pc' := 17) dX7_gcd_14 rfl okX7_gcd lkX7_273 stX7_gcd (by omega) (Nat.zero_add _) (Nat.zero_add _) rfl rfl (Nat.le_of_ble_eq_true rfl) (Nat.le_of_ble_eq_true rfl) (ih b (a % b) (d - 1) _ (by omega) (by omega) (by omega) (by omega) ?_)
      refine s_lret dX7_gcd_17 rfl ?_
      rw [Nat.gcd_comm b (a % b), ← Nat.gcd_rec b a, Nat.gcd_comm]; exact K
theorem gc_two {z : Zz} {rf : Nat → Value} {tl : Lay} {mem : Mem} {k a b d : Nat} {Q : Option Value → Lay → Mem → Prop} (hak : a ≤ k) (ha : a < 100000) (hb : b < 100000) (hd : k + 2 ≤ d) (K : Q (some (.long (lN (Nat.gcd a b)))) (LAY rf tl) mem) : Sim z d 0 0 mX7_gcd 0 [.long (lN a), .double 0, .long (lN b), .double 0] [] (LAY rf tl) mem Q := by
  by_cases h0 : b = 0
  · subst h0
    exact gc_all 0 a 0 d Q (Nat.le_refl _) ha hb (by omega) K
  · refine s_lload_n (pc' := 1) dX7_gcd_0 rfl lg2 ?_
    refine s_lconst (pc' := 2) (v := 0) dX7_gcd_1 rfl rfl ?_
    refine s_lcmp (pc' := 3) dX7_gcd_2 rfl ?_
    refine s_if_ne (pc' := 6) (tgt := 10) dX7_gcd_3 rfl (by decide) (fun _ => ?_) (fun c9 => absurd c9 (fun q => h0 ((lcmp0 hb).mp q)))
    refine s_lload_n (pc' := 11) dX7_gcd_10 rfl lg2 ?_
    refine s_lload_n (pc' := 12) dX7_gcd_11 rfl lg0 ?_
    refine s_lload_n (pc' := 13) dX7_gcd_12 rfl lg2 ?_
    refine s_lrem (pc' := 14) dX7_gcd_13 rfl (lN_ne0 hb (by omega)) ?_
    rw [pk_lRem (by omega) (by omega) (by omega)]
    have hlt : a % b ≤ a := Nat.mod_le _ _
    refine s_invS (d2 := d - 1) (pc' := 17) dX7_gcd_14 rfl okX7_gcd lkX7_273 stX7_gcd (by omega) (Nat.zero_add _) (Nat.zero_add _) rfl rfl (Nat.le_of_ble_eq_true rfl) (Nat.le_of_ble_eq_true rfl) (gc_all k b (a % b) (d - 1) _ (by omega) (by omega) (by omega) (by omega) ?_)
    refine s_lret dX7_gcd_17 rfl ?_
    rw [Nat.gcd_comm b (a % b), ← Nat.gcd_rec b a, Nat.gcd_comm]; exact K
set_option maxHeartbeats 4000000 in
theorem m_X7_mean {z : Zz} {d : Nat} {Q : Option Value → Lay → Mem → Prop} {rf : Nat → Value} {tl : Lay} {mem : Mem}  {n A : Nat} {σ : Nat → Nat → Int32} {td ru part : Int32} (hdd : 11 ≤ d) (hM : isM 48 mem σ n td ru) (hA : suI (σ 2) n = nI A) (hA1 : A < 100000) (K :  Q (some (.long (meaR A n part))) (LAY rf tl) mem) : Sim z d 0 0 mX7_mean 0 [.ref 47, .int part, .float 0, .float 0] [] (LAY rf tl) mem Q := by
  have h8 := hM.2.1
  have hn := hM.1
  unfold meaR at K
  refine s_iload_n (pc' := 1) dX7_mean_0 rfl lg1 ?_
  refine s_iconst (pc' := 2) dX7_mean_1 rfl iconst_0 ?_
  refine s_iconst (pc' := 3) dX7_mean_2 rfl iconst_1 ?_
  refine c_X7_isIn  (pc' := 6) dX7_mean_3 rfl lkX7_86 (by omega) (Nat.le_of_ble_eq_true rfl) ?_
  refine s_if_eq (pc' := 9) (tgt := 16) dX7_mean_6 rfl (by decide) (fun c1 => ?_) (fun c1 => ?_)
  · skip
    rw [if_pos c1] at K
    refine s_ldc2 (pc' := 19) dX7_mean_16 rfl klX7_277 ?_
    refine s_lret dX7_mean_19 rfl ?_
    exact K
  · skip
    rw [if_neg c1] at K
    refine s_aload_n (pc' := 10) dX7_mean_9 rfl lg0 rfl ?_
    refine c_X7_many  (pc' := 13) dX7_mean_10 rfl lkX7_101 (by omega) (Nat.le_of_ble_eq_true rfl) ?_
    rw [hn]
    refine s_if_ne (pc' := 16) (tgt := 20) dX7_mean_13 rfl (by decide) (fun c2 => ?_) (fun c2 => ?_)
    · skip
      have h0 : ¬ n = 0 := fun q => c2 (by rw [q]; exact nI_0)
      rw [if_neg h0] at K
      unfold ltR at K
      have hg : 0 < Nat.gcd n A := Nat.gcd_pos_of_pos_left A (by omega)
      have hgn : Nat.gcd n A ≤ n := Nat.gcd_le_left A (by omega)
      rw [Nat.gcd_comm] at K
      refine s_aload_n (pc' := 21) dX7_mean_20 rfl lg0 rfl ?_
      refine c_X7_many  (pc' := 24) dX7_mean_21 rfl lkX7_101 (by omega) (Nat.le_of_ble_eq_true rfl) ?_
      rw [hn]
      refine s_i2l (pc' := 25) dX7_mean_24 rfl ?_
      rw [nI_l (by omega)]
      refine s_aload_n (pc' := 26) dX7_mean_25 rfl lg0 rfl ?_
      refine c_X7_sharps  (pc' := 29) dX7_mean_26 rfl lkX7_227 (by omega) (Nat.le_of_ble_eq_true rfl) hM ?_
      rw [hA]
      refine s_i2l (pc' := 30) dX7_mean_29 rfl ?_
      rw [nI_l (by omega)]
      refine s_invS (d2 := d - 1) (pc' := 33) dX7_mean_30 rfl okX7_gcd lkX7_273 stX7_gcd (by omega) (Nat.zero_add _) (Nat.zero_add _) rfl rfl (Nat.le_of_ble_eq_true rfl) (Nat.le_of_ble_eq_true rfl) (gc_two (k := 8) (by omega) (by omega) (by omega) (by omega) ?_)
      refine s_lstore_n (pc' := 34) dX7_mean_33 rfl (Nat.le_of_ble_eq_true rfl) rfl lsl2 ?_
      refine s_iload_n (pc' := 35) dX7_mean_34 rfl lg1 ?_
      refine s_if_ne (pc' := 38) (tgt := 48) dX7_mean_35 rfl (by decide) (fun c3 => ?_) (fun c3 => ?_)
      · skip
        rw [if_neg c3] at K
        refine s_aload_n (pc' := 49) dX7_mean_48 rfl lg0 rfl ?_
        refine c_X7_many  (pc' := 52) dX7_mean_49 rfl lkX7_101 (by omega) (Nat.le_of_ble_eq_true rfl) ?_
        rw [hn]
        refine s_i2l (pc' := 53) dX7_mean_52 rfl ?_
        rw [nI_l (by omega)]
        refine s_lload_n (pc' := 54) dX7_mean_53 rfl lg2 ?_
        refine s_ldiv (pc' := 55) dX7_mean_54 rfl (lN_ne0 (by omega) hg) ?_
        rw [pk_lDiv (by omega) hg (by omega)]
        refine s_lret dX7_mean_55 rfl ?_
        exact K
      · skip
        rw [if_pos c3] at K
        refine s_aload_n (pc' := 39) dX7_mean_38 rfl lg0 rfl ?_
        refine c_X7_sharps  (pc' := 42) dX7_mean_39 rfl lkX7_227 (by omega) (Nat.le_of_ble_eq_true rfl) hM ?_
        rw [hA]
        refine s_i2l (pc' := 43) dX7_mean_42 rfl ?_
        rw [nI_l (by omega)]
        refine s_lload_n (pc' := 44) dX7_mean_43 rfl lg2 ?_
        refine s_ldiv (pc' := 45) dX7_mean_44 rfl (lN_ne0 (by omega) hg) ?_
        refine s_goto (tgt := 55) dX7_mean_45 (by decide) ?_
        rw [pk_lDiv (by omega) hg (by omega)]
        refine s_lret dX7_mean_55 rfl ?_
        exact K
    · skip
      rw [nI_eq0 (by omega)] at c2
      rw [if_pos c2] at K
      refine s_ldc2 (pc' := 19) dX7_mean_16 rfl klX7_277 ?_
      refine s_lret dX7_mean_19 rfl ?_
      exact K
theorem c_X7_mean {z : Zz} {d kc ks : Nat} {mi : MI} {pc pc' : Nat} {L S : List Value} {Q : Option Value → Lay → Mem → Prop} {rf : Nat → Value} {tl : Lay} {mem : Mem}  {n A : Nat} {σ : Nat → Nat → Int32} {td ru part : Int32} {idx : Nat} (hd : decode mi.2.1 pc = .ok (.invokevirtual idx, 3)) (hp : pc + 3 = pc') (hlk : Cond.methodLink mi.1.cls idx yX7_mean ∈ wok) (hdd : 11 + 1 ≤ d) (hcat : (S.map (fun v => v.category)).sum ≤ 8) (hM : isM 48 mem σ n td ru) (hA : suI (σ 2) n = nI A) (hA1 : A < 100000) (K :  Sim z d kc ks mi pc' L (.long (meaR A n part) :: S) (LAY rf tl) mem Q) : Sim z d kc ks mi pc L (.int part :: .ref 47 :: S) (LAY rf tl) mem Q :=
  s_invV (d2 := 11) hd hp okX7_mean hlk inX7_mean seX7_mean hdd (Nat.zero_add _) (Nat.zero_add _) rfl rfl ly47 rfl hcat (Nat.le_of_ble_eq_true rfl) (m_X7_mean (Nat.le_refl _) hM hA hA1 K)
set_option maxHeartbeats 4000000 in
theorem m_X7_chance {z : Zz} {d : Nat} {Q : Option Value → Lay → Mem → Prop} {rf : Nat → Value} {tl : Lay} {mem : Mem}  {n w nt : Nat} {σ : Nat → Nat → Int32} {td seed m k part : Int32} {T : Nat → Nat → List Int32} (hdd : 23 ≤ d) (hM : isM 48 mem σ n td (nI w)) (hT : isTM mem nt T) (hw : w < nt) (K : ∀ mem', mtf mem mem' → Q (some (.long (chR σ n td (T w) seed m k part))) (LAY rf tl) mem') : Sim z d 0 0 mX7_chance 0 [.ref 47, .int seed, .int m, .int k, .int part, .float 0, .float 0, .float 0, .float 0] [] (LAY rf tl) mem Q := by
  unfold chR at K
  refine s_iload_n (pc' := 1) dX7_chance_0 rfl lg2 ?_
  refine s_iconst (pc' := 2) dX7_chance_1 rfl iconst_1 ?_
  refine s_bipush (pc' := 4) dX7_chance_2 rfl bipush_20 ?_
  refine c_X7_isIn  (pc' := 7) dX7_chance_4 rfl lkX7_86 (by omega) (Nat.le_of_ble_eq_true rfl) ?_
  refine s_if_eq (pc' := 10) (tgt := 30) dX7_chance_7 rfl (by decide) (fun c1 => ?_) (fun c1 => ?_)
  · skip
    rw [if_pos c1] at K
    refine s_ldc2 (pc' := 33) dX7_chance_30 rfl klX7_277 ?_
    refine s_lret dX7_chance_33 rfl ?_
    exact K mem mtf.rf
  · skip
    rw [if_neg c1] at K
    refine s_iload_n (pc' := 11) dX7_chance_10 rfl lg3 ?_
    refine s_iconst (pc' := 12) dX7_chance_11 rfl iconst_0 ?_
    refine s_bipush (pc' := 14) dX7_chance_12 rfl bipush_8 ?_
    refine c_X7_isIn  (pc' := 17) dX7_chance_14 rfl lkX7_86 (by omega) (Nat.le_of_ble_eq_true rfl) ?_
    refine s_if_eq (pc' := 20) (tgt := 30) dX7_chance_17 rfl (by decide) (fun c2 => ?_) (fun c2 => ?_)
    · skip
      rw [if_pos c2] at K
      refine s_ldc2 (pc' := 33) dX7_chance_30 rfl klX7_277 ?_
      refine s_lret dX7_chance_33 rfl ?_
      exact K mem mtf.rf
    · skip
      rw [if_neg c2] at K
      refine s_iload (pc' := 22) dX7_chance_20 rfl lg4 ?_
      refine s_iconst (pc' := 23) dX7_chance_22 rfl iconst_0 ?_
      refine s_iconst (pc' := 24) dX7_chance_23 rfl iconst_1 ?_
      refine c_X7_isIn  (pc' := 27) dX7_chance_24 rfl lkX7_86 (by omega) (Nat.le_of_ble_eq_true rfl) ?_
      refine s_if_ne (pc' := 30) (tgt := 34) dX7_chance_27 rfl (by decide) (fun c3 => ?_) (fun c3 => ?_)
      · skip
        rw [if_neg c3] at K
        rcases in1_or m with h | ⟨c, hc1, hc, rfl, -⟩
        · exact absurd h c1
        rw [ix_nI (by omega)] at K
        refine s_lconst (pc' := 35) (v := lN 0) dX7_chance_34 rfl rfl ?_
        refine s_lstore (pc' := 37) dX7_chance_35 rfl (Nat.le_of_ble_eq_true rfl) rfl lsl5 ?_
        refine s_iconst (pc' := 38) dX7_chance_37 rfl iconst_0 ?_
        refine s_istore (pc' := 40) dX7_chance_38 rfl (Nat.le_of_ble_eq_true rfl) rfl ls7 ?_
        have loop : ∀ (q i : Nat) (mm : Mem) (v8 : Value), i + q = c → mtf mem mm → Sim z d 0 0 mX7_chance 40 [.ref 47, .int seed, .int (nI c), .int k, .int part, .long (lN (chN σ n td (T w) seed k i)), .double 0, .int (nI i), v8] [] (LAY rf tl) mm Q := by
          intro q
          induction q with
          | zero =>
            intro i mm v8 hi hm
            have : i = c := by omega
            subst this
            have hxl : chN σ n td (T w) seed k i ≤ i := ct_le _ _
            have K2 := K mm hm
            unfold ltR at K2
            rw [Nat.gcd_comm] at K2
            generalize chN σ n td (T w) seed k i = x at hxl K2 ⊢
            have hg : 0 < Nat.gcd i x := Nat.gcd_pos_of_pos_left x (by omega)
            have hgn : Nat.gcd i x ≤ i := Nat.gcd_le_left x (by omega)
            refine s_iload (pc' := 42) dX7_chance_40 rfl lg7 ?_
            refine s_iload_n (pc' := 43) dX7_chance_42 rfl lg2 ?_
            refine s_icmp_ge (pc' := 46) (tgt := 76) dX7_chance_43 rfl (by decide) (fun _ => ?_) (fun c9 => absurd (nI_le (Nat.le_refl _) (by omega)) c9)
            refine s_iload_n (pc' := 77) dX7_chance_76 rfl lg2 ?_
            refine s_i2l (pc' := 78) dX7_chance_77 rfl ?_
            rw [nI_l (by omega)]
            refine s_lload (pc' := 80) dX7_chance_78 rfl lg5 ?_
            refine s_invS (d2 := d - 1) (pc' := 83) dX7_chance_80 rfl okX7_gcd lkX7_273 stX7_gcd (by omega) (Nat.zero_add _) (Nat.zero_add _) rfl rfl (Nat.le_of_ble_eq_true rfl) (Nat.le_of_ble_eq_true rfl) (gc_two (k := 20) (by omega) (by omega) (by omega) (by omega) ?_)
            refine s_lstore (pc' := 85) dX7_chance_83 rfl (Nat.le_of_ble_eq_true rfl) rfl lsl7 ?_
            refine s_iload (pc' := 87) dX7_chance_85 rfl lg4 ?_
            refine s_if_ne (pc' := 90) (tgt := 98) dX7_chance_87 rfl (by decide) (fun c4 => ?_) (fun c4 => ?_)
            · skip
              rw [if_neg c4] at K2
              refine s_iload_n (pc' := 99) dX7_chance_98 rfl lg2 ?_
              refine s_i2l (pc' := 100) dX7_chance_99 rfl ?_
              rw [nI_l (by omega)]
              refine s_lload (pc' := 102) dX7_chance_100 rfl lg7 ?_
              refine s_ldiv (pc' := 103) dX7_chance_102 rfl (lN_ne0 (by omega) hg) ?_
              rw [pk_lDiv (by omega) hg (by omega)]
              refine s_lret dX7_chance_103 rfl ?_
              exact K2
            · skip
              rw [if_pos c4] at K2
              refine s_lload (pc' := 92) dX7_chance_90 rfl lg5 ?_
              refine s_lload (pc' := 94) dX7_chance_92 rfl lg7 ?_
              refine s_ldiv (pc' := 95) dX7_chance_94 rfl (lN_ne0 (by omega) hg) ?_
              refine s_goto (tgt := 103) dX7_chance_95 (by decide) ?_
              rw [pk_lDiv (by omega) hg (by omega)]
              refine s_lret dX7_chance_103 rfl ?_
              exact K2
          | succ q ih =>
            intro i mm v8 hi hm
            refine s_iload (pc' := 42) dX7_chance_40 rfl lg7 ?_
            refine s_iload_n (pc' := 43) dX7_chance_42 rfl lg2 ?_
            refine s_icmp_ge (pc' := 46) (tgt := 76) dX7_chance_43 rfl (by decide) (fun c9 => absurd c9 (nI_ge (by omega) (by omega))) (fun _ => ?_)
            refine s_lload (pc' := 48) dX7_chance_46 rfl lg5 ?_
            refine s_aload_n (pc' := 49) dX7_chance_48 rfl lg0 rfl ?_
            refine s_iload_n (pc' := 50) dX7_chance_49 rfl lg1 ?_
            refine s_iload (pc' := 52) dX7_chance_50 rfl lg7 ?_
            refine s_iadd (pc' := 53) dX7_chance_52 rfl ?_
            refine s_bipush (pc' := 55) dX7_chance_53 rfl bipush_20 ?_
            refine c_X7_drawn  (pc' := 58) dX7_chance_55 rfl lkX7_297 (by omega) (Nat.le_of_ble_eq_true rfl) (hM.mtf hm) (hT.mtf hm) hw (fun m2 t2 => ?_)
            have h1 := ih (i + 1) m2 v8 (by omega) (hm.tr t2)
            rw [chN, ct] at h1
            rw [if_neg (by decide), show ix 20 = 20 from by decide]
            refine s_iload_n (pc' := 59) dX7_chance_58 rfl lg3 ?_
            refine s_icmp_lt (pc' := 62) (tgt := 66) dX7_chance_59 rfl (by decide) (fun c4 => ?_) (fun c4 => ?_)
            · skip
              rw [decide_eq_true c4, Bool.not_true, if_neg Bool.false_ne_true] at h1
              refine s_lconst (pc' := 67) (v := lN 0) dX7_chance_66 rfl rfl ?_
              refine s_ladd (pc' := 68) dX7_chance_67 rfl ?_
              rw [lN_add]
              refine s_lstore (pc' := 70) dX7_chance_68 rfl (Nat.le_of_ble_eq_true rfl) rfl lsl5 ?_
              refine s_iincN (pc' := 73) dX7_chance_70 rfl lg7 rfl ls7 ?_
              refine s_goto (tgt := 40) dX7_chance_73 (by decide) ?_
              exact h1
            · skip
              rw [decide_eq_false c4, Bool.not_false, if_pos rfl] at h1
              refine s_lconst (pc' := 63) (v := lN 1) dX7_chance_62 rfl rfl ?_
              refine s_goto (tgt := 67) dX7_chance_63 (by decide) ?_
              refine s_ladd (pc' := 68) dX7_chance_67 rfl ?_
              rw [lN_add]
              refine s_lstore (pc' := 70) dX7_chance_68 rfl (Nat.le_of_ble_eq_true rfl) rfl lsl5 ?_
              refine s_iincN (pc' := 73) dX7_chance_70 rfl lg7 rfl ls7 ?_
              refine s_goto (tgt := 40) dX7_chance_73 (by decide) ?_
              exact h1
        exact loop c 0 mem _ (by omega) mtf.rf
      · skip
        rw [if_pos c3] at K
        refine s_ldc2 (pc' := 33) dX7_chance_30 rfl klX7_277 ?_
        refine s_lret dX7_chance_33 rfl ?_
        exact K mem mtf.rf
theorem c_X7_chance {z : Zz} {d kc ks : Nat} {mi : MI} {pc pc' : Nat} {L S : List Value} {Q : Option Value → Lay → Mem → Prop} {rf : Nat → Value} {tl : Lay} {mem : Mem}  {n w nt : Nat} {σ : Nat → Nat → Int32} {td seed m k part : Int32} {T : Nat → Nat → List Int32} {idx : Nat} (hd : decode mi.2.1 pc = .ok (.invokevirtual idx, 3)) (hp : pc + 3 = pc') (hlk : Cond.methodLink mi.1.cls idx yX7_chance ∈ wok) (hdd : 23 + 1 ≤ d) (hcat : (S.map (fun v => v.category)).sum ≤ 8) (hM : isM 48 mem σ n td (nI w)) (hT : isTM mem nt T) (hw : w < nt) (K : ∀ mem', mtf mem mem' → Sim z d kc ks mi pc' L (.long (chR σ n td (T w) seed m k part) :: S) (LAY rf tl) mem' Q) : Sim z d kc ks mi pc L (.int part :: .int k :: .int m :: .int seed :: .ref 47 :: S) (LAY rf tl) mem Q :=
  s_invV (d2 := 23) hd hp okX7_chance hlk inX7_chance seX7_chance hdd (Nat.zero_add _) (Nat.zero_add _) rfl rfl ly47 rfl hcat (Nat.le_of_ble_eq_true rfl) (m_X7_chance (Nat.le_refl _) hM hT hw K)
theorem uB01 (σ : Nat → Nat → Int32) (td : Int32) (P : Nat → List Int32) (p q : Nat) : narrow .boolean (.int (uB σ td P p q)) = .int (uB σ td P p q) := by
  unfold uB
  split
  · split <;> rfl
  · rfl
set_option maxHeartbeats 4000000 in
theorem m_X7_isUnlike {z : Zz} {d : Nat} {Q : Option Value → Lay → Mem → Prop} {rf : Nat → Value} {tl : Lay} {mem : Mem}  {n i q w nt : Nat} {σ : Nat → Nat → Int32} {td : Int32} {T : Nat → Nat → List Int32} (hdd : 4 ≤ d) (hM : isM 48 mem σ n td (nI w)) (hi : i < n) (hq : q < n) (hT : isTM mem nt T) (hw : w < nt) (K : ∀ mem', rwf mem mem' → Q (some (.int (uB σ td (T w) i q))) (LAY rf tl) mem') : Sim z d 0 0 mX7_isUnlike 0 [.ref 47, .int (nI i), .int (nI q)] [] (LAY rf tl) mem Q := by
  unfold uB at K
  refine s_aload_n (pc' := 1) dX7_isUnlike_0 rfl lg0 rfl ?_
  refine s_iload_n (pc' := 2) dX7_isUnlike_1 rfl lg1 ?_
  refine s_iload_n (pc' := 3) dX7_isUnlike_2 rfl lg2 ?_
  refine c_X7_clashes  (pc' := 6) dX7_isUnlike_3 rfl lkX7_111 (by omega) (Nat.le_of_ble_eq_true rfl) hM hi hq hT hw (fun m1 s1 => ?_)
  refine s_if_ne (pc' := 9) (tgt := 18) dX7_isUnlike_6 rfl (by decide) (fun c1 => ?_) (fun c1 => ?_)
  · skip
    have K2 := K m1 s1
    rw [if_neg c1] at K2
    refine s_iconst (pc' := 19) dX7_isUnlike_18 rfl iconst_1 ?_
    refine s_goto (tgt := 23) dX7_isUnlike_19 (by decide) ?_
    refine s_iret dX7_isUnlike_23 rfl (by decide) ?_
    exact K2
  · skip
    simp only [if_pos c1] at K
    refine s_aload_n (pc' := 10) dX7_isUnlike_9 rfl lg0 rfl ?_
    refine s_iload_n (pc' := 11) dX7_isUnlike_10 rfl lg2 ?_
    refine s_iload_n (pc' := 12) dX7_isUnlike_11 rfl lg1 ?_
    refine c_X7_clashes  (pc' := 15) dX7_isUnlike_12 rfl lkX7_111 (by omega) (Nat.le_of_ble_eq_true rfl) (hM.rwf s1) hq hi (hT.rwf s1) hw (fun m2 s2 => ?_)
    have K2 := K m2 (rwf.tr s1 s2)
    refine s_if_eq (pc' := 18) (tgt := 22) dX7_isUnlike_15 rfl (by decide) (fun c2 => ?_) (fun c2 => ?_)
    · skip
      rw [if_pos c2] at K2
      refine s_iconst (pc' := 23) dX7_isUnlike_22 rfl iconst_0 ?_
      refine s_iret dX7_isUnlike_23 rfl (by decide) ?_
      exact K2
    · skip
      rw [if_neg c2] at K2
      refine s_iconst (pc' := 19) dX7_isUnlike_18 rfl iconst_1 ?_
      refine s_goto (tgt := 23) dX7_isUnlike_19 (by decide) ?_
      refine s_iret dX7_isUnlike_23 rfl (by decide) ?_
      exact K2
theorem c_X7_isUnlike {z : Zz} {d kc ks : Nat} {mi : MI} {pc pc' : Nat} {L S : List Value} {Q : Option Value → Lay → Mem → Prop} {rf : Nat → Value} {tl : Lay} {mem : Mem}  {n i q w nt : Nat} {σ : Nat → Nat → Int32} {td : Int32} {T : Nat → Nat → List Int32} {idx : Nat} (hd : decode mi.2.1 pc = .ok (.invokevirtual idx, 3)) (hp : pc + 3 = pc') (hlk : Cond.methodLink mi.1.cls idx yX7_isUnlike ∈ wok) (hdd : 4 + 1 ≤ d) (hcat : (S.map (fun v => v.category)).sum ≤ 8) (hM : isM 48 mem σ n td (nI w)) (hi : i < n) (hq : q < n) (hT : isTM mem nt T) (hw : w < nt) (K : ∀ mem', rwf mem mem' → Sim z d kc ks mi pc' L (.int (uB σ td (T w) i q) :: S) (LAY rf tl) mem' Q) : Sim z d kc ks mi pc L (.int (nI q) :: .int (nI i) :: .ref 47 :: S) (LAY rf tl) mem Q :=
  s_invV (d2 := 4) hd hp okX7_isUnlike hlk inX7_isUnlike seX7_isUnlike hdd (Nat.zero_add _) (Nat.zero_add _) rfl rfl ly47 rfl hcat (Nat.le_of_ble_eq_true rfl) (m_X7_isUnlike (Nat.le_refl _) hM hi hq hT hw K)
set_option maxHeartbeats 4000000 in
theorem m_X7_can {z : Zz} {d : Nat} {Q : Option Value → Lay → Mem → Prop} {rf : Nat → Value} {tl : Lay} {mem : Mem}  {n w nt : Nat} {σ : Nat → Nat → Int32} {td p q : Int32} {T : Nat → Nat → List Int32} (hdd : 5 ≤ d) (hM : isM 48 mem σ n td (nI w)) (hT : isTM mem nt T) (hw : w < nt) (K : ∀ mem', rwf mem mem' → Q (some (.int (canR σ n td (T w) p q))) (LAY rf tl) mem') : Sim z d 0 0 mX7_can 0 [.ref 47, .int p, .int q] [] (LAY rf tl) mem Q := by
  have h8 := hM.2.1
  unfold canR at K
  refine s_aload_n (pc' := 1) dX7_can_0 rfl lg0 rfl ?_
  refine s_iload_n (pc' := 2) dX7_can_1 rfl lg1 ?_
  refine s_iload_n (pc' := 3) dX7_can_2 rfl lg2 ?_
  refine c_X7_isTwo  (pc' := 6) dX7_can_3 rfl lkX7_242 (by omega) (Nat.le_of_ble_eq_true rfl) hM.1 h8 ?_
  refine s_if_ne (pc' := 9) (tgt := 14) dX7_can_6 rfl (by decide) (fun c0 => ?_) (fun c0 => ?_)
  · skip
    simp only [if_neg c0] at K
    rcases tw_or p q (n := n) (by omega) with h | ⟨a, b, ha, hb, hab, rfl, rfl, -⟩
    · exact absurd h c0
    rw [ix_nI (by omega), ix_nI (by omega)] at K
    refine s_aload_n (pc' := 15) dX7_can_14 rfl lg0 rfl ?_
    refine s_iload_n (pc' := 16) dX7_can_15 rfl lg1 ?_
    refine s_iload_n (pc' := 17) dX7_can_16 rfl lg2 ?_
    refine c_X7_isUnlike  (pc' := 20) dX7_can_17 rfl lkX7_261 (by omega) (Nat.le_of_ble_eq_true rfl) hM ha hb hT hw (fun m1 s1 => ?_)
    have K2 := K m1 s1
    refine s_if_eq (pc' := 23) (tgt := 27) dX7_can_20 rfl (by decide) (fun c1 => ?_) (fun c1 => ?_)
    · skip
      rw [if_pos c1] at K2
      refine s_iconst (pc' := 28) dX7_can_27 rfl iconst_1 ?_
      refine s_iret dX7_can_28 rfl (vp_nar_int _) ?_
      exact K2
    · skip
      rw [if_neg c1] at K2
      refine s_iconst (pc' := 24) dX7_can_23 rfl iconst_0 ?_
      refine s_goto (tgt := 28) dX7_can_24 (by decide) ?_
      refine s_iret dX7_can_28 rfl (vp_nar_int _) ?_
      exact K2
  · skip
    simp only [if_pos c0] at K
    refine s_bipush (pc' := 11) dX7_can_9 rfl bipush_m2 ?_
    refine s_goto (tgt := 28) dX7_can_11 (by decide) ?_
    refine s_iret dX7_can_28 rfl (vp_nar_int _) ?_
    exact K mem rwf.rf
theorem c_X7_can {z : Zz} {d kc ks : Nat} {mi : MI} {pc pc' : Nat} {L S : List Value} {Q : Option Value → Lay → Mem → Prop} {rf : Nat → Value} {tl : Lay} {mem : Mem}  {n w nt : Nat} {σ : Nat → Nat → Int32} {td p q : Int32} {T : Nat → Nat → List Int32} {idx : Nat} (hd : decode mi.2.1 pc = .ok (.invokevirtual idx, 3)) (hp : pc + 3 = pc') (hlk : Cond.methodLink mi.1.cls idx yX7_can ∈ wok) (hdd : 5 + 1 ≤ d) (hcat : (S.map (fun v => v.category)).sum ≤ 8) (hM : isM 48 mem σ n td (nI w)) (hT : isTM mem nt T) (hw : w < nt) (K : ∀ mem', rwf mem mem' → Sim z d kc ks mi pc' L (.int (canR σ n td (T w) p q) :: S) (LAY rf tl) mem' Q) : Sim z d kc ks mi pc L (.int q :: .int p :: .ref 47 :: S) (LAY rf tl) mem Q :=
  s_invV (d2 := 5) hd hp okX7_can hlk inX7_can seX7_can hdd (Nat.zero_add _) (Nat.zero_add _) rfl rfl ly47 rfl hcat (Nat.le_of_ble_eq_true rfl) (m_X7_can (Nat.le_refl _) hM hT hw K)
def csM (f : Nat → Nat → Bool) : Nat → Nat
  | 0 => 0
  | i + 1 => csM f i + ct (f i) i
theorem rs_step {f : Nat → Nat → Bool} {n : Nat} : ∀ {m : Nat}, m ≤ n → rs f (n + 1) m = rs f n m + ct (fun i => f i n) m
  | 0, _ => rfl
  | m + 1, h => by
    have h1 := rs_step (f := f) (n := n) (m := m) (by omega)
    have h2 := ct_mono (f m) h
    have h3 : ct (f m) (n + 1) = ct (f m) n + (if f m n then 1 else 0) := rfl
    have h4 : ct (fun i => f i n) (m + 1) = ct (fun i => f i n) m + (if f m n then 1 else 0) := rfl
    rw [rs, rs, h1, h3, h4]
    omega
theorem rs_cs {f : Nat → Nat → Bool} (hs : ∀ i j, f i j = f j i) : ∀ n, rs f n n = csM f n
  | 0 => rfl
  | n + 1 => by
    rw [rs, rs_step (Nat.le_refl n), rs_cs hs n, csM, ct_cong (p := fun i => f i n) (q := f n) (fun k _ => hs k n)]
    omega
set_option maxHeartbeats 4000000 in
theorem m_X7_cants {z : Zz} {d : Nat} {Q : Option Value → Lay → Mem → Prop} {rf : Nat → Value} {tl : Lay} {mem : Mem}  {n w nt : Nat} {σ : Nat → Nat → Int32} {td : Int32} {T : Nat → Nat → List Int32} (hdd : 5 ≤ d) (hM : isM 48 mem σ n td (nI w)) (hT : isTM mem nt T) (hw : w < nt) (K : ∀ mem', rwf mem mem' → Q (some (.int (nI (csM (fun i j => !decide (uB σ td (T w) i j = 0)) n)))) (LAY rf tl) mem') : Sim z d 0 0 mX7_cants 0 [.ref 47, .float 0, .float 0, .float 0] [] (LAY rf tl) mem Q := by
  have h8 := hM.2.1
  have inner : ∀ (i : Nat), i < n → ∀ (k j c : Nat) (m : Mem), j + k = i → rwf mem m → (∀ m', rwf mem m' → Sim z d 0 0 mX7_cants 42 [.ref 47, .int (nI (c + ct (fun j => !decide (uB σ td (T w) i j = 0)) i)), .int (nI i), .int (nI i)] [] (LAY rf tl) m' Q) → Sim z d 0 0 mX7_cants 14 [.ref 47, .int (nI (c + ct (fun j => !decide (uB σ td (T w) i j = 0)) j)), .int (nI i), .int (nI j)] [] (LAY rf tl) m Q := by
    intro i hi k
    induction k with
    | zero =>
      intro j c m hj hm KK
      have : j = i := by omega
      subst this
      refine s_iload_n (pc' := 15) dX7_cants_14 rfl lg3 ?_
      refine s_iload_n (pc' := 16) dX7_cants_15 rfl lg2 ?_
      refine s_icmp_ge (pc' := 19) (tgt := 42) dX7_cants_16 rfl (by decide) (fun _ => ?_) (fun c9 => absurd (nI_le (Nat.le_refl _) (by omega)) c9)
      exact KK m hm
    | succ k ih =>
      intro j c m hj hm KK
      refine s_iload_n (pc' := 15) dX7_cants_14 rfl lg3 ?_
      refine s_iload_n (pc' := 16) dX7_cants_15 rfl lg2 ?_
      refine s_icmp_ge (pc' := 19) (tgt := 42) dX7_cants_16 rfl (by decide) (fun c9 => absurd c9 (nI_ge (by omega) (by omega))) (fun _ => ?_)
      refine s_iload_n (pc' := 20) dX7_cants_19 rfl lg1 ?_
      refine s_aload_n (pc' := 21) dX7_cants_20 rfl lg0 rfl ?_
      refine s_iload_n (pc' := 22) dX7_cants_21 rfl lg2 ?_
      refine s_iload_n (pc' := 23) dX7_cants_22 rfl lg3 ?_
      refine c_X7_isUnlike  (pc' := 26) dX7_cants_23 rfl lkX7_261 (by omega) (Nat.le_of_ble_eq_true rfl) (hM.rwf hm) hi (by omega) (hT.rwf hm) hw (fun m1 s1 => ?_)
      have h1 := ih (j + 1) c m1 (by omega) (hm.tr s1) KK
      rw [ct, ← Nat.add_assoc] at h1
      refine s_if_eq (pc' := 29) (tgt := 33) dX7_cants_26 rfl (by decide) (fun c1 => ?_) (fun c1 => ?_)
      · skip
        rw [decide_eq_true c1, Bool.not_true, if_neg Bool.false_ne_true] at h1
        refine s_iconst (pc' := 34) dX7_cants_33 rfl iconst_0 ?_
        refine s_iadd (pc' := 35) dX7_cants_34 rfl ?_
        rw [show nI (c + ct (fun j => !decide (uB σ td (T w) i j = 0)) j) + 0 = nI (c + ct (fun j => !decide (uB σ td (T w) i j = 0)) j + 0) from nI_add _ 0]
        refine s_istore_n (pc' := 36) dX7_cants_35 rfl (Nat.le_of_ble_eq_true rfl) rfl ls1 ?_
        refine s_iincN (pc' := 39) dX7_cants_36 rfl lg3 rfl ls3 ?_
        refine s_goto (tgt := 14) dX7_cants_39 (by decide) ?_
        exact h1
      · skip
        rw [decide_eq_false c1, Bool.not_false, if_pos rfl] at h1
        refine s_iconst (pc' := 30) dX7_cants_29 rfl iconst_1 ?_
        refine s_goto (tgt := 34) dX7_cants_30 (by decide) ?_
        refine s_iadd (pc' := 35) dX7_cants_34 rfl ?_
        rw [nI_1]
        refine s_istore_n (pc' := 36) dX7_cants_35 rfl (Nat.le_of_ble_eq_true rfl) rfl ls1 ?_
        refine s_iincN (pc' := 39) dX7_cants_36 rfl lg3 rfl ls3 ?_
        refine s_goto (tgt := 14) dX7_cants_39 (by decide) ?_
        exact h1
  refine s_iconst (pc' := 1) dX7_cants_0 rfl iconst_0 ?_
  refine s_istore_n (pc' := 2) dX7_cants_1 rfl (Nat.le_of_ble_eq_true rfl) rfl ls1 ?_
  refine s_iconst (pc' := 3) dX7_cants_2 rfl iconst_0 ?_
  refine s_istore_n (pc' := 4) dX7_cants_3 rfl (Nat.le_of_ble_eq_true rfl) rfl ls2 ?_
  have loop : ∀ (k i : Nat) (m : Mem) (v3 : Value), i + k = n → rwf mem m → Sim z d 0 0 mX7_cants 4 [.ref 47, .int (nI (csM (fun i j => !decide (uB σ td (T w) i j = 0)) i)), .int (nI i), v3] [] (LAY rf tl) m Q := by
    intro k
    induction k with
    | zero =>
      intro i m v3 hi hm
      have hn := (hM.rwf hm).1
      have : i = n := by omega
      subst this
      refine s_iload_n (pc' := 5) dX7_cants_4 rfl lg2 ?_
      refine s_aload_n (pc' := 6) dX7_cants_5 rfl lg0 rfl ?_
      refine c_X7_many  (pc' := 9) dX7_cants_6 rfl lkX7_101 (by omega) (Nat.le_of_ble_eq_true rfl) ?_
      refine s_icmp_ge (pc' := 12) (tgt := 48) dX7_cants_9 rfl (by decide) (fun _ => ?_) (fun c9 => absurd (by rw [hn]; exact nI_le (by omega) (by omega)) c9)
      refine s_iload_n (pc' := 49) dX7_cants_48 rfl lg1 ?_
      refine s_iret dX7_cants_49 rfl (vp_nar_int _) ?_
      exact K m hm
    | succ k ih =>
      intro i m v3 hi hm
      have hn := (hM.rwf hm).1
      refine s_iload_n (pc' := 5) dX7_cants_4 rfl lg2 ?_
      refine s_aload_n (pc' := 6) dX7_cants_5 rfl lg0 rfl ?_
      refine c_X7_many  (pc' := 9) dX7_cants_6 rfl lkX7_101 (by omega) (Nat.le_of_ble_eq_true rfl) ?_
      refine s_icmp_ge (pc' := 12) (tgt := 48) dX7_cants_9 rfl (by decide) (fun c9 => absurd c9 (by rw [hn]; exact nI_ge (by omega) (by omega))) (fun _ => ?_)
      refine s_iconst (pc' := 13) dX7_cants_12 rfl iconst_0 ?_
      refine s_istore_n (pc' := 14) dX7_cants_13 rfl (Nat.le_of_ble_eq_true rfl) rfl ls3 ?_
      refine inner i (by omega) i 0 (csM (fun i j => !decide (uB σ td (T w) i j = 0)) i) m (by omega) hm (fun m' hm' => ?_)
      refine s_iincN (pc' := 45) dX7_cants_42 rfl lg2 rfl ls2 ?_
      refine s_goto (tgt := 4) dX7_cants_45 (by decide) ?_
      exact ih (i + 1) m' _ (by omega) hm'
  exact loop n 0 mem _ (by omega) rwf.rf
theorem c_X7_cants {z : Zz} {d kc ks : Nat} {mi : MI} {pc pc' : Nat} {L S : List Value} {Q : Option Value → Lay → Mem → Prop} {rf : Nat → Value} {tl : Lay} {mem : Mem}  {n w nt : Nat} {σ : Nat → Nat → Int32} {td : Int32} {T : Nat → Nat → List Int32} {idx : Nat} (hd : decode mi.2.1 pc = .ok (.invokevirtual idx, 3)) (hp : pc + 3 = pc') (hlk : Cond.methodLink mi.1.cls idx yX7_cants ∈ wok) (hdd : 5 + 1 ≤ d) (hcat : (S.map (fun v => v.category)).sum ≤ 8) (hM : isM 48 mem σ n td (nI w)) (hT : isTM mem nt T) (hw : w < nt) (K : ∀ mem', rwf mem mem' → Sim z d kc ks mi pc' L (.int (nI (csM (fun i j => !decide (uB σ td (T w) i j = 0)) n)) :: S) (LAY rf tl) mem' Q) : Sim z d kc ks mi pc L (.ref 47 :: S) (LAY rf tl) mem Q :=
  s_invV (d2 := 5) hd hp okX7_cants hlk inX7_cants seX7_cants hdd (Nat.zero_add _) (Nat.zero_add _) rfl rfl ly47 rfl hcat (Nat.le_of_ble_eq_true rfl) (m_X7_cants (Nat.le_refl _) hM hT hw K)
set_option maxHeartbeats 4000000 in
theorem m_X7_count {z : Zz} {d : Nat} {Q : Option Value → Lay → Mem → Prop} {rf : Nat → Value} {tl : Lay} {mem : Mem}  {n w nt tn : Nat} {σ : Nat → Nat → Int32} {td what : Int32} {T : Nat → Nat → List Int32} (hdd : 6 ≤ d) (hM : isM 48 mem σ n td (nI w)) (hT : isTM mem nt T) (hw : w < nt) (htn : mem 47 5 = nI tn) (K : ∀ mem', rwf mem mem' → Q (some (.int (couR σ n td T w nt tn what))) (LAY rf tl) mem') : Sim z d 0 0 mX7_count 0 [.ref 47, .int what] [] (LAY rf tl) mem Q := by
  have K0 := K mem rwf.rf
  have hsy : ∀ i j, (!decide (uB σ td (T w) i j = 0)) = !decide (uB σ td (T w) j i = 0) := fun i j => by rw [uB_sym]
  unfold couR at K K0
  rw [rs_cs hsy] at K K0
  rw [← hM.1, ← hM.2.2.1, ← hT.1, ← htn, ← hM.2.2.2.1] at K0
  refine s_iload_n (pc' := 1) dX7_count_0 rfl lg1 ?_
  refine s_ts6 (v0 := 0) (v1 := 1) (v2 := 2) (v3 := 3) (v4 := 4) (v5 := 5) (t0 := 40) (t1 := 45) (t2 := 50) (t3 := 58) (t4 := 63) (t5 := 68) (td := 76) dX7_count_1 (by decide) (by decide) (by decide) (by decide) (by decide) (by decide) (by decide) (by decide) (by decide) (by decide) (by decide) (by decide) (by decide) (by decide) (fun e1 => ?_) (fun e1 => ?_) (fun e1 => ?_) (fun e1 => ?_) (fun e1 => ?_) (fun e1 => ?_) (fun e1_0 e1_1 e1_2 e1_3 e1_4 e1_5 => ?_)
  · refine s_aload_n (pc' := 41) dX7_count_40 rfl lg0 rfl ?_
    refine c_X7_many (pc' := 44) dX7_count_41 rfl lkX7_101 (by omega) (Nat.le_of_ble_eq_true rfl)  ?_
    refine s_iret dX7_count_44 rfl (vp_nar_int _) ?_
    (first | (have K2 := K m1 t1; simpa [e1] using K2) | (simpa [e1] using K0))
  · refine s_aload_n (pc' := 46) dX7_count_45 rfl lg0 rfl ?_
    refine c_X7_cants (pc' := 49) dX7_count_46 rfl lkX7_304 (by omega) (Nat.le_of_ble_eq_true rfl) hM hT hw ?_
    intro m1 t1
    refine s_iret dX7_count_49 rfl (vp_nar_int _) ?_
    (first | (have K2 := K m1 t1; simpa [e1] using K2) | (simpa [e1] using K0))
  · refine s_aload_n (pc' := 51) dX7_count_50 rfl lg0 rfl ?_
    refine s_getRv (pc' := 54) (v := .ref 48) dX7_count_51 rfl flX7_7 ly47 (by decide) rfl rfl ?_
    refine s_bipush (pc' := 56) dX7_count_54 rfl bipush_41 ?_
    refine s_ialdN (pc' := 57) (k := 41) dX7_count_56 rfl ly48 (by decide) (by decide) ?_
    refine s_iret dX7_count_57 rfl (vp_nar_int _) ?_
    (first | (have K2 := K m1 t1; simpa [e1] using K2) | (simpa [e1] using K0))
  · refine s_aload_n (pc' := 59) dX7_count_58 rfl lg0 rfl ?_
    refine s_getI (pc' := 62) dX7_count_59 rfl flX7_32 ly47 (by decide) rfl ?_
    refine s_iret dX7_count_62 rfl (vp_nar_int _) ?_
    (first | (have K2 := K m1 t1; simpa [e1] using K2) | (simpa [e1] using K0))
  · refine s_aload_n (pc' := 64) dX7_count_63 rfl lg0 rfl ?_
    refine s_getI (pc' := 67) dX7_count_64 rfl flX7_127 ly47 (by decide) rfl ?_
    refine s_iret dX7_count_67 rfl (vp_nar_int _) ?_
    (first | (have K2 := K m1 t1; simpa [e1] using K2) | (simpa [e1] using K0))
  · refine s_aload_n (pc' := 69) dX7_count_68 rfl lg0 rfl ?_
    refine s_getRv (pc' := 72) (v := .ref 48) dX7_count_69 rfl flX7_7 ly47 (by decide) rfl rfl ?_
    refine s_bipush (pc' := 74) dX7_count_72 rfl bipush_42 ?_
    refine s_ialdN (pc' := 75) (k := 42) dX7_count_74 rfl ly48 (by decide) (by decide) ?_
    refine s_iret dX7_count_75 rfl (vp_nar_int _) ?_
    (first | (have K2 := K m1 t1; simpa [e1] using K2) | (simpa [e1] using K0))
  · refine s_bipush (pc' := 78) dX7_count_76 rfl bipush_m2 ?_
    refine s_iret dX7_count_78 rfl (vp_nar_int _) ?_
    (first | (have K2 := K m1 t1; simpa [e1_0, e1_1, e1_2, e1_3, e1_4, e1_5] using K2) | (simpa [e1_0, e1_1, e1_2, e1_3, e1_4, e1_5] using K0))
theorem c_X7_count {z : Zz} {d kc ks : Nat} {mi : MI} {pc pc' : Nat} {L S : List Value} {Q : Option Value → Lay → Mem → Prop} {rf : Nat → Value} {tl : Lay} {mem : Mem}  {n w nt tn : Nat} {σ : Nat → Nat → Int32} {td what : Int32} {T : Nat → Nat → List Int32} {idx : Nat} (hd : decode mi.2.1 pc = .ok (.invokevirtual idx, 3)) (hp : pc + 3 = pc') (hlk : Cond.methodLink mi.1.cls idx yX7_count ∈ wok) (hdd : 6 + 1 ≤ d) (hcat : (S.map (fun v => v.category)).sum ≤ 8) (hM : isM 48 mem σ n td (nI w)) (hT : isTM mem nt T) (hw : w < nt) (htn : mem 47 5 = nI tn) (K : ∀ mem', rwf mem mem' → Sim z d kc ks mi pc' L (.int (couR σ n td T w nt tn what) :: S) (LAY rf tl) mem' Q) : Sim z d kc ks mi pc L (.int what :: .ref 47 :: S) (LAY rf tl) mem Q :=
  s_invV (d2 := 6) hd hp okX7_count hlk inX7_count seX7_count hdd (Nat.zero_add _) (Nat.zero_add _) rfl rfl ly47 rfl hcat (Nat.le_of_ble_eq_true rfl) (m_X7_count (Nat.le_refl _) hM hT hw htn K)

