/-! ===== chance, mean, image, back, count, can ===== -/
theorem NOv : (-4611686018427387904 : Int64) = -4611686018427387904 := rfl
def ltR (a b : Nat) (part : Int32) : Int64 := if part = 0 then lN (a / Nat.gcd a b) else lN (b / Nat.gcd a b)
set_option maxHeartbeats 4000000 in
theorem m_X6_inLowestTerms {z : Zz} {d : Nat} {Q : Option Value → Lay → Mem → Prop} {lay : Lay} {mem : Mem} {a b : Nat} {part : Int32} (hdd : 0 ≤ d) (ha : a < 100000) (hb1 : 1 ≤ b) (hb : b ≤ 60) (K :  Q (some (.long (ltR a b part))) lay mem) : Sim z d 0 0 mX6_inLowestTerms 0 [.int (nI a), .int (nI b), .int part, .float 0, .float 0, .float 0, .float 0] [] (lay) mem Q := by
  have hg : 0 < Nat.gcd a b := Nat.gcd_pos_of_pos_right a hb1
  have hgb : Nat.gcd a b ≤ b := Nat.gcd_le_right a hb1
  have fin : ∀ (v5 v6 : Value) (v4 : Value), Sim z d 0 0 mX6_inLowestTerms 39 [.int (nI a), .int (nI b), .int part, .int (nI (Nat.gcd a b)), v4, v5, v6] [] lay mem Q := by
    intro v5 v6 v4
    have hne : ¬ nI (Nat.gcd a b) = 0 := nI_ne0 hg (by omega)
    unfold ltR at K
    refine s_iload_n (pc' := 40) dX6_inLowestTerms_39 rfl lg3 ?_
    refine s_if_ne (pc' := 43) (tgt := 47) dX6_inLowestTerms_40 rfl (by decide) (fun _ => ?_) (fun c9 => absurd c9 (hne))
    refine s_iload_n (pc' := 48) dX6_inLowestTerms_47 rfl lg2 ?_
    refine s_if_ne (pc' := 51) (tgt := 58) dX6_inLowestTerms_48 rfl (by decide) (fun c1 => ?_) (fun c1 => ?_)
    · skip
      rw [if_neg c1] at K
      refine s_iload_n (pc' := 59) dX6_inLowestTerms_58 rfl lg1 ?_
      refine s_iload_n (pc' := 60) dX6_inLowestTerms_59 rfl lg3 ?_
      refine s_idiv (pc' := 61) dX6_inLowestTerms_60 rfl hne ?_
      rw [pk_div (by omega) hg (by omega)]
      refine s_i2l (pc' := 62) dX6_inLowestTerms_61 rfl ?_
      rw [nI_l (Nat.lt_of_le_of_lt (Nat.div_le_self _ _) (by omega))]
      refine s_lret dX6_inLowestTerms_62 rfl ?_
      exact K
    · skip
      rw [if_pos c1] at K
      refine s_iload_n (pc' := 52) dX6_inLowestTerms_51 rfl lg0 ?_
      refine s_iload_n (pc' := 53) dX6_inLowestTerms_52 rfl lg3 ?_
      refine s_idiv (pc' := 54) dX6_inLowestTerms_53 rfl hne ?_
      rw [pk_div (by omega) hg (by omega)]
      refine s_i2l (pc' := 55) dX6_inLowestTerms_54 rfl ?_
      refine s_goto (tgt := 62) dX6_inLowestTerms_55 (by decide) ?_
      rw [nI_l (Nat.lt_of_le_of_lt (Nat.div_le_self _ _) (by omega))]
      refine s_lret dX6_inLowestTerms_62 rfl ?_
      exact K
  have loop : ∀ (k x y i : Nat) (v6 : Value), y ≤ k → x < 100000 → i + y ≤ 63 → Nat.gcd x y = Nat.gcd a b → Sim z d 0 0 mX6_inLowestTerms 8 [.int (nI a), .int (nI b), .int part, .int (nI x), .int (nI y), .int (nI i), v6] [] lay mem Q := by
    intro k
    induction k with
    | zero =>
      intro x y i v6 hy hx hi hxy
      have : y = 0 := by omega
      subst this
      rw [Nat.gcd_zero_right] at hxy
      subst hxy
      refine s_iload (pc' := 10) dX6_inLowestTerms_8 rfl lg5 ?_
      refine s_bipush (pc' := 12) dX6_inLowestTerms_10 rfl bipush_64 ?_
      refine s_icmp_ge (pc' := 15) (tgt := 39) dX6_inLowestTerms_12 rfl (by decide) (fun c9 => absurd c9 (fun q => by have := (nI_leI (a := 64) (b := i) (by omega) (by omega)).mp q; omega)) (fun _ => ?_)
      refine s_iload (pc' := 17) dX6_inLowestTerms_15 rfl lg4 ?_
      refine s_if_eq (pc' := 20) (tgt := 39) dX6_inLowestTerms_17 rfl (by decide) (fun _ => ?_) (fun c9 => absurd (nI_0) c9)
      exact fin _ _ _
    | succ k ih =>
      intro x y i v6 hy hx hi hxy
      by_cases h0 : y = 0
      · exact ih x y i v6 (by omega) hx hi hxy
      · skip
        refine s_iload (pc' := 10) dX6_inLowestTerms_8 rfl lg5 ?_
        refine s_bipush (pc' := 12) dX6_inLowestTerms_10 rfl bipush_64 ?_
        refine s_icmp_ge (pc' := 15) (tgt := 39) dX6_inLowestTerms_12 rfl (by decide) (fun c9 => absurd c9 (fun q => by have := (nI_leI (a := 64) (b := i) (by omega) (by omega)).mp q; omega)) (fun _ => ?_)
        refine s_iload (pc' := 17) dX6_inLowestTerms_15 rfl lg4 ?_
        refine s_if_eq (pc' := 20) (tgt := 39) dX6_inLowestTerms_17 rfl (by decide) (fun c9 => absurd c9 (nI_ne0 (by omega) (by omega))) (fun _ => ?_)
        refine s_iload_n (pc' := 21) dX6_inLowestTerms_20 rfl lg3 ?_
        refine s_iload (pc' := 23) dX6_inLowestTerms_21 rfl lg4 ?_
        refine s_irem (pc' := 24) dX6_inLowestTerms_23 rfl (nI_ne0 (by omega) (by omega)) ?_
        rw [pk_rem (by omega) (by omega) (by omega)]
        refine s_istore (pc' := 26) dX6_inLowestTerms_24 rfl (Nat.le_of_ble_eq_true rfl) rfl ls6 ?_
        refine s_iload (pc' := 28) dX6_inLowestTerms_26 rfl lg4 ?_
        refine s_istore_n (pc' := 29) dX6_inLowestTerms_28 rfl (Nat.le_of_ble_eq_true rfl) rfl ls3 ?_
        refine s_iload (pc' := 31) dX6_inLowestTerms_29 rfl lg6 ?_
        refine s_istore (pc' := 33) dX6_inLowestTerms_31 rfl (Nat.le_of_ble_eq_true rfl) rfl ls4 ?_
        refine s_iincN (pc' := 36) dX6_inLowestTerms_33 rfl lg5 rfl ls5 ?_
        refine s_goto (tgt := 8) dX6_inLowestTerms_36 (by decide) ?_
        have hlt : x % y < y := Nat.mod_lt _ (by omega)
        refine ih y (x % y) (i + 1) _ (by omega) (by omega) (by omega) ?_
        rw [← hxy, Nat.gcd_comm x y, Nat.gcd_rec y x, Nat.gcd_comm]
  refine s_iload_n (pc' := 1) dX6_inLowestTerms_0 rfl lg0 ?_
  refine s_istore_n (pc' := 2) dX6_inLowestTerms_1 rfl (Nat.le_of_ble_eq_true rfl) rfl ls3 ?_
  refine s_iload_n (pc' := 3) dX6_inLowestTerms_2 rfl lg1 ?_
  refine s_istore (pc' := 5) dX6_inLowestTerms_3 rfl (Nat.le_of_ble_eq_true rfl) rfl ls4 ?_
  refine s_iconst (pc' := 6) dX6_inLowestTerms_5 rfl iconst_0 ?_
  refine s_istore (pc' := 8) dX6_inLowestTerms_6 rfl (Nat.le_of_ble_eq_true rfl) rfl ls5 ?_
  exact loop b a b 0 _ (Nat.le_refl _) ha (by omega) rfl
theorem c_X6_inLowestTerms {z : Zz} {d kc ks : Nat} {mi : MI} {pc pc' : Nat} {L S : List Value} {Q : Option Value → Lay → Mem → Prop} {lay : Lay} {mem : Mem} {a b : Nat} {part : Int32} {idx : Nat} (hd : decode mi.2.1 pc = .ok (.invokestatic idx, 3)) (hp : pc + 3 = pc') (hlk : Cond.methodLink mi.1.cls idx yX6_inLowestTerms ∈ wok) (hdd : 0 + 1 ≤ d) (hcat : (S.map (fun v => v.category)).sum ≤ 8) (ha : a < 100000) (hb1 : 1 ≤ b) (hb : b ≤ 60) (K :  Sim z d kc ks mi pc' L (.long (ltR a b part) :: S) lay mem Q) : Sim z d kc ks mi pc L (.int part :: .int (nI b) :: .int (nI a) :: S) (lay) mem Q :=
  s_invS (d2 := 0) hd hp okX6_inLowestTerms hlk stX6_inLowestTerms hdd (Nat.zero_add _) (Nat.zero_add _) rfl rfl hcat (Nat.le_of_ble_eq_true rfl) (m_X6_inLowestTerms (Nat.le_refl _) ha hb1 hb K)
def chN (σ : Nat → Nat → Int32) (n : Nat) (td : Int32) (P : Nat → List Int32) (seed k : Int32) (m : Nat) : Nat := ct (fun i => !decide (nI (rou (dg n P σ td (seed + nI i) 20) n) < k)) m
def chR (σ : Nat → Nat → Int32) (n : Nat) (td : Int32) (P : Nat → List Int32) (seed m k part : Int32) : Int64 :=
  if inB m 1 20 = 0 then -4611686018427387904 else if inB k 0 8 = 0 then -4611686018427387904 else if inB part 0 1 = 0 then -4611686018427387904 else ltR (chN σ n td P seed k (ix m)) (ix m) part
theorem in1_or (v : Int32) : inB v 1 20 = 0 ∨ ∃ k, 1 ≤ k ∧ k ≤ 20 ∧ v = nI k ∧ inB v 1 20 = 1 := by
  unfold inB
  by_cases h1 : v < 1
  · left; rw [if_pos h1]
  · by_cases h2 : 20 < v
    · left; rw [if_neg h1, if_pos h2]
    · right
      have h0 : ¬ v < 0 := fun q => h1 (by
        rw [Int32.lt_iff_toInt_lt] at q ⊢
        have e1 : (1 : Int32).toInt = 1 := by decide
        have e0 : (0 : Int32).toInt = 0 := by decide
        omega)
      obtain ⟨j, hj, rfl⟩ := nI_of h0
      refine ⟨j, ?_, ?_, rfl, by rw [if_neg h1, if_neg h2]⟩
      · rcases Nat.lt_or_ge j 1 with q | q
        · exact absurd ((nI_ltI (a := j) (b := 1) hj (by omega)).mpr q) h1
        · exact q
      · rcases Nat.lt_or_ge 20 j with q | q
        · exact absurd ((nI_ltI (a := 20) (b := j) (by omega) hj).mpr q) h2
        · exact q
set_option maxHeartbeats 4000000 in
theorem m_X6_chance {z : Zz} {d : Nat} {Q : Option Value → Lay → Mem → Prop} {rf : Nat → Value} {tl : Lay} {mem : Mem}  {n w nt : Nat} {σ : Nat → Nat → Int32} {td seed m k part : Int32} {T : Nat → Nat → List Int32} (hdd : 5 ≤ d) (hS : isS 10 mem σ n td (nI w)) (hT : isTT rf tl mem nt T) (hw : w < nt) (K : ∀ mem', thf mem mem' → Q (some (.long (chR σ n td (T w) seed m k part))) (LAY rf tl) mem') : Sim z d 0 0 mX6_chance 0 [.ref 0, .int seed, .int m, .int k, .int part, .float 0, .float 0] [] (LAY rf tl) mem Q := by
  unfold chR at K
  refine s_iload_n (pc' := 1) dX6_chance_0 rfl lg2 ?_
  refine s_iconst (pc' := 2) dX6_chance_1 rfl iconst_1 ?_
  refine s_bipush (pc' := 4) dX6_chance_2 rfl bipush_20 ?_
  refine c_X6_isIn  (pc' := 7) dX6_chance_4 rfl lkX6_56 (by omega) (Nat.le_of_ble_eq_true rfl) ?_
  refine s_if_eq (pc' := 10) (tgt := 30) dX6_chance_7 rfl (by decide) (fun c1 => ?_) (fun c1 => ?_)
  · skip
    rw [if_pos c1] at K
    refine s_ldc2 (pc' := 33) dX6_chance_30 rfl klX6_190 ?_
    refine s_lret dX6_chance_33 rfl ?_
    exact K mem thf.rf
  · skip
    rw [if_neg c1] at K
    refine s_iload_n (pc' := 11) dX6_chance_10 rfl lg3 ?_
    refine s_iconst (pc' := 12) dX6_chance_11 rfl iconst_0 ?_
    refine s_bipush (pc' := 14) dX6_chance_12 rfl bipush_8 ?_
    refine c_X6_isIn  (pc' := 17) dX6_chance_14 rfl lkX6_56 (by omega) (Nat.le_of_ble_eq_true rfl) ?_
    refine s_if_eq (pc' := 20) (tgt := 30) dX6_chance_17 rfl (by decide) (fun c2 => ?_) (fun c2 => ?_)
    · skip
      rw [if_pos c2] at K
      refine s_ldc2 (pc' := 33) dX6_chance_30 rfl klX6_190 ?_
      refine s_lret dX6_chance_33 rfl ?_
      exact K mem thf.rf
    · skip
      rw [if_neg c2] at K
      refine s_iload (pc' := 22) dX6_chance_20 rfl lg4 ?_
      refine s_iconst (pc' := 23) dX6_chance_22 rfl iconst_0 ?_
      refine s_iconst (pc' := 24) dX6_chance_23 rfl iconst_1 ?_
      refine c_X6_isIn  (pc' := 27) dX6_chance_24 rfl lkX6_56 (by omega) (Nat.le_of_ble_eq_true rfl) ?_
      refine s_if_ne (pc' := 30) (tgt := 34) dX6_chance_27 rfl (by decide) (fun c3 => ?_) (fun c3 => ?_)
      · skip
        rw [if_neg c3] at K
        rcases in1_or m with h | ⟨c, hc1, hc, rfl, -⟩
        · exact absurd h c1
        rw [ix_nI (by omega)] at K
        refine s_iconst (pc' := 35) dX6_chance_34 rfl iconst_0 ?_
        refine s_istore (pc' := 37) dX6_chance_35 rfl (Nat.le_of_ble_eq_true rfl) rfl ls5 ?_
        refine s_iconst (pc' := 38) dX6_chance_37 rfl iconst_0 ?_
        refine s_istore (pc' := 40) dX6_chance_38 rfl (Nat.le_of_ble_eq_true rfl) rfl ls6 ?_
        have loop : ∀ (q i x : Nat) (mm : Mem), i + q = c → x = chN σ n td (T w) seed k i → thf mem mm → Sim z d 0 0 mX6_chance 40 [.ref 0, .int seed, .int (nI c), .int k, .int part, .int (nI x), .int (nI i)] [] (LAY rf tl) mm Q := by
          intro q
          induction q with
          | zero =>
            intro i x mm hi hx hm
            have : i = c := by omega
            subst this
            have hxl : x ≤ i := by rw [hx]; exact ct_le _ _
            refine s_iload (pc' := 42) dX6_chance_40 rfl lg6 ?_
            refine s_iload_n (pc' := 43) dX6_chance_42 rfl lg2 ?_
            refine s_icmp_ge (pc' := 46) (tgt := 69) dX6_chance_43 rfl (by decide) (fun _ => ?_) (fun c9 => absurd (nI_le (Nat.le_refl _) (by omega)) c9)
            refine s_iload (pc' := 71) dX6_chance_69 rfl lg5 ?_
            refine s_iload_n (pc' := 72) dX6_chance_71 rfl lg2 ?_
            refine s_iload (pc' := 74) dX6_chance_72 rfl lg4 ?_
            refine c_X6_inLowestTerms  (pc' := 77) dX6_chance_74 rfl lkX6_192 (by omega) (Nat.le_of_ble_eq_true rfl) (by omega) (by omega) (by omega) ?_
            refine s_lret dX6_chance_77 rfl ?_
            rw [hx]; exact K mm hm
          | succ q ih =>
            intro i x mm hi hx hm
            refine s_iload (pc' := 42) dX6_chance_40 rfl lg6 ?_
            refine s_iload_n (pc' := 43) dX6_chance_42 rfl lg2 ?_
            refine s_icmp_ge (pc' := 46) (tgt := 69) dX6_chance_43 rfl (by decide) (fun c9 => absurd c9 (nI_ge (by omega) (by omega))) (fun _ => ?_)
            refine s_aload_n (pc' := 47) dX6_chance_46 rfl lg0 rfl ?_
            refine s_iload_n (pc' := 48) dX6_chance_47 rfl lg1 ?_
            refine s_iload (pc' := 50) dX6_chance_48 rfl lg6 ?_
            refine s_iadd (pc' := 51) dX6_chance_50 rfl ?_
            refine s_bipush (pc' := 53) dX6_chance_51 rfl bipush_20 ?_
            refine c_X6_howManyRoundBySeed (c := 20) (pc' := 56) dX6_chance_53 rfl lkX6_223 (by omega) (Nat.le_of_ble_eq_true rfl) (hS.thf hm) (hT.thf hm) hw (by omega) (fun m2 t2 => ?_)
            refine s_iload_n (pc' := 57) dX6_chance_56 rfl lg3 ?_
            refine s_icmp_lt (pc' := 60) (tgt := 63) dX6_chance_57 rfl (by decide) (fun c4 => ?_) (fun c4 => ?_)
            · skip
              refine s_iincN (pc' := 66) dX6_chance_63 rfl lg6 rfl ls6 ?_
              refine s_goto (tgt := 40) dX6_chance_66 (by decide) ?_
              exact ih (i + 1) _ m2 (by omega) (by rw [hx, chN, chN, ct, decide_eq_true c4]; rfl) (hm.tr t2)
            · skip
              refine s_iincN (pc' := 63) dX6_chance_60 rfl lg5 rfl ls5 ?_
              refine s_iincN (pc' := 66) dX6_chance_63 rfl lg6 rfl ls6 ?_
              refine s_goto (tgt := 40) dX6_chance_66 (by decide) ?_
              exact ih (i + 1) _ m2 (by omega) (by rw [hx, chN, chN, ct, decide_eq_false c4]; rfl) (hm.tr t2)
        exact loop c 0 0 mem (by omega) rfl thf.rf
      · skip
        rw [if_pos c3] at K
        refine s_ldc2 (pc' := 33) dX6_chance_30 rfl klX6_190 ?_
        refine s_lret dX6_chance_33 rfl ?_
        exact K mem thf.rf
theorem c_X6_chance {z : Zz} {d kc ks : Nat} {mi : MI} {pc pc' : Nat} {L S : List Value} {Q : Option Value → Lay → Mem → Prop} {rf : Nat → Value} {tl : Lay} {mem : Mem}  {n w nt : Nat} {σ : Nat → Nat → Int32} {td seed m k part : Int32} {T : Nat → Nat → List Int32} {idx : Nat} (hd : decode mi.2.1 pc = .ok (.invokevirtual idx, 3)) (hp : pc + 3 = pc') (hlk : Cond.methodLink mi.1.cls idx yX6_chance ∈ wok) (hdd : 5 + 1 ≤ d) (hcat : (S.map (fun v => v.category)).sum ≤ 8) (hS : isS 10 mem σ n td (nI w)) (hT : isTT rf tl mem nt T) (hw : w < nt) (K : ∀ mem', thf mem mem' → Sim z d kc ks mi pc' L (.long (chR σ n td (T w) seed m k part) :: S) (LAY rf tl) mem' Q) : Sim z d kc ks mi pc L (.int part :: .int k :: .int m :: .int seed :: .ref 0 :: S) (LAY rf tl) mem Q :=
  s_invV (d2 := 5) hd hp okX6_chance hlk inX6_chance seX6_chance hdd (Nat.zero_add _) (Nat.zero_add _) rfl rfl ly0 rfl hcat (Nat.le_of_ble_eq_true rfl) (m_X6_chance (Nat.le_refl _) hS hT hw K)
def meaR (A n : Nat) (part : Int32) : Int64 := if inB part 0 1 = 0 then -4611686018427387904 else if n = 0 then -4611686018427387904 else ltR A n part
set_option maxHeartbeats 4000000 in
theorem m_X6_mean {z : Zz} {d : Nat} {Q : Option Value → Lay → Mem → Prop} {rf : Nat → Value} {tl : Lay} {mem : Mem}  {n A : Nat} {σ : Nat → Nat → Int32} {td ru part : Int32} (hdd : 1 ≤ d) (hS : isS 10 mem σ n td ru) (hA : suI (σ 2) n = nI A) (hA1 : A < 100000) (K :  Q (some (.long (meaR A n part))) (LAY rf tl) mem) : Sim z d 0 0 mX6_mean 0 [.ref 0, .int part] [] (LAY rf tl) mem Q := by
  have h8 := hS.2.1
  unfold meaR at K
  refine s_iload_n (pc' := 1) dX6_mean_0 rfl lg1 ?_
  refine s_iconst (pc' := 2) dX6_mean_1 rfl iconst_0 ?_
  refine s_iconst (pc' := 3) dX6_mean_2 rfl iconst_1 ?_
  refine c_X6_isIn  (pc' := 6) dX6_mean_3 rfl lkX6_56 (by omega) (Nat.le_of_ble_eq_true rfl) ?_
  refine s_if_eq (pc' := 9) (tgt := 19) dX6_mean_6 rfl (by decide) (fun c1 => ?_) (fun c1 => ?_)
  · skip
    rw [if_pos c1] at K
    refine s_ldc2 (pc' := 22) dX6_mean_19 rfl klX6_190 ?_
    refine s_lret dX6_mean_22 rfl ?_
    exact K
  · skip
    rw [if_neg c1] at K
    refine s_aload_n (pc' := 10) dX6_mean_9 rfl lg0 rfl ?_
    refine s_getRv (pc' := 13) (v := .ref 10) dX6_mean_10 rfl flX6_28 ly0 (by decide) rfl rfl ?_
    refine s_getIv (pc' := 16) (v := nI n) dX6_mean_13 rfl flX6_189 ly10 (by decide) rfl hS.1 ?_
    refine s_if_ne (pc' := 19) (tgt := 23) dX6_mean_16 rfl (by decide) (fun c2 => ?_) (fun c2 => ?_)
    · skip
      have h0 : ¬ n = 0 := fun q => c2 (by rw [q]; exact nI_0)
      rw [if_neg h0] at K
      refine s_aload_n (pc' := 24) dX6_mean_23 rfl lg0 rfl ?_
      refine s_getRv (pc' := 27) (v := .ref 10) dX6_mean_24 rfl flX6_28 ly0 (by decide) rfl rfl ?_
      refine c_X3_sharpTogether (b := 10) (pc' := 30) dX6_mean_27 rfl lkX6_130 (by omega) (Nat.le_of_ble_eq_true rfl) (Or.inl rfl) hS.1 hS.2.1 ?_
      rw [sum_of hS, hA]
      refine s_aload_n (pc' := 31) dX6_mean_30 rfl lg0 rfl ?_
      refine s_getRv (pc' := 34) (v := .ref 10) dX6_mean_31 rfl flX6_28 ly0 (by decide) rfl rfl ?_
      refine s_getIv (pc' := 37) (v := nI n) dX6_mean_34 rfl flX6_189 ly10 (by decide) rfl hS.1 ?_
      refine s_iload_n (pc' := 38) dX6_mean_37 rfl lg1 ?_
      refine c_X6_inLowestTerms  (pc' := 41) dX6_mean_38 rfl lkX6_192 (by omega) (Nat.le_of_ble_eq_true rfl) hA1 (by omega) (by omega) ?_
      refine s_lret dX6_mean_41 rfl ?_
      exact K
    · skip
      rw [nI_eq0 (by omega)] at c2
      rw [if_pos c2] at K
      refine s_ldc2 (pc' := 22) dX6_mean_19 rfl klX6_190 ?_
      refine s_lret dX6_mean_22 rfl ?_
      exact K
theorem c_X6_mean {z : Zz} {d kc ks : Nat} {mi : MI} {pc pc' : Nat} {L S : List Value} {Q : Option Value → Lay → Mem → Prop} {rf : Nat → Value} {tl : Lay} {mem : Mem}  {n A : Nat} {σ : Nat → Nat → Int32} {td ru part : Int32} {idx : Nat} (hd : decode mi.2.1 pc = .ok (.invokevirtual idx, 3)) (hp : pc + 3 = pc') (hlk : Cond.methodLink mi.1.cls idx yX6_mean ∈ wok) (hdd : 1 + 1 ≤ d) (hcat : (S.map (fun v => v.category)).sum ≤ 8) (hS : isS 10 mem σ n td ru) (hA : suI (σ 2) n = nI A) (hA1 : A < 100000) (K :  Sim z d kc ks mi pc' L (.long (meaR A n part) :: S) (LAY rf tl) mem Q) : Sim z d kc ks mi pc L (.int part :: .ref 0 :: S) (LAY rf tl) mem Q :=
  s_invV (d2 := 1) hd hp okX6_mean hlk inX6_mean seX6_mean hdd (Nat.zero_add _) (Nat.zero_add _) rfl rfl ly0 rfl hcat (Nat.le_of_ble_eq_true rfl) (m_X6_mean (Nat.le_refl _) hS hA hA1 K)
set_option maxHeartbeats 4000000 in
theorem m_X6_image {z : Zz} {d : Nat} {Q : Option Value → Lay → Mem → Prop} {rf : Nat → Value} {tl : Lay} {mem : Mem}  {n : Nat} {σ : Nat → Nat → Int32} {td ru : Int32} (hdd : 3 ≤ d) (hS : isS 10 mem σ n td ru) (K : ∀ mem', isS 26 mem' σ n td ru → mem' 0 7 = 1 → (∀ j, j ≠ 0 → (j < 26 ∨ 31 < j) → mem' j = mem j) → Q (some (.int (nI n))) (LAY rf tl) mem') : Sim z d 0 0 mX6_image 0 [.ref 0] [] (LAY rf tl) mem Q := by
  refine s_aload_n (pc' := 1) dX6_image_0 rfl lg0 rfl ?_
  refine s_getRv (pc' := 4) (v := .ref 26) dX6_image_1 rfl flX6_35 ly0 (by decide) rfl rfl ?_
  refine s_aload_n (pc' := 5) dX6_image_4 rfl lg0 rfl ?_
  refine s_getRv (pc' := 8) (v := .ref 10) dX6_image_5 rfl flX6_28 ly0 (by decide) rfl rfl ?_
  refine c_X3_becomes_26_10  (pc' := 11) dX6_image_8 rfl lkX6_120 (by omega) (Nat.le_of_ble_eq_true rfl) hS (fun m1 hS1 f1 => ?_)
  refine s_aload_n (pc' := 12) dX6_image_11 rfl lg0 rfl ?_
  refine s_iconst (pc' := 13) dX6_image_12 rfl iconst_1 ?_
  refine s_putI (pc' := 16) (ty := .boolean) dX6_image_13 rfl flX6_52 fw6_7 pdZ rfl rfl ly0 (by decide) rfl ?_
  refine s_aload_n (pc' := 17) dX6_image_16 rfl lg0 rfl ?_
  refine s_getRv (pc' := 20) (v := .ref 26) dX6_image_17 rfl flX6_35 ly0 (by decide) rfl rfl ?_
  refine s_getIv (pc' := 23) (v := nI n) dX6_image_20 rfl flX6_189 ly26 (by decide) rfl (by simp [am_up]; exact hS1.1) ?_
  refine s_iret dX6_image_23 rfl (vp_nar_int _) ?_
  exact K _ (hS1.kept (fun j h1 h2 => if_neg (by omega))) (by simp [am_up, upd]) (fun j h1 h2 => by rw [show am_up m1 0 7 1 j = m1 j from if_neg h1]; exact f1 j (by omega))
theorem c_X6_image {z : Zz} {d kc ks : Nat} {mi : MI} {pc pc' : Nat} {L S : List Value} {Q : Option Value → Lay → Mem → Prop} {rf : Nat → Value} {tl : Lay} {mem : Mem}  {n : Nat} {σ : Nat → Nat → Int32} {td ru : Int32} {idx : Nat} (hd : decode mi.2.1 pc = .ok (.invokevirtual idx, 3)) (hp : pc + 3 = pc') (hlk : Cond.methodLink mi.1.cls idx yX6_image ∈ wok) (hdd : 3 + 1 ≤ d) (hcat : (S.map (fun v => v.category)).sum ≤ 8) (hS : isS 10 mem σ n td ru) (K : ∀ mem', isS 26 mem' σ n td ru → mem' 0 7 = 1 → (∀ j, j ≠ 0 → (j < 26 ∨ 31 < j) → mem' j = mem j) → Sim z d kc ks mi pc' L (.int (nI n) :: S) (LAY rf tl) mem' Q) : Sim z d kc ks mi pc L (.ref 0 :: S) (LAY rf tl) mem Q :=
  s_invV (d2 := 3) hd hp okX6_image hlk inX6_image seX6_image hdd (Nat.zero_add _) (Nat.zero_add _) rfl rfl ly0 rfl hcat (Nat.le_of_ble_eq_true rfl) (m_X6_image (Nat.le_refl _) hS K)
set_option maxHeartbeats 4000000 in
theorem m_X6_back {z : Zz} {d : Nat} {Q : Option Value → Lay → Mem → Prop} {rf : Nat → Value} {tl : Lay} {mem : Mem}  {n : Nat} {kp : Bool} {σ : Nat → Nat → Int32} {td ru : Int32} (hdd : 3 ≤ d) (hkp : mem 0 7 = if kp then 1 else 0) (hS : kp = true → isS 26 mem σ n td ru) (K : ∀ mem', (if kp then isS 10 mem' σ n td ru ∧ (∀ j, j < 10 ∨ 15 < j → mem' j = mem j) else mem' = mem) → Q (some (.int (if kp then nI n else -3))) (LAY rf tl) mem') : Sim z d 0 0 mX6_back 0 [.ref 0] [] (LAY rf tl) mem Q := by
  refine s_aload_n (pc' := 1) dX6_back_0 rfl lg0 rfl ?_
  refine s_getIv (pc' := 4) (v := (if kp then 1 else 0)) dX6_back_1 rfl flX6_52 ly0 (by decide) rfl hkp ?_
  cases kp with
  | false =>
    refine s_if_ne (pc' := 7) (tgt := 10) dX6_back_4 rfl (by decide) (fun c9 => absurd (rfl) c9) (fun _ => ?_)
    refine s_bipush (pc' := 9) dX6_back_7 rfl bipush_m3 ?_
    refine s_iret dX6_back_9 rfl (vp_nar_int _) ?_
    exact K mem rfl
  | true =>
    refine s_if_ne (pc' := 7) (tgt := 10) dX6_back_4 rfl (by decide) (fun _ => ?_) (fun c9 => absurd c9 (by decide))
    refine s_aload_n (pc' := 11) dX6_back_10 rfl lg0 rfl ?_
    refine s_getRv (pc' := 14) (v := .ref 10) dX6_back_11 rfl flX6_28 ly0 (by decide) rfl rfl ?_
    refine s_aload_n (pc' := 15) dX6_back_14 rfl lg0 rfl ?_
    refine s_getRv (pc' := 18) (v := .ref 26) dX6_back_15 rfl flX6_35 ly0 (by decide) rfl rfl ?_
    refine c_X3_becomes_10_26  (pc' := 21) dX6_back_18 rfl lkX6_120 (by omega) (Nat.le_of_ble_eq_true rfl) (hS rfl) (fun m1 hS1 f1 => ?_)
    refine s_aload_n (pc' := 22) dX6_back_21 rfl lg0 rfl ?_
    refine s_getRv (pc' := 25) (v := .ref 10) dX6_back_22 rfl flX6_28 ly0 (by decide) rfl rfl ?_
    refine s_getIv (pc' := 28) (v := nI n) dX6_back_25 rfl flX6_189 ly10 (by decide) rfl hS1.1 ?_
    refine s_iret dX6_back_28 rfl (vp_nar_int _) ?_
    exact K m1 ⟨hS1, f1⟩
theorem c_X6_back {z : Zz} {d kc ks : Nat} {mi : MI} {pc pc' : Nat} {L S : List Value} {Q : Option Value → Lay → Mem → Prop} {rf : Nat → Value} {tl : Lay} {mem : Mem}  {n : Nat} {kp : Bool} {σ : Nat → Nat → Int32} {td ru : Int32} {idx : Nat} (hd : decode mi.2.1 pc = .ok (.invokevirtual idx, 3)) (hp : pc + 3 = pc') (hlk : Cond.methodLink mi.1.cls idx yX6_back ∈ wok) (hdd : 3 + 1 ≤ d) (hcat : (S.map (fun v => v.category)).sum ≤ 8) (hkp : mem 0 7 = if kp then 1 else 0) (hS : kp = true → isS 26 mem σ n td ru) (K : ∀ mem', (if kp then isS 10 mem' σ n td ru ∧ (∀ j, j < 10 ∨ 15 < j → mem' j = mem j) else mem' = mem) → Sim z d kc ks mi pc' L (.int (if kp then nI n else -3) :: S) (LAY rf tl) mem' Q) : Sim z d kc ks mi pc L (.ref 0 :: S) (LAY rf tl) mem Q :=
  s_invV (d2 := 3) hd hp okX6_back hlk inX6_back seX6_back hdd (Nat.zero_add _) (Nat.zero_add _) rfl rfl ly0 rfl hcat (Nat.le_of_ble_eq_true rfl) (m_X6_back (Nat.le_refl _) hkp hS K)
def couR (σ : Nat → Nat → Int32) (n : Nat) (td : Int32) (T : Nat → Nat → List Int32) (w nt tn : Nat) (what : Int32) : Int32 := if what = 0 then nI n else if what = 1 then nI (rs (fun i j => !decide (uB σ td (T w) i j = 0)) n n) else if what = 2 then td else if what = 3 then nI nt else if what = 4 then nI tn else if what = 5 then nI w else -2
set_option maxHeartbeats 4000000 in
theorem m_X6_count {z : Zz} {d : Nat} {Q : Option Value → Lay → Mem → Prop} {rf : Nat → Value} {tl : Lay} {mem : Mem}  {n w nt tn : Nat} {σ : Nat → Nat → Int32} {td what : Int32} {T : Nat → Nat → List Int32} (hdd : 7 ≤ d) (hS : isS 10 mem σ n td (nI w)) (hT : isTT rf tl mem nt T) (hw : w < nt) (htn : mem 7 1 = nI tn) (K : ∀ mem', scr mem mem' → Q (some (.int (couR σ n td T w nt tn what))) (LAY rf tl) mem') : Sim z d 0 0 mX6_count 0 [.ref 0, .int what] [] (LAY rf tl) mem Q := by
  have K0 := K mem scr.rf
  unfold couR at K K0
  rw [← hS.1, ← hS.2.2.1, ← hT.1, ← htn, ← hS.2.2.2.1] at K0
  refine s_iload_n (pc' := 1) dX6_count_0 rfl lg1 ?_
  refine s_ts6 (v0 := 0) (v1 := 1) (v2 := 2) (v3 := 3) (v4 := 4) (v5 := 5) (t0 := 40) (t1 := 48) (t2 := 56) (t3 := 64) (t4 := 72) (t5 := 80) (td := 88) dX6_count_1 (by decide) (by decide) (by decide) (by decide) (by decide) (by decide) (by decide) (by decide) (by decide) (by decide) (by decide) (by decide) (by decide) (by decide) (fun e1 => ?_) (fun e1 => ?_) (fun e1 => ?_) (fun e1 => ?_) (fun e1 => ?_) (fun e1 => ?_) (fun e1_0 e1_1 e1_2 e1_3 e1_4 e1_5 => ?_)
  · refine s_aload_n (pc' := 41) dX6_count_40 rfl lg0 rfl ?_
    refine s_getRv (pc' := 44) (v := .ref 10) dX6_count_41 rfl flX6_28 ly0 (by decide) rfl rfl ?_
    refine s_getI (pc' := 47) dX6_count_44 rfl flX6_189 ly10 (by decide) rfl ?_
    refine s_iret dX6_count_47 rfl (vp_nar_int _) ?_
    (first | (have K2 := K m1 s1; simpa [e1] using K2) | (simpa [e1] using K0))
  · refine s_aload_n (pc' := 49) dX6_count_48 rfl lg0 rfl ?_
    refine s_getRv (pc' := 52) (v := .ref 10) dX6_count_49 rfl flX6_28 ly0 (by decide) rfl rfl ?_
    refine c_X3_howManyApartByClash (pc' := 55) dX6_count_52 rfl lkX6_227 (by omega) (Nat.le_of_ble_eq_true rfl) (b := 10) (Or.inl rfl) hS hT hw ?_
    intro m1 s1
    refine s_iret dX6_count_55 rfl (vp_nar_int _) ?_
    (first | (have K2 := K m1 s1; simpa [e1] using K2) | (simpa [e1] using K0))
  · refine s_aload_n (pc' := 57) dX6_count_56 rfl lg0 rfl ?_
    refine s_getRv (pc' := 60) (v := .ref 10) dX6_count_57 rfl flX6_28 ly0 (by decide) rfl rfl ?_
    refine s_getI (pc' := 63) dX6_count_60 rfl flX6_68 ly10 (by decide) rfl ?_
    refine s_iret dX6_count_63 rfl (vp_nar_int _) ?_
    (first | (have K2 := K m1 s1; simpa [e1] using K2) | (simpa [e1] using K0))
  · refine s_aload_n (pc' := 65) dX6_count_64 rfl lg0 rfl ?_
    refine s_getRv (pc' := 68) (v := .ref 1) dX6_count_65 rfl flX6_10 ly0 (by decide) rfl rfl ?_
    refine s_getI (pc' := 71) dX6_count_68 rfl flX6_99 ly1 (by decide) rfl ?_
    refine s_iret dX6_count_71 rfl (vp_nar_int _) ?_
    (first | (have K2 := K m1 s1; simpa [e1] using K2) | (simpa [e1] using K0))
  · refine s_aload_n (pc' := 73) dX6_count_72 rfl lg0 rfl ?_
    refine s_getRv (pc' := 76) (v := .ref 7) dX6_count_73 rfl flX6_19 ly0 (by decide) rfl rfl ?_
    refine s_getI (pc' := 79) dX6_count_76 rfl flX6_96 ly7 (by decide) rfl ?_
    refine s_iret dX6_count_79 rfl (vp_nar_int _) ?_
    (first | (have K2 := K m1 s1; simpa [e1] using K2) | (simpa [e1] using K0))
  · refine s_aload_n (pc' := 81) dX6_count_80 rfl lg0 rfl ?_
    refine s_getRv (pc' := 84) (v := .ref 10) dX6_count_81 rfl flX6_28 ly0 (by decide) rfl rfl ?_
    refine s_getI (pc' := 87) dX6_count_84 rfl flX6_110 ly10 (by decide) rfl ?_
    refine s_iret dX6_count_87 rfl (vp_nar_int _) ?_
    (first | (have K2 := K m1 s1; simpa [e1] using K2) | (simpa [e1] using K0))
  · refine s_bipush (pc' := 90) dX6_count_88 rfl bipush_m2 ?_
    refine s_iret dX6_count_90 rfl (vp_nar_int _) ?_
    (first | (have K2 := K m1 s1; simpa [e1_0, e1_1, e1_2, e1_3, e1_4, e1_5] using K2) | (simpa [e1_0, e1_1, e1_2, e1_3, e1_4, e1_5] using K0))
theorem c_X6_count {z : Zz} {d kc ks : Nat} {mi : MI} {pc pc' : Nat} {L S : List Value} {Q : Option Value → Lay → Mem → Prop} {rf : Nat → Value} {tl : Lay} {mem : Mem}  {n w nt tn : Nat} {σ : Nat → Nat → Int32} {td what : Int32} {T : Nat → Nat → List Int32} {idx : Nat} (hd : decode mi.2.1 pc = .ok (.invokevirtual idx, 3)) (hp : pc + 3 = pc') (hlk : Cond.methodLink mi.1.cls idx yX6_count ∈ wok) (hdd : 7 + 1 ≤ d) (hcat : (S.map (fun v => v.category)).sum ≤ 8) (hS : isS 10 mem σ n td (nI w)) (hT : isTT rf tl mem nt T) (hw : w < nt) (htn : mem 7 1 = nI tn) (K : ∀ mem', scr mem mem' → Sim z d kc ks mi pc' L (.int (couR σ n td T w nt tn what) :: S) (LAY rf tl) mem' Q) : Sim z d kc ks mi pc L (.int what :: .ref 0 :: S) (LAY rf tl) mem Q :=
  s_invV (d2 := 7) hd hp okX6_count hlk inX6_count seX6_count hdd (Nat.zero_add _) (Nat.zero_add _) rfl rfl ly0 rfl hcat (Nat.le_of_ble_eq_true rfl) (m_X6_count (Nat.le_refl _) hS hT hw htn K)
def canR (σ : Nat → Nat → Int32) (n : Nat) (td : Int32) (P : Nat → List Int32) (p q : Int32) : Int32 := if twB p q (nI n) = 0 then -2 else if uB σ td P (ix p) (ix q) = 0 then 1 else 0
set_option maxHeartbeats 4000000 in
theorem m_X6_can {z : Zz} {d : Nat} {Q : Option Value → Lay → Mem → Prop} {rf : Nat → Value} {tl : Lay} {mem : Mem}  {n w nt : Nat} {σ : Nat → Nat → Int32} {td p q : Int32} {T : Nat → Nat → List Int32} (hdd : 6 ≤ d) (hS : isS 10 mem σ n td (nI w)) (hT : isTT rf tl mem nt T) (hw : w < nt) (K : ∀ mem', scr mem mem' → Q (some (.int (canR σ n td (T w) p q))) (LAY rf tl) mem') : Sim z d 0 0 mX6_can 0 [.ref 0, .int p, .int q] [] (LAY rf tl) mem Q := by
  have h8 := hS.2.1
  have hn := hS.1
  unfold canR at K
  refine s_aload_n (pc' := 1) dX6_can_0 rfl lg0 rfl ?_
  refine s_iload_n (pc' := 2) dX6_can_1 rfl lg1 ?_
  refine s_iload_n (pc' := 3) dX6_can_2 rfl lg2 ?_
  refine c_X6_areTwo  (pc' := 6) dX6_can_3 rfl lkX6_142 (by omega) (Nat.le_of_ble_eq_true rfl) ?_
  rw [hn]
  refine s_if_ne (pc' := 9) (tgt := 12) dX6_can_6 rfl (by decide) (fun c0 => ?_) (fun c0 => ?_)
  · skip
    rcases tw_or p q (n := n) (by omega) with h | ⟨a, b, ha, hb, hab, rfl, rfl, -⟩
    · exact absurd h c0
    rw [if_neg c0, ix_nI (by omega), ix_nI (by omega)] at K
    refine s_aload_n (pc' := 13) dX6_can_12 rfl lg0 rfl ?_
    refine s_getRv (pc' := 16) (v := .ref 10) dX6_can_13 rfl flX6_28 ly0 (by decide) rfl rfl ?_
    refine s_iload_n (pc' := 17) dX6_can_16 rfl lg1 ?_
    refine s_iload_n (pc' := 18) dX6_can_17 rfl lg2 ?_
    refine c_X3_isApartByClash (b := 10) (pc' := 21) dX6_can_18 rfl lkX6_178 (by omega) (Nat.le_of_ble_eq_true rfl) (Or.inl rfl) hS ha hb hT hw (fun m1 s1 => ?_)
    have K2 := K m1 s1
    refine s_if_eq (pc' := 24) (tgt := 28) dX6_can_21 rfl (by decide) (fun c2 => ?_) (fun c2 => ?_)
    · refine s_iconst (pc' := 29) dX6_can_28 rfl iconst_1 ?_
      refine s_iret dX6_can_29 rfl (vp_nar_int _) ?_
      (simpa [c2] using K2)
    · refine s_iconst (pc' := 25) dX6_can_24 rfl iconst_0 ?_
      refine s_goto (tgt := 29) dX6_can_25 (by decide) ?_
      refine s_iret dX6_can_29 rfl (vp_nar_int _) ?_
      (simpa [c2] using K2)
  · skip
    rw [if_pos c0] at K
    refine s_bipush (pc' := 11) dX6_can_9 rfl bipush_m2 ?_
    refine s_iret dX6_can_11 rfl (vp_nar_int _) ?_
    exact K mem scr.rf
theorem c_X6_can {z : Zz} {d kc ks : Nat} {mi : MI} {pc pc' : Nat} {L S : List Value} {Q : Option Value → Lay → Mem → Prop} {rf : Nat → Value} {tl : Lay} {mem : Mem}  {n w nt : Nat} {σ : Nat → Nat → Int32} {td p q : Int32} {T : Nat → Nat → List Int32} {idx : Nat} (hd : decode mi.2.1 pc = .ok (.invokevirtual idx, 3)) (hp : pc + 3 = pc') (hlk : Cond.methodLink mi.1.cls idx yX6_can ∈ wok) (hdd : 6 + 1 ≤ d) (hcat : (S.map (fun v => v.category)).sum ≤ 8) (hS : isS 10 mem σ n td (nI w)) (hT : isTT rf tl mem nt T) (hw : w < nt) (K : ∀ mem', scr mem mem' → Sim z d kc ks mi pc' L (.int (canR σ n td (T w) p q) :: S) (LAY rf tl) mem' Q) : Sim z d kc ks mi pc L (.int q :: .int p :: .ref 0 :: S) (LAY rf tl) mem Q :=
  s_invV (d2 := 6) hd hp okX6_can hlk inX6_can seX6_can hdd (Nat.zero_add _) (Nat.zero_add _) rfl rfl ly0 rfl hcat (Nat.le_of_ble_eq_true rfl) (m_X6_can (Nat.le_refl _) hS hT hw K)

