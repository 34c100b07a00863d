/-! ===== the Model: meet, toss ===== -/
set_option maxHeartbeats 4000000 in
theorem m_X7_meet {z : Zz} {d : Nat} {Q : Option Value → Lay → Mem → Prop} {rf : Nat → Value} {tl : Lay} {mem : Mem}  {n w nt : Nat} {σ : Nat → Nat → Int32} {td p q : Int32} {T : Nat → Nat → List Int32} (hdd : 5 ≤ d) (hM : isM 48 mem σ n td (nI w)) (hT : isTM mem nt T) (hw : w < nt) (K : ∀ mem', mtf mem mem' → Q (some (.int (meetR σ n td (T w) p q))) (LAY rf tl) mem') : Sim z d 0 0 mX7_meet 0 [.ref 47, .int p, .int q, .float 0] [] (LAY rf tl) mem Q := by
  have h8 := hM.2.1
  unfold meetR at K
  refine s_aload_n (pc' := 1) dX7_meet_0 rfl lg0 rfl ?_
  refine s_iload_n (pc' := 2) dX7_meet_1 rfl lg1 ?_
  refine s_iload_n (pc' := 3) dX7_meet_2 rfl lg2 ?_
  refine c_X7_isTwo  (pc' := 6) dX7_meet_3 rfl lkX7_242 (by omega) (Nat.le_of_ble_eq_true rfl) hM.1 h8 ?_
  refine s_if_ne (pc' := 9) (tgt := 12) dX7_meet_6 rfl (by decide) (fun c0 => ?_) (fun c0 => ?_)
  · skip
    rw [if_neg c0] at K
    rcases tw_or p q (n := n) (by omega) with h | ⟨a, b, ha, hb, hab, rfl, rfl, -⟩
    · exact absurd h c0
    rw [ix_nI (by omega), ix_nI (by omega)] at K
    refine s_aload_n (pc' := 13) dX7_meet_12 rfl lg0 rfl ?_
    refine s_aload_n (pc' := 14) dX7_meet_13 rfl lg0 rfl ?_
    refine s_getRv (pc' := 17) (v := .ref 50) dX7_meet_14 rfl flX7_16 ly47 (by decide) rfl rfl ?_
    refine c_X7_keep  (pc' := 20) dX7_meet_17 rfl lkX7_223 (by omega) (Nat.le_of_ble_eq_true rfl) ly50 (by decide) (fun m1 g1 g2 => ?_)
    refine s_iconst (pc' := 21) dX7_meet_20 rfl iconst_0 ?_
    refine s_istore_n (pc' := 22) dX7_meet_21 rfl (Nat.le_of_ble_eq_true rfl) rfl ls3 ?_
    have fin : ∀ (i : Nat) (m : Mem), i ≤ 61 → fk (fun k => decide (sg n (T w) σ td k 3 a = sg n (T w) σ td k 3 b)) 61 = i → mth mem m → Sim z d 0 0 mX7_meet 53 [.ref 47, .int (nI a), .int (nI b), .int (nI i)] [] (LAY rf tl) m Q := by
      intro i m hi he hm
      rw [he] at K
      refine s_aload_n (pc' := 54) dX7_meet_53 rfl lg0 rfl ?_
      refine s_aload_n (pc' := 55) dX7_meet_54 rfl lg0 rfl ?_
      refine s_getRv (pc' := 58) (v := .ref 50) dX7_meet_55 rfl flX7_16 ly47 (by decide) rfl rfl ?_
      refine c_X7_lay  (pc' := 61) dX7_meet_58 rfl lkX7_233 (by omega) (Nat.le_of_ble_eq_true rfl) ly50 (by decide) (fun m2 g3 g4 => ?_)
      have K2 := K m2 (hm.lay g3 g4)
      refine s_iload_n (pc' := 62) dX7_meet_61 rfl lg3 ?_
      refine s_bipush (pc' := 64) dX7_meet_62 rfl bipush_60 ?_
      rcases Nat.lt_or_ge i 61 with q | q
      · rw [if_pos q] at K2
        refine s_icmp_gt (pc' := 67) (tgt := 71) dX7_meet_64 rfl (by decide) (fun c9 => absurd c9 (fun q => (by have := (nI_ltI (a := 60) (b := i) (by omega) (by omega)).mp q; omega))) (fun _ => ?_)
        refine s_iload_n (pc' := 68) dX7_meet_67 rfl lg3 ?_
        refine s_goto (tgt := 72) dX7_meet_68 (by decide) ?_
        refine s_iret dX7_meet_72 rfl (vp_nar_int _) ?_
        exact K2
      · rw [if_neg (by omega)] at K2
        refine s_icmp_gt (pc' := 67) (tgt := 71) dX7_meet_64 rfl (by decide) (fun _ => ?_) (fun c9 => absurd ((nI_ltI (a := 60) (b := i) (by omega) (by omega)).mpr (by omega)) c9)
        refine s_iconst (pc' := 72) dX7_meet_71 rfl iconst_m1 ?_
        refine s_iret dX7_meet_72 rfl (vp_nar_int _) ?_
        exact K2
    have loop : ∀ (k i : Nat) (m : Mem), i + k = 61 → isM 48 m (sg n (T w) σ td i) n (td + nI i) (nI w) → mth mem m → (∀ j, j < i → decide (sg n (T w) σ td j 3 a = sg n (T w) σ td j 3 b) = false) → Sim z d 0 0 mX7_meet 22 [.ref 47, .int (nI a), .int (nI b), .int (nI i)] [] (LAY rf tl) m Q := by
      intro k
      induction k with
      | zero =>
        intro i m hi hMm hm hno
        have hic : i = 61 := by omega
        subst hic
        refine s_iload_n (pc' := 23) dX7_meet_22 rfl lg3 ?_
        refine s_bipush (pc' := 25) dX7_meet_23 rfl bipush_60 ?_
        refine s_icmp_gt (pc' := 28) (tgt := 53) dX7_meet_25 rfl (by decide) (fun _ => ?_) (fun c9 => absurd (by decide) c9)
        exact fin 61 m (by omega) (fk_none hno) hm
      | succ k ih =>
        intro i m hi hMm hm hno
        refine s_iload_n (pc' := 23) dX7_meet_22 rfl lg3 ?_
        refine s_bipush (pc' := 25) dX7_meet_23 rfl bipush_60 ?_
        refine s_icmp_gt (pc' := 28) (tgt := 53) dX7_meet_25 rfl (by decide) (fun c9 => absurd c9 (fun q => (by have := (nI_ltI (a := 60) (b := i) (by omega) (by omega)).mp q; omega))) (fun _ => ?_)
        refine s_aload_n (pc' := 29) dX7_meet_28 rfl lg0 rfl ?_
        refine s_iload_n (pc' := 30) dX7_meet_29 rfl lg1 ?_
        refine s_iconst (pc' := 31) dX7_meet_30 rfl iconst_3 ?_
        refine c_X7_of_3  (pc' := 34) dX7_meet_31 rfl lkX7_108 (by omega) (Nat.le_of_ble_eq_true rfl) hMm ha ?_
        refine s_aload_n (pc' := 35) dX7_meet_34 rfl lg0 rfl ?_
        refine s_iload_n (pc' := 36) dX7_meet_35 rfl lg2 ?_
        refine s_iconst (pc' := 37) dX7_meet_36 rfl iconst_3 ?_
        refine c_X7_of_3  (pc' := 40) dX7_meet_37 rfl lkX7_108 (by omega) (Nat.le_of_ble_eq_true rfl) hMm hb ?_
        refine s_icmp_eq (pc' := 43) (tgt := 53) dX7_meet_40 rfl (by decide) (fun c1 => ?_) (fun c1 => ?_)
        · exact fin i m (by omega) (fk_at (m := 61) hno (decide_eq_true c1) (by omega)) hm
        · skip
          refine s_aload_n (pc' := 44) dX7_meet_43 rfl lg0 rfl ?_
          refine c_X7_goTide  (pc' := 47) dX7_meet_44 rfl lkX7_217 (by omega) (Nat.le_of_ble_eq_true rfl) hMm (hT.mth hm) hw (fun m2 h2 f2 => ?_)
          refine s_iincN (pc' := 50) dX7_meet_47 rfl lg3 rfl ls3 ?_
          refine s_goto (tgt := 22) dX7_meet_50 (by decide) ?_
          refine ih (i + 1) m2 (by omega) ?_ (hm.tide f2) (fun j hj => ?_)
          · rw [sg_succ, ← td_succ]
            exact h2
          · rcases Nat.lt_or_ge j i with q | q
            · exact hno j q
            · have : j = i := by omega
              rw [this]; exact decide_eq_false c1
    exact loop 61 0 m1 (by omega) (by rw [td_0]; exact hM.keep g1) (mth.keep g1 g2) (fun j hj => absurd hj (Nat.not_lt_zero j))
  · skip
    rw [if_pos c0] at K
    refine s_bipush (pc' := 11) dX7_meet_9 rfl bipush_m2 ?_
    refine s_iret dX7_meet_11 rfl (vp_nar_int _) ?_
    exact K mem mtf.rf
theorem c_X7_meet {z : Zz} {d kc ks : Nat} {mi : MI} {pc pc' : Nat} {L S : List Value} {Q : Option Value → Lay → Mem → Prop} {rf : Nat → Value} {tl : Lay} {mem : Mem}  {n w nt : Nat} {σ : Nat → Nat → Int32} {td p q : Int32} {T : Nat → Nat → List Int32} {idx : Nat} (hd : decode mi.2.1 pc = .ok (.invokevirtual idx, 3)) (hp : pc + 3 = pc') (hlk : Cond.methodLink mi.1.cls idx yX7_meet ∈ wok) (hdd : 5 + 1 ≤ d) (hcat : (S.map (fun v => v.category)).sum ≤ 8) (hM : isM 48 mem σ n td (nI w)) (hT : isTM mem nt T) (hw : w < nt) (K : ∀ mem', mtf mem mem' → Sim z d kc ks mi pc' L (.int (meetR σ n td (T w) p q) :: S) (LAY rf tl) mem' Q) : Sim z d kc ks mi pc L (.int q :: .int p :: .ref 47 :: S) (LAY rf tl) mem Q :=
  s_invV (d2 := 5) hd hp okX7_meet hlk inX7_meet seX7_meet hdd (Nat.zero_add _) (Nat.zero_add _) rfl rfl ly47 rfl hcat (Nat.le_of_ble_eq_true rfl) (m_X7_meet (Nat.le_refl _) hM hT hw K)
set_option maxHeartbeats 4000000 in
theorem m_X7_soon {z : Zz} {d : Nat} {Q : Option Value → Lay → Mem → Prop} {rf : Nat → Value} {tl : Lay} {mem : Mem}  {n w nt a : Nat} {σ : Nat → Nat → Int32} {td : Int32} {T : Nat → Nat → List Int32} (hdd : 5 ≤ d) (hM : isM 48 mem σ n td (nI w)) (hT : isTM mem nt T) (hw : w < nt) (hok : okS σ n) (ha : a < n) (K : ∀ mem', mtf mem mem' → Q (some (.int (nI (fk (fun k => decide (sg n (T w) σ td k 2 a = 0)) 61)))) (LAY rf tl) mem') : Sim z d 0 0 mX7_soon 0 [.ref 47, .int (nI a), .float 0] [] (LAY rf tl) mem Q := by
  have h8 := hM.2.1
  refine s_aload_n (pc' := 1) dX7_soon_0 rfl lg0 rfl ?_
  refine s_aload_n (pc' := 2) dX7_soon_1 rfl lg0 rfl ?_
  refine s_getRv (pc' := 5) (v := .ref 50) dX7_soon_2 rfl flX7_16 ly47 (by decide) rfl rfl ?_
  refine c_X7_keep  (pc' := 8) dX7_soon_5 rfl lkX7_223 (by omega) (Nat.le_of_ble_eq_true rfl) ly50 (by decide) (fun m1 g1 g2 => ?_)
  refine s_iconst (pc' := 9) dX7_soon_8 rfl iconst_0 ?_
  refine s_istore_n (pc' := 10) dX7_soon_9 rfl (Nat.le_of_ble_eq_true rfl) rfl ls2 ?_
  have fin : ∀ (i : Nat) (m : Mem), fk (fun k => decide (sg n (T w) σ td k 2 a = 0)) 61 = i → mth mem m → Sim z d 0 0 mX7_soon 35 [.ref 47, .int (nI a), .int (nI i)] [] (LAY rf tl) m Q := by
    intro i m he hm
    rw [he] at K
    refine s_aload_n (pc' := 36) dX7_soon_35 rfl lg0 rfl ?_
    refine s_aload_n (pc' := 37) dX7_soon_36 rfl lg0 rfl ?_
    refine s_getRv (pc' := 40) (v := .ref 50) dX7_soon_37 rfl flX7_16 ly47 (by decide) rfl rfl ?_
    refine c_X7_lay  (pc' := 43) dX7_soon_40 rfl lkX7_233 (by omega) (Nat.le_of_ble_eq_true rfl) ly50 (by decide) (fun m2 g3 g4 => ?_)
    have K2 := K m2 (hm.lay g3 g4)
    refine s_iload_n (pc' := 44) dX7_soon_43 rfl lg2 ?_
    refine s_iret dX7_soon_44 rfl (vp_nar_int _) ?_
    exact K2
  have loop : ∀ (k i : Nat) (m : Mem), i + k = 61 → isM 48 m (sg n (T w) σ td i) n (td + nI i) (nI w) → mth mem m → (∀ j, j < i → decide (sg n (T w) σ td j 2 a = 0) = false) → Sim z d 0 0 mX7_soon 10 [.ref 47, .int (nI a), .int (nI i)] [] (LAY rf tl) m Q := by
    intro k
    induction k with
    | zero =>
      intro i m hi hMm hm hno
      have hic : i = 61 := by omega
      subst hic
      refine s_iload_n (pc' := 11) dX7_soon_10 rfl lg2 ?_
      refine s_bipush (pc' := 13) dX7_soon_11 rfl bipush_60 ?_
      refine s_icmp_gt (pc' := 16) (tgt := 35) dX7_soon_13 rfl (by decide) (fun _ => ?_) (fun c9 => absurd (by decide) c9)
      exact fin 61 m (fk_none hno) hm
    | succ k ih =>
      intro i m hi hMm hm hno
      obtain ⟨sv, hsv, esv⟩ := ((hok.sg (td := td) (P := T w) i) a ha).2.2.1
      refine s_iload_n (pc' := 11) dX7_soon_10 rfl lg2 ?_
      refine s_bipush (pc' := 13) dX7_soon_11 rfl bipush_60 ?_
      refine s_icmp_gt (pc' := 16) (tgt := 35) dX7_soon_13 rfl (by decide) (fun c9 => absurd c9 (fun q => (by have := (nI_ltI (a := 60) (b := i) (by omega) (by omega)).mp q; omega))) (fun _ => ?_)
      refine s_aload_n (pc' := 17) dX7_soon_16 rfl lg0 rfl ?_
      refine s_iload_n (pc' := 18) dX7_soon_17 rfl lg1 ?_
      refine s_iconst (pc' := 19) dX7_soon_18 rfl iconst_2 ?_
      refine c_X7_of_2  (pc' := 22) dX7_soon_19 rfl lkX7_108 (by omega) (Nat.le_of_ble_eq_true rfl) hMm ha ?_
      have e0 : (sg n (T w) σ td i 2 a ≤ 0) ↔ sg n (T w) σ td i 2 a = 0 := by
        rw [esv]
        have q1 := nI_leI (a := sv) (b := 0) (by omega) (by omega)
        have q2 := nI_eq (a := sv) (b := 0) (by omega) (by omega)
        rw [show (0 : Int32) = nI 0 from rfl, q1, q2]; omega
      refine s_if_le (pc' := 25) (tgt := 35) dX7_soon_22 rfl (by decide) (fun c1 => ?_) (fun c1 => ?_)
      · exact fin i m (fk_at (m := 61) hno (decide_eq_true (e0.mp c1)) (by omega)) hm
      · skip
        refine s_aload_n (pc' := 26) dX7_soon_25 rfl lg0 rfl ?_
        refine c_X7_goTide  (pc' := 29) dX7_soon_26 rfl lkX7_217 (by omega) (Nat.le_of_ble_eq_true rfl) hMm (hT.mth hm) hw (fun m2 h2 f2 => ?_)
        refine s_iincN (pc' := 32) dX7_soon_29 rfl lg2 rfl ls2 ?_
        refine s_goto (tgt := 10) dX7_soon_32 (by decide) ?_
        refine ih (i + 1) m2 (by omega) ?_ (hm.tide f2) (fun j hj => ?_)
        · rw [sg_succ, ← td_succ]
          exact h2
        · rcases Nat.lt_or_ge j i with q | q
          · exact hno j q
          · have : j = i := by omega
            rw [this]; exact decide_eq_false (fun c => c1 (e0.mpr c))
  exact loop 61 0 m1 (by omega) (by rw [td_0]; exact hM.keep g1) (mth.keep g1 g2) (fun j hj => absurd hj (Nat.not_lt_zero j))
theorem c_X7_soon {z : Zz} {d kc ks : Nat} {mi : MI} {pc pc' : Nat} {L S : List Value} {Q : Option Value → Lay → Mem → Prop} {rf : Nat → Value} {tl : Lay} {mem : Mem}  {n w nt a : Nat} {σ : Nat → Nat → Int32} {td : Int32} {T : Nat → Nat → List Int32} {idx : Nat} (hd : decode mi.2.1 pc = .ok (.invokevirtual idx, 3)) (hp : pc + 3 = pc') (hlk : Cond.methodLink mi.1.cls idx yX7_soon ∈ wok) (hdd : 5 + 1 ≤ d) (hcat : (S.map (fun v => v.category)).sum ≤ 8) (hM : isM 48 mem σ n td (nI w)) (hT : isTM mem nt T) (hw : w < nt) (hok : okS σ n) (ha : a < n) (K : ∀ mem', mtf mem mem' → Sim z d kc ks mi pc' L (.int (nI (fk (fun k => decide (sg n (T w) σ td k 2 a = 0)) 61)) :: S) (LAY rf tl) mem' Q) : Sim z d kc ks mi pc L (.int (nI a) :: .ref 47 :: S) (LAY rf tl) mem Q :=
  s_invV (d2 := 5) hd hp okX7_soon hlk inX7_soon seX7_soon hdd (Nat.zero_add _) (Nat.zero_add _) rfl rfl ly47 rfl hcat (Nat.le_of_ble_eq_true rfl) (m_X7_soon (Nat.le_refl _) hM hT hw hok ha K)
theorem fk_hit {p : Nat → Bool} : ∀ {m : Nat}, fk p m < m → p (fk p m) = true ∧ ∀ k, k < fk p m → p k = false
  | 0, h => absurd h (Nat.not_lt_zero _)
  | m + 1, h => by
    have hl := fk_le p m
    unfold fk at h ⊢
    by_cases q : fk p m < m
    · rw [if_pos q]; exact fk_hit q
    · rw [if_neg q] at h ⊢
      have e : fk p m = m := by omega
      have hno : ∀ k, k < m → p k = false := by
        clear h
        have : ∀ m, fk p m = m → ∀ k, k < m → p k = false := by
          intro m
          induction m with
          | zero => intro _ k hk; exact absurd hk (Nat.not_lt_zero k)
          | succ m ih =>
            intro e k hk
            unfold fk at e
            by_cases q : fk p m < m
            · rw [if_pos q] at e; omega
            · rw [if_neg q] at e
              cases hp : p m with
              | true => rw [hp, if_pos rfl] at e; omega
              | false =>
                have hle := fk_le p m
                rcases Nat.lt_or_ge k m with c | c
                · exact ih (by omega) k c
                · have : k = m := by omega
                  rw [this]; exact hp
        exact this m e
      cases hp : p m with
      | true => rw [if_pos rfl]; exact ⟨hp, hno⟩
      | false => rw [hp, if_neg Bool.false_ne_true] at h; omega
theorem fk_all {p : Nat → Bool} : ∀ {m : Nat}, fk p m = m → ∀ k, k < m → p k = false := by
  intro m
  induction m with
  | zero => intro _ k hk; exact absurd hk (Nat.not_lt_zero k)
  | succ m ih =>
    intro e k hk
    unfold fk at e
    by_cases q : fk p m < m
    · rw [if_pos q] at e; omega
    · rw [if_neg q] at e
      cases hp : p m with
      | true => rw [hp, if_pos rfl] at e; omega
      | false =>
        have hle := fk_le p m
        rcases Nat.lt_or_ge k m with c | c
        · exact ih (by omega) k c
        · have : k = m := by omega
          rw [this]; exact hp
theorem fk_min {p : Nat → Bool} {y m : Nat} (h : y ≤ m) : fk p y = min (fk p m) y := by
  rcases Nat.lt_or_ge (fk p m) y with q | q
  · have hm : fk p m < m := by omega
    obtain ⟨h1, h2⟩ := fk_hit hm
    rw [fk_at h2 h1 q, Nat.min_eq_left (by omega)]
  · rw [Nat.min_eq_right q]
    refine fk_none (fun k hk => ?_)
    rcases Nat.lt_or_ge (fk p m) m with c | c
    · exact (fk_hit c).2 k (by omega)
    · have := fk_le p m
      exact fk_all (show fk p m = m by omega) k (by omega)
theorem tos_one {σ : Nat → Nat → Int32} {n : Nat} {td : Int32} {P : Nat → List Int32} {a : Nat} : tos σ n td P a 1 = (0, fk (soo σ n td P a 0) 61) := by
  rw [tos_succ]
  show (if fk (soo σ n td P a 0) 61 < 61 then (0, fk (soo σ n td P a 0) 61) else (0, 61)) = _
  have := fk_le (soo σ n td P a 0) 61
  split
  · rfl
  · rw [show fk (soo σ n td P a 0) 61 = 61 by omega]
set_option maxHeartbeats 4000000 in
theorem m_X7_toss {z : Zz} {d : Nat} {Q : Option Value → Lay → Mem → Prop} {rf : Nat → Value} {tl : Lay} {mem : Mem}  {n w nt : Nat} {σ : Nat → Nat → Int32} {td p what : Int32} {T : Nat → Nat → List Int32} (hdd : 6 ≤ d) (hM : isM 48 mem σ n td (nI w)) (hT : isTM mem nt T) (hw : w < nt) (hok : okS σ n) (K : ∀ mem', mtf mem mem' → Q (some (.int (tossR σ n td (T w) p what))) (LAY rf tl) mem') : Sim z d 0 0 mX7_toss 0 [.ref 47, .int p, .int what, .float 0, .float 0, .float 0, .float 0, .float 0] [] (LAY rf tl) mem Q := by
  have h8 := hM.2.1
  unfold tossR at K
  refine s_aload_n (pc' := 1) dX7_toss_0 rfl lg0 rfl ?_
  refine s_iload_n (pc' := 2) dX7_toss_1 rfl lg1 ?_
  refine c_X7_isPiece  (pc' := 5) dX7_toss_2 rfl lkX7_94 (by omega) (Nat.le_of_ble_eq_true rfl) hM.1 h8 ?_
  refine s_if_eq (pc' := 8) (tgt := 17) dX7_toss_5 rfl (by decide) (fun c1 => ?_) (fun c1 => ?_)
  · skip
    rw [if_pos c1] at K
    refine s_bipush (pc' := 19) dX7_toss_17 rfl bipush_m2 ?_
    refine s_iret dX7_toss_19 rfl (vp_nar_int _) ?_
    exact K mem mtf.rf
  · skip
    rw [if_neg c1] at K
    refine s_iload_n (pc' := 9) dX7_toss_8 rfl lg2 ?_
    refine s_iconst (pc' := 10) dX7_toss_9 rfl iconst_0 ?_
    refine s_iconst (pc' := 11) dX7_toss_10 rfl iconst_1 ?_
    refine c_X7_isIn  (pc' := 14) dX7_toss_11 rfl lkX7_86 (by omega) (Nat.le_of_ble_eq_true rfl) ?_
    refine s_if_ne (pc' := 17) (tgt := 20) dX7_toss_14 rfl (by decide) (fun c2 => ?_) (fun c2 => ?_)
    · skip
      rw [if_neg c2] at K
      rcases pc_or p (n := n) (by omega) with h | ⟨a, ha, rfl, -⟩
      · exact absurd h c1
      rw [ix_nI (by omega)] at K
      refine s_aload_n (pc' := 21) dX7_toss_20 rfl lg0 rfl ?_
      refine s_iload_n (pc' := 22) dX7_toss_21 rfl lg1 ?_
      refine s_iconst (pc' := 23) dX7_toss_22 rfl iconst_3 ?_
      refine c_X7_of_3  (pc' := 26) dX7_toss_23 rfl lkX7_108 (by omega) (Nat.le_of_ble_eq_true rfl) hM ha ?_
      refine s_istore_n (pc' := 27) dX7_toss_26 rfl (Nat.le_of_ble_eq_true rfl) rfl ls3 ?_
      refine s_iconst (pc' := 28) dX7_toss_27 rfl iconst_0 ?_
      refine s_istore (pc' := 30) dX7_toss_28 rfl (Nat.le_of_ble_eq_true rfl) rfl ls4 ?_
      refine s_bipush (pc' := 32) dX7_toss_30 rfl bipush_62 ?_
      refine s_istore (pc' := 34) dX7_toss_32 rfl (Nat.le_of_ble_eq_true rfl) rfl ls5 ?_
      refine s_iconst (pc' := 35) dX7_toss_34 rfl iconst_0 ?_
      refine s_istore (pc' := 37) dX7_toss_35 rfl (Nat.le_of_ble_eq_true rfl) rfl ls6 ?_
      have loop : ∀ (k c x y : Nat) (m : Mem) (v7 : Value), c + k = 12 → ((c = 0 ∧ x = 0 ∧ y = 62) ∨ (1 ≤ c ∧ (x, y) = tos σ n td (T w) a c)) → mdf mem m → (∀ k, k < 43 → k ≠ 5 * a + 3 → m 48 k = mem 48 k) → Sim z d 0 0 mX7_toss 37 [.ref 47, .int (nI a), .int what, .int (σ 3 a), .int (nI x), .int (nI y), .int (nI c), v7] [] (LAY rf tl) m Q := by
        intro k
        induction k with
        | zero =>
          intro c x y m v7 hc hxy hm hk
          have hcc : c = 12 := by omega
          subst hcc
          have hxy' : (x, y) = tos σ n td (T w) a 12 := by
            rcases hxy with ⟨q, -⟩ | ⟨-, q⟩
            · omega
            · exact q
          rw [← hxy'] at K
          dsimp only at K
          refine s_iload (pc' := 39) dX7_toss_37 rfl lg6 ?_
          refine s_bipush (pc' := 41) dX7_toss_39 rfl bipush_12 ?_
          refine s_icmp_ge (pc' := 44) (tgt := 90) dX7_toss_41 rfl (by decide) (fun _ => ?_) (fun c9 => absurd (by decide) c9)
          refine s_aload_n (pc' := 91) dX7_toss_90 rfl lg0 rfl ?_
          refine s_iload_n (pc' := 92) dX7_toss_91 rfl lg1 ?_
          refine s_iconst (pc' := 93) dX7_toss_92 rfl iconst_3 ?_
          refine s_iload_n (pc' := 94) dX7_toss_93 rfl lg3 ?_
          refine c_X7_change_3  (pc' := 97) dX7_toss_94 rfl lkX7_104 (by omega) (Nat.le_of_ble_eq_true rfl) (by omega) ?_
          have K2 := K (am_up m 48 (5 * a + 3) (σ 3 a)) ⟨fun j h1 h2 h3 h4 => by rw [upN h1]; exact hm j h1 h2 h3 h4, fun k hk2 => by
            rw [upE]
            by_cases e : k = 5 * a + 3
            · rw [e, udE, hM.2.2.2.2 a ha 3 (by decide)]
            · rw [udN e]; exact hk k hk2 e⟩
          refine s_iload_n (pc' := 98) dX7_toss_97 rfl lg2 ?_
          refine s_if_ne (pc' := 101) (tgt := 106) dX7_toss_98 rfl (by decide) (fun c3 => ?_) (fun c3 => ?_)
          · skip
            rw [if_neg c3] at K2
            refine s_iload (pc' := 108) dX7_toss_106 rfl lg5 ?_
            refine s_iret dX7_toss_108 rfl (vp_nar_int _) ?_
            exact K2
          · skip
            rw [if_pos c3] at K2
            refine s_iload (pc' := 103) dX7_toss_101 rfl lg4 ?_
            refine s_goto (tgt := 108) dX7_toss_103 (by decide) ?_
            refine s_iret dX7_toss_108 rfl (vp_nar_int _) ?_
            exact K2
        | succ k ih =>
          intro c x y m v7 hc hxy hm hk
          have hy : y ≤ 62 ∧ x ≤ 12 := by
            rcases hxy with ⟨-, q1, q2⟩ | ⟨-, q⟩
            · omega
            · have h1 := tos_le (σ := σ) (n := n) (td := td) (P := T w) (a := a) c
              have h2 : ∀ c, (tos σ n td (T w) a c).1 ≤ c := by
                intro c
                induction c with
                | zero => exact Nat.le_refl _
                | succ c ihc =>
                  rw [tos_succ]
                  split
                  · exact Nat.le_succ c
                  · omega
              have h3 := h2 c
              rw [← q] at h1 h3
              dsimp only at h1 h3
              omega
          have hM1 : isM 48 (am_up m 48 (5 * a + 3) (nI c)) (u2 σ 3 a (nI c)) n td (nI w) := (hM.up (w := 3) (i := a) (x := nI c) (by decide) (by omega)).cp (fun k hk2 => by
            rw [upE, upE]
            by_cases e : k = 5 * a + 3
            · rw [e, udE, udE]
            · rw [udN e, udN e]; exact hk k hk2 e)
          have hm1 : mdf mem (am_up m 48 (5 * a + 3) (nI c)) := fun j h1 h2 h3 h4 => by rw [upN h1]; exact hm j h1 h2 h3 h4
          have hf := fk_le (soo σ n td (T w) a c) 61
          refine s_iload (pc' := 39) dX7_toss_37 rfl lg6 ?_
          refine s_bipush (pc' := 41) dX7_toss_39 rfl bipush_12 ?_
          refine s_icmp_ge (pc' := 44) (tgt := 90) dX7_toss_41 rfl (by decide) (fun c9 => absurd c9 (fun q => by have := (nI_leI (a := 12) (b := c) (by omega) (by omega)).mp q; omega)) (fun _ => ?_)
          refine s_aload_n (pc' := 45) dX7_toss_44 rfl lg0 rfl ?_
          refine s_iload_n (pc' := 46) dX7_toss_45 rfl lg1 ?_
          refine s_iconst (pc' := 47) dX7_toss_46 rfl iconst_3 ?_
          refine s_iload (pc' := 49) dX7_toss_47 rfl lg6 ?_
          refine c_X7_change_3  (pc' := 52) dX7_toss_49 rfl lkX7_104 (by omega) (Nat.le_of_ble_eq_true rfl) (by omega) ?_
          refine s_aload_n (pc' := 53) dX7_toss_52 rfl lg0 rfl ?_
          refine s_iload_n (pc' := 54) dX7_toss_53 rfl lg1 ?_
          refine c_X7_soon  (pc' := 57) dX7_toss_54 rfl lkX7_270 (by omega) (Nat.le_of_ble_eq_true rfl) hM1 (hT.mdf hm1) hw (okS.u2 hok (Or.inr (Or.inr (Or.inr (Or.inl ⟨rfl, by omega⟩))))) ha (fun m2 t2 => ?_)
          rw [show fk (fun k => decide (sg n (T w) (u2 σ 3 a (nI c)) td k 2 a = 0)) 61 = fk (soo σ n td (T w) a c) 61 from rfl]
          have hm2 : mdf mem m2 := hm1.tr t2.1
          have hk2 : ∀ k, k < 43 → k ≠ 5 * a + 3 → m2 48 k = mem 48 k := fun k q1 q2 => by rw [t2.2 k q1, upE, udN q2]; exact hk k q1 q2
          have step : ∀ x' y', (if fk (soo σ n td (T w) a c) 61 < y then (x' = c ∧ y' = fk (soo σ n td (T w) a c) 61) else (x' = x ∧ y' = y)) → (x', y') = tos σ n td (T w) a (c + 1) := by
            intro x' y' hs
            rcases hxy with ⟨rfl, rfl, rfl⟩ | ⟨q1, q2⟩
            · rw [if_pos (by omega)] at hs
              rw [hs.1, hs.2, tos_one]
            · have hy61 : y ≤ 61 := by have h1 := tos_le (σ := σ) (n := n) (td := td) (P := T w) (a := a) c; rw [← q2] at h1; exact h1
              rw [tos_succ, ← q2]
              dsimp only
              rw [fk_min (m := 61) hy61]
              by_cases q : fk (soo σ n td (T w) a c) 61 < y
              · rw [if_pos q] at hs
                rw [Nat.min_eq_left (by omega), if_pos q, hs.1, hs.2]
              · rw [if_neg q] at hs
                rw [Nat.min_eq_right (by omega), if_neg (by omega), hs.1, hs.2]
          generalize fk (soo σ n td (T w) a c) 61 = f at hf step ⊢
          refine s_istore (pc' := 59) dX7_toss_57 rfl (Nat.le_of_ble_eq_true rfl) rfl ls7 ?_
          refine s_iload (pc' := 61) dX7_toss_59 rfl lg7 ?_
          refine s_iload (pc' := 63) dX7_toss_61 rfl lg5 ?_
          by_cases q : f < y
          · simp only [if_pos q] at step
            refine s_icmp_ge (pc' := 66) (tgt := 71) dX7_toss_63 rfl (by decide) (fun c9 => absurd c9 (nI_ge q (by omega))) (fun _ => ?_)
            refine s_iload (pc' := 68) dX7_toss_66 rfl lg6 ?_
            refine s_goto (tgt := 73) dX7_toss_68 (by decide) ?_
            refine s_istore (pc' := 75) dX7_toss_73 rfl (Nat.le_of_ble_eq_true rfl) rfl ls4 ?_
            refine s_iload (pc' := 77) dX7_toss_75 rfl lg7 ?_
            refine s_iload (pc' := 79) dX7_toss_77 rfl lg5 ?_
            refine c_J9_min_7cf53 (pc' := 82) dX7_toss_79 rfl lkX7_77 (by omega) (Nat.le_of_ble_eq_true rfl)  ?_
            rw [mn_nI (by omega) (by omega), Nat.min_eq_left (by omega)]
            refine s_istore (pc' := 84) dX7_toss_82 rfl (Nat.le_of_ble_eq_true rfl) rfl ls5 ?_
            refine s_iincN (pc' := 87) dX7_toss_84 rfl lg6 rfl ls6 ?_
            refine s_goto (tgt := 37) dX7_toss_87 (by decide) ?_
            exact ih (c + 1) _ _ m2 _ (by omega) (Or.inr ⟨by omega, step c f ⟨rfl, rfl⟩⟩) hm2 hk2
          · simp only [if_neg q] at step
            refine s_icmp_ge (pc' := 66) (tgt := 71) dX7_toss_63 rfl (by decide) (fun _ => ?_) (fun c9 => absurd (nI_le (by omega) (by omega)) c9)
            refine s_iload (pc' := 73) dX7_toss_71 rfl lg4 ?_
            refine s_istore (pc' := 75) dX7_toss_73 rfl (Nat.le_of_ble_eq_true rfl) rfl ls4 ?_
            refine s_iload (pc' := 77) dX7_toss_75 rfl lg7 ?_
            refine s_iload (pc' := 79) dX7_toss_77 rfl lg5 ?_
            refine c_J9_min_7cf53 (pc' := 82) dX7_toss_79 rfl lkX7_77 (by omega) (Nat.le_of_ble_eq_true rfl)  ?_
            rw [mn_nI (by omega) (by omega), Nat.min_eq_right (by omega)]
            refine s_istore (pc' := 84) dX7_toss_82 rfl (Nat.le_of_ble_eq_true rfl) rfl ls5 ?_
            refine s_iincN (pc' := 87) dX7_toss_84 rfl lg6 rfl ls6 ?_
            refine s_goto (tgt := 37) dX7_toss_87 (by decide) ?_
            exact ih (c + 1) _ _ m2 _ (by omega) (Or.inr ⟨by omega, step x y ⟨rfl, rfl⟩⟩) hm2 hk2
      exact loop 12 0 0 62 mem _ (by omega) (Or.inl ⟨rfl, rfl, rfl⟩) mdf.rf (fun _ _ _ => rfl)
    · skip
      rw [if_pos c2] at K
      refine s_bipush (pc' := 19) dX7_toss_17 rfl bipush_m2 ?_
      refine s_iret dX7_toss_19 rfl (vp_nar_int _) ?_
      exact K mem mtf.rf
theorem c_X7_toss {z : Zz} {d kc ks : Nat} {mi : MI} {pc pc' : Nat} {L S : List Value} {Q : Option Value → Lay → Mem → Prop} {rf : Nat → Value} {tl : Lay} {mem : Mem}  {n w nt : Nat} {σ : Nat → Nat → Int32} {td p what : Int32} {T : Nat → Nat → List Int32} {idx : Nat} (hd : decode mi.2.1 pc = .ok (.invokevirtual idx, 3)) (hp : pc + 3 = pc') (hlk : Cond.methodLink mi.1.cls idx yX7_toss ∈ wok) (hdd : 6 + 1 ≤ d) (hcat : (S.map (fun v => v.category)).sum ≤ 8) (hM : isM 48 mem σ n td (nI w)) (hT : isTM mem nt T) (hw : w < nt) (hok : okS σ n) (K : ∀ mem', mtf mem mem' → Sim z d kc ks mi pc' L (.int (tossR σ n td (T w) p what) :: S) (LAY rf tl) mem' Q) : Sim z d kc ks mi pc L (.int what :: .int p :: .ref 47 :: S) (LAY rf tl) mem Q :=
  s_invV (d2 := 6) hd hp okX7_toss hlk inX7_toss seX7_toss hdd (Nat.zero_add _) (Nat.zero_add _) rfl rfl ly47 rfl hcat (Nat.le_of_ble_eq_true rfl) (m_X7_toss (Nat.le_refl _) hM hT hw hok K)

