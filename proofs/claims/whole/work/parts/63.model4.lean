/-! ===== the Model: feed, force, image, back ===== -/
theorem isM.cp {c c' : Nat} {mem mem' : Mem} {σ : Nat → Nat → Int32} {n : Nat} {td ru : Int32} (h : isM c mem σ n td ru) (hk : ∀ k, k < 43 → mem' c' k = mem c k) : isM c' mem' σ n td ru := by
  obtain ⟨h1, h2, h3, h4, h5⟩ := h
  exact ⟨by rw [hk 40 (by decide)]; exact h1, h2, by rw [hk 41 (by decide)]; exact h3, by rw [hk 42 (by decide)]; exact h4, fun i hi w hw => by rw [hk _ (by omega)]; exact h5 i hi w hw⟩
set_option maxHeartbeats 4000000 in
theorem m_X7_feed {z : Zz} {d : Nat} {Q : Option Value → Lay → Mem → Prop} {rf : Nat → Value} {tl : Lay} {mem : Mem}  {tn : Nat} {x : Int32} (hdd : 1 ≤ d) (htn : mem 47 5 = nI tn) (h160 : tn ≤ 160) (K :  Q (some (.int (if inB x 0 255 = 0 then -2 else if tn < 160 then nI (tn + 1) else -4))) (LAY rf tl) (if inB x 0 255 = 0 then mem else if tn < 160 then am_up (am_up mem 51 tn x) 47 5 (nI (tn + 1)) else mem)) : Sim z d 0 0 mX7_feed 0 [.ref 47, .int x] [] (LAY rf tl) mem Q := by
  refine s_iload_n (pc' := 1) dX7_feed_0 rfl lg1 ?_
  refine s_iconst (pc' := 2) dX7_feed_1 rfl iconst_0 ?_
  refine s_sipush (pc' := 5) dX7_feed_2 rfl sipush_255 ?_
  refine c_X7_isIn  (pc' := 8) dX7_feed_5 rfl lkX7_86 (by omega) (Nat.le_of_ble_eq_true rfl) ?_
  refine s_if_ne (pc' := 11) (tgt := 14) dX7_feed_8 rfl (by decide) (fun c1 => ?_) (fun c1 => ?_)
  · skip
    rw [if_neg c1, if_neg c1] at K
    refine s_aload_n (pc' := 15) dX7_feed_14 rfl lg0 rfl ?_
    refine s_getIv (pc' := 18) (v := nI tn) dX7_feed_15 rfl flX7_127 ly47 (by decide) rfl htn ?_
    refine s_sipush (pc' := 21) dX7_feed_18 rfl sipush_160 ?_
    rcases Nat.lt_or_ge tn 160 with q | q
    · rw [if_pos q, if_pos q] at K
      refine s_icmp_ne (pc' := 24) (tgt := 27) dX7_feed_21 rfl (by decide) (fun _ => ?_) (fun c9 => absurd c9 (fun e => absurd ((nI_eq (a := tn) (b := 160) (by omega) (by omega)).mp e) (by omega)))
      refine s_aload_n (pc' := 28) dX7_feed_27 rfl lg0 rfl ?_
      refine s_getRv (pc' := 31) (v := .ref 51) dX7_feed_28 rfl flX7_19 ly47 (by decide) rfl rfl ?_
      refine s_aload_n (pc' := 32) dX7_feed_31 rfl lg0 rfl ?_
      refine s_getIv (pc' := 35) (v := nI tn) dX7_feed_32 rfl flX7_127 ly47 (by decide) rfl htn ?_
      refine s_iload_n (pc' := 36) dX7_feed_35 rfl lg1 ?_
      refine s_iastN (pc' := 37) dX7_feed_36 rfl ly51 (by omega) (by decide) ?_
      refine s_aload_n (pc' := 38) dX7_feed_37 rfl lg0 rfl ?_
      refine s_dup (pc' := 39) dX7_feed_38 rfl rfl ?_
      refine s_getIv (pc' := 42) (v := nI tn) dX7_feed_39 rfl flX7_127 ly47 (by decide) rfl (by rw [upN (by decide)]; exact htn) ?_
      refine s_iconst (pc' := 43) dX7_feed_42 rfl iconst_1 ?_
      refine s_iadd (pc' := 44) dX7_feed_43 rfl ?_
      rw [nI_1]
      refine s_putI (pc' := 47) (ty := .int) dX7_feed_44 rfl flX7_127 fw7_5 pdI rfl rfl ly47 (by decide) rfl ?_
      refine s_aload_n (pc' := 48) dX7_feed_47 rfl lg0 rfl ?_
      refine s_getIv (pc' := 51) (v := nI (tn + 1)) dX7_feed_48 rfl flX7_127 ly47 (by decide) rfl (by rw [upE, udE]) ?_
      refine s_iret dX7_feed_51 rfl (vp_nar_int _) ?_
      exact K
    · rw [if_neg (by omega), if_neg (by omega)] at K
      have : tn = 160 := by omega
      subst this
      refine s_icmp_ne (pc' := 24) (tgt := 27) dX7_feed_21 rfl (by decide) (fun c9 => absurd (by decide) c9) (fun _ => ?_)
      refine s_bipush (pc' := 26) dX7_feed_24 rfl bipush_m4 ?_
      refine s_iret dX7_feed_26 rfl (vp_nar_int _) ?_
      exact K
  · skip
    rw [if_pos c1, if_pos c1] at K
    refine s_bipush (pc' := 13) dX7_feed_11 rfl bipush_m2 ?_
    refine s_iret dX7_feed_13 rfl (vp_nar_int _) ?_
    exact K
theorem c_X7_feed {z : Zz} {d kc ks : Nat} {mi : MI} {pc pc' : Nat} {L S : List Value} {Q : Option Value → Lay → Mem → Prop} {rf : Nat → Value} {tl : Lay} {mem : Mem}  {tn : Nat} {x : Int32} {idx : Nat} (hd : decode mi.2.1 pc = .ok (.invokevirtual idx, 3)) (hp : pc + 3 = pc') (hlk : Cond.methodLink mi.1.cls idx yX7_feed ∈ wok) (hdd : 1 + 1 ≤ d) (hcat : (S.map (fun v => v.category)).sum ≤ 8) (htn : mem 47 5 = nI tn) (h160 : tn ≤ 160) (K :  Sim z d kc ks mi pc' L (.int (if inB x 0 255 = 0 then -2 else if tn < 160 then nI (tn + 1) else -4) :: S) (LAY rf tl) (if inB x 0 255 = 0 then mem else if tn < 160 then am_up (am_up mem 51 tn x) 47 5 (nI (tn + 1)) else mem) Q) : Sim z d kc ks mi pc L (.int x :: .ref 47 :: S) (LAY rf tl) mem Q :=
  s_invV (d2 := 1) hd hp okX7_feed hlk inX7_feed seX7_feed hdd (Nat.zero_add _) (Nat.zero_add _) rfl rfl ly47 rfl hcat (Nat.le_of_ble_eq_true rfl) (m_X7_feed (Nat.le_refl _) htn h160 K)
set_option maxHeartbeats 4000000 in
theorem m_X7_force {z : Zz} {d : Nat} {Q : Option Value → Lay → Mem → Prop} {rf : Nat → Value} {tl : Lay} {mem : Mem}  {n w nt : Nat} {σ : Nat → Nat → Int32} {td x : Int32} (hdd : 1 ≤ d) (hM : isM 48 mem σ n td (nI w)) (hnt : mem 47 12 = nI nt) (hn1 : 1 ≤ nt) (K :  Q (some (.int (if inB x 0 (nI (nt - 1)) = 0 then -2 else nI w))) (LAY rf tl) (if inB x 0 (nI (nt - 1)) = 0 then mem else am_up mem 48 42 x)) : Sim z d 0 0 mX7_force 0 [.ref 47, .int x, .float 0] [] (LAY rf tl) mem Q := by
  refine s_iload_n (pc' := 1) dX7_force_0 rfl lg1 ?_
  refine s_iconst (pc' := 2) dX7_force_1 rfl iconst_0 ?_
  refine s_aload_n (pc' := 3) dX7_force_2 rfl lg0 rfl ?_
  refine s_getIv (pc' := 6) (v := nI nt) dX7_force_3 rfl flX7_32 ly47 (by decide) rfl hnt ?_
  refine s_iconst (pc' := 7) dX7_force_6 rfl iconst_1 ?_
  refine s_isub (pc' := 8) dX7_force_7 rfl ?_
  rw [show nI nt - 1 = nI (nt - 1) from by obtain ⟨k, rfl⟩ : ∃ k, nt = k + 1 := ⟨nt - 1, by omega⟩; rw [nI_pred]; rfl]
  refine c_X7_isIn  (pc' := 11) dX7_force_8 rfl lkX7_86 (by omega) (Nat.le_of_ble_eq_true rfl) ?_
  refine s_if_ne (pc' := 14) (tgt := 17) dX7_force_11 rfl (by decide) (fun c1 => ?_) (fun c1 => ?_)
  · skip
    rw [if_neg c1, if_neg c1] at K
    refine s_aload_n (pc' := 18) dX7_force_17 rfl lg0 rfl ?_
    refine s_getRv (pc' := 21) (v := .ref 48) dX7_force_18 rfl flX7_7 ly47 (by decide) rfl rfl ?_
    refine s_bipush (pc' := 23) dX7_force_21 rfl bipush_42 ?_
    refine s_ialdNv (pc' := 24) (k := 42) (v := nI w) dX7_force_23 rfl ly48 (by decide) (by decide) hM.2.2.2.1 ?_
    refine s_istore_n (pc' := 25) dX7_force_24 rfl (Nat.le_of_ble_eq_true rfl) rfl ls2 ?_
    refine s_aload_n (pc' := 26) dX7_force_25 rfl lg0 rfl ?_
    refine s_getRv (pc' := 29) (v := .ref 48) dX7_force_26 rfl flX7_7 ly47 (by decide) rfl rfl ?_
    refine s_bipush (pc' := 31) dX7_force_29 rfl bipush_42 ?_
    refine s_iload_n (pc' := 32) dX7_force_31 rfl lg1 ?_
    refine s_iastN (pc' := 33) (k := 42) dX7_force_32 rfl ly48 (by decide) (by decide) ?_
    refine s_iload_n (pc' := 34) dX7_force_33 rfl lg2 ?_
    refine s_iret dX7_force_34 rfl (vp_nar_int _) ?_
    exact K
  · skip
    rw [if_pos c1, if_pos c1] at K
    refine s_bipush (pc' := 16) dX7_force_14 rfl bipush_m2 ?_
    refine s_iret dX7_force_16 rfl (vp_nar_int _) ?_
    exact K
theorem c_X7_force {z : Zz} {d kc ks : Nat} {mi : MI} {pc pc' : Nat} {L S : List Value} {Q : Option Value → Lay → Mem → Prop} {rf : Nat → Value} {tl : Lay} {mem : Mem}  {n w nt : Nat} {σ : Nat → Nat → Int32} {td x : Int32} {idx : Nat} (hd : decode mi.2.1 pc = .ok (.invokevirtual idx, 3)) (hp : pc + 3 = pc') (hlk : Cond.methodLink mi.1.cls idx yX7_force ∈ wok) (hdd : 1 + 1 ≤ d) (hcat : (S.map (fun v => v.category)).sum ≤ 8) (hM : isM 48 mem σ n td (nI w)) (hnt : mem 47 12 = nI nt) (hn1 : 1 ≤ nt) (K :  Sim z d kc ks mi pc' L (.int (if inB x 0 (nI (nt - 1)) = 0 then -2 else nI w) :: S) (LAY rf tl) (if inB x 0 (nI (nt - 1)) = 0 then mem else am_up mem 48 42 x) Q) : Sim z d kc ks mi pc L (.int x :: .ref 47 :: S) (LAY rf tl) mem Q :=
  s_invV (d2 := 1) hd hp okX7_force hlk inX7_force seX7_force hdd (Nat.zero_add _) (Nat.zero_add _) rfl rfl ly47 rfl hcat (Nat.le_of_ble_eq_true rfl) (m_X7_force (Nat.le_refl _) hM hnt hn1 K)
set_option maxHeartbeats 4000000 in
theorem m_X7_image {z : Zz} {d : Nat} {Q : Option Value → Lay → Mem → Prop} {rf : Nat → Value} {tl : Lay} {mem : Mem}  {n : Nat} {σ : Nat → Nat → Int32} {td ru : Int32} (hdd : 1 ≤ d) (hM : isM 48 mem σ n td ru) (K : ∀ mem', isM 49 mem' σ n td ru → mem' 47 3 = 1 → (∀ k, k ≠ 3 → mem' 47 k = mem 47 k) → (∀ j, j ≠ 47 → j ≠ 49 → mem' j = mem j) → Q (some (.int (nI n))) (LAY rf tl) mem') : Sim z d 0 0 mX7_image 0 [.ref 47] [] (LAY rf tl) mem Q := by
  refine s_aload_n (pc' := 1) dX7_image_0 rfl lg0 rfl ?_
  refine s_aload_n (pc' := 2) dX7_image_1 rfl lg0 rfl ?_
  refine s_getRv (pc' := 5) (v := .ref 49) dX7_image_2 rfl flX7_13 ly47 (by decide) rfl rfl ?_
  refine c_X7_keep  (pc' := 8) dX7_image_5 rfl lkX7_223 (by omega) (Nat.le_of_ble_eq_true rfl) ly49 (by decide) (fun m1 g1 g2 => ?_)
  refine s_aload_n (pc' := 9) dX7_image_8 rfl lg0 rfl ?_
  refine s_iconst (pc' := 10) dX7_image_9 rfl iconst_1 ?_
  refine s_putI (pc' := 13) (ty := .boolean) dX7_image_10 rfl flX7_300 fw7_3 pdZ rfl rfl ly47 (by decide) rfl ?_
  refine s_aload_n (pc' := 14) dX7_image_13 rfl lg0 rfl ?_
  refine c_X7_many  (pc' := 17) dX7_image_14 rfl lkX7_101 (by omega) (Nat.le_of_ble_eq_true rfl) ?_
  rw [upN (by decide), g1 48 (by decide), hM.1]
  refine s_iret dX7_image_17 rfl (vp_nar_int _) ?_
  refine K _ (hM.cp (fun k hk => by rw [upN (by decide)]; exact g2 k hk)) (by rw [upE, udE]) (fun k hk => by rw [upE, udN hk, g1 47 (by decide)]) (fun j q1 q2 => by rw [upN q1]; exact g1 j q2)
theorem c_X7_image {z : Zz} {d kc ks : Nat} {mi : MI} {pc pc' : Nat} {L S : List Value} {Q : Option Value → Lay → Mem → Prop} {rf : Nat → Value} {tl : Lay} {mem : Mem}  {n : Nat} {σ : Nat → Nat → Int32} {td ru : Int32} {idx : Nat} (hd : decode mi.2.1 pc = .ok (.invokevirtual idx, 3)) (hp : pc + 3 = pc') (hlk : Cond.methodLink mi.1.cls idx yX7_image ∈ wok) (hdd : 1 + 1 ≤ d) (hcat : (S.map (fun v => v.category)).sum ≤ 8) (hM : isM 48 mem σ n td ru) (K : ∀ mem', isM 49 mem' σ n td ru → mem' 47 3 = 1 → (∀ k, k ≠ 3 → mem' 47 k = mem 47 k) → (∀ j, j ≠ 47 → j ≠ 49 → mem' j = mem j) → Sim z d kc ks mi pc' L (.int (nI n) :: S) (LAY rf tl) mem' Q) : Sim z d kc ks mi pc L (.ref 47 :: S) (LAY rf tl) mem Q :=
  s_invV (d2 := 1) hd hp okX7_image hlk inX7_image seX7_image hdd (Nat.zero_add _) (Nat.zero_add _) rfl rfl ly47 rfl hcat (Nat.le_of_ble_eq_true rfl) (m_X7_image (Nat.le_refl _) hM K)
set_option maxHeartbeats 4000000 in
theorem m_X7_back {z : Zz} {d : Nat} {Q : Option Value → Lay → Mem → Prop} {rf : Nat → Value} {tl : Lay} {mem : Mem}  {n : Nat} {kp : Bool} {σ : Nat → Nat → Int32} {td ru : Int32} (hdd : 1 ≤ d) (hkp : mem 47 3 = if kp then 1 else 0) (hM : kp = true → isM 49 mem σ n td ru) (K : ∀ mem', (if kp then isM 48 mem' σ n td ru ∧ (∀ j, j ≠ 48 → mem' j = mem j) else mem' = mem) → Q (some (.int (if kp then nI n else -3))) (LAY rf tl) mem') : Sim z d 0 0 mX7_back 0 [.ref 47] [] (LAY rf tl) mem Q := by
  cases kp with
  | true =>
    rw [if_pos rfl] at hkp
    simp only [if_true] at K
    have h := hM rfl
    refine s_aload_n (pc' := 1) dX7_back_0 rfl lg0 rfl ?_
    refine s_getIv (pc' := 4) (v := 1) dX7_back_1 rfl flX7_300 ly47 (by decide) rfl hkp ?_
    refine s_if_ne (pc' := 7) (tgt := 10) dX7_back_4 rfl (by decide) (fun _ => ?_) (fun c9 => absurd c9 (by decide))
    refine s_aload_n (pc' := 11) dX7_back_10 rfl lg0 rfl ?_
    refine s_aload_n (pc' := 12) dX7_back_11 rfl lg0 rfl ?_
    refine s_getRv (pc' := 15) (v := .ref 49) dX7_back_12 rfl flX7_13 ly47 (by decide) rfl rfl ?_
    refine c_X7_lay  (pc' := 18) dX7_back_15 rfl lkX7_233 (by omega) (Nat.le_of_ble_eq_true rfl) ly49 (by decide) (fun m1 g1 g2 => ?_)
    have h2 : isM 48 m1 σ n td ru := h.cp g2
    refine s_aload_n (pc' := 19) dX7_back_18 rfl lg0 rfl ?_
    refine c_X7_many  (pc' := 22) dX7_back_19 rfl lkX7_101 (by omega) (Nat.le_of_ble_eq_true rfl) ?_
    rw [h2.1]
    refine s_iret dX7_back_22 rfl (vp_nar_int _) ?_
    exact K m1 ⟨h2, g1⟩
  | false =>
    rw [if_neg Bool.false_ne_true] at hkp
    simp only [Bool.false_eq_true, if_false] at K
    refine s_aload_n (pc' := 1) dX7_back_0 rfl lg0 rfl ?_
    refine s_getIv (pc' := 4) (v := 0) dX7_back_1 rfl flX7_300 ly47 (by decide) rfl hkp ?_
    refine s_if_ne (pc' := 7) (tgt := 10) dX7_back_4 rfl (by decide) (fun c9 => absurd (by decide) c9) (fun _ => ?_)
    refine s_bipush (pc' := 9) dX7_back_7 rfl bipush_m3 ?_
    refine s_iret dX7_back_9 rfl (vp_nar_int _) ?_
    exact K mem rfl
theorem c_X7_back {z : Zz} {d kc ks : Nat} {mi : MI} {pc pc' : Nat} {L S : List Value} {Q : Option Value → Lay → Mem → Prop} {rf : Nat → Value} {tl : Lay} {mem : Mem}  {n : Nat} {kp : Bool} {σ : Nat → Nat → Int32} {td ru : Int32} {idx : Nat} (hd : decode mi.2.1 pc = .ok (.invokevirtual idx, 3)) (hp : pc + 3 = pc') (hlk : Cond.methodLink mi.1.cls idx yX7_back ∈ wok) (hdd : 1 + 1 ≤ d) (hcat : (S.map (fun v => v.category)).sum ≤ 8) (hkp : mem 47 3 = if kp then 1 else 0) (hM : kp = true → isM 49 mem σ n td ru) (K : ∀ mem', (if kp then isM 48 mem' σ n td ru ∧ (∀ j, j ≠ 48 → mem' j = mem j) else mem' = mem) → Sim z d kc ks mi pc' L (.int (if kp then nI n else -3) :: S) (LAY rf tl) mem' Q) : Sim z d kc ks mi pc L (.ref 47 :: S) (LAY rf tl) mem Q :=
  s_invV (d2 := 1) hd hp okX7_back hlk inX7_back seX7_back hdd (Nat.zero_add _) (Nat.zero_add _) rfl rfl ly47 rfl hcat (Nat.le_of_ble_eq_true rfl) (m_X7_back (Nat.le_refl _) hkp hM K)

