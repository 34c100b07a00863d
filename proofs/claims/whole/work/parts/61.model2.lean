/-! ===== the Model: sums, lying, keep, lay ===== -/
set_option maxHeartbeats 4000000 in
theorem m_X7_sharps {z : Zz} {d : Nat} {Q : Option Value → Lay → Mem → Prop} {rf : Nat → Value} {tl : Lay} {mem : Mem}  {n : Nat} {σ : Nat → Nat → Int32} {td ru : Int32} (hdd : 1 ≤ d) (hM : isM 48 mem σ n td ru) (K :  Q (some (.int (suI (σ 2) n))) (LAY rf tl) mem) : Sim z d 0 0 mX7_sharps 0 [.ref 47, .float 0, .float 0] [] (LAY rf tl) mem Q := by
  have h8 := hM.2.1
  have hn := hM.1
  refine s_iconst (pc' := 1) dX7_sharps_0 rfl iconst_0 ?_
  refine s_istore_n (pc' := 2) dX7_sharps_1 rfl (Nat.le_of_ble_eq_true rfl) rfl ls1 ?_
  refine s_iconst (pc' := 3) dX7_sharps_2 rfl iconst_0 ?_
  refine s_istore_n (pc' := 4) dX7_sharps_3 rfl (Nat.le_of_ble_eq_true rfl) rfl ls2 ?_
  have loop : ∀ (k i : Nat), i + k = n → Sim z d 0 0 mX7_sharps 4 [.ref 47, .int (suI (σ 2) i), .int (nI i)] [] (LAY rf tl) mem Q := by
    intro k
    induction k with
    | zero =>
      intro i hi
      have : i = n := by omega
      subst this
      refine s_iload_n (pc' := 5) dX7_sharps_4 rfl lg2 ?_
      refine s_aload_n (pc' := 6) dX7_sharps_5 rfl lg0 rfl ?_
      refine c_X7_many  (pc' := 9) dX7_sharps_6 rfl lkX7_101 (by omega) (Nat.le_of_ble_eq_true rfl) ?_
      refine s_icmp_ge (pc' := 12) (tgt := 27) dX7_sharps_9 rfl (by decide) (fun _ => ?_) (fun c9 => absurd (by rw [hn]; exact nI_le (by omega) (by omega)) c9)
      refine s_iload_n (pc' := 28) dX7_sharps_27 rfl lg1 ?_
      refine s_iret dX7_sharps_28 rfl (vp_nar_int _) ?_
      exact K
    | succ k ih =>
      intro i hi
      have h1 := ih (i + 1) (by omega)
      rw [suI_succ] at h1
      refine s_iload_n (pc' := 5) dX7_sharps_4 rfl lg2 ?_
      refine s_aload_n (pc' := 6) dX7_sharps_5 rfl lg0 rfl ?_
      refine c_X7_many  (pc' := 9) dX7_sharps_6 rfl lkX7_101 (by omega) (Nat.le_of_ble_eq_true rfl) ?_
      refine s_icmp_ge (pc' := 12) (tgt := 27) dX7_sharps_9 rfl (by decide) (fun c9 => absurd c9 (by rw [hn]; exact nI_ge (by omega) (by omega))) (fun _ => ?_)
      refine s_iload_n (pc' := 13) dX7_sharps_12 rfl lg1 ?_
      refine s_aload_n (pc' := 14) dX7_sharps_13 rfl lg0 rfl ?_
      refine s_iload_n (pc' := 15) dX7_sharps_14 rfl lg2 ?_
      refine s_iconst (pc' := 16) dX7_sharps_15 rfl iconst_2 ?_
      refine c_X7_of_2  (pc' := 19) dX7_sharps_16 rfl lkX7_108 (by omega) (Nat.le_of_ble_eq_true rfl) hM (by omega) ?_
      refine s_iadd (pc' := 20) dX7_sharps_19 rfl ?_
      refine s_istore_n (pc' := 21) dX7_sharps_20 rfl (Nat.le_of_ble_eq_true rfl) rfl ls1 ?_
      refine s_iincN (pc' := 24) dX7_sharps_21 rfl lg2 rfl ls2 ?_
      refine s_goto (tgt := 4) dX7_sharps_24 (by decide) ?_
      exact h1
  exact loop n 0 (by omega)
theorem c_X7_sharps {z : Zz} {d kc ks : Nat} {mi : MI} {pc pc' : Nat} {L S : List Value} {Q : Option Value → Lay → Mem → Prop} {rf : Nat → Value} {tl : Lay} {mem : Mem}  {n : Nat} {σ : Nat → Nat → Int32} {td ru : Int32} {idx : Nat} (hd : decode mi.2.1 pc = .ok (.invokevirtual idx, 3)) (hp : pc + 3 = pc') (hlk : Cond.methodLink mi.1.cls idx yX7_sharps ∈ wok) (hdd : 1 + 1 ≤ d) (hcat : (S.map (fun v => v.category)).sum ≤ 8) (hM : isM 48 mem σ n td ru) (K :  Sim z d kc ks mi pc' L (.int (suI (σ 2) n) :: S) (LAY rf tl) mem Q) : Sim z d kc ks mi pc L (.ref 47 :: S) (LAY rf tl) mem Q :=
  s_invV (d2 := 1) hd hp okX7_sharps hlk inX7_sharps seX7_sharps hdd (Nat.zero_add _) (Nat.zero_add _) rfl rfl ly47 rfl hcat (Nat.le_of_ble_eq_true rfl) (m_X7_sharps (Nat.le_refl _) hM K)
theorem or_0 (x : Int32) : x ||| 0 = x := Int32.or_zero
set_option maxHeartbeats 4000000 in
theorem m_X7_lying {z : Zz} {d : Nat} {Q : Option Value → Lay → Mem → Prop} {rf : Nat → Value} {tl : Lay} {mem : Mem}  {n : Nat} {σ : Nat → Nat → Int32} {td ru w : Int32} (hdd : 1 ≤ d) (hM : isM 48 mem σ n td ru) (K :  Q (some (.int (bo (fun i => decide (σ 3 i = w)) n))) (LAY rf tl) mem) : Sim z d 0 0 mX7_lying 0 [.ref 47, .int w, .float 0, .float 0] [] (LAY rf tl) mem Q := by
  have h8 := hM.2.1
  have hn := hM.1
  refine s_iconst (pc' := 1) dX7_lying_0 rfl iconst_0 ?_
  refine s_istore_n (pc' := 2) dX7_lying_1 rfl (Nat.le_of_ble_eq_true rfl) rfl ls2 ?_
  refine s_iconst (pc' := 3) dX7_lying_2 rfl iconst_0 ?_
  refine s_istore_n (pc' := 4) dX7_lying_3 rfl (Nat.le_of_ble_eq_true rfl) rfl ls3 ?_
  have loop : ∀ (k i : Nat), i + k = n → Sim z d 0 0 mX7_lying 4 [.ref 47, .int w, .int (bo (fun i => decide (σ 3 i = w)) i), .int (nI i)] [] (LAY rf tl) mem Q := by
    intro k
    induction k with
    | zero =>
      intro i hi
      have : i = n := by omega
      subst this
      refine s_iload_n (pc' := 5) dX7_lying_4 rfl lg3 ?_
      refine s_aload_n (pc' := 6) dX7_lying_5 rfl lg0 rfl ?_
      refine c_X7_many  (pc' := 9) dX7_lying_6 rfl lkX7_101 (by omega) (Nat.le_of_ble_eq_true rfl) ?_
      refine s_icmp_ge (pc' := 12) (tgt := 38) dX7_lying_9 rfl (by decide) (fun _ => ?_) (fun c9 => absurd (by rw [hn]; exact nI_le (by omega) (by omega)) c9)
      refine s_iload_n (pc' := 39) dX7_lying_38 rfl lg2 ?_
      refine s_iret dX7_lying_39 rfl (vp_nar_int _) ?_
      exact K
    | succ k ih =>
      intro i hi
      have h1 := ih (i + 1) (by omega)
      refine s_iload_n (pc' := 5) dX7_lying_4 rfl lg3 ?_
      refine s_aload_n (pc' := 6) dX7_lying_5 rfl lg0 rfl ?_
      refine c_X7_many  (pc' := 9) dX7_lying_6 rfl lkX7_101 (by omega) (Nat.le_of_ble_eq_true rfl) ?_
      refine s_icmp_ge (pc' := 12) (tgt := 38) dX7_lying_9 rfl (by decide) (fun c9 => absurd c9 (by rw [hn]; exact nI_ge (by omega) (by omega))) (fun _ => ?_)
      refine s_iload_n (pc' := 13) dX7_lying_12 rfl lg2 ?_
      refine s_aload_n (pc' := 14) dX7_lying_13 rfl lg0 rfl ?_
      refine s_iload_n (pc' := 15) dX7_lying_14 rfl lg3 ?_
      refine s_iconst (pc' := 16) dX7_lying_15 rfl iconst_3 ?_
      refine c_X7_of_3  (pc' := 19) dX7_lying_16 rfl lkX7_108 (by omega) (Nat.le_of_ble_eq_true rfl) hM (by omega) ?_
      refine s_iload_n (pc' := 20) dX7_lying_19 rfl lg1 ?_
      refine s_icmp_ne (pc' := 23) (tgt := 29) dX7_lying_20 rfl (by decide) (fun c1 => ?_) (fun c1 => ?_)
      · skip
        rw [bo_f (p := fun i => decide (σ 3 i = w)) (decide_eq_false c1)] at h1
        refine s_iconst (pc' := 30) dX7_lying_29 rfl iconst_0 ?_
        refine s_ior (pc' := 31) dX7_lying_30 rfl ?_
        rw [or_0]
        refine s_istore_n (pc' := 32) dX7_lying_31 rfl (Nat.le_of_ble_eq_true rfl) rfl ls2 ?_
        refine s_iincN (pc' := 35) dX7_lying_32 rfl lg3 rfl ls3 ?_
        refine s_goto (tgt := 4) dX7_lying_35 (by decide) ?_
        exact h1
      · skip
        rw [bo_t (p := fun i => decide (σ 3 i = w)) (decide_eq_true c1)] at h1
        refine s_iconst (pc' := 24) dX7_lying_23 rfl iconst_1 ?_
        refine s_iload_n (pc' := 25) dX7_lying_24 rfl lg3 ?_
        refine s_ishl (pc' := 26) dX7_lying_25 rfl ?_
        refine s_goto (tgt := 30) dX7_lying_26 (by decide) ?_
        refine s_ior (pc' := 31) dX7_lying_30 rfl ?_
        refine s_istore_n (pc' := 32) dX7_lying_31 rfl (Nat.le_of_ble_eq_true rfl) rfl ls2 ?_
        refine s_iincN (pc' := 35) dX7_lying_32 rfl lg3 rfl ls3 ?_
        refine s_goto (tgt := 4) dX7_lying_35 (by decide) ?_
        exact h1
  exact loop n 0 (by omega)
theorem c_X7_lying {z : Zz} {d kc ks : Nat} {mi : MI} {pc pc' : Nat} {L S : List Value} {Q : Option Value → Lay → Mem → Prop} {rf : Nat → Value} {tl : Lay} {mem : Mem}  {n : Nat} {σ : Nat → Nat → Int32} {td ru w : Int32} {idx : Nat} (hd : decode mi.2.1 pc = .ok (.invokevirtual idx, 3)) (hp : pc + 3 = pc') (hlk : Cond.methodLink mi.1.cls idx yX7_lying ∈ wok) (hdd : 1 + 1 ≤ d) (hcat : (S.map (fun v => v.category)).sum ≤ 8) (hM : isM 48 mem σ n td ru) (K :  Sim z d kc ks mi pc' L (.int (bo (fun i => decide (σ 3 i = w)) n) :: S) (LAY rf tl) mem Q) : Sim z d kc ks mi pc L (.int w :: .ref 47 :: S) (LAY rf tl) mem Q :=
  s_invV (d2 := 1) hd hp okX7_lying hlk inX7_lying seX7_lying hdd (Nat.zero_add _) (Nat.zero_add _) rfl rfl ly47 rfl hcat (Nat.le_of_ble_eq_true rfl) (m_X7_lying (Nat.le_refl _) hM K)
def plM (σ : Nat → Nat → Int32) (n : Nat) : Nat := ct (fun p => !decide (bo (fun i => decide (σ 3 i = nI p)) n = 0)) 12
set_option maxHeartbeats 4000000 in
theorem m_X7_keep {z : Zz} {d : Nat} {Q : Option Value → Lay → Mem → Prop} {rf : Nat → Value} {tl : Lay} {mem : Mem}  {cc : Nat} (hdd : 0 ≤ d) (hcc : (LAY rf tl)[cc]? = some (8, 43, NUL)) (hne : cc ≠ 48) (K : ∀ mem', (∀ j, j ≠ cc → mem' j = mem j) → (∀ k, k < 43 → mem' cc k = mem 48 k) → Q none (LAY rf tl) mem') : Sim z d 0 0 mX7_keep 0 [.ref 47, .ref cc, .float 0] [] (LAY rf tl) mem Q := by
  refine s_iconst (pc' := 1) dX7_keep_0 rfl iconst_0 ?_
  refine s_istore_n (pc' := 2) dX7_keep_1 rfl (Nat.le_of_ble_eq_true rfl) rfl ls2 ?_
  have loop : ∀ (k i : Nat) (m : Mem), i + k = 43 → (∀ j, j ≠ cc → m j = mem j) → (∀ k, k < i → m cc k = mem 48 k) → Sim z d 0 0 mX7_keep 2 [.ref 47, .ref cc, .int (nI i)] [] (LAY rf tl) m Q := by
    intro k
    induction k with
    | zero =>
      intro i m hi g1 g2
      have : i = 43 := by omega
      subst this
      refine s_iload_n (pc' := 3) dX7_keep_2 rfl lg2 ?_
      refine s_bipush (pc' := 5) dX7_keep_3 rfl bipush_43 ?_
      refine s_icmp_ge (pc' := 8) (tgt := 23) dX7_keep_5 rfl (by decide) (fun _ => ?_) (fun c9 => absurd (by decide) c9)
      refine s_vret dX7_keep_23 rfl ?_
      exact K m g1 g2
    | succ k ih =>
      intro i m hi g1 g2
      refine s_iload_n (pc' := 3) dX7_keep_2 rfl lg2 ?_
      refine s_bipush (pc' := 5) dX7_keep_3 rfl bipush_43 ?_
      refine s_icmp_ge (pc' := 8) (tgt := 23) dX7_keep_5 rfl (by decide) (fun c9 => absurd c9 (nI_ge (b := 43) (by omega) (by omega))) (fun _ => ?_)
      refine s_aload_n (pc' := 9) dX7_keep_8 rfl lg1 rfl ?_
      refine s_iload_n (pc' := 10) dX7_keep_9 rfl lg2 ?_
      refine s_aload_n (pc' := 11) dX7_keep_10 rfl lg0 rfl ?_
      refine s_getRv (pc' := 14) (v := .ref 48) dX7_keep_11 rfl flX7_7 ly47 (by decide) rfl rfl ?_
      refine s_iload_n (pc' := 15) dX7_keep_14 rfl lg2 ?_
      refine s_ialdNv (pc' := 16) (v := mem 48 i) dX7_keep_15 rfl ly48 (by omega) (by decide) (by rw [g1 48 (fun h => hne h.symm)]) ?_
      refine s_iastN (pc' := 17) dX7_keep_16 rfl hcc (by omega) (by decide) ?_
      refine s_iincN (pc' := 20) dX7_keep_17 rfl lg2 rfl ls2 ?_
      refine s_goto (tgt := 2) dX7_keep_20 (by decide) ?_
      refine ih (i + 1) _ (by omega) (fun j hj => by rw [upN hj]; exact g1 j hj) (fun q hq => ?_)
      rw [upE]
      by_cases hqi : q = i
      · rw [hqi, udE]
      · rw [udN hqi]; exact g2 q (by omega)
  exact loop 43 0 mem (by omega) (fun _ _ => rfl) (fun q hq => absurd hq (Nat.not_lt_zero q))
theorem c_X7_keep {z : Zz} {d kc ks : Nat} {mi : MI} {pc pc' : Nat} {L S : List Value} {Q : Option Value → Lay → Mem → Prop} {rf : Nat → Value} {tl : Lay} {mem : Mem}  {cc : Nat} {idx : Nat} (hd : decode mi.2.1 pc = .ok (.invokevirtual idx, 3)) (hp : pc + 3 = pc') (hlk : Cond.methodLink mi.1.cls idx yX7_keep ∈ wok) (hdd : 0 + 1 ≤ d) (hcat : (S.map (fun v => v.category)).sum ≤ 8) (hcc : (LAY rf tl)[cc]? = some (8, 43, NUL)) (hne : cc ≠ 48) (K : ∀ mem', (∀ j, j ≠ cc → mem' j = mem j) → (∀ k, k < 43 → mem' cc k = mem 48 k) → Sim z d kc ks mi pc' L S (LAY rf tl) mem' Q) : Sim z d kc ks mi pc L (.ref cc :: .ref 47 :: S) (LAY rf tl) mem Q :=
  s_invV (d2 := 0) hd hp okX7_keep hlk inX7_keep seX7_keep hdd (Nat.zero_add _) (Nat.zero_add _) rfl rfl ly47 rfl hcat (Nat.le_of_ble_eq_true rfl) (m_X7_keep (Nat.le_refl _) hcc hne K)
set_option maxHeartbeats 4000000 in
theorem m_X7_lay {z : Zz} {d : Nat} {Q : Option Value → Lay → Mem → Prop} {rf : Nat → Value} {tl : Lay} {mem : Mem}  {cc : Nat} (hdd : 0 ≤ d) (hcc : (LAY rf tl)[cc]? = some (8, 43, NUL)) (hne : cc ≠ 48) (K : ∀ mem', (∀ j, j ≠ 48 → mem' j = mem j) → (∀ k, k < 43 → mem' 48 k = mem cc k) → Q none (LAY rf tl) mem') : Sim z d 0 0 mX7_lay 0 [.ref 47, .ref cc, .float 0] [] (LAY rf tl) mem Q := by
  refine s_iconst (pc' := 1) dX7_lay_0 rfl iconst_0 ?_
  refine s_istore_n (pc' := 2) dX7_lay_1 rfl (Nat.le_of_ble_eq_true rfl) rfl ls2 ?_
  have loop : ∀ (k i : Nat) (m : Mem), i + k = 43 → (∀ j, j ≠ 48 → m j = mem j) → (∀ k, k < i → m 48 k = mem cc k) → Sim z d 0 0 mX7_lay 2 [.ref 47, .ref cc, .int (nI i)] [] (LAY rf tl) m Q := by
    intro k
    induction k with
    | zero =>
      intro i m hi g1 g2
      have : i = 43 := by omega
      subst this
      refine s_iload_n (pc' := 3) dX7_lay_2 rfl lg2 ?_
      refine s_bipush (pc' := 5) dX7_lay_3 rfl bipush_43 ?_
      refine s_icmp_ge (pc' := 8) (tgt := 23) dX7_lay_5 rfl (by decide) (fun _ => ?_) (fun c9 => absurd (by decide) c9)
      refine s_vret dX7_lay_23 rfl ?_
      exact K m g1 g2
    | succ k ih =>
      intro i m hi g1 g2
      refine s_iload_n (pc' := 3) dX7_lay_2 rfl lg2 ?_
      refine s_bipush (pc' := 5) dX7_lay_3 rfl bipush_43 ?_
      refine s_icmp_ge (pc' := 8) (tgt := 23) dX7_lay_5 rfl (by decide) (fun c9 => absurd c9 (nI_ge (b := 43) (by omega) (by omega))) (fun _ => ?_)
      refine s_aload_n (pc' := 9) dX7_lay_8 rfl lg0 rfl ?_
      refine s_getRv (pc' := 12) (v := .ref 48) dX7_lay_9 rfl flX7_7 ly47 (by decide) rfl rfl ?_
      refine s_iload_n (pc' := 13) dX7_lay_12 rfl lg2 ?_
      refine s_aload_n (pc' := 14) dX7_lay_13 rfl lg1 rfl ?_
      refine s_iload_n (pc' := 15) dX7_lay_14 rfl lg2 ?_
      refine s_ialdNv (pc' := 16) (v := mem cc i) dX7_lay_15 rfl hcc (by omega) (by decide) (by rw [g1 cc hne]) ?_
      refine s_iastN (pc' := 17) dX7_lay_16 rfl ly48 (by omega) (by decide) ?_
      refine s_iincN (pc' := 20) dX7_lay_17 rfl lg2 rfl ls2 ?_
      refine s_goto (tgt := 2) dX7_lay_20 (by decide) ?_
      refine ih (i + 1) _ (by omega) (fun j hj => by rw [upN hj]; exact g1 j hj) (fun q hq => ?_)
      rw [upE]
      by_cases hqi : q = i
      · rw [hqi, udE]
      · rw [udN hqi]; exact g2 q (by omega)
  exact loop 43 0 mem (by omega) (fun _ _ => rfl) (fun q hq => absurd hq (Nat.not_lt_zero q))
theorem c_X7_lay {z : Zz} {d kc ks : Nat} {mi : MI} {pc pc' : Nat} {L S : List Value} {Q : Option Value → Lay → Mem → Prop} {rf : Nat → Value} {tl : Lay} {mem : Mem}  {cc : Nat} {idx : Nat} (hd : decode mi.2.1 pc = .ok (.invokevirtual idx, 3)) (hp : pc + 3 = pc') (hlk : Cond.methodLink mi.1.cls idx yX7_lay ∈ wok) (hdd : 0 + 1 ≤ d) (hcat : (S.map (fun v => v.category)).sum ≤ 8) (hcc : (LAY rf tl)[cc]? = some (8, 43, NUL)) (hne : cc ≠ 48) (K : ∀ mem', (∀ j, j ≠ 48 → mem' j = mem j) → (∀ k, k < 43 → mem' 48 k = mem cc k) → Sim z d kc ks mi pc' L S (LAY rf tl) mem' Q) : Sim z d kc ks mi pc L (.ref cc :: .ref 47 :: S) (LAY rf tl) mem Q :=
  s_invV (d2 := 0) hd hp okX7_lay hlk inX7_lay seX7_lay hdd (Nat.zero_add _) (Nat.zero_add _) rfl rfl ly47 rfl hcat (Nat.le_of_ble_eq_true rfl) (m_X7_lay (Nat.le_refl _) hcc hne K)

