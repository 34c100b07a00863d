/-! ===== the Model: hurts, isTwo, isSheet ===== -/
set_option maxHeartbeats 4000000 in
theorem m_X7_isSheet {z : Zz} {d : Nat} {Q : Option Value → Lay → Mem → Prop} {lay : Lay} {mem : Mem} {v : Int32} (hdd : 1 ≤ d)  (K :  Q (some (.int (shB v))) lay mem) : Sim z d 0 0 mX7_isSheet 0 [.int v] [] (lay) mem Q := by
  refine s_iload_n (pc' := 1) dX7_isSheet_0 rfl lg0 ?_
  refine s_iconst (pc' := 2) dX7_isSheet_1 rfl iconst_0 ?_
  refine s_iconst (pc' := 3) dX7_isSheet_2 rfl iconst_3 ?_
  refine c_X7_isIn  (pc' := 6) dX7_isSheet_3 rfl lkX7_86 (by omega) (Nat.le_of_ble_eq_true rfl) ?_
  have e : inB v 0 3 = shB v := by
    unfold inB shB
    by_cases h1 : v < 0
    · rw [if_pos h1, if_pos h1]
    · rw [if_neg h1, if_neg h1]
      obtain ⟨j, hj, rfl⟩ := nI_of h1
      have p1 : (3 < nI j) = (3 < j) := propext (nI_ltI (a := 3) (by omega) hj)
      have p2 : (4 ≤ nI j) = (4 ≤ j) := propext (nI_leI (a := 4) (by omega) hj)
      rcases Nat.lt_or_ge 3 j with q | q
      · rw [if_pos (by rw [p1]; exact q), if_pos (by rw [p2]; exact q)]
      · rw [if_neg (by rw [p1]; omega), if_neg (by rw [p2]; omega)]
  rw [e]
  refine s_iret dX7_isSheet_6 rfl ?_ K
  unfold shB
  split
  · decide
  · split <;> decide
theorem c_X7_isSheet {z : Zz} {d kc ks : Nat} {mi : MI} {pc pc' : Nat} {L S : List Value} {Q : Option Value → Lay → Mem → Prop} {lay : Lay} {mem : Mem} {v : Int32} {idx : Nat} (hd : decode mi.2.1 pc = .ok (.invokestatic idx, 3)) (hp : pc + 3 = pc') (hlk : Cond.methodLink mi.1.cls idx yX7_isSheet ∈ wok) (hdd : 1 + 1 ≤ d) (hcat : (S.map (fun v => v.category)).sum ≤ 8)  (K :  Sim z d kc ks mi pc' L (.int (shB v) :: S) lay mem Q) : Sim z d kc ks mi pc L (.int v :: S) (lay) mem Q :=
  s_invS (d2 := 1) hd hp okX7_isSheet hlk stX7_isSheet hdd (Nat.zero_add _) (Nat.zero_add _) rfl rfl hcat (Nat.le_of_ble_eq_true rfl) (m_X7_isSheet (Nat.le_refl _)  K)
set_option maxHeartbeats 4000000 in
theorem m_X7_isTwo {z : Zz} {d : Nat} {Q : Option Value → Lay → Mem → Prop} {rf : Nat → Value} {tl : Lay} {mem : Mem}  {n : Nat} {v w : Int32} (hdd : 2 ≤ d) (hn : mem 48 40 = nI n) (h8 : n ≤ 8) (K :  Q (some (.int (twB v w (nI n)))) (LAY rf tl) mem) : Sim z d 0 0 mX7_isTwo 0 [.ref 47, .int v, .int w] [] (LAY rf tl) mem Q := by
  unfold twB at K
  refine s_aload_n (pc' := 1) dX7_isTwo_0 rfl lg0 rfl ?_
  refine s_iload_n (pc' := 2) dX7_isTwo_1 rfl lg1 ?_
  refine c_X7_isPiece (pc' := 5) dX7_isTwo_2 rfl lkX7_94 (by omega) (Nat.le_of_ble_eq_true rfl) hn h8 ?_
  refine s_if_eq (pc' := 8) (tgt := 25) dX7_isTwo_5 rfl (by decide) (fun c1 => ?_) (fun c1 => ?_)
  · refine s_iconst (pc' := 26) dX7_isTwo_25 rfl iconst_0 ?_
    refine s_iret dX7_isTwo_26 rfl (by decide) ?_
    (simpa [c1] using K)
  · refine s_aload_n (pc' := 9) dX7_isTwo_8 rfl lg0 rfl ?_
    refine s_iload_n (pc' := 10) dX7_isTwo_9 rfl lg2 ?_
    refine c_X7_isPiece (pc' := 13) dX7_isTwo_10 rfl lkX7_94 (by omega) (Nat.le_of_ble_eq_true rfl) hn h8 ?_
    refine s_if_eq (pc' := 16) (tgt := 25) dX7_isTwo_13 rfl (by decide) (fun c2 => ?_) (fun c2 => ?_)
    · refine s_iconst (pc' := 26) dX7_isTwo_25 rfl iconst_0 ?_
      refine s_iret dX7_isTwo_26 rfl (by decide) ?_
      (simpa [c1, c2] using K)
    · refine s_iload_n (pc' := 17) dX7_isTwo_16 rfl lg1 ?_
      refine s_iload_n (pc' := 18) dX7_isTwo_17 rfl lg2 ?_
      refine s_icmp_eq (pc' := 21) (tgt := 25) dX7_isTwo_18 rfl (by decide) (fun c3 => ?_) (fun c3 => ?_)
      · refine s_iconst (pc' := 26) dX7_isTwo_25 rfl iconst_0 ?_
        refine s_iret dX7_isTwo_26 rfl (by decide) ?_
        (simpa [c1, c2, c3] using K)
      · refine s_iconst (pc' := 22) dX7_isTwo_21 rfl iconst_1 ?_
        refine s_goto (tgt := 26) dX7_isTwo_22 (by decide) ?_
        refine s_iret dX7_isTwo_26 rfl (by decide) ?_
        (simpa [c1, c2, c3] using K)
theorem c_X7_isTwo {z : Zz} {d kc ks : Nat} {mi : MI} {pc pc' : Nat} {L S : List Value} {Q : Option Value → Lay → Mem → Prop} {rf : Nat → Value} {tl : Lay} {mem : Mem}  {n : Nat} {v w : Int32} {idx : Nat} (hd : decode mi.2.1 pc = .ok (.invokevirtual idx, 3)) (hp : pc + 3 = pc') (hlk : Cond.methodLink mi.1.cls idx yX7_isTwo ∈ wok) (hdd : 2 + 1 ≤ d) (hcat : (S.map (fun v => v.category)).sum ≤ 8) (hn : mem 48 40 = nI n) (h8 : n ≤ 8) (K :  Sim z d kc ks mi pc' L (.int (twB v w (nI n)) :: S) (LAY rf tl) mem Q) : Sim z d kc ks mi pc L (.int w :: .int v :: .ref 47 :: S) (LAY rf tl) mem Q :=
  s_invV (d2 := 2) hd hp okX7_isTwo hlk inX7_isTwo seX7_isTwo hdd (Nat.zero_add _) (Nat.zero_add _) rfl rfl ly47 rfl hcat (Nat.le_of_ble_eq_true rfl) (m_X7_isTwo (Nat.le_refl _) hn h8 K)
def hurN (σ : Nat → Nat → Int32) (n : Nat) (w : Int32) : Nat := ct (fun i => decide (σ 3 i = w) && !decide (σ 2 i ≤ 30)) n
set_option maxHeartbeats 4000000 in
theorem m_X7_hurts {z : Zz} {d : Nat} {Q : Option Value → Lay → Mem → Prop} {rf : Nat → Value} {tl : Lay} {mem : Mem}  {n : Nat} {σ : Nat → Nat → Int32} {td ru w : Int32} (hdd : 1 ≤ d) (hM : isM 48 mem σ n td ru) (K :  Q (some (.int (bI (hurB σ n w)))) (LAY rf tl) mem) : Sim z d 0 0 mX7_hurts 0 [.ref 47, .int w, .float 0, .float 0] [] (LAY rf tl) mem Q := by
  have h8 := hM.2.1
  have hn := hM.1
  refine s_iconst (pc' := 1) dX7_hurts_0 rfl iconst_0 ?_
  refine s_istore_n (pc' := 2) dX7_hurts_1 rfl (Nat.le_of_ble_eq_true rfl) rfl ls2 ?_
  refine s_iconst (pc' := 3) dX7_hurts_2 rfl iconst_0 ?_
  refine s_istore_n (pc' := 4) dX7_hurts_3 rfl (Nat.le_of_ble_eq_true rfl) rfl ls3 ?_
  have loop : ∀ (k i : Nat), i + k = n → Sim z d 0 0 mX7_hurts 4 [.ref 47, .int w, .int (bI (hurB σ i w)), .int (nI i)] [] (LAY rf tl) mem Q := by
    intro k
    induction k with
    | zero =>
      intro i hi
      have : i = n := by omega
      subst this
      refine s_iload_n (pc' := 5) dX7_hurts_4 rfl lg3 ?_
      refine s_aload_n (pc' := 6) dX7_hurts_5 rfl lg0 rfl ?_
      refine c_X7_many  (pc' := 9) dX7_hurts_6 rfl lkX7_101 (by omega) (Nat.le_of_ble_eq_true rfl) ?_
      refine s_icmp_ge (pc' := 12) (tgt := 49) dX7_hurts_9 rfl (by decide) (fun _ => ?_) (fun c9 => absurd (by rw [hn]; exact nI_le (by omega) (by omega)) c9)
      refine s_iload_n (pc' := 50) dX7_hurts_49 rfl lg2 ?_
      refine s_iret dX7_hurts_50 rfl ?_ K
      unfold bI
      split <;> decide
    | succ k ih =>
      intro i hi
      have h1 := ih (i + 1) (by omega)
      have hs : hurB σ (i + 1) w = (hurB σ i w || (decide (σ 3 i = w) && !decide (σ 2 i ≤ 30))) := by
        unfold hurB
        rw [ct]
        cases hb : (decide (σ 3 i = w) && !decide (σ 2 i ≤ 30)) with
        | true => rw [if_pos rfl, Bool.or_true]; exact decide_eq_true (by omega)
        | false => rw [if_neg Bool.false_ne_true, Bool.or_false, Nat.add_zero]
      rw [hs] at h1
      refine s_iload_n (pc' := 5) dX7_hurts_4 rfl lg3 ?_
      refine s_aload_n (pc' := 6) dX7_hurts_5 rfl lg0 rfl ?_
      refine c_X7_many  (pc' := 9) dX7_hurts_6 rfl lkX7_101 (by omega) (Nat.le_of_ble_eq_true rfl) ?_
      refine s_icmp_ge (pc' := 12) (tgt := 49) dX7_hurts_9 rfl (by decide) (fun c9 => absurd c9 (by rw [hn]; exact nI_ge (by omega) (by omega))) (fun _ => ?_)
      refine s_iload_n (pc' := 13) dX7_hurts_12 rfl lg2 ?_
      by_cases hh : hurB σ i w = true
      · rw [hh] at h1 ⊢
        refine s_if_ne (pc' := 16) (tgt := 37) dX7_hurts_13 rfl (by decide) (fun _ => ?_) (fun c9 => absurd c9 (by decide))
        refine s_iconst (pc' := 38) dX7_hurts_37 rfl iconst_1 ?_
        refine s_goto (tgt := 42) dX7_hurts_38 (by decide) ?_
        refine s_istore_n (pc' := 43) dX7_hurts_42 rfl (Nat.le_of_ble_eq_true rfl) rfl ls2 ?_
        refine s_iincN (pc' := 46) dX7_hurts_43 rfl lg3 rfl ls3 ?_
        refine s_goto (tgt := 4) dX7_hurts_46 (by decide) ?_
        exact h1
      · rw [Bool.eq_false_iff.mpr hh] at h1 ⊢
        refine s_if_ne (pc' := 16) (tgt := 37) dX7_hurts_13 rfl (by decide) (fun c9 => absurd (by decide) c9) (fun _ => ?_)
        refine s_aload_n (pc' := 17) dX7_hurts_16 rfl lg0 rfl ?_
        refine s_iload_n (pc' := 18) dX7_hurts_17 rfl lg3 ?_
        refine s_iconst (pc' := 19) dX7_hurts_18 rfl iconst_3 ?_
        refine c_X7_of_3  (pc' := 22) dX7_hurts_19 rfl lkX7_108 (by omega) (Nat.le_of_ble_eq_true rfl) hM (by omega) ?_
        refine s_iload_n (pc' := 23) dX7_hurts_22 rfl lg1 ?_
        refine s_icmp_ne (pc' := 26) (tgt := 41) dX7_hurts_23 rfl (by decide) (fun c1 => ?_) (fun c1 => ?_)
        · skip
          rw [decide_eq_false c1] at h1
          refine s_iconst (pc' := 42) dX7_hurts_41 rfl iconst_0 ?_
          refine s_istore_n (pc' := 43) dX7_hurts_42 rfl (Nat.le_of_ble_eq_true rfl) rfl ls2 ?_
          refine s_iincN (pc' := 46) dX7_hurts_43 rfl lg3 rfl ls3 ?_
          refine s_goto (tgt := 4) dX7_hurts_46 (by decide) ?_
          exact h1
        · skip
          rw [decide_eq_true c1] at h1
          refine s_aload_n (pc' := 27) dX7_hurts_26 rfl lg0 rfl ?_
          refine s_iload_n (pc' := 28) dX7_hurts_27 rfl lg3 ?_
          refine s_iconst (pc' := 29) dX7_hurts_28 rfl iconst_2 ?_
          refine c_X7_of_2  (pc' := 32) dX7_hurts_29 rfl lkX7_108 (by omega) (Nat.le_of_ble_eq_true rfl) hM (by omega) ?_
          refine s_bipush (pc' := 34) dX7_hurts_32 rfl bipush_30 ?_
          refine s_icmp_le (pc' := 37) (tgt := 41) dX7_hurts_34 rfl (by decide) (fun c2 => ?_) (fun c2 => ?_)
          · skip
            rw [decide_eq_true c2] at h1
            refine s_iconst (pc' := 42) dX7_hurts_41 rfl iconst_0 ?_
            refine s_istore_n (pc' := 43) dX7_hurts_42 rfl (Nat.le_of_ble_eq_true rfl) rfl ls2 ?_
            refine s_iincN (pc' := 46) dX7_hurts_43 rfl lg3 rfl ls3 ?_
            refine s_goto (tgt := 4) dX7_hurts_46 (by decide) ?_
            exact h1
          · skip
            rw [decide_eq_false c2] at h1
            refine s_iconst (pc' := 38) dX7_hurts_37 rfl iconst_1 ?_
            refine s_goto (tgt := 42) dX7_hurts_38 (by decide) ?_
            refine s_istore_n (pc' := 43) dX7_hurts_42 rfl (Nat.le_of_ble_eq_true rfl) rfl ls2 ?_
            refine s_iincN (pc' := 46) dX7_hurts_43 rfl lg3 rfl ls3 ?_
            refine s_goto (tgt := 4) dX7_hurts_46 (by decide) ?_
            exact h1
  exact loop n 0 (by omega)
theorem c_X7_hurts {z : Zz} {d kc ks : Nat} {mi : MI} {pc pc' : Nat} {L S : List Value} {Q : Option Value → Lay → Mem → Prop} {rf : Nat → Value} {tl : Lay} {mem : Mem}  {n : Nat} {σ : Nat → Nat → Int32} {td ru w : Int32} {idx : Nat} (hd : decode mi.2.1 pc = .ok (.invokevirtual idx, 3)) (hp : pc + 3 = pc') (hlk : Cond.methodLink mi.1.cls idx yX7_hurts ∈ wok) (hdd : 1 + 1 ≤ d) (hcat : (S.map (fun v => v.category)).sum ≤ 8) (hM : isM 48 mem σ n td ru) (K :  Sim z d kc ks mi pc' L (.int (bI (hurB σ n w)) :: S) (LAY rf tl) mem Q) : Sim z d kc ks mi pc L (.int w :: .ref 47 :: S) (LAY rf tl) mem Q :=
  s_invV (d2 := 1) hd hp okX7_hurts hlk inX7_hurts seX7_hurts hdd (Nat.zero_add _) (Nat.zero_add _) rfl rfl ly47 rfl hcat (Nat.le_of_ble_eq_true rfl) (m_X7_hurts (Nat.le_refl _) hM K)

