/-! ===== the Model: its shore ===== -/
def isM (c : Nat) (mem : Mem) (σ : Nat → Nat → Int32) (n : Nat) (td ru : Int32) : Prop := mem c 40 = nI n ∧ n ≤ 8 ∧ mem c 41 = td ∧ mem c 42 = ru ∧ ∀ i, i < n → ∀ w, w < 5 → mem c (5 * i + w) = σ w i
set_option maxHeartbeats 4000000 in
theorem m_X7_isIn {z : Zz} {d : Nat} {Q : Option Value → Lay → Mem → Prop} {lay : Lay} {mem : Mem} {v lo hi : Int32} (hdd : 0 ≤ d)  (K :  Q (some (.int (inB v lo hi))) lay mem) : Sim z d 0 0 mX7_isIn 0 [.int v, .int lo, .int hi] [] (lay) mem Q := by
  refine s_iload_n (pc' := 1) dX7_isIn_0 rfl lg0 ?_
  refine s_iload_n (pc' := 2) dX7_isIn_1 rfl lg1 ?_
  refine s_icmp_lt (pc' := 5) (tgt := 14) dX7_isIn_2 rfl (by decide) (fun c1 => ?_) (fun c1 => ?_)
  · refine s_iconst (pc' := 15) dX7_isIn_14 rfl iconst_0 ?_
    refine s_iret dX7_isIn_15 rfl (by decide) ?_
    simpa [inB, c1] using K
  · refine s_iload_n (pc' := 6) dX7_isIn_5 rfl lg0 ?_
    refine s_iload_n (pc' := 7) dX7_isIn_6 rfl lg2 ?_
    refine s_icmp_gt (pc' := 10) (tgt := 14) dX7_isIn_7 rfl (by decide) (fun c2 => ?_) (fun c2 => ?_)
    · refine s_iconst (pc' := 15) dX7_isIn_14 rfl iconst_0 ?_
      refine s_iret dX7_isIn_15 rfl (by decide) ?_
      simpa [inB, c1, c2] using K
    · refine s_iconst (pc' := 11) dX7_isIn_10 rfl iconst_1 ?_
      refine s_goto (tgt := 15) dX7_isIn_11 (by decide) ?_
      refine s_iret dX7_isIn_15 rfl (by decide) ?_
      simpa [inB, c1, c2] using K
theorem c_X7_isIn {z : Zz} {d kc ks : Nat} {mi : MI} {pc pc' : Nat} {L S : List Value} {Q : Option Value → Lay → Mem → Prop} {lay : Lay} {mem : Mem} {v lo hi : Int32} {idx : Nat} (hd : decode mi.2.1 pc = .ok (.invokestatic idx, 3)) (hp : pc + 3 = pc') (hlk : Cond.methodLink mi.1.cls idx yX7_isIn ∈ wok) (hdd : 0 + 1 ≤ d) (hcat : (S.map (fun v => v.category)).sum ≤ 8)  (K :  Sim z d kc ks mi pc' L (.int (inB v lo hi) :: S) lay mem Q) : Sim z d kc ks mi pc L (.int hi :: .int lo :: .int v :: S) (lay) mem Q :=
  s_invS (d2 := 0) hd hp okX7_isIn hlk stX7_isIn hdd (Nat.zero_add _) (Nat.zero_add _) rfl rfl hcat (Nat.le_of_ble_eq_true rfl) (m_X7_isIn (Nat.le_refl _)  K)
set_option maxHeartbeats 4000000 in
theorem m_X7_bound {z : Zz} {d : Nat} {Q : Option Value → Lay → Mem → Prop} {lay : Lay} {mem : Mem} {v lo hi : Int32} (hdd : 1 ≤ d)  (K :  Q (some (.int (bdI v lo hi))) lay mem) : Sim z d 0 0 mX7_bound 0 [.int v, .int lo, .int hi] [] (lay) mem Q := by
  refine s_iload_n (pc' := 1) dX7_bound_0 rfl lg1 ?_
  refine s_iload_n (pc' := 2) dX7_bound_1 rfl lg2 ?_
  refine s_iload_n (pc' := 3) dX7_bound_2 rfl lg0 ?_
  refine c_J9_min_7cf53 (pc' := 6) dX7_bound_3 rfl lkX7_77 (by omega) (Nat.le_of_ble_eq_true rfl)  ?_
  refine c_J9_max_7cf53 (pc' := 9) dX7_bound_6 rfl lkX7_83 (by omega) (Nat.le_of_ble_eq_true rfl)  ?_
  refine s_iret dX7_bound_9 rfl (vp_nar_int _) ?_
  exact K
theorem c_X7_bound {z : Zz} {d kc ks : Nat} {mi : MI} {pc pc' : Nat} {L S : List Value} {Q : Option Value → Lay → Mem → Prop} {lay : Lay} {mem : Mem} {v lo hi : Int32} {idx : Nat} (hd : decode mi.2.1 pc = .ok (.invokestatic idx, 3)) (hp : pc + 3 = pc') (hlk : Cond.methodLink mi.1.cls idx yX7_bound ∈ wok) (hdd : 1 + 1 ≤ d) (hcat : (S.map (fun v => v.category)).sum ≤ 8)  (K :  Sim z d kc ks mi pc' L (.int (bdI v lo hi) :: S) lay mem Q) : Sim z d kc ks mi pc L (.int hi :: .int lo :: .int v :: S) (lay) mem Q :=
  s_invS (d2 := 1) hd hp okX7_bound hlk stX7_bound hdd (Nat.zero_add _) (Nat.zero_add _) rfl rfl hcat (Nat.le_of_ble_eq_true rfl) (m_X7_bound (Nat.le_refl _)  K)
set_option maxHeartbeats 4000000 in
theorem m_X7_apart {z : Zz} {d : Nat} {Q : Option Value → Lay → Mem → Prop} {lay : Lay} {mem : Mem} {v w : Int32} (hdd : 1 ≤ d)  (K :  Q (some (.int (apI v w))) lay mem) : Sim z d 0 0 mX7_apart 0 [.int v, .int w, .float 0] [] (lay) mem Q := by
  refine s_iload_n (pc' := 1) dX7_apart_0 rfl lg0 ?_
  refine s_iload_n (pc' := 2) dX7_apart_1 rfl lg1 ?_
  refine s_isub (pc' := 3) dX7_apart_2 rfl ?_
  refine c_J9_abs_0f7a4 (pc' := 6) dX7_apart_3 rfl lkX7_90 (by omega) (Nat.le_of_ble_eq_true rfl)  ?_
  refine s_istore_n (pc' := 7) dX7_apart_6 rfl (Nat.le_of_ble_eq_true rfl) rfl ls2 ?_
  refine s_iload_n (pc' := 8) dX7_apart_7 rfl lg2 ?_
  refine s_bipush (pc' := 10) dX7_apart_8 rfl bipush_12 ?_
  refine s_iload_n (pc' := 11) dX7_apart_10 rfl lg2 ?_
  refine s_isub (pc' := 12) dX7_apart_11 rfl ?_
  refine c_J9_min_7cf53 (pc' := 15) dX7_apart_12 rfl lkX7_77 (by omega) (Nat.le_of_ble_eq_true rfl)  ?_
  refine s_iret dX7_apart_15 rfl (vp_nar_int _) ?_
  exact K
theorem c_X7_apart {z : Zz} {d kc ks : Nat} {mi : MI} {pc pc' : Nat} {L S : List Value} {Q : Option Value → Lay → Mem → Prop} {lay : Lay} {mem : Mem} {v w : Int32} {idx : Nat} (hd : decode mi.2.1 pc = .ok (.invokestatic idx, 3)) (hp : pc + 3 = pc') (hlk : Cond.methodLink mi.1.cls idx yX7_apart ∈ wok) (hdd : 1 + 1 ≤ d) (hcat : (S.map (fun v => v.category)).sum ≤ 8)  (K :  Sim z d kc ks mi pc' L (.int (apI v w) :: S) lay mem Q) : Sim z d kc ks mi pc L (.int w :: .int v :: S) (lay) mem Q :=
  s_invS (d2 := 1) hd hp okX7_apart hlk stX7_apart hdd (Nat.zero_add _) (Nat.zero_add _) rfl rfl hcat (Nat.le_of_ble_eq_true rfl) (m_X7_apart (Nat.le_refl _)  K)
set_option maxHeartbeats 4000000 in
theorem m_X7_many {z : Zz} {d : Nat} {Q : Option Value → Lay → Mem → Prop} {rf : Nat → Value} {tl : Lay} {mem : Mem}  (hdd : 0 ≤ d)  (K :  Q (some (.int (mem 48 40))) (LAY rf tl) mem) : Sim z d 0 0 mX7_many 0 [.ref 47] [] (LAY rf tl) mem Q := by
  refine s_aload_n (pc' := 1) dX7_many_0 rfl lg0 rfl ?_
  refine s_getRv (pc' := 4) (v := .ref 48) dX7_many_1 rfl flX7_7 ly47 (by decide) rfl rfl ?_
  refine s_bipush (pc' := 6) dX7_many_4 rfl bipush_40 ?_
  refine s_ialdN (pc' := 7) (k := 40) dX7_many_6 rfl ly48 (by decide) (by decide) ?_
  refine s_iret dX7_many_7 rfl (vp_nar_int _) ?_
  exact K
theorem c_X7_many {z : Zz} {d kc ks : Nat} {mi : MI} {pc pc' : Nat} {L S : List Value} {Q : Option Value → Lay → Mem → Prop} {rf : Nat → Value} {tl : Lay} {mem : Mem}  {idx : Nat} (hd : decode mi.2.1 pc = .ok (.invokevirtual idx, 3)) (hp : pc + 3 = pc') (hlk : Cond.methodLink mi.1.cls idx yX7_many ∈ wok) (hdd : 0 + 1 ≤ d) (hcat : (S.map (fun v => v.category)).sum ≤ 8)  (K :  Sim z d kc ks mi pc' L (.int (mem 48 40) :: S) (LAY rf tl) mem Q) : Sim z d kc ks mi pc L (.ref 47 :: S) (LAY rf tl) mem Q :=
  s_invV (d2 := 0) hd hp okX7_many hlk inX7_many seX7_many hdd (Nat.zero_add _) (Nat.zero_add _) rfl rfl ly47 rfl hcat (Nat.le_of_ble_eq_true rfl) (m_X7_many (Nat.le_refl _)  K)
theorem mI5 {i w : Nat} {x : Int32} (hx : x = nI w) : 5 * nI i + x = nI (5 * i + w) := by
  rw [hx, show (5 : Int32) * nI i = nI (5 * i) from (Int32.ofNat_mul 5 i).symm, nI_add]
theorem pc_in {v : Int32} {n : Nat} (hn : n ≤ 8) : inB v 0 (nI n - 1) = pcB v (nI n) := by
  unfold inB pcB
  by_cases h1 : v < 0
  · rw [if_pos h1, if_pos h1]
  · rw [if_neg h1, if_neg h1]
    obtain ⟨j, hj, rfl⟩ := nI_of h1
    cases n with
    | zero =>
      rw [if_pos (show nI 0 - 1 < nI j from by
        rw [Int32.lt_iff_toInt_lt, nI_toInt hj, show (nI 0 - 1).toInt = -1 from by decide]; omega), if_pos (nI_le (Nat.zero_le j) hj)]
    | succ n =>
      rw [nI_pred]
      rcases Nat.lt_or_ge n j with q | q
      · rw [if_pos (nI_lt q hj), if_pos (nI_le (by omega) hj)]
      · rw [if_neg (nI_nlt q (by omega)), if_neg (nI_ge (by omega) (by omega))]
set_option maxHeartbeats 4000000 in
theorem m_X7_isPiece {z : Zz} {d : Nat} {Q : Option Value → Lay → Mem → Prop} {rf : Nat → Value} {tl : Lay} {mem : Mem}  {n : Nat} {v : Int32} (hdd : 1 ≤ d) (hn : mem 48 40 = nI n) (h8 : n ≤ 8) (K :  Q (some (.int (pcB v (nI n)))) (LAY rf tl) mem) : Sim z d 0 0 mX7_isPiece 0 [.ref 47, .int v] [] (LAY rf tl) mem Q := by
  refine s_iload_n (pc' := 1) dX7_isPiece_0 rfl lg1 ?_
  refine s_iconst (pc' := 2) dX7_isPiece_1 rfl iconst_0 ?_
  refine s_aload_n (pc' := 3) dX7_isPiece_2 rfl lg0 rfl ?_
  refine s_getRv (pc' := 6) (v := .ref 48) dX7_isPiece_3 rfl flX7_7 ly47 (by decide) rfl rfl ?_
  refine s_bipush (pc' := 8) dX7_isPiece_6 rfl bipush_40 ?_
  refine s_ialdNv (pc' := 9) (k := 40) (v := nI n) dX7_isPiece_8 rfl ly48 (by decide) (by decide) hn ?_
  refine s_iconst (pc' := 10) dX7_isPiece_9 rfl iconst_1 ?_
  refine s_isub (pc' := 11) dX7_isPiece_10 rfl ?_
  refine c_X7_isIn  (pc' := 14) dX7_isPiece_11 rfl lkX7_86 (by omega) (Nat.le_of_ble_eq_true rfl) ?_
  rw [pc_in h8]
  refine s_iret dX7_isPiece_14 rfl ?_ K
  unfold pcB
  split
  · decide
  · split <;> decide
theorem c_X7_isPiece {z : Zz} {d kc ks : Nat} {mi : MI} {pc pc' : Nat} {L S : List Value} {Q : Option Value → Lay → Mem → Prop} {rf : Nat → Value} {tl : Lay} {mem : Mem}  {n : Nat} {v : Int32} {idx : Nat} (hd : decode mi.2.1 pc = .ok (.invokevirtual idx, 3)) (hp : pc + 3 = pc') (hlk : Cond.methodLink mi.1.cls idx yX7_isPiece ∈ wok) (hdd : 1 + 1 ≤ d) (hcat : (S.map (fun v => v.category)).sum ≤ 8) (hn : mem 48 40 = nI n) (h8 : n ≤ 8) (K :  Sim z d kc ks mi pc' L (.int (pcB v (nI n)) :: S) (LAY rf tl) mem Q) : Sim z d kc ks mi pc L (.int v :: .ref 47 :: S) (LAY rf tl) mem Q :=
  s_invV (d2 := 1) hd hp okX7_isPiece hlk inX7_isPiece seX7_isPiece hdd (Nat.zero_add _) (Nat.zero_add _) rfl rfl ly47 rfl hcat (Nat.le_of_ble_eq_true rfl) (m_X7_isPiece (Nat.le_refl _) hn h8 K)
set_option maxHeartbeats 4000000 in
theorem m_X7_of_0 {z : Zz} {d : Nat} {Q : Option Value → Lay → Mem → Prop} {rf : Nat → Value} {tl : Lay} {mem : Mem}  {n i : Nat} {σ : Nat → Nat → Int32} {td ru : Int32} (hdd : 0 ≤ d) (hM : isM 48 mem σ n td ru) (hi : i < n) (K :  Q (some (.int (σ 0 i))) (LAY rf tl) mem) : Sim z d 0 0 mX7_of 0 [.ref 47, .int (nI i), .int 0] [] (LAY rf tl) mem Q := by
  have h8 := hM.2.1
  refine s_aload_n (pc' := 1) dX7_of_0 rfl lg0 rfl ?_
  refine s_getRv (pc' := 4) (v := .ref 48) dX7_of_1 rfl flX7_7 ly47 (by decide) rfl rfl ?_
  refine s_iconst (pc' := 5) dX7_of_4 rfl iconst_5 ?_
  refine s_iload_n (pc' := 6) dX7_of_5 rfl lg1 ?_
  refine s_imul (pc' := 7) dX7_of_6 rfl ?_
  refine s_iload_n (pc' := 8) dX7_of_7 rfl lg2 ?_
  refine s_iadd (pc' := 9) dX7_of_8 rfl ?_
  rw [mI5 (w := 0) (by decide)]
  refine s_ialdNv (pc' := 10) (v := σ 0 i) dX7_of_9 rfl ly48 (by omega) (by decide) (hM.2.2.2.2 i hi 0 (by decide)) ?_
  refine s_iret dX7_of_10 rfl (vp_nar_int _) ?_
  exact K
theorem c_X7_of_0 {z : Zz} {d kc ks : Nat} {mi : MI} {pc pc' : Nat} {L S : List Value} {Q : Option Value → Lay → Mem → Prop} {rf : Nat → Value} {tl : Lay} {mem : Mem}  {n i : Nat} {σ : Nat → Nat → Int32} {td ru : Int32} {idx : Nat} (hd : decode mi.2.1 pc = .ok (.invokevirtual idx, 3)) (hp : pc + 3 = pc') (hlk : Cond.methodLink mi.1.cls idx yX7_of ∈ wok) (hdd : 0 + 1 ≤ d) (hcat : (S.map (fun v => v.category)).sum ≤ 8) (hM : isM 48 mem σ n td ru) (hi : i < n) (K :  Sim z d kc ks mi pc' L (.int (σ 0 i) :: S) (LAY rf tl) mem Q) : Sim z d kc ks mi pc L (.int 0 :: .int (nI i) :: .ref 47 :: S) (LAY rf tl) mem Q :=
  s_invV (d2 := 0) hd hp okX7_of hlk inX7_of seX7_of hdd (Nat.zero_add _) (Nat.zero_add _) rfl rfl ly47 rfl hcat (Nat.le_of_ble_eq_true rfl) (m_X7_of_0 (Nat.le_refl _) hM hi K)
set_option maxHeartbeats 4000000 in
theorem m_X7_of_1 {z : Zz} {d : Nat} {Q : Option Value → Lay → Mem → Prop} {rf : Nat → Value} {tl : Lay} {mem : Mem}  {n i : Nat} {σ : Nat → Nat → Int32} {td ru : Int32} (hdd : 0 ≤ d) (hM : isM 48 mem σ n td ru) (hi : i < n) (K :  Q (some (.int (σ 1 i))) (LAY rf tl) mem) : Sim z d 0 0 mX7_of 0 [.ref 47, .int (nI i), .int 1] [] (LAY rf tl) mem Q := by
  have h8 := hM.2.1
  refine s_aload_n (pc' := 1) dX7_of_0 rfl lg0 rfl ?_
  refine s_getRv (pc' := 4) (v := .ref 48) dX7_of_1 rfl flX7_7 ly47 (by decide) rfl rfl ?_
  refine s_iconst (pc' := 5) dX7_of_4 rfl iconst_5 ?_
  refine s_iload_n (pc' := 6) dX7_of_5 rfl lg1 ?_
  refine s_imul (pc' := 7) dX7_of_6 rfl ?_
  refine s_iload_n (pc' := 8) dX7_of_7 rfl lg2 ?_
  refine s_iadd (pc' := 9) dX7_of_8 rfl ?_
  rw [mI5 (w := 1) (by decide)]
  refine s_ialdNv (pc' := 10) (v := σ 1 i) dX7_of_9 rfl ly48 (by omega) (by decide) (hM.2.2.2.2 i hi 1 (by decide)) ?_
  refine s_iret dX7_of_10 rfl (vp_nar_int _) ?_
  exact K
theorem c_X7_of_1 {z : Zz} {d kc ks : Nat} {mi : MI} {pc pc' : Nat} {L S : List Value} {Q : Option Value → Lay → Mem → Prop} {rf : Nat → Value} {tl : Lay} {mem : Mem}  {n i : Nat} {σ : Nat → Nat → Int32} {td ru : Int32} {idx : Nat} (hd : decode mi.2.1 pc = .ok (.invokevirtual idx, 3)) (hp : pc + 3 = pc') (hlk : Cond.methodLink mi.1.cls idx yX7_of ∈ wok) (hdd : 0 + 1 ≤ d) (hcat : (S.map (fun v => v.category)).sum ≤ 8) (hM : isM 48 mem σ n td ru) (hi : i < n) (K :  Sim z d kc ks mi pc' L (.int (σ 1 i) :: S) (LAY rf tl) mem Q) : Sim z d kc ks mi pc L (.int 1 :: .int (nI i) :: .ref 47 :: S) (LAY rf tl) mem Q :=
  s_invV (d2 := 0) hd hp okX7_of hlk inX7_of seX7_of hdd (Nat.zero_add _) (Nat.zero_add _) rfl rfl ly47 rfl hcat (Nat.le_of_ble_eq_true rfl) (m_X7_of_1 (Nat.le_refl _) hM hi K)
set_option maxHeartbeats 4000000 in
theorem m_X7_of_2 {z : Zz} {d : Nat} {Q : Option Value → Lay → Mem → Prop} {rf : Nat → Value} {tl : Lay} {mem : Mem}  {n i : Nat} {σ : Nat → Nat → Int32} {td ru : Int32} (hdd : 0 ≤ d) (hM : isM 48 mem σ n td ru) (hi : i < n) (K :  Q (some (.int (σ 2 i))) (LAY rf tl) mem) : Sim z d 0 0 mX7_of 0 [.ref 47, .int (nI i), .int 2] [] (LAY rf tl) mem Q := by
  have h8 := hM.2.1
  refine s_aload_n (pc' := 1) dX7_of_0 rfl lg0 rfl ?_
  refine s_getRv (pc' := 4) (v := .ref 48) dX7_of_1 rfl flX7_7 ly47 (by decide) rfl rfl ?_
  refine s_iconst (pc' := 5) dX7_of_4 rfl iconst_5 ?_
  refine s_iload_n (pc' := 6) dX7_of_5 rfl lg1 ?_
  refine s_imul (pc' := 7) dX7_of_6 rfl ?_
  refine s_iload_n (pc' := 8) dX7_of_7 rfl lg2 ?_
  refine s_iadd (pc' := 9) dX7_of_8 rfl ?_
  rw [mI5 (w := 2) (by decide)]
  refine s_ialdNv (pc' := 10) (v := σ 2 i) dX7_of_9 rfl ly48 (by omega) (by decide) (hM.2.2.2.2 i hi 2 (by decide)) ?_
  refine s_iret dX7_of_10 rfl (vp_nar_int _) ?_
  exact K
theorem c_X7_of_2 {z : Zz} {d kc ks : Nat} {mi : MI} {pc pc' : Nat} {L S : List Value} {Q : Option Value → Lay → Mem → Prop} {rf : Nat → Value} {tl : Lay} {mem : Mem}  {n i : Nat} {σ : Nat → Nat → Int32} {td ru : Int32} {idx : Nat} (hd : decode mi.2.1 pc = .ok (.invokevirtual idx, 3)) (hp : pc + 3 = pc') (hlk : Cond.methodLink mi.1.cls idx yX7_of ∈ wok) (hdd : 0 + 1 ≤ d) (hcat : (S.map (fun v => v.category)).sum ≤ 8) (hM : isM 48 mem σ n td ru) (hi : i < n) (K :  Sim z d kc ks mi pc' L (.int (σ 2 i) :: S) (LAY rf tl) mem Q) : Sim z d kc ks mi pc L (.int 2 :: .int (nI i) :: .ref 47 :: S) (LAY rf tl) mem Q :=
  s_invV (d2 := 0) hd hp okX7_of hlk inX7_of seX7_of hdd (Nat.zero_add _) (Nat.zero_add _) rfl rfl ly47 rfl hcat (Nat.le_of_ble_eq_true rfl) (m_X7_of_2 (Nat.le_refl _) hM hi K)
set_option maxHeartbeats 4000000 in
theorem m_X7_of_3 {z : Zz} {d : Nat} {Q : Option Value → Lay → Mem → Prop} {rf : Nat → Value} {tl : Lay} {mem : Mem}  {n i : Nat} {σ : Nat → Nat → Int32} {td ru : Int32} (hdd : 0 ≤ d) (hM : isM 48 mem σ n td ru) (hi : i < n) (K :  Q (some (.int (σ 3 i))) (LAY rf tl) mem) : Sim z d 0 0 mX7_of 0 [.ref 47, .int (nI i), .int 3] [] (LAY rf tl) mem Q := by
  have h8 := hM.2.1
  refine s_aload_n (pc' := 1) dX7_of_0 rfl lg0 rfl ?_
  refine s_getRv (pc' := 4) (v := .ref 48) dX7_of_1 rfl flX7_7 ly47 (by decide) rfl rfl ?_
  refine s_iconst (pc' := 5) dX7_of_4 rfl iconst_5 ?_
  refine s_iload_n (pc' := 6) dX7_of_5 rfl lg1 ?_
  refine s_imul (pc' := 7) dX7_of_6 rfl ?_
  refine s_iload_n (pc' := 8) dX7_of_7 rfl lg2 ?_
  refine s_iadd (pc' := 9) dX7_of_8 rfl ?_
  rw [mI5 (w := 3) (by decide)]
  refine s_ialdNv (pc' := 10) (v := σ 3 i) dX7_of_9 rfl ly48 (by omega) (by decide) (hM.2.2.2.2 i hi 3 (by decide)) ?_
  refine s_iret dX7_of_10 rfl (vp_nar_int _) ?_
  exact K
theorem c_X7_of_3 {z : Zz} {d kc ks : Nat} {mi : MI} {pc pc' : Nat} {L S : List Value} {Q : Option Value → Lay → Mem → Prop} {rf : Nat → Value} {tl : Lay} {mem : Mem}  {n i : Nat} {σ : Nat → Nat → Int32} {td ru : Int32} {idx : Nat} (hd : decode mi.2.1 pc = .ok (.invokevirtual idx, 3)) (hp : pc + 3 = pc') (hlk : Cond.methodLink mi.1.cls idx yX7_of ∈ wok) (hdd : 0 + 1 ≤ d) (hcat : (S.map (fun v => v.category)).sum ≤ 8) (hM : isM 48 mem σ n td ru) (hi : i < n) (K :  Sim z d kc ks mi pc' L (.int (σ 3 i) :: S) (LAY rf tl) mem Q) : Sim z d kc ks mi pc L (.int 3 :: .int (nI i) :: .ref 47 :: S) (LAY rf tl) mem Q :=
  s_invV (d2 := 0) hd hp okX7_of hlk inX7_of seX7_of hdd (Nat.zero_add _) (Nat.zero_add _) rfl rfl ly47 rfl hcat (Nat.le_of_ble_eq_true rfl) (m_X7_of_3 (Nat.le_refl _) hM hi K)
set_option maxHeartbeats 4000000 in
theorem m_X7_of_4 {z : Zz} {d : Nat} {Q : Option Value → Lay → Mem → Prop} {rf : Nat → Value} {tl : Lay} {mem : Mem}  {n i : Nat} {σ : Nat → Nat → Int32} {td ru : Int32} (hdd : 0 ≤ d) (hM : isM 48 mem σ n td ru) (hi : i < n) (K :  Q (some (.int (σ 4 i))) (LAY rf tl) mem) : Sim z d 0 0 mX7_of 0 [.ref 47, .int (nI i), .int 4] [] (LAY rf tl) mem Q := by
  have h8 := hM.2.1
  refine s_aload_n (pc' := 1) dX7_of_0 rfl lg0 rfl ?_
  refine s_getRv (pc' := 4) (v := .ref 48) dX7_of_1 rfl flX7_7 ly47 (by decide) rfl rfl ?_
  refine s_iconst (pc' := 5) dX7_of_4 rfl iconst_5 ?_
  refine s_iload_n (pc' := 6) dX7_of_5 rfl lg1 ?_
  refine s_imul (pc' := 7) dX7_of_6 rfl ?_
  refine s_iload_n (pc' := 8) dX7_of_7 rfl lg2 ?_
  refine s_iadd (pc' := 9) dX7_of_8 rfl ?_
  rw [mI5 (w := 4) (by decide)]
  refine s_ialdNv (pc' := 10) (v := σ 4 i) dX7_of_9 rfl ly48 (by omega) (by decide) (hM.2.2.2.2 i hi 4 (by decide)) ?_
  refine s_iret dX7_of_10 rfl (vp_nar_int _) ?_
  exact K
theorem c_X7_of_4 {z : Zz} {d kc ks : Nat} {mi : MI} {pc pc' : Nat} {L S : List Value} {Q : Option Value → Lay → Mem → Prop} {rf : Nat → Value} {tl : Lay} {mem : Mem}  {n i : Nat} {σ : Nat → Nat → Int32} {td ru : Int32} {idx : Nat} (hd : decode mi.2.1 pc = .ok (.invokevirtual idx, 3)) (hp : pc + 3 = pc') (hlk : Cond.methodLink mi.1.cls idx yX7_of ∈ wok) (hdd : 0 + 1 ≤ d) (hcat : (S.map (fun v => v.category)).sum ≤ 8) (hM : isM 48 mem σ n td ru) (hi : i < n) (K :  Sim z d kc ks mi pc' L (.int (σ 4 i) :: S) (LAY rf tl) mem Q) : Sim z d kc ks mi pc L (.int 4 :: .int (nI i) :: .ref 47 :: S) (LAY rf tl) mem Q :=
  s_invV (d2 := 0) hd hp okX7_of hlk inX7_of seX7_of hdd (Nat.zero_add _) (Nat.zero_add _) rfl rfl ly47 rfl hcat (Nat.le_of_ble_eq_true rfl) (m_X7_of_4 (Nat.le_refl _) hM hi K)
theorem isM.up {c : Nat} {mem : Mem} {σ : Nat → Nat → Int32} {n : Nat} {td ru x : Int32} (h : isM c mem σ n td ru) {w i : Nat} (hw : w < 5) (hi : i < 8) : isM c (am_up mem c (5 * i + w) x) (u2 σ w i x) n td ru := by
  obtain ⟨h1, h2, h3, h4, h5⟩ := h
  refine ⟨by rw [upE, udN (by omega)]; exact h1, h2, by rw [upE, udN (by omega)]; exact h3, by rw [upE, udN (by omega)]; exact h4, fun k hk w' hw' => ?_⟩
  unfold u2
  by_cases e : w' = w ∧ k = i
  · rw [if_pos e, e.1, e.2, upE, udE]
  · rw [if_neg e, upE, udN (by omega)]; exact h5 k hk w' hw'
set_option maxHeartbeats 4000000 in
theorem m_X7_change_0 {z : Zz} {d : Nat} {Q : Option Value → Lay → Mem → Prop} {rf : Nat → Value} {tl : Lay} {mem : Mem}  {i : Nat} {x : Int32} (hdd : 0 ≤ d) (hi : i < 8) (K :  Q none (LAY rf tl) (am_up mem 48 (5 * i + 0) x)) : Sim z d 0 0 mX7_change 0 [.ref 47, .int (nI i), .int 0, .int x] [] (LAY rf tl) mem Q := by
  refine s_aload_n (pc' := 1) dX7_change_0 rfl lg0 rfl ?_
  refine s_getRv (pc' := 4) (v := .ref 48) dX7_change_1 rfl flX7_7 ly47 (by decide) rfl rfl ?_
  refine s_iconst (pc' := 5) dX7_change_4 rfl iconst_5 ?_
  refine s_iload_n (pc' := 6) dX7_change_5 rfl lg1 ?_
  refine s_imul (pc' := 7) dX7_change_6 rfl ?_
  refine s_iload_n (pc' := 8) dX7_change_7 rfl lg2 ?_
  refine s_iadd (pc' := 9) dX7_change_8 rfl ?_
  rw [mI5 (w := 0) (by decide)]
  refine s_iload_n (pc' := 10) dX7_change_9 rfl lg3 ?_
  refine s_iastN (pc' := 11) dX7_change_10 rfl ly48 (by omega) (by decide) ?_
  refine s_vret dX7_change_11 rfl ?_
  exact K
theorem c_X7_change_0 {z : Zz} {d kc ks : Nat} {mi : MI} {pc pc' : Nat} {L S : List Value} {Q : Option Value → Lay → Mem → Prop} {rf : Nat → Value} {tl : Lay} {mem : Mem}  {i : Nat} {x : Int32} {idx : Nat} (hd : decode mi.2.1 pc = .ok (.invokevirtual idx, 3)) (hp : pc + 3 = pc') (hlk : Cond.methodLink mi.1.cls idx yX7_change ∈ wok) (hdd : 0 + 1 ≤ d) (hcat : (S.map (fun v => v.category)).sum ≤ 8) (hi : i < 8) (K :  Sim z d kc ks mi pc' L S (LAY rf tl) (am_up mem 48 (5 * i + 0) x) Q) : Sim z d kc ks mi pc L (.int x :: .int 0 :: .int (nI i) :: .ref 47 :: S) (LAY rf tl) mem Q :=
  s_invV (d2 := 0) hd hp okX7_change hlk inX7_change seX7_change hdd (Nat.zero_add _) (Nat.zero_add _) rfl rfl ly47 rfl hcat (Nat.le_of_ble_eq_true rfl) (m_X7_change_0 (Nat.le_refl _) hi K)
set_option maxHeartbeats 4000000 in
theorem m_X7_change_1 {z : Zz} {d : Nat} {Q : Option Value → Lay → Mem → Prop} {rf : Nat → Value} {tl : Lay} {mem : Mem}  {i : Nat} {x : Int32} (hdd : 0 ≤ d) (hi : i < 8) (K :  Q none (LAY rf tl) (am_up mem 48 (5 * i + 1) x)) : Sim z d 0 0 mX7_change 0 [.ref 47, .int (nI i), .int 1, .int x] [] (LAY rf tl) mem Q := by
  refine s_aload_n (pc' := 1) dX7_change_0 rfl lg0 rfl ?_
  refine s_getRv (pc' := 4) (v := .ref 48) dX7_change_1 rfl flX7_7 ly47 (by decide) rfl rfl ?_
  refine s_iconst (pc' := 5) dX7_change_4 rfl iconst_5 ?_
  refine s_iload_n (pc' := 6) dX7_change_5 rfl lg1 ?_
  refine s_imul (pc' := 7) dX7_change_6 rfl ?_
  refine s_iload_n (pc' := 8) dX7_change_7 rfl lg2 ?_
  refine s_iadd (pc' := 9) dX7_change_8 rfl ?_
  rw [mI5 (w := 1) (by decide)]
  refine s_iload_n (pc' := 10) dX7_change_9 rfl lg3 ?_
  refine s_iastN (pc' := 11) dX7_change_10 rfl ly48 (by omega) (by decide) ?_
  refine s_vret dX7_change_11 rfl ?_
  exact K
theorem c_X7_change_1 {z : Zz} {d kc ks : Nat} {mi : MI} {pc pc' : Nat} {L S : List Value} {Q : Option Value → Lay → Mem → Prop} {rf : Nat → Value} {tl : Lay} {mem : Mem}  {i : Nat} {x : Int32} {idx : Nat} (hd : decode mi.2.1 pc = .ok (.invokevirtual idx, 3)) (hp : pc + 3 = pc') (hlk : Cond.methodLink mi.1.cls idx yX7_change ∈ wok) (hdd : 0 + 1 ≤ d) (hcat : (S.map (fun v => v.category)).sum ≤ 8) (hi : i < 8) (K :  Sim z d kc ks mi pc' L S (LAY rf tl) (am_up mem 48 (5 * i + 1) x) Q) : Sim z d kc ks mi pc L (.int x :: .int 1 :: .int (nI i) :: .ref 47 :: S) (LAY rf tl) mem Q :=
  s_invV (d2 := 0) hd hp okX7_change hlk inX7_change seX7_change hdd (Nat.zero_add _) (Nat.zero_add _) rfl rfl ly47 rfl hcat (Nat.le_of_ble_eq_true rfl) (m_X7_change_1 (Nat.le_refl _) hi K)
set_option maxHeartbeats 4000000 in
theorem m_X7_change_2 {z : Zz} {d : Nat} {Q : Option Value → Lay → Mem → Prop} {rf : Nat → Value} {tl : Lay} {mem : Mem}  {i : Nat} {x : Int32} (hdd : 0 ≤ d) (hi : i < 8) (K :  Q none (LAY rf tl) (am_up mem 48 (5 * i + 2) x)) : Sim z d 0 0 mX7_change 0 [.ref 47, .int (nI i), .int 2, .int x] [] (LAY rf tl) mem Q := by
  refine s_aload_n (pc' := 1) dX7_change_0 rfl lg0 rfl ?_
  refine s_getRv (pc' := 4) (v := .ref 48) dX7_change_1 rfl flX7_7 ly47 (by decide) rfl rfl ?_
  refine s_iconst (pc' := 5) dX7_change_4 rfl iconst_5 ?_
  refine s_iload_n (pc' := 6) dX7_change_5 rfl lg1 ?_
  refine s_imul (pc' := 7) dX7_change_6 rfl ?_
  refine s_iload_n (pc' := 8) dX7_change_7 rfl lg2 ?_
  refine s_iadd (pc' := 9) dX7_change_8 rfl ?_
  rw [mI5 (w := 2) (by decide)]
  refine s_iload_n (pc' := 10) dX7_change_9 rfl lg3 ?_
  refine s_iastN (pc' := 11) dX7_change_10 rfl ly48 (by omega) (by decide) ?_
  refine s_vret dX7_change_11 rfl ?_
  exact K
theorem c_X7_change_2 {z : Zz} {d kc ks : Nat} {mi : MI} {pc pc' : Nat} {L S : List Value} {Q : Option Value → Lay → Mem → Prop} {rf : Nat → Value} {tl : Lay} {mem : Mem}  {i : Nat} {x : Int32} {idx : Nat} (hd : decode mi.2.1 pc = .ok (.invokevirtual idx, 3)) (hp : pc + 3 = pc') (hlk : Cond.methodLink mi.1.cls idx yX7_change ∈ wok) (hdd : 0 + 1 ≤ d) (hcat : (S.map (fun v => v.category)).sum ≤ 8) (hi : i < 8) (K :  Sim z d kc ks mi pc' L S (LAY rf tl) (am_up mem 48 (5 * i + 2) x) Q) : Sim z d kc ks mi pc L (.int x :: .int 2 :: .int (nI i) :: .ref 47 :: S) (LAY rf tl) mem Q :=
  s_invV (d2 := 0) hd hp okX7_change hlk inX7_change seX7_change hdd (Nat.zero_add _) (Nat.zero_add _) rfl rfl ly47 rfl hcat (Nat.le_of_ble_eq_true rfl) (m_X7_change_2 (Nat.le_refl _) hi K)
set_option maxHeartbeats 4000000 in
theorem m_X7_change_3 {z : Zz} {d : Nat} {Q : Option Value → Lay → Mem → Prop} {rf : Nat → Value} {tl : Lay} {mem : Mem}  {i : Nat} {x : Int32} (hdd : 0 ≤ d) (hi : i < 8) (K :  Q none (LAY rf tl) (am_up mem 48 (5 * i + 3) x)) : Sim z d 0 0 mX7_change 0 [.ref 47, .int (nI i), .int 3, .int x] [] (LAY rf tl) mem Q := by
  refine s_aload_n (pc' := 1) dX7_change_0 rfl lg0 rfl ?_
  refine s_getRv (pc' := 4) (v := .ref 48) dX7_change_1 rfl flX7_7 ly47 (by decide) rfl rfl ?_
  refine s_iconst (pc' := 5) dX7_change_4 rfl iconst_5 ?_
  refine s_iload_n (pc' := 6) dX7_change_5 rfl lg1 ?_
  refine s_imul (pc' := 7) dX7_change_6 rfl ?_
  refine s_iload_n (pc' := 8) dX7_change_7 rfl lg2 ?_
  refine s_iadd (pc' := 9) dX7_change_8 rfl ?_
  rw [mI5 (w := 3) (by decide)]
  refine s_iload_n (pc' := 10) dX7_change_9 rfl lg3 ?_
  refine s_iastN (pc' := 11) dX7_change_10 rfl ly48 (by omega) (by decide) ?_
  refine s_vret dX7_change_11 rfl ?_
  exact K
theorem c_X7_change_3 {z : Zz} {d kc ks : Nat} {mi : MI} {pc pc' : Nat} {L S : List Value} {Q : Option Value → Lay → Mem → Prop} {rf : Nat → Value} {tl : Lay} {mem : Mem}  {i : Nat} {x : Int32} {idx : Nat} (hd : decode mi.2.1 pc = .ok (.invokevirtual idx, 3)) (hp : pc + 3 = pc') (hlk : Cond.methodLink mi.1.cls idx yX7_change ∈ wok) (hdd : 0 + 1 ≤ d) (hcat : (S.map (fun v => v.category)).sum ≤ 8) (hi : i < 8) (K :  Sim z d kc ks mi pc' L S (LAY rf tl) (am_up mem 48 (5 * i + 3) x) Q) : Sim z d kc ks mi pc L (.int x :: .int 3 :: .int (nI i) :: .ref 47 :: S) (LAY rf tl) mem Q :=
  s_invV (d2 := 0) hd hp okX7_change hlk inX7_change seX7_change hdd (Nat.zero_add _) (Nat.zero_add _) rfl rfl ly47 rfl hcat (Nat.le_of_ble_eq_true rfl) (m_X7_change_3 (Nat.le_refl _) hi K)
set_option maxHeartbeats 4000000 in
theorem m_X7_change_4 {z : Zz} {d : Nat} {Q : Option Value → Lay → Mem → Prop} {rf : Nat → Value} {tl : Lay} {mem : Mem}  {i : Nat} {x : Int32} (hdd : 0 ≤ d) (hi : i < 8) (K :  Q none (LAY rf tl) (am_up mem 48 (5 * i + 4) x)) : Sim z d 0 0 mX7_change 0 [.ref 47, .int (nI i), .int 4, .int x] [] (LAY rf tl) mem Q := by
  refine s_aload_n (pc' := 1) dX7_change_0 rfl lg0 rfl ?_
  refine s_getRv (pc' := 4) (v := .ref 48) dX7_change_1 rfl flX7_7 ly47 (by decide) rfl rfl ?_
  refine s_iconst (pc' := 5) dX7_change_4 rfl iconst_5 ?_
  refine s_iload_n (pc' := 6) dX7_change_5 rfl lg1 ?_
  refine s_imul (pc' := 7) dX7_change_6 rfl ?_
  refine s_iload_n (pc' := 8) dX7_change_7 rfl lg2 ?_
  refine s_iadd (pc' := 9) dX7_change_8 rfl ?_
  rw [mI5 (w := 4) (by decide)]
  refine s_iload_n (pc' := 10) dX7_change_9 rfl lg3 ?_
  refine s_iastN (pc' := 11) dX7_change_10 rfl ly48 (by omega) (by decide) ?_
  refine s_vret dX7_change_11 rfl ?_
  exact K
theorem c_X7_change_4 {z : Zz} {d kc ks : Nat} {mi : MI} {pc pc' : Nat} {L S : List Value} {Q : Option Value → Lay → Mem → Prop} {rf : Nat → Value} {tl : Lay} {mem : Mem}  {i : Nat} {x : Int32} {idx : Nat} (hd : decode mi.2.1 pc = .ok (.invokevirtual idx, 3)) (hp : pc + 3 = pc') (hlk : Cond.methodLink mi.1.cls idx yX7_change ∈ wok) (hdd : 0 + 1 ≤ d) (hcat : (S.map (fun v => v.category)).sum ≤ 8) (hi : i < 8) (K :  Sim z d kc ks mi pc' L S (LAY rf tl) (am_up mem 48 (5 * i + 4) x) Q) : Sim z d kc ks mi pc L (.int x :: .int 4 :: .int (nI i) :: .ref 47 :: S) (LAY rf tl) mem Q :=
  s_invV (d2 := 0) hd hp okX7_change hlk inX7_change seX7_change hdd (Nat.zero_add _) (Nat.zero_add _) rfl rfl ly47 rfl hcat (Nat.le_of_ble_eq_true rfl) (m_X7_change_4 (Nat.le_refl _) hi K)
set_option maxHeartbeats 4000000 in
theorem m_X7_rounds {z : Zz} {d : Nat} {Q : Option Value → Lay → Mem → Prop} {rf : Nat → Value} {tl : Lay} {mem : Mem}  {n : Nat} {σ : Nat → Nat → Int32} {td ru : Int32} (hdd : 1 ≤ d) (hM : isM 48 mem σ n td ru) (K :  Q (some (.int (nI (rou σ n)))) (LAY rf tl) mem) : Sim z d 0 0 mX7_rounds 0 [.ref 47, .float 0, .float 0] [] (LAY rf tl) mem Q := by
  have h8 := hM.2.1
  have hn := hM.1
  refine s_iconst (pc' := 1) dX7_rounds_0 rfl iconst_0 ?_
  refine s_istore_n (pc' := 2) dX7_rounds_1 rfl (Nat.le_of_ble_eq_true rfl) rfl ls1 ?_
  refine s_iconst (pc' := 3) dX7_rounds_2 rfl iconst_0 ?_
  refine s_istore_n (pc' := 4) dX7_rounds_3 rfl (Nat.le_of_ble_eq_true rfl) rfl ls2 ?_
  have loop : ∀ (k i : Nat), i + k = n → Sim z d 0 0 mX7_rounds 4 [.ref 47, .int (nI (ct (fun i => decide (σ 2 i = 0)) i)), .int (nI i)] [] (LAY rf tl) mem Q := by
    intro k
    induction k with
    | zero =>
      intro i hi
      have : i = n := by omega
      subst this
      refine s_iload_n (pc' := 5) dX7_rounds_4 rfl lg2 ?_
      refine s_aload_n (pc' := 6) dX7_rounds_5 rfl lg0 rfl ?_
      refine c_X7_many  (pc' := 9) dX7_rounds_6 rfl lkX7_101 (by omega) (Nat.le_of_ble_eq_true rfl) ?_
      refine s_icmp_ge (pc' := 12) (tgt := 35) dX7_rounds_9 rfl (by decide) (fun _ => ?_) (fun c9 => absurd (by rw [hn]; exact nI_le (by omega) (by omega)) c9)
      refine s_iload_n (pc' := 36) dX7_rounds_35 rfl lg1 ?_
      refine s_iret dX7_rounds_36 rfl (vp_nar_int _) ?_
      exact K
    | succ k ih =>
      intro i hi
      have h1 := ih (i + 1) (by omega)
      rw [ct] at h1
      refine s_iload_n (pc' := 5) dX7_rounds_4 rfl lg2 ?_
      refine s_aload_n (pc' := 6) dX7_rounds_5 rfl lg0 rfl ?_
      refine c_X7_many  (pc' := 9) dX7_rounds_6 rfl lkX7_101 (by omega) (Nat.le_of_ble_eq_true rfl) ?_
      refine s_icmp_ge (pc' := 12) (tgt := 35) dX7_rounds_9 rfl (by decide) (fun c9 => absurd c9 (by rw [hn]; exact nI_ge (by omega) (by omega))) (fun _ => ?_)
      refine s_iload_n (pc' := 13) dX7_rounds_12 rfl lg1 ?_
      refine s_aload_n (pc' := 14) dX7_rounds_13 rfl lg0 rfl ?_
      refine s_iload_n (pc' := 15) dX7_rounds_14 rfl lg2 ?_
      refine s_iconst (pc' := 16) dX7_rounds_15 rfl iconst_2 ?_
      refine c_X7_of_2  (pc' := 19) dX7_rounds_16 rfl lkX7_108 (by omega) (Nat.le_of_ble_eq_true rfl) hM (by omega) ?_
      refine s_if_ne (pc' := 22) (tgt := 26) dX7_rounds_19 rfl (by decide) (fun c1 => ?_) (fun c1 => ?_)
      · skip
        rw [decide_eq_false c1, if_neg Bool.false_ne_true] at h1
        refine s_iconst (pc' := 27) dX7_rounds_26 rfl iconst_0 ?_
        refine s_iadd (pc' := 28) dX7_rounds_27 rfl ?_
        rw [show nI (ct (fun i => decide (σ 2 i = 0)) i) + 0 = nI (ct (fun i => decide (σ 2 i = 0)) i + 0) from nI_add _ 0]
        refine s_istore_n (pc' := 29) dX7_rounds_28 rfl (Nat.le_of_ble_eq_true rfl) rfl ls1 ?_
        refine s_iincN (pc' := 32) dX7_rounds_29 rfl lg2 rfl ls2 ?_
        refine s_goto (tgt := 4) dX7_rounds_32 (by decide) ?_
        exact h1
      · skip
        rw [decide_eq_true c1, if_pos rfl] at h1
        refine s_iconst (pc' := 23) dX7_rounds_22 rfl iconst_1 ?_
        refine s_goto (tgt := 27) dX7_rounds_23 (by decide) ?_
        refine s_iadd (pc' := 28) dX7_rounds_27 rfl ?_
        rw [nI_1]
        refine s_istore_n (pc' := 29) dX7_rounds_28 rfl (Nat.le_of_ble_eq_true rfl) rfl ls1 ?_
        refine s_iincN (pc' := 32) dX7_rounds_29 rfl lg2 rfl ls2 ?_
        refine s_goto (tgt := 4) dX7_rounds_32 (by decide) ?_
        exact h1
  exact loop n 0 (by omega)
theorem c_X7_rounds {z : Zz} {d kc ks : Nat} {mi : MI} {pc pc' : Nat} {L S : List Value} {Q : Option Value → Lay → Mem → Prop} {rf : Nat → Value} {tl : Lay} {mem : Mem}  {n : Nat} {σ : Nat → Nat → Int32} {td ru : Int32} {idx : Nat} (hd : decode mi.2.1 pc = .ok (.invokevirtual idx, 3)) (hp : pc + 3 = pc') (hlk : Cond.methodLink mi.1.cls idx yX7_rounds ∈ wok) (hdd : 1 + 1 ≤ d) (hcat : (S.map (fun v => v.category)).sum ≤ 8) (hM : isM 48 mem σ n td ru) (K :  Sim z d kc ks mi pc' L (.int (nI (rou σ n)) :: S) (LAY rf tl) mem Q) : Sim z d kc ks mi pc L (.ref 47 :: S) (LAY rf tl) mem Q :=
  s_invV (d2 := 1) hd hp okX7_rounds hlk inX7_rounds seX7_rounds hdd (Nat.zero_add _) (Nat.zero_add _) rfl rfl ly47 rfl hcat (Nat.le_of_ble_eq_true rfl) (m_X7_rounds (Nat.le_refl _) hM K)

