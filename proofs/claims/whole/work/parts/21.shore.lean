/-! ===== Shore: what is counted ===== -/
def ct (p : Nat → Bool) : Nat → Nat
  | 0 => 0
  | k + 1 => ct p k + (if p k then 1 else 0)
def bo (p : Nat → Bool) : Nat → Int32
  | 0 => 0
  | k + 1 => if p k then bo p k ||| ((1 : Int32) <<< (nI k &&& 31)) else bo p k
def suI (f : Nat → Int32) : Nat → Int32
  | 0 => 0
  | k + 1 => suI f k + f k
theorem ct_le (p : Nat → Bool) : ∀ n, ct p n ≤ n
  | 0 => Nat.le_refl 0
  | n + 1 => by have := ct_le p n; rw [ct]; split <;> omega
theorem ct_mono (p : Nat → Bool) {m n : Nat} (h : m ≤ n) : ct p m ≤ ct p n := by
  induction n with
  | zero => rw [Nat.le_zero.mp h]; exact Nat.le_refl _
  | succ n ih =>
    rcases Nat.lt_or_ge m (n + 1) with q | q
    · exact Nat.le_trans (ih (by omega)) (by rw [ct]; omega)
    · have : m = n + 1 := by omega
      rw [this]; exact Nat.le_refl _
theorem nI_eqN {a b : Nat} (ha : a < 1000) (hb : b < 1000) : (nI a = nI b) = (a = b) := propext (nI_eq (by omega) (by omega))
set_option maxHeartbeats 4000000 in
theorem m_X3_sharpTogether {z : Zz} {d : Nat} {Q : Option Value → Lay → Mem → Prop} {rf : Nat → Value} {tl : Lay} {mem : Mem}  {b n : Nat} (hdd : 0 ≤ d) (hb : ISh b) (hn : mem b 8 = nI n) (h8 : n ≤ 8) (K :  Q (some (.int (suI (mem (b + 2)) n))) (LAY rf tl) mem) : Sim z d 0 0 mX3_sharpTogether 0 [.ref b, .float 0, .float 0] [] (LAY rf tl) mem Q := by
  refine s_iconst (pc' := 1) dX3_sharpTogether_0 rfl iconst_0 ?_
  refine s_istore_n (pc' := 2) dX3_sharpTogether_1 rfl (Nat.le_of_ble_eq_true rfl) rfl ls1 ?_
  refine s_iconst (pc' := 3) dX3_sharpTogether_2 rfl iconst_0 ?_
  refine s_istore_n (pc' := 4) dX3_sharpTogether_3 rfl (Nat.le_of_ble_eq_true rfl) rfl ls2 ?_
  have loop : ∀ (k i : Nat), i + k = n → Sim z d 0 0 mX3_sharpTogether 4 [.ref b, .int (suI (mem (b + 2)) i), .int (nI i)] [] (LAY rf tl) mem Q := by
    intro k
    induction k with
    | zero =>
      intro i hi
      refine s_iload_n (pc' := 5) dX3_sharpTogether_4 rfl lg2 ?_
      refine s_aload_n (pc' := 6) dX3_sharpTogether_5 rfl lg0 rfl ?_
      refine s_getI (pc' := 9) dX3_sharpTogether_6 rfl flX3_33 (lyS hb) (by decide) rfl ?_
      refine s_icmp_ge (pc' := 12) (tgt := 27) dX3_sharpTogether_9 rfl (by decide) (fun _ => ?_) (fun c9 => absurd (by rw [hn]; exact nI_le (by omega) (by omega)) c9)
      refine s_iload_n (pc' := 28) dX3_sharpTogether_27 rfl lg1 ?_
      refine s_iret dX3_sharpTogether_28 rfl (vp_nar_int _) ?_
      have : i = n := by omega
      rw [this]; exact K
    | succ k ih =>
      intro i hi
      refine s_iload_n (pc' := 5) dX3_sharpTogether_4 rfl lg2 ?_
      refine s_aload_n (pc' := 6) dX3_sharpTogether_5 rfl lg0 rfl ?_
      refine s_getI (pc' := 9) dX3_sharpTogether_6 rfl flX3_33 (lyS hb) (by decide) rfl ?_
      refine s_icmp_ge (pc' := 12) (tgt := 27) dX3_sharpTogether_9 rfl (by decide) (fun c9 => absurd c9 (by rw [hn]; exact nI_ge (by omega) (by omega))) (fun _ => ?_)
      refine s_iload_n (pc' := 13) dX3_sharpTogether_12 rfl lg1 ?_
      refine s_aload_n (pc' := 14) dX3_sharpTogether_13 rfl lg0 rfl ?_
      refine s_getRv (pc' := 17) (v := .ref (b + 2)) dX3_sharpTogether_14 rfl flX3_15 (lyS hb) (by decide) rfl rfl ?_
      refine s_iload_n (pc' := 18) dX3_sharpTogether_17 rfl lg2 ?_
      refine s_ialdN (pc' := 19) dX3_sharpTogether_18 rfl (lyS2 hb) (by omega) (by decide) ?_
      refine s_iadd (pc' := 20) dX3_sharpTogether_19 rfl ?_
      refine s_istore_n (pc' := 21) dX3_sharpTogether_20 rfl (Nat.le_of_ble_eq_true rfl) rfl ls1 ?_
      refine s_iincN (pc' := 24) dX3_sharpTogether_21 rfl lg2 rfl ls2 ?_
      refine s_goto (tgt := 4) dX3_sharpTogether_24 (by decide) ?_
      exact ih (i + 1) (by omega)
  exact loop n 0 (by omega)
theorem c_X3_sharpTogether {z : Zz} {d kc ks : Nat} {mi : MI} {pc pc' : Nat} {L S : List Value} {Q : Option Value → Lay → Mem → Prop} {rf : Nat → Value} {tl : Lay} {mem : Mem}  {b n : Nat} {idx : Nat} (hd : decode mi.2.1 pc = .ok (.invokevirtual idx, 3)) (hp : pc + 3 = pc') (hlk : Cond.methodLink mi.1.cls idx yX3_sharpTogether ∈ wok) (hdd : 0 + 1 ≤ d) (hcat : (S.map (fun v => v.category)).sum ≤ 8) (hb : ISh b) (hn : mem b 8 = nI n) (h8 : n ≤ 8) (K :  Sim z d kc ks mi pc' L (.int (suI (mem (b + 2)) n) :: S) (LAY rf tl) mem Q) : Sim z d kc ks mi pc L (.ref b :: S) (LAY rf tl) mem Q :=
  s_invV (d2 := 0) hd hp okX3_sharpTogether hlk inX3_sharpTogether seX3_sharpTogether hdd (Nat.zero_add _) (Nat.zero_add _) rfl rfl (lyS hb) rfl hcat (Nat.le_of_ble_eq_true rfl) (m_X3_sharpTogether (Nat.le_refl _) hb hn h8 K)
set_option maxHeartbeats 4000000 in
theorem m_X3_howManyRound {z : Zz} {d : Nat} {Q : Option Value → Lay → Mem → Prop} {rf : Nat → Value} {tl : Lay} {mem : Mem}  {b n : Nat} (hdd : 0 ≤ d) (hb : ISh b) (hn : mem b 8 = nI n) (h8 : n ≤ 8) (K :  Q (some (.int (nI (ct (fun i => decide (mem (b + 2) i = 0)) n)))) (LAY rf tl) mem) : Sim z d 0 0 mX3_howManyRound 0 [.ref b, .float 0, .float 0] [] (LAY rf tl) mem Q := by
  refine s_iconst (pc' := 1) dX3_howManyRound_0 rfl iconst_0 ?_
  refine s_istore_n (pc' := 2) dX3_howManyRound_1 rfl (Nat.le_of_ble_eq_true rfl) rfl ls1 ?_
  refine s_iconst (pc' := 3) dX3_howManyRound_2 rfl iconst_0 ?_
  refine s_istore_n (pc' := 4) dX3_howManyRound_3 rfl (Nat.le_of_ble_eq_true rfl) rfl ls2 ?_
  have loop : ∀ (k i a : Nat), i + k = n → a = ct (fun i => decide (mem (b + 2) i = 0)) i → Sim z d 0 0 mX3_howManyRound 4 [.ref b, .int (nI a), .int (nI i)] [] (LAY rf tl) mem Q := by
    intro k
    induction k with
    | zero =>
      intro i a hi ha
      refine s_iload_n (pc' := 5) dX3_howManyRound_4 rfl lg2 ?_
      refine s_aload_n (pc' := 6) dX3_howManyRound_5 rfl lg0 rfl ?_
      refine s_getI (pc' := 9) dX3_howManyRound_6 rfl flX3_33 (lyS hb) (by decide) rfl ?_
      refine s_icmp_ge (pc' := 12) (tgt := 30) dX3_howManyRound_9 rfl (by decide) (fun _ => ?_) (fun c9 => absurd (by rw [hn]; exact nI_le (by omega) (by omega)) c9)
      refine s_iload_n (pc' := 31) dX3_howManyRound_30 rfl lg1 ?_
      refine s_iret dX3_howManyRound_31 rfl (vp_nar_int _) ?_
      have : i = n := by omega
      rw [ha, this]; exact K
    | succ k ih =>
      intro i a hi ha
      refine s_iload_n (pc' := 5) dX3_howManyRound_4 rfl lg2 ?_
      refine s_aload_n (pc' := 6) dX3_howManyRound_5 rfl lg0 rfl ?_
      refine s_getI (pc' := 9) dX3_howManyRound_6 rfl flX3_33 (lyS hb) (by decide) rfl ?_
      refine s_icmp_ge (pc' := 12) (tgt := 30) dX3_howManyRound_9 rfl (by decide) (fun c9 => absurd c9 (by rw [hn]; exact nI_ge (by omega) (by omega))) (fun _ => ?_)
      refine s_aload_n (pc' := 13) dX3_howManyRound_12 rfl lg0 rfl ?_
      refine s_getRv (pc' := 16) (v := .ref (b + 2)) dX3_howManyRound_13 rfl flX3_15 (lyS hb) (by decide) rfl rfl ?_
      refine s_iload_n (pc' := 17) dX3_howManyRound_16 rfl lg2 ?_
      refine s_ialdN (pc' := 18) dX3_howManyRound_17 rfl (lyS2 hb) (by omega) (by decide) ?_
      refine s_if_ne (pc' := 21) (tgt := 24) dX3_howManyRound_18 rfl (by decide) (fun c1 => ?_) (fun c1 => ?_)
      · refine s_iincN (pc' := 27) dX3_howManyRound_24 rfl lg2 rfl ls2 ?_
        refine s_goto (tgt := 4) dX3_howManyRound_27 (by decide) ?_
        exact ih (i + 1) _ (by omega) (by simp [ct, ha, c1])
      · refine s_iincN (pc' := 24) dX3_howManyRound_21 rfl lg1 rfl ls1 ?_
        refine s_iincN (pc' := 27) dX3_howManyRound_24 rfl lg2 rfl ls2 ?_
        refine s_goto (tgt := 4) dX3_howManyRound_27 (by decide) ?_
        exact ih (i + 1) _ (by omega) (by simp [ct, ha, c1])
  exact loop n 0 0 (by omega) rfl
theorem c_X3_howManyRound {z : Zz} {d kc ks : Nat} {mi : MI} {pc pc' : Nat} {L S : List Value} {Q : Option Value → Lay → Mem → Prop} {rf : Nat → Value} {tl : Lay} {mem : Mem}  {b n : Nat} {idx : Nat} (hd : decode mi.2.1 pc = .ok (.invokevirtual idx, 3)) (hp : pc + 3 = pc') (hlk : Cond.methodLink mi.1.cls idx yX3_howManyRound ∈ wok) (hdd : 0 + 1 ≤ d) (hcat : (S.map (fun v => v.category)).sum ≤ 8) (hb : ISh b) (hn : mem b 8 = nI n) (h8 : n ≤ 8) (K :  Sim z d kc ks mi pc' L (.int (nI (ct (fun i => decide (mem (b + 2) i = 0)) n)) :: S) (LAY rf tl) mem Q) : Sim z d kc ks mi pc L (.ref b :: S) (LAY rf tl) mem Q :=
  s_invV (d2 := 0) hd hp okX3_howManyRound hlk inX3_howManyRound seX3_howManyRound hdd (Nat.zero_add _) (Nat.zero_add _) rfl rfl (lyS hb) rfl hcat (Nat.le_of_ble_eq_true rfl) (m_X3_howManyRound (Nat.le_refl _) hb hn h8 K)
set_option maxHeartbeats 4000000 in
theorem m_X3_whichAt {z : Zz} {d : Nat} {Q : Option Value → Lay → Mem → Prop} {rf : Nat → Value} {tl : Lay} {mem : Mem}  {b n : Nat} {w : Int32} (hdd : 0 ≤ d) (hb : ISh b) (hn : mem b 8 = nI n) (h8 : n ≤ 8) (K :  Q (some (.int (bo (fun i => decide (mem (b + 3) i = w)) n))) (LAY rf tl) mem) : Sim z d 0 0 mX3_whichAt 0 [.ref b, .int w, .float 0, .float 0] [] (LAY rf tl) mem Q := by
  refine s_iconst (pc' := 1) dX3_whichAt_0 rfl iconst_0 ?_
  refine s_istore_n (pc' := 2) dX3_whichAt_1 rfl (Nat.le_of_ble_eq_true rfl) rfl ls2 ?_
  refine s_iconst (pc' := 3) dX3_whichAt_2 rfl iconst_0 ?_
  refine s_istore_n (pc' := 4) dX3_whichAt_3 rfl (Nat.le_of_ble_eq_true rfl) rfl ls3 ?_
  have loop : ∀ (k i : Nat) (a : Int32), i + k = n → a = bo (fun i => decide (mem (b + 3) i = w)) i → Sim z d 0 0 mX3_whichAt 4 [.ref b, .int w, .int a, .int (nI i)] [] (LAY rf tl) mem Q := by
    intro k
    induction k with
    | zero =>
      intro i a hi ha
      refine s_iload_n (pc' := 5) dX3_whichAt_4 rfl lg3 ?_
      refine s_aload_n (pc' := 6) dX3_whichAt_5 rfl lg0 rfl ?_
      refine s_getI (pc' := 9) dX3_whichAt_6 rfl flX3_33 (lyS hb) (by decide) rfl ?_
      refine s_icmp_ge (pc' := 12) (tgt := 34) dX3_whichAt_9 rfl (by decide) (fun _ => ?_) (fun c9 => absurd (by rw [hn]; exact nI_le (by omega) (by omega)) c9)
      refine s_iload_n (pc' := 35) dX3_whichAt_34 rfl lg2 ?_
      refine s_iret dX3_whichAt_35 rfl (vp_nar_int _) ?_
      have : i = n := by omega
      rw [ha, this]; exact K
    | succ k ih =>
      intro i a hi ha
      refine s_iload_n (pc' := 5) dX3_whichAt_4 rfl lg3 ?_
      refine s_aload_n (pc' := 6) dX3_whichAt_5 rfl lg0 rfl ?_
      refine s_getI (pc' := 9) dX3_whichAt_6 rfl flX3_33 (lyS hb) (by decide) rfl ?_
      refine s_icmp_ge (pc' := 12) (tgt := 34) dX3_whichAt_9 rfl (by decide) (fun c9 => absurd c9 (by rw [hn]; exact nI_ge (by omega) (by omega))) (fun _ => ?_)
      refine s_aload_n (pc' := 13) dX3_whichAt_12 rfl lg0 rfl ?_
      refine s_getRv (pc' := 16) (v := .ref (b + 3)) dX3_whichAt_13 rfl flX3_18 (lyS hb) (by decide) rfl rfl ?_
      refine s_iload_n (pc' := 17) dX3_whichAt_16 rfl lg3 ?_
      refine s_ialdN (pc' := 18) dX3_whichAt_17 rfl (lyS3 hb) (by omega) (by decide) ?_
      refine s_iload_n (pc' := 19) dX3_whichAt_18 rfl lg1 ?_
      refine s_icmp_ne (pc' := 22) (tgt := 28) dX3_whichAt_19 rfl (by decide) (fun c2 => ?_) (fun c2 => ?_)
      · refine s_iincN (pc' := 31) dX3_whichAt_28 rfl lg3 rfl ls3 ?_
        refine s_goto (tgt := 4) dX3_whichAt_31 (by decide) ?_
        exact ih (i + 1) _ (by omega) (by simp [bo, ha, c2])
      · refine s_iload_n (pc' := 23) dX3_whichAt_22 rfl lg2 ?_
        refine s_iconst (pc' := 24) dX3_whichAt_23 rfl iconst_1 ?_
        refine s_iload_n (pc' := 25) dX3_whichAt_24 rfl lg3 ?_
        refine s_ishl (pc' := 26) dX3_whichAt_25 rfl ?_
        refine s_ior (pc' := 27) dX3_whichAt_26 rfl ?_
        refine s_istore_n (pc' := 28) dX3_whichAt_27 rfl (Nat.le_of_ble_eq_true rfl) rfl ls2 ?_
        refine s_iincN (pc' := 31) dX3_whichAt_28 rfl lg3 rfl ls3 ?_
        refine s_goto (tgt := 4) dX3_whichAt_31 (by decide) ?_
        exact ih (i + 1) _ (by omega) (by simp [bo, ha, c2])
  exact loop n 0 0 (by omega) rfl
theorem c_X3_whichAt {z : Zz} {d kc ks : Nat} {mi : MI} {pc pc' : Nat} {L S : List Value} {Q : Option Value → Lay → Mem → Prop} {rf : Nat → Value} {tl : Lay} {mem : Mem}  {b n : Nat} {w : Int32} {idx : Nat} (hd : decode mi.2.1 pc = .ok (.invokevirtual idx, 3)) (hp : pc + 3 = pc') (hlk : Cond.methodLink mi.1.cls idx yX3_whichAt ∈ wok) (hdd : 0 + 1 ≤ d) (hcat : (S.map (fun v => v.category)).sum ≤ 8) (hb : ISh b) (hn : mem b 8 = nI n) (h8 : n ≤ 8) (K :  Sim z d kc ks mi pc' L (.int (bo (fun i => decide (mem (b + 3) i = w)) n) :: S) (LAY rf tl) mem Q) : Sim z d kc ks mi pc L (.int w :: .ref b :: S) (LAY rf tl) mem Q :=
  s_invV (d2 := 0) hd hp okX3_whichAt hlk inX3_whichAt seX3_whichAt hdd (Nat.zero_add _) (Nat.zero_add _) rfl rfl (lyS hb) rfl hcat (Nat.le_of_ble_eq_true rfl) (m_X3_whichAt (Nat.le_refl _) hb hn h8 K)
set_option maxHeartbeats 4000000 in
theorem m_X3_othersWith {z : Zz} {d : Nat} {Q : Option Value → Lay → Mem → Prop} {rf : Nat → Value} {tl : Lay} {mem : Mem}  {b n p : Nat} (hdd : 0 ≤ d) (hb : ISh b) (hn : mem b 8 = nI n) (h8 : n ≤ 8) (hpn : p < n) (K :  Q (some (.int (nI (ct (fun i => !decide (i = p) && decide (mem (b + 3) i = mem (b + 3) p)) n)))) (LAY rf tl) mem) : Sim z d 0 0 mX3_othersWith 0 [.ref b, .int (nI p), .float 0, .float 0] [] (LAY rf tl) mem Q := by
  refine s_iconst (pc' := 1) dX3_othersWith_0 rfl iconst_0 ?_
  refine s_istore_n (pc' := 2) dX3_othersWith_1 rfl (Nat.le_of_ble_eq_true rfl) rfl ls2 ?_
  refine s_iconst (pc' := 3) dX3_othersWith_2 rfl iconst_0 ?_
  refine s_istore_n (pc' := 4) dX3_othersWith_3 rfl (Nat.le_of_ble_eq_true rfl) rfl ls3 ?_
  have loop : ∀ (k i a : Nat), i + k = n → a = ct (fun i => !decide (i = p) && decide (mem (b + 3) i = mem (b + 3) p)) i → Sim z d 0 0 mX3_othersWith 4 [.ref b, .int (nI p), .int (nI a), .int (nI i)] [] (LAY rf tl) mem Q := by
    intro k
    induction k with
    | zero =>
      intro i a hi ha
      refine s_iload_n (pc' := 5) dX3_othersWith_4 rfl lg3 ?_
      refine s_aload_n (pc' := 6) dX3_othersWith_5 rfl lg0 rfl ?_
      refine s_getI (pc' := 9) dX3_othersWith_6 rfl flX3_33 (lyS hb) (by decide) rfl ?_
      refine s_icmp_ge (pc' := 12) (tgt := 41) dX3_othersWith_9 rfl (by decide) (fun _ => ?_) (fun c9 => absurd (by rw [hn]; exact nI_le (by omega) (by omega)) c9)
      refine s_iload_n (pc' := 42) dX3_othersWith_41 rfl lg2 ?_
      refine s_iret dX3_othersWith_42 rfl (vp_nar_int _) ?_
      have : i = n := by omega
      rw [ha, this]; exact K
    | succ k ih =>
      intro i a hi ha
      refine s_iload_n (pc' := 5) dX3_othersWith_4 rfl lg3 ?_
      refine s_aload_n (pc' := 6) dX3_othersWith_5 rfl lg0 rfl ?_
      refine s_getI (pc' := 9) dX3_othersWith_6 rfl flX3_33 (lyS hb) (by decide) rfl ?_
      refine s_icmp_ge (pc' := 12) (tgt := 41) dX3_othersWith_9 rfl (by decide) (fun c9 => absurd c9 (by rw [hn]; exact nI_ge (by omega) (by omega))) (fun _ => ?_)
      refine s_iload_n (pc' := 13) dX3_othersWith_12 rfl lg3 ?_
      refine s_iload_n (pc' := 14) dX3_othersWith_13 rfl lg1 ?_
      refine s_icmp_eq (pc' := 17) (tgt := 35) dX3_othersWith_14 rfl (by decide) (fun c3 => ?_) (fun c3 => ?_)
      · refine s_iincN (pc' := 38) dX3_othersWith_35 rfl lg3 rfl ls3 ?_
        refine s_goto (tgt := 4) dX3_othersWith_38 (by decide) ?_
        (try rw [nI_eqN (by omega) (by omega)] at *); exact ih (i + 1) _ (by omega) (by simp [ct, ha, c3])
      · refine s_aload_n (pc' := 18) dX3_othersWith_17 rfl lg0 rfl ?_
        refine s_getRv (pc' := 21) (v := .ref (b + 3)) dX3_othersWith_18 rfl flX3_18 (lyS hb) (by decide) rfl rfl ?_
        refine s_iload_n (pc' := 22) dX3_othersWith_21 rfl lg3 ?_
        refine s_ialdN (pc' := 23) dX3_othersWith_22 rfl (lyS3 hb) (by omega) (by decide) ?_
        refine s_aload_n (pc' := 24) dX3_othersWith_23 rfl lg0 rfl ?_
        refine s_getRv (pc' := 27) (v := .ref (b + 3)) dX3_othersWith_24 rfl flX3_18 (lyS hb) (by decide) rfl rfl ?_
        refine s_iload_n (pc' := 28) dX3_othersWith_27 rfl lg1 ?_
        refine s_ialdN (pc' := 29) dX3_othersWith_28 rfl (lyS3 hb) (by omega) (by decide) ?_
        refine s_icmp_ne (pc' := 32) (tgt := 35) dX3_othersWith_29 rfl (by decide) (fun c4 => ?_) (fun c4 => ?_)
        · refine s_iincN (pc' := 38) dX3_othersWith_35 rfl lg3 rfl ls3 ?_
          refine s_goto (tgt := 4) dX3_othersWith_38 (by decide) ?_
          (try rw [nI_eqN (by omega) (by omega)] at *); exact ih (i + 1) _ (by omega) (by simp [ct, ha, c3, c4])
        · refine s_iincN (pc' := 35) dX3_othersWith_32 rfl lg2 rfl ls2 ?_
          refine s_iincN (pc' := 38) dX3_othersWith_35 rfl lg3 rfl ls3 ?_
          refine s_goto (tgt := 4) dX3_othersWith_38 (by decide) ?_
          (try rw [nI_eqN (by omega) (by omega)] at *); exact ih (i + 1) _ (by omega) (by simp [ct, ha, c3, c4])
  exact loop n 0 0 (by omega) rfl
theorem c_X3_othersWith {z : Zz} {d kc ks : Nat} {mi : MI} {pc pc' : Nat} {L S : List Value} {Q : Option Value → Lay → Mem → Prop} {rf : Nat → Value} {tl : Lay} {mem : Mem}  {b n p : Nat} {idx : Nat} (hd : decode mi.2.1 pc = .ok (.invokevirtual idx, 3)) (hp : pc + 3 = pc') (hlk : Cond.methodLink mi.1.cls idx yX3_othersWith ∈ wok) (hdd : 0 + 1 ≤ d) (hcat : (S.map (fun v => v.category)).sum ≤ 8) (hb : ISh b) (hn : mem b 8 = nI n) (h8 : n ≤ 8) (hpn : p < n) (K :  Sim z d kc ks mi pc' L (.int (nI (ct (fun i => !decide (i = p) && decide (mem (b + 3) i = mem (b + 3) p)) n)) :: S) (LAY rf tl) mem Q) : Sim z d kc ks mi pc L (.int (nI p) :: .ref b :: S) (LAY rf tl) mem Q :=
  s_invV (d2 := 0) hd hp okX3_othersWith hlk inX3_othersWith seX3_othersWith hdd (Nat.zero_add _) (Nat.zero_add _) rfl rfl (lyS hb) rfl hcat (Nat.le_of_ble_eq_true rfl) (m_X3_othersWith (Nat.le_refl _) hb hn h8 hpn K)
set_option maxHeartbeats 4000000 in
theorem m_X3_hurtsAt {z : Zz} {d : Nat} {Q : Option Value → Lay → Mem → Prop} {rf : Nat → Value} {tl : Lay} {mem : Mem}  {b n : Nat} {w : Int32} (hdd : 0 ≤ d) (hb : ISh b) (hn : mem b 8 = nI n) (h8 : n ≤ 8) (K :  Q (some (.int (if 0 < ct (fun i => decide (mem (b + 3) i = w) && !decide (mem (b + 2) i ≤ 30)) n then 1 else 0))) (LAY rf tl) mem) : Sim z d 0 0 mX3_hurtsAt 0 [.ref b, .int w, .float 0] [] (LAY rf tl) mem Q := by
  refine s_iconst (pc' := 1) dX3_hurtsAt_0 rfl iconst_0 ?_
  refine s_istore_n (pc' := 2) dX3_hurtsAt_1 rfl (Nat.le_of_ble_eq_true rfl) rfl ls2 ?_
  have loop : ∀ (k i : Nat), i + k = n → ct (fun i => decide (mem (b + 3) i = w) && !decide (mem (b + 2) i ≤ 30)) i = 0 → Sim z d 0 0 mX3_hurtsAt 2 [.ref b, .int w, .int (nI i)] [] (LAY rf tl) mem Q := by
    intro k
    induction k with
    | zero =>
      intro i hi ha
      refine s_iload_n (pc' := 3) dX3_hurtsAt_2 rfl lg2 ?_
      refine s_aload_n (pc' := 4) dX3_hurtsAt_3 rfl lg0 rfl ?_
      refine s_getI (pc' := 7) dX3_hurtsAt_4 rfl flX3_33 (lyS hb) (by decide) rfl ?_
      refine s_icmp_ge (pc' := 10) (tgt := 39) dX3_hurtsAt_7 rfl (by decide) (fun _ => ?_) (fun c9 => absurd (by rw [hn]; exact nI_le (by omega) (by omega)) c9)
      refine s_iconst (pc' := 40) dX3_hurtsAt_39 rfl iconst_0 ?_
      refine s_iret dX3_hurtsAt_40 rfl (by decide) ?_
      have : i = n := by omega
      rw [← this, ha] at K
      simpa using K
    | succ k ih =>
      intro i hi ha
      refine s_iload_n (pc' := 3) dX3_hurtsAt_2 rfl lg2 ?_
      refine s_aload_n (pc' := 4) dX3_hurtsAt_3 rfl lg0 rfl ?_
      refine s_getI (pc' := 7) dX3_hurtsAt_4 rfl flX3_33 (lyS hb) (by decide) rfl ?_
      refine s_icmp_ge (pc' := 10) (tgt := 39) dX3_hurtsAt_7 rfl (by decide) (fun c9 => absurd c9 (by rw [hn]; exact nI_ge (by omega) (by omega))) (fun _ => ?_)
      refine s_aload_n (pc' := 11) dX3_hurtsAt_10 rfl lg0 rfl ?_
      refine s_getRv (pc' := 14) (v := .ref (b + 3)) dX3_hurtsAt_11 rfl flX3_18 (lyS hb) (by decide) rfl rfl ?_
      refine s_iload_n (pc' := 15) dX3_hurtsAt_14 rfl lg2 ?_
      refine s_ialdN (pc' := 16) dX3_hurtsAt_15 rfl (lyS3 hb) (by omega) (by decide) ?_
      refine s_iload_n (pc' := 17) dX3_hurtsAt_16 rfl lg1 ?_
      refine s_icmp_ne (pc' := 20) (tgt := 33) dX3_hurtsAt_17 rfl (by decide) (fun c5 => ?_) (fun c5 => ?_)
      · refine s_iincN (pc' := 36) dX3_hurtsAt_33 rfl lg2 rfl ls2 ?_
        refine s_goto (tgt := 2) dX3_hurtsAt_36 (by decide) ?_
        exact ih (i + 1) (by omega) (by simp [ct, ha, c5])
      · refine s_aload_n (pc' := 21) dX3_hurtsAt_20 rfl lg0 rfl ?_
        refine s_getRv (pc' := 24) (v := .ref (b + 2)) dX3_hurtsAt_21 rfl flX3_15 (lyS hb) (by decide) rfl rfl ?_
        refine s_iload_n (pc' := 25) dX3_hurtsAt_24 rfl lg2 ?_
        refine s_ialdN (pc' := 26) dX3_hurtsAt_25 rfl (lyS2 hb) (by omega) (by decide) ?_
        refine s_bipush (pc' := 28) dX3_hurtsAt_26 rfl bipush_30 ?_
        refine s_icmp_le (pc' := 31) (tgt := 33) dX3_hurtsAt_28 rfl (by decide) (fun c6 => ?_) (fun c6 => ?_)
        · refine s_iincN (pc' := 36) dX3_hurtsAt_33 rfl lg2 rfl ls2 ?_
          refine s_goto (tgt := 2) dX3_hurtsAt_36 (by decide) ?_
          exact ih (i + 1) (by omega) (by simp [ct, ha, c5, c6])
        · refine s_iconst (pc' := 32) dX3_hurtsAt_31 rfl iconst_1 ?_
          refine s_iret dX3_hurtsAt_32 rfl (by decide) ?_
          (rw [if_pos (by have h1 : 0 < ct (fun i => decide (mem (b + 3) i = w) && !decide (mem (b + 2) i ≤ 30)) (i + 1) := (by simp [ct, c5, c6]); exact Nat.lt_of_lt_of_le h1 (ct_mono _ (by omega)))] at K; exact K)
  exact loop n 0 (by omega) rfl
theorem c_X3_hurtsAt {z : Zz} {d kc ks : Nat} {mi : MI} {pc pc' : Nat} {L S : List Value} {Q : Option Value → Lay → Mem → Prop} {rf : Nat → Value} {tl : Lay} {mem : Mem}  {b n : Nat} {w : Int32} {idx : Nat} (hd : decode mi.2.1 pc = .ok (.invokevirtual idx, 3)) (hp : pc + 3 = pc') (hlk : Cond.methodLink mi.1.cls idx yX3_hurtsAt ∈ wok) (hdd : 0 + 1 ≤ d) (hcat : (S.map (fun v => v.category)).sum ≤ 8) (hb : ISh b) (hn : mem b 8 = nI n) (h8 : n ≤ 8) (K :  Sim z d kc ks mi pc' L (.int (if 0 < ct (fun i => decide (mem (b + 3) i = w) && !decide (mem (b + 2) i ≤ 30)) n then 1 else 0) :: S) (LAY rf tl) mem Q) : Sim z d kc ks mi pc L (.int w :: .ref b :: S) (LAY rf tl) mem Q :=
  s_invV (d2 := 0) hd hp okX3_hurtsAt hlk inX3_hurtsAt seX3_hurtsAt hdd (Nat.zero_add _) (Nat.zero_add _) rfl rfl (lyS hb) rfl hcat (Nat.le_of_ble_eq_true rfl) (m_X3_hurtsAt (Nat.le_refl _) hb hn h8 K)

