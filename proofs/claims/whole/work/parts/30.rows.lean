/-! ===== Row ===== -/
set_option maxHeartbeats 4000000 in
theorem m_J7_fill_53178 {z : Zz} {d : Nat} {Q : Option Value → Lay → Mem → Prop} {lay : Lay} {mem : Mem} {a len : Nat} {ra : Nat → Value} {x : Int32} (hdd : 0 ≤ d) (ha : lay[a]? = some (8, len, ra)) (hl : len ≤ 1000) (K : ∀ mem', (∀ j, j ≠ a → mem' j = mem j) → (∀ k, k < len → mem' a k = x) → Q none lay mem') : Sim z d 0 0 mJ7_fill_53178 0 [.ref a, .int x, .float 0, .float 0] [] (lay) mem Q := by
  refine s_iconst (pc' := 1) dJ7_fill_53178_0 rfl iconst_0 ?_
  refine s_istore_n (pc' := 2) dJ7_fill_53178_1 rfl (Nat.le_of_ble_eq_true rfl) rfl ls2 ?_
  refine s_aload_n (pc' := 3) dJ7_fill_53178_2 rfl lg0 rfl ?_
  refine s_alen (pc' := 4) dJ7_fill_53178_3 rfl ha (by decide) ?_
  refine s_istore_n (pc' := 5) dJ7_fill_53178_4 rfl (Nat.le_of_ble_eq_true rfl) rfl ls3 ?_
  have loop : ∀ (k i : Nat) (m : Mem), i + k = len → (∀ j, j ≠ a → m j = mem j) → (∀ k, k < i → m a k = x) → Sim z d 0 0 mJ7_fill_53178 5 [.ref a, .int x, .int (nI i), .int (nI len)] [] lay m Q := by
    intro k
    induction k with
    | zero =>
      intro i m hi h1 h2
      refine s_iload_n (pc' := 6) dJ7_fill_53178_5 rfl lg2 ?_
      refine s_iload_n (pc' := 7) dJ7_fill_53178_6 rfl lg3 ?_
      refine s_icmp_ge (pc' := 10) (tgt := 20) dJ7_fill_53178_7 rfl (by decide) (fun _ => ?_) (fun c9 => absurd (nI_le (by omega) (by omega)) c9)
      refine s_vret dJ7_fill_53178_20 rfl ?_
      exact K m h1 (fun k hk => h2 k (by omega))
    | succ k ih =>
      intro i m hi h1 h2
      refine s_iload_n (pc' := 6) dJ7_fill_53178_5 rfl lg2 ?_
      refine s_iload_n (pc' := 7) dJ7_fill_53178_6 rfl lg3 ?_
      refine s_icmp_ge (pc' := 10) (tgt := 20) dJ7_fill_53178_7 rfl (by decide) (fun c9 => absurd c9 (nI_ge (by omega) (by omega))) (fun _ => ?_)
      refine s_aload_n (pc' := 11) dJ7_fill_53178_10 rfl lg0 rfl ?_
      refine s_iload_n (pc' := 12) dJ7_fill_53178_11 rfl lg2 ?_
      refine s_iload_n (pc' := 13) dJ7_fill_53178_12 rfl lg1 ?_
      refine s_iastN (pc' := 14) dJ7_fill_53178_13 rfl ha (by omega) (by omega) ?_
      refine s_iincN (pc' := 17) dJ7_fill_53178_14 rfl lg2 rfl ls2 ?_
      refine s_goto (tgt := 5) dJ7_fill_53178_17 (by decide) ?_
      refine ih (i + 1) _ (by omega) (fun j hj => by simp [am_up, hj]; exact h1 j hj) (fun k hk => ?_)
      by_cases hki : k = i
      · subst hki; simp [am_up, upd]
      · simp [am_up, upd, hki]; exact h2 k (by omega)
  exact loop len 0 mem (by omega) (fun _ _ => rfl) (fun k hk => absurd hk (Nat.not_lt_zero k))
theorem c_J7_fill_53178 {z : Zz} {d kc ks : Nat} {mi : MI} {pc pc' : Nat} {L S : List Value} {Q : Option Value → Lay → Mem → Prop} {lay : Lay} {mem : Mem} {a len : Nat} {ra : Nat → Value} {x : Int32} {idx : Nat} (hd : decode mi.2.1 pc = .ok (.invokestatic idx, 3)) (hp : pc + 3 = pc') (hlk : Cond.methodLink mi.1.cls idx yJ7_fill_53178 ∈ wok) (hdd : 0 + 1 ≤ d) (hcat : (S.map (fun v => v.category)).sum ≤ 8) (ha : lay[a]? = some (8, len, ra)) (hl : len ≤ 1000) (K : ∀ mem', (∀ j, j ≠ a → mem' j = mem j) → (∀ k, k < len → mem' a k = x) → Sim z d kc ks mi pc' L S lay mem' Q) : Sim z d kc ks mi pc L (.int x :: .ref a :: S) (lay) mem Q :=
  s_invS (d2 := 0) hd hp okJ7_fill_53178 hlk stJ7_fill_53178 hdd (Nat.zero_add _) (Nat.zero_add _) rfl rfl hcat (Nat.le_of_ble_eq_true rfl) (m_J7_fill_53178 (Nat.le_refl _) ha hl K)
/-- a sheet: its sort, its size, its items -/
def isR (mem : Mem) (j : Nat) (so : Int32) (sz : Nat) (it : Nat → Int32) : Prop := mem (39 + 2 * j) 1 = so ∧ mem (39 + 2 * j) 2 = nI sz ∧ sz ≤ 40 ∧ ∀ k, k < sz → mem (40 + 2 * j) k = it k
set_option maxHeartbeats 4000000 in
theorem m_X2_isMissing {z : Zz} {d : Nat} {Q : Option Value → Lay → Mem → Prop} {rf : Nat → Value} {tl : Lay} {mem : Mem}  {j : Nat} (hdd : 0 ≤ d) (hj : j < 4) (K :  Q (some (.int (if mem (39 + 2 * j) 1 = -1 then 1 else 0))) (LAY rf tl) mem) : Sim z d 0 0 mX2_isMissing 0 [.ref (39 + 2 * j)] [] (LAY rf tl) mem Q := by
  refine s_aload_n (pc' := 1) dX2_isMissing_0 rfl lg0 rfl ?_
  refine s_getI (pc' := 4) dX2_isMissing_1 rfl flX2_15 (lyR hj) (by decide) rfl ?_
  refine s_iconst (pc' := 5) dX2_isMissing_4 rfl iconst_m1 ?_
  refine s_icmp_ne (pc' := 8) (tgt := 12) dX2_isMissing_5 rfl (by decide) (fun c1 => ?_) (fun c1 => ?_)
  · refine s_iconst (pc' := 13) dX2_isMissing_12 rfl iconst_0 ?_
    refine s_iret dX2_isMissing_13 rfl (by decide) ?_
    (simpa [c1] using K)
  · refine s_iconst (pc' := 9) dX2_isMissing_8 rfl iconst_1 ?_
    refine s_goto (tgt := 13) dX2_isMissing_9 (by decide) ?_
    refine s_iret dX2_isMissing_13 rfl (by decide) ?_
    (simpa [c1] using K)
theorem c_X2_isMissing {z : Zz} {d kc ks : Nat} {mi : MI} {pc pc' : Nat} {L S : List Value} {Q : Option Value → Lay → Mem → Prop} {rf : Nat → Value} {tl : Lay} {mem : Mem}  {j : Nat} {idx : Nat} (hd : decode mi.2.1 pc = .ok (.invokevirtual idx, 3)) (hp : pc + 3 = pc') (hlk : Cond.methodLink mi.1.cls idx yX2_isMissing ∈ wok) (hdd : 0 + 1 ≤ d) (hcat : (S.map (fun v => v.category)).sum ≤ 8) (hj : j < 4) (K :  Sim z d kc ks mi pc' L (.int (if mem (39 + 2 * j) 1 = -1 then 1 else 0) :: S) (LAY rf tl) mem Q) : Sim z d kc ks mi pc L (.ref (39 + 2 * j) :: S) (LAY rf tl) mem Q :=
  s_invV (d2 := 0) hd hp okX2_isMissing hlk inX2_isMissing seX2_isMissing hdd (Nat.zero_add _) (Nat.zero_add _) rfl rfl (lyR hj) rfl hcat (Nat.le_of_ble_eq_true rfl) (m_X2_isMissing (Nat.le_refl _) hj K)
def hasB (from' n sz : Int32) : Int32 := if from' < 0 then 0 else if n < 0 then 0 else if sz < from' then 0 else if sz - from' < n then 0 else 1
set_option maxHeartbeats 4000000 in
theorem m_X2_has {z : Zz} {d : Nat} {Q : Option Value → Lay → Mem → Prop} {rf : Nat → Value} {tl : Lay} {mem : Mem}  {j : Nat} {x y : Int32} (hdd : 0 ≤ d) (hj : j < 4) (K :  Q (some (.int (hasB x y (mem (39 + 2 * j) 2)))) (LAY rf tl) mem) : Sim z d 0 0 mX2_has 0 [.ref (39 + 2 * j), .int x, .int y] [] (LAY rf tl) mem Q := by
  refine s_iload_n (pc' := 1) dX2_has_0 rfl lg1 ?_
  refine s_if_lt (pc' := 4) (tgt := 30) dX2_has_1 rfl (by decide) (fun c2 => ?_) (fun c2 => ?_)
  · refine s_iconst (pc' := 31) dX2_has_30 rfl iconst_0 ?_
    refine s_iret dX2_has_31 rfl (by decide) ?_
    (simpa [hasB, c2] using K)
  · refine s_iload_n (pc' := 5) dX2_has_4 rfl lg2 ?_
    refine s_if_lt (pc' := 8) (tgt := 30) dX2_has_5 rfl (by decide) (fun c3 => ?_) (fun c3 => ?_)
    · refine s_iconst (pc' := 31) dX2_has_30 rfl iconst_0 ?_
      refine s_iret dX2_has_31 rfl (by decide) ?_
      (simpa [hasB, c2, c3] using K)
    · refine s_iload_n (pc' := 9) dX2_has_8 rfl lg1 ?_
      refine s_aload_n (pc' := 10) dX2_has_9 rfl lg0 rfl ?_
      refine s_getI (pc' := 13) dX2_has_10 rfl flX2_19 (lyR hj) (by decide) rfl ?_
      refine s_icmp_gt (pc' := 16) (tgt := 30) dX2_has_13 rfl (by decide) (fun c4 => ?_) (fun c4 => ?_)
      · refine s_iconst (pc' := 31) dX2_has_30 rfl iconst_0 ?_
        refine s_iret dX2_has_31 rfl (by decide) ?_
        (simpa [hasB, c2, c3, c4] using K)
      · refine s_iload_n (pc' := 17) dX2_has_16 rfl lg2 ?_
        refine s_aload_n (pc' := 18) dX2_has_17 rfl lg0 rfl ?_
        refine s_getI (pc' := 21) dX2_has_18 rfl flX2_19 (lyR hj) (by decide) rfl ?_
        refine s_iload_n (pc' := 22) dX2_has_21 rfl lg1 ?_
        refine s_isub (pc' := 23) dX2_has_22 rfl ?_
        refine s_icmp_gt (pc' := 26) (tgt := 30) dX2_has_23 rfl (by decide) (fun c5 => ?_) (fun c5 => ?_)
        · refine s_iconst (pc' := 31) dX2_has_30 rfl iconst_0 ?_
          refine s_iret dX2_has_31 rfl (by decide) ?_
          (simpa [hasB, c2, c3, c4, c5] using K)
        · refine s_iconst (pc' := 27) dX2_has_26 rfl iconst_1 ?_
          refine s_goto (tgt := 31) dX2_has_27 (by decide) ?_
          refine s_iret dX2_has_31 rfl (by decide) ?_
          (simpa [hasB, c2, c3, c4, c5] using K)
theorem c_X2_has {z : Zz} {d kc ks : Nat} {mi : MI} {pc pc' : Nat} {L S : List Value} {Q : Option Value → Lay → Mem → Prop} {rf : Nat → Value} {tl : Lay} {mem : Mem}  {j : Nat} {x y : Int32} {idx : Nat} (hd : decode mi.2.1 pc = .ok (.invokevirtual idx, 3)) (hp : pc + 3 = pc') (hlk : Cond.methodLink mi.1.cls idx yX2_has ∈ wok) (hdd : 0 + 1 ≤ d) (hcat : (S.map (fun v => v.category)).sum ≤ 8) (hj : j < 4) (K :  Sim z d kc ks mi pc' L (.int (hasB x y (mem (39 + 2 * j) 2)) :: S) (LAY rf tl) mem Q) : Sim z d kc ks mi pc L (.int y :: .int x :: .ref (39 + 2 * j) :: S) (LAY rf tl) mem Q :=
  s_invV (d2 := 0) hd hp okX2_has hlk inX2_has seX2_has hdd (Nat.zero_add _) (Nat.zero_add _) rfl rfl (lyR hj) rfl hcat (Nat.le_of_ble_eq_true rfl) (m_X2_has (Nat.le_refl _) hj K)
set_option maxHeartbeats 4000000 in
theorem m_X2_isAllIn {z : Zz} {d : Nat} {Q : Option Value → Lay → Mem → Prop} {rf : Nat → Value} {tl : Lay} {mem : Mem}  {j sz : Nat} {lo hh : Int32} (hdd : 1 ≤ d) (hj : j < 4) (hsz : mem (39 + 2 * j) 2 = nI sz) (h40 : sz ≤ 40) (K :  Q (some (.int (if ct (fun k => decide (inB (mem (40 + 2 * j) k) lo hh = 0)) sz = 0 then 1 else 0))) (LAY rf tl) mem) : Sim z d 0 0 mX2_isAllIn 0 [.ref (39 + 2 * j), .int lo, .int hh, .float 0] [] (LAY rf tl) mem Q := by
  refine s_iconst (pc' := 1) dX2_isAllIn_0 rfl iconst_0 ?_
  refine s_istore_n (pc' := 2) dX2_isAllIn_1 rfl (Nat.le_of_ble_eq_true rfl) rfl ls3 ?_
  have loop : ∀ (k i : Nat), i + k = sz → ct (fun k => decide (inB (mem (40 + 2 * j) k) lo hh = 0)) i = 0 → Sim z d 0 0 mX2_isAllIn 2 [.ref (39 + 2 * j), .int lo, .int hh, .int (nI i)] [] (LAY rf tl) mem Q := by
    intro k
    induction k with
    | zero =>
      intro i hi h0
      have : i = sz := by omega
      subst this
      rw [if_pos h0] at K
      refine s_iload_n (pc' := 3) dX2_isAllIn_2 rfl lg3 ?_
      refine s_aload_n (pc' := 4) dX2_isAllIn_3 rfl lg0 rfl ?_
      refine s_getI (pc' := 7) dX2_isAllIn_4 rfl flX2_19 (lyR hj) (by decide) rfl ?_
      refine s_icmp_ge (pc' := 10) (tgt := 32) dX2_isAllIn_7 rfl (by decide) (fun _ => ?_) (fun c9 => absurd (by rw [hsz]; exact nI_le (by omega) (by omega)) c9)
      refine s_iconst (pc' := 33) dX2_isAllIn_32 rfl iconst_1 ?_
      refine s_iret dX2_isAllIn_33 rfl (by decide) ?_
      exact K
    | succ k ih =>
      intro i hi h0
      refine s_iload_n (pc' := 3) dX2_isAllIn_2 rfl lg3 ?_
      refine s_aload_n (pc' := 4) dX2_isAllIn_3 rfl lg0 rfl ?_
      refine s_getI (pc' := 7) dX2_isAllIn_4 rfl flX2_19 (lyR hj) (by decide) rfl ?_
      refine s_icmp_ge (pc' := 10) (tgt := 32) dX2_isAllIn_7 rfl (by decide) (fun c9 => absurd c9 (by rw [hsz]; exact nI_ge (by omega) (by omega))) (fun _ => ?_)
      refine s_aload_n (pc' := 11) dX2_isAllIn_10 rfl lg0 rfl ?_
      refine s_getRv (pc' := 14) (v := .ref (40 + 2 * j)) dX2_isAllIn_11 rfl flX2_9 (lyR hj) (by decide) rfl rfl ?_
      refine s_iload_n (pc' := 15) dX2_isAllIn_14 rfl lg3 ?_
      refine s_ialdN (pc' := 16) dX2_isAllIn_15 rfl (lyRi hj) (by omega) (by decide) ?_
      refine s_iload_n (pc' := 17) dX2_isAllIn_16 rfl lg1 ?_
      refine s_iload_n (pc' := 18) dX2_isAllIn_17 rfl lg2 ?_
      refine cN_X6_isIn (pc' := 21) dX2_isAllIn_18 rfl (by decide) (by omega) (Nat.le_of_ble_eq_true rfl)  ?_
      refine s_if_ne (pc' := 24) (tgt := 26) dX2_isAllIn_21 rfl (by decide) (fun c6 => ?_) (fun c6 => ?_)
      · refine s_iincN (pc' := 29) dX2_isAllIn_26 rfl lg3 rfl ls3 ?_
        refine s_goto (tgt := 2) dX2_isAllIn_29 (by decide) ?_
        exact ih (i + 1) (by omega) (by simp [ct, h0, c6])
      · refine s_iconst (pc' := 25) dX2_isAllIn_24 rfl iconst_0 ?_
        refine s_iret dX2_isAllIn_25 rfl (by decide) ?_
        (rw [if_neg (by have h1 : 0 < ct (fun k => decide (inB (mem (40 + 2 * j) k) lo hh = 0)) (i + 1) := (by simp [ct, c6]); have := ct_mono (fun k => decide (inB (mem (40 + 2 * j) k) lo hh = 0)) (show i + 1 ≤ sz by omega); omega)] at K; exact K)
  exact loop sz 0 (by omega) rfl
theorem c_X2_isAllIn {z : Zz} {d kc ks : Nat} {mi : MI} {pc pc' : Nat} {L S : List Value} {Q : Option Value → Lay → Mem → Prop} {rf : Nat → Value} {tl : Lay} {mem : Mem}  {j sz : Nat} {lo hh : Int32} {idx : Nat} (hd : decode mi.2.1 pc = .ok (.invokevirtual idx, 3)) (hp : pc + 3 = pc') (hlk : Cond.methodLink mi.1.cls idx yX2_isAllIn ∈ wok) (hdd : 1 + 1 ≤ d) (hcat : (S.map (fun v => v.category)).sum ≤ 8) (hj : j < 4) (hsz : mem (39 + 2 * j) 2 = nI sz) (h40 : sz ≤ 40) (K :  Sim z d kc ks mi pc' L (.int (if ct (fun k => decide (inB (mem (40 + 2 * j) k) lo hh = 0)) sz = 0 then 1 else 0) :: S) (LAY rf tl) mem Q) : Sim z d kc ks mi pc L (.int hh :: .int lo :: .ref (39 + 2 * j) :: S) (LAY rf tl) mem Q :=
  s_invV (d2 := 1) hd hp okX2_isAllIn hlk inX2_isAllIn seX2_isAllIn hdd (Nat.zero_add _) (Nat.zero_add _) rfl rfl (lyR hj) rfl hcat (Nat.le_of_ble_eq_true rfl) (m_X2_isAllIn (Nat.le_refl _) hj hsz h40 K)
def cutI (so v : Int32) : Int32 := if so = 0 then v.toInt8.toInt32 else if so = 1 then v.toInt16.toInt32 else v
set_option maxHeartbeats 4000000 in
theorem m_X2_puts {z : Zz} {d : Nat} {Q : Option Value → Lay → Mem → Prop} {rf : Nat → Value} {tl : Lay} {mem : Mem}  {j i : Nat} {v : Int32} (hdd : 0 ≤ d) (hj : j < 4) (hi40 : i < 40) (K :  Q none (LAY rf tl) (am_up mem (40 + 2 * j) i (cutI (mem (39 + 2 * j) 1) v))) : Sim z d 0 0 mX2_puts 0 [.ref (39 + 2 * j), .int (nI i), .int v] [] (LAY rf tl) mem Q := by
  refine s_aload_n (pc' := 1) dX2_puts_0 rfl lg0 rfl ?_
  refine s_getI (pc' := 4) dX2_puts_1 rfl flX2_15 (lyR hj) (by decide) rfl ?_
  refine s_if_ne (pc' := 7) (tgt := 18) dX2_puts_4 rfl (by decide) (fun c7 => ?_) (fun c7 => ?_)
  · refine s_aload_n (pc' := 19) dX2_puts_18 rfl lg0 rfl ?_
    refine s_getI (pc' := 22) dX2_puts_19 rfl flX2_15 (lyR hj) (by decide) rfl ?_
    refine s_iconst (pc' := 23) dX2_puts_22 rfl iconst_1 ?_
    refine s_icmp_ne (pc' := 26) (tgt := 37) dX2_puts_23 rfl (by decide) (fun c8 => ?_) (fun c8 => ?_)
    · refine s_aload_n (pc' := 38) dX2_puts_37 rfl lg0 rfl ?_
      refine s_getRv (pc' := 41) (v := .ref (40 + 2 * j)) dX2_puts_38 rfl flX2_9 (lyR hj) (by decide) rfl rfl ?_
      refine s_iload_n (pc' := 42) dX2_puts_41 rfl lg1 ?_
      refine s_iload_n (pc' := 43) dX2_puts_42 rfl lg2 ?_
      refine s_iastN (pc' := 44) dX2_puts_43 rfl (lyRi hj) (by omega) (by decide) ?_
      refine s_vret dX2_puts_44 rfl ?_
      (simpa [cutI, c7, c8] using K)
    · refine s_aload_n (pc' := 27) dX2_puts_26 rfl lg0 rfl ?_
      refine s_getRv (pc' := 30) (v := .ref (40 + 2 * j)) dX2_puts_27 rfl flX2_9 (lyR hj) (by decide) rfl rfl ?_
      refine s_iload_n (pc' := 31) dX2_puts_30 rfl lg1 ?_
      refine s_iload_n (pc' := 32) dX2_puts_31 rfl lg2 ?_
      refine s_i2s (pc' := 33) dX2_puts_32 rfl ?_
      refine s_iastN (pc' := 34) dX2_puts_33 rfl (lyRi hj) (by omega) (by decide) ?_
      refine s_goto (tgt := 44) dX2_puts_34 (by decide) ?_
      refine s_vret dX2_puts_44 rfl ?_
      (simpa [cutI, c7, c8] using K)
  · refine s_aload_n (pc' := 8) dX2_puts_7 rfl lg0 rfl ?_
    refine s_getRv (pc' := 11) (v := .ref (40 + 2 * j)) dX2_puts_8 rfl flX2_9 (lyR hj) (by decide) rfl rfl ?_
    refine s_iload_n (pc' := 12) dX2_puts_11 rfl lg1 ?_
    refine s_iload_n (pc' := 13) dX2_puts_12 rfl lg2 ?_
    refine s_i2b (pc' := 14) dX2_puts_13 rfl ?_
    refine s_iastN (pc' := 15) dX2_puts_14 rfl (lyRi hj) (by omega) (by decide) ?_
    refine s_goto (tgt := 44) dX2_puts_15 (by decide) ?_
    refine s_vret dX2_puts_44 rfl ?_
    (simpa [cutI, c7] using K)
theorem c_X2_puts {z : Zz} {d kc ks : Nat} {mi : MI} {pc pc' : Nat} {L S : List Value} {Q : Option Value → Lay → Mem → Prop} {rf : Nat → Value} {tl : Lay} {mem : Mem}  {j i : Nat} {v : Int32} {idx : Nat} (hd : decode mi.2.1 pc = .ok (.invokevirtual idx, 3)) (hp : pc + 3 = pc') (hlk : Cond.methodLink mi.1.cls idx yX2_puts ∈ wok) (hdd : 0 + 1 ≤ d) (hcat : (S.map (fun v => v.category)).sum ≤ 8) (hj : j < 4) (hi40 : i < 40) (K :  Sim z d kc ks mi pc' L S (LAY rf tl) (am_up mem (40 + 2 * j) i (cutI (mem (39 + 2 * j) 1) v)) Q) : Sim z d kc ks mi pc L (.int v :: .int (nI i) :: .ref (39 + 2 * j) :: S) (LAY rf tl) mem Q :=
  s_invV (d2 := 0) hd hp okX2_puts hlk inX2_puts seX2_puts hdd (Nat.zero_add _) (Nat.zero_add _) rfl rfl (lyR hj) rfl hcat (Nat.le_of_ble_eq_true rfl) (m_X2_puts (Nat.le_refl _) hj hi40 K)
set_option maxHeartbeats 4000000 in
theorem m_X2_becomes {z : Zz} {d : Nat} {Q : Option Value → Lay → Mem → Prop} {rf : Nat → Value} {tl : Lay} {mem : Mem}  {j : Nat} {so sz : Int32} (hdd : 1 ≤ d) (hj : j < 4) (K : ∀ mem', (∀ q, q ≠ 39 + 2 * j → q ≠ 40 + 2 * j → mem' q = mem q) → mem' (39 + 2 * j) 1 = so → mem' (39 + 2 * j) 2 = sz → (∀ k, k < 40 → mem' (40 + 2 * j) k = 0) → Q none (LAY rf tl) mem') : Sim z d 0 0 mX2_becomes 0 [.ref (39 + 2 * j), .int so, .int sz] [] (LAY rf tl) mem Q := by
  refine s_aload_n (pc' := 1) dX2_becomes_0 rfl lg0 rfl ?_
  refine s_iload_n (pc' := 2) dX2_becomes_1 rfl lg1 ?_
  refine s_putI (pc' := 5) (ty := .int) dX2_becomes_2 rfl flX2_15 fw2_1 pdI rfl rfl (lyR hj) (by decide) rfl ?_
  refine s_aload_n (pc' := 6) dX2_becomes_5 rfl lg0 rfl ?_
  refine s_iload_n (pc' := 7) dX2_becomes_6 rfl lg2 ?_
  refine s_putI (pc' := 10) (ty := .int) dX2_becomes_7 rfl flX2_19 fw2_2 pdI rfl rfl (lyR hj) (by decide) rfl ?_
  refine s_aload_n (pc' := 11) dX2_becomes_10 rfl lg0 rfl ?_
  refine s_getRv (pc' := 14) (v := .ref (40 + 2 * j)) dX2_becomes_11 rfl flX2_9 (lyR hj) (by decide) rfl rfl ?_
  refine s_iconst (pc' := 15) dX2_becomes_14 rfl iconst_0 ?_
  refine c_J7_fill_53178  (pc' := 18) dX2_becomes_15 rfl lkX2_22 (by omega) (Nat.le_of_ble_eq_true rfl) (lyRi hj) (by decide) (fun m1 h1 h2 => ?_)
  refine s_vret dX2_becomes_18 rfl ?_
  have e : (39 + 2 * j) ≠ 40 + 2 * j := by omega
  refine K m1 (fun q q1 q2 => ?_) ?_ ?_ h2
  · rw [h1 q q2]; simp [am_up, q1]
  · rw [h1 _ e]; simp [am_up, upd]
  · rw [h1 _ e]; simp [am_up, upd]
theorem c_X2_becomes {z : Zz} {d kc ks : Nat} {mi : MI} {pc pc' : Nat} {L S : List Value} {Q : Option Value → Lay → Mem → Prop} {rf : Nat → Value} {tl : Lay} {mem : Mem}  {j : Nat} {so sz : Int32} {idx : Nat} (hd : decode mi.2.1 pc = .ok (.invokevirtual idx, 3)) (hp : pc + 3 = pc') (hlk : Cond.methodLink mi.1.cls idx yX2_becomes ∈ wok) (hdd : 1 + 1 ≤ d) (hcat : (S.map (fun v => v.category)).sum ≤ 8) (hj : j < 4) (K : ∀ mem', (∀ q, q ≠ 39 + 2 * j → q ≠ 40 + 2 * j → mem' q = mem q) → mem' (39 + 2 * j) 1 = so → mem' (39 + 2 * j) 2 = sz → (∀ k, k < 40 → mem' (40 + 2 * j) k = 0) → Sim z d kc ks mi pc' L S (LAY rf tl) mem' Q) : Sim z d kc ks mi pc L (.int sz :: .int so :: .ref (39 + 2 * j) :: S) (LAY rf tl) mem Q :=
  s_invV (d2 := 1) hd hp okX2_becomes hlk inX2_becomes seX2_becomes hdd (Nat.zero_add _) (Nat.zero_add _) rfl rfl (lyR hj) rfl hcat (Nat.le_of_ble_eq_true rfl) (m_X2_becomes (Nat.le_refl _) hj K)
def othN (σ : Nat → Nat → Int32) (n : Nat) (td : Int32) (P : Nat → List Int32) (a : Nat) (it : Nat → Int32) (sz : Nat) : Nat := fk (fun i => !decide (sg n P σ td i 2 a = it i)) sz
def othR (σ : Nat → Nat → Int32) (n : Nat) (td : Int32) (P : Nat → List Int32) (a : Nat) (it : Nat → Int32) (sz : Nat) : Int32 := if othN σ n td P a it sz < sz then nI (othN σ n td P a it sz) else -1
set_option maxHeartbeats 4000000 in
theorem m_X6_firstOtherwise {z : Zz} {d : Nat} {Q : Option Value → Lay → Mem → Prop} {rf : Nat → Value} {tl : Lay} {mem : Mem}  {j n w nt a sz : Nat} {σ : Nat → Nat → Int32} {td so : Int32} {it : Nat → Int32} {T : Nat → Nat → List Int32} (hdd : 4 ≤ d) (hj : j < 4) (hS : isS 18 mem σ n td (nI w)) (hT : isTT rf tl mem nt T) (hw : w < nt) (ha : a < n) (hR : isR mem j so sz it) (K : ∀ mem', thf mem mem' → Q (some (.int (othR σ n td (T w) a it sz))) (LAY rf tl) mem') : Sim z d 0 0 mX6_firstOtherwise 0 [.ref 0, .ref (39 + 2 * j), .int (nI a), .float 0] [] (LAY rf tl) mem Q := by
  have h8 := hS.2.1
  have h40 := hR.2.2.1
  refine s_iconst (pc' := 1) dX6_firstOtherwise_0 rfl iconst_0 ?_
  refine s_istore_n (pc' := 2) dX6_firstOtherwise_1 rfl (Nat.le_of_ble_eq_true rfl) rfl ls3 ?_
  have loop : ∀ (k i : Nat) (m : Mem), i + k = sz → isS 18 m (sg n (T w) σ td i) n (td + nI i) (nI w) → thf mem m → (∀ q, q < i → (!decide (sg n (T w) σ td q 2 a = it q)) = false) → Sim z d 0 0 mX6_firstOtherwise 2 [.ref 0, .ref (39 + 2 * j), .int (nI a), .int (nI i)] [] (LAY rf tl) m Q := by
    intro k
    induction k with
    | zero =>
      intro i m hi hSm hm hno
      have hic : i = sz := by omega
      subst hic
      have K2 := K m hm
      rw [othR, othN, fk_none hno, if_neg (by omega)] at K2
      have hsz : m (39 + 2 * j) 2 = nI i := by rw [hm _ (by omega) (by omega) (by omega)]; exact hR.2.1
      refine s_iload_n (pc' := 3) dX6_firstOtherwise_2 rfl lg3 ?_
      refine s_aload_n (pc' := 4) dX6_firstOtherwise_3 rfl lg1 rfl ?_
      refine s_getI (pc' := 7) dX6_firstOtherwise_4 rfl flX6_156 (lyR hj) (by decide) rfl ?_
      refine s_icmp_ge (pc' := 10) (tgt := 43) dX6_firstOtherwise_7 rfl (by decide) (fun _ => ?_) (fun c9 => absurd (by rw [hsz]; exact nI_le (by omega) (by omega)) c9)
      refine s_iconst (pc' := 44) dX6_firstOtherwise_43 rfl iconst_m1 ?_
      refine s_iret dX6_firstOtherwise_44 rfl (vp_nar_int _) ?_
      exact K2
    | succ k ih =>
      intro i m hi hSm hm hno
      have hsz : m (39 + 2 * j) 2 = nI sz := by rw [hm _ (by omega) (by omega) (by omega)]; exact hR.2.1
      have ea := (hSm.2.2.2.2 a ha).2.2.1
      have ei : m (40 + 2 * j) i = it i := by rw [hm _ (by omega) (by omega) (by omega)]; exact hR.2.2.2 i (by omega)
      refine s_iload_n (pc' := 3) dX6_firstOtherwise_2 rfl lg3 ?_
      refine s_aload_n (pc' := 4) dX6_firstOtherwise_3 rfl lg1 rfl ?_
      refine s_getI (pc' := 7) dX6_firstOtherwise_4 rfl flX6_156 (lyR hj) (by decide) rfl ?_
      refine s_icmp_ge (pc' := 10) (tgt := 43) dX6_firstOtherwise_7 rfl (by decide) (fun c9 => absurd c9 (by rw [hsz]; exact nI_ge (by omega) (by omega))) (fun _ => ?_)
      refine s_aload_n (pc' := 11) dX6_firstOtherwise_10 rfl lg0 rfl ?_
      refine s_getRv (pc' := 14) (v := .ref 18) dX6_firstOtherwise_11 rfl flX6_32 ly0 (by decide) rfl rfl ?_
      refine s_getRv (pc' := 17) (v := .ref 20) dX6_firstOtherwise_14 rfl flX6_124 ly18 (by decide) rfl rfl ?_
      refine s_iload_n (pc' := 18) dX6_firstOtherwise_17 rfl lg2 ?_
      refine s_ialdNv (pc' := 19) (v := sg n (T w) σ td i 2 a) dX6_firstOtherwise_18 rfl ly20 (by omega) (by decide) ea ?_
      refine s_aload_n (pc' := 20) dX6_firstOtherwise_19 rfl lg1 rfl ?_
      refine s_getRv (pc' := 23) (v := .ref (40 + 2 * j)) dX6_firstOtherwise_20 rfl flX6_157 (lyR hj) (by decide) rfl rfl ?_
      refine s_iload_n (pc' := 24) dX6_firstOtherwise_23 rfl lg3 ?_
      refine s_ialdNv (pc' := 25) (v := it i) dX6_firstOtherwise_24 rfl (lyRi hj) (by omega) (by decide) ei ?_
      refine s_icmp_eq (pc' := 28) (tgt := 30) dX6_firstOtherwise_25 rfl (by decide) (fun c1 => ?_) (fun c1 => ?_)
      · skip
        refine s_aload_n (pc' := 31) dX6_firstOtherwise_30 rfl lg0 rfl ?_
        refine s_getRv (pc' := 34) (v := .ref 18) dX6_firstOtherwise_31 rfl flX6_32 ly0 (by decide) rfl rfl ?_
        refine c_X3_passes (b := 18) (pc' := 37) dX6_firstOtherwise_34 rfl lkX6_113 (by omega) (Nat.le_of_ble_eq_true rfl) (Or.inr (Or.inl rfl)) hSm (hT.thf hm) hw (fun m2 h2 f2 => ?_)
        refine s_iincN (pc' := 40) dX6_firstOtherwise_37 rfl lg3 rfl ls3 ?_
        refine s_goto (tgt := 2) dX6_firstOtherwise_40 (by decide) ?_
        refine ih (i + 1) m2 (by omega) ?_ (hm.tr (thf.of_frm f2)) (fun q hq => ?_)
        · rw [sg_succ, ← td_succ]
          exact h2
        · rcases Nat.lt_or_ge q i with q1 | q1
          · exact hno q q1
          · have : q = i := by omega
            rw [this, decide_eq_true c1]; rfl
      · skip
        have e := fk_at (m := sz) hno (by rw [decide_eq_false c1]; rfl) (by omega)
        have K2 := K m hm
        rw [othR, othN, e, if_pos (by omega)] at K2
        refine s_iload_n (pc' := 29) dX6_firstOtherwise_28 rfl lg3 ?_
        refine s_iret dX6_firstOtherwise_29 rfl (vp_nar_int _) ?_
        exact K2
  exact loop sz 0 mem (by omega) (by rw [td_0]; exact hS) thf.rf (fun j hj => absurd hj (Nat.not_lt_zero j))
theorem c_X6_firstOtherwise {z : Zz} {d kc ks : Nat} {mi : MI} {pc pc' : Nat} {L S : List Value} {Q : Option Value → Lay → Mem → Prop} {rf : Nat → Value} {tl : Lay} {mem : Mem}  {j n w nt a sz : Nat} {σ : Nat → Nat → Int32} {td so : Int32} {it : Nat → Int32} {T : Nat → Nat → List Int32} {idx : Nat} (hd : decode mi.2.1 pc = .ok (.invokevirtual idx, 3)) (hp : pc + 3 = pc') (hlk : Cond.methodLink mi.1.cls idx yX6_firstOtherwise ∈ wok) (hdd : 4 + 1 ≤ d) (hcat : (S.map (fun v => v.category)).sum ≤ 8) (hj : j < 4) (hS : isS 18 mem σ n td (nI w)) (hT : isTT rf tl mem nt T) (hw : w < nt) (ha : a < n) (hR : isR mem j so sz it) (K : ∀ mem', thf mem mem' → Sim z d kc ks mi pc' L (.int (othR σ n td (T w) a it sz) :: S) (LAY rf tl) mem' Q) : Sim z d kc ks mi pc L (.int (nI a) :: .ref (39 + 2 * j) :: .ref 0 :: S) (LAY rf tl) mem Q :=
  s_invV (d2 := 4) hd hp okX6_firstOtherwise hlk inX6_firstOtherwise seX6_firstOtherwise hdd (Nat.zero_add _) (Nat.zero_add _) rfl rfl ly0 rfl hcat (Nat.le_of_ble_eq_true rfl) (m_X6_firstOtherwise (Nat.le_refl _) hj hS hT hw ha hR K)

