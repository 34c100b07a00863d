/-! ===== walk, copy, taken ===== -/
def kinL : Nat → List Int32
  | 0 => [0]
  | 1 => [1, 0]
  | 2 => [2, 0]
  | 3 => [3, 1, 0]
  | 4 => [4, 2, 0]
  | _ => [5, 0]
def kinB (k : Nat) (v : Int32) : Int32 := if v ∈ kinL k then 1 else 0
set_option maxHeartbeats 4000000 in
theorem m_X6_isOfKind {z : Zz} {d : Nat} {Q : Option Value → Lay → Mem → Prop} {lay : Lay} {mem : Mem} {k : Nat} {v : Int32} (hdd : 0 ≤ d) (hk : k < 6) (K :  Q (some (.int (kinB k v))) lay mem) : Sim z d 0 0 mX6_isOfKind 0 [.int (nI k), .int v, .float 0, .float 0] [] (lay) mem Q := by
  refine s_iload_n (pc' := 1) dX6_isOfKind_0 rfl lg0 ?_
  refine s_istore_n (pc' := 2) dX6_isOfKind_1 rfl (Nat.le_of_ble_eq_true rfl) rfl ls2 ?_
  refine s_iconst (pc' := 3) dX6_isOfKind_2 rfl iconst_0 ?_
  refine s_istore_n (pc' := 4) dX6_isOfKind_3 rfl (Nat.le_of_ble_eq_true rfl) rfl ls3 ?_
  have e0 : ∀ i : Nat, i ≤ 6 → Q (some (.int 0)) lay mem → Sim z d 0 0 mX6_isOfKind 4 [.int (nI k), .int v, .int (-1), .int (nI i)] [] lay mem Q := by
    intro i hi K0
    rcases Nat.lt_or_ge i 6 with h | h
    · skip
      refine s_iload_n (pc' := 5) dX6_isOfKind_4 rfl lg3 ?_
      refine s_bipush (pc' := 7) dX6_isOfKind_5 rfl bipush_6 ?_
      refine s_icmp_ge (pc' := 10) (tgt := 33) dX6_isOfKind_7 rfl (by decide) (fun c9 => absurd c9 (nI_ge (a := i) (b := 6) h (by omega))) (fun _ => ?_)
      refine s_iload_n (pc' := 11) dX6_isOfKind_10 rfl lg2 ?_
      refine s_if_lt (pc' := 14) (tgt := 33) dX6_isOfKind_11 rfl (by decide) (fun _ => ?_) (fun c9 => absurd (by decide) c9)
      refine s_iconst (pc' := 34) dX6_isOfKind_33 rfl iconst_0 ?_
      refine s_iret dX6_isOfKind_34 rfl (by decide) ?_
      exact K0
    · have : i = 6 := by omega
      subst this
      refine s_iload_n (pc' := 5) dX6_isOfKind_4 rfl lg3 ?_
      refine s_bipush (pc' := 7) dX6_isOfKind_5 rfl bipush_6 ?_
      refine s_icmp_ge (pc' := 10) (tgt := 33) dX6_isOfKind_7 rfl (by decide) (fun _ => ?_) (fun c9 => absurd (by decide) c9)
      refine s_iconst (pc' := 34) dX6_isOfKind_33 rfl iconst_0 ?_
      refine s_iret dX6_isOfKind_34 rfl (by decide) ?_
      exact K0
  have st : ∀ (c c' : Int32) (i : Nat), i < 6 → ¬ c < 0 → vp_in c 6 → am_kab c.toNatClampNeg = c' → (v = c → Q (some (.int 1)) lay mem) → (¬ v = c → Sim z d 0 0 mX6_isOfKind 4 [.int (nI k), .int v, .int c', .int (nI (i + 1))] [] lay mem Q) → Sim z d 0 0 mX6_isOfKind 4 [.int (nI k), .int v, .int c, .int (nI i)] [] lay mem Q := by
    intro c c' i hi h0 hin hc K1 K2
    refine s_iload_n (pc' := 5) dX6_isOfKind_4 rfl lg3 ?_
    refine s_bipush (pc' := 7) dX6_isOfKind_5 rfl bipush_6 ?_
    refine s_icmp_ge (pc' := 10) (tgt := 33) dX6_isOfKind_7 rfl (by decide) (fun c9 => absurd c9 (nI_ge (a := i) (b := 6) hi (by omega))) (fun _ => ?_)
    refine s_iload_n (pc' := 11) dX6_isOfKind_10 rfl lg2 ?_
    refine s_if_lt (pc' := 14) (tgt := 33) dX6_isOfKind_11 rfl (by decide) (fun c9 => absurd c9 (h0)) (fun _ => ?_)
    refine s_iload_n (pc' := 15) dX6_isOfKind_14 rfl lg2 ?_
    refine s_iload_n (pc' := 16) dX6_isOfKind_15 rfl lg1 ?_
    refine s_icmp_ne (pc' := 19) (tgt := 21) dX6_isOfKind_16 rfl (by decide) (fun c1 => ?_) (fun c1 => ?_)
    · skip
      refine s_gKab (pc' := 24) dX6_isOfKind_21 rfl kfX6_251 ?_
      refine s_iload_n (pc' := 25) dX6_isOfKind_24 rfl lg2 ?_
      refine s_tald1 (pc' := 26) dX6_isOfKind_25 rfl hin ?_
      refine s_istore_n (pc' := 27) dX6_isOfKind_26 rfl (Nat.le_of_ble_eq_true rfl) rfl ls2 ?_
      refine s_iincN (pc' := 30) dX6_isOfKind_27 rfl lg3 rfl ls3 ?_
      refine s_goto (tgt := 4) dX6_isOfKind_30 (by decide) ?_
      rw [hc]
      exact K2 (fun q => c1 q.symm)
    · skip
      refine s_iconst (pc' := 20) dX6_isOfKind_19 rfl iconst_1 ?_
      refine s_iret dX6_isOfKind_20 rfl (by decide) ?_
      exact K1 c1.symm
  have k6 : k = 0 ∨ k = 1 ∨ k = 2 ∨ k = 3 ∨ k = 4 ∨ k = 5 := by omega
  have vin : ∀ c : Int32, ¬ c < 0 → c < 6 → vp_in c 6 := by
    intro c h1 h2
    obtain ⟨q, hq, rfl⟩ := nI_of h1
    exact am_in ((nI_ltI (a := q) (b := 6) hq (by omega)).mp h2) (by decide)
  unfold kinB at K
  rcases k6 with rfl | rfl | rfl | rfl | rfl | rfl
  · refine st 0 (-1) 0 (by omega) (by decide) (vin 0 (by decide) (by decide)) (by decide) (fun h => ?_) (fun h => e0 1 (by omega) ?_)
    · simpa [kinL, h] using K
    · simpa [kinL, h] using K
  · refine st 1 0 0 (by omega) (by decide) (vin 1 (by decide) (by decide)) (by decide) (fun h => ?_) (fun h => st 0 (-1) 1 (by omega) (by decide) (vin 0 (by decide) (by decide)) (by decide) (fun h' => ?_) (fun h' => e0 2 (by omega) ?_))
    · simpa [kinL, h] using K
    · simpa [kinL, h, h'] using K
    · simpa [kinL, h, h'] using K
  · refine st 2 0 0 (by omega) (by decide) (vin 2 (by decide) (by decide)) (by decide) (fun h => ?_) (fun h => st 0 (-1) 1 (by omega) (by decide) (vin 0 (by decide) (by decide)) (by decide) (fun h' => ?_) (fun h' => e0 2 (by omega) ?_))
    · simpa [kinL, h] using K
    · simpa [kinL, h, h'] using K
    · simpa [kinL, h, h'] using K
  · refine st 3 1 0 (by omega) (by decide) (vin 3 (by decide) (by decide)) (by decide) (fun h => ?_) (fun h => st 1 0 1 (by omega) (by decide) (vin 1 (by decide) (by decide)) (by decide) (fun h' => ?_) (fun h' => st 0 (-1) 2 (by omega) (by decide) (vin 0 (by decide) (by decide)) (by decide) (fun h'' => ?_) (fun h'' => e0 3 (by omega) ?_)))
    · simpa [kinL, h] using K
    · simpa [kinL, h, h'] using K
    · simpa [kinL, h, h', h''] using K
    · simpa [kinL, h, h', h''] using K
  · refine st 4 2 0 (by omega) (by decide) (vin 4 (by decide) (by decide)) (by decide) (fun h => ?_) (fun h => st 2 0 1 (by omega) (by decide) (vin 2 (by decide) (by decide)) (by decide) (fun h' => ?_) (fun h' => st 0 (-1) 2 (by omega) (by decide) (vin 0 (by decide) (by decide)) (by decide) (fun h'' => ?_) (fun h'' => e0 3 (by omega) ?_)))
    · simpa [kinL, h] using K
    · simpa [kinL, h, h'] using K
    · simpa [kinL, h, h', h''] using K
    · simpa [kinL, h, h', h''] using K
  · refine st 5 0 0 (by omega) (by decide) (vin 5 (by decide) (by decide)) (by decide) (fun h => ?_) (fun h => st 0 (-1) 1 (by omega) (by decide) (vin 0 (by decide) (by decide)) (by decide) (fun h' => ?_) (fun h' => e0 2 (by omega) ?_))
    · simpa [kinL, h] using K
    · simpa [kinL, h, h'] using K
    · simpa [kinL, h, h'] using K
theorem c_X6_isOfKind {z : Zz} {d kc ks : Nat} {mi : MI} {pc pc' : Nat} {L S : List Value} {Q : Option Value → Lay → Mem → Prop} {lay : Lay} {mem : Mem} {k : Nat} {v : Int32} {idx : Nat} (hd : decode mi.2.1 pc = .ok (.invokestatic idx, 3)) (hp : pc + 3 = pc') (hlk : Cond.methodLink mi.1.cls idx yX6_isOfKind ∈ wok) (hdd : 0 + 1 ≤ d) (hcat : (S.map (fun v => v.category)).sum ≤ 8) (hk : k < 6) (K :  Sim z d kc ks mi pc' L (.int (kinB k v) :: S) lay mem Q) : Sim z d kc ks mi pc L (.int v :: .int (nI k) :: S) (lay) mem Q :=
  s_invS (d2 := 0) hd hp okX6_isOfKind hlk stX6_isOfKind hdd (Nat.zero_add _) (Nat.zero_add _) rfl rfl hcat (Nat.le_of_ble_eq_true rfl) (m_X6_isOfKind (Nat.le_refl _) hk K)
/-- the kinds of a shore are kinds -/
def kOK (σ : Nat → Nat → Int32) (n : Nat) : Prop := ∀ i, i < n → ∃ k, k < 6 ∧ σ 0 i = nI k
def takR (σ : Nat → Nat → Int32) (n : Nat) (p k : Int32) : Int32 := if inB k 0 5 = 0 then -2 else if pcB p (nI n) = 0 then -11 else if kinB (ix (σ 0 (ix p))) k = 0 then -13 else σ 1 (ix p)
set_option maxHeartbeats 4000000 in
theorem m_X6_taken {z : Zz} {d : Nat} {Q : Option Value → Lay → Mem → Prop} {rf : Nat → Value} {tl : Lay} {mem : Mem}  {n : Nat} {σ : Nat → Nat → Int32} {td ru p k : Int32} (hdd : 1 ≤ d) (hS : isS 10 mem σ n td ru) (hk : kOK σ n) (K :  Q (some (.int (takR σ n p k))) (LAY rf tl) mem) : Sim z d 0 0 mX6_taken 0 [.ref 0, .int p, .int k] [] (LAY rf tl) mem Q := by
  have h8 := hS.2.1
  unfold takR at K
  refine s_iload_n (pc' := 1) dX6_taken_0 rfl lg2 ?_
  refine s_iconst (pc' := 2) dX6_taken_1 rfl iconst_0 ?_
  refine s_iconst (pc' := 3) dX6_taken_2 rfl iconst_5 ?_
  refine c_X6_isIn  (pc' := 6) dX6_taken_3 rfl lkX6_56 (by omega) (Nat.le_of_ble_eq_true rfl) ?_
  refine s_if_ne (pc' := 9) (tgt := 12) dX6_taken_6 rfl (by decide) (fun c1 => ?_) (fun c1 => ?_)
  · skip
    rw [if_neg c1] at K
    refine s_aload_n (pc' := 13) dX6_taken_12 rfl lg0 rfl ?_
    refine s_iload_n (pc' := 14) dX6_taken_13 rfl lg1 ?_
    refine c_X6_isPiece  (pc' := 17) dX6_taken_14 rfl lkX6_60 (by omega) (Nat.le_of_ble_eq_true rfl) ?_
    rw [hS.1]
    refine s_if_ne (pc' := 20) (tgt := 23) dX6_taken_17 rfl (by decide) (fun c2 => ?_) (fun c2 => ?_)
    · skip
      rcases pc_or p (n := n) (by omega) with q | ⟨a, ha, rfl, -⟩
      · exact absurd q c2
      obtain ⟨kk, hkk, ek⟩ := hk a ha
      rw [if_neg c2, ix_nI (by omega), ek, ix_nI (by omega)] at K
      refine s_aload_n (pc' := 24) dX6_taken_23 rfl lg0 rfl ?_
      refine s_getRv (pc' := 27) (v := .ref 10) dX6_taken_24 rfl flX6_28 ly0 (by decide) rfl rfl ?_
      refine s_getRv (pc' := 30) (v := .ref 15) dX6_taken_27 rfl flX6_242 ly10 (by decide) rfl rfl ?_
      refine s_iload_n (pc' := 31) dX6_taken_30 rfl lg1 ?_
      refine s_ialdNv (pc' := 32) (v := nI kk) dX6_taken_31 rfl ly15 (by omega) (by decide) ((hS.2.2.2.2 a ha).1.trans ek) ?_
      refine s_iload_n (pc' := 33) dX6_taken_32 rfl lg2 ?_
      refine c_X6_isOfKind  (pc' := 36) dX6_taken_33 rfl lkX6_245 (by omega) (Nat.le_of_ble_eq_true rfl) hkk ?_
      refine s_if_eq (pc' := 39) (tgt := 51) dX6_taken_36 rfl (by decide) (fun c3 => ?_) (fun c3 => ?_)
      · skip
        rw [if_pos c3] at K
        refine s_bipush (pc' := 53) dX6_taken_51 rfl bipush_m13 ?_
        refine s_iret dX6_taken_53 rfl (vp_nar_int _) ?_
        exact K
      · skip
        rw [if_neg c3] at K
        refine s_aload_n (pc' := 40) dX6_taken_39 rfl lg0 rfl ?_
        refine s_getRv (pc' := 43) (v := .ref 10) dX6_taken_40 rfl flX6_28 ly0 (by decide) rfl rfl ?_
        refine s_getRv (pc' := 46) (v := .ref 11) dX6_taken_43 rfl flX6_248 ly10 (by decide) rfl rfl ?_
        refine s_iload_n (pc' := 47) dX6_taken_46 rfl lg1 ?_
        refine s_ialdNv (pc' := 48) (v := σ 1 a) dX6_taken_47 rfl ly11 (by omega) (by decide) (hS.2.2.2.2 a ha).2.1 ?_
        refine s_goto (tgt := 53) dX6_taken_48 (by decide) ?_
        refine s_iret dX6_taken_53 rfl (vp_nar_int _) ?_
        exact K
    · skip
      rw [if_pos c2] at K
      refine s_bipush (pc' := 22) dX6_taken_20 rfl bipush_m11 ?_
      refine s_iret dX6_taken_22 rfl (vp_nar_int _) ?_
      exact K
  · skip
    rw [if_pos c1] at K
    refine s_bipush (pc' := 11) dX6_taken_9 rfl bipush_m2 ?_
    refine s_iret dX6_taken_11 rfl (vp_nar_int _) ?_
    exact K
theorem c_X6_taken {z : Zz} {d kc ks : Nat} {mi : MI} {pc pc' : Nat} {L S : List Value} {Q : Option Value → Lay → Mem → Prop} {rf : Nat → Value} {tl : Lay} {mem : Mem}  {n : Nat} {σ : Nat → Nat → Int32} {td ru p k : Int32} {idx : Nat} (hd : decode mi.2.1 pc = .ok (.invokevirtual idx, 3)) (hp : pc + 3 = pc') (hlk : Cond.methodLink mi.1.cls idx yX6_taken ∈ wok) (hdd : 1 + 1 ≤ d) (hcat : (S.map (fun v => v.category)).sum ≤ 8) (hS : isS 10 mem σ n td ru) (hk : kOK σ n) (K :  Sim z d kc ks mi pc' L (.int (takR σ n p k) :: S) (LAY rf tl) mem Q) : Sim z d kc ks mi pc L (.int k :: .int p :: .ref 0 :: S) (LAY rf tl) mem Q :=
  s_invV (d2 := 1) hd hp okX6_taken hlk inX6_taken seX6_taken hdd (Nat.zero_add _) (Nat.zero_add _) rfl rfl ly0 rfl hcat (Nat.le_of_ble_eq_true rfl) (m_X6_taken (Nat.le_refl _) hS hk K)
def hurB (σ : Nat → Nat → Int32) (n : Nat) (w : Int32) : Bool := decide (0 < ct (fun i => decide (σ 3 i = w) && !decide (σ 2 i ≤ 30)) n)
theorem hur_of {b : Nat} {mem : Mem} {σ : Nat → Nat → Int32} {n : Nat} {td ru w : Int32} (h : isS b mem σ n td ru) : ct (fun i => decide (mem (b + 3) i = w) && !decide (mem (b + 2) i ≤ 30)) n = ct (fun i => decide (σ 3 i = w) && !decide (σ 2 i ≤ 30)) n := ct_cong (fun k hk => by rw [(h.2.2.2.2 k hk).2.2.1, (h.2.2.2.2 k hk).2.2.2.1])
def walR (σ : Nat → Nat → Int32) (n : Nat) (so : Nat → Int32) (sz : Nat → Nat) (it : Nat → Nat → Int32) (s : Int32) : Int32 := if shB s = 0 then -2 else if so (ix s) = -1 then -11 else if ct (fun k => decide (inB (it (ix s) k) 0 11 = 0)) (sz (ix s)) = 0 then nI (ct (fun k => hurB σ n (it (ix s) k)) (sz (ix s))) else -2
set_option maxHeartbeats 4000000 in
theorem m_X6_walk {z : Zz} {d : Nat} {Q : Option Value → Lay → Mem → Prop} {rf : Nat → Value} {tl : Lay} {mem : Mem}  {n : Nat} {σ : Nat → Nat → Int32} {td ru s : Int32} {so : Nat → Int32} {sz : Nat → Nat} {it : Nat → Nat → Int32} (hdd : 2 ≤ d) (hS : isS 10 mem σ n td ru) (hRR : isRR mem so sz it) (K :  Q (some (.int (walR σ n so sz it s))) (LAY rf tl) mem) : Sim z d 0 0 mX6_walk 0 [.ref 0, .int s, .float 0, .float 0, .float 0] [] (LAY rf tl) mem Q := by
  unfold walR at K
  refine s_iload_n (pc' := 1) dX6_walk_0 rfl lg1 ?_
  refine c_X6_isSheet  (pc' := 4) dX6_walk_1 rfl lkX6_146 (by omega) (Nat.le_of_ble_eq_true rfl) ?_
  refine s_if_ne (pc' := 7) (tgt := 10) dX6_walk_4 rfl (by decide) (fun c1 => ?_) (fun c1 => ?_)
  · skip
    rcases sh_or s with h | ⟨j, hj, rfl, -⟩
    · exact absurd h c1
    have hR := hRR j hj
    have h40 := hR.2.2.1
    rw [if_neg c1, ix_nI (by omega)] at K
    refine s_aload_n (pc' := 11) dX6_walk_10 rfl lg0 rfl ?_
    refine s_getRv (pc' := 14) (v := .ref 38) dX6_walk_11 rfl flX6_47 ly0 (by decide) rfl rfl ?_
    refine s_iload_n (pc' := 15) dX6_walk_14 rfl lg1 ?_
    refine s_aaldv (pc' := 16) (v := .ref (39 + 2 * j)) dX6_walk_15 rfl ly38 (by decide) (am_in (by omega) (by decide)) (by rw [am_cl (n := 4) hj (by decide)]; exact R38_at hj) ?_
    refine s_astore_n (pc' := 17) dX6_walk_16 rfl rfl (Nat.le_of_ble_eq_true rfl) rfl ls2 ?_
    refine s_aload_n (pc' := 18) dX6_walk_17 rfl lg2 rfl ?_
    refine c_X2_isMissing  (pc' := 21) dX6_walk_18 rfl lkX6_149 (by omega) (Nat.le_of_ble_eq_true rfl) hj ?_
    rw [hR.1]
    by_cases hm : so j = -1
    · rw [if_pos hm]
      rw [if_pos hm] at K
      refine s_if_eq (pc' := 24) (tgt := 27) dX6_walk_21 rfl (by decide) (fun c9 => absurd c9 (by decide)) (fun _ => ?_)
      refine s_bipush (pc' := 26) dX6_walk_24 rfl bipush_m11 ?_
      refine s_iret dX6_walk_26 rfl (vp_nar_int _) ?_
      exact K
    · rw [if_neg hm]
      rw [if_neg hm] at K
      refine s_if_eq (pc' := 24) (tgt := 27) dX6_walk_21 rfl (by decide) (fun _ => ?_) (fun c9 => absurd (by decide) c9)
      refine s_aload_n (pc' := 28) dX6_walk_27 rfl lg2 rfl ?_
      refine s_iconst (pc' := 29) dX6_walk_28 rfl iconst_0 ?_
      refine s_bipush (pc' := 31) dX6_walk_29 rfl bipush_11 ?_
      refine c_X2_isAllIn  (pc' := 34) dX6_walk_31 rfl lkX6_153 (by omega) (Nat.le_of_ble_eq_true rfl) hj hR.2.1 h40 ?_
      have ec : ct (fun k => decide (inB (mem (40 + 2 * j) k) 0 11 = 0)) (sz j) = ct (fun k => decide (inB (it j k) 0 11 = 0)) (sz j) := ct_cong (fun k hk => by rw [hR.2.2.2 k hk])
      rw [ec]
      by_cases h0 : ct (fun k => decide (inB (it j k) 0 11 = 0)) (sz j) = 0
      · rw [if_pos h0]
        rw [if_pos h0] at K
        refine s_if_ne (pc' := 37) (tgt := 40) dX6_walk_34 rfl (by decide) (fun _ => ?_) (fun c9 => absurd c9 (by decide))
        refine s_iconst (pc' := 41) dX6_walk_40 rfl iconst_0 ?_
        refine s_istore_n (pc' := 42) dX6_walk_41 rfl (Nat.le_of_ble_eq_true rfl) rfl ls3 ?_
        refine s_iconst (pc' := 43) dX6_walk_42 rfl iconst_0 ?_
        refine s_istore (pc' := 45) dX6_walk_43 rfl (Nat.le_of_ble_eq_true rfl) rfl ls4 ?_
        have loop : ∀ (k i : Nat), i + k = sz j → Sim z d 0 0 mX6_walk 45 [.ref 0, .int (nI j), .ref (39 + 2 * j), .int (nI (ct (fun k => hurB σ n (it j k)) i)), .int (nI i)] [] (LAY rf tl) mem Q := by
          intro k
          induction k with
          | zero =>
            intro i hi
            have : i = sz j := by omega
            subst this
            refine s_iload (pc' := 47) dX6_walk_45 rfl lg4 ?_
            refine s_aload_n (pc' := 48) dX6_walk_47 rfl lg2 rfl ?_
            refine s_getI (pc' := 51) dX6_walk_48 rfl flX6_156 (lyR hj) (by decide) rfl ?_
            refine s_icmp_ge (pc' := 54) (tgt := 80) dX6_walk_51 rfl (by decide) (fun _ => ?_) (fun c9 => absurd (by rw [hR.2.1]; exact nI_le (by omega) (by omega)) c9)
            refine s_iload_n (pc' := 81) dX6_walk_80 rfl lg3 ?_
            refine s_iret dX6_walk_81 rfl (vp_nar_int _) ?_
            exact K
          | succ k ih =>
            intro i hi
            refine s_iload (pc' := 47) dX6_walk_45 rfl lg4 ?_
            refine s_aload_n (pc' := 48) dX6_walk_47 rfl lg2 rfl ?_
            refine s_getI (pc' := 51) dX6_walk_48 rfl flX6_156 (lyR hj) (by decide) rfl ?_
            refine s_icmp_ge (pc' := 54) (tgt := 80) dX6_walk_51 rfl (by decide) (fun c9 => absurd c9 (by rw [hR.2.1]; exact nI_ge (by omega) (by omega))) (fun _ => ?_)
            refine s_aload_n (pc' := 55) dX6_walk_54 rfl lg0 rfl ?_
            refine s_getRv (pc' := 58) (v := .ref 10) dX6_walk_55 rfl flX6_28 ly0 (by decide) rfl rfl ?_
            refine s_aload_n (pc' := 59) dX6_walk_58 rfl lg2 rfl ?_
            refine s_getRv (pc' := 62) (v := .ref (40 + 2 * j)) dX6_walk_59 rfl flX6_157 (lyR hj) (by decide) rfl rfl ?_
            refine s_iload (pc' := 64) dX6_walk_62 rfl lg4 ?_
            refine s_ialdNv (pc' := 65) (v := it j i) dX6_walk_64 rfl (lyRi hj) (by omega) (by decide) (hR.2.2.2 i (by omega)) ?_
            refine c_X3_hurtsAt (b := 10) (pc' := 68) dX6_walk_65 rfl lkX6_160 (by omega) (Nat.le_of_ble_eq_true rfl) (Or.inl rfl) hS.1 hS.2.1 ?_
            rw [hur_of hS]
            by_cases hb : 0 < ct (fun q => decide (σ 3 q = it j i) && !decide (σ 2 q ≤ 30)) n
            · rw [if_pos hb]
              refine s_if_eq (pc' := 71) (tgt := 74) dX6_walk_68 rfl (by decide) (fun c9 => absurd c9 (by decide)) (fun _ => ?_)
              refine s_iincN (pc' := 74) dX6_walk_71 rfl lg3 rfl ls3 ?_
              refine s_iincN (pc' := 77) dX6_walk_74 rfl lg4 rfl ls4 ?_
              refine s_goto (tgt := 45) dX6_walk_77 (by decide) ?_
              have := ih (i + 1) (by omega)
              rw [ct, show hurB σ n (it j i) = true from decide_eq_true hb, if_pos rfl] at this
              exact this
            · rw [if_neg hb]
              refine s_if_eq (pc' := 71) (tgt := 74) dX6_walk_68 rfl (by decide) (fun _ => ?_) (fun c9 => absurd (by decide) c9)
              refine s_iincN (pc' := 77) dX6_walk_74 rfl lg4 rfl ls4 ?_
              refine s_goto (tgt := 45) dX6_walk_77 (by decide) ?_
              have := ih (i + 1) (by omega)
              rw [ct, show hurB σ n (it j i) = false from decide_eq_false hb, if_neg Bool.false_ne_true] at this
              exact this
        exact loop (sz j) 0 (by omega)
      · rw [if_neg h0]
        rw [if_neg h0] at K
        refine s_if_ne (pc' := 37) (tgt := 40) dX6_walk_34 rfl (by decide) (fun c9 => absurd (by decide) c9) (fun _ => ?_)
        refine s_bipush (pc' := 39) dX6_walk_37 rfl bipush_m2 ?_
        refine s_iret dX6_walk_39 rfl (vp_nar_int _) ?_
        exact K
  · skip
    rw [if_pos c1] at K
    refine s_bipush (pc' := 9) dX6_walk_7 rfl bipush_m2 ?_
    refine s_iret dX6_walk_9 rfl (vp_nar_int _) ?_
    exact K
theorem c_X6_walk {z : Zz} {d kc ks : Nat} {mi : MI} {pc pc' : Nat} {L S : List Value} {Q : Option Value → Lay → Mem → Prop} {rf : Nat → Value} {tl : Lay} {mem : Mem}  {n : Nat} {σ : Nat → Nat → Int32} {td ru s : Int32} {so : Nat → Int32} {sz : Nat → Nat} {it : Nat → Nat → Int32} {idx : Nat} (hd : decode mi.2.1 pc = .ok (.invokevirtual idx, 3)) (hp : pc + 3 = pc') (hlk : Cond.methodLink mi.1.cls idx yX6_walk ∈ wok) (hdd : 2 + 1 ≤ d) (hcat : (S.map (fun v => v.category)).sum ≤ 8) (hS : isS 10 mem σ n td ru) (hRR : isRR mem so sz it) (K :  Sim z d kc ks mi pc' L (.int (walR σ n so sz it s) :: S) (LAY rf tl) mem Q) : Sim z d kc ks mi pc L (.int s :: .ref 0 :: S) (LAY rf tl) mem Q :=
  s_invV (d2 := 2) hd hp okX6_walk hlk inX6_walk seX6_walk hdd (Nat.zero_add _) (Nat.zero_add _) rfl rfl ly0 rfl hcat (Nat.le_of_ble_eq_true rfl) (m_X6_walk (Nat.le_refl _) hS hRR K)

