/-! ===== tells, film ===== -/
set_option maxHeartbeats 4000000 in
theorem m_X3_valuesOf_1 {z : Zz} {d : Nat} {Q : Option Value → Lay → Mem → Prop} {rf : Nat → Value} {tl : Lay} {mem : Mem}  {b : Nat} (hdd : 0 ≤ d) (hb : ISh b) (K :  Q (some (.ref (b + 1))) (LAY rf tl) mem) : Sim z d 0 0 mX3_valuesOf 0 [.ref b, .int 1] [] (LAY rf tl) mem Q := by
  refine s_iload_n (pc' := 1) dX3_valuesOf_0 rfl lg1 ?_
  refine s_tsIn (off := 31) (tgt := 32) dX3_valuesOf_1 (by decide) (by decide) (by decide) (by decide) ?_
  refine s_aload_n (pc' := 33) dX3_valuesOf_32 rfl lg0 rfl ?_
  refine s_getRv (pc' := 36) (v := .ref (b + 1)) dX3_valuesOf_33 rfl flX3_9 (lyS hb) (by decide) rfl rfl ?_
  refine s_aret dX3_valuesOf_36 rfl (Or.inr ⟨_, rfl⟩) rfl ?_
  exact K
theorem c_X3_valuesOf_1 {z : Zz} {d kc ks : Nat} {mi : MI} {pc pc' : Nat} {L S : List Value} {Q : Option Value → Lay → Mem → Prop} {rf : Nat → Value} {tl : Lay} {mem : Mem}  {b : Nat} {idx : Nat} (hd : decode mi.2.1 pc = .ok (.invokevirtual idx, 3)) (hp : pc + 3 = pc') (hlk : Cond.methodLink mi.1.cls idx yX3_valuesOf ∈ wok) (hdd : 0 + 1 ≤ d) (hcat : (S.map (fun v => v.category)).sum ≤ 8) (hb : ISh b) (K :  Sim z d kc ks mi pc' L (.ref (b + 1) :: S) (LAY rf tl) mem Q) : Sim z d kc ks mi pc L (.int 1 :: .ref b :: S) (LAY rf tl) mem Q :=
  s_invV (d2 := 0) hd hp okX3_valuesOf hlk inX3_valuesOf seX3_valuesOf hdd (Nat.zero_add _) (Nat.zero_add _) rfl rfl (lyS hb) rfl hcat (Nat.le_of_ble_eq_true rfl) (m_X3_valuesOf_1 (Nat.le_refl _) hb K)
set_option maxHeartbeats 4000000 in
theorem m_X3_valuesOf_2 {z : Zz} {d : Nat} {Q : Option Value → Lay → Mem → Prop} {rf : Nat → Value} {tl : Lay} {mem : Mem}  {b : Nat} (hdd : 0 ≤ d) (hb : ISh b) (K :  Q (some (.ref (b + 2))) (LAY rf tl) mem) : Sim z d 0 0 mX3_valuesOf 0 [.ref b, .int 2] [] (LAY rf tl) mem Q := by
  refine s_iload_n (pc' := 1) dX3_valuesOf_0 rfl lg1 ?_
  refine s_tsIn (off := 36) (tgt := 37) dX3_valuesOf_1 (by decide) (by decide) (by decide) (by decide) ?_
  refine s_aload_n (pc' := 38) dX3_valuesOf_37 rfl lg0 rfl ?_
  refine s_getRv (pc' := 41) (v := .ref (b + 2)) dX3_valuesOf_38 rfl flX3_15 (lyS hb) (by decide) rfl rfl ?_
  refine s_aret dX3_valuesOf_41 rfl (Or.inr ⟨_, rfl⟩) rfl ?_
  exact K
theorem c_X3_valuesOf_2 {z : Zz} {d kc ks : Nat} {mi : MI} {pc pc' : Nat} {L S : List Value} {Q : Option Value → Lay → Mem → Prop} {rf : Nat → Value} {tl : Lay} {mem : Mem}  {b : Nat} {idx : Nat} (hd : decode mi.2.1 pc = .ok (.invokevirtual idx, 3)) (hp : pc + 3 = pc') (hlk : Cond.methodLink mi.1.cls idx yX3_valuesOf ∈ wok) (hdd : 0 + 1 ≤ d) (hcat : (S.map (fun v => v.category)).sum ≤ 8) (hb : ISh b) (K :  Sim z d kc ks mi pc' L (.ref (b + 2) :: S) (LAY rf tl) mem Q) : Sim z d kc ks mi pc L (.int 2 :: .ref b :: S) (LAY rf tl) mem Q :=
  s_invV (d2 := 0) hd hp okX3_valuesOf hlk inX3_valuesOf seX3_valuesOf hdd (Nat.zero_add _) (Nat.zero_add _) rfl rfl (lyS hb) rfl hcat (Nat.le_of_ble_eq_true rfl) (m_X3_valuesOf_2 (Nat.le_refl _) hb K)
set_option maxHeartbeats 4000000 in
theorem m_X3_valuesOf_3 {z : Zz} {d : Nat} {Q : Option Value → Lay → Mem → Prop} {rf : Nat → Value} {tl : Lay} {mem : Mem}  {b : Nat} (hdd : 0 ≤ d) (hb : ISh b) (K :  Q (some (.ref (b + 3))) (LAY rf tl) mem) : Sim z d 0 0 mX3_valuesOf 0 [.ref b, .int 3] [] (LAY rf tl) mem Q := by
  refine s_iload_n (pc' := 1) dX3_valuesOf_0 rfl lg1 ?_
  refine s_tsIn (off := 41) (tgt := 42) dX3_valuesOf_1 (by decide) (by decide) (by decide) (by decide) ?_
  refine s_aload_n (pc' := 43) dX3_valuesOf_42 rfl lg0 rfl ?_
  refine s_getRv (pc' := 46) (v := .ref (b + 3)) dX3_valuesOf_43 rfl flX3_18 (lyS hb) (by decide) rfl rfl ?_
  refine s_aret dX3_valuesOf_46 rfl (Or.inr ⟨_, rfl⟩) rfl ?_
  exact K
theorem c_X3_valuesOf_3 {z : Zz} {d kc ks : Nat} {mi : MI} {pc pc' : Nat} {L S : List Value} {Q : Option Value → Lay → Mem → Prop} {rf : Nat → Value} {tl : Lay} {mem : Mem}  {b : Nat} {idx : Nat} (hd : decode mi.2.1 pc = .ok (.invokevirtual idx, 3)) (hp : pc + 3 = pc') (hlk : Cond.methodLink mi.1.cls idx yX3_valuesOf ∈ wok) (hdd : 0 + 1 ≤ d) (hcat : (S.map (fun v => v.category)).sum ≤ 8) (hb : ISh b) (K :  Sim z d kc ks mi pc' L (.ref (b + 3) :: S) (LAY rf tl) mem Q) : Sim z d kc ks mi pc L (.int 3 :: .ref b :: S) (LAY rf tl) mem Q :=
  s_invV (d2 := 0) hd hp okX3_valuesOf hlk inX3_valuesOf seX3_valuesOf hdd (Nat.zero_add _) (Nat.zero_add _) rfl rfl (lyS hb) rfl hcat (Nat.le_of_ble_eq_true rfl) (m_X3_valuesOf_3 (Nat.le_refl _) hb K)
set_option maxHeartbeats 4000000 in
theorem m_X3_valuesOf_4 {z : Zz} {d : Nat} {Q : Option Value → Lay → Mem → Prop} {rf : Nat → Value} {tl : Lay} {mem : Mem}  {b : Nat} (hdd : 0 ≤ d) (hb : ISh b) (K :  Q (some (.ref (b + 4))) (LAY rf tl) mem) : Sim z d 0 0 mX3_valuesOf 0 [.ref b, .int 4] [] (LAY rf tl) mem Q := by
  refine s_iload_n (pc' := 1) dX3_valuesOf_0 rfl lg1 ?_
  refine s_tsIn (off := 46) (tgt := 47) dX3_valuesOf_1 (by decide) (by decide) (by decide) (by decide) ?_
  refine s_aload_n (pc' := 48) dX3_valuesOf_47 rfl lg0 rfl ?_
  refine s_getRv (pc' := 51) (v := .ref (b + 4)) dX3_valuesOf_48 rfl flX3_21 (lyS hb) (by decide) rfl rfl ?_
  refine s_aret dX3_valuesOf_51 rfl (Or.inr ⟨_, rfl⟩) rfl ?_
  exact K
theorem c_X3_valuesOf_4 {z : Zz} {d kc ks : Nat} {mi : MI} {pc pc' : Nat} {L S : List Value} {Q : Option Value → Lay → Mem → Prop} {rf : Nat → Value} {tl : Lay} {mem : Mem}  {b : Nat} {idx : Nat} (hd : decode mi.2.1 pc = .ok (.invokevirtual idx, 3)) (hp : pc + 3 = pc') (hlk : Cond.methodLink mi.1.cls idx yX3_valuesOf ∈ wok) (hdd : 0 + 1 ≤ d) (hcat : (S.map (fun v => v.category)).sum ≤ 8) (hb : ISh b) (K :  Sim z d kc ks mi pc' L (.ref (b + 4) :: S) (LAY rf tl) mem Q) : Sim z d kc ks mi pc L (.int 4 :: .ref b :: S) (LAY rf tl) mem Q :=
  s_invV (d2 := 0) hd hp okX3_valuesOf hlk inX3_valuesOf seX3_valuesOf hdd (Nat.zero_add _) (Nat.zero_add _) rfl rfl (lyS hb) rfl hcat (Nat.le_of_ble_eq_true rfl) (m_X3_valuesOf_4 (Nat.le_refl _) hb K)
set_option maxHeartbeats 4000000 in
theorem m_X3_valuesOf_5 {z : Zz} {d : Nat} {Q : Option Value → Lay → Mem → Prop} {rf : Nat → Value} {tl : Lay} {mem : Mem}  {b : Nat} (hdd : 0 ≤ d) (hb : ISh b) (K :  Q (some (.ref (b + 5))) (LAY rf tl) mem) : Sim z d 0 0 mX3_valuesOf 0 [.ref b, .int 5] [] (LAY rf tl) mem Q := by
  refine s_iload_n (pc' := 1) dX3_valuesOf_0 rfl lg1 ?_
  refine s_tsOut (tgt := 52) dX3_valuesOf_1 (by decide) (by decide) ?_
  refine s_aload_n (pc' := 53) dX3_valuesOf_52 rfl lg0 rfl ?_
  refine s_getRv (pc' := 56) (v := .ref (b + 5)) dX3_valuesOf_53 rfl flX3_24 (lyS hb) (by decide) rfl rfl ?_
  refine s_aret dX3_valuesOf_56 rfl (Or.inr ⟨_, rfl⟩) rfl ?_
  exact K
theorem c_X3_valuesOf_5 {z : Zz} {d kc ks : Nat} {mi : MI} {pc pc' : Nat} {L S : List Value} {Q : Option Value → Lay → Mem → Prop} {rf : Nat → Value} {tl : Lay} {mem : Mem}  {b : Nat} {idx : Nat} (hd : decode mi.2.1 pc = .ok (.invokevirtual idx, 3)) (hp : pc + 3 = pc') (hlk : Cond.methodLink mi.1.cls idx yX3_valuesOf ∈ wok) (hdd : 0 + 1 ≤ d) (hcat : (S.map (fun v => v.category)).sum ≤ 8) (hb : ISh b) (K :  Sim z d kc ks mi pc' L (.ref (b + 5) :: S) (LAY rf tl) mem Q) : Sim z d kc ks mi pc L (.int 5 :: .ref b :: S) (LAY rf tl) mem Q :=
  s_invV (d2 := 0) hd hp okX3_valuesOf hlk inX3_valuesOf seX3_valuesOf hdd (Nat.zero_add _) (Nat.zero_add _) rfl rfl (lyS hb) rfl hcat (Nat.le_of_ble_eq_true rfl) (m_X3_valuesOf_5 (Nat.le_refl _) hb K)
theorem nI_m1 {k : Nat} (h : k < 1000) : ¬ nI k = -1 := fun q => by
  have h1 := nI_toInt (n := k) (by omega)
  rw [q] at h1
  have h2 : (-1 : Int32).toInt = -1 := by decide
  omega
theorem isR.thf {mem mem' : Mem} {j : Nat} {so : Int32} {sz : Nat} {it : Nat → Int32} (h : isR mem j so sz it) (hk : thf mem mem') : isR mem' j so sz it := by
  obtain ⟨h1, h2, h3, h4⟩ := h
  have e1 : mem' (39 + 2 * j) = mem (39 + 2 * j) := hk _ (by omega) (by omega) (by omega)
  have e2 : mem' (40 + 2 * j) = mem (40 + 2 * j) := hk _ (by omega) (by omega) (by omega)
  exact ⟨by rw [e1]; exact h1, by rw [e1]; exact h2, h3, fun k hk => by rw [e2]; exact h4 k hk⟩
def son (σ : Nat → Nat → Int32) (n : Nat) (td : Int32) (P : Nat → List Int32) (a : Nat) (it : Nat → Int32) (sz : Nat) : Bool := !decide (othN σ n td P a it sz < sz)
theorem oth_m1 {σ : Nat → Nat → Int32} {n : Nat} {td : Int32} {P : Nat → List Int32} {a : Nat} {it : Nat → Int32} {sz : Nat} (h : sz ≤ 40) : (othR σ n td P a it sz = -1) = (son σ n td P a it sz = true) := by
  unfold othR son
  by_cases q : othN σ n td P a it sz < sz
  · rw [if_pos q]
    simp [q, nI_m1 (show othN σ n td P a it sz < 1000 by omega)]
  · rw [if_neg q]; simp [q]
set_option maxHeartbeats 4000000 in
theorem m_X6_isSoWith_1 {z : Zz} {d : Nat} {Q : Option Value → Lay → Mem → Prop} {rf : Nat → Value} {tl : Lay} {mem : Mem}  {j n w nt a sz : Nat} {σ : Nat → Nat → Int32} {td so v : Int32} {it : Nat → Int32} {T : Nat → Nat → List Int32} (hdd : 5 ≤ d) (hj : j < 4) (hS : isS 10 mem σ n td (nI w)) (hT : isTT rf tl mem nt T) (hw : w < nt) (ha : a < n) (hR : isR mem j so sz it) (K : ∀ mem', thf mem mem' → Q (some (.int (if son (u2 σ 1 a v) n td (T w) a it sz then 1 else 0))) (LAY rf tl) mem') : Sim z d 0 0 mX6_isSoWith 0 [.ref 0, .ref (39 + 2 * j), .int (nI a), .int 1, .int v] [] (LAY rf tl) mem Q := by
  have h8 := hS.2.1
  refine s_aload_n (pc' := 1) dX6_isSoWith_0 rfl lg0 rfl ?_
  refine s_getRv (pc' := 4) (v := .ref 18) dX6_isSoWith_1 rfl flX6_32 ly0 (by decide) rfl rfl ?_
  refine s_aload_n (pc' := 5) dX6_isSoWith_4 rfl lg0 rfl ?_
  refine s_getRv (pc' := 8) (v := .ref 10) dX6_isSoWith_5 rfl flX6_28 ly0 (by decide) rfl rfl ?_
  refine c_X3_becomes_18_10  (pc' := 11) dX6_isSoWith_8 rfl lkX6_120 (by omega) (Nat.le_of_ble_eq_true rfl) hS (fun m1 hS1 f1 => ?_)
  have t1 : thf mem m1 := fun j h3 h4 h5 => f1 j (by omega)
  refine s_aload_n (pc' := 12) dX6_isSoWith_11 rfl lg0 rfl ?_
  refine s_getRv (pc' := 15) (v := .ref 18) dX6_isSoWith_12 rfl flX6_32 ly0 (by decide) rfl rfl ?_
  refine s_iload_n (pc' := 16) dX6_isSoWith_15 rfl lg3 ?_
  refine c_X3_valuesOf_1 (b := 18) (pc' := 19) dX6_isSoWith_16 rfl lkX6_72 (by omega) (Nat.le_of_ble_eq_true rfl) (Or.inr (Or.inl rfl)) ?_
  refine s_iload_n (pc' := 20) dX6_isSoWith_19 rfl lg2 ?_
  refine s_iload (pc' := 22) dX6_isSoWith_20 rfl lg4 ?_
  refine s_iastN (pc' := 23) dX6_isSoWith_22 rfl ly19 (by omega) (by decide) ?_
  refine s_aload_n (pc' := 24) dX6_isSoWith_23 rfl lg0 rfl ?_
  refine s_aload_n (pc' := 25) dX6_isSoWith_24 rfl lg1 rfl ?_
  refine s_iload_n (pc' := 26) dX6_isSoWith_25 rfl lg2 ?_
  have t2 : thf mem (am_up m1 (18 + 1) a v) := t1.tr (fun q h3 h4 h5 => if_neg (by omega))
  refine c_X6_firstOtherwise  (pc' := 29) dX6_isSoWith_26 rfl lkX6_196 (by omega) (Nat.le_of_ble_eq_true rfl) hj (hS1.up (w := 1) (by decide)) (hT.thf t2) hw ha (hR.thf t2) (fun m3 t3 => ?_)
  have K2 := K m3 (t2.tr t3)
  have h40 := hR.2.2.1
  refine s_iconst (pc' := 30) dX6_isSoWith_29 rfl iconst_m1 ?_
  refine s_icmp_ne (pc' := 33) (tgt := 37) dX6_isSoWith_30 rfl (by decide) (fun c1 => ?_) (fun c1 => ?_)
  · skip
    rw [oth_m1 h40] at c1
    rw [if_neg c1] at K2
    refine s_iconst (pc' := 38) dX6_isSoWith_37 rfl iconst_0 ?_
    refine s_iret dX6_isSoWith_38 rfl (by decide) ?_
    exact K2
  · skip
    rw [oth_m1 h40] at c1
    rw [if_pos c1] at K2
    refine s_iconst (pc' := 34) dX6_isSoWith_33 rfl iconst_1 ?_
    refine s_goto (tgt := 38) dX6_isSoWith_34 (by decide) ?_
    refine s_iret dX6_isSoWith_38 rfl (by decide) ?_
    exact K2
theorem c_X6_isSoWith_1 {z : Zz} {d kc ks : Nat} {mi : MI} {pc pc' : Nat} {L S : List Value} {Q : Option Value → Lay → Mem → Prop} {rf : Nat → Value} {tl : Lay} {mem : Mem}  {j n w nt a sz : Nat} {σ : Nat → Nat → Int32} {td so v : Int32} {it : Nat → Int32} {T : Nat → Nat → List Int32} {idx : Nat} (hd : decode mi.2.1 pc = .ok (.invokevirtual idx, 3)) (hp : pc + 3 = pc') (hlk : Cond.methodLink mi.1.cls idx yX6_isSoWith ∈ wok) (hdd : 5 + 1 ≤ d) (hcat : (S.map (fun v => v.category)).sum ≤ 8) (hj : j < 4) (hS : isS 10 mem σ n td (nI w)) (hT : isTT rf tl mem nt T) (hw : w < nt) (ha : a < n) (hR : isR mem j so sz it) (K : ∀ mem', thf mem mem' → Sim z d kc ks mi pc' L (.int (if son (u2 σ 1 a v) n td (T w) a it sz then 1 else 0) :: S) (LAY rf tl) mem' Q) : Sim z d kc ks mi pc L (.int v :: .int 1 :: .int (nI a) :: .ref (39 + 2 * j) :: .ref 0 :: S) (LAY rf tl) mem Q :=
  s_invV (d2 := 5) hd hp okX6_isSoWith hlk inX6_isSoWith seX6_isSoWith hdd (Nat.zero_add _) (Nat.zero_add _) rfl rfl ly0 rfl hcat (Nat.le_of_ble_eq_true rfl) (m_X6_isSoWith_1 (Nat.le_refl _) hj hS hT hw ha hR K)
set_option maxHeartbeats 4000000 in
theorem m_X6_isSoWith_2 {z : Zz} {d : Nat} {Q : Option Value → Lay → Mem → Prop} {rf : Nat → Value} {tl : Lay} {mem : Mem}  {j n w nt a sz : Nat} {σ : Nat → Nat → Int32} {td so v : Int32} {it : Nat → Int32} {T : Nat → Nat → List Int32} (hdd : 5 ≤ d) (hj : j < 4) (hS : isS 10 mem σ n td (nI w)) (hT : isTT rf tl mem nt T) (hw : w < nt) (ha : a < n) (hR : isR mem j so sz it) (K : ∀ mem', thf mem mem' → Q (some (.int (if son (u2 σ 2 a v) n td (T w) a it sz then 1 else 0))) (LAY rf tl) mem') : Sim z d 0 0 mX6_isSoWith 0 [.ref 0, .ref (39 + 2 * j), .int (nI a), .int 2, .int v] [] (LAY rf tl) mem Q := by
  have h8 := hS.2.1
  refine s_aload_n (pc' := 1) dX6_isSoWith_0 rfl lg0 rfl ?_
  refine s_getRv (pc' := 4) (v := .ref 18) dX6_isSoWith_1 rfl flX6_32 ly0 (by decide) rfl rfl ?_
  refine s_aload_n (pc' := 5) dX6_isSoWith_4 rfl lg0 rfl ?_
  refine s_getRv (pc' := 8) (v := .ref 10) dX6_isSoWith_5 rfl flX6_28 ly0 (by decide) rfl rfl ?_
  refine c_X3_becomes_18_10  (pc' := 11) dX6_isSoWith_8 rfl lkX6_120 (by omega) (Nat.le_of_ble_eq_true rfl) hS (fun m1 hS1 f1 => ?_)
  have t1 : thf mem m1 := fun j h3 h4 h5 => f1 j (by omega)
  refine s_aload_n (pc' := 12) dX6_isSoWith_11 rfl lg0 rfl ?_
  refine s_getRv (pc' := 15) (v := .ref 18) dX6_isSoWith_12 rfl flX6_32 ly0 (by decide) rfl rfl ?_
  refine s_iload_n (pc' := 16) dX6_isSoWith_15 rfl lg3 ?_
  refine c_X3_valuesOf_2 (b := 18) (pc' := 19) dX6_isSoWith_16 rfl lkX6_72 (by omega) (Nat.le_of_ble_eq_true rfl) (Or.inr (Or.inl rfl)) ?_
  refine s_iload_n (pc' := 20) dX6_isSoWith_19 rfl lg2 ?_
  refine s_iload (pc' := 22) dX6_isSoWith_20 rfl lg4 ?_
  refine s_iastN (pc' := 23) dX6_isSoWith_22 rfl ly20 (by omega) (by decide) ?_
  refine s_aload_n (pc' := 24) dX6_isSoWith_23 rfl lg0 rfl ?_
  refine s_aload_n (pc' := 25) dX6_isSoWith_24 rfl lg1 rfl ?_
  refine s_iload_n (pc' := 26) dX6_isSoWith_25 rfl lg2 ?_
  have t2 : thf mem (am_up m1 (18 + 2) a v) := t1.tr (fun q h3 h4 h5 => if_neg (by omega))
  refine c_X6_firstOtherwise  (pc' := 29) dX6_isSoWith_26 rfl lkX6_196 (by omega) (Nat.le_of_ble_eq_true rfl) hj (hS1.up (w := 2) (by decide)) (hT.thf t2) hw ha (hR.thf t2) (fun m3 t3 => ?_)
  have K2 := K m3 (t2.tr t3)
  have h40 := hR.2.2.1
  refine s_iconst (pc' := 30) dX6_isSoWith_29 rfl iconst_m1 ?_
  refine s_icmp_ne (pc' := 33) (tgt := 37) dX6_isSoWith_30 rfl (by decide) (fun c1 => ?_) (fun c1 => ?_)
  · skip
    rw [oth_m1 h40] at c1
    rw [if_neg c1] at K2
    refine s_iconst (pc' := 38) dX6_isSoWith_37 rfl iconst_0 ?_
    refine s_iret dX6_isSoWith_38 rfl (by decide) ?_
    exact K2
  · skip
    rw [oth_m1 h40] at c1
    rw [if_pos c1] at K2
    refine s_iconst (pc' := 34) dX6_isSoWith_33 rfl iconst_1 ?_
    refine s_goto (tgt := 38) dX6_isSoWith_34 (by decide) ?_
    refine s_iret dX6_isSoWith_38 rfl (by decide) ?_
    exact K2
theorem c_X6_isSoWith_2 {z : Zz} {d kc ks : Nat} {mi : MI} {pc pc' : Nat} {L S : List Value} {Q : Option Value → Lay → Mem → Prop} {rf : Nat → Value} {tl : Lay} {mem : Mem}  {j n w nt a sz : Nat} {σ : Nat → Nat → Int32} {td so v : Int32} {it : Nat → Int32} {T : Nat → Nat → List Int32} {idx : Nat} (hd : decode mi.2.1 pc = .ok (.invokevirtual idx, 3)) (hp : pc + 3 = pc') (hlk : Cond.methodLink mi.1.cls idx yX6_isSoWith ∈ wok) (hdd : 5 + 1 ≤ d) (hcat : (S.map (fun v => v.category)).sum ≤ 8) (hj : j < 4) (hS : isS 10 mem σ n td (nI w)) (hT : isTT rf tl mem nt T) (hw : w < nt) (ha : a < n) (hR : isR mem j so sz it) (K : ∀ mem', thf mem mem' → Sim z d kc ks mi pc' L (.int (if son (u2 σ 2 a v) n td (T w) a it sz then 1 else 0) :: S) (LAY rf tl) mem' Q) : Sim z d kc ks mi pc L (.int v :: .int 2 :: .int (nI a) :: .ref (39 + 2 * j) :: .ref 0 :: S) (LAY rf tl) mem Q :=
  s_invV (d2 := 5) hd hp okX6_isSoWith hlk inX6_isSoWith seX6_isSoWith hdd (Nat.zero_add _) (Nat.zero_add _) rfl rfl ly0 rfl hcat (Nat.le_of_ble_eq_true rfl) (m_X6_isSoWith_2 (Nat.le_refl _) hj hS hT hw ha hR K)
set_option maxHeartbeats 4000000 in
theorem m_X6_isSoWith_3 {z : Zz} {d : Nat} {Q : Option Value → Lay → Mem → Prop} {rf : Nat → Value} {tl : Lay} {mem : Mem}  {j n w nt a sz : Nat} {σ : Nat → Nat → Int32} {td so v : Int32} {it : Nat → Int32} {T : Nat → Nat → List Int32} (hdd : 5 ≤ d) (hj : j < 4) (hS : isS 10 mem σ n td (nI w)) (hT : isTT rf tl mem nt T) (hw : w < nt) (ha : a < n) (hR : isR mem j so sz it) (K : ∀ mem', thf mem mem' → Q (some (.int (if son (u2 σ 3 a v) n td (T w) a it sz then 1 else 0))) (LAY rf tl) mem') : Sim z d 0 0 mX6_isSoWith 0 [.ref 0, .ref (39 + 2 * j), .int (nI a), .int 3, .int v] [] (LAY rf tl) mem Q := by
  have h8 := hS.2.1
  refine s_aload_n (pc' := 1) dX6_isSoWith_0 rfl lg0 rfl ?_
  refine s_getRv (pc' := 4) (v := .ref 18) dX6_isSoWith_1 rfl flX6_32 ly0 (by decide) rfl rfl ?_
  refine s_aload_n (pc' := 5) dX6_isSoWith_4 rfl lg0 rfl ?_
  refine s_getRv (pc' := 8) (v := .ref 10) dX6_isSoWith_5 rfl flX6_28 ly0 (by decide) rfl rfl ?_
  refine c_X3_becomes_18_10  (pc' := 11) dX6_isSoWith_8 rfl lkX6_120 (by omega) (Nat.le_of_ble_eq_true rfl) hS (fun m1 hS1 f1 => ?_)
  have t1 : thf mem m1 := fun j h3 h4 h5 => f1 j (by omega)
  refine s_aload_n (pc' := 12) dX6_isSoWith_11 rfl lg0 rfl ?_
  refine s_getRv (pc' := 15) (v := .ref 18) dX6_isSoWith_12 rfl flX6_32 ly0 (by decide) rfl rfl ?_
  refine s_iload_n (pc' := 16) dX6_isSoWith_15 rfl lg3 ?_
  refine c_X3_valuesOf_3 (b := 18) (pc' := 19) dX6_isSoWith_16 rfl lkX6_72 (by omega) (Nat.le_of_ble_eq_true rfl) (Or.inr (Or.inl rfl)) ?_
  refine s_iload_n (pc' := 20) dX6_isSoWith_19 rfl lg2 ?_
  refine s_iload (pc' := 22) dX6_isSoWith_20 rfl lg4 ?_
  refine s_iastN (pc' := 23) dX6_isSoWith_22 rfl ly21 (by omega) (by decide) ?_
  refine s_aload_n (pc' := 24) dX6_isSoWith_23 rfl lg0 rfl ?_
  refine s_aload_n (pc' := 25) dX6_isSoWith_24 rfl lg1 rfl ?_
  refine s_iload_n (pc' := 26) dX6_isSoWith_25 rfl lg2 ?_
  have t2 : thf mem (am_up m1 (18 + 3) a v) := t1.tr (fun q h3 h4 h5 => if_neg (by omega))
  refine c_X6_firstOtherwise  (pc' := 29) dX6_isSoWith_26 rfl lkX6_196 (by omega) (Nat.le_of_ble_eq_true rfl) hj (hS1.up (w := 3) (by decide)) (hT.thf t2) hw ha (hR.thf t2) (fun m3 t3 => ?_)
  have K2 := K m3 (t2.tr t3)
  have h40 := hR.2.2.1
  refine s_iconst (pc' := 30) dX6_isSoWith_29 rfl iconst_m1 ?_
  refine s_icmp_ne (pc' := 33) (tgt := 37) dX6_isSoWith_30 rfl (by decide) (fun c1 => ?_) (fun c1 => ?_)
  · skip
    rw [oth_m1 h40] at c1
    rw [if_neg c1] at K2
    refine s_iconst (pc' := 38) dX6_isSoWith_37 rfl iconst_0 ?_
    refine s_iret dX6_isSoWith_38 rfl (by decide) ?_
    exact K2
  · skip
    rw [oth_m1 h40] at c1
    rw [if_pos c1] at K2
    refine s_iconst (pc' := 34) dX6_isSoWith_33 rfl iconst_1 ?_
    refine s_goto (tgt := 38) dX6_isSoWith_34 (by decide) ?_
    refine s_iret dX6_isSoWith_38 rfl (by decide) ?_
    exact K2
theorem c_X6_isSoWith_3 {z : Zz} {d kc ks : Nat} {mi : MI} {pc pc' : Nat} {L S : List Value} {Q : Option Value → Lay → Mem → Prop} {rf : Nat → Value} {tl : Lay} {mem : Mem}  {j n w nt a sz : Nat} {σ : Nat → Nat → Int32} {td so v : Int32} {it : Nat → Int32} {T : Nat → Nat → List Int32} {idx : Nat} (hd : decode mi.2.1 pc = .ok (.invokevirtual idx, 3)) (hp : pc + 3 = pc') (hlk : Cond.methodLink mi.1.cls idx yX6_isSoWith ∈ wok) (hdd : 5 + 1 ≤ d) (hcat : (S.map (fun v => v.category)).sum ≤ 8) (hj : j < 4) (hS : isS 10 mem σ n td (nI w)) (hT : isTT rf tl mem nt T) (hw : w < nt) (ha : a < n) (hR : isR mem j so sz it) (K : ∀ mem', thf mem mem' → Sim z d kc ks mi pc' L (.int (if son (u2 σ 3 a v) n td (T w) a it sz then 1 else 0) :: S) (LAY rf tl) mem' Q) : Sim z d kc ks mi pc L (.int v :: .int 3 :: .int (nI a) :: .ref (39 + 2 * j) :: .ref 0 :: S) (LAY rf tl) mem Q :=
  s_invV (d2 := 5) hd hp okX6_isSoWith hlk inX6_isSoWith seX6_isSoWith hdd (Nat.zero_add _) (Nat.zero_add _) rfl rfl ly0 rfl hcat (Nat.le_of_ble_eq_true rfl) (m_X6_isSoWith_3 (Nat.le_refl _) hj hS hT hw ha hR K)
set_option maxHeartbeats 4000000 in
theorem m_X6_isSoWith_5 {z : Zz} {d : Nat} {Q : Option Value → Lay → Mem → Prop} {rf : Nat → Value} {tl : Lay} {mem : Mem}  {j n w nt a sz : Nat} {σ : Nat → Nat → Int32} {td so v : Int32} {it : Nat → Int32} {T : Nat → Nat → List Int32} (hdd : 5 ≤ d) (hj : j < 4) (hS : isS 10 mem σ n td (nI w)) (hT : isTT rf tl mem nt T) (hw : w < nt) (ha : a < n) (hR : isR mem j so sz it) (K : ∀ mem', thf mem mem' → Q (some (.int (if son (u2 σ 0 a v) n td (T w) a it sz then 1 else 0))) (LAY rf tl) mem') : Sim z d 0 0 mX6_isSoWith 0 [.ref 0, .ref (39 + 2 * j), .int (nI a), .int 5, .int v] [] (LAY rf tl) mem Q := by
  have h8 := hS.2.1
  refine s_aload_n (pc' := 1) dX6_isSoWith_0 rfl lg0 rfl ?_
  refine s_getRv (pc' := 4) (v := .ref 18) dX6_isSoWith_1 rfl flX6_32 ly0 (by decide) rfl rfl ?_
  refine s_aload_n (pc' := 5) dX6_isSoWith_4 rfl lg0 rfl ?_
  refine s_getRv (pc' := 8) (v := .ref 10) dX6_isSoWith_5 rfl flX6_28 ly0 (by decide) rfl rfl ?_
  refine c_X3_becomes_18_10  (pc' := 11) dX6_isSoWith_8 rfl lkX6_120 (by omega) (Nat.le_of_ble_eq_true rfl) hS (fun m1 hS1 f1 => ?_)
  have t1 : thf mem m1 := fun j h3 h4 h5 => f1 j (by omega)
  refine s_aload_n (pc' := 12) dX6_isSoWith_11 rfl lg0 rfl ?_
  refine s_getRv (pc' := 15) (v := .ref 18) dX6_isSoWith_12 rfl flX6_32 ly0 (by decide) rfl rfl ?_
  refine s_iload_n (pc' := 16) dX6_isSoWith_15 rfl lg3 ?_
  refine c_X3_valuesOf_5 (b := 18) (pc' := 19) dX6_isSoWith_16 rfl lkX6_72 (by omega) (Nat.le_of_ble_eq_true rfl) (Or.inr (Or.inl rfl)) ?_
  refine s_iload_n (pc' := 20) dX6_isSoWith_19 rfl lg2 ?_
  refine s_iload (pc' := 22) dX6_isSoWith_20 rfl lg4 ?_
  refine s_iastN (pc' := 23) dX6_isSoWith_22 rfl ly23 (by omega) (by decide) ?_
  refine s_aload_n (pc' := 24) dX6_isSoWith_23 rfl lg0 rfl ?_
  refine s_aload_n (pc' := 25) dX6_isSoWith_24 rfl lg1 rfl ?_
  refine s_iload_n (pc' := 26) dX6_isSoWith_25 rfl lg2 ?_
  have t2 : thf mem (am_up m1 (18 + 5) a v) := t1.tr (fun q h3 h4 h5 => if_neg (by omega))
  refine c_X6_firstOtherwise  (pc' := 29) dX6_isSoWith_26 rfl lkX6_196 (by omega) (Nat.le_of_ble_eq_true rfl) hj hS1.upK (hT.thf t2) hw ha (hR.thf t2) (fun m3 t3 => ?_)
  have K2 := K m3 (t2.tr t3)
  have h40 := hR.2.2.1
  refine s_iconst (pc' := 30) dX6_isSoWith_29 rfl iconst_m1 ?_
  refine s_icmp_ne (pc' := 33) (tgt := 37) dX6_isSoWith_30 rfl (by decide) (fun c1 => ?_) (fun c1 => ?_)
  · skip
    rw [oth_m1 h40] at c1
    rw [if_neg c1] at K2
    refine s_iconst (pc' := 38) dX6_isSoWith_37 rfl iconst_0 ?_
    refine s_iret dX6_isSoWith_38 rfl (by decide) ?_
    exact K2
  · skip
    rw [oth_m1 h40] at c1
    rw [if_pos c1] at K2
    refine s_iconst (pc' := 34) dX6_isSoWith_33 rfl iconst_1 ?_
    refine s_goto (tgt := 38) dX6_isSoWith_34 (by decide) ?_
    refine s_iret dX6_isSoWith_38 rfl (by decide) ?_
    exact K2
theorem c_X6_isSoWith_5 {z : Zz} {d kc ks : Nat} {mi : MI} {pc pc' : Nat} {L S : List Value} {Q : Option Value → Lay → Mem → Prop} {rf : Nat → Value} {tl : Lay} {mem : Mem}  {j n w nt a sz : Nat} {σ : Nat → Nat → Int32} {td so v : Int32} {it : Nat → Int32} {T : Nat → Nat → List Int32} {idx : Nat} (hd : decode mi.2.1 pc = .ok (.invokevirtual idx, 3)) (hp : pc + 3 = pc') (hlk : Cond.methodLink mi.1.cls idx yX6_isSoWith ∈ wok) (hdd : 5 + 1 ≤ d) (hcat : (S.map (fun v => v.category)).sum ≤ 8) (hj : j < 4) (hS : isS 10 mem σ n td (nI w)) (hT : isTT rf tl mem nt T) (hw : w < nt) (ha : a < n) (hR : isR mem j so sz it) (K : ∀ mem', thf mem mem' → Sim z d kc ks mi pc' L (.int (if son (u2 σ 0 a v) n td (T w) a it sz then 1 else 0) :: S) (LAY rf tl) mem' Q) : Sim z d kc ks mi pc L (.int v :: .int 5 :: .int (nI a) :: .ref (39 + 2 * j) :: .ref 0 :: S) (LAY rf tl) mem Q :=
  s_invV (d2 := 5) hd hp okX6_isSoWith hlk inX6_isSoWith seX6_isSoWith hdd (Nat.zero_add _) (Nat.zero_add _) rfl rfl ly0 rfl hcat (Nat.le_of_ble_eq_true rfl) (m_X6_isSoWith_5 (Nat.le_refl _) hj hS hT hw ha hR K)
theorem nI_gtN {a b : Nat} (ha : a < 1000) (hb : b < 1000) : (nI a < nI b) = (a < b) := propext (nI_ltI (by omega) (by omega))
set_option maxHeartbeats 4000000 in
theorem m_X6_whichAreSo_1 {z : Zz} {d : Nat} {Q : Option Value → Lay → Mem → Prop} {rf : Nat → Value} {tl : Lay} {mem : Mem}  {j n w nt a sz : Nat} {σ : Nat → Nat → Int32} {td so : Int32} {it : Nat → Int32} {T : Nat → Nat → List Int32} (hdd : 6 ≤ d) (hj : j < 4) (hS : isS 10 mem σ n td (nI w)) (hT : isTT rf tl mem nt T) (hw : w < nt) (ha : a < n) (hR : isR mem j so sz it) (K : ∀ mem', thf mem mem' → Q (some (.int (bo (fun v => son (u2 σ 1 a (nI v)) n td (T w) a it sz) 10))) (LAY rf tl) mem') : Sim z d 0 0 mX6_whichAreSo 0 [.ref 0, .ref (39 + 2 * j), .int (nI a), .int 1, .float 0, .float 0] [] (LAY rf tl) mem Q := by
  refine s_iconst (pc' := 1) dX6_whichAreSo_0 rfl iconst_0 ?_
  refine s_istore (pc' := 3) dX6_whichAreSo_1 rfl (Nat.le_of_ble_eq_true rfl) rfl ls4 ?_
  refine s_iconst (pc' := 4) dX6_whichAreSo_3 rfl iconst_0 ?_
  refine s_istore (pc' := 6) dX6_whichAreSo_4 rfl (Nat.le_of_ble_eq_true rfl) rfl ls5 ?_
  have loop : ∀ (q i : Nat) (x : Int32) (m : Mem), i + q = 10 → x = bo (fun v => son (u2 σ 1 a (nI v)) n td (T w) a it sz) i → thf mem m → Sim z d 0 0 mX6_whichAreSo 6 [.ref 0, .ref (39 + 2 * j), .int (nI a), .int 1, .int x, .int (nI i)] [] (LAY rf tl) m Q := by
    intro q
    induction q with
    | zero =>
      intro i x m hi hx hm
      have : i = 10 := by omega
      subst this
      have K2 := K m hm
      rw [← hx] at K2
      refine s_iload (pc' := 8) dX6_whichAreSo_6 rfl lg5 ?_
      refine s_gGre (pc' := 11) dX6_whichAreSo_8 rfl kfX6_64 ?_
      refine s_iload_n (pc' := 12) dX6_whichAreSo_11 rfl lg3 ?_
      refine s_tald0v (pc' := 13) (v := 9) dX6_whichAreSo_12 rfl (by unfold vp_in; decide) (by decide) ?_
      refine s_icmp_gt (pc' := 16) (tgt := 43) dX6_whichAreSo_13 rfl (by decide) (fun _ => ?_) (fun c9 => absurd (by decide) c9)
      refine s_iload (pc' := 45) dX6_whichAreSo_43 rfl lg4 ?_
      refine s_iret dX6_whichAreSo_45 rfl (vp_nar_int _) ?_
      exact K2
    | succ q ih =>
      intro i x m hi hx hm
      refine s_iload (pc' := 8) dX6_whichAreSo_6 rfl lg5 ?_
      refine s_gGre (pc' := 11) dX6_whichAreSo_8 rfl kfX6_64 ?_
      refine s_iload_n (pc' := 12) dX6_whichAreSo_11 rfl lg3 ?_
      refine s_tald0v (pc' := 13) (v := 9) dX6_whichAreSo_12 rfl (by unfold vp_in; decide) (by decide) ?_
      refine s_icmp_gt (pc' := 16) (tgt := 43) dX6_whichAreSo_13 rfl (by decide) (fun c9 => absurd c9 (fun q => by have := (nI_ltI (a := 9) (b := i) (by omega) (by omega)).mp q; omega)) (fun _ => ?_)
      refine s_aload_n (pc' := 17) dX6_whichAreSo_16 rfl lg0 rfl ?_
      refine s_aload_n (pc' := 18) dX6_whichAreSo_17 rfl lg1 rfl ?_
      refine s_iload_n (pc' := 19) dX6_whichAreSo_18 rfl lg2 ?_
      refine s_iload_n (pc' := 20) dX6_whichAreSo_19 rfl lg3 ?_
      refine s_iload (pc' := 22) dX6_whichAreSo_20 rfl lg5 ?_
      refine c_X6_isSoWith_1  (pc' := 25) dX6_whichAreSo_22 rfl lkX6_272 (by omega) (Nat.le_of_ble_eq_true rfl) hj (hS.thf hm) (hT.thf hm) hw ha (hR.thf hm) (fun m2 t2 => ?_)
      by_cases hs : son (u2 σ 1 a (nI i)) n td (T w) a it sz = true
      · rw [if_pos hs]
        refine s_if_eq (pc' := 28) (tgt := 37) dX6_whichAreSo_25 rfl (by decide) (fun c9 => absurd c9 (by decide)) (fun _ => ?_)
        refine s_iload (pc' := 30) dX6_whichAreSo_28 rfl lg4 ?_
        refine s_iconst (pc' := 31) dX6_whichAreSo_30 rfl iconst_1 ?_
        refine s_iload (pc' := 33) dX6_whichAreSo_31 rfl lg5 ?_
        refine s_ishl (pc' := 34) dX6_whichAreSo_33 rfl ?_
        refine s_ior (pc' := 35) dX6_whichAreSo_34 rfl ?_
        refine s_istore (pc' := 37) dX6_whichAreSo_35 rfl (Nat.le_of_ble_eq_true rfl) rfl ls4 ?_
        refine s_iincN (pc' := 40) dX6_whichAreSo_37 rfl lg5 rfl ls5 ?_
        refine s_goto (tgt := 6) dX6_whichAreSo_40 (by decide) ?_
        exact ih (i + 1) _ m2 (by omega) (by simp [bo, hx, hs]) (hm.tr t2)
      · rw [if_neg hs]
        refine s_if_eq (pc' := 28) (tgt := 37) dX6_whichAreSo_25 rfl (by decide) (fun _ => ?_) (fun c9 => absurd (by decide) c9)
        refine s_iincN (pc' := 40) dX6_whichAreSo_37 rfl lg5 rfl ls5 ?_
        refine s_goto (tgt := 6) dX6_whichAreSo_40 (by decide) ?_
        exact ih (i + 1) _ m2 (by omega) (by simp [bo, hx, hs]) (hm.tr t2)
  exact loop 10 0 0 mem (by omega) rfl thf.rf
theorem c_X6_whichAreSo_1 {z : Zz} {d kc ks : Nat} {mi : MI} {pc pc' : Nat} {L S : List Value} {Q : Option Value → Lay → Mem → Prop} {rf : Nat → Value} {tl : Lay} {mem : Mem}  {j n w nt a sz : Nat} {σ : Nat → Nat → Int32} {td so : Int32} {it : Nat → Int32} {T : Nat → Nat → List Int32} {idx : Nat} (hd : decode mi.2.1 pc = .ok (.invokevirtual idx, 3)) (hp : pc + 3 = pc') (hlk : Cond.methodLink mi.1.cls idx yX6_whichAreSo ∈ wok) (hdd : 6 + 1 ≤ d) (hcat : (S.map (fun v => v.category)).sum ≤ 8) (hj : j < 4) (hS : isS 10 mem σ n td (nI w)) (hT : isTT rf tl mem nt T) (hw : w < nt) (ha : a < n) (hR : isR mem j so sz it) (K : ∀ mem', thf mem mem' → Sim z d kc ks mi pc' L (.int (bo (fun v => son (u2 σ 1 a (nI v)) n td (T w) a it sz) 10) :: S) (LAY rf tl) mem' Q) : Sim z d kc ks mi pc L (.int 1 :: .int (nI a) :: .ref (39 + 2 * j) :: .ref 0 :: S) (LAY rf tl) mem Q :=
  s_invV (d2 := 6) hd hp okX6_whichAreSo hlk inX6_whichAreSo seX6_whichAreSo hdd (Nat.zero_add _) (Nat.zero_add _) rfl rfl ly0 rfl hcat (Nat.le_of_ble_eq_true rfl) (m_X6_whichAreSo_1 (Nat.le_refl _) hj hS hT hw ha hR K)
set_option maxHeartbeats 4000000 in
theorem m_X6_whichAreSo_3 {z : Zz} {d : Nat} {Q : Option Value → Lay → Mem → Prop} {rf : Nat → Value} {tl : Lay} {mem : Mem}  {j n w nt a sz : Nat} {σ : Nat → Nat → Int32} {td so : Int32} {it : Nat → Int32} {T : Nat → Nat → List Int32} (hdd : 6 ≤ d) (hj : j < 4) (hS : isS 10 mem σ n td (nI w)) (hT : isTT rf tl mem nt T) (hw : w < nt) (ha : a < n) (hR : isR mem j so sz it) (K : ∀ mem', thf mem mem' → Q (some (.int (bo (fun v => son (u2 σ 3 a (nI v)) n td (T w) a it sz) 12))) (LAY rf tl) mem') : Sim z d 0 0 mX6_whichAreSo 0 [.ref 0, .ref (39 + 2 * j), .int (nI a), .int 3, .float 0, .float 0] [] (LAY rf tl) mem Q := by
  refine s_iconst (pc' := 1) dX6_whichAreSo_0 rfl iconst_0 ?_
  refine s_istore (pc' := 3) dX6_whichAreSo_1 rfl (Nat.le_of_ble_eq_true rfl) rfl ls4 ?_
  refine s_iconst (pc' := 4) dX6_whichAreSo_3 rfl iconst_0 ?_
  refine s_istore (pc' := 6) dX6_whichAreSo_4 rfl (Nat.le_of_ble_eq_true rfl) rfl ls5 ?_
  have loop : ∀ (q i : Nat) (x : Int32) (m : Mem), i + q = 12 → x = bo (fun v => son (u2 σ 3 a (nI v)) n td (T w) a it sz) i → thf mem m → Sim z d 0 0 mX6_whichAreSo 6 [.ref 0, .ref (39 + 2 * j), .int (nI a), .int 3, .int x, .int (nI i)] [] (LAY rf tl) m Q := by
    intro q
    induction q with
    | zero =>
      intro i x m hi hx hm
      have : i = 12 := by omega
      subst this
      have K2 := K m hm
      rw [← hx] at K2
      refine s_iload (pc' := 8) dX6_whichAreSo_6 rfl lg5 ?_
      refine s_gGre (pc' := 11) dX6_whichAreSo_8 rfl kfX6_64 ?_
      refine s_iload_n (pc' := 12) dX6_whichAreSo_11 rfl lg3 ?_
      refine s_tald0v (pc' := 13) (v := 11) dX6_whichAreSo_12 rfl (by unfold vp_in; decide) (by decide) ?_
      refine s_icmp_gt (pc' := 16) (tgt := 43) dX6_whichAreSo_13 rfl (by decide) (fun _ => ?_) (fun c9 => absurd (by decide) c9)
      refine s_iload (pc' := 45) dX6_whichAreSo_43 rfl lg4 ?_
      refine s_iret dX6_whichAreSo_45 rfl (vp_nar_int _) ?_
      exact K2
    | succ q ih =>
      intro i x m hi hx hm
      refine s_iload (pc' := 8) dX6_whichAreSo_6 rfl lg5 ?_
      refine s_gGre (pc' := 11) dX6_whichAreSo_8 rfl kfX6_64 ?_
      refine s_iload_n (pc' := 12) dX6_whichAreSo_11 rfl lg3 ?_
      refine s_tald0v (pc' := 13) (v := 11) dX6_whichAreSo_12 rfl (by unfold vp_in; decide) (by decide) ?_
      refine s_icmp_gt (pc' := 16) (tgt := 43) dX6_whichAreSo_13 rfl (by decide) (fun c9 => absurd c9 (fun q => by have := (nI_ltI (a := 11) (b := i) (by omega) (by omega)).mp q; omega)) (fun _ => ?_)
      refine s_aload_n (pc' := 17) dX6_whichAreSo_16 rfl lg0 rfl ?_
      refine s_aload_n (pc' := 18) dX6_whichAreSo_17 rfl lg1 rfl ?_
      refine s_iload_n (pc' := 19) dX6_whichAreSo_18 rfl lg2 ?_
      refine s_iload_n (pc' := 20) dX6_whichAreSo_19 rfl lg3 ?_
      refine s_iload (pc' := 22) dX6_whichAreSo_20 rfl lg5 ?_
      refine c_X6_isSoWith_3  (pc' := 25) dX6_whichAreSo_22 rfl lkX6_272 (by omega) (Nat.le_of_ble_eq_true rfl) hj (hS.thf hm) (hT.thf hm) hw ha (hR.thf hm) (fun m2 t2 => ?_)
      by_cases hs : son (u2 σ 3 a (nI i)) n td (T w) a it sz = true
      · rw [if_pos hs]
        refine s_if_eq (pc' := 28) (tgt := 37) dX6_whichAreSo_25 rfl (by decide) (fun c9 => absurd c9 (by decide)) (fun _ => ?_)
        refine s_iload (pc' := 30) dX6_whichAreSo_28 rfl lg4 ?_
        refine s_iconst (pc' := 31) dX6_whichAreSo_30 rfl iconst_1 ?_
        refine s_iload (pc' := 33) dX6_whichAreSo_31 rfl lg5 ?_
        refine s_ishl (pc' := 34) dX6_whichAreSo_33 rfl ?_
        refine s_ior (pc' := 35) dX6_whichAreSo_34 rfl ?_
        refine s_istore (pc' := 37) dX6_whichAreSo_35 rfl (Nat.le_of_ble_eq_true rfl) rfl ls4 ?_
        refine s_iincN (pc' := 40) dX6_whichAreSo_37 rfl lg5 rfl ls5 ?_
        refine s_goto (tgt := 6) dX6_whichAreSo_40 (by decide) ?_
        exact ih (i + 1) _ m2 (by omega) (by simp [bo, hx, hs]) (hm.tr t2)
      · rw [if_neg hs]
        refine s_if_eq (pc' := 28) (tgt := 37) dX6_whichAreSo_25 rfl (by decide) (fun _ => ?_) (fun c9 => absurd (by decide) c9)
        refine s_iincN (pc' := 40) dX6_whichAreSo_37 rfl lg5 rfl ls5 ?_
        refine s_goto (tgt := 6) dX6_whichAreSo_40 (by decide) ?_
        exact ih (i + 1) _ m2 (by omega) (by simp [bo, hx, hs]) (hm.tr t2)
  exact loop 12 0 0 mem (by omega) rfl thf.rf
theorem c_X6_whichAreSo_3 {z : Zz} {d kc ks : Nat} {mi : MI} {pc pc' : Nat} {L S : List Value} {Q : Option Value → Lay → Mem → Prop} {rf : Nat → Value} {tl : Lay} {mem : Mem}  {j n w nt a sz : Nat} {σ : Nat → Nat → Int32} {td so : Int32} {it : Nat → Int32} {T : Nat → Nat → List Int32} {idx : Nat} (hd : decode mi.2.1 pc = .ok (.invokevirtual idx, 3)) (hp : pc + 3 = pc') (hlk : Cond.methodLink mi.1.cls idx yX6_whichAreSo ∈ wok) (hdd : 6 + 1 ≤ d) (hcat : (S.map (fun v => v.category)).sum ≤ 8) (hj : j < 4) (hS : isS 10 mem σ n td (nI w)) (hT : isTT rf tl mem nt T) (hw : w < nt) (ha : a < n) (hR : isR mem j so sz it) (K : ∀ mem', thf mem mem' → Sim z d kc ks mi pc' L (.int (bo (fun v => son (u2 σ 3 a (nI v)) n td (T w) a it sz) 12) :: S) (LAY rf tl) mem' Q) : Sim z d kc ks mi pc L (.int 3 :: .int (nI a) :: .ref (39 + 2 * j) :: .ref 0 :: S) (LAY rf tl) mem Q :=
  s_invV (d2 := 6) hd hp okX6_whichAreSo hlk inX6_whichAreSo seX6_whichAreSo hdd (Nat.zero_add _) (Nat.zero_add _) rfl rfl ly0 rfl hcat (Nat.le_of_ble_eq_true rfl) (m_X6_whichAreSo_3 (Nat.le_refl _) hj hS hT hw ha hR K)
set_option maxHeartbeats 4000000 in
theorem m_X6_whichAreSo_5 {z : Zz} {d : Nat} {Q : Option Value → Lay → Mem → Prop} {rf : Nat → Value} {tl : Lay} {mem : Mem}  {j n w nt a sz : Nat} {σ : Nat → Nat → Int32} {td so : Int32} {it : Nat → Int32} {T : Nat → Nat → List Int32} (hdd : 6 ≤ d) (hj : j < 4) (hS : isS 10 mem σ n td (nI w)) (hT : isTT rf tl mem nt T) (hw : w < nt) (ha : a < n) (hR : isR mem j so sz it) (K : ∀ mem', thf mem mem' → Q (some (.int (bo (fun v => son (u2 σ 0 a (nI v)) n td (T w) a it sz) 6))) (LAY rf tl) mem') : Sim z d 0 0 mX6_whichAreSo 0 [.ref 0, .ref (39 + 2 * j), .int (nI a), .int 5, .float 0, .float 0] [] (LAY rf tl) mem Q := by
  refine s_iconst (pc' := 1) dX6_whichAreSo_0 rfl iconst_0 ?_
  refine s_istore (pc' := 3) dX6_whichAreSo_1 rfl (Nat.le_of_ble_eq_true rfl) rfl ls4 ?_
  refine s_iconst (pc' := 4) dX6_whichAreSo_3 rfl iconst_0 ?_
  refine s_istore (pc' := 6) dX6_whichAreSo_4 rfl (Nat.le_of_ble_eq_true rfl) rfl ls5 ?_
  have loop : ∀ (q i : Nat) (x : Int32) (m : Mem), i + q = 6 → x = bo (fun v => son (u2 σ 0 a (nI v)) n td (T w) a it sz) i → thf mem m → Sim z d 0 0 mX6_whichAreSo 6 [.ref 0, .ref (39 + 2 * j), .int (nI a), .int 5, .int x, .int (nI i)] [] (LAY rf tl) m Q := by
    intro q
    induction q with
    | zero =>
      intro i x m hi hx hm
      have : i = 6 := by omega
      subst this
      have K2 := K m hm
      rw [← hx] at K2
      refine s_iload (pc' := 8) dX6_whichAreSo_6 rfl lg5 ?_
      refine s_gGre (pc' := 11) dX6_whichAreSo_8 rfl kfX6_64 ?_
      refine s_iload_n (pc' := 12) dX6_whichAreSo_11 rfl lg3 ?_
      refine s_tald0v (pc' := 13) (v := 5) dX6_whichAreSo_12 rfl (by unfold vp_in; decide) (by decide) ?_
      refine s_icmp_gt (pc' := 16) (tgt := 43) dX6_whichAreSo_13 rfl (by decide) (fun _ => ?_) (fun c9 => absurd (by decide) c9)
      refine s_iload (pc' := 45) dX6_whichAreSo_43 rfl lg4 ?_
      refine s_iret dX6_whichAreSo_45 rfl (vp_nar_int _) ?_
      exact K2
    | succ q ih =>
      intro i x m hi hx hm
      refine s_iload (pc' := 8) dX6_whichAreSo_6 rfl lg5 ?_
      refine s_gGre (pc' := 11) dX6_whichAreSo_8 rfl kfX6_64 ?_
      refine s_iload_n (pc' := 12) dX6_whichAreSo_11 rfl lg3 ?_
      refine s_tald0v (pc' := 13) (v := 5) dX6_whichAreSo_12 rfl (by unfold vp_in; decide) (by decide) ?_
      refine s_icmp_gt (pc' := 16) (tgt := 43) dX6_whichAreSo_13 rfl (by decide) (fun c9 => absurd c9 (fun q => by have := (nI_ltI (a := 5) (b := i) (by omega) (by omega)).mp q; omega)) (fun _ => ?_)
      refine s_aload_n (pc' := 17) dX6_whichAreSo_16 rfl lg0 rfl ?_
      refine s_aload_n (pc' := 18) dX6_whichAreSo_17 rfl lg1 rfl ?_
      refine s_iload_n (pc' := 19) dX6_whichAreSo_18 rfl lg2 ?_
      refine s_iload_n (pc' := 20) dX6_whichAreSo_19 rfl lg3 ?_
      refine s_iload (pc' := 22) dX6_whichAreSo_20 rfl lg5 ?_
      refine c_X6_isSoWith_5  (pc' := 25) dX6_whichAreSo_22 rfl lkX6_272 (by omega) (Nat.le_of_ble_eq_true rfl) hj (hS.thf hm) (hT.thf hm) hw ha (hR.thf hm) (fun m2 t2 => ?_)
      by_cases hs : son (u2 σ 0 a (nI i)) n td (T w) a it sz = true
      · rw [if_pos hs]
        refine s_if_eq (pc' := 28) (tgt := 37) dX6_whichAreSo_25 rfl (by decide) (fun c9 => absurd c9 (by decide)) (fun _ => ?_)
        refine s_iload (pc' := 30) dX6_whichAreSo_28 rfl lg4 ?_
        refine s_iconst (pc' := 31) dX6_whichAreSo_30 rfl iconst_1 ?_
        refine s_iload (pc' := 33) dX6_whichAreSo_31 rfl lg5 ?_
        refine s_ishl (pc' := 34) dX6_whichAreSo_33 rfl ?_
        refine s_ior (pc' := 35) dX6_whichAreSo_34 rfl ?_
        refine s_istore (pc' := 37) dX6_whichAreSo_35 rfl (Nat.le_of_ble_eq_true rfl) rfl ls4 ?_
        refine s_iincN (pc' := 40) dX6_whichAreSo_37 rfl lg5 rfl ls5 ?_
        refine s_goto (tgt := 6) dX6_whichAreSo_40 (by decide) ?_
        exact ih (i + 1) _ m2 (by omega) (by simp [bo, hx, hs]) (hm.tr t2)
      · rw [if_neg hs]
        refine s_if_eq (pc' := 28) (tgt := 37) dX6_whichAreSo_25 rfl (by decide) (fun _ => ?_) (fun c9 => absurd (by decide) c9)
        refine s_iincN (pc' := 40) dX6_whichAreSo_37 rfl lg5 rfl ls5 ?_
        refine s_goto (tgt := 6) dX6_whichAreSo_40 (by decide) ?_
        exact ih (i + 1) _ m2 (by omega) (by simp [bo, hx, hs]) (hm.tr t2)
  exact loop 6 0 0 mem (by omega) rfl thf.rf
theorem c_X6_whichAreSo_5 {z : Zz} {d kc ks : Nat} {mi : MI} {pc pc' : Nat} {L S : List Value} {Q : Option Value → Lay → Mem → Prop} {rf : Nat → Value} {tl : Lay} {mem : Mem}  {j n w nt a sz : Nat} {σ : Nat → Nat → Int32} {td so : Int32} {it : Nat → Int32} {T : Nat → Nat → List Int32} {idx : Nat} (hd : decode mi.2.1 pc = .ok (.invokevirtual idx, 3)) (hp : pc + 3 = pc') (hlk : Cond.methodLink mi.1.cls idx yX6_whichAreSo ∈ wok) (hdd : 6 + 1 ≤ d) (hcat : (S.map (fun v => v.category)).sum ≤ 8) (hj : j < 4) (hS : isS 10 mem σ n td (nI w)) (hT : isTT rf tl mem nt T) (hw : w < nt) (ha : a < n) (hR : isR mem j so sz it) (K : ∀ mem', thf mem mem' → Sim z d kc ks mi pc' L (.int (bo (fun v => son (u2 σ 0 a (nI v)) n td (T w) a it sz) 6) :: S) (LAY rf tl) mem' Q) : Sim z d kc ks mi pc L (.int 5 :: .int (nI a) :: .ref (39 + 2 * j) :: .ref 0 :: S) (LAY rf tl) mem Q :=
  s_invV (d2 := 6) hd hp okX6_whichAreSo hlk inX6_whichAreSo seX6_whichAreSo hdd (Nat.zero_add _) (Nat.zero_add _) rfl rfl ly0 rfl hcat (Nat.le_of_ble_eq_true rfl) (m_X6_whichAreSo_5 (Nat.le_refl _) hj hS hT hw ha hR K)
set_option maxHeartbeats 4000000 in
theorem m_X6_howManySharpsAreSo {z : Zz} {d : Nat} {Q : Option Value → Lay → Mem → Prop} {rf : Nat → Value} {tl : Lay} {mem : Mem}  {j n w nt a sz : Nat} {σ : Nat → Nat → Int32} {td so : Int32} {it : Nat → Int32} {T : Nat → Nat → List Int32} (hdd : 6 ≤ d) (hj : j < 4) (hS : isS 10 mem σ n td (nI w)) (hT : isTT rf tl mem nt T) (hw : w < nt) (ha : a < n) (hR : isR mem j so sz it) (K : ∀ mem', thf mem mem' → Q (some (.int (nI (ct (fun v => son (u2 σ 2 a (nI v)) n td (T w) a it sz) 100)))) (LAY rf tl) mem') : Sim z d 0 0 mX6_howManySharpsAreSo 0 [.ref 0, .ref (39 + 2 * j), .int (nI a), .float 0, .float 0] [] (LAY rf tl) mem Q := by
  refine s_iconst (pc' := 1) dX6_howManySharpsAreSo_0 rfl iconst_0 ?_
  refine s_istore_n (pc' := 2) dX6_howManySharpsAreSo_1 rfl (Nat.le_of_ble_eq_true rfl) rfl ls3 ?_
  refine s_iconst (pc' := 3) dX6_howManySharpsAreSo_2 rfl iconst_0 ?_
  refine s_istore (pc' := 5) dX6_howManySharpsAreSo_3 rfl (Nat.le_of_ble_eq_true rfl) rfl ls4 ?_
  have loop : ∀ (q i x : Nat) (m : Mem), i + q = 100 → x = ct (fun v => son (u2 σ 2 a (nI v)) n td (T w) a it sz) i → thf mem m → Sim z d 0 0 mX6_howManySharpsAreSo 5 [.ref 0, .ref (39 + 2 * j), .int (nI a), .int (nI x), .int (nI i)] [] (LAY rf tl) m Q := by
    intro q
    induction q with
    | zero =>
      intro i x m hi hx hm
      have : i = 100 := by omega
      subst this
      have K2 := K m hm
      rw [← hx] at K2
      refine s_iload (pc' := 7) dX6_howManySharpsAreSo_5 rfl lg4 ?_
      refine s_bipush (pc' := 9) dX6_howManySharpsAreSo_7 rfl bipush_99 ?_
      refine s_icmp_gt (pc' := 12) (tgt := 33) dX6_howManySharpsAreSo_9 rfl (by decide) (fun _ => ?_) (fun c9 => absurd (by decide) c9)
      refine s_iload_n (pc' := 34) dX6_howManySharpsAreSo_33 rfl lg3 ?_
      refine s_iret dX6_howManySharpsAreSo_34 rfl (vp_nar_int _) ?_
      exact K2
    | succ q ih =>
      intro i x m hi hx hm
      refine s_iload (pc' := 7) dX6_howManySharpsAreSo_5 rfl lg4 ?_
      refine s_bipush (pc' := 9) dX6_howManySharpsAreSo_7 rfl bipush_99 ?_
      refine s_icmp_gt (pc' := 12) (tgt := 33) dX6_howManySharpsAreSo_9 rfl (by decide) (fun c9 => absurd c9 (fun q => by have := (nI_ltI (a := 99) (b := i) (by omega) (by omega)).mp q; omega)) (fun _ => ?_)
      refine s_aload_n (pc' := 13) dX6_howManySharpsAreSo_12 rfl lg0 rfl ?_
      refine s_aload_n (pc' := 14) dX6_howManySharpsAreSo_13 rfl lg1 rfl ?_
      refine s_iload_n (pc' := 15) dX6_howManySharpsAreSo_14 rfl lg2 ?_
      refine s_iconst (pc' := 16) dX6_howManySharpsAreSo_15 rfl iconst_2 ?_
      refine s_iload (pc' := 18) dX6_howManySharpsAreSo_16 rfl lg4 ?_
      refine c_X6_isSoWith_2  (pc' := 21) dX6_howManySharpsAreSo_18 rfl lkX6_272 (by omega) (Nat.le_of_ble_eq_true rfl) hj (hS.thf hm) (hT.thf hm) hw ha (hR.thf hm) (fun m2 t2 => ?_)
      by_cases hs : son (u2 σ 2 a (nI i)) n td (T w) a it sz = true
      · rw [if_pos hs]
        refine s_if_eq (pc' := 24) (tgt := 27) dX6_howManySharpsAreSo_21 rfl (by decide) (fun c9 => absurd c9 (by decide)) (fun _ => ?_)
        refine s_iincN (pc' := 27) dX6_howManySharpsAreSo_24 rfl lg3 rfl ls3 ?_
        refine s_iincN (pc' := 30) dX6_howManySharpsAreSo_27 rfl lg4 rfl ls4 ?_
        refine s_goto (tgt := 5) dX6_howManySharpsAreSo_30 (by decide) ?_
        exact ih (i + 1) _ m2 (by omega) (by simp [ct, hx, hs]) (hm.tr t2)
      · rw [if_neg hs]
        refine s_if_eq (pc' := 24) (tgt := 27) dX6_howManySharpsAreSo_21 rfl (by decide) (fun _ => ?_) (fun c9 => absurd (by decide) c9)
        refine s_iincN (pc' := 30) dX6_howManySharpsAreSo_27 rfl lg4 rfl ls4 ?_
        refine s_goto (tgt := 5) dX6_howManySharpsAreSo_30 (by decide) ?_
        exact ih (i + 1) _ m2 (by omega) (by simp [ct, hx, hs]) (hm.tr t2)
  exact loop 100 0 0 mem (by omega) rfl thf.rf
theorem c_X6_howManySharpsAreSo {z : Zz} {d kc ks : Nat} {mi : MI} {pc pc' : Nat} {L S : List Value} {Q : Option Value → Lay → Mem → Prop} {rf : Nat → Value} {tl : Lay} {mem : Mem}  {j n w nt a sz : Nat} {σ : Nat → Nat → Int32} {td so : Int32} {it : Nat → Int32} {T : Nat → Nat → List Int32} {idx : Nat} (hd : decode mi.2.1 pc = .ok (.invokevirtual idx, 3)) (hp : pc + 3 = pc') (hlk : Cond.methodLink mi.1.cls idx yX6_howManySharpsAreSo ∈ wok) (hdd : 6 + 1 ≤ d) (hcat : (S.map (fun v => v.category)).sum ≤ 8) (hj : j < 4) (hS : isS 10 mem σ n td (nI w)) (hT : isTT rf tl mem nt T) (hw : w < nt) (ha : a < n) (hR : isR mem j so sz it) (K : ∀ mem', thf mem mem' → Sim z d kc ks mi pc' L (.int (nI (ct (fun v => son (u2 σ 2 a (nI v)) n td (T w) a it sz) 100)) :: S) (LAY rf tl) mem' Q) : Sim z d kc ks mi pc L (.int (nI a) :: .ref (39 + 2 * j) :: .ref 0 :: S) (LAY rf tl) mem Q :=
  s_invV (d2 := 6) hd hp okX6_howManySharpsAreSo hlk inX6_howManySharpsAreSo seX6_howManySharpsAreSo hdd (Nat.zero_add _) (Nat.zero_add _) rfl rfl ly0 rfl hcat (Nat.le_of_ble_eq_true rfl) (m_X6_howManySharpsAreSo (Nat.le_refl _) hj hS hT hw ha hR K)
def lsR (f : Nat → Bool) : Int32 := if fk f 100 < 100 then nI (fk f 100) else -1
set_option maxHeartbeats 4000000 in
theorem m_X6_leastSharpThatIsSo {z : Zz} {d : Nat} {Q : Option Value → Lay → Mem → Prop} {rf : Nat → Value} {tl : Lay} {mem : Mem}  {j n w nt a sz : Nat} {σ : Nat → Nat → Int32} {td so : Int32} {it : Nat → Int32} {T : Nat → Nat → List Int32} (hdd : 6 ≤ d) (hj : j < 4) (hS : isS 10 mem σ n td (nI w)) (hT : isTT rf tl mem nt T) (hw : w < nt) (ha : a < n) (hR : isR mem j so sz it) (K : ∀ mem', thf mem mem' → Q (some (.int (lsR (fun v => son (u2 σ 2 a (nI v)) n td (T w) a it sz)))) (LAY rf tl) mem') : Sim z d 0 0 mX6_leastSharpThatIsSo 0 [.ref 0, .ref (39 + 2 * j), .int (nI a), .float 0] [] (LAY rf tl) mem Q := by
  refine s_iconst (pc' := 1) dX6_leastSharpThatIsSo_0 rfl iconst_0 ?_
  refine s_istore_n (pc' := 2) dX6_leastSharpThatIsSo_1 rfl (Nat.le_of_ble_eq_true rfl) rfl ls3 ?_
  have loop : ∀ (q i : Nat) (m : Mem), i + q = 100 → (∀ q, q < i → (fun v => son (u2 σ 2 a (nI v)) n td (T w) a it sz) q = false) → thf mem m → Sim z d 0 0 mX6_leastSharpThatIsSo 2 [.ref 0, .ref (39 + 2 * j), .int (nI a), .int (nI i)] [] (LAY rf tl) m Q := by
    intro q
    induction q with
    | zero =>
      intro i m hi hno hm
      have : i = 100 := by omega
      subst this
      have K2 := K m hm
      rw [lsR, fk_none hno, if_neg (by omega)] at K2
      refine s_iload_n (pc' := 3) dX6_leastSharpThatIsSo_2 rfl lg3 ?_
      refine s_bipush (pc' := 5) dX6_leastSharpThatIsSo_3 rfl bipush_99 ?_
      refine s_icmp_gt (pc' := 8) (tgt := 27) dX6_leastSharpThatIsSo_5 rfl (by decide) (fun _ => ?_) (fun c9 => absurd (by decide) c9)
      refine s_iconst (pc' := 28) dX6_leastSharpThatIsSo_27 rfl iconst_m1 ?_
      refine s_iret dX6_leastSharpThatIsSo_28 rfl (vp_nar_int _) ?_
      exact K2
    | succ q ih =>
      intro i m hi hno hm
      refine s_iload_n (pc' := 3) dX6_leastSharpThatIsSo_2 rfl lg3 ?_
      refine s_bipush (pc' := 5) dX6_leastSharpThatIsSo_3 rfl bipush_99 ?_
      refine s_icmp_gt (pc' := 8) (tgt := 27) dX6_leastSharpThatIsSo_5 rfl (by decide) (fun c9 => absurd c9 (fun q => by have := (nI_ltI (a := 99) (b := i) (by omega) (by omega)).mp q; omega)) (fun _ => ?_)
      refine s_aload_n (pc' := 9) dX6_leastSharpThatIsSo_8 rfl lg0 rfl ?_
      refine s_aload_n (pc' := 10) dX6_leastSharpThatIsSo_9 rfl lg1 rfl ?_
      refine s_iload_n (pc' := 11) dX6_leastSharpThatIsSo_10 rfl lg2 ?_
      refine s_iconst (pc' := 12) dX6_leastSharpThatIsSo_11 rfl iconst_2 ?_
      refine s_iload_n (pc' := 13) dX6_leastSharpThatIsSo_12 rfl lg3 ?_
      refine c_X6_isSoWith_2  (pc' := 16) dX6_leastSharpThatIsSo_13 rfl lkX6_272 (by omega) (Nat.le_of_ble_eq_true rfl) hj (hS.thf hm) (hT.thf hm) hw ha (hR.thf hm) (fun m2 t2 => ?_)
      by_cases hs : son (u2 σ 2 a (nI i)) n td (T w) a it sz = true
      · rw [if_pos hs]
        have K2 := K m2 (hm.tr t2)
        rw [lsR, fk_at (m := 100) hno hs (by omega), if_pos (by omega)] at K2
        refine s_if_eq (pc' := 19) (tgt := 21) dX6_leastSharpThatIsSo_16 rfl (by decide) (fun c9 => absurd c9 (by decide)) (fun _ => ?_)
        refine s_iload_n (pc' := 20) dX6_leastSharpThatIsSo_19 rfl lg3 ?_
        refine s_iret dX6_leastSharpThatIsSo_20 rfl (vp_nar_int _) ?_
        exact K2
      · rw [if_neg hs]
        refine s_if_eq (pc' := 19) (tgt := 21) dX6_leastSharpThatIsSo_16 rfl (by decide) (fun _ => ?_) (fun c9 => absurd (by decide) c9)
        refine s_iincN (pc' := 24) dX6_leastSharpThatIsSo_21 rfl lg3 rfl ls3 ?_
        refine s_goto (tgt := 2) dX6_leastSharpThatIsSo_24 (by decide) ?_
        refine ih (i + 1) m2 (by omega) (fun q hq => ?_) (hm.tr t2)
        rcases Nat.lt_or_ge q i with q1 | q1
        · exact hno q q1
        · have : q = i := by omega
          rw [this]; exact Bool.eq_false_iff.mpr hs
  exact loop 100 0 mem (by omega) (fun j hj => absurd hj (Nat.not_lt_zero j)) thf.rf
theorem c_X6_leastSharpThatIsSo {z : Zz} {d kc ks : Nat} {mi : MI} {pc pc' : Nat} {L S : List Value} {Q : Option Value → Lay → Mem → Prop} {rf : Nat → Value} {tl : Lay} {mem : Mem}  {j n w nt a sz : Nat} {σ : Nat → Nat → Int32} {td so : Int32} {it : Nat → Int32} {T : Nat → Nat → List Int32} {idx : Nat} (hd : decode mi.2.1 pc = .ok (.invokevirtual idx, 3)) (hp : pc + 3 = pc') (hlk : Cond.methodLink mi.1.cls idx yX6_leastSharpThatIsSo ∈ wok) (hdd : 6 + 1 ≤ d) (hcat : (S.map (fun v => v.category)).sum ≤ 8) (hj : j < 4) (hS : isS 10 mem σ n td (nI w)) (hT : isTT rf tl mem nt T) (hw : w < nt) (ha : a < n) (hR : isR mem j so sz it) (K : ∀ mem', thf mem mem' → Sim z d kc ks mi pc' L (.int (lsR (fun v => son (u2 σ 2 a (nI v)) n td (T w) a it sz)) :: S) (LAY rf tl) mem' Q) : Sim z d kc ks mi pc L (.int (nI a) :: .ref (39 + 2 * j) :: .ref 0 :: S) (LAY rf tl) mem Q :=
  s_invV (d2 := 6) hd hp okX6_leastSharpThatIsSo hlk inX6_leastSharpThatIsSo seX6_leastSharpThatIsSo hdd (Nat.zero_add _) (Nat.zero_add _) rfl rfl ly0 rfl hcat (Nat.le_of_ble_eq_true rfl) (m_X6_leastSharpThatIsSo (Nat.le_refl _) hj hS hT hw ha hR K)

