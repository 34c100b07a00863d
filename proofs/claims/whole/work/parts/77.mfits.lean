/-! ===== the Model: what was told of one, read back ===== -/
theorem isMR.mdf {mem mem' : Mem} {so : Nat → Int32} {sz : Nat → Nat} {it : Nat → Nat → Int32} (h : isMR mem so sz it) (hk : mdf mem mem') : isMR mem' so sz it := by
  unfold isMR at h ⊢
  rw [hk 61 (by decide) (by decide) (by decide) (by decide), hk 62 (by decide) (by decide) (by decide) (by decide), hk 63 (by decide) (by decide) (by decide) (by decide)]
  exact h
set_option maxHeartbeats 4000000 in
theorem m_X7_otherwise {z : Zz} {d : Nat} {Q : Option Value → Lay → Mem → Prop} {rf : Nat → Value} {tl : Lay} {mem : Mem}  {n w nt a j : Nat} {σ : Nat → Nat → Int32} {td : Int32} {T : Nat → Nat → List Int32} {so : Nat → Int32} {sz : Nat → Nat} {it : Nat → Nat → Int32} (hdd : 5 ≤ d) (hM : isM 48 mem σ n td (nI w)) (hT : isTM mem nt T) (hw : w < nt) (hR : isMR mem so sz it) (hj : j < 4) (ha : a < n) (K : ∀ mem', mtf mem mem' → mem' 66 = mem 66 → Q (some (.int (othR σ n td (T w) a (it j) (sz j)))) (LAY rf tl) mem') : Sim z d 0 0 mX7_otherwise 0 [.ref 47, .int (nI j), .int (nI a), .float 0, .float 0] [] (LAY rf tl) mem Q := by
  have h8 := hM.2.1
  have h40 := (hR j hj).2.2.1
  refine s_aload_n (pc' := 1) dX7_otherwise_0 rfl lg0 rfl ?_
  refine s_aload_n (pc' := 2) dX7_otherwise_1 rfl lg0 rfl ?_
  refine s_getRv (pc' := 5) (v := .ref 50) dX7_otherwise_2 rfl flX7_16 ly47 (by decide) rfl rfl ?_
  refine c_X7_keep  (pc' := 8) dX7_otherwise_5 rfl lkX7_223 (by omega) (Nat.le_of_ble_eq_true rfl) ly50 (by decide) (fun m1 g1 g2 => ?_)
  refine s_iconst (pc' := 9) dX7_otherwise_8 rfl iconst_m1 ?_
  refine s_istore_n (pc' := 10) dX7_otherwise_9 rfl (Nat.le_of_ble_eq_true rfl) rfl ls3 ?_
  refine s_iconst (pc' := 11) dX7_otherwise_10 rfl iconst_0 ?_
  refine s_istore (pc' := 13) dX7_otherwise_11 rfl (Nat.le_of_ble_eq_true rfl) rfl ls4 ?_
  have out : ∀ (x i : Int32) (m : Mem), othR σ n td (T w) a (it j) (sz j) = x → mth mem m → m 66 = mem 66 → Sim z d 0 0 mX7_otherwise 67 [.ref 47, .int (nI j), .int (nI a), .int x, .int i] [] (LAY rf tl) m Q := by
    intro x i m hx hm h66
    rw [hx] at K
    refine s_aload_n (pc' := 68) dX7_otherwise_67 rfl lg0 rfl ?_
    refine s_aload_n (pc' := 69) dX7_otherwise_68 rfl lg0 rfl ?_
    refine s_getRv (pc' := 72) (v := .ref 50) dX7_otherwise_69 rfl flX7_16 ly47 (by decide) rfl rfl ?_
    refine c_X7_lay  (pc' := 75) dX7_otherwise_72 rfl lkX7_233 (by omega) (Nat.le_of_ble_eq_true rfl) ly50 (by decide) (fun m2 g3 g4 => ?_)
    refine s_iload_n (pc' := 76) dX7_otherwise_75 rfl lg3 ?_
    refine s_iret dX7_otherwise_76 rfl (vp_nar_int _) ?_
    exact K m2 (hm.lay g3 g4) (by rw [g3 66 (by decide)]; exact h66)
  have loop : ∀ (k i : Nat) (m : Mem), i + k = sz j → isM 48 m (sg n (T w) σ td i) n (td + nI i) (nI w) → mth mem m → m 66 = mem 66 → (∀ q, q < i → (!decide (sg n (T w) σ td q 2 a = it j q)) = false) → Sim z d 0 0 mX7_otherwise 13 [.ref 47, .int (nI j), .int (nI a), .int (-1), .int (nI i)] [] (LAY rf tl) m Q := by
    intro k
    induction k with
    | zero =>
      intro i m hi hMm hm h66 hno
      have hic : i = sz j := by omega
      subst hic
      obtain ⟨r1, r2, r3, r4⟩ := (hR.mdf hm.1) j hj
      refine s_iload (pc' := 15) dX7_otherwise_13 rfl lg4 ?_
      refine s_aload_n (pc' := 16) dX7_otherwise_15 rfl lg0 rfl ?_
      refine s_getRv (pc' := 19) (v := .ref 62) dX7_otherwise_16 rfl flX7_61 ly47 (by decide) rfl rfl ?_
      refine s_iload_n (pc' := 20) dX7_otherwise_19 rfl lg1 ?_
      refine s_ialdNv (pc' := 21) (v := nI (sz j)) dX7_otherwise_20 rfl ly62 (by omega) (by decide) r2 ?_
      refine s_icmp_ge (pc' := 24) (tgt := 67) dX7_otherwise_21 rfl (by decide) (fun _ => ?_) (fun c9 => absurd (nI_le (Nat.le_refl _) (by omega)) c9)
      exact out (-1) _ m (by rw [othR, othN, fk_none hno, if_neg (by omega)]) hm h66
    | succ k ih =>
      intro i m hi hMm hm h66 hno
      obtain ⟨r1, r2, r3, r4⟩ := (hR.mdf hm.1) j hj
      refine s_iload (pc' := 15) dX7_otherwise_13 rfl lg4 ?_
      refine s_aload_n (pc' := 16) dX7_otherwise_15 rfl lg0 rfl ?_
      refine s_getRv (pc' := 19) (v := .ref 62) dX7_otherwise_16 rfl flX7_61 ly47 (by decide) rfl rfl ?_
      refine s_iload_n (pc' := 20) dX7_otherwise_19 rfl lg1 ?_
      refine s_ialdNv (pc' := 21) (v := nI (sz j)) dX7_otherwise_20 rfl ly62 (by omega) (by decide) r2 ?_
      refine s_icmp_ge (pc' := 24) (tgt := 67) dX7_otherwise_21 rfl (by decide) (fun c9 => absurd c9 (nI_ge (by omega) (by omega))) (fun _ => ?_)
      refine s_iload_n (pc' := 25) dX7_otherwise_24 rfl lg3 ?_
      refine s_iconst (pc' := 26) dX7_otherwise_25 rfl iconst_m1 ?_
      refine s_icmp_ne (pc' := 29) (tgt := 67) dX7_otherwise_26 rfl (by decide) (fun c9 => absurd (rfl) c9) (fun _ => ?_)
      refine s_aload_n (pc' := 30) dX7_otherwise_29 rfl lg0 rfl ?_
      refine s_iload_n (pc' := 31) dX7_otherwise_30 rfl lg2 ?_
      refine s_iconst (pc' := 32) dX7_otherwise_31 rfl iconst_2 ?_
      refine c_X7_of_2  (pc' := 35) dX7_otherwise_32 rfl lkX7_108 (by omega) (Nat.le_of_ble_eq_true rfl) hMm ha ?_
      refine s_aload_n (pc' := 36) dX7_otherwise_35 rfl lg0 rfl ?_
      refine s_getRv (pc' := 39) (v := .ref 63) dX7_otherwise_36 rfl flX7_64 ly47 (by decide) rfl rfl ?_
      refine s_bipush (pc' := 41) dX7_otherwise_39 rfl bipush_40 ?_
      refine s_iload_n (pc' := 42) dX7_otherwise_41 rfl lg1 ?_
      refine s_imul (pc' := 43) dX7_otherwise_42 rfl ?_
      refine s_iload (pc' := 45) dX7_otherwise_43 rfl lg4 ?_
      refine s_iadd (pc' := 46) dX7_otherwise_45 rfl ?_
      rw [mI40]
      refine s_ialdNv (pc' := 47) (v := it j i) dX7_otherwise_46 rfl ly63 (by omega) (by decide) (r4 i (by omega)) ?_
      refine s_icmp_ne (pc' := 50) (tgt := 54) dX7_otherwise_47 rfl (by decide) (fun c1 => ?_) (fun c1 => ?_)
      · skip
        have e := fk_at (m := sz j) hno (by rw [decide_eq_false c1]; rfl) (by omega)
        have eo : othR σ n td (T w) a (it j) (sz j) = nI i := by rw [othR, othN, e, if_pos (by omega)]
        refine s_iload (pc' := 56) dX7_otherwise_54 rfl lg4 ?_
        refine s_istore_n (pc' := 57) dX7_otherwise_56 rfl (Nat.le_of_ble_eq_true rfl) rfl ls3 ?_
        refine s_aload_n (pc' := 58) dX7_otherwise_57 rfl lg0 rfl ?_
        refine c_X7_goTide  (pc' := 61) dX7_otherwise_58 rfl lkX7_217 (by omega) (Nat.le_of_ble_eq_true rfl) hMm (hT.mth hm) hw (fun m2 h2 f2 => ?_)
        refine s_iincN (pc' := 64) dX7_otherwise_61 rfl lg4 rfl ls4 ?_
        refine s_goto (tgt := 13) dX7_otherwise_64 (by decide) ?_
        obtain ⟨r1', r2', r3', r4'⟩ := (hR.mdf (hm.tide f2).1) j hj
        refine s_iload (pc' := 15) dX7_otherwise_13 rfl lg4 ?_
        refine s_aload_n (pc' := 16) dX7_otherwise_15 rfl lg0 rfl ?_
        refine s_getRv (pc' := 19) (v := .ref 62) dX7_otherwise_16 rfl flX7_61 ly47 (by decide) rfl rfl ?_
        refine s_iload_n (pc' := 20) dX7_otherwise_19 rfl lg1 ?_
        refine s_ialdNv (pc' := 21) (v := nI (sz j)) dX7_otherwise_20 rfl ly62 (by omega) (by decide) r2' ?_
        refine s_icmp_ge (pc' := 24) (tgt := 67) dX7_otherwise_21 rfl (by decide) (fun c2 => ?_) (fun c2 => ?_)
        · exact out _ _ m2 eo (hm.tide f2) (by rw [f2 66 (by decide) (by decide) (by decide) (by decide)]; exact h66)
        · skip
          refine s_iload_n (pc' := 25) dX7_otherwise_24 rfl lg3 ?_
          refine s_iconst (pc' := 26) dX7_otherwise_25 rfl iconst_m1 ?_
          refine s_icmp_ne (pc' := 29) (tgt := 67) dX7_otherwise_26 rfl (by decide) (fun _ => ?_) (fun c9 => absurd c9 (nI_m1 (by omega)))
          exact out _ _ m2 eo (hm.tide f2) (by rw [f2 66 (by decide) (by decide) (by decide) (by decide)]; exact h66)
      · skip
        refine s_iconst (pc' := 51) dX7_otherwise_50 rfl iconst_m1 ?_
        refine s_goto (tgt := 56) dX7_otherwise_51 (by decide) ?_
        refine s_istore_n (pc' := 57) dX7_otherwise_56 rfl (Nat.le_of_ble_eq_true rfl) rfl ls3 ?_
        refine s_aload_n (pc' := 58) dX7_otherwise_57 rfl lg0 rfl ?_
        refine c_X7_goTide  (pc' := 61) dX7_otherwise_58 rfl lkX7_217 (by omega) (Nat.le_of_ble_eq_true rfl) hMm (hT.mth hm) hw (fun m2 h2 f2 => ?_)
        refine s_iincN (pc' := 64) dX7_otherwise_61 rfl lg4 rfl ls4 ?_
        refine s_goto (tgt := 13) dX7_otherwise_64 (by decide) ?_
        refine ih (i + 1) m2 (by omega) ?_ (hm.tide f2) (by rw [f2 66 (by decide) (by decide) (by decide) (by decide)]; exact h66) (fun q hq => ?_)
        · rw [sg_succ, ← td_succ]
          exact h2
        · rcases Nat.lt_or_ge q i with q1 | q1
          · exact hno q q1
          · have : q = i := by omega
            rw [this, decide_eq_true c1]; rfl
  exact loop (sz j) 0 m1 (by omega) (by rw [td_0]; exact hM.keep g1) (mth.keep g1 g2) (g1 66 (by decide)) (fun q hq => absurd hq (Nat.not_lt_zero q))
theorem c_X7_otherwise {z : Zz} {d kc ks : Nat} {mi : MI} {pc pc' : Nat} {L S : List Value} {Q : Option Value → Lay → Mem → Prop} {rf : Nat → Value} {tl : Lay} {mem : Mem}  {n w nt a j : Nat} {σ : Nat → Nat → Int32} {td : Int32} {T : Nat → Nat → List Int32} {so : Nat → Int32} {sz : Nat → Nat} {it : Nat → Nat → Int32} {idx : Nat} (hd : decode mi.2.1 pc = .ok (.invokevirtual idx, 3)) (hp : pc + 3 = pc') (hlk : Cond.methodLink mi.1.cls idx yX7_otherwise ∈ wok) (hdd : 5 + 1 ≤ d) (hcat : (S.map (fun v => v.category)).sum ≤ 8) (hM : isM 48 mem σ n td (nI w)) (hT : isTM mem nt T) (hw : w < nt) (hR : isMR mem so sz it) (hj : j < 4) (ha : a < n) (K : ∀ mem', mtf mem mem' → mem' 66 = mem 66 → Sim z d kc ks mi pc' L (.int (othR σ n td (T w) a (it j) (sz j)) :: S) (LAY rf tl) mem' Q) : Sim z d kc ks mi pc L (.int (nI a) :: .int (nI j) :: .ref 47 :: S) (LAY rf tl) mem Q :=
  s_invV (d2 := 5) hd hp okX7_otherwise hlk inX7_otherwise seX7_otherwise hdd (Nat.zero_add _) (Nat.zero_add _) rfl rfl ly47 rfl hcat (Nat.le_of_ble_eq_true rfl) (m_X7_otherwise (Nat.le_refl _) hM hT hw hR hj ha K)
theorem mtf.fit {mem m : Mem} {q : Nat} {x : Int32} (h : mdf mem m) : mdf mem (am_up m 66 q x) := fun j h1 h2 h3 h4 => by rw [upN h4]; exact h j h1 h2 h3 h4
section MR2
variable {z : Zz} {d kc ks : Nat} {mi : MI} {pc pc' : Nat} {L S : List Value} {lay : Lay} {mem : Mem} {Q : Option Value → Lay → Mem → Prop}
theorem s_zaldNv {n id k : Nat} {rf : Nat → Value} {v : Int32} (hd : decode mi.2.1 pc = .ok (.baload, 1)) (hp : pc + 1 = pc') (hc : lay[id]? = some (10, n, rf)) (hk : k < n) (hn : n ≤ 2147483648) (hv : mem id k = v) (K : Sim z d kc ks mi pc' L (.int v :: S) lay mem Q) : Sim z d kc ks mi pc L (.int (nI k) :: .ref id :: S) lay mem Q := s_zaldN hd hp hc hk hn (by rw [hv]; exact K)
theorem s_caldNv {n id k : Nat} {rf : Nat → Value} {v : Int32} (hd : decode mi.2.1 pc = .ok (.caload, 1)) (hp : pc + 1 = pc') (hc : lay[id]? = some (9, n, rf)) (hk : k < n) (hn : n ≤ 2147483648) (hv : mem id k = v) (K : Sim z d kc ks mi pc' L (.int v :: S) lay mem Q) : Sim z d kc ks mi pc L (.int (nI k) :: .ref id :: S) lay mem Q := s_caldN hd hp hc hk hn (by rw [hv]; exact K)
end MR2
theorem zb {x : Int32} (h : x = 0 ∨ x = 1) : x &&& 1 = x := by rcases h with rfl | rfl <;> decide
set_option maxHeartbeats 4000000 in
theorem m_X7_fits {z : Zz} {d : Nat} {Q : Option Value → Lay → Mem → Prop} {rf : Nat → Value} {tl : Lay} {mem : Mem}  {n nt a j pl h : Nat} {td : Int32} {T : Nat → Nat → List Int32} {so : Nat → Int32} {sz : Nat → Nat} {it : Nat → Nat → Int32} {τ : Nat → Nat → Nat → Int32} {w : Nat → Nat} (hdd : 6 ≤ d) (hT : isTM mem nt T) (hR : isMR mem so sz it) (hj : j < 4) (ha : a < n) (hpl : pl < 43) (hh : h < 100) (hfam : ∀ v m, v ≤ h → (∀ k, k < 43 → k ≠ pl → m 48 k = mem 48 k) → m 48 pl = nI v → isM 48 m (τ v) n td (nI (w v)) ∧ w v < nt) (K : ∀ mem', mtf mem mem' → (∀ v, v ≤ h → mem' 66 v = bI (son (τ v) n td (T (w v)) a (it j) (sz j))) → Q (some (.int (bo (fun v => decide (v < 30) && son (τ v) n td (T (w v)) a (it j) (sz j)) (h + 1)))) (LAY rf tl) mem') : Sim z d 0 0 mX7_fits 0 [.ref 47, .int (nI j), .int (nI a), .int (nI pl), .int (nI h), .float 0, .float 0, .float 0] [] (LAY rf tl) mem Q := by
  have h40 := (hR j hj).2.2.1
  refine s_aload_n (pc' := 1) dX7_fits_0 rfl lg0 rfl ?_
  refine s_getRv (pc' := 4) (v := .ref 48) dX7_fits_1 rfl flX7_7 ly47 (by decide) rfl rfl ?_
  refine s_iload_n (pc' := 5) dX7_fits_4 rfl lg3 ?_
  refine s_ialdNv (pc' := 6) (v := mem 48 pl) dX7_fits_5 rfl ly48 (by omega) (by decide) rfl ?_
  refine s_istore (pc' := 8) dX7_fits_6 rfl (Nat.le_of_ble_eq_true rfl) rfl ls5 ?_
  refine s_iconst (pc' := 9) dX7_fits_8 rfl iconst_0 ?_
  refine s_istore (pc' := 11) dX7_fits_9 rfl (Nat.le_of_ble_eq_true rfl) rfl ls6 ?_
  refine s_iconst (pc' := 12) dX7_fits_11 rfl iconst_0 ?_
  refine s_istore (pc' := 14) dX7_fits_12 rfl (Nat.le_of_ble_eq_true rfl) rfl ls7 ?_
  have loop : ∀ (k i : Nat) (m : Mem), i + k = h + 1 → mdf mem m → (∀ k, k < 43 → k ≠ pl → m 48 k = mem 48 k) → (∀ v, v < i → m 66 v = bI (son (τ v) n td (T (w v)) a (it j) (sz j))) → Sim z d 0 0 mX7_fits 14 [.ref 47, .int (nI j), .int (nI a), .int (nI pl), .int (nI h), .int (mem 48 pl), .int (bo (fun v => decide (v < 30) && son (τ v) n td (T (w v)) a (it j) (sz j)) i), .int (nI i)] [] (LAY rf tl) m Q := by
    intro k
    induction k with
    | zero =>
      intro i m hi hm hk hf
      have hic : i = h + 1 := by omega
      subst hic
      refine s_iload (pc' := 16) dX7_fits_14 rfl lg7 ?_
      refine s_iload (pc' := 18) dX7_fits_16 rfl lg4 ?_
      refine s_icmp_gt (pc' := 21) (tgt := 87) dX7_fits_18 rfl (by decide) (fun _ => ?_) (fun c9 => absurd ((nI_ltI (a := h) (b := h + 1) (by omega) (by omega)).mpr (by omega)) c9)
      refine s_aload_n (pc' := 88) dX7_fits_87 rfl lg0 rfl ?_
      refine s_getRv (pc' := 91) (v := .ref 48) dX7_fits_88 rfl flX7_7 ly47 (by decide) rfl rfl ?_
      refine s_iload_n (pc' := 92) dX7_fits_91 rfl lg3 ?_
      refine s_iload (pc' := 94) dX7_fits_92 rfl lg5 ?_
      refine s_iastN (pc' := 95) dX7_fits_94 rfl ly48 (by omega) (by decide) ?_
      refine s_iload (pc' := 97) dX7_fits_95 rfl lg6 ?_
      refine s_iret dX7_fits_97 rfl (vp_nar_int _) ?_
      refine K _ ⟨fun j h1 h2 h3 h4 => by rw [upN h1]; exact hm j h1 h2 h3 h4, fun k hk2 => ?_⟩ (fun v hv => by rw [upN (by decide)]; exact hf v (by omega))
      rw [upE]
      by_cases e : k = pl
      · rw [e, udE]
      · rw [udN e]; exact hk k hk2 e
    | succ k ih =>
      intro i m hi hm hk hf
      have hm1 : mdf mem (am_up m 48 pl (nI i)) := fun j h1 h2 h3 h4 => by rw [upN h1]; exact hm j h1 h2 h3 h4
      obtain ⟨hM1, hw1⟩ := hfam i (am_up m 48 pl (nI i)) (by omega) (fun k q1 q2 => by rw [upE, udN q2]; exact hk k q1 q2) (by rw [upE, udE])
      have h1 := fun m' => ih (i + 1) m' (by omega)
      refine s_iload (pc' := 16) dX7_fits_14 rfl lg7 ?_
      refine s_iload (pc' := 18) dX7_fits_16 rfl lg4 ?_
      refine s_icmp_gt (pc' := 21) (tgt := 87) dX7_fits_18 rfl (by decide) (fun c9 => absurd c9 (fun q => by have := (nI_ltI (a := h) (b := i) (by omega) (by omega)).mp q; omega)) (fun _ => ?_)
      refine s_aload_n (pc' := 22) dX7_fits_21 rfl lg0 rfl ?_
      refine s_getRv (pc' := 25) (v := .ref 48) dX7_fits_22 rfl flX7_7 ly47 (by decide) rfl rfl ?_
      refine s_iload_n (pc' := 26) dX7_fits_25 rfl lg3 ?_
      refine s_iload (pc' := 28) dX7_fits_26 rfl lg7 ?_
      refine s_iastN (pc' := 29) dX7_fits_28 rfl ly48 (by omega) (by decide) ?_
      refine s_aload_n (pc' := 30) dX7_fits_29 rfl lg0 rfl ?_
      refine s_getRv (pc' := 33) (v := .ref 66) dX7_fits_30 rfl flX7_73 ly47 (by decide) rfl rfl ?_
      refine s_iload (pc' := 35) dX7_fits_33 rfl lg7 ?_
      refine s_aload_n (pc' := 36) dX7_fits_35 rfl lg0 rfl ?_
      refine s_iload_n (pc' := 37) dX7_fits_36 rfl lg1 ?_
      refine s_iload_n (pc' := 38) dX7_fits_37 rfl lg2 ?_
      refine c_X7_otherwise  (pc' := 41) dX7_fits_38 rfl lkX7_283 (by omega) (Nat.le_of_ble_eq_true rfl) hM1 (hT.mdf hm1) hw1 (hR.mdf hm1) hj ha (fun m2 t2 t66 => ?_)
      have rest : ∀ b : Bool, son (τ i) n td (T (w i)) a (it j) (sz j) = b → Sim z d 0 0 mX7_fits 50 [.ref 47, .int (nI j), .int (nI a), .int (nI pl), .int (nI h), .int (mem 48 pl), .int (bo (fun v => decide (v < 30) && son (τ v) n td (T (w v)) a (it j) (sz j)) i), .int (nI i)] [.int (bI b), .int (nI i), .ref 66] (LAY rf tl) m2 Q := by
        intro b hb
        have e1 : vp_nar .boolean (bI b) = bI b := by cases b <;> decide
        have hm3 : mdf mem (am_up m2 66 i (bI b)) := mtf.fit (hm1.tr t2.1)
        have hk3 : ∀ k, k < 43 → k ≠ pl → am_up m2 66 i (bI b) 48 k = mem 48 k := fun k q1 q2 => by rw [upN (by decide), t2.2 k q1, upE, udN q2]; exact hk k q1 q2
        have hf3 : ∀ v, v < i + 1 → am_up m2 66 i (bI b) 66 v = bI (son (τ v) n td (T (w v)) a (it j) (sz j)) := fun v hv => by
          rw [upE]
          by_cases e : v = i
          · rw [e, udE, hb]
          · rw [udN e, t66, upN (by decide)]; exact hf v (by omega)
        have h2 := h1 _ hm3 hk3 hf3
        have no : (decide (i < 30) && b) = false → Sim z d 0 0 mX7_fits 77 [.ref 47, .int (nI j), .int (nI a), .int (nI pl), .int (nI h), .int (mem 48 pl), .int (bo (fun v => decide (v < 30) && son (τ v) n td (T (w v)) a (it j) (sz j)) i), .int (nI i)] [.int (bo (fun v => decide (v < 30) && son (τ v) n td (T (w v)) a (it j) (sz j)) i)] (LAY rf tl) (am_up m2 66 i (bI b)) Q := by
          intro hf
          rw [← hb] at hf
          rw [bo_f (p := fun v => decide (v < 30) && son (τ v) n td (T (w v)) a (it j) (sz j)) hf] at h2
          refine s_iconst (pc' := 78) dX7_fits_77 rfl iconst_0 ?_
          refine s_ior (pc' := 79) dX7_fits_78 rfl ?_
          rw [or_0]
          refine s_istore (pc' := 81) dX7_fits_79 rfl (Nat.le_of_ble_eq_true rfl) rfl ls6 ?_
          refine s_iincN (pc' := 84) dX7_fits_81 rfl lg7 rfl ls7 ?_
          refine s_goto (tgt := 14) dX7_fits_84 (by decide) ?_
          exact h2
        refine s_zastN (pc' := 51) dX7_fits_50 rfl ly66 (by omega) (by decide) ?_
        rw [e1]
        refine s_iload (pc' := 53) dX7_fits_51 rfl lg6 ?_
        refine s_iload (pc' := 55) dX7_fits_53 rfl lg7 ?_
        refine s_bipush (pc' := 57) dX7_fits_55 rfl bipush_30 ?_
        rcases Nat.lt_or_ge i 30 with q | q
        · refine s_icmp_ge (pc' := 60) (tgt := 77) dX7_fits_57 rfl (by decide) (fun c9 => absurd c9 (fun c => by have := (nI_leI (a := 30) (b := i) (by omega) (by omega)).mp c; omega)) (fun _ => ?_)
          refine s_aload_n (pc' := 61) dX7_fits_60 rfl lg0 rfl ?_
          refine s_getRv (pc' := 64) (v := .ref 66) dX7_fits_61 rfl flX7_73 ly47 (by decide) rfl rfl ?_
          refine s_iload (pc' := 66) dX7_fits_64 rfl lg7 ?_
          refine s_zaldNv (pc' := 67) (v := bI b) dX7_fits_66 rfl ly66 (by omega) (by decide) (by rw [upE, udE]) ?_
          cases b with
          | true =>
            refine s_if_eq (pc' := 70) (tgt := 77) dX7_fits_67 rfl (by decide) (fun c9 => absurd c9 (by decide)) (fun _ => ?_)
            rw [bo_t (p := fun v => decide (v < 30) && son (τ v) n td (T (w v)) a (it j) (sz j)) (by rw [decide_eq_true q, hb]; rfl)] at h2
            refine s_iconst (pc' := 71) dX7_fits_70 rfl iconst_1 ?_
            refine s_iload (pc' := 73) dX7_fits_71 rfl lg7 ?_
            refine s_ishl (pc' := 74) dX7_fits_73 rfl ?_
            refine s_goto (tgt := 78) dX7_fits_74 (by decide) ?_
            refine s_ior (pc' := 79) dX7_fits_78 rfl ?_
            refine s_istore (pc' := 81) dX7_fits_79 rfl (Nat.le_of_ble_eq_true rfl) rfl ls6 ?_
            refine s_iincN (pc' := 84) dX7_fits_81 rfl lg7 rfl ls7 ?_
            refine s_goto (tgt := 14) dX7_fits_84 (by decide) ?_
            exact h2
          | false =>
            refine s_if_eq (pc' := 70) (tgt := 77) dX7_fits_67 rfl (by decide) (fun _ => ?_) (fun c9 => absurd (by decide) c9)
            exact no (by rw [Bool.and_false])
        · skip
          refine s_icmp_ge (pc' := 60) (tgt := 77) dX7_fits_57 rfl (by decide) (fun _ => ?_) (fun c9 => absurd ((nI_leI (a := 30) (b := i) (by omega) (by omega)).mpr q) c9)
          exact no (by rw [decide_eq_false (by omega), Bool.false_and])
      refine s_iconst (pc' := 42) dX7_fits_41 rfl iconst_m1 ?_
      refine s_icmp_ne (pc' := 45) (tgt := 49) dX7_fits_42 rfl (by decide) (fun c1 => ?_) (fun c1 => ?_)
      · skip
        rw [oth_m1 h40] at c1
        refine s_iconst (pc' := 50) dX7_fits_49 rfl iconst_0 ?_
        exact rest false (Bool.eq_false_iff.mpr c1)
      · skip
        rw [oth_m1 h40] at c1
        refine s_iconst (pc' := 46) dX7_fits_45 rfl iconst_1 ?_
        refine s_goto (tgt := 50) dX7_fits_46 (by decide) ?_
        exact rest true c1
  exact loop (h + 1) 0 mem (by omega) mdf.rf (fun _ _ _ => rfl) (fun v hv => absurd hv (Nat.not_lt_zero v))
theorem c_X7_fits {z : Zz} {d kc ks : Nat} {mi : MI} {pc pc' : Nat} {L S : List Value} {Q : Option Value → Lay → Mem → Prop} {rf : Nat → Value} {tl : Lay} {mem : Mem}  {n nt a j pl h : Nat} {td : Int32} {T : Nat → Nat → List Int32} {so : Nat → Int32} {sz : Nat → Nat} {it : Nat → Nat → Int32} {τ : Nat → Nat → Nat → Int32} {w : Nat → Nat} {idx : Nat} (hd : decode mi.2.1 pc = .ok (.invokevirtual idx, 3)) (hp : pc + 3 = pc') (hlk : Cond.methodLink mi.1.cls idx yX7_fits ∈ wok) (hdd : 6 + 1 ≤ d) (hcat : (S.map (fun v => v.category)).sum ≤ 8) (hT : isTM mem nt T) (hR : isMR mem so sz it) (hj : j < 4) (ha : a < n) (hpl : pl < 43) (hh : h < 100) (hfam : ∀ v m, v ≤ h → (∀ k, k < 43 → k ≠ pl → m 48 k = mem 48 k) → m 48 pl = nI v → isM 48 m (τ v) n td (nI (w v)) ∧ w v < nt) (K : ∀ mem', mtf mem mem' → (∀ v, v ≤ h → mem' 66 v = bI (son (τ v) n td (T (w v)) a (it j) (sz j))) → Sim z d kc ks mi pc' L (.int (bo (fun v => decide (v < 30) && son (τ v) n td (T (w v)) a (it j) (sz j)) (h + 1)) :: S) (LAY rf tl) mem' Q) : Sim z d kc ks mi pc L (.int (nI h) :: .int (nI pl) :: .int (nI a) :: .int (nI j) :: .ref 47 :: S) (LAY rf tl) mem Q :=
  s_invV (d2 := 6) hd hp okX7_fits hlk inX7_fits seX7_fits hdd (Nat.zero_add _) (Nat.zero_add _) rfl rfl ly47 rfl hcat (Nat.le_of_ble_eq_true rfl) (m_X7_fits (Nat.le_refl _) hT hR hj ha hpl hh hfam K)
theorem ct_pos {F : Nat → Bool} {m : Nat} : ct F (m + 1) = ct F m + (if F m then 1 else 0) := rfl
theorem mI5' {i : Nat} : 5 * nI i = nI (5 * i) := (Int32.ofNat_mul 5 i).symm
theorem fam_up {mem : Mem} {σ : Nat → Nat → Int32} {n a W w nt : Nat} {td : Int32} (hM : isM 48 mem σ n td (nI w)) (ha : a < n) (hW : W < 5) (hw : w < nt) : ∀ (h : Nat) (v : Nat) (m : Mem), v ≤ h → (∀ k, k < 43 → k ≠ 5 * a + W → m 48 k = mem 48 k) → m 48 (5 * a + W) = nI v → isM 48 m (u2 σ W a (nI v)) n td (nI w) ∧ w < nt := by
  intro h v m _ h1 h2
  have h8 := hM.2.1
  refine ⟨(hM.up (x := nI v) hW (by omega)).cp (fun k hk => ?_), hw⟩
  rw [upE]
  by_cases e : k = 5 * a + W
  · rw [e, udE, h2]
  · rw [udN e]; exact h1 k hk e
theorem fam_ru {mem : Mem} {σ : Nat → Nat → Int32} {n nt : Nat} {td ru : Int32} (hM : isM 48 mem σ n td ru) {h : Nat} (hh : h < nt) : ∀ (v : Nat) (m : Mem), v ≤ h → (∀ k, k < 43 → k ≠ 42 → m 48 k = mem 48 k) → m 48 42 = nI v → isM 48 m σ n td (nI v) ∧ v < nt := by
  intro v m hv h1 h2
  obtain ⟨a1, a2, a3, a4, a5⟩ := hM
  exact ⟨⟨by rw [h1 40 (by decide) (by decide)]; exact a1, a2, by rw [h1 41 (by decide) (by decide)]; exact a3, h2, fun i hi w hw => by rw [h1 _ (by omega) (by omega)]; exact a5 i hi w hw⟩, by omega⟩
set_option maxHeartbeats 4000000 in
theorem m_X7_sharpsBy {z : Zz} {d : Nat} {Q : Option Value → Lay → Mem → Prop} {rf : Nat → Value} {tl : Lay} {mem : Mem}  {n w nt a j : Nat} {σ : Nat → Nat → Int32} {td : Int32} {T : Nat → Nat → List Int32} {so : Nat → Int32} {sz : Nat → Nat} {it : Nat → Nat → Int32} {b : Int32} (hdd : 7 ≤ d) (hM : isM 48 mem σ n td (nI w)) (hT : isTM mem nt T) (hw : w < nt) (hR : isMR mem so sz it) (hj : j < 4) (ha : a < n) (K : ∀ mem', mtf mem mem' → Q (some (.int (if b = 0 then lsR (fun v => son (u2 σ 2 a (nI v)) n td (T w) a (it j) (sz j)) else nI (ct (fun v => son (u2 σ 2 a (nI v)) n td (T w) a (it j) (sz j)) 100)))) (LAY rf tl) mem') : Sim z d 0 0 mX7_sharpsBy 0 [.ref 47, .int (nI j), .int (nI a), .int b, .float 0, .float 0, .float 0] [] (LAY rf tl) mem Q := by
  have h8 := hM.2.1
  refine s_aload_n (pc' := 1) dX7_sharpsBy_0 rfl lg0 rfl ?_
  refine s_iload_n (pc' := 2) dX7_sharpsBy_1 rfl lg1 ?_
  refine s_iload_n (pc' := 3) dX7_sharpsBy_2 rfl lg2 ?_
  refine s_iconst (pc' := 4) dX7_sharpsBy_3 rfl iconst_5 ?_
  refine s_iload_n (pc' := 5) dX7_sharpsBy_4 rfl lg2 ?_
  refine s_imul (pc' := 6) dX7_sharpsBy_5 rfl ?_
  refine s_iconst (pc' := 7) dX7_sharpsBy_6 rfl iconst_2 ?_
  refine s_iadd (pc' := 8) dX7_sharpsBy_7 rfl ?_
  refine s_bipush (pc' := 10) dX7_sharpsBy_8 rfl bipush_99 ?_
  rw [mI5 (w := 2) (by decide)]
  refine c_X7_fits (h := 99) (τ := fun v => u2 σ 2 a (nI v)) (w := fun _ => w) (pc' := 13) dX7_sharpsBy_10 rfl lkX7_286 (by omega) (Nat.le_of_ble_eq_true rfl) hT hR hj ha (by omega) (by decide) (fun v m q1 q2 q3 => fam_up hM ha (by decide) hw 99 v m q1 q2 q3) (fun m1 t1 hf => ?_)
  have K2 := K m1 t1
  clear K
  obtain ⟨F, eF⟩ : ∃ F : Nat → Bool, F = fun v => son (u2 σ 2 a (nI v)) n td (T w) a (it j) (sz j) := ⟨_, rfl⟩
  have hF : ∀ v, v ≤ 99 → m1 66 v = bI (F v) := by rw [eF]; exact hf
  rw [← eF] at K2
  clear hf
  refine s_pop (pc' := 14) dX7_sharpsBy_13 rfl rfl ?_
  refine s_iconst (pc' := 15) dX7_sharpsBy_14 rfl iconst_0 ?_
  refine s_istore (pc' := 17) dX7_sharpsBy_15 rfl (Nat.le_of_ble_eq_true rfl) rfl ls4 ?_
  refine s_iconst (pc' := 18) dX7_sharpsBy_17 rfl iconst_m1 ?_
  refine s_istore (pc' := 20) dX7_sharpsBy_18 rfl (Nat.le_of_ble_eq_true rfl) rfl ls5 ?_
  refine s_bipush (pc' := 22) dX7_sharpsBy_20 rfl bipush_99 ?_
  refine s_istore (pc' := 24) dX7_sharpsBy_22 rfl (Nat.le_of_ble_eq_true rfl) rfl ls6 ?_
  have loop : ∀ (i c : Nat) (x : Int32), i ≤ 100 → c + ct F i = ct F 100 → ((x = -1 ∧ ∀ v, i ≤ v → v < 100 → F v = false) ∨ ∃ f, i ≤ f ∧ f < 100 ∧ F f = true ∧ (∀ v, i ≤ v → v < f → F v = false) ∧ x = nI f) → Sim z d 0 0 mX7_sharpsBy 24 [.ref 47, .int (nI j), .int (nI a), .int b, .int (nI c), .int x, .int (if i = 0 then -1 else nI (i - 1))] [] (LAY rf tl) m1 Q := by
    intro i
    induction i with
    | zero =>
      intro c x hi hc hx
      have ec : c = ct F 100 := by rw [← hc]; rfl
      have ex : x = lsR F := by
        rcases hx with ⟨e, h⟩ | ⟨f, -, h2, h3, h4, e⟩
        · rw [e, lsR, fk_none (fun k hk => h k (Nat.zero_le _) hk), if_neg (by omega)]
        · rw [e, lsR, fk_at (m := 100) (fun k hk => h4 k (Nat.zero_le _) hk) h3 h2, if_pos h2]
      rw [if_pos rfl]
      refine s_iload (pc' := 26) dX7_sharpsBy_24 rfl lg6 ?_
      refine s_if_lt (pc' := 29) (tgt := 74) dX7_sharpsBy_26 rfl (by decide) (fun _ => ?_) (fun c9 => absurd (by decide) c9)
      refine s_iload_n (pc' := 75) dX7_sharpsBy_74 rfl lg3 ?_
      refine s_if_eq (pc' := 78) (tgt := 83) dX7_sharpsBy_75 rfl (by decide) (fun c1 => ?_) (fun c1 => ?_)
      · skip
        rw [if_pos c1, ← ex] at K2
        refine s_iload (pc' := 85) dX7_sharpsBy_83 rfl lg5 ?_
        refine s_iret dX7_sharpsBy_85 rfl (vp_nar_int _) ?_
        exact K2
      · skip
        rw [if_neg c1, ← ec] at K2
        refine s_iload (pc' := 80) dX7_sharpsBy_78 rfl lg4 ?_
        refine s_goto (tgt := 85) dX7_sharpsBy_80 (by decide) ?_
        refine s_iret dX7_sharpsBy_85 rfl (vp_nar_int _) ?_
        exact K2
    | succ i ih =>
      intro c x hi hc hx
      rw [if_neg (Nat.succ_ne_zero i), Nat.add_sub_cancel]
      rw [ct] at hc
      have nxt : ∀ (c' : Nat) (x' : Int32), c' + ct F i = ct F 100 → ((x' = -1 ∧ ∀ v, i ≤ v → v < 100 → F v = false) ∨ ∃ f, i ≤ f ∧ f < 100 ∧ F f = true ∧ (∀ v, i ≤ v → v < f → F v = false) ∧ x' = nI f) → Sim z d 0 0 mX7_sharpsBy 68 [.ref 47, .int (nI j), .int (nI a), .int b, .int (nI c'), .int x', .int (nI i)] [] (LAY rf tl) m1 Q := by
        intro c' x' hc' hx'
        have h1 := ih c' x' (by omega) hc' hx'
        refine s_iinc (v := if i = 0 then -1 else nI (i - 1)) (pc' := 71) dX7_sharpsBy_68 rfl lg6 rfl (by
          rw [oim1]
          cases i with
          | zero => decide
          | succ i => rw [if_neg (Nat.succ_ne_zero i), Nat.add_sub_cancel]; exact pk_m1 i) ls6 ?_
        refine s_goto (tgt := 24) dX7_sharpsBy_71 (by decide) ?_
        exact h1
      refine s_iload (pc' := 26) dX7_sharpsBy_24 rfl lg6 ?_
      refine s_if_lt (pc' := 29) (tgt := 74) dX7_sharpsBy_26 rfl (by decide) (fun c9 => absurd c9 (nI_pos (by omega))) (fun _ => ?_)
      refine s_iload (pc' := 31) dX7_sharpsBy_29 rfl lg4 ?_
      refine s_aload_n (pc' := 32) dX7_sharpsBy_31 rfl lg0 rfl ?_
      refine s_getRv (pc' := 35) (v := .ref 66) dX7_sharpsBy_32 rfl flX7_73 ly47 (by decide) rfl rfl ?_
      refine s_iload (pc' := 37) dX7_sharpsBy_35 rfl lg6 ?_
      refine s_zaldNv (pc' := 38) (v := bI (F i)) dX7_sharpsBy_37 rfl ly66 (by omega) (by decide) (hF i (by omega)) ?_
      cases hFi : F i with
      | true =>
        rw [hFi, if_pos rfl] at hc
        refine s_if_eq (pc' := 41) (tgt := 45) dX7_sharpsBy_38 rfl (by decide) (fun c9 => absurd c9 (by decide)) (fun _ => ?_)
        refine s_iconst (pc' := 42) dX7_sharpsBy_41 rfl iconst_1 ?_
        refine s_goto (tgt := 46) dX7_sharpsBy_42 (by decide) ?_
        refine s_iadd (pc' := 47) dX7_sharpsBy_46 rfl ?_
        rw [nI_1]
        refine s_istore (pc' := 49) dX7_sharpsBy_47 rfl (Nat.le_of_ble_eq_true rfl) rfl ls4 ?_
        refine s_aload_n (pc' := 50) dX7_sharpsBy_49 rfl lg0 rfl ?_
        refine s_getRv (pc' := 53) (v := .ref 66) dX7_sharpsBy_50 rfl flX7_73 ly47 (by decide) rfl rfl ?_
        refine s_iload (pc' := 55) dX7_sharpsBy_53 rfl lg6 ?_
        refine s_zaldNv (pc' := 56) (v := bI true) dX7_sharpsBy_55 rfl ly66 (by omega) (by decide) (by rw [hF i (by omega), hFi]) ?_
        refine s_if_eq (pc' := 59) (tgt := 64) dX7_sharpsBy_56 rfl (by decide) (fun c9 => absurd c9 (by decide)) (fun _ => ?_)
        refine s_iload (pc' := 61) dX7_sharpsBy_59 rfl lg6 ?_
        refine s_goto (tgt := 66) dX7_sharpsBy_61 (by decide) ?_
        refine s_istore (pc' := 68) dX7_sharpsBy_66 rfl (Nat.le_of_ble_eq_true rfl) rfl ls5 ?_
        exact nxt (c + 1) (nI i) (by omega) (Or.inr ⟨i, Nat.le_refl _, by omega, hFi, fun v q1 q2 => by omega, rfl⟩)
      | false =>
        rw [hFi, if_neg Bool.false_ne_true] at hc
        refine s_if_eq (pc' := 41) (tgt := 45) dX7_sharpsBy_38 rfl (by decide) (fun _ => ?_) (fun c9 => absurd (by decide) c9)
        refine s_iconst (pc' := 46) dX7_sharpsBy_45 rfl iconst_0 ?_
        refine s_iadd (pc' := 47) dX7_sharpsBy_46 rfl ?_
        rw [show nI c + 0 = nI c from Int32.add_zero _]
        refine s_istore (pc' := 49) dX7_sharpsBy_47 rfl (Nat.le_of_ble_eq_true rfl) rfl ls4 ?_
        refine s_aload_n (pc' := 50) dX7_sharpsBy_49 rfl lg0 rfl ?_
        refine s_getRv (pc' := 53) (v := .ref 66) dX7_sharpsBy_50 rfl flX7_73 ly47 (by decide) rfl rfl ?_
        refine s_iload (pc' := 55) dX7_sharpsBy_53 rfl lg6 ?_
        refine s_zaldNv (pc' := 56) (v := bI false) dX7_sharpsBy_55 rfl ly66 (by omega) (by decide) (by rw [hF i (by omega), hFi]) ?_
        refine s_if_eq (pc' := 59) (tgt := 64) dX7_sharpsBy_56 rfl (by decide) (fun _ => ?_) (fun c9 => absurd (by decide) c9)
        refine s_iload (pc' := 66) dX7_sharpsBy_64 rfl lg5 ?_
        refine s_istore (pc' := 68) dX7_sharpsBy_66 rfl (Nat.le_of_ble_eq_true rfl) rfl ls5 ?_
        refine nxt c x (by omega) ?_
        rcases hx with ⟨e, h⟩ | ⟨f, h1, h2, h3, h4, e⟩
        · refine Or.inl ⟨e, fun v q1 q2 => ?_⟩
          by_cases q : v = i
          · rw [q]; exact hFi
          · exact h v (by omega) q2
        · refine Or.inr ⟨f, by omega, h2, h3, fun v q1 q2 => ?_, e⟩
          by_cases q : v = i
          · rw [q]; exact hFi
          · exact h4 v (by omega) q2
  exact loop 100 0 (-1) (Nat.le_refl _) (Nat.zero_add _) (Or.inl ⟨rfl, fun v q1 q2 => by omega⟩)
theorem c_X7_sharpsBy {z : Zz} {d kc ks : Nat} {mi : MI} {pc pc' : Nat} {L S : List Value} {Q : Option Value → Lay → Mem → Prop} {rf : Nat → Value} {tl : Lay} {mem : Mem}  {n w nt a j : Nat} {σ : Nat → Nat → Int32} {td : Int32} {T : Nat → Nat → List Int32} {so : Nat → Int32} {sz : Nat → Nat} {it : Nat → Nat → Int32} {b : Int32} {idx : Nat} (hd : decode mi.2.1 pc = .ok (.invokevirtual idx, 3)) (hp : pc + 3 = pc') (hlk : Cond.methodLink mi.1.cls idx yX7_sharpsBy ∈ wok) (hdd : 7 + 1 ≤ d) (hcat : (S.map (fun v => v.category)).sum ≤ 8) (hM : isM 48 mem σ n td (nI w)) (hT : isTM mem nt T) (hw : w < nt) (hR : isMR mem so sz it) (hj : j < 4) (ha : a < n) (K : ∀ mem', mtf mem mem' → Sim z d kc ks mi pc' L (.int (if b = 0 then lsR (fun v => son (u2 σ 2 a (nI v)) n td (T w) a (it j) (sz j)) else nI (ct (fun v => son (u2 σ 2 a (nI v)) n td (T w) a (it j) (sz j)) 100)) :: S) (LAY rf tl) mem' Q) : Sim z d kc ks mi pc L (.int b :: .int (nI a) :: .int (nI j) :: .ref 47 :: S) (LAY rf tl) mem Q :=
  s_invV (d2 := 7) hd hp okX7_sharpsBy hlk inX7_sharpsBy seX7_sharpsBy hdd (Nat.zero_add _) (Nat.zero_add _) rfl rfl ly47 rfl hcat (Nat.le_of_ble_eq_true rfl) (m_X7_sharpsBy (Nat.le_refl _) hM hT hw hR hj ha K)
theorem bo_30 {F : Nat → Bool} {m : Nat} (h : m ≤ 30) : bo (fun v => decide (v < 30) && F v) m = bo F m := bo_cong (fun k hk => by rw [decide_eq_true (show k < 30 by omega), Bool.true_and])
set_option maxHeartbeats 4000000 in
theorem m_X7_tells {z : Zz} {d : Nat} {Q : Option Value → Lay → Mem → Prop} {rf : Nat → Value} {tl : Lay} {mem : Mem}  {n w nt : Nat} {σ : Nat → Nat → Int32} {td s p what : Int32} {T : Nat → Nat → List Int32} {so : Nat → Int32} {sz : Nat → Nat} {it : Nat → Nat → Int32} (hdd : 8 ≤ d) (hM : isM 48 mem σ n td (nI w)) (hT : isTM mem nt T) (hw : w < nt) (hR : isMR mem so sz it) (K : ∀ mem', mtf mem mem' → Q (some (.int (tellR σ n td T w nt so sz it s p what))) (LAY rf tl) mem') : Sim z d 0 0 mX7_tells 0 [.ref 47, .int s, .int p, .int what, .float 0, .float 0] [] (LAY rf tl) mem Q := by
  have h8 := hM.2.1
  unfold tellR at K
  refine s_iload_n (pc' := 1) dX7_tells_0 rfl lg1 ?_
  refine c_X7_isSheet  (pc' := 4) dX7_tells_1 rfl lkX7_245 (by omega) (Nat.le_of_ble_eq_true rfl) ?_
  refine s_if_eq (pc' := 7) (tgt := 25) dX7_tells_4 rfl (by decide) (fun c1 => ?_) (fun c1 => ?_)
  · skip
    rw [if_pos c1] at K
    refine s_bipush (pc' := 27) dX7_tells_25 rfl bipush_m2 ?_
    refine s_iret dX7_tells_27 rfl (vp_nar_int _) ?_
    exact K mem mtf.rf
  · skip
    rw [if_neg c1] at K
    refine s_aload_n (pc' := 8) dX7_tells_7 rfl lg0 rfl ?_
    refine s_iload_n (pc' := 9) dX7_tells_8 rfl lg2 ?_
    refine c_X7_isPiece  (pc' := 12) dX7_tells_9 rfl lkX7_94 (by omega) (Nat.le_of_ble_eq_true rfl) hM.1 h8 ?_
    refine s_if_eq (pc' := 15) (tgt := 25) dX7_tells_12 rfl (by decide) (fun c2 => ?_) (fun c2 => ?_)
    · skip
      rw [if_pos c2] at K
      refine s_bipush (pc' := 27) dX7_tells_25 rfl bipush_m2 ?_
      refine s_iret dX7_tells_27 rfl (vp_nar_int _) ?_
      exact K mem mtf.rf
    · skip
      rw [if_neg c2] at K
      refine s_iload_n (pc' := 16) dX7_tells_15 rfl lg3 ?_
      refine s_iconst (pc' := 17) dX7_tells_16 rfl iconst_0 ?_
      refine s_bipush (pc' := 19) dX7_tells_17 rfl bipush_7 ?_
      refine c_X7_isIn  (pc' := 22) dX7_tells_19 rfl lkX7_86 (by omega) (Nat.le_of_ble_eq_true rfl) ?_
      refine s_if_ne (pc' := 25) (tgt := 28) dX7_tells_22 rfl (by decide) (fun c3 => ?_) (fun c3 => ?_)
      · skip
        rw [if_neg c3] at K
        rcases sh_or s with h | ⟨j, hj, rfl, -⟩
        · exact absurd h c1
        rcases pc_or p (n := n) (by omega) with h | ⟨a, ha, rfl, -⟩
        · exact absurd h c2
        rw [ix_nI (by omega), ix_nI (by omega)] at K
        obtain ⟨r1, r2, r3, r4⟩ := hR j hj
        refine s_aload_n (pc' := 29) dX7_tells_28 rfl lg0 rfl ?_
        refine s_getRv (pc' := 32) (v := .ref 61) dX7_tells_29 rfl flX7_58 ly47 (by decide) rfl rfl ?_
        refine s_iload_n (pc' := 33) dX7_tells_32 rfl lg1 ?_
        refine s_ialdNv (pc' := 34) (v := so j) dX7_tells_33 rfl ly61 (by omega) (by decide) r1 ?_
        refine s_iconst (pc' := 35) dX7_tells_34 rfl iconst_m1 ?_
        refine s_icmp_ne (pc' := 38) (tgt := 41) dX7_tells_35 rfl (by decide) (fun c4 => ?_) (fun c4 => ?_)
        · skip
          rw [if_neg c4] at K
          refine s_aload_n (pc' := 42) dX7_tells_41 rfl lg0 rfl ?_
          refine s_getRv (pc' := 45) (v := .ref 62) dX7_tells_42 rfl flX7_61 ly47 (by decide) rfl rfl ?_
          refine s_iload_n (pc' := 46) dX7_tells_45 rfl lg1 ?_
          refine s_ialdNv (pc' := 47) (v := nI (sz j)) dX7_tells_46 rfl ly62 (by omega) (by decide) r2 ?_
          refine s_bipush (pc' := 49) dX7_tells_47 rfl bipush_30 ?_
          rcases Nat.lt_or_ge 30 (sz j) with q | q
          · rw [if_pos q] at K
            refine s_icmp_le (pc' := 52) (tgt := 55) dX7_tells_49 rfl (by decide) (fun c9 => absurd c9 (fun c => by have := (nI_leI (a := sz j) (b := 30) (by omega) (by omega)).mp c; omega)) (fun _ => ?_)
            refine s_bipush (pc' := 54) dX7_tells_52 rfl bipush_m2 ?_
            refine s_iret dX7_tells_54 rfl (vp_nar_int _) ?_
            exact K mem mtf.rf
          · rw [if_neg (by omega)] at K
            unfold tellW at K
            refine s_icmp_le (pc' := 52) (tgt := 55) dX7_tells_49 rfl (by decide) (fun _ => ?_) (fun c9 => absurd ((nI_leI (a := sz j) (b := 30) (by omega) (by omega)).mpr q) c9)
            refine s_iconst (pc' := 56) dX7_tells_55 rfl iconst_0 ?_
            refine s_istore (pc' := 58) dX7_tells_56 rfl (Nat.le_of_ble_eq_true rfl) rfl ls4 ?_
            refine s_iload_n (pc' := 59) dX7_tells_58 rfl lg3 ?_
            rcases in_or what (lo := 0) (hi := 7) rfl (m := 7) rfl (by omega) with h | ⟨k, hk, rfl, -⟩
            · exact absurd h c3
            have k8 : k = 0 ∨ k = 1 ∨ k = 2 ∨ k = 3 ∨ k = 4 ∨ k = 5 ∨ k = 6 ∨ k = 7 := by omega
            rcases k8 with rfl | rfl | rfl | rfl | rfl | rfl | rfl | rfl
            · rw [if_pos nI_0] at K
              refine s_tsIn (off := 41) (tgt := 100) dX7_tells_59 (by decide) (by decide) (by decide) (by decide) ?_
              refine s_aload_n (pc' := 101) dX7_tells_100 rfl lg0 rfl ?_
              refine s_iload_n (pc' := 102) dX7_tells_101 rfl lg1 ?_
              refine s_iload_n (pc' := 103) dX7_tells_102 rfl lg2 ?_
              refine c_X7_otherwise  (pc' := 106) dX7_tells_103 rfl lkX7_283 (by omega) (Nat.le_of_ble_eq_true rfl) hM hT hw hR hj ha (fun m1 t1 t66 => ?_)
              refine s_iret dX7_tells_106 rfl (vp_nar_int _) ?_
              exact K m1 t1
            · rw [show nI 1 = 1 from by decide, if_neg (by decide), if_pos rfl] at K
              refine s_tsIn (off := 48) (tgt := 107) dX7_tells_59 (by decide) (by decide) (by decide) (by decide) ?_
              refine s_aload_n (pc' := 108) dX7_tells_107 rfl lg0 rfl ?_
              refine s_iload_n (pc' := 109) dX7_tells_108 rfl lg1 ?_
              refine s_iload_n (pc' := 110) dX7_tells_109 rfl lg2 ?_
              refine s_iconst (pc' := 111) dX7_tells_110 rfl iconst_5 ?_
              refine s_iload_n (pc' := 112) dX7_tells_111 rfl lg2 ?_
              refine s_imul (pc' := 113) dX7_tells_112 rfl ?_
              refine s_iconst (pc' := 114) dX7_tells_113 rfl iconst_5 ?_
              rw [show 5 * nI a = nI (5 * a + 0) from mI5']
              refine c_X7_fits (h := 5) (τ := fun v => u2 σ 0 a (nI v)) (w := fun _ => w) (pc' := 117) dX7_tells_114 rfl lkX7_286 (by omega) (Nat.le_of_ble_eq_true rfl) hT hR hj ha (by omega) (by decide) (fun v m q1 q2 q3 => fam_up hM ha (by decide) hw 5 v m q1 q2 q3) (fun m1 t1 hf => ?_)
              rw [bo_30 (by decide)]
              refine s_iret dX7_tells_117 rfl (vp_nar_int _) ?_
              exact K m1 t1
            · rw [show nI 2 = 2 from by decide, if_neg (by decide), if_neg (by decide), if_pos rfl] at K
              refine s_tsIn (off := 59) (tgt := 118) dX7_tells_59 (by decide) (by decide) (by decide) (by decide) ?_
              refine s_aload_n (pc' := 119) dX7_tells_118 rfl lg0 rfl ?_
              refine s_iload_n (pc' := 120) dX7_tells_119 rfl lg1 ?_
              refine s_iload_n (pc' := 121) dX7_tells_120 rfl lg2 ?_
              refine s_iconst (pc' := 122) dX7_tells_121 rfl iconst_5 ?_
              refine s_iload_n (pc' := 123) dX7_tells_122 rfl lg2 ?_
              refine s_imul (pc' := 124) dX7_tells_123 rfl ?_
              refine s_iconst (pc' := 125) dX7_tells_124 rfl iconst_1 ?_
              refine s_iadd (pc' := 126) dX7_tells_125 rfl ?_
              refine s_bipush (pc' := 128) dX7_tells_126 rfl bipush_9 ?_
              rw [mI5 (w := 1) (by decide)]
              refine c_X7_fits (h := 9) (τ := fun v => u2 σ 1 a (nI v)) (w := fun _ => w) (pc' := 131) dX7_tells_128 rfl lkX7_286 (by omega) (Nat.le_of_ble_eq_true rfl) hT hR hj ha (by omega) (by decide) (fun v m q1 q2 q3 => fam_up hM ha (by decide) hw 9 v m q1 q2 q3) (fun m1 t1 hf => ?_)
              rw [bo_30 (by decide)]
              refine s_iret dX7_tells_131 rfl (vp_nar_int _) ?_
              exact K m1 t1
            · rw [show nI 3 = 3 from by decide, if_neg (by decide), if_neg (by decide), if_neg (by decide), if_pos rfl] at K
              refine s_tsIn (off := 73) (tgt := 132) dX7_tells_59 (by decide) (by decide) (by decide) (by decide) ?_
              refine s_aload_n (pc' := 133) dX7_tells_132 rfl lg0 rfl ?_
              refine s_iload_n (pc' := 134) dX7_tells_133 rfl lg1 ?_
              refine s_iload_n (pc' := 135) dX7_tells_134 rfl lg2 ?_
              refine s_iload_n (pc' := 136) dX7_tells_135 rfl lg3 ?_
              refine s_iconst (pc' := 137) dX7_tells_136 rfl iconst_3 ?_
              refine s_icmp_ne (pc' := 140) (tgt := 144) dX7_tells_137 rfl (by decide) (fun c9 => absurd (by decide) c9) (fun _ => ?_)
              refine s_iconst (pc' := 141) dX7_tells_140 rfl iconst_1 ?_
              refine s_goto (tgt := 145) dX7_tells_141 (by decide) ?_
              refine c_X7_sharpsBy  (pc' := 148) dX7_tells_145 rfl lkX7_289 (by omega) (Nat.le_of_ble_eq_true rfl) hM hT hw hR hj ha (fun m1 t1 => ?_)
              rw [if_neg (by decide)]
              refine s_iret dX7_tells_148 rfl (vp_nar_int _) ?_
              exact K m1 t1
            · rw [show nI 4 = 4 from by decide, if_neg (by decide), if_neg (by decide), if_neg (by decide), if_neg (by decide), if_pos rfl] at K
              refine s_tsIn (off := 73) (tgt := 132) dX7_tells_59 (by decide) (by decide) (by decide) (by decide) ?_
              refine s_aload_n (pc' := 133) dX7_tells_132 rfl lg0 rfl ?_
              refine s_iload_n (pc' := 134) dX7_tells_133 rfl lg1 ?_
              refine s_iload_n (pc' := 135) dX7_tells_134 rfl lg2 ?_
              refine s_iload_n (pc' := 136) dX7_tells_135 rfl lg3 ?_
              refine s_iconst (pc' := 137) dX7_tells_136 rfl iconst_3 ?_
              refine s_icmp_ne (pc' := 140) (tgt := 144) dX7_tells_137 rfl (by decide) (fun _ => ?_) (fun c9 => absurd c9 (by decide))
              refine s_iconst (pc' := 145) dX7_tells_144 rfl iconst_0 ?_
              refine c_X7_sharpsBy  (pc' := 148) dX7_tells_145 rfl lkX7_289 (by omega) (Nat.le_of_ble_eq_true rfl) hM hT hw hR hj ha (fun m1 t1 => ?_)
              rw [if_pos rfl]
              refine s_iret dX7_tells_148 rfl (vp_nar_int _) ?_
              exact K m1 t1
            · rw [show nI 5 = 5 from by decide, if_neg (by decide), if_neg (by decide), if_neg (by decide), if_neg (by decide), if_neg (by decide), if_pos rfl] at K
              refine s_tsIn (off := 90) (tgt := 149) dX7_tells_59 (by decide) (by decide) (by decide) (by decide) ?_
              refine s_aload_n (pc' := 150) dX7_tells_149 rfl lg0 rfl ?_
              refine s_iload_n (pc' := 151) dX7_tells_150 rfl lg1 ?_
              refine s_iload_n (pc' := 152) dX7_tells_151 rfl lg2 ?_
              refine s_iconst (pc' := 153) dX7_tells_152 rfl iconst_5 ?_
              refine s_iload_n (pc' := 154) dX7_tells_153 rfl lg2 ?_
              refine s_imul (pc' := 155) dX7_tells_154 rfl ?_
              refine s_iconst (pc' := 156) dX7_tells_155 rfl iconst_3 ?_
              refine s_iadd (pc' := 157) dX7_tells_156 rfl ?_
              refine s_bipush (pc' := 159) dX7_tells_157 rfl bipush_11 ?_
              rw [mI5 (w := 3) (by decide)]
              refine c_X7_fits (h := 11) (τ := fun v => u2 σ 3 a (nI v)) (w := fun _ => w) (pc' := 162) dX7_tells_159 rfl lkX7_286 (by omega) (Nat.le_of_ble_eq_true rfl) hT hR hj ha (by omega) (by decide) (fun v m q1 q2 q3 => fam_up hM ha (by decide) hw 11 v m q1 q2 q3) (fun m1 t1 hf => ?_)
              rw [bo_30 (by decide)]
              refine s_iret dX7_tells_162 rfl (vp_nar_int _) ?_
              exact K m1 t1
            · rw [show nI 6 = 6 from by decide, if_neg (by decide), if_neg (by decide), if_neg (by decide), if_neg (by decide), if_neg (by decide), if_neg (by decide), if_pos rfl] at K
              obtain ⟨ht1, ht2, ht3, -⟩ := id hT
              obtain ⟨nt', rfl⟩ : ∃ k, nt = k + 1 := ⟨nt - 1, by omega⟩
              refine s_tsIn (off := 104) (tgt := 163) dX7_tells_59 (by decide) (by decide) (by decide) (by decide) ?_
              refine s_aload_n (pc' := 164) dX7_tells_163 rfl lg0 rfl ?_
              refine s_iload_n (pc' := 165) dX7_tells_164 rfl lg1 ?_
              refine s_iload_n (pc' := 166) dX7_tells_165 rfl lg2 ?_
              refine s_bipush (pc' := 168) dX7_tells_166 rfl bipush_42 ?_
              refine s_aload_n (pc' := 169) dX7_tells_168 rfl lg0 rfl ?_
              refine s_getIv (pc' := 172) (v := nI (nt' + 1)) dX7_tells_169 rfl flX7_32 ly47 (by decide) rfl ht1 ?_
              refine s_iconst (pc' := 173) dX7_tells_172 rfl iconst_1 ?_
              refine s_isub (pc' := 174) dX7_tells_173 rfl ?_
              rw [nI_pred]
              refine c_X7_fits (pl := 42) (h := nt') (τ := fun _ => σ) (w := fun v => v) (pc' := 177) dX7_tells_174 rfl lkX7_286 (by omega) (Nat.le_of_ble_eq_true rfl) hT hR hj ha (by decide) (by omega) (fun v m q1 q2 q3 => fam_ru hM (by omega) v m q1 q2 q3) (fun m1 t1 hf => ?_)
              rw [bo_30 (by omega)]
              refine s_iret dX7_tells_177 rfl (vp_nar_int _) ?_
              exact K m1 t1
            · rw [show nI 7 = 7 from by decide, if_neg (by decide), if_neg (by decide), if_neg (by decide), if_neg (by decide), if_neg (by decide), if_neg (by decide), if_neg (by decide)] at K
              refine s_tsOut (tgt := 178) dX7_tells_59 (by decide) (by decide) ?_
              refine s_iconst (pc' := 179) dX7_tells_178 rfl iconst_0 ?_
              refine s_istore (pc' := 181) dX7_tells_179 rfl (Nat.le_of_ble_eq_true rfl) rfl ls5 ?_
              have loop : ∀ (k i : Nat) (m : Mem), i + k = n → mtf mem m → Sim z d 0 0 mX7_tells 181 [.ref 47, .int (nI j), .int (nI a), .int (nI 7), .int (bo (fun v => son σ n td (T w) v (it j) (sz j)) i), .int (nI i)] [] (LAY rf tl) m Q := by
                intro k
                induction k with
                | zero =>
                  intro i m hi hm
                  have hn := (hM.mtf hm).1
                  have : i = n := by omega
                  subst this
                  refine s_iload (pc' := 183) dX7_tells_181 rfl lg5 ?_
                  refine s_aload_n (pc' := 184) dX7_tells_183 rfl lg0 rfl ?_
                  refine c_X7_many  (pc' := 187) dX7_tells_184 rfl lkX7_101 (by omega) (Nat.le_of_ble_eq_true rfl) ?_
                  refine s_icmp_ge (pc' := 190) (tgt := 220) dX7_tells_187 rfl (by decide) (fun _ => ?_) (fun c9 => absurd (by rw [hn]; exact nI_le (by omega) (by omega)) c9)
                  refine s_iload (pc' := 222) dX7_tells_220 rfl lg4 ?_
                  refine s_iret dX7_tells_222 rfl (vp_nar_int _) ?_
                  exact K m hm
                | succ k ih =>
                  intro i m hi hm
                  have hMm := hM.mtf hm
                  have hn := hMm.1
                  refine s_iload (pc' := 183) dX7_tells_181 rfl lg5 ?_
                  refine s_aload_n (pc' := 184) dX7_tells_183 rfl lg0 rfl ?_
                  refine c_X7_many  (pc' := 187) dX7_tells_184 rfl lkX7_101 (by omega) (Nat.le_of_ble_eq_true rfl) ?_
                  refine s_icmp_ge (pc' := 190) (tgt := 220) dX7_tells_187 rfl (by decide) (fun c9 => absurd c9 (by rw [hn]; exact nI_ge (by omega) (by omega))) (fun _ => ?_)
                  refine s_iload (pc' := 192) dX7_tells_190 rfl lg4 ?_
                  refine s_aload_n (pc' := 193) dX7_tells_192 rfl lg0 rfl ?_
                  refine s_iload_n (pc' := 194) dX7_tells_193 rfl lg1 ?_
                  refine s_iload (pc' := 196) dX7_tells_194 rfl lg5 ?_
                  refine c_X7_otherwise  (pc' := 199) dX7_tells_196 rfl lkX7_283 (by omega) (Nat.le_of_ble_eq_true rfl) hMm (hT.mtf hm) hw (hR.mdf hm.1) hj (by omega) (fun m1 t1 t66 => ?_)
                  have h1 := ih (i + 1) m1 (by omega) (hm.tr t1)
                  refine s_iconst (pc' := 200) dX7_tells_199 rfl iconst_m1 ?_
                  refine s_icmp_ne (pc' := 203) (tgt := 210) dX7_tells_200 rfl (by decide) (fun c5 => ?_) (fun c5 => ?_)
                  · skip
                    rw [oth_m1 r3] at c5
                    rw [bo_f (p := fun v => son σ n td (T w) v (it j) (sz j)) (Bool.eq_false_iff.mpr c5)] at h1
                    refine s_iconst (pc' := 211) dX7_tells_210 rfl iconst_0 ?_
                    refine s_ior (pc' := 212) dX7_tells_211 rfl ?_
                    rw [or_0]
                    refine s_istore (pc' := 214) dX7_tells_212 rfl (Nat.le_of_ble_eq_true rfl) rfl ls4 ?_
                    refine s_iincN (pc' := 217) dX7_tells_214 rfl lg5 rfl ls5 ?_
                    refine s_goto (tgt := 181) dX7_tells_217 (by decide) ?_
                    exact h1
                  · skip
                    rw [oth_m1 r3] at c5
                    rw [bo_t (p := fun v => son σ n td (T w) v (it j) (sz j)) c5] at h1
                    refine s_iconst (pc' := 204) dX7_tells_203 rfl iconst_1 ?_
                    refine s_iload (pc' := 206) dX7_tells_204 rfl lg5 ?_
                    refine s_ishl (pc' := 207) dX7_tells_206 rfl ?_
                    refine s_goto (tgt := 211) dX7_tells_207 (by decide) ?_
                    refine s_ior (pc' := 212) dX7_tells_211 rfl ?_
                    refine s_istore (pc' := 214) dX7_tells_212 rfl (Nat.le_of_ble_eq_true rfl) rfl ls4 ?_
                    refine s_iincN (pc' := 217) dX7_tells_214 rfl lg5 rfl ls5 ?_
                    refine s_goto (tgt := 181) dX7_tells_217 (by decide) ?_
                    exact h1
              exact loop n 0 mem (by omega) mtf.rf
        · skip
          rw [if_pos c4] at K
          refine s_bipush (pc' := 40) dX7_tells_38 rfl bipush_m11 ?_
          refine s_iret dX7_tells_40 rfl (vp_nar_int _) ?_
          exact K mem mtf.rf
      · skip
        rw [if_pos c3] at K
        refine s_bipush (pc' := 27) dX7_tells_25 rfl bipush_m2 ?_
        refine s_iret dX7_tells_27 rfl (vp_nar_int _) ?_
        exact K mem mtf.rf
theorem c_X7_tells {z : Zz} {d kc ks : Nat} {mi : MI} {pc pc' : Nat} {L S : List Value} {Q : Option Value → Lay → Mem → Prop} {rf : Nat → Value} {tl : Lay} {mem : Mem}  {n w nt : Nat} {σ : Nat → Nat → Int32} {td s p what : Int32} {T : Nat → Nat → List Int32} {so : Nat → Int32} {sz : Nat → Nat} {it : Nat → Nat → Int32} {idx : Nat} (hd : decode mi.2.1 pc = .ok (.invokevirtual idx, 3)) (hp : pc + 3 = pc') (hlk : Cond.methodLink mi.1.cls idx yX7_tells ∈ wok) (hdd : 8 + 1 ≤ d) (hcat : (S.map (fun v => v.category)).sum ≤ 8) (hM : isM 48 mem σ n td (nI w)) (hT : isTM mem nt T) (hw : w < nt) (hR : isMR mem so sz it) (K : ∀ mem', mtf mem mem' → Sim z d kc ks mi pc' L (.int (tellR σ n td T w nt so sz it s p what) :: S) (LAY rf tl) mem' Q) : Sim z d kc ks mi pc L (.int what :: .int p :: .int s :: .ref 47 :: S) (LAY rf tl) mem Q :=
  s_invV (d2 := 8) hd hp okX7_tells hlk inX7_tells seX7_tells hdd (Nat.zero_add _) (Nat.zero_add _) rfl rfl ly47 rfl hcat (Nat.le_of_ble_eq_true rfl) (m_X7_tells (Nat.le_refl _) hM hT hw hR K)

