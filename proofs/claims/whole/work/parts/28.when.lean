/-! ===== when, meet, toss ===== -/
def whenR (σ : Nat → Nat → Int32) (n : Nat) (td : Int32) (P : Nat → List Int32) : Int32 := if fk (fun k => decide (rou (sg n P σ td k) n = n)) 61 < 61 then nI (fk (fun k => decide (rou (sg n P σ td k) n = n)) 61) else -1
set_option maxHeartbeats 4000000 in
theorem m_X6_behindWhichAllAreRound {z : Zz} {d : Nat} {Q : Option Value → Lay → Mem → Prop} {rf : Nat → Value} {tl : Lay} {mem : Mem}  {n w nt : Nat} {σ : Nat → Nat → Int32} {td : Int32} {T : Nat → Nat → List Int32} (hdd : 4 ≤ d) (hS : isS 10 mem σ n td (nI w)) (hT : isTT rf tl mem nt T) (hw : w < nt) (K : ∀ mem', thf mem mem' → Q (some (.int (whenR σ n td (T w)))) (LAY rf tl) mem') : Sim z d 0 0 mX6_behindWhichAllAreRound 0 [.ref 0, .float 0] [] (LAY rf tl) mem Q := by
  have h8 := hS.2.1
  refine s_aload_n (pc' := 1) dX6_behindWhichAllAreRound_0 rfl lg0 rfl ?_
  refine s_getRv (pc' := 4) (v := .ref 18) dX6_behindWhichAllAreRound_1 rfl flX6_32 ly0 (by decide) rfl rfl ?_
  refine s_aload_n (pc' := 5) dX6_behindWhichAllAreRound_4 rfl lg0 rfl ?_
  refine s_getRv (pc' := 8) (v := .ref 10) dX6_behindWhichAllAreRound_5 rfl flX6_28 ly0 (by decide) rfl rfl ?_
  refine c_X3_becomes_18_10  (pc' := 11) dX6_behindWhichAllAreRound_8 rfl lkX6_120 (by omega) (Nat.le_of_ble_eq_true rfl) hS (fun m1 hS1 f1 => ?_)
  have t1 : thf mem m1 := fun j h3 h4 h5 => f1 j (by omega)
  refine s_iconst (pc' := 12) dX6_behindWhichAllAreRound_11 rfl iconst_0 ?_
  refine s_istore_n (pc' := 13) dX6_behindWhichAllAreRound_12 rfl (Nat.le_of_ble_eq_true rfl) rfl ls1 ?_
  have loop : ∀ (k i : Nat) (m : Mem), i + k = 61 → isS 18 m (sg n (T w) σ td i) n (td + nI i) (nI w) → thf mem m → (∀ j, j < i → decide (rou (sg n (T w) σ td j) n = n) = false) → Sim z d 0 0 mX6_behindWhichAllAreRound 13 [.ref 0, .int (nI i)] [] (LAY rf tl) m Q := by
    intro k
    induction k with
    | zero =>
      intro i m hi hSm hm hno
      have hic : i = 61 := by omega
      subst hic
      have K2 := K m hm
      rw [whenR, fk_none hno, if_neg (by omega)] at K2
      refine s_iload_n (pc' := 14) dX6_behindWhichAllAreRound_13 rfl lg1 ?_
      refine s_bipush (pc' := 16) dX6_behindWhichAllAreRound_14 rfl bipush_60 ?_
      refine s_icmp_gt (pc' := 19) (tgt := 51) dX6_behindWhichAllAreRound_16 rfl (by decide) (fun _ => ?_) (fun c9 => absurd (by decide) c9)
      refine s_iconst (pc' := 52) dX6_behindWhichAllAreRound_51 rfl iconst_m1 ?_
      refine s_iret dX6_behindWhichAllAreRound_52 rfl (vp_nar_int _) ?_
      exact K2
    | succ k ih =>
      intro i m hi hSm hm hno
      have hcr : rou (sg n (T w) σ td i) n ≤ n := ct_le _ n
      refine s_iload_n (pc' := 14) dX6_behindWhichAllAreRound_13 rfl lg1 ?_
      refine s_bipush (pc' := 16) dX6_behindWhichAllAreRound_14 rfl bipush_60 ?_
      refine s_icmp_gt (pc' := 19) (tgt := 51) dX6_behindWhichAllAreRound_16 rfl (by decide) (fun c9 => absurd c9 (fun q => (by have := (nI_ltI (a := 60) (b := i) (by omega) (by omega)).mp q; omega))) (fun _ => ?_)
      refine s_aload_n (pc' := 20) dX6_behindWhichAllAreRound_19 rfl lg0 rfl ?_
      refine s_getRv (pc' := 23) (v := .ref 18) dX6_behindWhichAllAreRound_20 rfl flX6_32 ly0 (by decide) rfl rfl ?_
      refine c_X3_howManyRound (b := 18) (pc' := 26) dX6_behindWhichAllAreRound_23 rfl lkX6_116 (by omega) (Nat.le_of_ble_eq_true rfl) (Or.inr (Or.inl rfl)) hSm.1 hSm.2.1 ?_
      rw [rou_of hSm]
      refine s_aload_n (pc' := 27) dX6_behindWhichAllAreRound_26 rfl lg0 rfl ?_
      refine s_getRv (pc' := 30) (v := .ref 18) dX6_behindWhichAllAreRound_27 rfl flX6_32 ly0 (by decide) rfl rfl ?_
      refine s_getIv (pc' := 33) (v := nI n) dX6_behindWhichAllAreRound_30 rfl flX6_189 ly18 (by decide) rfl hSm.1 ?_
      refine s_icmp_ne (pc' := 36) (tgt := 38) dX6_behindWhichAllAreRound_33 rfl (by decide) (fun c1 => ?_) (fun c1 => ?_)
      · skip
        rw [nI_eqN (by omega) (by omega)] at c1
        refine s_aload_n (pc' := 39) dX6_behindWhichAllAreRound_38 rfl lg0 rfl ?_
        refine s_getRv (pc' := 42) (v := .ref 18) dX6_behindWhichAllAreRound_39 rfl flX6_32 ly0 (by decide) rfl rfl ?_
        refine c_X3_passes (b := 18) (pc' := 45) dX6_behindWhichAllAreRound_42 rfl lkX6_113 (by omega) (Nat.le_of_ble_eq_true rfl) (Or.inr (Or.inl rfl)) hSm (hT.thf hm) hw (fun m2 h2 f2 => ?_)
        refine s_iincN (pc' := 48) dX6_behindWhichAllAreRound_45 rfl lg1 rfl ls1 ?_
        refine s_goto (tgt := 13) dX6_behindWhichAllAreRound_48 (by decide) ?_
        refine ih (i + 1) m2 (by omega) ?_ (hm.tr (thf.of_frm f2)) (fun j hj => ?_)
        · rw [sg_succ, ← td_succ]
          exact h2
        · rcases Nat.lt_or_ge j i with q | q
          · exact hno j q
          · have : j = i := by omega
            rw [this]; exact decide_eq_false c1
      · skip
        rw [nI_eqN (by omega) (by omega)] at c1
        have e := fk_at (m := 61) hno (decide_eq_true c1) (by omega)
        have K2 := K m hm
        rw [whenR, e, if_pos (by omega)] at K2
        refine s_iload_n (pc' := 37) dX6_behindWhichAllAreRound_36 rfl lg1 ?_
        refine s_iret dX6_behindWhichAllAreRound_37 rfl (vp_nar_int _) ?_
        exact K2
  exact loop 61 0 m1 (by omega) (by rw [td_0]; exact hS1) t1 (fun j hj => absurd hj (Nat.not_lt_zero j))
theorem c_X6_behindWhichAllAreRound {z : Zz} {d kc ks : Nat} {mi : MI} {pc pc' : Nat} {L S : List Value} {Q : Option Value → Lay → Mem → Prop} {rf : Nat → Value} {tl : Lay} {mem : Mem}  {n w nt : Nat} {σ : Nat → Nat → Int32} {td : Int32} {T : Nat → Nat → List Int32} {idx : Nat} (hd : decode mi.2.1 pc = .ok (.invokevirtual idx, 3)) (hp : pc + 3 = pc') (hlk : Cond.methodLink mi.1.cls idx yX6_behindWhichAllAreRound ∈ wok) (hdd : 4 + 1 ≤ d) (hcat : (S.map (fun v => v.category)).sum ≤ 8) (hS : isS 10 mem σ n td (nI w)) (hT : isTT rf tl mem nt T) (hw : w < nt) (K : ∀ mem', thf mem mem' → Sim z d kc ks mi pc' L (.int (whenR σ n td (T w)) :: S) (LAY rf tl) mem' Q) : Sim z d kc ks mi pc L (.ref 0 :: S) (LAY rf tl) mem Q :=
  s_invV (d2 := 4) hd hp okX6_behindWhichAllAreRound hlk inX6_behindWhichAllAreRound seX6_behindWhichAllAreRound hdd (Nat.zero_add _) (Nat.zero_add _) rfl rfl ly0 rfl hcat (Nat.le_of_ble_eq_true rfl) (m_X6_behindWhichAllAreRound (Nat.le_refl _) hS hT hw K)
def allR (σ : Nat → Nat → Int32) (n : Nat) (td : Int32) (P : Nat → List Int32) (what : Int32) : Int32 := if what = 0 then whenR σ n td P else if what = 1 then nI (rou σ n) else if what = 2 then bcI (po (σ 3) n) else if what = 3 then (fo (σ 3) n n).1 else -2
theorem sA_cong {f g : Nat → Int32} {n i : Nat} (h : ∀ k, k < n → f k = g k) (hi : i < n) : sA f n i = sA g n i := suI_cong (fun k hk => by rw [h i hi, h k hk])
theorem fo_cong {f g : Nat → Int32} {n : Nat} (h : ∀ k, k < n → f k = g k) : ∀ {i : Nat}, i ≤ n → fo f n i = fo g n i
  | 0, _ => rfl
  | i + 1, hi => by rw [fo_succ, fo_succ, sA_cong h (by omega), fo_cong h (by omega)]
set_option maxHeartbeats 4000000 in
theorem m_X6_all {z : Zz} {d : Nat} {Q : Option Value → Lay → Mem → Prop} {rf : Nat → Value} {tl : Lay} {mem : Mem}  {n w nt : Nat} {σ : Nat → Nat → Int32} {td what : Int32} {T : Nat → Nat → List Int32} (hdd : 5 ≤ d) (hS : isS 10 mem σ n td (nI w)) (hT : isTT rf tl mem nt T) (hw : w < nt) (K : ∀ mem', thf mem mem' → Q (some (.int (allR σ n td (T w) what))) (LAY rf tl) mem') : Sim z d 0 0 mX6_all 0 [.ref 0, .int what] [] (LAY rf tl) mem Q := by
  have K0 := K mem thf.rf
  unfold allR at K K0
  rw [← rou_of hS, ← pla_of hS, ← fo_cong (f := mem (10 + 3)) (fun k hk => (hS.2.2.2.2 k hk).2.2.2.1) (Nat.le_refl n)] at K0
  refine s_iload_n (pc' := 1) dX6_all_0 rfl lg1 ?_
  refine s_ts4 (v0 := 0) (v1 := 1) (v2 := 2) (v3 := 3) (t0 := 32) (t1 := 37) (t2 := 45) (t3 := 53) (td := 61) dX6_all_1 (by decide) (by decide) (by decide) (by decide) (by decide) (by decide) (by decide) (by decide) (by decide) (by decide) (fun e1 => ?_) (fun e1 => ?_) (fun e1 => ?_) (fun e1 => ?_) (fun e1_0 e1_1 e1_2 e1_3 => ?_)
  · refine s_aload_n (pc' := 33) dX6_all_32 rfl lg0 rfl ?_
    refine c_X6_behindWhichAllAreRound (pc' := 36) dX6_all_33 rfl lkX6_136 (by omega) (Nat.le_of_ble_eq_true rfl) hS hT hw ?_
    intro m1 t1
    refine s_iret dX6_all_36 rfl (vp_nar_int _) ?_
    (first | (have K2 := K m1 t1; simpa [e1] using K2) | (simpa [e1] using K0))
  · refine s_aload_n (pc' := 38) dX6_all_37 rfl lg0 rfl ?_
    refine s_getRv (pc' := 41) (v := .ref 10) dX6_all_38 rfl flX6_28 ly0 (by decide) rfl rfl ?_
    refine c_X3_howManyRound (pc' := 44) dX6_all_41 rfl lkX6_116 (by omega) (Nat.le_of_ble_eq_true rfl) (b := 10) (Or.inl rfl) hS.1 hS.2.1 ?_
    refine s_iret dX6_all_44 rfl (vp_nar_int _) ?_
    (first | (have K2 := K m1 t1; simpa [e1] using K2) | (simpa [e1] using K0))
  · refine s_aload_n (pc' := 46) dX6_all_45 rfl lg0 rfl ?_
    refine s_getRv (pc' := 49) (v := .ref 10) dX6_all_46 rfl flX6_28 ly0 (by decide) rfl rfl ?_
    refine c_X3_howManyPlaces (pc' := 52) dX6_all_49 rfl lkX6_133 (by omega) (Nat.le_of_ble_eq_true rfl) (b := 10) (Or.inl rfl) hS.1 hS.2.1 ?_
    refine s_iret dX6_all_52 rfl (vp_nar_int _) ?_
    (first | (have K2 := K m1 t1; simpa [e1] using K2) | (simpa [e1] using K0))
  · refine s_aload_n (pc' := 54) dX6_all_53 rfl lg0 rfl ?_
    refine s_getRv (pc' := 57) (v := .ref 10) dX6_all_54 rfl flX6_28 ly0 (by decide) rfl rfl ?_
    refine c_X3_farthestOut (pc' := 60) dX6_all_57 rfl lkX6_139 (by omega) (Nat.le_of_ble_eq_true rfl) (b := 10) (Or.inl rfl) hS.1 hS.2.1 ?_
    refine s_iret dX6_all_60 rfl (vp_nar_int _) ?_
    (first | (have K2 := K m1 t1; simpa [e1] using K2) | (simpa [e1] using K0))
  · refine s_bipush (pc' := 63) dX6_all_61 rfl bipush_m2 ?_
    refine s_iret dX6_all_63 rfl (vp_nar_int _) ?_
    (first | (have K2 := K m1 t1; simpa [e1_0, e1_1, e1_2, e1_3] using K2) | (simpa [e1_0, e1_1, e1_2, e1_3] using K0))
theorem c_X6_all {z : Zz} {d kc ks : Nat} {mi : MI} {pc pc' : Nat} {L S : List Value} {Q : Option Value → Lay → Mem → Prop} {rf : Nat → Value} {tl : Lay} {mem : Mem}  {n w nt : Nat} {σ : Nat → Nat → Int32} {td what : Int32} {T : Nat → Nat → List Int32} {idx : Nat} (hd : decode mi.2.1 pc = .ok (.invokevirtual idx, 3)) (hp : pc + 3 = pc') (hlk : Cond.methodLink mi.1.cls idx yX6_all ∈ wok) (hdd : 5 + 1 ≤ d) (hcat : (S.map (fun v => v.category)).sum ≤ 8) (hS : isS 10 mem σ n td (nI w)) (hT : isTT rf tl mem nt T) (hw : w < nt) (K : ∀ mem', thf mem mem' → Sim z d kc ks mi pc' L (.int (allR σ n td (T w) what) :: S) (LAY rf tl) mem' Q) : Sim z d kc ks mi pc L (.int what :: .ref 0 :: S) (LAY rf tl) mem Q :=
  s_invV (d2 := 5) hd hp okX6_all hlk inX6_all seX6_all hdd (Nat.zero_add _) (Nat.zero_add _) rfl rfl ly0 rfl hcat (Nat.le_of_ble_eq_true rfl) (m_X6_all (Nat.le_refl _) hS hT hw K)
theorem tw_or (p q : Int32) {n : Nat} (hn : n ≤ 1000) : twB p q (nI n) = 0 ∨ ∃ a b, a < n ∧ b < n ∧ a ≠ b ∧ p = nI a ∧ q = nI b ∧ twB p q (nI n) = 1 := by
  unfold twB
  rcases pc_or p hn with h | ⟨a, ha, rfl, h1⟩
  · left; rw [if_pos h]
  · rcases pc_or q hn with h | ⟨b, hb, rfl, h2⟩
    · left; rw [h1, if_neg (by decide), if_pos h]
    · by_cases e : nI a = nI b
      · left; rw [h1, h2, if_neg (by decide), if_neg (by decide), if_pos e]
      · right
        refine ⟨a, b, ha, hb, fun q => e (by rw [q]), rfl, rfl, by rw [h1, h2, if_neg (by decide), if_neg (by decide), if_neg e]⟩
def meetR (σ : Nat → Nat → Int32) (n : Nat) (td : Int32) (P : Nat → List Int32) (p q : Int32) : Int32 := if twB p q (nI n) = 0 then -2 else if fk (fun k => decide (sg n P σ td k 3 (ix p) = sg n P σ td k 3 (ix q))) 61 < 61 then nI (fk (fun k => decide (sg n P σ td k 3 (ix p) = sg n P σ td k 3 (ix q))) 61) else -1
set_option maxHeartbeats 4000000 in
theorem m_X6_meet {z : Zz} {d : Nat} {Q : Option Value → Lay → Mem → Prop} {rf : Nat → Value} {tl : Lay} {mem : Mem}  {n w nt : Nat} {σ : Nat → Nat → Int32} {td p q : Int32} {T : Nat → Nat → List Int32} (hdd : 4 ≤ d) (hS : isS 10 mem σ n td (nI w)) (hT : isTT rf tl mem nt T) (hw : w < nt) (K : ∀ mem', thf mem mem' → Q (some (.int (meetR σ n td (T w) p q))) (LAY rf tl) mem') : Sim z d 0 0 mX6_meet 0 [.ref 0, .int p, .int q, .float 0] [] (LAY rf tl) mem Q := by
  have h8 := hS.2.1
  have hn := hS.1
  refine s_aload_n (pc' := 1) dX6_meet_0 rfl lg0 rfl ?_
  refine s_iload_n (pc' := 2) dX6_meet_1 rfl lg1 ?_
  refine s_iload_n (pc' := 3) dX6_meet_2 rfl lg2 ?_
  refine c_X6_areTwo  (pc' := 6) dX6_meet_3 rfl lkX6_142 (by omega) (Nat.le_of_ble_eq_true rfl) ?_
  rw [hn]
  refine s_if_ne (pc' := 9) (tgt := 12) dX6_meet_6 rfl (by decide) (fun c0 => ?_) (fun c0 => ?_)
  · skip
    rcases tw_or p q (n := n) (by omega) with h | ⟨a, b, ha, hb, hab, rfl, rfl, -⟩
    · exact absurd h c0
    unfold meetR at K
    rw [if_neg c0, ix_nI (by omega), ix_nI (by omega)] at K
    refine s_aload_n (pc' := 13) dX6_meet_12 rfl lg0 rfl ?_
    refine s_getRv (pc' := 16) (v := .ref 18) dX6_meet_13 rfl flX6_32 ly0 (by decide) rfl rfl ?_
    refine s_aload_n (pc' := 17) dX6_meet_16 rfl lg0 rfl ?_
    refine s_getRv (pc' := 20) (v := .ref 10) dX6_meet_17 rfl flX6_28 ly0 (by decide) rfl rfl ?_
    refine c_X3_becomes_18_10  (pc' := 23) dX6_meet_20 rfl lkX6_120 (by omega) (Nat.le_of_ble_eq_true rfl) hS (fun m1 hS1 f1 => ?_)
    have t1 : thf mem m1 := fun j h3 h4 h5 => f1 j (by omega)
    refine s_iconst (pc' := 24) dX6_meet_23 rfl iconst_0 ?_
    refine s_istore_n (pc' := 25) dX6_meet_24 rfl (Nat.le_of_ble_eq_true rfl) rfl ls3 ?_
    have loop : ∀ (k i : Nat) (m : Mem), i + k = 61 → isS 18 m (sg n (T w) σ td i) n (td + nI i) (nI w) → thf mem m → (∀ j, j < i → decide (sg n (T w) σ td j 3 a = sg n (T w) σ td j 3 b) = false) → Sim z d 0 0 mX6_meet 25 [.ref 0, .int (nI a), .int (nI b), .int (nI i)] [] (LAY rf tl) m Q := by
      intro k
      induction k with
      | zero =>
        intro i m hi hSm hm hno
        have hic : i = 61 := by omega
        subst hic
        have K2 := K m hm
        rw [fk_none hno, if_neg (by omega)] at K2
        refine s_iload_n (pc' := 26) dX6_meet_25 rfl lg3 ?_
        refine s_bipush (pc' := 28) dX6_meet_26 rfl bipush_60 ?_
        refine s_icmp_gt (pc' := 31) (tgt := 67) dX6_meet_28 rfl (by decide) (fun _ => ?_) (fun c9 => absurd (by decide) c9)
        refine s_iconst (pc' := 68) dX6_meet_67 rfl iconst_m1 ?_
        refine s_iret dX6_meet_68 rfl (vp_nar_int _) ?_
        exact K2
      | succ k ih =>
        intro i m hi hSm hm hno
        have ea := (hSm.2.2.2.2 a ha).2.2.2.1
        have eb := (hSm.2.2.2.2 b hb).2.2.2.1
        refine s_iload_n (pc' := 26) dX6_meet_25 rfl lg3 ?_
        refine s_bipush (pc' := 28) dX6_meet_26 rfl bipush_60 ?_
        refine s_icmp_gt (pc' := 31) (tgt := 67) dX6_meet_28 rfl (by decide) (fun c9 => absurd c9 (fun q => by have := (nI_ltI (a := 60) (b := i) (by omega) (by omega)).mp q; omega)) (fun _ => ?_)
        refine s_aload_n (pc' := 32) dX6_meet_31 rfl lg0 rfl ?_
        refine s_getRv (pc' := 35) (v := .ref 18) dX6_meet_32 rfl flX6_32 ly0 (by decide) rfl rfl ?_
        refine s_getRv (pc' := 38) (v := .ref 21) dX6_meet_35 rfl flX6_127 ly18 (by decide) rfl rfl ?_
        refine s_iload_n (pc' := 39) dX6_meet_38 rfl lg1 ?_
        refine s_ialdNv (pc' := 40) (v := sg n (T w) σ td i 3 a) dX6_meet_39 rfl ly21 (by omega) (by decide) ea ?_
        refine s_aload_n (pc' := 41) dX6_meet_40 rfl lg0 rfl ?_
        refine s_getRv (pc' := 44) (v := .ref 18) dX6_meet_41 rfl flX6_32 ly0 (by decide) rfl rfl ?_
        refine s_getRv (pc' := 47) (v := .ref 21) dX6_meet_44 rfl flX6_127 ly18 (by decide) rfl rfl ?_
        refine s_iload_n (pc' := 48) dX6_meet_47 rfl lg2 ?_
        refine s_ialdNv (pc' := 49) (v := sg n (T w) σ td i 3 b) dX6_meet_48 rfl ly21 (by omega) (by decide) eb ?_
        refine s_icmp_ne (pc' := 52) (tgt := 54) dX6_meet_49 rfl (by decide) (fun c1 => ?_) (fun c1 => ?_)
        · skip
          refine s_aload_n (pc' := 55) dX6_meet_54 rfl lg0 rfl ?_
          refine s_getRv (pc' := 58) (v := .ref 18) dX6_meet_55 rfl flX6_32 ly0 (by decide) rfl rfl ?_
          refine c_X3_passes (b := 18) (pc' := 61) dX6_meet_58 rfl lkX6_113 (by omega) (Nat.le_of_ble_eq_true rfl) (Or.inr (Or.inl rfl)) hSm (hT.thf hm) hw (fun m2 h2 f2 => ?_)
          refine s_iincN (pc' := 64) dX6_meet_61 rfl lg3 rfl ls3 ?_
          refine s_goto (tgt := 25) dX6_meet_64 (by decide) ?_
          refine ih (i + 1) m2 (by omega) ?_ (hm.tr (thf.of_frm f2)) (fun j hj => ?_)
          · rw [sg_succ, ← td_succ]
            exact h2
          · rcases Nat.lt_or_ge j i with q | q
            · exact hno j q
            · have : j = i := by omega
              rw [this]; exact decide_eq_false c1
        · skip
          have e := fk_at (m := 61) hno (decide_eq_true c1) (by omega)
          have K2 := K m hm
          rw [e, if_pos (by omega)] at K2
          refine s_iload_n (pc' := 53) dX6_meet_52 rfl lg3 ?_
          refine s_iret dX6_meet_53 rfl (vp_nar_int _) ?_
          exact K2
    exact loop 61 0 m1 (by omega) (by rw [td_0]; exact hS1) t1 (fun j hj => absurd hj (Nat.not_lt_zero j))
  · skip
    rw [meetR, if_pos c0] at K
    refine s_bipush (pc' := 11) dX6_meet_9 rfl bipush_m2 ?_
    refine s_iret dX6_meet_11 rfl (vp_nar_int _) ?_
    exact K mem thf.rf
theorem c_X6_meet {z : Zz} {d kc ks : Nat} {mi : MI} {pc pc' : Nat} {L S : List Value} {Q : Option Value → Lay → Mem → Prop} {rf : Nat → Value} {tl : Lay} {mem : Mem}  {n w nt : Nat} {σ : Nat → Nat → Int32} {td p q : Int32} {T : Nat → Nat → List Int32} {idx : Nat} (hd : decode mi.2.1 pc = .ok (.invokevirtual idx, 3)) (hp : pc + 3 = pc') (hlk : Cond.methodLink mi.1.cls idx yX6_meet ∈ wok) (hdd : 4 + 1 ≤ d) (hcat : (S.map (fun v => v.category)).sum ≤ 8) (hS : isS 10 mem σ n td (nI w)) (hT : isTT rf tl mem nt T) (hw : w < nt) (K : ∀ mem', thf mem mem' → Sim z d kc ks mi pc' L (.int (meetR σ n td (T w) p q) :: S) (LAY rf tl) mem' Q) : Sim z d kc ks mi pc L (.int q :: .int p :: .ref 0 :: S) (LAY rf tl) mem Q :=
  s_invV (d2 := 4) hd hp okX6_meet hlk inX6_meet seX6_meet hdd (Nat.zero_add _) (Nat.zero_add _) rfl rfl ly0 rfl hcat (Nat.le_of_ble_eq_true rfl) (m_X6_meet (Nat.le_refl _) hS hT hw K)

