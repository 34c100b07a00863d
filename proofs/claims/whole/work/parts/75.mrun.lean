/-! ===== the Model: what is thought ===== -/
def mtf (mem mem' : Mem) : Prop := mdf mem mem' ∧ ∀ k, k < 43 → mem' 48 k = mem 48 k
theorem mtf.rf {mem : Mem} : mtf mem mem := ⟨mdf.rf, fun _ _ => rfl⟩
theorem mtf.tr {a b c : Mem} (h1 : mtf a b) (h2 : mtf b c) : mtf a c := ⟨h1.1.tr h2.1, fun k hk => (h2.2 k hk).trans (h1.2 k hk)⟩
theorem mtf.of_rwf {a b : Mem} (h : rwf a b) : mtf a b := ⟨mdf.of_rwf h, fun k _ => by rw [h 48 (by decide)]⟩
theorem isM.mtf {mem mem' : Mem} {σ : Nat → Nat → Int32} {n : Nat} {td ru : Int32} (h : isM 48 mem σ n td ru) (hk : mtf mem mem') : isM 48 mem' σ n td ru := h.cp hk.2
theorem isTM.mtf {mem mem' : Mem} {nt : Nat} {T : Nat → Nat → List Int32} (h : isTM mem nt T) (hk : mtf mem mem') : isTM mem' nt T := h.mdf hk.1
/-- the shore is kept in mind -/
def mth (mem m : Mem) : Prop := mdf mem m ∧ ∀ k, k < 43 → m 50 k = mem 48 k
theorem mth.keep {mem m : Mem} (g1 : ∀ j, j ≠ 50 → m j = mem j) (g2 : ∀ k, k < 43 → m 50 k = mem 48 k) : mth mem m := ⟨fun j _ h2 _ _ => g1 j h2, g2⟩
theorem mth.tide {mem m m' : Mem} (h : mth mem m) (h2 : tdf m m') : mth mem m' := ⟨h.1.tr h2.mdf, fun k hk => by rw [h2 50 (by decide) (by decide) (by decide) (by decide)]; exact h.2 k hk⟩
theorem mth.up {mem m : Mem} {q : Nat} {x : Int32} (h : mth mem m) : mth mem (am_up m 48 q x) := ⟨fun j h1 h2 h3 h4 => by rw [upN h1]; exact h.1 j h1 h2 h3 h4, fun k hk => by rw [upN (by decide)]; exact h.2 k hk⟩
theorem mth.lay {mem m m' : Mem} (h : mth mem m) (g1 : ∀ j, j ≠ 48 → m' j = m j) (g2 : ∀ k, k < 43 → m' 48 k = m 50 k) : mtf mem m' := ⟨fun j h1 h2 h3 h4 => by rw [g1 j h1]; exact h.1 j h1 h2 h3 h4, fun k hk => by rw [g2 k hk]; exact h.2 k hk⟩
theorem isM.keep {mem m : Mem} {σ : Nat → Nat → Int32} {n : Nat} {td ru : Int32} (h : isM 48 mem σ n td ru) (g1 : ∀ j, j ≠ 50 → m j = mem j) : isM 48 m σ n td ru := h.cp (fun k _ => by rw [g1 48 (by decide)])
theorem isTM.mth {mem mem' : Mem} {nt : Nat} {T : Nat → Nat → List Int32} (h : isTM mem nt T) (hk : mth mem mem') : isTM mem' nt T := h.mdf hk.1
set_option maxHeartbeats 4000000 in
theorem m_X7_run {z : Zz} {d : Nat} {Q : Option Value → Lay → Mem → Prop} {rf : Nat → Value} {tl : Lay} {mem : Mem}  {n w nt : Nat} {σ : Nat → Nat → Int32} {td p m what : Int32} {T : Nat → Nat → List Int32} (hdd : 5 ≤ d) (hM : isM 48 mem σ n td (nI w)) (hT : isTM mem nt T) (hw : w < nt) (hok : okS σ n) (K : ∀ mem', mtf mem mem' → Q (some (.int (runR σ n td (T w) p m what))) (LAY rf tl) mem') : Sim z d 0 0 mX7_run 0 [.ref 47, .int p, .int m, .int what, .float 0] [] (LAY rf tl) mem Q := by
  have h8 := hM.2.1
  have hn := hM.1
  unfold runR at K
  refine s_aload_n (pc' := 1) dX7_run_0 rfl lg0 rfl ?_
  refine s_iload_n (pc' := 2) dX7_run_1 rfl lg1 ?_
  refine c_X7_isPiece  (pc' := 5) dX7_run_2 rfl lkX7_94 (by omega) (Nat.le_of_ble_eq_true rfl) hn h8 ?_
  refine s_if_eq (pc' := 8) (tgt := 27) dX7_run_5 rfl (by decide) (fun c1 => ?_) (fun c1 => ?_)
  · skip
    rw [if_pos c1] at K
    refine s_bipush (pc' := 29) dX7_run_27 rfl bipush_m2 ?_
    refine s_iret dX7_run_29 rfl (vp_nar_int _) ?_
    exact K mem mtf.rf
  · skip
    rw [if_neg c1] at K
    refine s_iload_n (pc' := 9) dX7_run_8 rfl lg2 ?_
    refine s_iconst (pc' := 10) dX7_run_9 rfl iconst_0 ?_
    refine s_bipush (pc' := 12) dX7_run_10 rfl bipush_60 ?_
    refine c_X7_isIn  (pc' := 15) dX7_run_12 rfl lkX7_86 (by omega) (Nat.le_of_ble_eq_true rfl) ?_
    refine s_if_eq (pc' := 18) (tgt := 27) dX7_run_15 rfl (by decide) (fun c2 => ?_) (fun c2 => ?_)
    · skip
      rw [if_pos c2] at K
      refine s_bipush (pc' := 29) dX7_run_27 rfl bipush_m2 ?_
      refine s_iret dX7_run_29 rfl (vp_nar_int _) ?_
      exact K mem mtf.rf
    · skip
      rw [if_neg c2] at K
      refine s_iload_n (pc' := 19) dX7_run_18 rfl lg3 ?_
      refine s_iconst (pc' := 20) dX7_run_19 rfl iconst_0 ?_
      refine s_iconst (pc' := 21) dX7_run_20 rfl iconst_4 ?_
      refine c_X7_isIn  (pc' := 24) dX7_run_21 rfl lkX7_86 (by omega) (Nat.le_of_ble_eq_true rfl) ?_
      refine s_if_ne (pc' := 27) (tgt := 30) dX7_run_24 rfl (by decide) (fun c3 => ?_) (fun c3 => ?_)
      · skip
        rw [if_neg c3] at K
        rcases pc_or p (n := n) (by omega) with h | ⟨a, ha, rfl, -⟩
        · exact absurd h c1
        rcases in_or m (lo := 0) (hi := 60) rfl (m := 60) rfl (by omega) with h | ⟨c, hc, rfl, -⟩
        · exact absurd h c2
        rw [ix_nI (by omega), ix_nI (by omega)] at K
        refine s_aload_n (pc' := 31) dX7_run_30 rfl lg0 rfl ?_
        refine s_aload_n (pc' := 32) dX7_run_31 rfl lg0 rfl ?_
        refine s_getRv (pc' := 35) (v := .ref 50) dX7_run_32 rfl flX7_16 ly47 (by decide) rfl rfl ?_
        refine c_X7_keep  (pc' := 38) dX7_run_35 rfl lkX7_223 (by omega) (Nat.le_of_ble_eq_true rfl) ly50 (by decide) (fun m1 g1 g2 => ?_)
        refine s_iconst (pc' := 39) dX7_run_38 rfl iconst_0 ?_
        refine s_istore (pc' := 41) dX7_run_39 rfl (Nat.le_of_ble_eq_true rfl) rfl ls4 ?_
        have loop : ∀ (k i : Nat) (m : Mem), i + k = c → isM 48 m (sg n (T w) σ td i) n (td + nI i) (nI w) → mth mem m → Sim z d 0 0 mX7_run 41 [.ref 47, .int (nI a), .int (nI c), .int what, .int (nI i)] [] (LAY rf tl) m Q := by
          intro k
          induction k with
          | zero =>
            intro i m hi hMm hm
            have hic : i = c := by omega
            subst hic
            have fin : ∀ x, (if what = 0 then sg n (T w) σ td i 2 a else if what = 1 then sg n (T w) σ td i 3 a else if what = 2 then suI (sg n (T w) σ td i 2) n else if what = 3 then nI (rou (sg n (T w) σ td i) n) else bcI (po (sg n (T w) σ td i 3) n)) = x → Sim z d 0 0 mX7_run 112 [.ref 47, .int (nI a), .int (nI i), .int what, .int (nI i)] [.int x] (LAY rf tl) m Q := by
              intro x hx
              rw [hx] at K
              refine s_istore (pc' := 114) dX7_run_112 rfl (Nat.le_of_ble_eq_true rfl) rfl ls4 ?_
              refine s_aload_n (pc' := 115) dX7_run_114 rfl lg0 rfl ?_
              refine s_aload_n (pc' := 116) dX7_run_115 rfl lg0 rfl ?_
              refine s_getRv (pc' := 119) (v := .ref 50) dX7_run_116 rfl flX7_16 ly47 (by decide) rfl rfl ?_
              refine c_X7_lay  (pc' := 122) dX7_run_119 rfl lkX7_233 (by omega) (Nat.le_of_ble_eq_true rfl) ly50 (by decide) (fun m2 g3 g4 => ?_)
              refine s_iload (pc' := 124) dX7_run_122 rfl lg4 ?_
              refine s_iret dX7_run_124 rfl (vp_nar_int _) ?_
              exact K m2 (hm.lay g3 g4)
            refine s_iload (pc' := 43) dX7_run_41 rfl lg4 ?_
            refine s_iload_n (pc' := 44) dX7_run_43 rfl lg2 ?_
            refine s_icmp_ge (pc' := 47) (tgt := 57) dX7_run_44 rfl (by decide) (fun _ => ?_) (fun c9 => absurd (nI_le (Nat.le_refl _) (by omega)) c9)
            refine s_iload_n (pc' := 58) dX7_run_57 rfl lg3 ?_
            refine s_if_ne (pc' := 61) (tgt := 70) dX7_run_58 rfl (by decide) (fun d0 => ?_) (fun d0 => ?_)
            · skip
              rw [if_neg d0] at fin
              refine s_iload_n (pc' := 71) dX7_run_70 rfl lg3 ?_
              refine s_iconst (pc' := 72) dX7_run_71 rfl iconst_1 ?_
              refine s_icmp_ne (pc' := 75) (tgt := 84) dX7_run_72 rfl (by decide) (fun d1 => ?_) (fun d1 => ?_)
              · skip
                rw [if_neg d1] at fin
                refine s_iload_n (pc' := 85) dX7_run_84 rfl lg3 ?_
                refine s_iconst (pc' := 86) dX7_run_85 rfl iconst_2 ?_
                refine s_icmp_ne (pc' := 89) (tgt := 96) dX7_run_86 rfl (by decide) (fun d2 => ?_) (fun d2 => ?_)
                · skip
                  rw [if_neg d2] at fin
                  refine s_iload_n (pc' := 97) dX7_run_96 rfl lg3 ?_
                  refine s_iconst (pc' := 98) dX7_run_97 rfl iconst_3 ?_
                  refine s_icmp_ne (pc' := 101) (tgt := 108) dX7_run_98 rfl (by decide) (fun d3 => ?_) (fun d3 => ?_)
                  · skip
                    rw [if_neg d3, pl_eq (hok.sg i) h8] at fin
                    refine s_aload_n (pc' := 109) dX7_run_108 rfl lg0 rfl ?_
                    refine c_X7_places  (pc' := 112) dX7_run_109 rfl lkX7_230 (by omega) (Nat.le_of_ble_eq_true rfl) hMm ?_
                    exact fin _ rfl
                  · skip
                    rw [if_pos d3] at fin
                    refine s_aload_n (pc' := 102) dX7_run_101 rfl lg0 rfl ?_
                    refine c_X7_rounds  (pc' := 105) dX7_run_102 rfl lkX7_220 (by omega) (Nat.le_of_ble_eq_true rfl) hMm ?_
                    refine s_goto (tgt := 112) dX7_run_105 (by decide) ?_
                    exact fin _ rfl
                · skip
                  rw [if_pos d2] at fin
                  refine s_aload_n (pc' := 90) dX7_run_89 rfl lg0 rfl ?_
                  refine c_X7_sharps  (pc' := 93) dX7_run_90 rfl lkX7_227 (by omega) (Nat.le_of_ble_eq_true rfl) hMm ?_
                  refine s_goto (tgt := 112) dX7_run_93 (by decide) ?_
                  exact fin _ rfl
              · skip
                rw [if_pos d1] at fin
                refine s_aload_n (pc' := 76) dX7_run_75 rfl lg0 rfl ?_
                refine s_iload_n (pc' := 77) dX7_run_76 rfl lg1 ?_
                refine s_iconst (pc' := 78) dX7_run_77 rfl iconst_3 ?_
                refine c_X7_of_3  (pc' := 81) dX7_run_78 rfl lkX7_108 (by omega) (Nat.le_of_ble_eq_true rfl) hMm ha ?_
                refine s_goto (tgt := 112) dX7_run_81 (by decide) ?_
                exact fin _ rfl
            · skip
              rw [if_pos d0] at fin
              refine s_aload_n (pc' := 62) dX7_run_61 rfl lg0 rfl ?_
              refine s_iload_n (pc' := 63) dX7_run_62 rfl lg1 ?_
              refine s_iconst (pc' := 64) dX7_run_63 rfl iconst_2 ?_
              refine c_X7_of_2  (pc' := 67) dX7_run_64 rfl lkX7_108 (by omega) (Nat.le_of_ble_eq_true rfl) hMm ha ?_
              refine s_goto (tgt := 112) dX7_run_67 (by decide) ?_
              exact fin _ rfl
          | succ k ih =>
            intro i m hi hMm hm
            refine s_iload (pc' := 43) dX7_run_41 rfl lg4 ?_
            refine s_iload_n (pc' := 44) dX7_run_43 rfl lg2 ?_
            refine s_icmp_ge (pc' := 47) (tgt := 57) dX7_run_44 rfl (by decide) (fun c9 => absurd c9 (nI_ge (by omega) (by omega))) (fun _ => ?_)
            refine s_aload_n (pc' := 48) dX7_run_47 rfl lg0 rfl ?_
            refine c_X7_goTide  (pc' := 51) dX7_run_48 rfl lkX7_217 (by omega) (Nat.le_of_ble_eq_true rfl) hMm (hT.mth hm) hw (fun m2 h2 f2 => ?_)
            refine s_iincN (pc' := 54) dX7_run_51 rfl lg4 rfl ls4 ?_
            refine s_goto (tgt := 41) dX7_run_54 (by decide) ?_
            refine ih (i + 1) m2 (by omega) ?_ (hm.tide f2)
            rw [sg_succ, ← td_succ]
            exact h2
        exact loop c 0 m1 (by omega) (by rw [td_0]; exact hM.keep g1) (mth.keep g1 g2)
      · skip
        rw [if_pos c3] at K
        refine s_bipush (pc' := 29) dX7_run_27 rfl bipush_m2 ?_
        refine s_iret dX7_run_29 rfl (vp_nar_int _) ?_
        exact K mem mtf.rf
theorem c_X7_run {z : Zz} {d kc ks : Nat} {mi : MI} {pc pc' : Nat} {L S : List Value} {Q : Option Value → Lay → Mem → Prop} {rf : Nat → Value} {tl : Lay} {mem : Mem}  {n w nt : Nat} {σ : Nat → Nat → Int32} {td p m what : Int32} {T : Nat → Nat → List Int32} {idx : Nat} (hd : decode mi.2.1 pc = .ok (.invokevirtual idx, 3)) (hp : pc + 3 = pc') (hlk : Cond.methodLink mi.1.cls idx yX7_run ∈ wok) (hdd : 5 + 1 ≤ d) (hcat : (S.map (fun v => v.category)).sum ≤ 8) (hM : isM 48 mem σ n td (nI w)) (hT : isTM mem nt T) (hw : w < nt) (hok : okS σ n) (K : ∀ mem', mtf mem mem' → Sim z d kc ks mi pc' L (.int (runR σ n td (T w) p m what) :: S) (LAY rf tl) mem' Q) : Sim z d kc ks mi pc L (.int what :: .int m :: .int p :: .ref 47 :: S) (LAY rf tl) mem Q :=
  s_invV (d2 := 5) hd hp okX7_run hlk inX7_run seX7_run hdd (Nat.zero_add _) (Nat.zero_add _) rfl rfl ly47 rfl hcat (Nat.le_of_ble_eq_true rfl) (m_X7_run (Nat.le_refl _) hM hT hw hok K)
set_option maxHeartbeats 4000000 in
theorem m_X7_when {z : Zz} {d : Nat} {Q : Option Value → Lay → Mem → Prop} {rf : Nat → Value} {tl : Lay} {mem : Mem}  {n w nt : Nat} {σ : Nat → Nat → Int32} {td : Int32} {T : Nat → Nat → List Int32} (hdd : 5 ≤ d) (hM : isM 48 mem σ n td (nI w)) (hT : isTM mem nt T) (hw : w < nt) (K : ∀ mem', mtf mem mem' → Q (some (.int (whenR σ n td (T w)))) (LAY rf tl) mem') : Sim z d 0 0 mX7_when 0 [.ref 47, .float 0] [] (LAY rf tl) mem Q := by
  have h8 := hM.2.1
  unfold whenR at K
  refine s_aload_n (pc' := 1) dX7_when_0 rfl lg0 rfl ?_
  refine s_aload_n (pc' := 2) dX7_when_1 rfl lg0 rfl ?_
  refine s_getRv (pc' := 5) (v := .ref 50) dX7_when_2 rfl flX7_16 ly47 (by decide) rfl rfl ?_
  refine c_X7_keep  (pc' := 8) dX7_when_5 rfl lkX7_223 (by omega) (Nat.le_of_ble_eq_true rfl) ly50 (by decide) (fun m1 g1 g2 => ?_)
  refine s_iconst (pc' := 9) dX7_when_8 rfl iconst_0 ?_
  refine s_istore_n (pc' := 10) dX7_when_9 rfl (Nat.le_of_ble_eq_true rfl) rfl ls1 ?_
  have fin : ∀ (i : Nat) (m : Mem), i ≤ 61 → fk (fun k => decide (rou (sg n (T w) σ td k) n = n)) 61 = i → mth mem m → Sim z d 0 0 mX7_when 37 [.ref 47, .int (nI i)] [] (LAY rf tl) m Q := by
    intro i m hi he hm
    rw [he] at K
    refine s_aload_n (pc' := 38) dX7_when_37 rfl lg0 rfl ?_
    refine s_aload_n (pc' := 39) dX7_when_38 rfl lg0 rfl ?_
    refine s_getRv (pc' := 42) (v := .ref 50) dX7_when_39 rfl flX7_16 ly47 (by decide) rfl rfl ?_
    refine c_X7_lay  (pc' := 45) dX7_when_42 rfl lkX7_233 (by omega) (Nat.le_of_ble_eq_true rfl) ly50 (by decide) (fun m2 g3 g4 => ?_)
    have K2 := K m2 (hm.lay g3 g4)
    refine s_iload_n (pc' := 46) dX7_when_45 rfl lg1 ?_
    refine s_bipush (pc' := 48) dX7_when_46 rfl bipush_60 ?_
    rcases Nat.lt_or_ge i 61 with q | q
    · rw [if_pos q] at K2
      refine s_icmp_gt (pc' := 51) (tgt := 55) dX7_when_48 rfl (by decide) (fun c9 => absurd c9 (fun q => (by have := (nI_ltI (a := 60) (b := i) (by omega) (by omega)).mp q; omega))) (fun _ => ?_)
      refine s_iload_n (pc' := 52) dX7_when_51 rfl lg1 ?_
      refine s_goto (tgt := 56) dX7_when_52 (by decide) ?_
      refine s_iret dX7_when_56 rfl (vp_nar_int _) ?_
      exact K2
    · rw [if_neg (by omega)] at K2
      refine s_icmp_gt (pc' := 51) (tgt := 55) dX7_when_48 rfl (by decide) (fun _ => ?_) (fun c9 => absurd ((nI_ltI (a := 60) (b := i) (by omega) (by omega)).mpr (by omega)) c9)
      refine s_iconst (pc' := 56) dX7_when_55 rfl iconst_m1 ?_
      refine s_iret dX7_when_56 rfl (vp_nar_int _) ?_
      exact K2
  have loop : ∀ (k i : Nat) (m : Mem), i + k = 61 → isM 48 m (sg n (T w) σ td i) n (td + nI i) (nI w) → mth mem m → (∀ j, j < i → decide (rou (sg n (T w) σ td j) n = n) = false) → Sim z d 0 0 mX7_when 10 [.ref 47, .int (nI i)] [] (LAY rf tl) m Q := by
    intro k
    induction k with
    | zero =>
      intro i m hi hMm hm hno
      have hic : i = 61 := by omega
      subst hic
      refine s_iload_n (pc' := 11) dX7_when_10 rfl lg1 ?_
      refine s_bipush (pc' := 13) dX7_when_11 rfl bipush_60 ?_
      refine s_icmp_gt (pc' := 16) (tgt := 37) dX7_when_13 rfl (by decide) (fun _ => ?_) (fun c9 => absurd (by decide) c9)
      exact fin 61 m (by omega) (fk_none hno) hm
    | succ k ih =>
      intro i m hi hMm hm hno
      have hcr : rou (sg n (T w) σ td i) n ≤ n := ct_le _ n
      refine s_iload_n (pc' := 11) dX7_when_10 rfl lg1 ?_
      refine s_bipush (pc' := 13) dX7_when_11 rfl bipush_60 ?_
      refine s_icmp_gt (pc' := 16) (tgt := 37) dX7_when_13 rfl (by decide) (fun c9 => absurd c9 (fun q => (by have := (nI_ltI (a := 60) (b := i) (by omega) (by omega)).mp q; omega))) (fun _ => ?_)
      refine s_aload_n (pc' := 17) dX7_when_16 rfl lg0 rfl ?_
      refine c_X7_rounds  (pc' := 20) dX7_when_17 rfl lkX7_220 (by omega) (Nat.le_of_ble_eq_true rfl) hMm ?_
      refine s_aload_n (pc' := 21) dX7_when_20 rfl lg0 rfl ?_
      refine c_X7_many  (pc' := 24) dX7_when_21 rfl lkX7_101 (by omega) (Nat.le_of_ble_eq_true rfl) ?_
      rw [hMm.1]
      by_cases c1 : rou (sg n (T w) σ td i) n = n
      · refine s_icmp_ge (pc' := 27) (tgt := 37) dX7_when_24 rfl (by decide) (fun _ => ?_) (fun c9 => absurd (by rw [c1]; exact nI_le (Nat.le_refl _) (by omega)) c9)
        exact fin i m (by omega) (fk_at (m := 61) hno (decide_eq_true c1) (by omega)) hm
      · skip
        refine s_icmp_ge (pc' := 27) (tgt := 37) dX7_when_24 rfl (by decide) (fun c9 => absurd c9 (nI_ge (by omega) (by omega))) (fun _ => ?_)
        refine s_aload_n (pc' := 28) dX7_when_27 rfl lg0 rfl ?_
        refine c_X7_goTide  (pc' := 31) dX7_when_28 rfl lkX7_217 (by omega) (Nat.le_of_ble_eq_true rfl) hMm (hT.mth hm) hw (fun m2 h2 f2 => ?_)
        refine s_iincN (pc' := 34) dX7_when_31 rfl lg1 rfl ls1 ?_
        refine s_goto (tgt := 10) dX7_when_34 (by decide) ?_
        refine ih (i + 1) m2 (by omega) ?_ (hm.tide f2) (fun j hj => ?_)
        · rw [sg_succ, ← td_succ]
          exact h2
        · rcases Nat.lt_or_ge j i with q | q
          · exact hno j q
          · have : j = i := by omega
            rw [this]; exact decide_eq_false c1
  exact loop 61 0 m1 (by omega) (by rw [td_0]; exact hM.keep g1) (mth.keep g1 g2) (fun j hj => absurd hj (Nat.not_lt_zero j))
theorem c_X7_when {z : Zz} {d kc ks : Nat} {mi : MI} {pc pc' : Nat} {L S : List Value} {Q : Option Value → Lay → Mem → Prop} {rf : Nat → Value} {tl : Lay} {mem : Mem}  {n w nt : Nat} {σ : Nat → Nat → Int32} {td : Int32} {T : Nat → Nat → List Int32} {idx : Nat} (hd : decode mi.2.1 pc = .ok (.invokevirtual idx, 3)) (hp : pc + 3 = pc') (hlk : Cond.methodLink mi.1.cls idx yX7_when ∈ wok) (hdd : 5 + 1 ≤ d) (hcat : (S.map (fun v => v.category)).sum ≤ 8) (hM : isM 48 mem σ n td (nI w)) (hT : isTM mem nt T) (hw : w < nt) (K : ∀ mem', mtf mem mem' → Sim z d kc ks mi pc' L (.int (whenR σ n td (T w)) :: S) (LAY rf tl) mem' Q) : Sim z d kc ks mi pc L (.ref 47 :: S) (LAY rf tl) mem Q :=
  s_invV (d2 := 5) hd hp okX7_when hlk inX7_when seX7_when hdd (Nat.zero_add _) (Nat.zero_add _) rfl rfl ly47 rfl hcat (Nat.le_of_ble_eq_true rfl) (m_X7_when (Nat.le_refl _) hM hT hw K)
set_option maxHeartbeats 4000000 in
theorem m_X7_farOut {z : Zz} {d : Nat} {Q : Option Value → Lay → Mem → Prop} {rf : Nat → Value} {tl : Lay} {mem : Mem}  {n : Nat} {σ : Nat → Nat → Int32} {td ru : Int32} (hdd : 2 ≤ d) (hM : isM 48 mem σ n td ru) (K :  Q (some (.int (fo (σ 3) n n).1)) (LAY rf tl) mem) : Sim z d 0 0 mX7_farOut 0 [.ref 47, .float 0, .float 0, .float 0, .float 0, .float 0] [] (LAY rf tl) mem Q := by
  have h8 := hM.2.1
  have hn := hM.1
  have inner : ∀ (i : Nat) (x y : Int32) (k j : Nat), i < n → j + k = n → Sim z d 0 0 mX7_farOut 56 [.ref 47, .int x, .int y, .int (nI i), .int (sA (σ 3) n i), .int (nI n)] [] (LAY rf tl) mem Q → Sim z d 0 0 mX7_farOut 20 [.ref 47, .int x, .int y, .int (nI i), .int (suI (fun j => apI (σ 3 i) (σ 3 j)) j), .int (nI j)] [] (LAY rf tl) mem Q := by
    intro i x y k
    induction k with
    | zero =>
      intro j hi hj KK
      have : j = n := by omega
      subst this
      refine s_iload (pc' := 22) dX7_farOut_20 rfl lg5 ?_
      refine s_aload_n (pc' := 23) dX7_farOut_22 rfl lg0 rfl ?_
      refine c_X7_many  (pc' := 26) dX7_farOut_23 rfl lkX7_101 (by omega) (Nat.le_of_ble_eq_true rfl) ?_
      refine s_icmp_ge (pc' := 29) (tgt := 56) dX7_farOut_26 rfl (by decide) (fun _ => ?_) (fun c9 => absurd (by rw [hn]; exact nI_le (by omega) (by omega)) c9)
      exact KK
    | succ k ih =>
      intro j hi hj KK
      have h1 := ih (j + 1) hi (by omega) KK
      rw [suI_succ] at h1
      refine s_iload (pc' := 22) dX7_farOut_20 rfl lg5 ?_
      refine s_aload_n (pc' := 23) dX7_farOut_22 rfl lg0 rfl ?_
      refine c_X7_many  (pc' := 26) dX7_farOut_23 rfl lkX7_101 (by omega) (Nat.le_of_ble_eq_true rfl) ?_
      refine s_icmp_ge (pc' := 29) (tgt := 56) dX7_farOut_26 rfl (by decide) (fun c9 => absurd c9 (by rw [hn]; exact nI_ge (by omega) (by omega))) (fun _ => ?_)
      refine s_iload (pc' := 31) dX7_farOut_29 rfl lg4 ?_
      refine s_aload_n (pc' := 32) dX7_farOut_31 rfl lg0 rfl ?_
      refine s_iload_n (pc' := 33) dX7_farOut_32 rfl lg3 ?_
      refine s_iconst (pc' := 34) dX7_farOut_33 rfl iconst_3 ?_
      refine c_X7_of_3  (pc' := 37) dX7_farOut_34 rfl lkX7_108 (by omega) (Nat.le_of_ble_eq_true rfl) hM hi ?_
      refine s_aload_n (pc' := 38) dX7_farOut_37 rfl lg0 rfl ?_
      refine s_iload (pc' := 40) dX7_farOut_38 rfl lg5 ?_
      refine s_iconst (pc' := 41) dX7_farOut_40 rfl iconst_3 ?_
      refine c_X7_of_3  (pc' := 44) dX7_farOut_41 rfl lkX7_108 (by omega) (Nat.le_of_ble_eq_true rfl) hM (by omega) ?_
      refine c_X7_apart (pc' := 47) dX7_farOut_44 rfl lkX7_196 (by omega) (Nat.le_of_ble_eq_true rfl)  ?_
      refine s_iadd (pc' := 48) dX7_farOut_47 rfl ?_
      refine s_istore (pc' := 50) dX7_farOut_48 rfl (Nat.le_of_ble_eq_true rfl) rfl ls4 ?_
      refine s_iincN (pc' := 53) dX7_farOut_50 rfl lg5 rfl ls5 ?_
      refine s_goto (tgt := 20) dX7_farOut_53 (by decide) ?_
      exact h1
  refine s_iconst (pc' := 1) dX7_farOut_0 rfl iconst_m1 ?_
  refine s_istore_n (pc' := 2) dX7_farOut_1 rfl (Nat.le_of_ble_eq_true rfl) rfl ls1 ?_
  refine s_iconst (pc' := 3) dX7_farOut_2 rfl iconst_m1 ?_
  refine s_istore_n (pc' := 4) dX7_farOut_3 rfl (Nat.le_of_ble_eq_true rfl) rfl ls2 ?_
  refine s_iconst (pc' := 5) dX7_farOut_4 rfl iconst_0 ?_
  refine s_istore_n (pc' := 6) dX7_farOut_5 rfl (Nat.le_of_ble_eq_true rfl) rfl ls3 ?_
  have loop : ∀ (k i : Nat) (x y : Int32) (v4 v5 : Value), i + k = n → (x, y) = fo (σ 3) n i → Sim z d 0 0 mX7_farOut 6 [.ref 47, .int x, .int y, .int (nI i), v4, v5] [] (LAY rf tl) mem Q := by
    intro k
    induction k with
    | zero =>
      intro i x y v4 v5 hi hxy
      have : i = n := by omega
      rw [this] at hxy
      rw [← hxy] at K
      refine s_iload_n (pc' := 7) dX7_farOut_6 rfl lg3 ?_
      refine s_aload_n (pc' := 8) dX7_farOut_7 rfl lg0 rfl ?_
      refine c_X7_many  (pc' := 11) dX7_farOut_8 rfl lkX7_101 (by omega) (Nat.le_of_ble_eq_true rfl) ?_
      refine s_icmp_ge (pc' := 14) (tgt := 81) dX7_farOut_11 rfl (by decide) (fun _ => ?_) (fun c9 => absurd (by rw [hn]; exact nI_le (by omega) (by omega)) c9)
      refine s_iload_n (pc' := 82) dX7_farOut_81 rfl lg1 ?_
      refine s_iret dX7_farOut_82 rfl (vp_nar_int _) ?_
      exact K
    | succ k ih =>
      intro i x y v4 v5 hi hxy
      refine s_iload_n (pc' := 7) dX7_farOut_6 rfl lg3 ?_
      refine s_aload_n (pc' := 8) dX7_farOut_7 rfl lg0 rfl ?_
      refine c_X7_many  (pc' := 11) dX7_farOut_8 rfl lkX7_101 (by omega) (Nat.le_of_ble_eq_true rfl) ?_
      refine s_icmp_ge (pc' := 14) (tgt := 81) dX7_farOut_11 rfl (by decide) (fun c9 => absurd c9 (by rw [hn]; exact nI_ge (by omega) (by omega))) (fun _ => ?_)
      refine s_iconst (pc' := 15) dX7_farOut_14 rfl iconst_0 ?_
      refine s_istore (pc' := 17) dX7_farOut_15 rfl (Nat.le_of_ble_eq_true rfl) rfl ls4 ?_
      refine s_iconst (pc' := 18) dX7_farOut_17 rfl iconst_0 ?_
      refine s_istore (pc' := 20) dX7_farOut_18 rfl (Nat.le_of_ble_eq_true rfl) rfl ls5 ?_
      refine inner i x y n 0 (by omega) (by omega) ?_
      refine s_iload (pc' := 58) dX7_farOut_56 rfl lg4 ?_
      refine s_iload_n (pc' := 59) dX7_farOut_58 rfl lg2 ?_
      refine s_icmp_le (pc' := 62) (tgt := 66) dX7_farOut_59 rfl (by decide) (fun c1 => ?_) (fun c1 => ?_)
      · skip
        refine s_iload_n (pc' := 67) dX7_farOut_66 rfl lg1 ?_
        refine s_istore_n (pc' := 68) dX7_farOut_67 rfl (Nat.le_of_ble_eq_true rfl) rfl ls1 ?_
        refine s_iload (pc' := 70) dX7_farOut_68 rfl lg4 ?_
        refine s_iload_n (pc' := 71) dX7_farOut_70 rfl lg2 ?_
        refine c_J9_max_7cf53 (pc' := 74) dX7_farOut_71 rfl lkX7_83 (by omega) (Nat.le_of_ble_eq_true rfl)  ?_
        have e : mxI (sA (σ 3) n i) y = y := by
          unfold mxI
          by_cases q : sA (σ 3) n i < y
          · rw [if_pos q]
          · rw [if_neg q]
            exact Int32.le_antisymm c1 (Int32.not_lt.mp q)
        rw [e]
        refine s_istore_n (pc' := 75) dX7_farOut_74 rfl (Nat.le_of_ble_eq_true rfl) rfl ls2 ?_
        refine s_iincN (pc' := 78) dX7_farOut_75 rfl lg3 rfl ls3 ?_
        refine s_goto (tgt := 6) dX7_farOut_78 (by decide) ?_
        refine ih (i + 1) x y _ _ (by omega) ?_
        rw [fo_succ, ← hxy, if_pos c1]
      · skip
        refine s_iload_n (pc' := 63) dX7_farOut_62 rfl lg3 ?_
        refine s_goto (tgt := 67) dX7_farOut_63 (by decide) ?_
        refine s_istore_n (pc' := 68) dX7_farOut_67 rfl (Nat.le_of_ble_eq_true rfl) rfl ls1 ?_
        refine s_iload (pc' := 70) dX7_farOut_68 rfl lg4 ?_
        refine s_iload_n (pc' := 71) dX7_farOut_70 rfl lg2 ?_
        refine c_J9_max_7cf53 (pc' := 74) dX7_farOut_71 rfl lkX7_83 (by omega) (Nat.le_of_ble_eq_true rfl)  ?_
        have e : mxI (sA (σ 3) n i) y = sA (σ 3) n i := by
          unfold mxI
          rw [if_neg (fun q => c1 (Int32.le_of_lt q))]
        rw [e]
        refine s_istore_n (pc' := 75) dX7_farOut_74 rfl (Nat.le_of_ble_eq_true rfl) rfl ls2 ?_
        refine s_iincN (pc' := 78) dX7_farOut_75 rfl lg3 rfl ls3 ?_
        refine s_goto (tgt := 6) dX7_farOut_78 (by decide) ?_
        refine ih (i + 1) _ _ _ _ (by omega) ?_
        rw [fo_succ, ← hxy, if_neg c1]
  exact loop n 0 _ _ _ _ (by omega) rfl
theorem c_X7_farOut {z : Zz} {d kc ks : Nat} {mi : MI} {pc pc' : Nat} {L S : List Value} {Q : Option Value → Lay → Mem → Prop} {rf : Nat → Value} {tl : Lay} {mem : Mem}  {n : Nat} {σ : Nat → Nat → Int32} {td ru : Int32} {idx : Nat} (hd : decode mi.2.1 pc = .ok (.invokevirtual idx, 3)) (hp : pc + 3 = pc') (hlk : Cond.methodLink mi.1.cls idx yX7_farOut ∈ wok) (hdd : 2 + 1 ≤ d) (hcat : (S.map (fun v => v.category)).sum ≤ 8) (hM : isM 48 mem σ n td ru) (K :  Sim z d kc ks mi pc' L (.int (fo (σ 3) n n).1 :: S) (LAY rf tl) mem Q) : Sim z d kc ks mi pc L (.ref 47 :: S) (LAY rf tl) mem Q :=
  s_invV (d2 := 2) hd hp okX7_farOut hlk inX7_farOut seX7_farOut hdd (Nat.zero_add _) (Nat.zero_add _) rfl rfl ly47 rfl hcat (Nat.le_of_ble_eq_true rfl) (m_X7_farOut (Nat.le_refl _) hM K)
set_option maxHeartbeats 4000000 in
theorem m_X7_all {z : Zz} {d : Nat} {Q : Option Value → Lay → Mem → Prop} {rf : Nat → Value} {tl : Lay} {mem : Mem}  {n w nt : Nat} {σ : Nat → Nat → Int32} {td what : Int32} {T : Nat → Nat → List Int32} (hdd : 6 ≤ d) (hM : isM 48 mem σ n td (nI w)) (hT : isTM mem nt T) (hw : w < nt) (hok : okS σ n) (K : ∀ mem', mtf mem mem' → Q (some (.int (allR σ n td (T w) what))) (LAY rf tl) mem') : Sim z d 0 0 mX7_all 0 [.ref 47, .int what] [] (LAY rf tl) mem Q := by
  have K0 := K mem mtf.rf
  unfold allR at K K0
  rw [pl_eq hok hM.2.1] at K0
  refine s_iload_n (pc' := 1) dX7_all_0 rfl lg1 ?_
  refine s_ts4 (v0 := 0) (v1 := 1) (v2 := 2) (v3 := 3) (t0 := 32) (t1 := 37) (t2 := 42) (t3 := 47) (td := 52) dX7_all_1 (by decide) (by decide) (by decide) (by decide) (by decide) (by decide) (by decide) (by decide) (by decide) (by decide) (fun e1 => ?_) (fun e1 => ?_) (fun e1 => ?_) (fun e1 => ?_) (fun e1_0 e1_1 e1_2 e1_3 => ?_)
  · refine s_aload_n (pc' := 33) dX7_all_32 rfl lg0 rfl ?_
    refine c_X7_when (pc' := 36) dX7_all_33 rfl lkX7_236 (by omega) (Nat.le_of_ble_eq_true rfl) hM hT hw ?_
    intro m1 t1
    refine s_iret dX7_all_36 rfl (vp_nar_int _) ?_
    (first | (have K2 := K m1 t1; simpa [e1] using K2) | (simpa [e1] using K0))
  · refine s_aload_n (pc' := 38) dX7_all_37 rfl lg0 rfl ?_
    refine c_X7_rounds (pc' := 41) dX7_all_38 rfl lkX7_220 (by omega) (Nat.le_of_ble_eq_true rfl) hM ?_
    refine s_iret dX7_all_41 rfl (vp_nar_int _) ?_
    (first | (have K2 := K m1 t1; simpa [e1] using K2) | (simpa [e1] using K0))
  · refine s_aload_n (pc' := 43) dX7_all_42 rfl lg0 rfl ?_
    refine c_X7_places (pc' := 46) dX7_all_43 rfl lkX7_230 (by omega) (Nat.le_of_ble_eq_true rfl) hM ?_
    refine s_iret dX7_all_46 rfl (vp_nar_int _) ?_
    (first | (have K2 := K m1 t1; simpa [e1] using K2) | (simpa [e1] using K0))
  · refine s_aload_n (pc' := 48) dX7_all_47 rfl lg0 rfl ?_
    refine c_X7_farOut (pc' := 51) dX7_all_48 rfl lkX7_239 (by omega) (Nat.le_of_ble_eq_true rfl) hM ?_
    refine s_iret dX7_all_51 rfl (vp_nar_int _) ?_
    (first | (have K2 := K m1 t1; simpa [e1] using K2) | (simpa [e1] using K0))
  · refine s_bipush (pc' := 54) dX7_all_52 rfl bipush_m2 ?_
    refine s_iret dX7_all_54 rfl (vp_nar_int _) ?_
    (first | (have K2 := K m1 t1; simpa [e1_0, e1_1, e1_2, e1_3] using K2) | (simpa [e1_0, e1_1, e1_2, e1_3] using K0))
theorem c_X7_all {z : Zz} {d kc ks : Nat} {mi : MI} {pc pc' : Nat} {L S : List Value} {Q : Option Value → Lay → Mem → Prop} {rf : Nat → Value} {tl : Lay} {mem : Mem}  {n w nt : Nat} {σ : Nat → Nat → Int32} {td what : Int32} {T : Nat → Nat → List Int32} {idx : Nat} (hd : decode mi.2.1 pc = .ok (.invokevirtual idx, 3)) (hp : pc + 3 = pc') (hlk : Cond.methodLink mi.1.cls idx yX7_all ∈ wok) (hdd : 6 + 1 ≤ d) (hcat : (S.map (fun v => v.category)).sum ≤ 8) (hM : isM 48 mem σ n td (nI w)) (hT : isTM mem nt T) (hw : w < nt) (hok : okS σ n) (K : ∀ mem', mtf mem mem' → Sim z d kc ks mi pc' L (.int (allR σ n td (T w) what) :: S) (LAY rf tl) mem' Q) : Sim z d kc ks mi pc L (.int what :: .ref 47 :: S) (LAY rf tl) mem Q :=
  s_invV (d2 := 6) hd hp okX7_all hlk inX7_all seX7_all hdd (Nat.zero_add _) (Nat.zero_add _) rfl rfl ly47 rfl hcat (Nat.le_of_ble_eq_true rfl) (m_X7_all (Nat.le_refl _) hM hT hw hok K)

