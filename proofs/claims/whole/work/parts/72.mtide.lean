/-! ===== the Model: a tide; told ===== -/
def rwf (mem mem' : Mem) : Prop := ∀ j, j ≠ 56 → mem' j = mem j
theorem rwf.rf {mem : Mem} : rwf mem mem := fun _ _ => rfl
theorem rwf.tr {a b c : Mem} (h1 : rwf a b) (h2 : rwf b c) : rwf a c := fun j h3 => (h2 j h3).trans (h1 j h3)
theorem isM.rwf {mem mem' : Mem} {σ : Nat → Nat → Int32} {n : Nat} {td ru : Int32} (h : isM 48 mem σ n td ru) (hk : rwf mem mem') : isM 48 mem' σ n td ru := h.cp (fun q _ => by rw [hk 48 (by decide)])
theorem isTM.rwf {mem mem' : Mem} {nt : Nat} {T : Nat → Nat → List Int32} (h : isTM mem nt T) (hk : rwf mem mem') : isTM mem' nt T := h.kept (by rw [hk 47 (by decide)]) (hk 52 (by decide)) (hk 53 (by decide))
set_option maxHeartbeats 4000000 in
theorem m_X7_clashing {z : Zz} {d : Nat} {Q : Option Value → Lay → Mem → Prop} {rf : Nat → Value} {tl : Lay} {mem : Mem}  {n i w nt : Nat} {σ : Nat → Nat → Int32} {td : Int32} {T : Nat → Nat → List Int32} (hdd : 4 ≤ d) (hM : isM 48 mem σ n td (nI w)) (hi : i < n) (hT : isTM mem nt T) (hw : w < nt) (K : ∀ mem', rwf mem mem' → Q (some (.int (bo (fun k => !decide (k = i) && !decide (clB σ td (T w) i k = 0)) n))) (LAY rf tl) mem') : Sim z d 0 0 mX7_clashing 0 [.ref 47, .int (nI i), .float 0, .float 0] [] (LAY rf tl) mem Q := by
  have h8 := hM.2.1
  refine s_iconst (pc' := 1) dX7_clashing_0 rfl iconst_0 ?_
  refine s_istore_n (pc' := 2) dX7_clashing_1 rfl (Nat.le_of_ble_eq_true rfl) rfl ls2 ?_
  refine s_iconst (pc' := 3) dX7_clashing_2 rfl iconst_0 ?_
  refine s_istore_n (pc' := 4) dX7_clashing_3 rfl (Nat.le_of_ble_eq_true rfl) rfl ls3 ?_
  have loop : ∀ (k j : Nat) (m : Mem), j + k = n → rwf mem m → Sim z d 0 0 mX7_clashing 4 [.ref 47, .int (nI i), .int (bo (fun k => !decide (k = i) && !decide (clB σ td (T w) i k = 0)) j), .int (nI j)] [] (LAY rf tl) m Q := by
    intro k
    induction k with
    | zero =>
      intro j m hj hm
      have hn := (hM.rwf hm).1
      have : j = n := by omega
      subst this
      refine s_iload_n (pc' := 5) dX7_clashing_4 rfl lg3 ?_
      refine s_aload_n (pc' := 6) dX7_clashing_5 rfl lg0 rfl ?_
      refine c_X7_many  (pc' := 9) dX7_clashing_6 rfl lkX7_101 (by omega) (Nat.le_of_ble_eq_true rfl) ?_
      refine s_icmp_ge (pc' := 12) (tgt := 42) dX7_clashing_9 rfl (by decide) (fun _ => ?_) (fun c9 => absurd (by rw [hn]; exact nI_le (by omega) (by omega)) c9)
      refine s_iload_n (pc' := 43) dX7_clashing_42 rfl lg2 ?_
      refine s_iret dX7_clashing_43 rfl (vp_nar_int _) ?_
      exact K m hm
    | succ k ih =>
      intro j m hj hm
      have hMm := hM.rwf hm
      have hn := hMm.1
      have h1 := fun m' hm' => ih (j + 1) m' (by omega) hm'
      refine s_iload_n (pc' := 5) dX7_clashing_4 rfl lg3 ?_
      refine s_aload_n (pc' := 6) dX7_clashing_5 rfl lg0 rfl ?_
      refine c_X7_many  (pc' := 9) dX7_clashing_6 rfl lkX7_101 (by omega) (Nat.le_of_ble_eq_true rfl) ?_
      refine s_icmp_ge (pc' := 12) (tgt := 42) dX7_clashing_9 rfl (by decide) (fun c9 => absurd c9 (by rw [hn]; exact nI_ge (by omega) (by omega))) (fun _ => ?_)
      refine s_iload_n (pc' := 13) dX7_clashing_12 rfl lg2 ?_
      refine s_iload_n (pc' := 14) dX7_clashing_13 rfl lg3 ?_
      refine s_iload_n (pc' := 15) dX7_clashing_14 rfl lg1 ?_
      refine s_icmp_eq (pc' := 18) (tgt := 33) dX7_clashing_15 rfl (by decide) (fun c1 => ?_) (fun c1 => ?_)
      · skip
        rw [nI_eqN (by omega) (by omega)] at c1
        have h2 := h1 m hm
        rw [bo_f (by rw [decide_eq_true c1]; rfl)] at h2
        refine s_iconst (pc' := 34) dX7_clashing_33 rfl iconst_0 ?_
        refine s_ior (pc' := 35) dX7_clashing_34 rfl ?_
        rw [or_0]
        refine s_istore_n (pc' := 36) dX7_clashing_35 rfl (Nat.le_of_ble_eq_true rfl) rfl ls2 ?_
        refine s_iincN (pc' := 39) dX7_clashing_36 rfl lg3 rfl ls3 ?_
        refine s_goto (tgt := 4) dX7_clashing_39 (by decide) ?_
        exact h2
      · skip
        rw [nI_eqN (by omega) (by omega)] at c1
        refine s_aload_n (pc' := 19) dX7_clashing_18 rfl lg0 rfl ?_
        refine s_iload_n (pc' := 20) dX7_clashing_19 rfl lg1 ?_
        refine s_iload_n (pc' := 21) dX7_clashing_20 rfl lg3 ?_
        refine c_X7_clashes  (pc' := 24) dX7_clashing_21 rfl lkX7_111 (by omega) (Nat.le_of_ble_eq_true rfl) hMm hi (by omega) (hT.rwf hm) hw (fun m1 s1 => ?_)
        have h2 := h1 m1 (hm.tr s1)
        refine s_if_eq (pc' := 27) (tgt := 33) dX7_clashing_24 rfl (by decide) (fun c2 => ?_) (fun c2 => ?_)
        · skip
          rw [bo_f (by rw [decide_eq_true c2, Bool.not_true, Bool.and_false])] at h2
          refine s_iconst (pc' := 34) dX7_clashing_33 rfl iconst_0 ?_
          refine s_ior (pc' := 35) dX7_clashing_34 rfl ?_
          rw [or_0]
          refine s_istore_n (pc' := 36) dX7_clashing_35 rfl (Nat.le_of_ble_eq_true rfl) rfl ls2 ?_
          refine s_iincN (pc' := 39) dX7_clashing_36 rfl lg3 rfl ls3 ?_
          refine s_goto (tgt := 4) dX7_clashing_39 (by decide) ?_
          exact h2
        · skip
          rw [bo_t (by rw [decide_eq_false c1, decide_eq_false c2]; rfl)] at h2
          refine s_iconst (pc' := 28) dX7_clashing_27 rfl iconst_1 ?_
          refine s_iload_n (pc' := 29) dX7_clashing_28 rfl lg3 ?_
          refine s_ishl (pc' := 30) dX7_clashing_29 rfl ?_
          refine s_goto (tgt := 34) dX7_clashing_30 (by decide) ?_
          refine s_ior (pc' := 35) dX7_clashing_34 rfl ?_
          refine s_istore_n (pc' := 36) dX7_clashing_35 rfl (Nat.le_of_ble_eq_true rfl) rfl ls2 ?_
          refine s_iincN (pc' := 39) dX7_clashing_36 rfl lg3 rfl ls3 ?_
          refine s_goto (tgt := 4) dX7_clashing_39 (by decide) ?_
          exact h2
  exact loop n 0 mem (by omega) rwf.rf
theorem c_X7_clashing {z : Zz} {d kc ks : Nat} {mi : MI} {pc pc' : Nat} {L S : List Value} {Q : Option Value → Lay → Mem → Prop} {rf : Nat → Value} {tl : Lay} {mem : Mem}  {n i w nt : Nat} {σ : Nat → Nat → Int32} {td : Int32} {T : Nat → Nat → List Int32} {idx : Nat} (hd : decode mi.2.1 pc = .ok (.invokevirtual idx, 3)) (hp : pc + 3 = pc') (hlk : Cond.methodLink mi.1.cls idx yX7_clashing ∈ wok) (hdd : 4 + 1 ≤ d) (hcat : (S.map (fun v => v.category)).sum ≤ 8) (hM : isM 48 mem σ n td (nI w)) (hi : i < n) (hT : isTM mem nt T) (hw : w < nt) (K : ∀ mem', rwf mem mem' → Sim z d kc ks mi pc' L (.int (bo (fun k => !decide (k = i) && !decide (clB σ td (T w) i k = 0)) n) :: S) (LAY rf tl) mem' Q) : Sim z d kc ks mi pc L (.int (nI i) :: .ref 47 :: S) (LAY rf tl) mem Q :=
  s_invV (d2 := 4) hd hp okX7_clashing hlk inX7_clashing seX7_clashing hdd (Nat.zero_add _) (Nat.zero_add _) rfl rfl ly47 rfl hcat (Nat.le_of_ble_eq_true rfl) (m_X7_clashing (Nat.le_refl _) hM hi hT hw K)
/-- all but the Model's shore and its rows for tides -/
def mdf (mem mem' : Mem) : Prop := ∀ j, j ≠ 48 → j ≠ 50 → (j < 56 ∨ 58 < j) → j ≠ 66 → mem' j = mem j
theorem mdf.rf {mem : Mem} : mdf mem mem := fun _ _ _ _ _ => rfl
theorem mdf.tr {a b c : Mem} (h1 : mdf a b) (h2 : mdf b c) : mdf a c := fun j h3 h4 h5 h6 => (h2 j h3 h4 h5 h6).trans (h1 j h3 h4 h5 h6)
theorem mdf.of_rwf {a b : Mem} (h : rwf a b) : mdf a b := fun j _ _ _ _ => h j (by omega)
theorem isTM.mdf {mem mem' : Mem} {nt : Nat} {T : Nat → Nat → List Int32} (h : isTM mem nt T) (hk : mdf mem mem') : isTM mem' nt T := h.kept (by rw [hk 47 (by decide) (by decide) (by decide) (by decide)]) (hk 52 (by decide) (by decide) (by decide) (by decide)) (hk 53 (by decide) (by decide) (by decide) (by decide))
/-- what a tide leaves: but the row of numbers, off and on, and the shore -/
def tdf (mem mem' : Mem) : Prop := ∀ j, j ≠ 48 → j ≠ 56 → j ≠ 57 → j ≠ 58 → mem' j = mem j
theorem tdf.rf {mem : Mem} : tdf mem mem := fun _ _ _ _ _ => rfl
theorem tdf.tr {a b c : Mem} (h1 : tdf a b) (h2 : tdf b c) : tdf a c := fun j h3 h4 h5 h6 => (h2 j h3 h4 h5 h6).trans (h1 j h3 h4 h5 h6)
theorem tdf.mdf {a b : Mem} (h : tdf a b) : mdf a b := fun j h1 _ h3 _ => h j h1 (by omega) (by omega) (by omega)
theorem isTM.tdf {mem mem' : Mem} {nt : Nat} {T : Nat → Nat → List Int32} (h : isTM mem nt T) (hk : tdf mem mem') : isTM mem' nt T := h.mdf hk.mdf
theorem wr_max {σ : Nat → Nat → Int32} {n : Nat} {td : Int32} {P : Nat → List Int32} {i : Nat} : mxI 0 (σ 2 i - wears σ n td P i) = pas σ n td P 2 i := by
  unfold pas
  rw [if_pos rfl, wrn]
  by_cases h : σ 2 i = 0
  · rw [if_pos h, h]
    unfold wears
    obtain ⟨v, hv, ev⟩ := bd_or (wornK (σ 0 i) (bdI (tv (vA σ td i) (P 0)) 0 99) (nI (others σ n i)) (0 : Int32) td)
    rw [h, ev]
    have : ∀ v : Nat, v < 100 → mxI 0 (0 - nI v) = mxI 0 (0 - 0) := by decide +kernel
    exact this v (by omega)
  · rw [if_neg h]
theorem u2_at {σ : Nat → Nat → Int32} {w i : Nat} {x : Int32} : u2 σ w i x w i = x := if_pos ⟨rfl, rfl⟩
theorem u2_nw {σ : Nat → Nat → Int32} {w i w' i' : Nat} {x : Int32} (h : w' ≠ w) : u2 σ w i x w' i' = σ w' i' := if_neg (fun q => h q.1)
theorem u2_ni {σ : Nat → Nat → Int32} {w i w' i' : Nat} {x : Int32} (h : i' ≠ i) : u2 σ w i x w' i' = σ w' i' := if_neg (fun q => h q.2)
def hlf (σ τ : Nat → Nat → Int32) (i w k : Nat) : Int32 := if k < i then τ w k else σ w k
theorem hlf_lo {σ τ : Nat → Nat → Int32} {i w k : Nat} (h : k < i) : hlf σ τ i w k = τ w k := if_pos h
theorem hlf_hi {σ τ : Nat → Nat → Int32} {i w k : Nat} (h : ¬ k < i) : hlf σ τ i w k = σ w k := if_neg h
theorem pas_0 {σ : Nat → Nat → Int32} {n : Nat} {td : Int32} {P : Nat → List Int32} {w i : Nat} (h2 : w ≠ 2) (h3 : w ≠ 3) : pas σ n td P w i = σ w i := by unfold pas; rw [if_neg h2, if_neg h3]
set_option maxHeartbeats 4000000 in
theorem m_X7_goTide {z : Zz} {d : Nat} {Q : Option Value → Lay → Mem → Prop} {rf : Nat → Value} {tl : Lay} {mem : Mem}  {n w nt : Nat} {σ : Nat → Nat → Int32} {td : Int32} {T : Nat → Nat → List Int32} (hdd : 4 ≤ d) (hM : isM 48 mem σ n td (nI w)) (hT : isTM mem nt T) (hw : w < nt) (K : ∀ mem', isM 48 mem' (pas σ n td (T w)) n (td + 1) (nI w) → tdf mem mem' → Q none (LAY rf tl) mem') : Sim z d 0 0 mX7_goTide 0 [.ref 47, .float 0] [] (LAY rf tl) mem Q := by
  have h8 := hM.2.1
  have second : ∀ (k i : Nat) (m1 m : Mem), i + k = n → isM 48 m1 σ n td (nI w) → (∀ k, k < n → m1 57 k = wears σ n td (T w) k ∧ m1 58 k = carr σ td (T w) k) → tdf mem m1 → (∀ j, j ≠ 48 → m j = m1 j) → m 48 40 = nI n → m 48 41 = td → m 48 42 = nI w → (∀ k, k < n → ∀ w', w' < 5 → m 48 (5 * k + w') = hlf σ (pas σ n td (T w)) i w' k) → Sim z d 0 0 mX7_goTide 40 [.ref 47, .int (nI i)] [] (LAY rf tl) m Q := by
    intro k
    induction k with
    | zero =>
      intro i m1 m hi hM1 hwc hfr hm hn h41 h42 hv
      have : i = n := by omega
      subst this
      refine s_iload_n (pc' := 41) dX7_goTide_40 rfl lg1 ?_
      refine s_aload_n (pc' := 42) dX7_goTide_41 rfl lg0 rfl ?_
      refine c_X7_many  (pc' := 45) dX7_goTide_42 rfl lkX7_101 (by omega) (Nat.le_of_ble_eq_true rfl) ?_
      refine s_icmp_ge (pc' := 48) (tgt := 101) dX7_goTide_45 rfl (by decide) (fun _ => ?_) (fun c9 => absurd (by rw [hn]; exact nI_le (by omega) (by omega)) c9)
      refine s_aload_n (pc' := 102) dX7_goTide_101 rfl lg0 rfl ?_
      refine s_getRv (pc' := 105) (v := .ref 48) dX7_goTide_102 rfl flX7_7 ly47 (by decide) rfl rfl ?_
      refine s_bipush (pc' := 107) dX7_goTide_105 rfl bipush_41 ?_
      refine s_dup2 (pc' := 108) dX7_goTide_107 rfl rfl rfl ?_
      refine s_ialdNv (pc' := 109) (k := 41) (v := td) dX7_goTide_108 rfl ly48 (by decide) (by decide) h41 ?_
      refine s_iconst (pc' := 110) dX7_goTide_109 rfl iconst_1 ?_
      refine s_iadd (pc' := 111) dX7_goTide_110 rfl ?_
      refine s_iastN (pc' := 112) (k := 41) dX7_goTide_111 rfl ly48 (by decide) (by decide) ?_
      refine s_vret dX7_goTide_112 rfl ?_
      refine K _ ⟨by rw [upE, udN (by decide)]; exact hn, h8, by rw [upE, udE], by rw [upE, udN (by decide)]; exact h42, fun k hk w' hw' => ?_⟩ (fun j q1 q2 q3 q4 => by rw [upN q1, hm j q1]; exact hfr j q1 q2 q3 q4)
      rw [upE, udN (by omega), hv k hk w' hw', hlf_lo hk]
    | succ k ih =>
      intro i m1 m hi hM1 hwc hfr hm hn h41 h42 hv
      have hMm : isM 48 m (hlf σ (pas σ n td (T w)) i) n td (nI w) := ⟨hn, h8, h41, h42, hv⟩
      obtain ⟨w6, w7⟩ := hwc i (by omega)
      refine s_iload_n (pc' := 41) dX7_goTide_40 rfl lg1 ?_
      refine s_aload_n (pc' := 42) dX7_goTide_41 rfl lg0 rfl ?_
      refine c_X7_many  (pc' := 45) dX7_goTide_42 rfl lkX7_101 (by omega) (Nat.le_of_ble_eq_true rfl) ?_
      refine s_icmp_ge (pc' := 48) (tgt := 101) dX7_goTide_45 rfl (by decide) (fun c9 => absurd c9 (by rw [hn]; exact nI_ge (by omega) (by omega))) (fun _ => ?_)
      refine s_aload_n (pc' := 49) dX7_goTide_48 rfl lg0 rfl ?_
      refine s_iload_n (pc' := 50) dX7_goTide_49 rfl lg1 ?_
      refine s_iconst (pc' := 51) dX7_goTide_50 rfl iconst_2 ?_
      refine s_iconst (pc' := 52) dX7_goTide_51 rfl iconst_0 ?_
      refine s_aload_n (pc' := 53) dX7_goTide_52 rfl lg0 rfl ?_
      refine s_iload_n (pc' := 54) dX7_goTide_53 rfl lg1 ?_
      refine s_iconst (pc' := 55) dX7_goTide_54 rfl iconst_2 ?_
      refine c_X7_of_2  (pc' := 58) dX7_goTide_55 rfl lkX7_108 (by omega) (Nat.le_of_ble_eq_true rfl) hMm (by omega) ?_
      rw [hlf_hi (Nat.lt_irrefl i)]
      refine s_aload_n (pc' := 59) dX7_goTide_58 rfl lg0 rfl ?_
      refine s_getRv (pc' := 62) (v := .ref 57) dX7_goTide_59 rfl flX7_46 ly47 (by decide) rfl rfl ?_
      refine s_iload_n (pc' := 63) dX7_goTide_62 rfl lg1 ?_
      refine s_ialdNv (pc' := 64) (v := wears σ n td (T w) i) dX7_goTide_63 rfl ly57 (by omega) (by decide) (by rw [hm 57 (by decide)]; exact w6) ?_
      refine s_isub (pc' := 65) dX7_goTide_64 rfl ?_
      refine c_J9_max_7cf53 (pc' := 68) dX7_goTide_65 rfl lkX7_83 (by omega) (Nat.le_of_ble_eq_true rfl)  ?_
      rw [wr_max]
      refine c_X7_change_2  (pc' := 71) dX7_goTide_68 rfl lkX7_104 (by omega) (Nat.le_of_ble_eq_true rfl) (by omega) ?_
      have hMm2 := hMm.up (w := 2) (i := i) (x := pas σ n td (T w) 2 i) (by decide) (by omega)
      refine s_aload_n (pc' := 72) dX7_goTide_71 rfl lg0 rfl ?_
      refine s_iload_n (pc' := 73) dX7_goTide_72 rfl lg1 ?_
      refine s_iconst (pc' := 74) dX7_goTide_73 rfl iconst_3 ?_
      refine s_aload_n (pc' := 75) dX7_goTide_74 rfl lg0 rfl ?_
      refine s_iload_n (pc' := 76) dX7_goTide_75 rfl lg1 ?_
      refine s_iconst (pc' := 77) dX7_goTide_76 rfl iconst_3 ?_
      refine c_X7_of_3  (pc' := 80) dX7_goTide_77 rfl lkX7_108 (by omega) (Nat.le_of_ble_eq_true rfl) hMm2 (by omega) ?_
      rw [show u2 (hlf σ (pas σ n td (T w)) i) 2 i (pas σ n td (T w) 2 i) 3 i = σ 3 i from by rw [u2_nw (by decide), hlf_hi (Nat.lt_irrefl i)]]
      refine s_aload_n (pc' := 81) dX7_goTide_80 rfl lg0 rfl ?_
      refine s_getRv (pc' := 84) (v := .ref 58) dX7_goTide_81 rfl flX7_49 ly47 (by decide) rfl rfl ?_
      refine s_iload_n (pc' := 85) dX7_goTide_84 rfl lg1 ?_
      refine s_ialdNv (pc' := 86) (v := carr σ td (T w) i) dX7_goTide_85 rfl ly58 (by omega) (by decide) (by rw [upN (by decide), hm 58 (by decide)]; exact w7) ?_
      refine s_iadd (pc' := 87) dX7_goTide_86 rfl ?_
      refine s_bipush (pc' := 89) dX7_goTide_87 rfl bipush_12 ?_
      refine c_J9_floorMod_7cf53 (pc' := 92) dX7_goTide_89 rfl lkX7_214 (by omega) (Nat.le_of_ble_eq_true rfl) (by decide) ?_
      rw [show fmI (σ 3 i + carr σ td (T w) i) 12 = pas σ n td (T w) 3 i from rfl]
      refine c_X7_change_3  (pc' := 95) dX7_goTide_92 rfl lkX7_104 (by omega) (Nat.le_of_ble_eq_true rfl) (by omega) ?_
      have hMm3 := hMm2.up (w := 3) (i := i) (x := pas σ n td (T w) 3 i) (by decide) (by omega)
      obtain ⟨a1, a2, a3, a4, a5⟩ := hMm3
      refine s_iincN (pc' := 98) dX7_goTide_95 rfl lg1 rfl ls1 ?_
      refine s_goto (tgt := 40) dX7_goTide_98 (by decide) ?_
      refine ih (i + 1) m1 _ (by omega) hM1 hwc hfr (fun j hj => by rw [upN hj, upN hj]; exact hm j hj) a1 a3 a4 (fun k hk w' hw' => ?_)
      rw [a5 k hk w' hw']
      by_cases hki : k = i
      · subst hki
        rw [hlf_lo (Nat.lt_succ_self k)]
        by_cases e3 : w' = 3
        · rw [e3, u2_at]
        · rw [u2_nw e3]
          by_cases e2 : w' = 2
          · rw [e2, u2_at]
          · rw [u2_nw e2, hlf_hi (Nat.lt_irrefl k), pas_0 e2 e3]
      · rw [u2_ni hki, u2_ni hki]
        by_cases q : k < i
        · rw [hlf_lo q, hlf_lo (by omega)]
        · rw [hlf_hi q, hlf_hi (by omega)]
  have first : ∀ (k i : Nat) (m : Mem), i + k = n → (∀ j, j ≠ 56 → j ≠ 57 → j ≠ 58 → m j = mem j) → (∀ k, k < i → m 57 k = wears σ n td (T w) k ∧ m 58 k = carr σ td (T w) k) → Sim z d 0 0 mX7_goTide 2 [.ref 47, .int (nI i)] [] (LAY rf tl) m Q := by
    intro k
    induction k with
    | zero =>
      intro i m hi hm hlo
      have hMm : isM 48 m σ n td (nI w) := hM.cp (fun q _ => by rw [hm 48 (by decide) (by decide) (by decide)])
      have hn := hMm.1
      have : i = n := by omega
      subst this
      refine s_iload_n (pc' := 3) dX7_goTide_2 rfl lg1 ?_
      refine s_aload_n (pc' := 4) dX7_goTide_3 rfl lg0 rfl ?_
      refine c_X7_many  (pc' := 7) dX7_goTide_4 rfl lkX7_101 (by omega) (Nat.le_of_ble_eq_true rfl) ?_
      refine s_icmp_ge (pc' := 10) (tgt := 38) dX7_goTide_7 rfl (by decide) (fun _ => ?_) (fun c9 => absurd (by rw [hn]; exact nI_le (by omega) (by omega)) c9)
      refine s_iconst (pc' := 39) dX7_goTide_38 rfl iconst_0 ?_
      refine s_istore_n (pc' := 40) dX7_goTide_39 rfl (Nat.le_of_ble_eq_true rfl) rfl ls1 ?_
      exact second i 0 m m (by omega) hMm hlo (fun j _ q2 q3 q4 => hm j q2 q3 q4) (fun _ _ => rfl) hn hMm.2.2.1 hMm.2.2.2.1 (fun k hk w' hw' => by rw [hlf_hi (Nat.not_lt_zero k)]; exact hMm.2.2.2.2 k hk w' hw')
    | succ k ih =>
      intro i m hi hm hlo
      have hMm : isM 48 m σ n td (nI w) := hM.cp (fun q _ => by rw [hm 48 (by decide) (by decide) (by decide)])
      have hn := hMm.1
      have hTm : isTM m nt T := hT.kept (by rw [hm 47 (by decide) (by decide) (by decide)]) (hm 52 (by decide) (by decide) (by decide)) (hm 53 (by decide) (by decide) (by decide))
      refine s_iload_n (pc' := 3) dX7_goTide_2 rfl lg1 ?_
      refine s_aload_n (pc' := 4) dX7_goTide_3 rfl lg0 rfl ?_
      refine c_X7_many  (pc' := 7) dX7_goTide_4 rfl lkX7_101 (by omega) (Nat.le_of_ble_eq_true rfl) ?_
      refine s_icmp_ge (pc' := 10) (tgt := 38) dX7_goTide_7 rfl (by decide) (fun c9 => absurd c9 (by rw [hn]; exact nI_ge (by omega) (by omega))) (fun _ => ?_)
      refine s_aload_n (pc' := 11) dX7_goTide_10 rfl lg0 rfl ?_
      refine s_getRv (pc' := 14) (v := .ref 57) dX7_goTide_11 rfl flX7_46 ly47 (by decide) rfl rfl ?_
      refine s_iload_n (pc' := 15) dX7_goTide_14 rfl lg1 ?_
      refine s_aload_n (pc' := 16) dX7_goTide_15 rfl lg0 rfl ?_
      refine s_iload_n (pc' := 17) dX7_goTide_16 rfl lg1 ?_
      refine c_X7_wears  (pc' := 20) dX7_goTide_17 rfl lkX7_118 (by omega) (Nat.le_of_ble_eq_true rfl) hMm (by omega) hTm hw (fun m1 s1 => ?_)
      refine s_iastN (pc' := 21) dX7_goTide_20 rfl ly57 (by omega) (by decide) ?_
      refine s_aload_n (pc' := 22) dX7_goTide_21 rfl lg0 rfl ?_
      refine s_getRv (pc' := 25) (v := .ref 58) dX7_goTide_22 rfl flX7_49 ly47 (by decide) rfl rfl ?_
      refine s_iload_n (pc' := 26) dX7_goTide_25 rfl lg1 ?_
      refine s_aload_n (pc' := 27) dX7_goTide_26 rfl lg0 rfl ?_
      refine s_iload_n (pc' := 28) dX7_goTide_27 rfl lg1 ?_
      have s2 : ∀ x, rwf m1 (am_up m1 57 i x) → True := fun _ _ => trivial
      have hM2 : isM 48 (am_up m1 57 i (wears σ n td (T w) i)) σ n td (nI w) := hMm.cp (fun q _ => by rw [upN (by decide), s1 48 (by decide)])
      have hT2 : isTM (am_up m1 57 i (wears σ n td (T w) i)) nt T := hTm.kept (by rw [upN (by decide), s1 47 (by decide)]) (by rw [upN (by decide), s1 52 (by decide)]) (by rw [upN (by decide), s1 53 (by decide)])
      refine c_X7_carries  (pc' := 31) dX7_goTide_28 rfl lkX7_124 (by omega) (Nat.le_of_ble_eq_true rfl) hM2 (by omega) hT2 hw (fun m2 s3 => ?_)
      refine s_iastN (pc' := 32) dX7_goTide_31 rfl ly58 (by omega) (by decide) ?_
      refine s_iincN (pc' := 35) dX7_goTide_32 rfl lg1 rfl ls1 ?_
      refine s_goto (tgt := 2) dX7_goTide_35 (by decide) ?_
      refine ih (i + 1) _ (by omega) (fun j q1 q2 q3 => ?_) (fun k hk => ?_)
      · rw [upN q3, s3 j q1, upN q2, s1 j q1, hm j q1 q2 q3]
      · have e7 : am_up m2 58 i (carr σ td (T w) i) 57 = upd (m 57) i (wears σ n td (T w) i) := by rw [upN (by decide), s3 57 (by decide), upE, s1 57 (by decide)]
        have e8 : am_up m2 58 i (carr σ td (T w) i) 58 = upd (m 58) i (carr σ td (T w) i) := by rw [upE, s3 58 (by decide), upN (by decide), s1 58 (by decide)]
        rw [e7, e8]
        by_cases hki : k = i
        · rw [hki, udE, udE]; exact ⟨rfl, rfl⟩
        · rw [udN hki, udN hki]; exact hlo k (by omega)
  refine s_iconst (pc' := 1) dX7_goTide_0 rfl iconst_0 ?_
  refine s_istore_n (pc' := 2) dX7_goTide_1 rfl (Nat.le_of_ble_eq_true rfl) rfl ls1 ?_
  exact first n 0 mem (by omega) (fun _ _ _ _ => rfl) (fun k hk => absurd hk (Nat.not_lt_zero k))
theorem c_X7_goTide {z : Zz} {d kc ks : Nat} {mi : MI} {pc pc' : Nat} {L S : List Value} {Q : Option Value → Lay → Mem → Prop} {rf : Nat → Value} {tl : Lay} {mem : Mem}  {n w nt : Nat} {σ : Nat → Nat → Int32} {td : Int32} {T : Nat → Nat → List Int32} {idx : Nat} (hd : decode mi.2.1 pc = .ok (.invokevirtual idx, 3)) (hp : pc + 3 = pc') (hlk : Cond.methodLink mi.1.cls idx yX7_goTide ∈ wok) (hdd : 4 + 1 ≤ d) (hcat : (S.map (fun v => v.category)).sum ≤ 8) (hM : isM 48 mem σ n td (nI w)) (hT : isTM mem nt T) (hw : w < nt) (K : ∀ mem', isM 48 mem' (pas σ n td (T w)) n (td + 1) (nI w) → tdf mem mem' → Sim z d kc ks mi pc' L S (LAY rf tl) mem' Q) : Sim z d kc ks mi pc L (.ref 47 :: S) (LAY rf tl) mem Q :=
  s_invV (d2 := 4) hd hp okX7_goTide hlk inX7_goTide seX7_goTide hdd (Nat.zero_add _) (Nat.zero_add _) rfl rfl ly47 rfl hcat (Nat.le_of_ble_eq_true rfl) (m_X7_goTide (Nat.le_refl _) hM hT hw K)
theorem td_eq {t : Nat} (h : t ≤ 999) : (nI t = 999) = ¬ nI t < 999 := by
  have h1 : (nI t = 999) = (t = 999) := propext (nI_eq (a := t) (b := 999) (by omega) (by omega))
  have h2 : (nI t < 999) = (t < 999) := propext (nI_ltI (a := t) (b := 999) (by omega) (by omega))
  rw [h1, h2]; exact propext (by omega)
set_option maxHeartbeats 4000000 in
theorem m_X7_tide {z : Zz} {d : Nat} {Q : Option Value → Lay → Mem → Prop} {rf : Nat → Value} {tl : Lay} {mem : Mem}  {n w nt t : Nat} {σ : Nat → Nat → Int32} {td : Int32} {T : Nat → Nat → List Int32} (hdd : 5 ≤ d) (hM : isM 48 mem σ n td (nI w)) (hT : isTM mem nt T) (hw : w < nt) (ht : td = nI t) (ht9 : t ≤ 999) (K : ∀ mem', (if td < 999 then isM 48 mem' (pas σ n td (T w)) n (td + 1) (nI w) ∧ tdf mem mem' else mem' = mem) → Q (some (.int (if td < 999 then nI (ct (fun i => decide (pas σ n td (T w) 2 i = 0)) n) else -3))) (LAY rf tl) mem') : Sim z d 0 0 mX7_tide 0 [.ref 47] [] (LAY rf tl) mem Q := by
  refine s_aload_n (pc' := 1) dX7_tide_0 rfl lg0 rfl ?_
  refine s_getRv (pc' := 4) (v := .ref 48) dX7_tide_1 rfl flX7_7 ly47 (by decide) rfl rfl ?_
  refine s_bipush (pc' := 6) dX7_tide_4 rfl bipush_41 ?_
  refine s_ialdNv (pc' := 7) (k := 41) (v := td) dX7_tide_6 rfl ly48 (by decide) (by decide) hM.2.2.1 ?_
  refine s_sipush (pc' := 10) dX7_tide_7 rfl sipush_999 ?_
  by_cases c1 : td < 999
  · simp only [if_pos c1] at K
    refine s_icmp_ne (pc' := 13) (tgt := 16) dX7_tide_10 rfl (by decide) (fun _ => ?_) (fun c9 => absurd c9 (by rw [ht, td_eq ht9, ← ht]; exact fun q => q c1))
    refine s_aload_n (pc' := 17) dX7_tide_16 rfl lg0 rfl ?_
    refine c_X7_goTide  (pc' := 20) dX7_tide_17 rfl lkX7_217 (by omega) (Nat.le_of_ble_eq_true rfl) hM hT hw (fun m1 h1 h2 => ?_)
    refine s_aload_n (pc' := 21) dX7_tide_20 rfl lg0 rfl ?_
    refine c_X7_rounds  (pc' := 24) dX7_tide_21 rfl lkX7_220 (by omega) (Nat.le_of_ble_eq_true rfl) h1 ?_
    refine s_iret dX7_tide_24 rfl (vp_nar_int _) ?_
    exact K m1 ⟨h1, h2⟩
  · simp only [if_neg c1] at K
    refine s_icmp_ne (pc' := 13) (tgt := 16) dX7_tide_10 rfl (by decide) (fun c9 => absurd (by rw [ht, td_eq ht9, ← ht]; exact c1) c9) (fun _ => ?_)
    refine s_bipush (pc' := 15) dX7_tide_13 rfl bipush_m3 ?_
    refine s_iret dX7_tide_15 rfl (vp_nar_int _) ?_
    exact K mem rfl
theorem c_X7_tide {z : Zz} {d kc ks : Nat} {mi : MI} {pc pc' : Nat} {L S : List Value} {Q : Option Value → Lay → Mem → Prop} {rf : Nat → Value} {tl : Lay} {mem : Mem}  {n w nt t : Nat} {σ : Nat → Nat → Int32} {td : Int32} {T : Nat → Nat → List Int32} {idx : Nat} (hd : decode mi.2.1 pc = .ok (.invokevirtual idx, 3)) (hp : pc + 3 = pc') (hlk : Cond.methodLink mi.1.cls idx yX7_tide ∈ wok) (hdd : 5 + 1 ≤ d) (hcat : (S.map (fun v => v.category)).sum ≤ 8) (hM : isM 48 mem σ n td (nI w)) (hT : isTM mem nt T) (hw : w < nt) (ht : td = nI t) (ht9 : t ≤ 999) (K : ∀ mem', (if td < 999 then isM 48 mem' (pas σ n td (T w)) n (td + 1) (nI w) ∧ tdf mem mem' else mem' = mem) → Sim z d kc ks mi pc' L (.int (if td < 999 then nI (ct (fun i => decide (pas σ n td (T w) 2 i = 0)) n) else -3) :: S) (LAY rf tl) mem' Q) : Sim z d kc ks mi pc L (.ref 47 :: S) (LAY rf tl) mem Q :=
  s_invV (d2 := 5) hd hp okX7_tide hlk inX7_tide seX7_tide hdd (Nat.zero_add _) (Nat.zero_add _) rfl rfl ly47 rfl hcat (Nat.le_of_ble_eq_true rfl) (m_X7_tide (Nat.le_refl _) hM hT hw ht ht9 K)
set_option maxHeartbeats 4000000 in
theorem m_X7_carried {z : Zz} {d : Nat} {Q : Option Value → Lay → Mem → Prop} {rf : Nat → Value} {tl : Lay} {mem : Mem}  {n w nt : Nat} {σ : Nat → Nat → Int32} {td p : Int32} {T : Nat → Nat → List Int32} (hdd : 4 ≤ d) (hM : isM 48 mem σ n td (nI w)) (hT : isTM mem nt T) (hw : w < nt) (K : ∀ mem', rwf mem mem' → Q (some (.int (if pcB p (nI n) = 0 then -1000 else carr σ td (T w) (ix p)))) (LAY rf tl) mem') : Sim z d 0 0 mX7_carried 0 [.ref 47, .int p] [] (LAY rf tl) mem Q := by
  have h8 := hM.2.1
  refine s_aload_n (pc' := 1) dX7_carried_0 rfl lg0 rfl ?_
  refine s_iload_n (pc' := 2) dX7_carried_1 rfl lg1 ?_
  refine c_X7_isPiece  (pc' := 5) dX7_carried_2 rfl lkX7_94 (by omega) (Nat.le_of_ble_eq_true rfl) hM.1 h8 ?_
  refine s_if_eq (pc' := 8) (tgt := 16) dX7_carried_5 rfl (by decide) (fun c1 => ?_) (fun c1 => ?_)
  · skip
    rw [if_pos c1] at K
    refine s_sipush (pc' := 19) dX7_carried_16 rfl sipush_m1000 ?_
    refine s_iret dX7_carried_19 rfl (vp_nar_int _) ?_
    exact K mem rwf.rf
  · skip
    rw [if_neg c1] at K
    rcases pc_or p (n := n) (by omega) with q | ⟨k, hk, rfl, q⟩
    · exact absurd q c1
    rw [ix_nI (by omega)] at K
    refine s_aload_n (pc' := 9) dX7_carried_8 rfl lg0 rfl ?_
    refine s_iload_n (pc' := 10) dX7_carried_9 rfl lg1 ?_
    refine c_X7_carries  (pc' := 13) dX7_carried_10 rfl lkX7_124 (by omega) (Nat.le_of_ble_eq_true rfl) hM hk hT hw (fun m1 s1 => ?_)
    refine s_goto (tgt := 19) dX7_carried_13 (by decide) ?_
    refine s_iret dX7_carried_19 rfl (vp_nar_int _) ?_
    exact K m1 s1
theorem c_X7_carried {z : Zz} {d kc ks : Nat} {mi : MI} {pc pc' : Nat} {L S : List Value} {Q : Option Value → Lay → Mem → Prop} {rf : Nat → Value} {tl : Lay} {mem : Mem}  {n w nt : Nat} {σ : Nat → Nat → Int32} {td p : Int32} {T : Nat → Nat → List Int32} {idx : Nat} (hd : decode mi.2.1 pc = .ok (.invokevirtual idx, 3)) (hp : pc + 3 = pc') (hlk : Cond.methodLink mi.1.cls idx yX7_carried ∈ wok) (hdd : 4 + 1 ≤ d) (hcat : (S.map (fun v => v.category)).sum ≤ 8) (hM : isM 48 mem σ n td (nI w)) (hT : isTM mem nt T) (hw : w < nt) (K : ∀ mem', rwf mem mem' → Sim z d kc ks mi pc' L (.int (if pcB p (nI n) = 0 then -1000 else carr σ td (T w) (ix p)) :: S) (LAY rf tl) mem' Q) : Sim z d kc ks mi pc L (.int p :: .ref 47 :: S) (LAY rf tl) mem Q :=
  s_invV (d2 := 4) hd hp okX7_carried hlk inX7_carried seX7_carried hdd (Nat.zero_add _) (Nat.zero_add _) rfl rfl ly47 rfl hcat (Nat.le_of_ble_eq_true rfl) (m_X7_carried (Nat.le_refl _) hM hT hw K)

