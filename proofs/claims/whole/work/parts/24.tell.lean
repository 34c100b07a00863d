/-! ===== Shore: what the rule tells ===== -/
def scr (mem mem' : Mem) : Prop := ∀ j, j ≠ 3 → j ≠ 4 → mem' j = mem j
theorem scr.rf {mem : Mem} : scr mem mem := fun _ _ _ => rfl
theorem scr.tr {a b c : Mem} (h1 : scr a b) (h2 : scr b c) : scr a c := fun j h3 h4 => (h2 j h3 h4).trans (h1 j h3 h4)
/-- the names' values of a piece alone, and of two -/
def vA (σ : Nat → Nat → Int32) (td : Int32) (i k : Nat) : Int32 := if k = 0 then σ 2 i else if k = 1 then 0 else if k = 2 then 0 else if k = 3 then σ 1 i else if k = 4 then td else σ 3 i
def vB (σ : Nat → Nat → Int32) (td : Int32) (i j k : Nat) : Int32 := if k = 0 then σ 2 i else if k = 1 then σ 2 j else if k = 2 then apI (σ 3 i) (σ 3 j) else if k = 3 then σ 1 i else if k = 4 then td else σ 3 i
theorem lt6 {k : Nat} (h : k < 6) : k = 0 ∨ k = 1 ∨ k = 2 ∨ k = 3 ∨ k = 4 ∨ k = 5 := by omega
theorem isS.scr {b : Nat} {mem mem' : Mem} {σ : Nat → Nat → Int32} {n : Nat} {td ru : Int32} (h : isS b mem σ n td ru) (hb : ISh b) (hk : scr mem mem') : isS b mem' σ n td ru :=
  h.kept (fun j h1 h2 => hk j (by rcases hb with rfl | rfl | rfl <;> omega) (by rcases hb with rfl | rfl | rfl <;> omega))
theorem isTT.scr {rf : Nat → Value} {tl : Lay} {mem mem' : Mem} {nt : Nat} {T : Nat → Nat → List Int32} (h : isTT rf tl mem nt T) (hk : scr mem mem') : isTT rf tl mem' nt T := h.kept (fun j hj => hk j (by omega) (by omega))
set_option maxHeartbeats 4000000 in
theorem m_X3_namesAlone {z : Zz} {d : Nat} {Q : Option Value → Lay → Mem → Prop} {rf : Nat → Value} {tl : Lay} {mem : Mem}  {b n p : Nat} {σ : Nat → Nat → Int32} {td ru : Int32} (hdd : 1 ≤ d) (hb : ISh b) (hS : isS b mem σ n td ru) (hpn : p < n) (K : ∀ mem', (∀ j, j ≠ 3 → mem' j = mem j) → (∀ k, k < 6 → mem' 3 k = vA σ td p k) → Q none (LAY rf tl) mem') : Sim z d 0 0 mX3_namesAlone 0 [.ref b, .int (nI p)] [] (LAY rf tl) mem Q := by
  obtain ⟨hn, h8, htd, hru, hσ⟩ := hS
  obtain ⟨e0, e1, e2, e3, e4⟩ := hσ p hpn
  refine s_aload_n (pc' := 1) dX3_namesAlone_0 rfl lg0 rfl ?_
  refine s_getRv (pc' := 4) (v := .ref 1) dX3_namesAlone_1 rfl flX3_43 (lyS hb) (by decide) rfl rfl ?_
  refine s_aload_n (pc' := 5) dX3_namesAlone_4 rfl lg0 rfl ?_
  refine s_getRv (pc' := 8) (v := .ref (b + 2)) dX3_namesAlone_5 rfl flX3_15 (lyS hb) (by decide) rfl rfl ?_
  refine s_iload_n (pc' := 9) dX3_namesAlone_8 rfl lg1 ?_
  refine s_ialdN (pc' := 10) dX3_namesAlone_9 rfl (lyS2 hb) (by omega) (by decide) ?_
  refine s_iconst (pc' := 11) dX3_namesAlone_10 rfl iconst_0 ?_
  refine s_iconst (pc' := 12) dX3_namesAlone_11 rfl iconst_0 ?_
  refine s_aload_n (pc' := 13) dX3_namesAlone_12 rfl lg0 rfl ?_
  refine s_getRv (pc' := 16) (v := .ref (b + 1)) dX3_namesAlone_13 rfl flX3_9 (lyS hb) (by decide) rfl rfl ?_
  refine s_iload_n (pc' := 17) dX3_namesAlone_16 rfl lg1 ?_
  refine s_ialdN (pc' := 18) dX3_namesAlone_17 rfl (lyS1 hb) (by omega) (by decide) ?_
  refine s_aload_n (pc' := 19) dX3_namesAlone_18 rfl lg0 rfl ?_
  refine s_getI (pc' := 22) dX3_namesAlone_19 rfl flX3_37 (lyS hb) (by decide) rfl ?_
  refine s_aload_n (pc' := 23) dX3_namesAlone_22 rfl lg0 rfl ?_
  refine s_getRv (pc' := 26) (v := .ref (b + 3)) dX3_namesAlone_23 rfl flX3_18 (lyS hb) (by decide) rfl rfl ?_
  refine s_iload_n (pc' := 27) dX3_namesAlone_26 rfl lg1 ?_
  refine s_ialdN (pc' := 28) dX3_namesAlone_27 rfl (lyS3 hb) (by omega) (by decide) ?_
  refine c_X5_names (pc' := 31) dX3_namesAlone_28 rfl lkX3_105 (by omega) (Nat.le_of_ble_eq_true rfl) (fun mem' h1 h2 => ?_)
  refine s_vret dX3_namesAlone_31 rfl ?_
  refine K mem' h1 (fun k hk => ?_)
  obtain ⟨a0, a1, a2, a3, a4, a5⟩ := h2
  rcases lt6 hk with rfl | rfl | rfl | rfl | rfl | rfl
  · rw [a0, e2]; rfl
  · rw [a1]; rfl
  · rw [a2]; rfl
  · rw [a3, e1]; rfl
  · rw [a4, htd]; rfl
  · rw [a5, e3]; rfl
theorem c_X3_namesAlone {z : Zz} {d kc ks : Nat} {mi : MI} {pc pc' : Nat} {L S : List Value} {Q : Option Value → Lay → Mem → Prop} {rf : Nat → Value} {tl : Lay} {mem : Mem}  {b n p : Nat} {σ : Nat → Nat → Int32} {td ru : Int32} {idx : Nat} (hd : decode mi.2.1 pc = .ok (.invokevirtual idx, 3)) (hp : pc + 3 = pc') (hlk : Cond.methodLink mi.1.cls idx yX3_namesAlone ∈ wok) (hdd : 1 + 1 ≤ d) (hcat : (S.map (fun v => v.category)).sum ≤ 8) (hb : ISh b) (hS : isS b mem σ n td ru) (hpn : p < n) (K : ∀ mem', (∀ j, j ≠ 3 → mem' j = mem j) → (∀ k, k < 6 → mem' 3 k = vA σ td p k) → Sim z d kc ks mi pc' L S (LAY rf tl) mem' Q) : Sim z d kc ks mi pc L (.int (nI p) :: .ref b :: S) (LAY rf tl) mem Q :=
  s_invV (d2 := 1) hd hp okX3_namesAlone hlk inX3_namesAlone seX3_namesAlone hdd (Nat.zero_add _) (Nat.zero_add _) rfl rfl (lyS hb) rfl hcat (Nat.le_of_ble_eq_true rfl) (m_X3_namesAlone (Nat.le_refl _) hb hS hpn K)
def wornK (k v ot sh td : Int32) : Int32 := if k = 1 then v + ot else if k = 2 then v / 2 else if k = 3 then (if 20 ≤ sh then v + ot else 2 * (v + ot)) else if k = 4 then (if td - td / 2 * 2 = 0 then 0 else v / 2) else if k = 5 then (if sh ≤ 50 then v else 0) else v
set_option maxHeartbeats 4000000 in
theorem m_X3_wornByKind {z : Zz} {d : Nat} {Q : Option Value → Lay → Mem → Prop} {rf : Nat → Value} {tl : Lay} {mem : Mem}  {b n p : Nat} {v : Int32} (hdd : 1 ≤ d) (hb : ISh b) (hn : mem b 8 = nI n) (h8 : n ≤ 8) (hpn : p < n) (K :  Q (some (.int (wornK (mem (b + 5) p) v (nI (ct (fun i => !decide (i = p) && decide (mem (b + 3) i = mem (b + 3) p)) n)) (mem (b + 2) p) (mem b 9)))) (LAY rf tl) mem) : Sim z d 0 0 mX3_wornByKind 0 [.ref b, .int (nI p), .int v] [] (LAY rf tl) mem Q := by
  refine s_aload_n (pc' := 1) dX3_wornByKind_0 rfl lg0 rfl ?_
  refine s_getRv (pc' := 4) (v := .ref (b + 5)) dX3_wornByKind_1 rfl flX3_24 (lyS hb) (by decide) rfl rfl ?_
  refine s_iload_n (pc' := 5) dX3_wornByKind_4 rfl lg1 ?_
  refine s_ialdN (pc' := 6) dX3_wornByKind_5 rfl (lyS5 hb) (by omega) (by decide) ?_
  refine s_ts5 (v0 := 1) (v1 := 2) (v2 := 3) (v3 := 4) (v4 := 5) (t0 := 40) (t1 := 48) (t2 := 52) (t3 := 83) (t4 := 100) (td := 117) dX3_wornByKind_6 (by decide) (by decide) (by decide) (by decide) (by decide) (by decide) (by decide) (by decide) (by decide) (by decide) (by decide) (by decide) (fun e1 => ?_) (fun e1 => ?_) (fun e1 => ?_) (fun e1 => ?_) (fun e1 => ?_) (fun e1_0 e1_1 e1_2 e1_3 e1_4 => ?_)
  · refine s_iload_n (pc' := 41) dX3_wornByKind_40 rfl lg2 ?_
    refine s_aload_n (pc' := 42) dX3_wornByKind_41 rfl lg0 rfl ?_
    refine s_iload_n (pc' := 43) dX3_wornByKind_42 rfl lg1 ?_
    refine c_X3_othersWith (pc' := 46) dX3_wornByKind_43 rfl lkX3_92 (by omega) (Nat.le_of_ble_eq_true rfl) hb hn h8 hpn ?_
    refine s_iadd (pc' := 47) dX3_wornByKind_46 rfl ?_
    refine s_iret dX3_wornByKind_47 rfl (vp_nar_int _) ?_
    (simpa [wornK, e1] using K)
  · refine s_iload_n (pc' := 49) dX3_wornByKind_48 rfl lg2 ?_
    refine s_iconst (pc' := 50) dX3_wornByKind_49 rfl iconst_2 ?_
    refine s_idiv (pc' := 51) dX3_wornByKind_50 rfl (by decide) ?_
    refine s_iret dX3_wornByKind_51 rfl (vp_nar_int _) ?_
    (simpa [wornK, e1] using K)
  · refine s_aload_n (pc' := 53) dX3_wornByKind_52 rfl lg0 rfl ?_
    refine s_getRv (pc' := 56) (v := .ref (b + 2)) dX3_wornByKind_53 rfl flX3_15 (lyS hb) (by decide) rfl rfl ?_
    refine s_iload_n (pc' := 57) dX3_wornByKind_56 rfl lg1 ?_
    refine s_ialdN (pc' := 58) dX3_wornByKind_57 rfl (lyS2 hb) (by omega) (by decide) ?_
    refine s_bipush (pc' := 60) dX3_wornByKind_58 rfl bipush_20 ?_
    refine s_icmp_ge (pc' := 63) (tgt := 75) dX3_wornByKind_60 rfl (by decide) (fun c2 => ?_) (fun c2 => ?_)
    · refine s_iload_n (pc' := 76) dX3_wornByKind_75 rfl lg2 ?_
      refine s_aload_n (pc' := 77) dX3_wornByKind_76 rfl lg0 rfl ?_
      refine s_iload_n (pc' := 78) dX3_wornByKind_77 rfl lg1 ?_
      refine c_X3_othersWith (pc' := 81) dX3_wornByKind_78 rfl lkX3_92 (by omega) (Nat.le_of_ble_eq_true rfl) hb hn h8 hpn ?_
      refine s_iadd (pc' := 82) dX3_wornByKind_81 rfl ?_
      refine s_iret dX3_wornByKind_82 rfl (vp_nar_int _) ?_
      (simpa [wornK, e1, c2] using K)
    · refine s_iconst (pc' := 64) dX3_wornByKind_63 rfl iconst_2 ?_
      refine s_iload_n (pc' := 65) dX3_wornByKind_64 rfl lg2 ?_
      refine s_aload_n (pc' := 66) dX3_wornByKind_65 rfl lg0 rfl ?_
      refine s_iload_n (pc' := 67) dX3_wornByKind_66 rfl lg1 ?_
      refine c_X3_othersWith (pc' := 70) dX3_wornByKind_67 rfl lkX3_92 (by omega) (Nat.le_of_ble_eq_true rfl) hb hn h8 hpn ?_
      refine s_iadd (pc' := 71) dX3_wornByKind_70 rfl ?_
      refine s_imul (pc' := 72) dX3_wornByKind_71 rfl ?_
      refine s_goto (tgt := 82) dX3_wornByKind_72 (by decide) ?_
      refine s_iret dX3_wornByKind_82 rfl (vp_nar_int _) ?_
      (simpa [wornK, e1, c2] using K)
  · refine s_aload_n (pc' := 84) dX3_wornByKind_83 rfl lg0 rfl ?_
    refine s_getI (pc' := 87) dX3_wornByKind_84 rfl flX3_37 (lyS hb) (by decide) rfl ?_
    refine s_iconst (pc' := 88) dX3_wornByKind_87 rfl iconst_2 ?_
    refine s_irem (pc' := 89) dX3_wornByKind_88 rfl (by decide) ?_
    refine s_if_ne (pc' := 92) (tgt := 96) dX3_wornByKind_89 rfl (by decide) (fun c3 => ?_) (fun c3 => ?_)
    · refine s_iload_n (pc' := 97) dX3_wornByKind_96 rfl lg2 ?_
      refine s_iconst (pc' := 98) dX3_wornByKind_97 rfl iconst_2 ?_
      refine s_idiv (pc' := 99) dX3_wornByKind_98 rfl (by decide) ?_
      refine s_iret dX3_wornByKind_99 rfl (vp_nar_int _) ?_
      (simpa [wornK, e1, c3] using K)
    · refine s_iconst (pc' := 93) dX3_wornByKind_92 rfl iconst_0 ?_
      refine s_goto (tgt := 99) dX3_wornByKind_93 (by decide) ?_
      refine s_iret dX3_wornByKind_99 rfl (vp_nar_int _) ?_
      (simpa [wornK, e1, c3] using K)
  · refine s_aload_n (pc' := 101) dX3_wornByKind_100 rfl lg0 rfl ?_
    refine s_getRv (pc' := 104) (v := .ref (b + 2)) dX3_wornByKind_101 rfl flX3_15 (lyS hb) (by decide) rfl rfl ?_
    refine s_iload_n (pc' := 105) dX3_wornByKind_104 rfl lg1 ?_
    refine s_ialdN (pc' := 106) dX3_wornByKind_105 rfl (lyS2 hb) (by omega) (by decide) ?_
    refine s_bipush (pc' := 108) dX3_wornByKind_106 rfl bipush_50 ?_
    refine s_icmp_le (pc' := 111) (tgt := 115) dX3_wornByKind_108 rfl (by decide) (fun c4 => ?_) (fun c4 => ?_)
    · refine s_iload_n (pc' := 116) dX3_wornByKind_115 rfl lg2 ?_
      refine s_iret dX3_wornByKind_116 rfl (vp_nar_int _) ?_
      (simpa [wornK, e1, c4] using K)
    · refine s_iconst (pc' := 112) dX3_wornByKind_111 rfl iconst_0 ?_
      refine s_goto (tgt := 116) dX3_wornByKind_112 (by decide) ?_
      refine s_iret dX3_wornByKind_116 rfl (vp_nar_int _) ?_
      (simpa [wornK, e1, c4] using K)
  · refine s_iload_n (pc' := 118) dX3_wornByKind_117 rfl lg2 ?_
    refine s_iret dX3_wornByKind_118 rfl (vp_nar_int _) ?_
    (simpa [wornK, e1_0, e1_1, e1_2, e1_3, e1_4] using K)
theorem c_X3_wornByKind {z : Zz} {d kc ks : Nat} {mi : MI} {pc pc' : Nat} {L S : List Value} {Q : Option Value → Lay → Mem → Prop} {rf : Nat → Value} {tl : Lay} {mem : Mem}  {b n p : Nat} {v : Int32} {idx : Nat} (hd : decode mi.2.1 pc = .ok (.invokevirtual idx, 3)) (hp : pc + 3 = pc') (hlk : Cond.methodLink mi.1.cls idx yX3_wornByKind ∈ wok) (hdd : 1 + 1 ≤ d) (hcat : (S.map (fun v => v.category)).sum ≤ 8) (hb : ISh b) (hn : mem b 8 = nI n) (h8 : n ≤ 8) (hpn : p < n) (K :  Sim z d kc ks mi pc' L (.int (wornK (mem (b + 5) p) v (nI (ct (fun i => !decide (i = p) && decide (mem (b + 3) i = mem (b + 3) p)) n)) (mem (b + 2) p) (mem b 9)) :: S) (LAY rf tl) mem Q) : Sim z d kc ks mi pc L (.int v :: .int (nI p) :: .ref b :: S) (LAY rf tl) mem Q :=
  s_invV (d2 := 1) hd hp okX3_wornByKind hlk inX3_wornByKind seX3_wornByKind hdd (Nat.zero_add _) (Nat.zero_add _) rfl rfl (lyS hb) rfl hcat (Nat.le_of_ble_eq_true rfl) (m_X3_wornByKind (Nat.le_refl _) hb hn h8 hpn K)
def others (σ : Nat → Nat → Int32) (n p : Nat) : Nat := ct (fun i => !decide (i = p) && decide (σ 3 i = σ 3 p)) n
theorem ct_cong {p q : Nat → Bool} : ∀ {n : Nat}, (∀ k, k < n → p k = q k) → ct p n = ct q n
  | 0, _ => rfl
  | n + 1, h => by rw [ct, ct, ct_cong (fun k hk => h k (by omega)), h n (by omega)]
def wears (σ : Nat → Nat → Int32) (n : Nat) (td : Int32) (P : Nat → List Int32) (p : Nat) : Int32 := bdI (wornK (σ 0 p) (bdI (tv (vA σ td p) (P 0)) 0 99) (nI (others σ n p)) (σ 2 p) td) 0 99
set_option maxHeartbeats 4000000 in
theorem m_X3_wornOff {z : Zz} {d : Nat} {Q : Option Value → Lay → Mem → Prop} {rf : Nat → Value} {tl : Lay} {mem : Mem}  {b n p w nt : Nat} {σ : Nat → Nat → Int32} {td : Int32} {T : Nat → Nat → List Int32} (hdd : 2 ≤ d) (hb : ISh b) (hS : isS b mem σ n td (nI w)) (hpn : p < n) (hT : isTT rf tl mem nt T) (hw : w < nt) (K : ∀ mem', scr mem mem' → Q (some (.int (wears σ n td (T w) p))) (LAY rf tl) mem') : Sim z d 0 0 mX3_wornOff 0 [.ref b, .int (nI p), .float 0] [] (LAY rf tl) mem Q := by
  refine s_aload_n (pc' := 1) dX3_wornOff_0 rfl lg0 rfl ?_
  refine s_iload_n (pc' := 2) dX3_wornOff_1 rfl lg1 ?_
  refine c_X3_namesAlone (pc' := 5) dX3_wornOff_2 rfl lkX3_76 (by omega) (Nat.le_of_ble_eq_true rfl) hb hS hpn (fun m1 h1 h2 => ?_)
  have s1 : scr mem m1 := fun j h3 h4 => h1 j h3
  have hS1 := hS.scr hb s1
  have hT1 := hT.scr s1
  refine s_aload_n (pc' := 6) dX3_wornOff_5 rfl lg0 rfl ?_
  refine s_getRv (pc' := 9) (v := .ref 1) dX3_wornOff_6 rfl flX3_43 (lyS hb) (by decide) rfl rfl ?_
  refine s_aload_n (pc' := 10) dX3_wornOff_9 rfl lg0 rfl ?_
  refine s_getIv (pc' := 13) (v := nI w) dX3_wornOff_10 rfl flX3_40 (lyS hb) (by decide) rfl hS1.2.2.2.1 ?_
  refine s_iconst (pc' := 14) dX3_wornOff_13 rfl iconst_0 ?_
  refine c_X5_valueOf (p := 0) (pc' := 17) dX3_wornOff_14 rfl lkX3_80 (by omega) (Nat.le_of_ble_eq_true rfl) hT1.1 hT1.2.2.1 hw (by decide) (hT1.2.2.2 w hw) (fun m2 h3 => ?_)
  have s2 : scr mem m2 := s1.tr (fun j _ h4 => h3 j h4)
  have hS2 := hS.scr hb s2
  rw [tv_cong h2]
  refine s_iconst (pc' := 18) dX3_wornOff_17 rfl iconst_0 ?_
  refine s_bipush (pc' := 20) dX3_wornOff_18 rfl bipush_99 ?_
  refine cN_X6_bounded (pc' := 23) dX3_wornOff_20 rfl (by decide) (by omega) (Nat.le_of_ble_eq_true rfl)  ?_
  refine s_istore_n (pc' := 24) dX3_wornOff_23 rfl (Nat.le_of_ble_eq_true rfl) rfl ls2 ?_
  refine s_aload_n (pc' := 25) dX3_wornOff_24 rfl lg0 rfl ?_
  refine s_iload_n (pc' := 26) dX3_wornOff_25 rfl lg1 ?_
  refine s_iload_n (pc' := 27) dX3_wornOff_26 rfl lg2 ?_
  refine c_X3_wornByKind (pc' := 30) dX3_wornOff_27 rfl lkX3_89 (by omega) (Nat.le_of_ble_eq_true rfl) hb hS2.1 hS2.2.1 hpn ?_
  refine s_iconst (pc' := 31) dX3_wornOff_30 rfl iconst_0 ?_
  refine s_bipush (pc' := 33) dX3_wornOff_31 rfl bipush_99 ?_
  refine cN_X6_bounded (pc' := 36) dX3_wornOff_33 rfl (by decide) (by omega) (Nat.le_of_ble_eq_true rfl)  ?_
  refine s_iret dX3_wornOff_36 rfl (vp_nar_int _) ?_
  obtain ⟨hn, h8, htd, hru, hσ⟩ := hS2
  obtain ⟨e0, e1, e2, e3, e4⟩ := hσ p hpn
  rw [e0, e2, htd, ct_cong (q := fun i => !decide (i = p) && decide (σ 3 i = σ 3 p)) (fun k hk => by rw [(hσ k hk).2.2.2.1, e3])]
  exact K m2 s2
theorem c_X3_wornOff {z : Zz} {d kc ks : Nat} {mi : MI} {pc pc' : Nat} {L S : List Value} {Q : Option Value → Lay → Mem → Prop} {rf : Nat → Value} {tl : Lay} {mem : Mem}  {b n p w nt : Nat} {σ : Nat → Nat → Int32} {td : Int32} {T : Nat → Nat → List Int32} {idx : Nat} (hd : decode mi.2.1 pc = .ok (.invokevirtual idx, 3)) (hp : pc + 3 = pc') (hlk : Cond.methodLink mi.1.cls idx yX3_wornOff ∈ wok) (hdd : 2 + 1 ≤ d) (hcat : (S.map (fun v => v.category)).sum ≤ 8) (hb : ISh b) (hS : isS b mem σ n td (nI w)) (hpn : p < n) (hT : isTT rf tl mem nt T) (hw : w < nt) (K : ∀ mem', scr mem mem' → Sim z d kc ks mi pc' L (.int (wears σ n td (T w) p) :: S) (LAY rf tl) mem' Q) : Sim z d kc ks mi pc L (.int (nI p) :: .ref b :: S) (LAY rf tl) mem Q :=
  s_invV (d2 := 2) hd hp okX3_wornOff hlk inX3_wornOff seX3_wornOff hdd (Nat.zero_add _) (Nat.zero_add _) rfl rfl (lyS hb) rfl hcat (Nat.le_of_ble_eq_true rfl) (m_X3_wornOff (Nat.le_refl _) hb hS hpn hT hw K)
def carK (k v nu sd : Int32) : Int32 := if k = 1 then v + nu else if k = 2 then -v else if k = 3 then v + nu else if k = 4 then (if sd = 1 then 6 - v else -v) else v
def carr (σ : Nat → Nat → Int32) (td : Int32) (P : Nat → List Int32) (p : Nat) : Int32 := if σ 0 p = 5 then 0 else if σ 0 p = 3 ∧ σ 2 p = 0 then 0 else carK (σ 0 p) (bdI (tv (vA σ td p) (P 1)) (-99) 99) (σ 1 p) (σ 4 p)
set_option maxHeartbeats 4000000 in
theorem m_X3_carriedOn {z : Zz} {d : Nat} {Q : Option Value → Lay → Mem → Prop} {rf : Nat → Value} {tl : Lay} {mem : Mem}  {b n p w nt : Nat} {σ : Nat → Nat → Int32} {td : Int32} {T : Nat → Nat → List Int32} (hdd : 2 ≤ d) (hb : ISh b) (hS : isS b mem σ n td (nI w)) (hpn : p < n) (hT : isTT rf tl mem nt T) (hw : w < nt) (K : ∀ mem', scr mem mem' → Q (some (.int (carr σ td (T w) p))) (LAY rf tl) mem') : Sim z d 0 0 mX3_carriedOn 0 [.ref b, .int (nI p), .float 0] [] (LAY rf tl) mem Q := by
  have h8 := hS.2.1
  obtain ⟨d0, d1, d2, d3, d4⟩ := hS.2.2.2.2 p hpn
  have tail : ¬ σ 0 p = 5 → ¬ (σ 0 p = 3 ∧ σ 2 p = 0) → Sim z d 0 0 mX3_carriedOn 31 [.ref b, .int (nI p), .float 0] [] (LAY rf tl) mem Q := by
    intro n5 n3
    refine s_aload_n (pc' := 32) dX3_carriedOn_31 rfl lg0 rfl ?_
    refine s_iload_n (pc' := 33) dX3_carriedOn_32 rfl lg1 ?_
    refine c_X3_namesAlone (pc' := 36) dX3_carriedOn_33 rfl lkX3_76 (by omega) (Nat.le_of_ble_eq_true rfl) hb hS hpn (fun m1 h1 h2 => ?_)
    have s1 : scr mem m1 := fun j h3 h4 => h1 j h3
    have hS1 := hS.scr hb s1
    have hT1 := hT.scr s1
    refine s_aload_n (pc' := 37) dX3_carriedOn_36 rfl lg0 rfl ?_
    refine s_getRv (pc' := 40) (v := .ref 1) dX3_carriedOn_37 rfl flX3_43 (lyS hb) (by decide) rfl rfl ?_
    refine s_aload_n (pc' := 41) dX3_carriedOn_40 rfl lg0 rfl ?_
    refine s_getIv (pc' := 44) (v := nI w) dX3_carriedOn_41 rfl flX3_40 (lyS hb) (by decide) rfl hS1.2.2.2.1 ?_
    refine s_iconst (pc' := 45) dX3_carriedOn_44 rfl iconst_1 ?_
    refine c_X5_valueOf (p := 1) (pc' := 48) dX3_carriedOn_45 rfl lkX3_80 (by omega) (Nat.le_of_ble_eq_true rfl) hT1.1 hT1.2.2.1 hw (by decide) (hT1.2.2.2 w hw) (fun m2 h3 => ?_)
    have s2 : scr mem m2 := s1.tr (fun j _ h4 => h3 j h4)
    have hS2 := hS.scr hb s2
    rw [tv_cong h2]
    obtain ⟨hn, h8, htd, hru, hσ⟩ := hS2
    obtain ⟨e0, e1, e2, e3, e4⟩ := hσ p hpn
    have K2 := K m2 s2
    rw [carr, if_neg n5, if_neg n3, ← e0, ← e1, ← e4] at K2
    refine s_bipush (pc' := 50) dX3_carriedOn_48 rfl bipush_m99 ?_
    refine s_bipush (pc' := 52) dX3_carriedOn_50 rfl bipush_99 ?_
    refine cN_X6_bounded (pc' := 55) dX3_carriedOn_52 rfl (by decide) (by omega) (Nat.le_of_ble_eq_true rfl)  ?_
    refine s_istore_n (pc' := 56) dX3_carriedOn_55 rfl (Nat.le_of_ble_eq_true rfl) rfl ls2 ?_
    refine s_aload_n (pc' := 57) dX3_carriedOn_56 rfl lg0 rfl ?_
    refine s_getRv (pc' := 60) (v := .ref (b + 5)) dX3_carriedOn_57 rfl flX3_24 (lyS hb) (by decide) rfl rfl ?_
    refine s_iload_n (pc' := 61) dX3_carriedOn_60 rfl lg1 ?_
    refine s_ialdN (pc' := 62) dX3_carriedOn_61 rfl (lyS5 hb) (by omega) (by decide) ?_
    refine s_ts4 (v0 := 1) (v1 := 2) (v2 := 3) (v3 := 4) (t0 := 92) (t1 := 101) (t2 := 92) (t3 := 104) (td := 124) dX3_carriedOn_62 (by decide) (by decide) (by decide) (by decide) (by decide) (by decide) (by decide) (by decide) (by decide) (by decide) (fun e5 => ?_) (fun e5 => ?_) (fun e5 => ?_) (fun e5 => ?_) (fun e5_0 e5_1 e5_2 e5_3 => ?_)
    · refine s_iload_n (pc' := 93) dX3_carriedOn_92 rfl lg2 ?_
      refine s_aload_n (pc' := 94) dX3_carriedOn_93 rfl lg0 rfl ?_
      refine s_getRv (pc' := 97) (v := .ref (b + 1)) dX3_carriedOn_94 rfl flX3_9 (lyS hb) (by decide) rfl rfl ?_
      refine s_iload_n (pc' := 98) dX3_carriedOn_97 rfl lg1 ?_
      refine s_ialdN (pc' := 99) dX3_carriedOn_98 rfl (lyS1 hb) (by omega) (by decide) ?_
      refine s_iadd (pc' := 100) dX3_carriedOn_99 rfl ?_
      refine s_iret dX3_carriedOn_100 rfl (vp_nar_int _) ?_
      (simpa [carK, e5] using K2)
    · refine s_iload_n (pc' := 102) dX3_carriedOn_101 rfl lg2 ?_
      refine s_ineg (pc' := 103) dX3_carriedOn_102 rfl ?_
      refine s_iret dX3_carriedOn_103 rfl (vp_nar_int _) ?_
      (simpa [carK, e5] using K2)
    · refine s_iload_n (pc' := 93) dX3_carriedOn_92 rfl lg2 ?_
      refine s_aload_n (pc' := 94) dX3_carriedOn_93 rfl lg0 rfl ?_
      refine s_getRv (pc' := 97) (v := .ref (b + 1)) dX3_carriedOn_94 rfl flX3_9 (lyS hb) (by decide) rfl rfl ?_
      refine s_iload_n (pc' := 98) dX3_carriedOn_97 rfl lg1 ?_
      refine s_ialdN (pc' := 99) dX3_carriedOn_98 rfl (lyS1 hb) (by omega) (by decide) ?_
      refine s_iadd (pc' := 100) dX3_carriedOn_99 rfl ?_
      refine s_iret dX3_carriedOn_100 rfl (vp_nar_int _) ?_
      (simpa [carK, e5] using K2)
    · refine s_aload_n (pc' := 105) dX3_carriedOn_104 rfl lg0 rfl ?_
      refine s_getRv (pc' := 108) (v := .ref (b + 4)) dX3_carriedOn_105 rfl flX3_21 (lyS hb) (by decide) rfl rfl ?_
      refine s_iload_n (pc' := 109) dX3_carriedOn_108 rfl lg1 ?_
      refine s_ialdN (pc' := 110) dX3_carriedOn_109 rfl (lyS4 hb) (by omega) (by decide) ?_
      refine s_iconst (pc' := 111) dX3_carriedOn_110 rfl iconst_1 ?_
      refine s_icmp_ne (pc' := 114) (tgt := 121) dX3_carriedOn_111 rfl (by decide) (fun c6 => ?_) (fun c6 => ?_)
      · refine s_iload_n (pc' := 122) dX3_carriedOn_121 rfl lg2 ?_
        refine s_ineg (pc' := 123) dX3_carriedOn_122 rfl ?_
        refine s_iret dX3_carriedOn_123 rfl (vp_nar_int _) ?_
        (simpa [carK, e5, c6] using K2)
      · refine s_bipush (pc' := 116) dX3_carriedOn_114 rfl bipush_6 ?_
        refine s_iload_n (pc' := 117) dX3_carriedOn_116 rfl lg2 ?_
        refine s_isub (pc' := 118) dX3_carriedOn_117 rfl ?_
        refine s_goto (tgt := 123) dX3_carriedOn_118 (by decide) ?_
        refine s_iret dX3_carriedOn_123 rfl (vp_nar_int _) ?_
        (simpa [carK, e5, c6] using K2)
    · refine s_iload_n (pc' := 125) dX3_carriedOn_124 rfl lg2 ?_
      refine s_iret dX3_carriedOn_125 rfl (vp_nar_int _) ?_
      (simpa [carK, e5_0, e5_1, e5_2, e5_3] using K2)
  have K0 := K mem scr.rf
  rw [carr, ← d0, ← d2] at K0
  rw [← d0, ← d2] at tail
  refine s_aload_n (pc' := 1) dX3_carriedOn_0 rfl lg0 rfl ?_
  refine s_getRv (pc' := 4) (v := .ref (b + 5)) dX3_carriedOn_1 rfl flX3_24 (lyS hb) (by decide) rfl rfl ?_
  refine s_iload_n (pc' := 5) dX3_carriedOn_4 rfl lg1 ?_
  refine s_ialdN (pc' := 6) dX3_carriedOn_5 rfl (lyS5 hb) (by omega) (by decide) ?_
  refine s_iconst (pc' := 7) dX3_carriedOn_6 rfl iconst_5 ?_
  refine s_icmp_eq (pc' := 10) (tgt := 29) dX3_carriedOn_7 rfl (by decide) (fun c7 => ?_) (fun c7 => ?_)
  · refine s_iconst (pc' := 30) dX3_carriedOn_29 rfl iconst_0 ?_
    refine s_iret dX3_carriedOn_30 rfl (vp_nar_int _) ?_
    (simpa [c7] using K0)
  · refine s_aload_n (pc' := 11) dX3_carriedOn_10 rfl lg0 rfl ?_
    refine s_getRv (pc' := 14) (v := .ref (b + 5)) dX3_carriedOn_11 rfl flX3_24 (lyS hb) (by decide) rfl rfl ?_
    refine s_iload_n (pc' := 15) dX3_carriedOn_14 rfl lg1 ?_
    refine s_ialdN (pc' := 16) dX3_carriedOn_15 rfl (lyS5 hb) (by omega) (by decide) ?_
    refine s_iconst (pc' := 17) dX3_carriedOn_16 rfl iconst_3 ?_
    refine s_icmp_ne (pc' := 20) (tgt := 31) dX3_carriedOn_17 rfl (by decide) (fun c8 => ?_) (fun c8 => ?_)
    · exact tail (by simp [c7, c8]) (by simp [c7, c8])
    · refine s_aload_n (pc' := 21) dX3_carriedOn_20 rfl lg0 rfl ?_
      refine s_getRv (pc' := 24) (v := .ref (b + 2)) dX3_carriedOn_21 rfl flX3_15 (lyS hb) (by decide) rfl rfl ?_
      refine s_iload_n (pc' := 25) dX3_carriedOn_24 rfl lg1 ?_
      refine s_ialdN (pc' := 26) dX3_carriedOn_25 rfl (lyS2 hb) (by omega) (by decide) ?_
      refine s_if_ne (pc' := 29) (tgt := 31) dX3_carriedOn_26 rfl (by decide) (fun c9 => ?_) (fun c9 => ?_)
      · exact tail (by simp [c7, c8, c9]) (by simp [c7, c8, c9])
      · refine s_iconst (pc' := 30) dX3_carriedOn_29 rfl iconst_0 ?_
        refine s_iret dX3_carriedOn_30 rfl (vp_nar_int _) ?_
        (simpa [c7, c8, c9] using K0)
theorem c_X3_carriedOn {z : Zz} {d kc ks : Nat} {mi : MI} {pc pc' : Nat} {L S : List Value} {Q : Option Value → Lay → Mem → Prop} {rf : Nat → Value} {tl : Lay} {mem : Mem}  {b n p w nt : Nat} {σ : Nat → Nat → Int32} {td : Int32} {T : Nat → Nat → List Int32} {idx : Nat} (hd : decode mi.2.1 pc = .ok (.invokevirtual idx, 3)) (hp : pc + 3 = pc') (hlk : Cond.methodLink mi.1.cls idx yX3_carriedOn ∈ wok) (hdd : 2 + 1 ≤ d) (hcat : (S.map (fun v => v.category)).sum ≤ 8) (hb : ISh b) (hS : isS b mem σ n td (nI w)) (hpn : p < n) (hT : isTT rf tl mem nt T) (hw : w < nt) (K : ∀ mem', scr mem mem' → Sim z d kc ks mi pc' L (.int (carr σ td (T w) p) :: S) (LAY rf tl) mem' Q) : Sim z d kc ks mi pc L (.int (nI p) :: .ref b :: S) (LAY rf tl) mem Q :=
  s_invV (d2 := 2) hd hp okX3_carriedOn hlk inX3_carriedOn seX3_carriedOn hdd (Nat.zero_add _) (Nat.zero_add _) rfl rfl (lyS hb) rfl hcat (Nat.le_of_ble_eq_true rfl) (m_X3_carriedOn (Nat.le_refl _) hb hS hpn hT hw K)
def yesB (σ : Nat → Nat → Int32) (td : Int32) (P : Nat → List Int32) (p q : Nat) : Int32 := if tv (vB σ td p q) (P 2) = 0 then 0 else 1
set_option maxHeartbeats 4000000 in
theorem m_X3_isYes {z : Zz} {d : Nat} {Q : Option Value → Lay → Mem → Prop} {rf : Nat → Value} {tl : Lay} {mem : Mem}  {b n p q w nt : Nat} {σ : Nat → Nat → Int32} {td : Int32} {T : Nat → Nat → List Int32} (hdd : 2 ≤ d) (hb : ISh b) (hS : isS b mem σ n td (nI w)) (hpn : p < n) (hqn : q < n) (hT : isTT rf tl mem nt T) (hw : w < nt) (K : ∀ mem', scr mem mem' → Q (some (.int (yesB σ td (T w) p q))) (LAY rf tl) mem') : Sim z d 0 0 mX3_isYes 0 [.ref b, .int (nI p), .int (nI q)] [] (LAY rf tl) mem Q := by
  have h8 := hS.2.1
  obtain ⟨d0, d1, d2, d3, d4⟩ := hS.2.2.2.2 p hpn
  obtain ⟨f0, f1, f2, f3, f4⟩ := hS.2.2.2.2 q hqn
  refine s_aload_n (pc' := 1) dX3_isYes_0 rfl lg0 rfl ?_
  refine s_getRv (pc' := 4) (v := .ref 1) dX3_isYes_1 rfl flX3_43 (lyS hb) (by decide) rfl rfl ?_
  refine s_aload_n (pc' := 5) dX3_isYes_4 rfl lg0 rfl ?_
  refine s_getRv (pc' := 8) (v := .ref (b + 2)) dX3_isYes_5 rfl flX3_15 (lyS hb) (by decide) rfl rfl ?_
  refine s_iload_n (pc' := 9) dX3_isYes_8 rfl lg1 ?_
  refine s_ialdN (pc' := 10) dX3_isYes_9 rfl (lyS2 hb) (by omega) (by decide) ?_
  refine s_aload_n (pc' := 11) dX3_isYes_10 rfl lg0 rfl ?_
  refine s_getRv (pc' := 14) (v := .ref (b + 2)) dX3_isYes_11 rfl flX3_15 (lyS hb) (by decide) rfl rfl ?_
  refine s_iload_n (pc' := 15) dX3_isYes_14 rfl lg2 ?_
  refine s_ialdN (pc' := 16) dX3_isYes_15 rfl (lyS2 hb) (by omega) (by decide) ?_
  refine s_aload_n (pc' := 17) dX3_isYes_16 rfl lg0 rfl ?_
  refine s_getRv (pc' := 20) (v := .ref (b + 3)) dX3_isYes_17 rfl flX3_18 (lyS hb) (by decide) rfl rfl ?_
  refine s_iload_n (pc' := 21) dX3_isYes_20 rfl lg1 ?_
  refine s_ialdN (pc' := 22) dX3_isYes_21 rfl (lyS3 hb) (by omega) (by decide) ?_
  refine s_aload_n (pc' := 23) dX3_isYes_22 rfl lg0 rfl ?_
  refine s_getRv (pc' := 26) (v := .ref (b + 3)) dX3_isYes_23 rfl flX3_18 (lyS hb) (by decide) rfl rfl ?_
  refine s_iload_n (pc' := 27) dX3_isYes_26 rfl lg2 ?_
  refine s_ialdN (pc' := 28) dX3_isYes_27 rfl (lyS3 hb) (by omega) (by decide) ?_
  refine cN_X6_apart (pc' := 31) dX3_isYes_28 rfl (by decide) (by omega) (Nat.le_of_ble_eq_true rfl)  ?_
  refine s_aload_n (pc' := 32) dX3_isYes_31 rfl lg0 rfl ?_
  refine s_getRv (pc' := 35) (v := .ref (b + 1)) dX3_isYes_32 rfl flX3_9 (lyS hb) (by decide) rfl rfl ?_
  refine s_iload_n (pc' := 36) dX3_isYes_35 rfl lg1 ?_
  refine s_ialdN (pc' := 37) dX3_isYes_36 rfl (lyS1 hb) (by omega) (by decide) ?_
  refine s_aload_n (pc' := 38) dX3_isYes_37 rfl lg0 rfl ?_
  refine s_getI (pc' := 41) dX3_isYes_38 rfl flX3_37 (lyS hb) (by decide) rfl ?_
  refine s_aload_n (pc' := 42) dX3_isYes_41 rfl lg0 rfl ?_
  refine s_getRv (pc' := 45) (v := .ref (b + 3)) dX3_isYes_42 rfl flX3_18 (lyS hb) (by decide) rfl rfl ?_
  refine s_iload_n (pc' := 46) dX3_isYes_45 rfl lg1 ?_
  refine s_ialdN (pc' := 47) dX3_isYes_46 rfl (lyS3 hb) (by omega) (by decide) ?_
  refine c_X5_names (pc' := 50) dX3_isYes_47 rfl lkX3_105 (by omega) (Nat.le_of_ble_eq_true rfl) (fun m1 h1 h2 => ?_)
  have s1 : scr mem m1 := fun j h3 h4 => h1 j h3
  have hS1 := hS.scr hb s1
  have hT1 := hT.scr s1
  have h2' : ∀ k, k < 6 → m1 3 k = vB σ td p q k := by
    intro k hk
    obtain ⟨a0, a1, a2, a3, a4, a5⟩ := h2
    rcases lt6 hk with rfl | rfl | rfl | rfl | rfl | rfl
    · rw [a0, d2]; simp [vB]
    · rw [a1, f2]; simp [vB]
    · rw [a2, d3, f3]; simp [vB]
    · rw [a3, d1]; simp [vB]
    · rw [a4, hS.2.2.1]; simp [vB]
    · rw [a5, d3]; simp [vB]
  refine s_aload_n (pc' := 51) dX3_isYes_50 rfl lg0 rfl ?_
  refine s_getRv (pc' := 54) (v := .ref 1) dX3_isYes_51 rfl flX3_43 (lyS hb) (by decide) rfl rfl ?_
  refine s_aload_n (pc' := 55) dX3_isYes_54 rfl lg0 rfl ?_
  refine s_getIv (pc' := 58) (v := nI w) dX3_isYes_55 rfl flX3_40 (lyS hb) (by decide) rfl hS1.2.2.2.1 ?_
  refine s_iconst (pc' := 59) dX3_isYes_58 rfl iconst_2 ?_
  refine c_X5_valueOf (p := 2) (pc' := 62) dX3_isYes_59 rfl lkX3_80 (by omega) (Nat.le_of_ble_eq_true rfl) hT1.1 hT1.2.2.1 hw (by decide) (hT1.2.2.2 w hw) (fun m2 h3 => ?_)
  have s2 : scr mem m2 := s1.tr (fun j _ h4 => h3 j h4)
  rw [tv_cong h2']
  have K2 := K m2 s2
  refine s_if_eq (pc' := 65) (tgt := 69) dX3_isYes_62 rfl (by decide) (fun c10 => ?_) (fun c10 => ?_)
  · refine s_iconst (pc' := 70) dX3_isYes_69 rfl iconst_0 ?_
    refine s_iret dX3_isYes_70 rfl (by decide) ?_
    (simpa [yesB, c10] using K2)
  · refine s_iconst (pc' := 66) dX3_isYes_65 rfl iconst_1 ?_
    refine s_goto (tgt := 70) dX3_isYes_66 (by decide) ?_
    refine s_iret dX3_isYes_70 rfl (by decide) ?_
    (simpa [yesB, c10] using K2)
theorem c_X3_isYes {z : Zz} {d kc ks : Nat} {mi : MI} {pc pc' : Nat} {L S : List Value} {Q : Option Value → Lay → Mem → Prop} {rf : Nat → Value} {tl : Lay} {mem : Mem}  {b n p q w nt : Nat} {σ : Nat → Nat → Int32} {td : Int32} {T : Nat → Nat → List Int32} {idx : Nat} (hd : decode mi.2.1 pc = .ok (.invokevirtual idx, 3)) (hp : pc + 3 = pc') (hlk : Cond.methodLink mi.1.cls idx yX3_isYes ∈ wok) (hdd : 2 + 1 ≤ d) (hcat : (S.map (fun v => v.category)).sum ≤ 8) (hb : ISh b) (hS : isS b mem σ n td (nI w)) (hpn : p < n) (hqn : q < n) (hT : isTT rf tl mem nt T) (hw : w < nt) (K : ∀ mem', scr mem mem' → Sim z d kc ks mi pc' L (.int (yesB σ td (T w) p q) :: S) (LAY rf tl) mem' Q) : Sim z d kc ks mi pc L (.int (nI q) :: .int (nI p) :: .ref b :: S) (LAY rf tl) mem Q :=
  s_invV (d2 := 2) hd hp okX3_isYes hlk inX3_isYes seX3_isYes hdd (Nat.zero_add _) (Nat.zero_add _) rfl rfl (lyS hb) rfl hcat (Nat.le_of_ble_eq_true rfl) (m_X3_isYes (Nat.le_refl _) hb hS hpn hqn hT hw K)
def acrB (σ : Nat → Nat → Int32) (td : Int32) (P : Nat → List Int32) (p q : Nat) : Int32 := if σ 4 p = σ 4 q then 0 else if yesB σ td P p q = 0 then 0 else 1
set_option maxHeartbeats 4000000 in
theorem m_X3_isYesAcross {z : Zz} {d : Nat} {Q : Option Value → Lay → Mem → Prop} {rf : Nat → Value} {tl : Lay} {mem : Mem}  {b n p q w nt : Nat} {σ : Nat → Nat → Int32} {td : Int32} {T : Nat → Nat → List Int32} (hdd : 3 ≤ d) (hb : ISh b) (hS : isS b mem σ n td (nI w)) (hpn : p < n) (hqn : q < n) (hT : isTT rf tl mem nt T) (hw : w < nt) (K : ∀ mem', scr mem mem' → Q (some (.int (acrB σ td (T w) p q))) (LAY rf tl) mem') : Sim z d 0 0 mX3_isYesAcross 0 [.ref b, .int (nI p), .int (nI q)] [] (LAY rf tl) mem Q := by
  have h8 := hS.2.1
  obtain ⟨d0, d1, d2, d3, d4⟩ := hS.2.2.2.2 p hpn
  obtain ⟨f0, f1, f2, f3, f4⟩ := hS.2.2.2.2 q hqn
  unfold acrB at K
  rw [← d4, ← f4] at K
  refine s_aload_n (pc' := 1) dX3_isYesAcross_0 rfl lg0 rfl ?_
  refine s_getRv (pc' := 4) (v := .ref (b + 4)) dX3_isYesAcross_1 rfl flX3_21 (lyS hb) (by decide) rfl rfl ?_
  refine s_iload_n (pc' := 5) dX3_isYesAcross_4 rfl lg1 ?_
  refine s_ialdN (pc' := 6) dX3_isYesAcross_5 rfl (lyS4 hb) (by omega) (by decide) ?_
  refine s_aload_n (pc' := 7) dX3_isYesAcross_6 rfl lg0 rfl ?_
  refine s_getRv (pc' := 10) (v := .ref (b + 4)) dX3_isYesAcross_7 rfl flX3_21 (lyS hb) (by decide) rfl rfl ?_
  refine s_iload_n (pc' := 11) dX3_isYesAcross_10 rfl lg2 ?_
  refine s_ialdN (pc' := 12) dX3_isYesAcross_11 rfl (lyS4 hb) (by omega) (by decide) ?_
  refine s_icmp_eq (pc' := 15) (tgt := 28) dX3_isYesAcross_12 rfl (by decide) (fun c11 => ?_) (fun c11 => ?_)
  · refine s_iconst (pc' := 29) dX3_isYesAcross_28 rfl iconst_0 ?_
    refine s_iret dX3_isYesAcross_29 rfl (by decide) ?_
    (first | (have K2 := K m1 s1; simpa [c11] using K2) | (have K2 := K mem scr.rf; simpa [c11] using K2))
  · refine s_aload_n (pc' := 16) dX3_isYesAcross_15 rfl lg0 rfl ?_
    refine s_iload_n (pc' := 17) dX3_isYesAcross_16 rfl lg1 ?_
    refine s_iload_n (pc' := 18) dX3_isYesAcross_17 rfl lg2 ?_
    refine c_X3_isYes (pc' := 21) dX3_isYesAcross_18 rfl lkX3_95 (by omega) (Nat.le_of_ble_eq_true rfl) hb hS hpn hqn hT hw ?_
    intro m1 s1
    refine s_if_eq (pc' := 24) (tgt := 28) dX3_isYesAcross_21 rfl (by decide) (fun c12 => ?_) (fun c12 => ?_)
    · refine s_iconst (pc' := 29) dX3_isYesAcross_28 rfl iconst_0 ?_
      refine s_iret dX3_isYesAcross_29 rfl (by decide) ?_
      (first | (have K2 := K m1 s1; simpa [c11, c12] using K2) | (have K2 := K mem scr.rf; simpa [c11, c12] using K2))
    · refine s_iconst (pc' := 25) dX3_isYesAcross_24 rfl iconst_1 ?_
      refine s_goto (tgt := 29) dX3_isYesAcross_25 (by decide) ?_
      refine s_iret dX3_isYesAcross_29 rfl (by decide) ?_
      (first | (have K2 := K m1 s1; simpa [c11, c12] using K2) | (have K2 := K mem scr.rf; simpa [c11, c12] using K2))
theorem c_X3_isYesAcross {z : Zz} {d kc ks : Nat} {mi : MI} {pc pc' : Nat} {L S : List Value} {Q : Option Value → Lay → Mem → Prop} {rf : Nat → Value} {tl : Lay} {mem : Mem}  {b n p q w nt : Nat} {σ : Nat → Nat → Int32} {td : Int32} {T : Nat → Nat → List Int32} {idx : Nat} (hd : decode mi.2.1 pc = .ok (.invokevirtual idx, 3)) (hp : pc + 3 = pc') (hlk : Cond.methodLink mi.1.cls idx yX3_isYesAcross ∈ wok) (hdd : 3 + 1 ≤ d) (hcat : (S.map (fun v => v.category)).sum ≤ 8) (hb : ISh b) (hS : isS b mem σ n td (nI w)) (hpn : p < n) (hqn : q < n) (hT : isTT rf tl mem nt T) (hw : w < nt) (K : ∀ mem', scr mem mem' → Sim z d kc ks mi pc' L (.int (acrB σ td (T w) p q) :: S) (LAY rf tl) mem' Q) : Sim z d kc ks mi pc L (.int (nI q) :: .int (nI p) :: .ref b :: S) (LAY rf tl) mem Q :=
  s_invV (d2 := 3) hd hp okX3_isYesAcross hlk inX3_isYesAcross seX3_isYesAcross hdd (Nat.zero_add _) (Nat.zero_add _) rfl rfl (lyS hb) rfl hcat (Nat.le_of_ble_eq_true rfl) (m_X3_isYesAcross (Nat.le_refl _) hb hS hpn hqn hT hw K)
def clB (σ : Nat → Nat → Int32) (td : Int32) (P : Nat → List Int32) (p q : Nat) : Int32 :=
  if σ 0 p = 1 then (if σ 1 p = σ 1 q then 0 else if yesB σ td P p q = 0 then 0 else 1)
  else if σ 0 p = 2 then (if σ 2 q = 0 then 1 else if acrB σ td P p q = 0 then 0 else 1)
  else if σ 0 p = 3 then 0
  else if σ 0 p = 4 then (if td - td / 3 * 3 = 0 then 0 else if σ 2 q = 0 then 1 else if acrB σ td P p q = 0 then 0 else 1)
  else if σ 0 p = 5 then (if σ 0 q = 5 then 0 else 1)
  else acrB σ td P p q
theorem acrB01 (σ : Nat → Nat → Int32) (td : Int32) (P : Nat → List Int32) (p q : Nat) : narrow .boolean (.int (acrB σ td P p q)) = .int (acrB σ td P p q) := by
  unfold acrB
  split
  · rfl
  · split <;> rfl
set_option maxHeartbeats 4000000 in
theorem m_X3_isClashing {z : Zz} {d : Nat} {Q : Option Value → Lay → Mem → Prop} {rf : Nat → Value} {tl : Lay} {mem : Mem}  {b n p q w nt : Nat} {σ : Nat → Nat → Int32} {td : Int32} {T : Nat → Nat → List Int32} (hdd : 4 ≤ d) (hb : ISh b) (hS : isS b mem σ n td (nI w)) (hpn : p < n) (hqn : q < n) (hT : isTT rf tl mem nt T) (hw : w < nt) (K : ∀ mem', scr mem mem' → Q (some (.int (clB σ td (T w) p q))) (LAY rf tl) mem') : Sim z d 0 0 mX3_isClashing 0 [.ref b, .int (nI p), .int (nI q)] [] (LAY rf tl) mem Q := by
  have h8 := hS.2.1
  have htd := hS.2.2.1
  obtain ⟨d0, d1, d2, d3, d4⟩ := hS.2.2.2.2 p hpn
  obtain ⟨f0, f1, f2, f3, f4⟩ := hS.2.2.2.2 q hqn
  unfold clB at K
  have K : ∀ mem', scr mem mem' → Q (some (.int (if mem (b + 5) p = 1 then (if mem (b + 1) p = mem (b + 1) q then 0 else if yesB σ td (T w) p q = 0 then 0 else 1)
    else if mem (b + 5) p = 2 then (if mem (b + 2) q = 0 then 1 else if acrB σ td (T w) p q = 0 then 0 else 1)
    else if mem (b + 5) p = 3 then 0
    else if mem (b + 5) p = 4 then (if mem b 9 - mem b 9 / 3 * 3 = 0 then 0 else if mem (b + 2) q = 0 then 1 else if acrB σ td (T w) p q = 0 then 0 else 1)
    else if mem (b + 5) p = 5 then (if mem (b + 5) q = 5 then 0 else 1)
    else acrB σ td (T w) p q))) (LAY rf tl) mem' := by rw [d0, d1, f0, f1, f2, htd]; exact K
  refine s_aload_n (pc' := 1) dX3_isClashing_0 rfl lg0 rfl ?_
  refine s_getRv (pc' := 4) (v := .ref (b + 5)) dX3_isClashing_1 rfl flX3_24 (lyS hb) (by decide) rfl rfl ?_
  refine s_iload_n (pc' := 5) dX3_isClashing_4 rfl lg1 ?_
  refine s_ialdN (pc' := 6) dX3_isClashing_5 rfl (lyS5 hb) (by omega) (by decide) ?_
  refine s_ts5 (v0 := 1) (v1 := 2) (v2 := 3) (v3 := 4) (v4 := 5) (t0 := 40) (t1 := 70) (t2 := 94) (t3 := 96) (t4 := 129) (td := 145) dX3_isClashing_6 (by decide) (by decide) (by decide) (by decide) (by decide) (by decide) (by decide) (by decide) (by decide) (by decide) (by decide) (by decide) (fun e13 => ?_) (fun e13 => ?_) (fun e13 => ?_) (fun e13 => ?_) (fun e13 => ?_) (fun e13_0 e13_1 e13_2 e13_3 e13_4 => ?_)
  · refine s_aload_n (pc' := 41) dX3_isClashing_40 rfl lg0 rfl ?_
    refine s_getRv (pc' := 44) (v := .ref (b + 1)) dX3_isClashing_41 rfl flX3_9 (lyS hb) (by decide) rfl rfl ?_
    refine s_iload_n (pc' := 45) dX3_isClashing_44 rfl lg1 ?_
    refine s_ialdN (pc' := 46) dX3_isClashing_45 rfl (lyS1 hb) (by omega) (by decide) ?_
    refine s_aload_n (pc' := 47) dX3_isClashing_46 rfl lg0 rfl ?_
    refine s_getRv (pc' := 50) (v := .ref (b + 1)) dX3_isClashing_47 rfl flX3_9 (lyS hb) (by decide) rfl rfl ?_
    refine s_iload_n (pc' := 51) dX3_isClashing_50 rfl lg2 ?_
    refine s_ialdN (pc' := 52) dX3_isClashing_51 rfl (lyS1 hb) (by omega) (by decide) ?_
    refine s_icmp_eq (pc' := 55) (tgt := 68) dX3_isClashing_52 rfl (by decide) (fun c14 => ?_) (fun c14 => ?_)
    · refine s_iconst (pc' := 69) dX3_isClashing_68 rfl iconst_0 ?_
      refine s_iret dX3_isClashing_69 rfl (by first | decide | exact acrB01 _ _ _ _ _) ?_
      (first | (have K2 := K m1 s1; simpa [e13, c14] using K2) | (have K2 := K mem scr.rf; simpa [e13, c14] using K2))
    · refine s_aload_n (pc' := 56) dX3_isClashing_55 rfl lg0 rfl ?_
      refine s_iload_n (pc' := 57) dX3_isClashing_56 rfl lg1 ?_
      refine s_iload_n (pc' := 58) dX3_isClashing_57 rfl lg2 ?_
      refine c_X3_isYes (pc' := 61) dX3_isClashing_58 rfl lkX3_95 (by omega) (Nat.le_of_ble_eq_true rfl) hb hS hpn hqn hT hw ?_
      intro m1 s1
      refine s_if_eq (pc' := 64) (tgt := 68) dX3_isClashing_61 rfl (by decide) (fun c15 => ?_) (fun c15 => ?_)
      · refine s_iconst (pc' := 69) dX3_isClashing_68 rfl iconst_0 ?_
        refine s_iret dX3_isClashing_69 rfl (by first | decide | exact acrB01 _ _ _ _ _) ?_
        (first | (have K2 := K m1 s1; simpa [e13, c14, c15] using K2) | (have K2 := K mem scr.rf; simpa [e13, c14, c15] using K2))
      · refine s_iconst (pc' := 65) dX3_isClashing_64 rfl iconst_1 ?_
        refine s_goto (tgt := 69) dX3_isClashing_65 (by decide) ?_
        refine s_iret dX3_isClashing_69 rfl (by first | decide | exact acrB01 _ _ _ _ _) ?_
        (first | (have K2 := K m1 s1; simpa [e13, c14, c15] using K2) | (have K2 := K mem scr.rf; simpa [e13, c14, c15] using K2))
  · refine s_aload_n (pc' := 71) dX3_isClashing_70 rfl lg0 rfl ?_
    refine s_getRv (pc' := 74) (v := .ref (b + 2)) dX3_isClashing_71 rfl flX3_15 (lyS hb) (by decide) rfl rfl ?_
    refine s_iload_n (pc' := 75) dX3_isClashing_74 rfl lg2 ?_
    refine s_ialdN (pc' := 76) dX3_isClashing_75 rfl (lyS2 hb) (by omega) (by decide) ?_
    refine s_if_eq (pc' := 79) (tgt := 88) dX3_isClashing_76 rfl (by decide) (fun c16 => ?_) (fun c16 => ?_)
    · refine s_iconst (pc' := 89) dX3_isClashing_88 rfl iconst_1 ?_
      refine s_goto (tgt := 93) dX3_isClashing_89 (by decide) ?_
      refine s_iret dX3_isClashing_93 rfl (by first | decide | exact acrB01 _ _ _ _ _) ?_
      (first | (have K2 := K m1 s1; simpa [e13, c16] using K2) | (have K2 := K mem scr.rf; simpa [e13, c16] using K2))
    · refine s_aload_n (pc' := 80) dX3_isClashing_79 rfl lg0 rfl ?_
      refine s_iload_n (pc' := 81) dX3_isClashing_80 rfl lg1 ?_
      refine s_iload_n (pc' := 82) dX3_isClashing_81 rfl lg2 ?_
      refine c_X3_isYesAcross (pc' := 85) dX3_isClashing_82 rfl lkX3_99 (by omega) (Nat.le_of_ble_eq_true rfl) hb hS hpn hqn hT hw ?_
      intro m1 s1
      refine s_if_eq (pc' := 88) (tgt := 92) dX3_isClashing_85 rfl (by decide) (fun c17 => ?_) (fun c17 => ?_)
      · refine s_iconst (pc' := 93) dX3_isClashing_92 rfl iconst_0 ?_
        refine s_iret dX3_isClashing_93 rfl (by first | decide | exact acrB01 _ _ _ _ _) ?_
        (first | (have K2 := K m1 s1; simpa [e13, c16, c17] using K2) | (have K2 := K mem scr.rf; simpa [e13, c16, c17] using K2))
      · refine s_iconst (pc' := 89) dX3_isClashing_88 rfl iconst_1 ?_
        refine s_goto (tgt := 93) dX3_isClashing_89 (by decide) ?_
        refine s_iret dX3_isClashing_93 rfl (by first | decide | exact acrB01 _ _ _ _ _) ?_
        (first | (have K2 := K m1 s1; simpa [e13, c16, c17] using K2) | (have K2 := K mem scr.rf; simpa [e13, c16, c17] using K2))
  · refine s_iconst (pc' := 95) dX3_isClashing_94 rfl iconst_0 ?_
    refine s_iret dX3_isClashing_95 rfl (by first | decide | exact acrB01 _ _ _ _ _) ?_
    (first | (have K2 := K m1 s1; simpa [e13] using K2) | (have K2 := K mem scr.rf; simpa [e13] using K2))
  · refine s_aload_n (pc' := 97) dX3_isClashing_96 rfl lg0 rfl ?_
    refine s_getI (pc' := 100) dX3_isClashing_97 rfl flX3_37 (lyS hb) (by decide) rfl ?_
    refine s_iconst (pc' := 101) dX3_isClashing_100 rfl iconst_3 ?_
    refine s_irem (pc' := 102) dX3_isClashing_101 rfl (by decide) ?_
    refine s_if_eq (pc' := 105) (tgt := 127) dX3_isClashing_102 rfl (by decide) (fun c18 => ?_) (fun c18 => ?_)
    · refine s_iconst (pc' := 128) dX3_isClashing_127 rfl iconst_0 ?_
      refine s_iret dX3_isClashing_128 rfl (by first | decide | exact acrB01 _ _ _ _ _) ?_
      (first | (have K2 := K m1 s1; simpa [e13, c18] using K2) | (have K2 := K mem scr.rf; simpa [e13, c18] using K2))
    · refine s_aload_n (pc' := 106) dX3_isClashing_105 rfl lg0 rfl ?_
      refine s_getRv (pc' := 109) (v := .ref (b + 2)) dX3_isClashing_106 rfl flX3_15 (lyS hb) (by decide) rfl rfl ?_
      refine s_iload_n (pc' := 110) dX3_isClashing_109 rfl lg2 ?_
      refine s_ialdN (pc' := 111) dX3_isClashing_110 rfl (lyS2 hb) (by omega) (by decide) ?_
      refine s_if_eq (pc' := 114) (tgt := 123) dX3_isClashing_111 rfl (by decide) (fun c19 => ?_) (fun c19 => ?_)
      · refine s_iconst (pc' := 124) dX3_isClashing_123 rfl iconst_1 ?_
        refine s_goto (tgt := 128) dX3_isClashing_124 (by decide) ?_
        refine s_iret dX3_isClashing_128 rfl (by first | decide | exact acrB01 _ _ _ _ _) ?_
        (first | (have K2 := K m1 s1; simpa [e13, c18, c19] using K2) | (have K2 := K mem scr.rf; simpa [e13, c18, c19] using K2))
      · refine s_aload_n (pc' := 115) dX3_isClashing_114 rfl lg0 rfl ?_
        refine s_iload_n (pc' := 116) dX3_isClashing_115 rfl lg1 ?_
        refine s_iload_n (pc' := 117) dX3_isClashing_116 rfl lg2 ?_
        refine c_X3_isYesAcross (pc' := 120) dX3_isClashing_117 rfl lkX3_99 (by omega) (Nat.le_of_ble_eq_true rfl) hb hS hpn hqn hT hw ?_
        intro m1 s1
        refine s_if_eq (pc' := 123) (tgt := 127) dX3_isClashing_120 rfl (by decide) (fun c20 => ?_) (fun c20 => ?_)
        · refine s_iconst (pc' := 128) dX3_isClashing_127 rfl iconst_0 ?_
          refine s_iret dX3_isClashing_128 rfl (by first | decide | exact acrB01 _ _ _ _ _) ?_
          (first | (have K2 := K m1 s1; simpa [e13, c18, c19, c20] using K2) | (have K2 := K mem scr.rf; simpa [e13, c18, c19, c20] using K2))
        · refine s_iconst (pc' := 124) dX3_isClashing_123 rfl iconst_1 ?_
          refine s_goto (tgt := 128) dX3_isClashing_124 (by decide) ?_
          refine s_iret dX3_isClashing_128 rfl (by first | decide | exact acrB01 _ _ _ _ _) ?_
          (first | (have K2 := K m1 s1; simpa [e13, c18, c19, c20] using K2) | (have K2 := K mem scr.rf; simpa [e13, c18, c19, c20] using K2))
  · refine s_aload_n (pc' := 130) dX3_isClashing_129 rfl lg0 rfl ?_
    refine s_getRv (pc' := 133) (v := .ref (b + 5)) dX3_isClashing_130 rfl flX3_24 (lyS hb) (by decide) rfl rfl ?_
    refine s_iload_n (pc' := 134) dX3_isClashing_133 rfl lg2 ?_
    refine s_ialdN (pc' := 135) dX3_isClashing_134 rfl (lyS5 hb) (by omega) (by decide) ?_
    refine s_iconst (pc' := 136) dX3_isClashing_135 rfl iconst_5 ?_
    refine s_icmp_eq (pc' := 139) (tgt := 143) dX3_isClashing_136 rfl (by decide) (fun c21 => ?_) (fun c21 => ?_)
    · refine s_iconst (pc' := 144) dX3_isClashing_143 rfl iconst_0 ?_
      refine s_iret dX3_isClashing_144 rfl (by first | decide | exact acrB01 _ _ _ _ _) ?_
      (first | (have K2 := K m1 s1; simpa [e13, c21] using K2) | (have K2 := K mem scr.rf; simpa [e13, c21] using K2))
    · refine s_iconst (pc' := 140) dX3_isClashing_139 rfl iconst_1 ?_
      refine s_goto (tgt := 144) dX3_isClashing_140 (by decide) ?_
      refine s_iret dX3_isClashing_144 rfl (by first | decide | exact acrB01 _ _ _ _ _) ?_
      (first | (have K2 := K m1 s1; simpa [e13, c21] using K2) | (have K2 := K mem scr.rf; simpa [e13, c21] using K2))
  · refine s_aload_n (pc' := 146) dX3_isClashing_145 rfl lg0 rfl ?_
    refine s_iload_n (pc' := 147) dX3_isClashing_146 rfl lg1 ?_
    refine s_iload_n (pc' := 148) dX3_isClashing_147 rfl lg2 ?_
    refine c_X3_isYesAcross (pc' := 151) dX3_isClashing_148 rfl lkX3_99 (by omega) (Nat.le_of_ble_eq_true rfl) hb hS hpn hqn hT hw ?_
    intro m1 s1
    refine s_iret dX3_isClashing_151 rfl (by first | decide | exact acrB01 _ _ _ _ _) ?_
    (first | (have K2 := K m1 s1; simpa [e13_0, e13_1, e13_2, e13_3, e13_4] using K2) | (have K2 := K mem scr.rf; simpa [e13_0, e13_1, e13_2, e13_3, e13_4] using K2))
theorem c_X3_isClashing {z : Zz} {d kc ks : Nat} {mi : MI} {pc pc' : Nat} {L S : List Value} {Q : Option Value → Lay → Mem → Prop} {rf : Nat → Value} {tl : Lay} {mem : Mem}  {b n p q w nt : Nat} {σ : Nat → Nat → Int32} {td : Int32} {T : Nat → Nat → List Int32} {idx : Nat} (hd : decode mi.2.1 pc = .ok (.invokevirtual idx, 3)) (hp : pc + 3 = pc') (hlk : Cond.methodLink mi.1.cls idx yX3_isClashing ∈ wok) (hdd : 4 + 1 ≤ d) (hcat : (S.map (fun v => v.category)).sum ≤ 8) (hb : ISh b) (hS : isS b mem σ n td (nI w)) (hpn : p < n) (hqn : q < n) (hT : isTT rf tl mem nt T) (hw : w < nt) (K : ∀ mem', scr mem mem' → Sim z d kc ks mi pc' L (.int (clB σ td (T w) p q) :: S) (LAY rf tl) mem' Q) : Sim z d kc ks mi pc L (.int (nI q) :: .int (nI p) :: .ref b :: S) (LAY rf tl) mem Q :=
  s_invV (d2 := 4) hd hp okX3_isClashing hlk inX3_isClashing seX3_isClashing hdd (Nat.zero_add _) (Nat.zero_add _) rfl rfl (lyS hb) rfl hcat (Nat.le_of_ble_eq_true rfl) (m_X3_isClashing (Nat.le_refl _) hb hS hpn hqn hT hw K)

