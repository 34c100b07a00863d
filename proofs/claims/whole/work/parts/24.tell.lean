/-! ===== Shore: what the rule tells ===== -/
def scr (mem mem' : Mem) : Prop := ∀ j, j ≠ 3 → j ≠ 4 → mem' j = mem j
theorem scr.rf {mem : Mem} : scr mem mem := fun _ _ _ => rfl
theorem scr.tr {a b c : Mem} (h1 : scr a b) (h2 : scr b c) : scr a c := fun j h3 h4 => (h2 j h3 h4).trans (h1 j h3 h4)
/-- the names' values of a piece alone, and of two -/
def vA (σ : Nat → Nat → Int32) (td : Int32) (i k : Nat) : Int32 := if k = 0 then σ 2 i else if k = 1 then 0 else if k = 2 then 0 else if k = 3 then σ 1 i else if k = 4 then td else σ 3 i
def vB (σ : Nat → Nat → Int32) (td : Int32) (i j k : Nat) : Int32 := if k = 0 then σ 2 i else if k = 1 then σ 2 j else if k = 2 then apI (σ 3 i) (σ 3 j) else if k = 3 then σ 1 i else if k = 4 then td else σ 3 i
theorem lt6 {k : Nat} (h : k < 6) : k = 0 ∨ k = 1 ∨ k = 2 ∨ k = 3 ∨ k = 4 ∨ k = 5 := by omega
theorem isS.scr {b : Nat} {mem mem' : Mem} {σ : Nat → Nat → Int32} {n : Nat} {td ru : Int32} (h : isS b mem σ n td ru) (hb : ISh b) (hk : scr mem mem') : isS b mem' σ n td ru :=
  h.kept (fun j h1 h2 => hk j (by rcases hb with rfl | rfl | rfl <;> omega) (by rcases hb with rfl | rfl | rfl <;> omega))
theorem isTT.scr {rf : Nat → Value} {tl : Lay} {mem mem' : Mem} {nt : Nat} {T : Nat → Nat → List Int32} (h : isTT rf tl mem nt T) (hk : scr mem mem') : isTT rf tl mem' nt T := h.kept (fun j hj => hk j (by omega) (by omega))
set_option maxHeartbeats 4000000 in
theorem m_X3_namesAlone {z : Zz} {d : Nat} {Q : Option Value → Lay → Mem → Prop} {rf : Nat → Value} {tl : Lay} {mem : Mem}  {b n p : Nat} {σ : Nat → Nat → Int32} {td ru : Int32} (hdd : 1 ≤ d) (hb : ISh b) (hS : isS b mem σ n td ru) (hpn : p < n) (K : ∀ mem', (∀ j, j ≠ 3 → mem' j = mem j) → (∀ k, k < 6 → mem' 3 k = vA σ td p k) → Q none (LAY rf tl) mem') : Sim z d 0 0 mX3_namesAlone 0 [.ref b, .int (nI p)] [] (LAY rf tl) mem Q := by
  obtain ⟨hn, h8, htd, hru, hσ⟩ := hS
  obtain ⟨e0, e1, e2, e3, e4⟩ := hσ p hpn
  refine s_aload_n (pc' := 1) dX3_namesAlone_0 rfl lg0 rfl ?_
  refine s_getRv (pc' := 4) (v := .ref 1) dX3_namesAlone_1 rfl flX3_43 (lyS hb) (by decide) rfl rfl ?_
  refine s_aload_n (pc' := 5) dX3_namesAlone_4 rfl lg0 rfl ?_
  refine s_getRv (pc' := 8) (v := .ref (b + 2)) dX3_namesAlone_5 rfl flX3_15 (lyS hb) (by decide) rfl rfl ?_
  refine s_iload_n (pc' := 9) dX3_namesAlone_8 rfl lg1 ?_
  refine s_ialdN (pc' := 10) dX3_namesAlone_9 rfl (lyS2 hb) (by omega) (by decide) ?_
  refine s_iconst (pc' := 11) dX3_namesAlone_10 rfl iconst_0 ?_
  refine s_iconst (pc' := 12) dX3_namesAlone_11 rfl iconst_0 ?_
  refine s_aload_n (pc' := 13) dX3_namesAlone_12 rfl lg0 rfl ?_
  refine s_getRv (pc' := 16) (v := .ref (b + 1)) dX3_namesAlone_13 rfl flX3_9 (lyS hb) (by decide) rfl rfl ?_
  refine s_iload_n (pc' := 17) dX3_namesAlone_16 rfl lg1 ?_
  refine s_ialdN (pc' := 18) dX3_namesAlone_17 rfl (lyS1 hb) (by omega) (by decide) ?_
  refine s_aload_n (pc' := 19) dX3_namesAlone_18 rfl lg0 rfl ?_
  refine s_getI (pc' := 22) dX3_namesAlone_19 rfl flX3_37 (lyS hb) (by decide) rfl ?_
  refine s_aload_n (pc' := 23) dX3_namesAlone_22 rfl lg0 rfl ?_
  refine s_getRv (pc' := 26) (v := .ref (b + 3)) dX3_namesAlone_23 rfl flX3_18 (lyS hb) (by decide) rfl rfl ?_
  refine s_iload_n (pc' := 27) dX3_namesAlone_26 rfl lg1 ?_
  refine s_ialdN (pc' := 28) dX3_namesAlone_27 rfl (lyS3 hb) (by omega) (by decide) ?_
  refine c_X5_names (pc' := 31) dX3_namesAlone_28 rfl lkX3_105 (by omega) (Nat.le_of_ble_eq_true rfl) (fun mem' h1 h2 => ?_)
  refine s_vret dX3_namesAlone_31 rfl ?_
  refine K mem' h1 (fun k hk => ?_)
  obtain ⟨a0, a1, a2, a3, a4, a5⟩ := h2
  rcases lt6 hk with rfl | rfl | rfl | rfl | rfl | rfl
  · rw [a0, e2]; rfl
  · rw [a1]; rfl
  · rw [a2]; rfl
  · rw [a3, e1]; rfl
  · rw [a4, htd]; rfl
  · rw [a5, e3]; rfl
theorem c_X3_namesAlone {z : Zz} {d kc ks : Nat} {mi : MI} {pc pc' : Nat} {L S : List Value} {Q : Option Value → Lay → Mem → Prop} {rf : Nat → Value} {tl : Lay} {mem : Mem}  {b n p : Nat} {σ : Nat → Nat → Int32} {td ru : Int32} {idx : Nat} (hd : decode mi.2.1 pc = .ok (.invokevirtual idx, 3)) (hp : pc + 3 = pc') (hlk : Cond.methodLink mi.1.cls idx yX3_namesAlone ∈ wok) (hdd : 1 + 1 ≤ d) (hcat : (S.map (fun v => v.category)).sum ≤ 8) (hb : ISh b) (hS : isS b mem σ n td ru) (hpn : p < n) (K : ∀ mem', (∀ j, j ≠ 3 → mem' j = mem j) → (∀ k, k < 6 → mem' 3 k = vA σ td p k) → Sim z d kc ks mi pc' L S (LAY rf tl) mem' Q) : Sim z d kc ks mi pc L (.int (nI p) :: .ref b :: S) (LAY rf tl) mem Q :=
  s_invV (d2 := 1) hd hp okX3_namesAlone hlk inX3_namesAlone seX3_namesAlone hdd (Nat.zero_add _) (Nat.zero_add _) rfl rfl (lyS hb) rfl hcat (Nat.le_of_ble_eq_true rfl) (m_X3_namesAlone (Nat.le_refl _) hb hS hpn K)
def wornK (k v ot sh td : Int32) : Int32 := if k = 1 then v + ot else if k = 2 then v / 2 else if k = 3 then (if 20 ≤ sh then v + ot else 2 * (v + ot)) else if k = 4 then (if td - td / 2 * 2 = 0 then 0 else v / 2) else if k = 5 then (if sh ≤ 50 then v else 0) else v
set_option maxHeartbeats 4000000 in
theorem m_X3_wornByKind {z : Zz} {d : Nat} {Q : Option Value → Lay → Mem → Prop} {rf : Nat → Value} {tl : Lay} {mem : Mem}  {b n p : Nat} {v : Int32} (hdd : 1 ≤ d) (hb : ISh b) (hn : mem b 8 = nI n) (h8 : n ≤ 8) (hpn : p < n) (K :  Q (some (.int (wornK (mem (b + 5) p) v (nI (ct (fun i => !decide (i = p) && decide (mem (b + 3) i = mem (b + 3) p)) n)) (mem (b + 2) p) (mem b 9)))) (LAY rf tl) mem) : Sim z d 0 0 mX3_wornByKind 0 [.ref b, .int (nI p), .int v] [] (LAY rf tl) mem Q := by
  refine s_aload_n (pc' := 1) dX3_wornByKind_0 rfl lg0 rfl ?_
  refine s_getRv (pc' := 4) (v := .ref (b + 5)) dX3_wornByKind_1 rfl flX3_24 (lyS hb) (by decide) rfl rfl ?_
  refine s_iload_n (pc' := 5) dX3_wornByKind_4 rfl lg1 ?_
  refine s_ialdN (pc' := 6) dX3_wornByKind_5 rfl (lyS5 hb) (by omega) (by decide) ?_
  refine s_ts5 (v0 := 1) (v1 := 2) (v2 := 3) (v3 := 4) (v4 := 5) (t0 := 40) (t1 := 48) (t2 := 52) (t3 := 83) (t4 := 100) (td := 117) dX3_wornByKind_6 (by decide) (by decide) (by decide) (by decide) (by decide) (by decide) (by decide) (by decide) (by decide) (by decide) (by decide) (by decide) (fun e1 => ?_) (fun e1 => ?_) (fun e1 => ?_) (fun e1 => ?_) (fun e1 => ?_) (fun e1_0 e1_1 e1_2 e1_3 e1_4 => ?_)
  · refine s_iload_n (pc' := 41) dX3_wornByKind_40 rfl lg2 ?_
    refine s_aload_n (pc' := 42) dX3_wornByKind_41 rfl lg0 rfl ?_
    refine s_iload_n (pc' := 43) dX3_wornByKind_42 rfl lg1 ?_
    refine c_X3_othersWith (pc' := 46) dX3_wornByKind_43 rfl lkX3_92 (by omega) (Nat.le_of_ble_eq_true rfl) hb hn h8 hpn ?_
    refine s_iadd (pc' := 47) dX3_wornByKind_46 rfl ?_
    refine s_iret dX3_wornByKind_47 rfl (vp_nar_int _) ?_
    (simpa [wornK, e1] using K)
  · refine s_iload_n (pc' := 49) dX3_wornByKind_48 rfl lg2 ?_
    refine s_iconst (pc' := 50) dX3_wornByKind_49 rfl iconst_2 ?_
    refine s_idiv (pc' := 51) dX3_wornByKind_50 rfl (by decide) ?_
    refine s_iret dX3_wornByKind_51 rfl (vp_nar_int _) ?_
    (simpa [wornK, e1] using K)
  · refine s_aload_n (pc' := 53) dX3_wornByKind_52 rfl lg0 rfl ?_
    refine s_getRv (pc' := 56) (v := .ref (b + 2)) dX3_wornByKind_53 rfl flX3_15 (lyS hb) (by decide) rfl rfl ?_
    refine s_iload_n (pc' := 57) dX3_wornByKind_56 rfl lg1 ?_
    refine s_ialdN (pc' := 58) dX3_wornByKind_57 rfl (lyS2 hb) (by omega) (by decide) ?_
    refine s_bipush (pc' := 60) dX3_wornByKind_58 rfl bipush_20 ?_
    refine s_icmp_ge (pc' := 63) (tgt := 75) dX3_wornByKind_60 rfl (by decide) (fun c2 => ?_) (fun c2 => ?_)
    · refine s_iload_n (pc' := 76) dX3_wornByKind_75 rfl lg2 ?_
      refine s_aload_n (pc' := 77) dX3_wornByKind_76 rfl lg0 rfl ?_
      refine s_iload_n (pc' := 78) dX3_wornByKind_77 rfl lg1 ?_
      refine c_X3_othersWith (pc' := 81) dX3_wornByKind_78 rfl lkX3_92 (by omega) (Nat.le_of_ble_eq_true rfl) hb hn h8 hpn ?_
      refine s_iadd (pc' := 82) dX3_wornByKind_81 rfl ?_
      refine s_iret dX3_wornByKind_82 rfl (vp_nar_int _) ?_
      (simpa [wornK, e1, c2] using K)
    · refine s_iconst (pc' := 64) dX3_wornByKind_63 rfl iconst_2 ?_
      refine s_iload_n (pc' := 65) dX3_wornByKind_64 rfl lg2 ?_
      refine s_aload_n (pc' := 66) dX3_wornByKind_65 rfl lg0 rfl ?_
      refine s_iload_n (pc' := 67) dX3_wornByKind_66 rfl lg1 ?_
      refine c_X3_othersWith (pc' := 70) dX3_wornByKind_67 rfl lkX3_92 (by omega) (Nat.le_of_ble_eq_true rfl) hb hn h8 hpn ?_
      refine s_iadd (pc' := 71) dX3_wornByKind_70 rfl ?_
      refine s_imul (pc' := 72) dX3_wornByKind_71 rfl ?_
      refine s_goto (tgt := 82) dX3_wornByKind_72 (by decide) ?_
      refine s_iret dX3_wornByKind_82 rfl (vp_nar_int _) ?_
      (simpa [wornK, e1, c2] using K)
  · refine s_aload_n (pc' := 84) dX3_wornByKind_83 rfl lg0 rfl ?_
    refine s_getI (pc' := 87) dX3_wornByKind_84 rfl flX3_37 (lyS hb) (by decide) rfl ?_
    refine s_iconst (pc' := 88) dX3_wornByKind_87 rfl iconst_2 ?_
    refine s_irem (pc' := 89) dX3_wornByKind_88 rfl (by decide) ?_
    refine s_if_ne (pc' := 92) (tgt := 96) dX3_wornByKind_89 rfl (by decide) (fun c3 => ?_) (fun c3 => ?_)
    · refine s_iload_n (pc' := 97) dX3_wornByKind_96 rfl lg2 ?_
      refine s_iconst (pc' := 98) dX3_wornByKind_97 rfl iconst_2 ?_
      refine s_idiv (pc' := 99) dX3_wornByKind_98 rfl (by decide) ?_
      refine s_iret dX3_wornByKind_99 rfl (vp_nar_int _) ?_
      (simpa [wornK, e1, c3] using K)
    · refine s_iconst (pc' := 93) dX3_wornByKind_92 rfl iconst_0 ?_
      refine s_goto (tgt := 99) dX3_wornByKind_93 (by decide) ?_
      refine s_iret dX3_wornByKind_99 rfl (vp_nar_int _) ?_
      (simpa [wornK, e1, c3] using K)
  · refine s_aload_n (pc' := 101) dX3_wornByKind_100 rfl lg0 rfl ?_
    refine s_getRv (pc' := 104) (v := .ref (b + 2)) dX3_wornByKind_101 rfl flX3_15 (lyS hb) (by decide) rfl rfl ?_
    refine s_iload_n (pc' := 105) dX3_wornByKind_104 rfl lg1 ?_
    refine s_ialdN (pc' := 106) dX3_wornByKind_105 rfl (lyS2 hb) (by omega) (by decide) ?_
    refine s_bipush (pc' := 108) dX3_wornByKind_106 rfl bipush_50 ?_
    refine s_icmp_le (pc' := 111) (tgt := 115) dX3_wornByKind_108 rfl (by decide) (fun c4 => ?_) (fun c4 => ?_)
    · refine s_iload_n (pc' := 116) dX3_wornByKind_115 rfl lg2 ?_
      refine s_iret dX3_wornByKind_116 rfl (vp_nar_int _) ?_
      (simpa [wornK, e1, c4] using K)
    · refine s_iconst (pc' := 112) dX3_wornByKind_111 rfl iconst_0 ?_
      refine s_goto (tgt := 116) dX3_wornByKind_112 (by decide) ?_
      refine s_iret dX3_wornByKind_116 rfl (vp_nar_int _) ?_
      (simpa [wornK, e1, c4] using K)
  · refine s_iload_n (pc' := 118) dX3_wornByKind_117 rfl lg2 ?_
    refine s_iret dX3_wornByKind_118 rfl (vp_nar_int _) ?_
    (simpa [wornK, e1_0, e1_1, e1_2, e1_3, e1_4] using K)
theorem c_X3_wornByKind {z : Zz} {d kc ks : Nat} {mi : MI} {pc pc' : Nat} {L S : List Value} {Q : Option Value → Lay → Mem → Prop} {rf : Nat → Value} {tl : Lay} {mem : Mem}  {b n p : Nat} {v : Int32} {idx : Nat} (hd : decode mi.2.1 pc = .ok (.invokevirtual idx, 3)) (hp : pc + 3 = pc') (hlk : Cond.methodLink mi.1.cls idx yX3_wornByKind ∈ wok) (hdd : 1 + 1 ≤ d) (hcat : (S.map (fun v => v.category)).sum ≤ 8) (hb : ISh b) (hn : mem b 8 = nI n) (h8 : n ≤ 8) (hpn : p < n) (K :  Sim z d kc ks mi pc' L (.int (wornK (mem (b + 5) p) v (nI (ct (fun i => !decide (i = p) && decide (mem (b + 3) i = mem (b + 3) p)) n)) (mem (b + 2) p) (mem b 9)) :: S) (LAY rf tl) mem Q) : Sim z d kc ks mi pc L (.int v :: .int (nI p) :: .ref b :: S) (LAY rf tl) mem Q :=
  s_invV (d2 := 1) hd hp okX3_wornByKind hlk inX3_wornByKind seX3_wornByKind hdd (Nat.zero_add _) (Nat.zero_add _) rfl rfl (lyS hb) rfl hcat (Nat.le_of_ble_eq_true rfl) (m_X3_wornByKind (Nat.le_refl _) hb hn h8 hpn K)
def others (σ : Nat → Nat → Int32) (n p : Nat) : Nat := ct (fun i => !decide (i = p) && decide (σ 3 i = σ 3 p)) n
theorem ct_cong {p q : Nat → Bool} : ∀ {n : Nat}, (∀ k, k < n → p k = q k) → ct p n = ct q n
  | 0, _ => rfl
  | n + 1, h => by rw [ct, ct, ct_cong (fun k hk => h k (by omega)), h n (by omega)]
def wears (σ : Nat → Nat → Int32) (n : Nat) (td : Int32) (P : Nat → List Int32) (p : Nat) : Int32 := bdI (wornK (σ 0 p) (bdI (tv (vA σ td p) (P 0)) 0 99) (nI (others σ n p)) (σ 2 p) td) 0 99
set_option maxHeartbeats 4000000 in
theorem m_X3_wornOff {z : Zz} {d : Nat} {Q : Option Value → Lay → Mem → Prop} {rf : Nat → Value} {tl : Lay} {mem : Mem}  {b n p w nt : Nat} {σ : Nat → Nat → Int32} {td : Int32} {T : Nat → Nat → List Int32} (hdd : 2 ≤ d) (hb : ISh b) (hS : isS b mem σ n td (nI w)) (hpn : p < n) (hT : isTT rf tl mem nt T) (hw : w < nt) (K : ∀ mem', scr mem mem' → Q (some (.int (wears σ n td (T w) p))) (LAY rf tl) mem') : Sim z d 0 0 mX3_wornOff 0 [.ref b, .int (nI p), .float 0] [] (LAY rf tl) mem Q := by
  refine s_aload_n (pc' := 1) dX3_wornOff_0 rfl lg0 rfl ?_
  refine s_iload_n (pc' := 2) dX3_wornOff_1 rfl lg1 ?_
  refine c_X3_namesAlone (pc' := 5) dX3_wornOff_2 rfl lkX3_76 (by omega) (Nat.le_of_ble_eq_true rfl) hb hS hpn (fun m1 h1 h2 => ?_)
  have s1 : scr mem m1 := fun j h3 h4 => h1 j h3
  have hS1 := hS.scr hb s1
  have hT1 := hT.scr s1
  refine s_aload_n (pc' := 6) dX3_wornOff_5 rfl lg0 rfl ?_
  refine s_getRv (pc' := 9) (v := .ref 1) dX3_wornOff_6 rfl flX3_43 (lyS hb) (by decide) rfl rfl ?_
  refine s_aload_n (pc' := 10) dX3_wornOff_9 rfl lg0 rfl ?_
  refine s_getIv (pc' := 13) (v := nI w) dX3_wornOff_10 rfl flX3_40 (lyS hb) (by decide) rfl hS1.2.2.2.1 ?_
  refine s_iconst (pc' := 14) dX3_wornOff_13 rfl iconst_0 ?_
  refine c_X5_valueOf (p := 0) (pc' := 17) dX3_wornOff_14 rfl lkX3_80 (by omega) (Nat.le_of_ble_eq_true rfl) hT1.1 hT1.2.2.1 hw (by decide) (hT1.2.2.2 w hw) (fun m2 h3 => ?_)
  have s2 : scr mem m2 := s1.tr (fun j _ h4 => h3 j h4)
  have hS2 := hS.scr hb s2
  rw [tv_cong h2]
  refine s_iconst (pc' := 18) dX3_wornOff_17 rfl iconst_0 ?_
  refine s_bipush (pc' := 20) dX3_wornOff_18 rfl bipush_99 ?_
  refine cN_X6_bounded (pc' := 23) dX3_wornOff_20 rfl (by decide) (by omega) (Nat.le_of_ble_eq_true rfl)  ?_
  refine s_istore_n (pc' := 24) dX3_wornOff_23 rfl (Nat.le_of_ble_eq_true rfl) rfl ls2 ?_
  refine s_aload_n (pc' := 25) dX3_wornOff_24 rfl lg0 rfl ?_
  refine s_iload_n (pc' := 26) dX3_wornOff_25 rfl lg1 ?_
  refine s_iload_n (pc' := 27) dX3_wornOff_26 rfl lg2 ?_
  refine c_X3_wornByKind (pc' := 30) dX3_wornOff_27 rfl lkX3_89 (by omega) (Nat.le_of_ble_eq_true rfl) hb hS2.1 hS2.2.1 hpn ?_
  refine s_iconst (pc' := 31) dX3_wornOff_30 rfl iconst_0 ?_
  refine s_bipush (pc' := 33) dX3_wornOff_31 rfl bipush_99 ?_
  refine cN_X6_bounded (pc' := 36) dX3_wornOff_33 rfl (by decide) (by omega) (Nat.le_of_ble_eq_true rfl)  ?_
  refine s_iret dX3_wornOff_36 rfl (vp_nar_int _) ?_
  obtain ⟨hn, h8, htd, hru, hσ⟩ := hS2
  obtain ⟨e0, e1, e2, e3, e4⟩ := hσ p hpn
  rw [e0, e2, htd, ct_cong (q := fun i => !decide (i = p) && decide (σ 3 i = σ 3 p)) (fun k hk => by rw [(hσ k hk).2.2.2.1, e3])]
  exact K m2 s2
theorem c_X3_wornOff {z : Zz} {d kc ks : Nat} {mi : MI} {pc pc' : Nat} {L S : List Value} {Q : Option Value → Lay → Mem → Prop} {rf : Nat → Value} {tl : Lay} {mem : Mem}  {b n p w nt : Nat} {σ : Nat → Nat → Int32} {td : Int32} {T : Nat → Nat → List Int32} {idx : Nat} (hd : decode mi.2.1 pc = .ok (.invokevirtual idx, 3)) (hp : pc + 3 = pc') (hlk : Cond.methodLink mi.1.cls idx yX3_wornOff ∈ wok) (hdd : 2 + 1 ≤ d) (hcat : (S.map (fun v => v.category)).sum ≤ 8) (hb : ISh b) (hS : isS b mem σ n td (nI w)) (hpn : p < n) (hT : isTT rf tl mem nt T) (hw : w < nt) (K : ∀ mem', scr mem mem' → Sim z d kc ks mi pc' L (.int (wears σ n td (T w) p) :: S) (LAY rf tl) mem' Q) : Sim z d kc ks mi pc L (.int (nI p) :: .ref b :: S) (LAY rf tl) mem Q :=
  s_invV (d2 := 2) hd hp okX3_wornOff hlk inX3_wornOff seX3_wornOff hdd (Nat.zero_add _) (Nat.zero_add _) rfl rfl (lyS hb) rfl hcat (Nat.le_of_ble_eq_true rfl) (m_X3_wornOff (Nat.le_refl _) hb hS hpn hT hw K)

