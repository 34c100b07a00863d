/-! ===== Reader: the reading ===== -/
def rdL (tp : Nat → Nat) (sz : Nat) (g : PS → PS) (lev : Nat) : Nat → PS → PS
  | 0, st => st
  | m + 1, st => if st.2.2 = -1 ∧ lvN st.1.2.2.1 = lev then rdL tp sz g lev m (putP (-1 - nI st.1.2.2.1) (g (goP tp sz st))) else st
theorem rdL_0 {tp : Nat → Nat} {sz : Nat} {g : PS → PS} {lev : Nat} {st : PS} : rdL tp sz g lev 0 st = st := rfl
theorem rdL_t {tp : Nat → Nat} {sz : Nat} {g : PS → PS} {lev m : Nat} {st : PS} (h : st.2.2 = -1 ∧ lvN st.1.2.2.1 = lev) : rdL tp sz g lev (m + 1) st = rdL tp sz g lev m (putP (-1 - nI st.1.2.2.1) (g (goP tp sz st))) := by rw [rdL, if_pos h]
theorem rdL_f {tp : Nat → Nat} {sz : Nat} {g : PS → PS} {lev m : Nat} {st : PS} (h : ¬ (st.2.2 = -1 ∧ lvN st.1.2.2.1 = lev)) : rdL tp sz g lev m st = st := by
  cases m with
  | zero => rfl
  | succ m => rw [rdL, if_neg h]
/-- one of three: 0 from a level, 1 a ONE, 2 behind a not or a minus -/
def rd (tp : Nat → Nat) (sz : Nat) : Nat → Nat → Nat → Nat → Nat → PS → PS
  | 0, _, _, _, _, st => st
  | D + 1, 0, lev, op, _, st => if st.2.2 = -1 then (if 5 ≤ lev then rd tp sz D 1 0 op 0 st else if lev = 2 ∧ st.1.2.2.1 = 11 then rd tp sz D 2 2 op 11 st else rdL tp sz (rd tp sz D 0 (lev + 1) op 0) lev (if lev = 2 then 1 else 160) (rd tp sz D 0 (lev + 1) op 0 st)) else st
  | D + 1, 1, _, op, _, st => if st.1.2.2.1 = 20 then goP tp sz (putP (nI st.1.2.2.2) st) else if st.1.2.2.1 < 6 then goP tp sz (putP (-1 - nI st.1.2.2.1) st) else if st.1.2.2.1 = 16 then rd tp sz D 2 5 op 23 st else if st.1.2.2.1 = 12 ∧ op < 5 then waP tp sz 13 (rd tp sz D 0 0 (op + 1) 0 (goP tp sz st)) else faP st
  | D + 1, _ + 2, lev, op, j, st => if op < 5 then putP (-1 - nI j) (rd tp sz D 0 lev (op + 1) 0 (goP tp sz st)) else faP st
theorem rd_F {tp : Nat → Nat} {sz D lev op j : Nat} {st : PS} : rd tp sz (D + 1) 0 lev op j st = if st.2.2 = -1 then (if 5 ≤ lev then rd tp sz D 1 0 op 0 st else if lev = 2 ∧ st.1.2.2.1 = 11 then rd tp sz D 2 2 op 11 st else rdL tp sz (rd tp sz D 0 (lev + 1) op 0) lev (if lev = 2 then 1 else 160) (rd tp sz D 0 (lev + 1) op 0 st)) else st := rfl
theorem rd_O {tp : Nat → Nat} {sz D lev op j : Nat} {st : PS} : rd tp sz (D + 1) 1 lev op j st = if st.1.2.2.1 = 20 then goP tp sz (putP (nI st.1.2.2.2) st) else if st.1.2.2.1 < 6 then goP tp sz (putP (-1 - nI st.1.2.2.1) st) else if st.1.2.2.1 = 16 then rd tp sz D 2 5 op 23 st else if st.1.2.2.1 = 12 ∧ op < 5 then waP tp sz 13 (rd tp sz D 0 0 (op + 1) 0 (goP tp sz st)) else faP st := rfl
theorem rd_B {tp : Nat → Nat} {sz D lev op j : Nat} {st : PS} : rd tp sz (D + 1) 2 lev op j st = if op < 5 then putP (-1 - nI j) (rd tp sz D 0 lev (op + 1) 0 (goP tp sz st)) else faP st := rfl
theorem fa_PS {mem : Mem} {tp : Nat → Nat} {sz : Nat} {st : PS} (h : isPS mem tp sz st) : isPS (am_up mem 7 2 (nI st.1.2.1)) tp sz (faP st) := by
  obtain ⟨⟨a1, a2, a3, a4, a5, a6, a7, a8, a9⟩, b1, b2, b3, b4⟩ := h
  refine ⟨⟨?_, ?_, ?_, ?_, ?_, ?_, ?_, ?_, ?_⟩, b1, b2, b3, b4⟩
  · rw [upE, udN (by decide)]; exact a1
  · rw [upE, udE]; rfl
  · rw [upE, udN (by decide)]; exact a3
  · rw [upE, udN (by decide)]; exact a4
  · rw [upE, udN (by decide)]; exact a5
  · rw [upE, udN (by decide)]; exact a6
  · intro h; rw [upE, udN (by decide)]; exact a7 h
  · intro i hi; rw [upN (by decide)]; exact a8 i hi
  · intro k hk; rw [upN (by decide)]; exact a9 k hk
def SF (z : Zz) (rf : Nat → Value) (tl : Lay) (tp : Nat → Nat) (sz D : Nat) : Prop := ∀ (lev op d : Nat) (st : PS) (mem : Mem) (Q : Option Value → Lay → Mem → Prop), 8 * (5 - op) + (5 - lev) + 3 ≤ D → lev ≤ 5 → op ≤ 5 → D + 7 ≤ d → isPS mem tp sz st → (∀ mem', isPS mem' tp sz (rd tp sz D 0 lev op 0 st) → rdf mem mem' → Q none (LAY rf tl) mem') → Sim z d 0 0 mX1_readsFrom 0 [.ref 7, .int (nI lev), .int (nI op), .float 0, .float 0, .float 0] [] (LAY rf tl) mem Q
def SO (z : Zz) (rf : Nat → Value) (tl : Lay) (tp : Nat → Nat) (sz D : Nat) : Prop := ∀ (op d : Nat) (st : PS) (mem : Mem) (Q : Option Value → Lay → Mem → Prop), 8 * (5 - op) + 2 ≤ D → op ≤ 5 → D + 7 ≤ d → isPS mem tp sz st → (∀ mem', isPS mem' tp sz (rd tp sz D 1 0 op 0 st) → rdf mem mem' → Q none (LAY rf tl) mem') → Sim z d 0 0 mX1_readsOne 0 [.ref 7, .int (nI op)] [] (LAY rf tl) mem Q
def SB (z : Zz) (rf : Nat → Value) (tl : Lay) (tp : Nat → Nat) (sz D : Nat) : Prop := ∀ (lev op j d : Nat) (st : PS) (mem : Mem) (Q : Option Value → Lay → Mem → Prop), 8 * (5 - op) + 1 ≤ D → lev ≤ 5 → op ≤ 5 → D + 7 ≤ d → isPS mem tp sz st → (∀ mem', isPS mem' tp sz (rd tp sz D 2 lev op j st) → rdf mem mem' → Q none (LAY rf tl) mem') → Sim z d 0 0 mX1_readsBehind 0 [.ref 7, .int (nI lev), .int (nI op), .int (nI j)] [] (LAY rf tl) mem Q
set_option maxHeartbeats 4000000 in
theorem sb_step {z : Zz} {rf : Nat → Value} {tl : Lay} {tp : Nat → Nat} {sz D : Nat} (hsz : sz ≤ 160) (h256 : ∀ i, i < sz → tp i < 256) (IF : SF z rf tl tp sz D) : SB z rf tl tp sz (D + 1) := by
  intro lev op j d st mem Q hD hlev hop hd hps K
  have hp := hps
  obtain ⟨⟨a1, a2, a3, a4, a5, a6, a7, a8, a9⟩, b1, b2, b3, b4⟩ := hp
  rw [rd_B] at K
  refine s_iload_n (pc' := 1) dX1_readsBehind_0 rfl lg2 ?_
  refine s_iconst (pc' := 2) dX1_readsBehind_1 rfl iconst_5 ?_
  rcases Nat.lt_or_ge op 5 with q | q
  · rw [if_pos q] at K
    refine s_icmp_lt (pc' := 5) (tgt := 14) dX1_readsBehind_2 rfl (by decide) (fun _ => ?_) (fun c9 => absurd (nI_lt (b := 5) q (by omega)) c9)
    refine s_aload_n (pc' := 15) dX1_readsBehind_14 rfl lg0 rfl ?_
    refine c_X1_goesOn  (pc' := 18) dX1_readsBehind_15 rfl lkX1_40 (by omega) (Nat.le_of_ble_eq_true rfl) b1 hsz a1 a4 a8 h256 (fun m1 h1 h2 h3 h4 h5 => ?_)
    obtain ⟨g1, g2⟩ := go_PS hps h1 h2 h3 h4 h5
    refine s_aload_n (pc' := 19) dX1_readsBehind_18 rfl lg0 rfl ?_
    refine s_iload_n (pc' := 20) dX1_readsBehind_19 rfl lg1 ?_
    refine s_iload_n (pc' := 21) dX1_readsBehind_20 rfl lg2 ?_
    refine s_iconst (pc' := 22) dX1_readsBehind_21 rfl iconst_1 ?_
    refine s_iadd (pc' := 23) dX1_readsBehind_22 rfl ?_
    rw [nI_1]
    refine s_invV (d2 := d - 1) (pc' := 26) dX1_readsBehind_23 rfl okX1_readsFrom lkX1_47 inX1_readsFrom seX1_readsFrom (by omega) (Nat.zero_add _) (Nat.zero_add _) rfl rfl ly7 rfl (Nat.le_of_ble_eq_true rfl) (Nat.le_of_ble_eq_true rfl) (IF lev (op + 1) (d - 1) _ m1 _ (by omega) hlev (by omega) (by omega) g1 (fun m2 g3 g4 => ?_))
    refine s_aload_n (pc' := 27) dX1_readsBehind_26 rfl lg0 rfl ?_
    refine s_iconst (pc' := 28) dX1_readsBehind_27 rfl iconst_m1 ?_
    refine s_iload_n (pc' := 29) dX1_readsBehind_28 rfl lg3 ?_
    refine s_isub (pc' := 30) dX1_readsBehind_29 rfl ?_
    refine c_X1_puts  (pc' := 33) dX1_readsBehind_30 rfl lkX1_73 (by omega) (Nat.le_of_ble_eq_true rfl) g3 (fun m3 g5 g6 => ?_)
    refine s_vret dX1_readsBehind_33 rfl ?_
    exact K m3 g5 ((g2.tr g4).tr g6)
  · rw [if_neg (by omega)] at K
    refine s_icmp_lt (pc' := 5) (tgt := 14) dX1_readsBehind_2 rfl (by decide) (fun c9 => absurd c9 (nI_nlt (b := 5) q (by omega))) (fun _ => ?_)
    refine s_aload_n (pc' := 6) dX1_readsBehind_5 rfl lg0 rfl ?_
    refine s_aload_n (pc' := 7) dX1_readsBehind_6 rfl lg0 rfl ?_
    refine s_getIv (pc' := 10) (v := nI st.1.2.1) dX1_readsBehind_7 rfl flX1_31 ly7 (by decide) rfl a5 ?_
    refine s_putI (pc' := 13) (ty := .int) dX1_readsBehind_10 rfl flX1_19 fw1_2 pdI rfl rfl ly7 (by decide) rfl ?_
    refine s_vret dX1_readsBehind_13 rfl ?_
    exact K _ (fa_PS hps) (fun j q1 _ => upN q1)
set_option maxHeartbeats 4000000 in
theorem so_step {z : Zz} {rf : Nat → Value} {tl : Lay} {tp : Nat → Nat} {sz D : Nat} (hsz : sz ≤ 160) (h256 : ∀ i, i < sz → tp i < 256) (IF : SF z rf tl tp sz D) (IB : SB z rf tl tp sz D) : SO z rf tl tp sz (D + 1) := by
  intro op d st mem Q hD hop hd hps K
  have hp := hps
  obtain ⟨⟨a1, a2, a3, a4, a5, a6, a7, a8, a9⟩, b1, b2, b3, b4⟩ := hp
  have e20 : (nI st.1.2.2.1 = 20) = (st.1.2.2.1 = 20) := nI_eqL (c := 20) (by omega) (by omega)
  have e6 : (6 ≤ nI st.1.2.2.1) = (6 ≤ st.1.2.2.1) := propext (nI_leI (a := 6) (by omega) (by omega))
  have e16 : (nI st.1.2.2.1 = 16) = (st.1.2.2.1 = 16) := nI_eqL (c := 16) (by omega) (by omega)
  have e12 : (nI st.1.2.2.1 = 12) = (st.1.2.2.1 = 12) := nI_eqL (c := 12) (by omega) (by omega)
  rw [rd_O] at K
  have bad : (∀ mem', isPS mem' tp sz (faP st) → rdf mem mem' → Q none (LAY rf tl) mem') → Sim z d 0 0 mX1_readsOne 105 [.ref 7, .int (nI op)] [] (LAY rf tl) mem Q := by
    intro K
    refine s_aload_n (pc' := 106) dX1_readsOne_105 rfl lg0 rfl ?_
    refine s_aload_n (pc' := 107) dX1_readsOne_106 rfl lg0 rfl ?_
    refine s_getIv (pc' := 110) (v := nI st.1.2.1) dX1_readsOne_107 rfl flX1_31 ly7 (by decide) rfl a5 ?_
    refine s_putI (pc' := 113) (ty := .int) dX1_readsOne_110 rfl flX1_19 fw1_2 pdI rfl rfl ly7 (by decide) rfl ?_
    refine s_vret dX1_readsOne_113 rfl ?_
    exact K _ (fa_PS hps) (fun j q1 _ => upN q1)
  refine s_aload_n (pc' := 1) dX1_readsOne_0 rfl lg0 rfl ?_
  refine s_getIv (pc' := 4) (v := nI st.1.2.2.1) dX1_readsOne_1 rfl flX1_34 ly7 (by decide) rfl a6 ?_
  refine s_bipush (pc' := 6) dX1_readsOne_4 rfl bipush_20 ?_
  refine s_icmp_ne (pc' := 9) (tgt := 24) dX1_readsOne_6 rfl (by decide) (fun c1 => ?_) (fun c1 => ?_)
  · skip
    rw [e20] at c1
    rw [if_neg c1] at K
    refine s_aload_n (pc' := 25) dX1_readsOne_24 rfl lg0 rfl ?_
    refine s_getIv (pc' := 28) (v := nI st.1.2.2.1) dX1_readsOne_25 rfl flX1_34 ly7 (by decide) rfl a6 ?_
    refine s_bipush (pc' := 30) dX1_readsOne_28 rfl bipush_6 ?_
    refine s_icmp_ge (pc' := 33) (tgt := 50) dX1_readsOne_30 rfl (by decide) (fun c2 => ?_) (fun c2 => ?_)
    · skip
      rw [e6] at c2
      rw [if_neg (by omega)] at K
      refine s_aload_n (pc' := 51) dX1_readsOne_50 rfl lg0 rfl ?_
      refine s_getIv (pc' := 54) (v := nI st.1.2.2.1) dX1_readsOne_51 rfl flX1_34 ly7 (by decide) rfl a6 ?_
      refine s_bipush (pc' := 56) dX1_readsOne_54 rfl bipush_16 ?_
      refine s_icmp_ne (pc' := 59) (tgt := 70) dX1_readsOne_56 rfl (by decide) (fun c3 => ?_) (fun c3 => ?_)
      · skip
        rw [e16] at c3
        rw [if_neg c3] at K
        refine s_aload_n (pc' := 71) dX1_readsOne_70 rfl lg0 rfl ?_
        refine s_getIv (pc' := 74) (v := nI st.1.2.2.1) dX1_readsOne_71 rfl flX1_34 ly7 (by decide) rfl a6 ?_
        refine s_bipush (pc' := 76) dX1_readsOne_74 rfl bipush_12 ?_
        refine s_icmp_ne (pc' := 79) (tgt := 105) dX1_readsOne_76 rfl (by decide) (fun c4 => ?_) (fun c4 => ?_)
        · rw [e12] at c4
          rw [if_neg (fun q => c4 q.1)] at K
          exact bad K
        · skip
          rw [e12] at c4
          refine s_iload_n (pc' := 80) dX1_readsOne_79 rfl lg1 ?_
          refine s_iconst (pc' := 81) dX1_readsOne_80 rfl iconst_5 ?_
          rcases Nat.lt_or_ge op 5 with q | q
          · rw [if_pos ⟨c4, q⟩] at K
            refine s_icmp_ge (pc' := 84) (tgt := 105) dX1_readsOne_81 rfl (by decide) (fun c9 => absurd c9 (nI_ge (b := 5) q (by omega))) (fun _ => ?_)
            refine s_aload_n (pc' := 85) dX1_readsOne_84 rfl lg0 rfl ?_
            refine c_X1_goesOn  (pc' := 88) dX1_readsOne_85 rfl lkX1_40 (by omega) (Nat.le_of_ble_eq_true rfl) b1 hsz a1 a4 a8 h256 (fun m1 h1 h2 h3 h4 h5 => ?_)
            obtain ⟨g1, g2⟩ := go_PS hps h1 h2 h3 h4 h5
            refine s_aload_n (pc' := 89) dX1_readsOne_88 rfl lg0 rfl ?_
            refine s_iconst (pc' := 90) dX1_readsOne_89 rfl iconst_0 ?_
            refine s_iload_n (pc' := 91) dX1_readsOne_90 rfl lg1 ?_
            refine s_iconst (pc' := 92) dX1_readsOne_91 rfl iconst_1 ?_
            refine s_iadd (pc' := 93) dX1_readsOne_92 rfl ?_
            rw [nI_1]
            refine s_invV (d2 := d - 1) (pc' := 96) dX1_readsOne_93 rfl okX1_readsFrom lkX1_47 inX1_readsFrom seX1_readsFrom (by omega) (Nat.zero_add _) (Nat.zero_add _) rfl rfl ly7 rfl (Nat.le_of_ble_eq_true rfl) (Nat.le_of_ble_eq_true rfl) (IF 0 (op + 1) (d - 1) _ m1 _ (by omega) (by omega) (by omega) (by omega) g1 (fun m2 g3 g4 => ?_))
            refine s_aload_n (pc' := 97) dX1_readsOne_96 rfl lg0 rfl ?_
            refine s_bipush (pc' := 99) dX1_readsOne_97 rfl bipush_13 ?_
            refine c_X1_wants (due := 13) (pc' := 102) dX1_readsOne_99 rfl lkX1_43 (by omega) (Nat.le_of_ble_eq_true rfl) g3 hsz h256 (by decide) (fun m3 g5 g6 => ?_)
            refine s_goto (tgt := 113) dX1_readsOne_102 (by decide) ?_
            refine s_vret dX1_readsOne_113 rfl ?_
            exact K m3 g5 ((g2.tr g4).tr g6)
          · rw [if_neg (fun h => absurd h.2 (by omega))] at K
            refine s_icmp_ge (pc' := 84) (tgt := 105) dX1_readsOne_81 rfl (by decide) (fun _ => ?_) (fun c9 => absurd (nI_le (a := 5) q (by omega)) c9)
            exact bad K
      · skip
        rw [e16] at c3
        rw [if_pos c3] at K
        refine s_aload_n (pc' := 60) dX1_readsOne_59 rfl lg0 rfl ?_
        refine s_iconst (pc' := 61) dX1_readsOne_60 rfl iconst_5 ?_
        refine s_iload_n (pc' := 62) dX1_readsOne_61 rfl lg1 ?_
        refine s_bipush (pc' := 64) dX1_readsOne_62 rfl bipush_23 ?_
        refine s_invV (d2 := d - 1) (pc' := 67) dX1_readsOne_64 rfl okX1_readsBehind lkX1_65 inX1_readsBehind seX1_readsBehind (by omega) (Nat.zero_add _) (Nat.zero_add _) rfl rfl ly7 rfl (Nat.le_of_ble_eq_true rfl) (Nat.le_of_ble_eq_true rfl) (IB 5 op 23 (d - 1) st mem _ (by omega) (by omega) hop (by omega) hps (fun m2 g3 g4 => ?_))
        refine s_goto (tgt := 113) dX1_readsOne_67 (by decide) ?_
        refine s_vret dX1_readsOne_113 rfl ?_
        exact K m2 g3 g4
    · skip
      rw [e6] at c2
      rw [if_pos (by omega)] at K
      refine s_aload_n (pc' := 34) dX1_readsOne_33 rfl lg0 rfl ?_
      refine s_iconst (pc' := 35) dX1_readsOne_34 rfl iconst_m1 ?_
      refine s_aload_n (pc' := 36) dX1_readsOne_35 rfl lg0 rfl ?_
      refine s_getIv (pc' := 39) (v := nI st.1.2.2.1) dX1_readsOne_36 rfl flX1_34 ly7 (by decide) rfl a6 ?_
      refine s_isub (pc' := 40) dX1_readsOne_39 rfl ?_
      refine c_X1_puts  (pc' := 43) dX1_readsOne_40 rfl lkX1_73 (by omega) (Nat.le_of_ble_eq_true rfl) hps (fun m1 g1 g2 => ?_)
      have g1' := g1
      obtain ⟨⟨x1, x2, x3, x4, x5, x6, x7, x8, x9⟩, y1, y2, y3, y4⟩ := g1'
      refine s_aload_n (pc' := 44) dX1_readsOne_43 rfl lg0 rfl ?_
      refine c_X1_goesOn  (pc' := 47) dX1_readsOne_44 rfl lkX1_40 (by omega) (Nat.le_of_ble_eq_true rfl) y1 hsz x1 x4 x8 h256 (fun m2 h1 h2 h3 h4 h5 => ?_)
      obtain ⟨g3, g4⟩ := go_PS g1 h1 h2 h3 h4 h5
      refine s_goto (tgt := 113) dX1_readsOne_47 (by decide) ?_
      refine s_vret dX1_readsOne_113 rfl ?_
      exact K m2 g3 (g2.tr g4)
  · skip
    rw [e20] at c1
    rw [if_pos c1] at K
    refine s_aload_n (pc' := 10) dX1_readsOne_9 rfl lg0 rfl ?_
    refine s_aload_n (pc' := 11) dX1_readsOne_10 rfl lg0 rfl ?_
    refine s_getIv (pc' := 14) (v := nI st.1.2.2.2) dX1_readsOne_11 rfl flX1_37 ly7 (by decide) rfl (a7 c1) ?_
    refine c_X1_puts  (pc' := 17) dX1_readsOne_14 rfl lkX1_73 (by omega) (Nat.le_of_ble_eq_true rfl) hps (fun m1 g1 g2 => ?_)
    have g1' := g1
    obtain ⟨⟨x1, x2, x3, x4, x5, x6, x7, x8, x9⟩, y1, y2, y3, y4⟩ := g1'
    refine s_aload_n (pc' := 18) dX1_readsOne_17 rfl lg0 rfl ?_
    refine c_X1_goesOn  (pc' := 21) dX1_readsOne_18 rfl lkX1_40 (by omega) (Nat.le_of_ble_eq_true rfl) y1 hsz x1 x4 x8 h256 (fun m2 h1 h2 h3 h4 h5 => ?_)
    obtain ⟨g3, g4⟩ := go_PS g1 h1 h2 h3 h4 h5
    refine s_goto (tgt := 113) dX1_readsOne_21 (by decide) ?_
    refine s_vret dX1_readsOne_113 rfl ?_
    exact K m2 g3 (g2.tr g4)
set_option maxHeartbeats 4000000 in
theorem sf_step {z : Zz} {rf : Nat → Value} {tl : Lay} {tp : Nat → Nat} {sz D : Nat} (hsz : sz ≤ 160) (h256 : ∀ i, i < sz → tp i < 256) (IF : SF z rf tl tp sz D) (IO : SO z rf tl tp sz D) (IB : SB z rf tl tp sz D) : SF z rf tl tp sz (D + 1) := by
  intro lev op d st mem Q hD hlev hop hd hps K
  have hp := hps
  obtain ⟨⟨a1, a2, a3, a4, a5, a6, a7, a8, a9⟩, b1, b2, b3, b4⟩ := hp
  have e11 : (nI st.1.2.2.1 = 11) = (st.1.2.2.1 = 11) := nI_eqL (c := 11) (by omega) (by omega)
  have el2 : (nI lev = 2) = (lev = 2) := nI_eqL (c := 2) (by omega) (by omega)
  rw [rd_F] at K
  have tail : lev < 5 → (∀ mem', isPS mem' tp sz (rdL tp sz (rd tp sz D 0 (lev + 1) op 0) lev (if lev = 2 then 1 else 160) (rd tp sz D 0 (lev + 1) op 0 st)) → rdf mem mem' → Q none (LAY rf tl) mem') → Sim z d 0 0 mX1_readsFrom 43 [.ref 7, .int (nI lev), .int (nI op), .float 0, .float 0, .float 0] [] (LAY rf tl) mem Q := by
    intro h5 K
    refine s_aload_n (pc' := 44) dX1_readsFrom_43 rfl lg0 rfl ?_
    refine s_iload_n (pc' := 45) dX1_readsFrom_44 rfl lg1 ?_
    refine s_iconst (pc' := 46) dX1_readsFrom_45 rfl iconst_1 ?_
    refine s_iadd (pc' := 47) dX1_readsFrom_46 rfl ?_
    refine s_iload_n (pc' := 48) dX1_readsFrom_47 rfl lg2 ?_
    rw [nI_1]
    refine s_invV (d2 := d - 1) (pc' := 51) dX1_readsFrom_48 rfl okX1_readsFrom lkX1_47 inX1_readsFrom seX1_readsFrom (by omega) (Nat.zero_add _) (Nat.zero_add _) rfl rfl ly7 rfl (Nat.le_of_ble_eq_true rfl) (Nat.le_of_ble_eq_true rfl) (IF (lev + 1) op (d - 1) st mem _ (by omega) (by omega) hop (by omega) hps (fun m1 g1 g2 => ?_))
    generalize hg : rd tp sz D 0 (lev + 1) op 0 = g at K g1
    have loop : ∀ (mo : Nat), mo ≤ 160 → ∀ (k i : Nat) (x : Value) (s2 : PS) (m : Mem), i + k = mo → isPS m tp sz s2 → rdf mem m → (∀ mem', isPS mem' tp sz (rdL tp sz g lev k s2) → rdf mem mem' → Q none (LAY rf tl) mem') → Sim z d 0 0 mX1_readsFrom 67 [.ref 7, .int (nI lev), .int (nI op), .int (nI mo), .int (nI i), x] [] (LAY rf tl) m Q := by
      intro mo hmo k
      induction k with
      | zero =>
        intro i x s2 m hi q1 q2 K
        rw [rdL_0] at K
        refine s_iload (pc' := 69) dX1_readsFrom_67 rfl lg4 ?_
        refine s_iload_n (pc' := 70) dX1_readsFrom_69 rfl lg3 ?_
        refine s_icmp_ge (pc' := 73) (tgt := 124) dX1_readsFrom_70 rfl (by decide) (fun _ => ?_) (fun c9 => absurd (nI_le (by omega) (by omega)) c9)
        refine s_vret dX1_readsFrom_124 rfl ?_
        exact K m q1 q2
      | succ k ih =>
        intro i x s2 m hi q1 q2 K
        have q1' := q1
        obtain ⟨⟨x1, x2, x3, x4, x5, x6, x7, x8, x9⟩, y1, y2, y3, y4⟩ := q1'
        refine s_iload (pc' := 69) dX1_readsFrom_67 rfl lg4 ?_
        refine s_iload_n (pc' := 70) dX1_readsFrom_69 rfl lg3 ?_
        refine s_icmp_ge (pc' := 73) (tgt := 124) dX1_readsFrom_70 rfl (by decide) (fun c9 => absurd c9 (nI_ge (by omega) (by omega))) (fun _ => ?_)
        refine s_aload_n (pc' := 74) dX1_readsFrom_73 rfl lg0 rfl ?_
        refine s_getIv (pc' := 77) (v := s2.2.2) dX1_readsFrom_74 rfl flX1_19 ly7 (by decide) rfl x2 ?_
        refine s_iconst (pc' := 78) dX1_readsFrom_77 rfl iconst_m1 ?_
        refine s_icmp_ne (pc' := 81) (tgt := 124) dX1_readsFrom_78 rfl (by decide) (fun c1 => ?_) (fun c1 => ?_)
        · skip
          rw [rdL_f (fun h => c1 h.1)] at K
          refine s_vret dX1_readsFrom_124 rfl ?_
          exact K m q1 q2
        · skip
          refine s_aload_n (pc' := 82) dX1_readsFrom_81 rfl lg0 rfl ?_
          refine s_getIv (pc' := 85) (v := nI s2.1.2.2.1) dX1_readsFrom_82 rfl flX1_34 ly7 (by decide) rfl x6 ?_
          refine c_X1_levelJoinedBy  (pc' := 88) dX1_readsFrom_85 rfl lkX1_69 (by omega) (Nat.le_of_ble_eq_true rfl) ?_
          refine s_iload_n (pc' := 89) dX1_readsFrom_88 rfl lg1 ?_
          refine s_icmp_ne (pc' := 92) (tgt := 124) dX1_readsFrom_89 rfl (by decide) (fun c2 => ?_) (fun c2 => ?_)
          · skip
            rw [lv_eq (by omega) (by omega)] at c2
            rw [rdL_f (fun h => c2 h.2)] at K
            refine s_vret dX1_readsFrom_124 rfl ?_
            exact K m q1 q2
          · skip
            rw [lv_eq (by omega) (by omega)] at c2
            rw [rdL_t ⟨c1, c2⟩] at K
            refine s_aload_n (pc' := 93) dX1_readsFrom_92 rfl lg0 rfl ?_
            refine s_getIv (pc' := 96) (v := nI s2.1.2.2.1) dX1_readsFrom_93 rfl flX1_34 ly7 (by decide) rfl x6 ?_
            refine s_istore (pc' := 98) dX1_readsFrom_96 rfl (Nat.le_of_ble_eq_true rfl) rfl ls5 ?_
            refine s_aload_n (pc' := 99) dX1_readsFrom_98 rfl lg0 rfl ?_
            refine c_X1_goesOn  (pc' := 102) dX1_readsFrom_99 rfl lkX1_40 (by omega) (Nat.le_of_ble_eq_true rfl) y1 hsz x1 x4 x8 h256 (fun m1 h1 h2 h3 h4 h5 => ?_)
            obtain ⟨g3, g4⟩ := go_PS q1 h1 h2 h3 h4 h5
            refine s_aload_n (pc' := 103) dX1_readsFrom_102 rfl lg0 rfl ?_
            refine s_iload_n (pc' := 104) dX1_readsFrom_103 rfl lg1 ?_
            refine s_iconst (pc' := 105) dX1_readsFrom_104 rfl iconst_1 ?_
            refine s_iadd (pc' := 106) dX1_readsFrom_105 rfl ?_
            refine s_iload_n (pc' := 107) dX1_readsFrom_106 rfl lg2 ?_
            rw [nI_1]
            refine s_invV (d2 := d - 1) (pc' := 110) dX1_readsFrom_107 rfl okX1_readsFrom lkX1_47 inX1_readsFrom seX1_readsFrom (by omega) (Nat.zero_add _) (Nat.zero_add _) rfl rfl ly7 rfl (Nat.le_of_ble_eq_true rfl) (Nat.le_of_ble_eq_true rfl) (IF (lev + 1) op (d - 1) _ m1 _ (by omega) (by omega) hop (by omega) g3 (fun m2 g5 g6 => ?_))
            rw [hg] at g5
            refine s_aload_n (pc' := 111) dX1_readsFrom_110 rfl lg0 rfl ?_
            refine s_iconst (pc' := 112) dX1_readsFrom_111 rfl iconst_m1 ?_
            refine s_iload (pc' := 114) dX1_readsFrom_112 rfl lg5 ?_
            refine s_isub (pc' := 115) dX1_readsFrom_114 rfl ?_
            refine c_X1_puts  (pc' := 118) dX1_readsFrom_115 rfl lkX1_73 (by omega) (Nat.le_of_ble_eq_true rfl) g5 (fun m3 g7 g8 => ?_)
            refine s_iincN (pc' := 121) dX1_readsFrom_118 rfl lg4 rfl ls4 ?_
            refine s_goto (tgt := 67) dX1_readsFrom_121 (by decide) ?_
            exact ih (i + 1) _ _ m3 (by omega) g7 (((q2.tr g4).tr g6).tr g8) K
    refine s_iload_n (pc' := 52) dX1_readsFrom_51 rfl lg1 ?_
    refine s_iconst (pc' := 53) dX1_readsFrom_52 rfl iconst_2 ?_
    refine s_icmp_ne (pc' := 56) (tgt := 60) dX1_readsFrom_53 rfl (by decide) (fun c3 => ?_) (fun c3 => ?_)
    · skip
      rw [el2] at c3
      rw [if_neg c3] at K
      refine s_sipush (pc' := 63) dX1_readsFrom_60 rfl sipush_160 ?_
      refine s_istore_n (pc' := 64) dX1_readsFrom_63 rfl (Nat.le_of_ble_eq_true rfl) rfl ls3 ?_
      refine s_iconst (pc' := 65) dX1_readsFrom_64 rfl iconst_0 ?_
      refine s_istore (pc' := 67) dX1_readsFrom_65 rfl (Nat.le_of_ble_eq_true rfl) rfl ls4 ?_
      exact loop 160 (by omega) 160 0 _ _ m1 (by omega) g1 g2 K
    · skip
      rw [el2] at c3
      rw [if_pos c3] at K
      refine s_iconst (pc' := 57) dX1_readsFrom_56 rfl iconst_1 ?_
      refine s_goto (tgt := 63) dX1_readsFrom_57 (by decide) ?_
      refine s_istore_n (pc' := 64) dX1_readsFrom_63 rfl (Nat.le_of_ble_eq_true rfl) rfl ls3 ?_
      refine s_iconst (pc' := 65) dX1_readsFrom_64 rfl iconst_0 ?_
      refine s_istore (pc' := 67) dX1_readsFrom_65 rfl (Nat.le_of_ble_eq_true rfl) rfl ls4 ?_
      exact loop 1 (by omega) 1 0 _ _ m1 (by omega) g1 g2 K
  refine s_aload_n (pc' := 1) dX1_readsFrom_0 rfl lg0 rfl ?_
  refine s_getIv (pc' := 4) (v := st.2.2) dX1_readsFrom_1 rfl flX1_19 ly7 (by decide) rfl a2 ?_
  refine s_iconst (pc' := 5) dX1_readsFrom_4 rfl iconst_m1 ?_
  refine s_icmp_eq (pc' := 8) (tgt := 9) dX1_readsFrom_5 rfl (by decide) (fun c1 => ?_) (fun c1 => ?_)
  · skip
    rw [if_pos c1] at K
    refine s_iload_n (pc' := 10) dX1_readsFrom_9 rfl lg1 ?_
    refine s_iconst (pc' := 11) dX1_readsFrom_10 rfl iconst_5 ?_
    rcases Nat.lt_or_ge lev 5 with q | q
    · rw [if_neg (by omega)] at K
      refine s_icmp_lt (pc' := 14) (tgt := 20) dX1_readsFrom_11 rfl (by decide) (fun _ => ?_) (fun c9 => absurd (nI_lt (b := 5) q (by omega)) c9)
      refine s_iload_n (pc' := 21) dX1_readsFrom_20 rfl lg1 ?_
      refine s_iconst (pc' := 22) dX1_readsFrom_21 rfl iconst_2 ?_
      refine s_icmp_ne (pc' := 25) (tgt := 43) dX1_readsFrom_22 rfl (by decide) (fun c2 => ?_) (fun c2 => ?_)
      · rw [el2] at c2
        rw [if_neg (fun h => c2 h.1)] at K
        exact tail q K
      · skip
        rw [el2] at c2
        refine s_aload_n (pc' := 26) dX1_readsFrom_25 rfl lg0 rfl ?_
        refine s_getIv (pc' := 29) (v := nI st.1.2.2.1) dX1_readsFrom_26 rfl flX1_34 ly7 (by decide) rfl a6 ?_
        refine s_bipush (pc' := 31) dX1_readsFrom_29 rfl bipush_11 ?_
        refine s_icmp_ne (pc' := 34) (tgt := 43) dX1_readsFrom_31 rfl (by decide) (fun c3 => ?_) (fun c3 => ?_)
        · rw [e11] at c3
          rw [if_neg (fun h => c3 h.2)] at K
          exact tail q K
        · skip
          rw [e11] at c3
          rw [if_pos ⟨c2, c3⟩] at K
          refine s_aload_n (pc' := 35) dX1_readsFrom_34 rfl lg0 rfl ?_
          refine s_iconst (pc' := 36) dX1_readsFrom_35 rfl iconst_2 ?_
          refine s_iload_n (pc' := 37) dX1_readsFrom_36 rfl lg2 ?_
          refine s_bipush (pc' := 39) dX1_readsFrom_37 rfl bipush_11 ?_
          refine s_invV (d2 := d - 1) (pc' := 42) dX1_readsFrom_39 rfl okX1_readsBehind lkX1_65 inX1_readsBehind seX1_readsBehind (by omega) (Nat.zero_add _) (Nat.zero_add _) rfl rfl ly7 rfl (Nat.le_of_ble_eq_true rfl) (Nat.le_of_ble_eq_true rfl) (IB 2 op 11 (d - 1) st mem _ (by omega) (by omega) hop (by omega) hps (fun m2 g3 g4 => ?_))
          refine s_vret dX1_readsFrom_42 rfl ?_
          exact K m2 g3 g4
    · rw [if_pos q] at K
      refine s_icmp_lt (pc' := 14) (tgt := 20) dX1_readsFrom_11 rfl (by decide) (fun c9 => absurd c9 (nI_nlt (b := 5) q (by omega))) (fun _ => ?_)
      refine s_aload_n (pc' := 15) dX1_readsFrom_14 rfl lg0 rfl ?_
      refine s_iload_n (pc' := 16) dX1_readsFrom_15 rfl lg2 ?_
      refine s_invV (d2 := d - 1) (pc' := 19) dX1_readsFrom_16 rfl okX1_readsOne lkX1_62 inX1_readsOne seX1_readsOne (by omega) (Nat.zero_add _) (Nat.zero_add _) rfl rfl ly7 rfl (Nat.le_of_ble_eq_true rfl) (Nat.le_of_ble_eq_true rfl) (IO op (d - 1) st mem _ (by omega) hop (by omega) hps (fun m2 g3 g4 => ?_))
      refine s_vret dX1_readsFrom_19 rfl ?_
      exact K m2 g3 g4
  · skip
    rw [if_neg c1] at K
    refine s_vret dX1_readsFrom_8 rfl ?_
    exact K mem hps rdf.rf
theorem rd_all {z : Zz} {rf : Nat → Value} {tl : Lay} {tp : Nat → Nat} {sz : Nat} (hsz : sz ≤ 160) (h256 : ∀ i, i < sz → tp i < 256) : ∀ D, SF z rf tl tp sz D ∧ SO z rf tl tp sz D ∧ SB z rf tl tp sz D
  | 0 => ⟨fun _ _ _ _ _ _ h => absurd h (by omega), fun _ _ _ _ _ h => absurd h (by omega), fun _ _ _ _ _ _ _ h => absurd h (by omega)⟩
  | D + 1 => by
    obtain ⟨h1, h2, h3⟩ := rd_all hsz h256 D
    exact ⟨sf_step hsz h256 h1 h2 h3, so_step hsz h256 h1 h3, sb_step hsz h256 h1⟩

