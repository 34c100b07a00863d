/-! ===== adds, text ===== -/
set_option maxHeartbeats 4000000 in
theorem m_X5_adds {z : Zz} {d : Nat} {Q : Option Value → Lay → Mem → Prop} {rf : Nat → Value} {tl : Lay} {mem : Mem} {nt t : Nat} {rt : Nat → Value} (hnt : mem 1 3 = nI nt) (h6 : nt < 6) (hTT : (LAY rf tl)[t]? = some (4, 3, rt)) (K : Q (some (.int (nI nt))) (LAY (va_up rf nt (.ref t)) tl) (am_up mem 1 3 (nI (nt + 1)))) : Sim z d 0 0 mX5_adds 0 [.ref 1, .ref t] [] (LAY rf tl) mem Q := by
  refine s_aload_n (pc' := 1) dX5_adds_0 rfl lg0 rfl ?_
  refine s_getIv (pc' := 4) (v := nI nt) dX5_adds_1 rfl flX5_24 ly1 (by decide) rfl hnt ?_
  refine s_bipush (pc' := 6) dX5_adds_4 rfl bipush_6 ?_
  refine s_icmp_lt (pc' := 9) (tgt := 12) dX5_adds_6 rfl (by decide) (fun _ => ?_) (fun c9 => absurd (nI_lt (b := 6) h6 (by omega)) c9)
  refine s_aload_n (pc' := 13) dX5_adds_12 rfl lg0 rfl ?_
  refine s_getRv (pc' := 16) (v := .ref 2) dX5_adds_13 rfl flX5_11 ly1 (by decide) rfl rfl ?_
  refine s_aload_n (pc' := 17) dX5_adds_16 rfl lg0 rfl ?_
  refine s_getIv (pc' := 20) (v := nI nt) dX5_adds_17 rfl flX5_24 ly1 (by decide) rfl hnt ?_
  refine s_aload_n (pc' := 21) dX5_adds_20 rfl lg1 rfl ?_
  refine s_aast (pc' := 22) dX5_adds_21 rfl ly2 (by decide) (am_in h6 (by decide)) hTT rfl rfl ?_
  rw [nI_clamp (by omega), show (LAY rf tl).set 2 (13, 6, va_up rf nt (.ref t)) = LAY (va_up rf nt (.ref t)) tl from rfl]
  refine s_aload_n (pc' := 23) dX5_adds_22 rfl lg0 rfl ?_
  refine s_dup (pc' := 24) dX5_adds_23 rfl rfl ?_
  refine s_getIv (pc' := 27) (v := nI nt) dX5_adds_24 rfl flX5_24 ly1 (by decide) rfl hnt ?_
  refine s_iconst (pc' := 28) dX5_adds_27 rfl iconst_1 ?_
  refine s_iadd (pc' := 29) dX5_adds_28 rfl ?_
  rw [nI_1]
  refine s_putI (pc' := 32) (ty := .int) dX5_adds_29 rfl flX5_24 fw5_3 pdI rfl rfl ly1 (by decide) rfl ?_
  refine s_aload_n (pc' := 33) dX5_adds_32 rfl lg0 rfl ?_
  refine s_getIv (pc' := 36) (v := nI (nt + 1)) dX5_adds_33 rfl flX5_24 ly1 (by decide) rfl (by rw [upE, udE]) ?_
  refine s_iconst (pc' := 37) dX5_adds_36 rfl iconst_1 ?_
  refine s_isub (pc' := 38) dX5_adds_37 rfl ?_
  rw [nI_pred]
  refine s_iret dX5_adds_38 rfl (vp_nar_int _) ?_
  exact K
set_option maxHeartbeats 4000000 in
theorem m_X6_text {z : Zz} {d : Nat} {Q : Option Value → Lay → Mem → Prop} {rf : Nat → Value} {tl : Lay} {mem : Mem} {tp : Nat → Nat} {sz nt : Nat} {T : Nat → Nat → List Int32} (hdd : 58 ≤ d) (hsz : sz ≤ 160) (hT : isTT rf tl mem nt T) (h1 : mem 7 1 = nI sz) (ht : ∀ i, i < sz → mem 8 i = nI (tp i)) (h256 : ∀ i, i < sz → tp i < 256)
    (K0 : nt = 6 → Q (some (.int (-4))) (LAY rf tl) mem)
    (K1 : nt < 6 → ¬ (rs4 tp sz).2.2 = -1 → ∀ mem', mem' 7 1 = nI 0 → rdf mem mem' → Q (some (.int (-100 - (rs4 tp sz).2.2))) (LAY rf tl) mem')
    (K2 : nt < 6 → (rs4 tp sz).2.2 = -1 → ∀ rf' tl' mem', mem' 7 1 = nI 0 → (∀ j, j ≠ 1 → j ≠ 7 → j ≠ 9 → j < 67 → mem' j = mem j) → isTT rf' tl' mem' (nt + 1) (fun w => if w = nt then txP tp sz else T w) → tl'.length = tl.length + 2 → Q (some (.int (nI nt))) (LAY rf' tl') mem') : Sim z d 2 163 mX6_text 0 [.ref 0, .float 0] [] (LAY rf tl) mem Q := by
  obtain ⟨hnt, hn1, hn6, hTx⟩ := hT
  refine s_aload_n (pc' := 1) dX6_text_0 rfl lg0 rfl ?_
  refine s_getRv (pc' := 4) (v := .ref 1) dX6_text_1 rfl flX6_10 ly0 (by decide) rfl rfl ?_
  refine s_getIv (pc' := 7) (v := nI nt) dX6_text_4 rfl flX6_99 ly1 (by decide) rfl hnt ?_
  refine s_bipush (pc' := 9) dX6_text_7 rfl bipush_6 ?_
  rcases Nat.lt_or_ge nt 6 with q6 | q6
  · refine s_icmp_lt (pc' := 12) (tgt := 15) dX6_text_9 rfl (by decide) (fun _ => ?_) (fun c9 => absurd (nI_lt (b := 6) q6 (by omega)) c9)
    refine s_aload_n (pc' := 16) dX6_text_15 rfl lg0 rfl ?_
    refine s_getRv (pc' := 19) (v := .ref 7) dX6_text_16 rfl flX6_19 ly0 (by decide) rfl rfl ?_
    refine s_invV (kc1 := 2) (ks1 := 163) (kc := 0) (ks := 0) (d2 := d - 1) (pc' := 22) dX6_text_19 rfl okX1_reads lkX6_100 inX1_reads seX1_reads (by omega) rfl rfl rfl rfl ly7 rfl (Nat.le_of_ble_eq_true rfl) (Nat.le_of_ble_eq_true rfl) (m_X1_reads (s0 := rs0 tp sz) (s1 := rs1 tp sz) (s2 := rs2 tp sz) (s3 := rs3 tp sz) (s4 := rs4 tp sz) (by omega) hsz h1 ht h256 (Eq.refl _) (Eq.refl _) (Eq.refl _) (Eq.refl _) (Eq.refl _) (fun h => by have := rs4_len hsz h; exact ⟨by omega, this.2⟩) (fun hf m1 p1 f1 => ?_) (fun hf m1 f1 g1 g2 g3 => ?_))
    · have a2 := p1.1.2.1
      refine s_astore_n (pc' := 23) dX6_text_22 rfl rfl (Nat.le_of_ble_eq_true rfl) rfl ls1 ?_
      refine s_aload_n (pc' := 24) dX6_text_23 rfl lg0 rfl ?_
      refine s_getRv (pc' := 27) (v := .ref 7) dX6_text_24 rfl flX6_19 ly0 (by decide) rfl rfl ?_
      refine s_iconst (pc' := 28) dX6_text_27 rfl iconst_0 ?_
      refine s_putI (pc' := 31) (ty := .int) dX6_text_28 rfl flX6_96 fw1_1 pdI rfl rfl ly7 (by decide) rfl ?_
      refine s_aload_n (pc' := 32) dX6_text_31 rfl lg1 rfl ?_
      refine s_ifnonnullN (pc' := 35) dX6_text_32 rfl ?_
      refine s_bipush (pc' := 37) dX6_text_35 rfl bipush_m100 ?_
      refine s_aload_n (pc' := 38) dX6_text_37 rfl lg0 rfl ?_
      refine s_getRv (pc' := 41) (v := .ref 7) dX6_text_38 rfl flX6_19 ly0 (by decide) rfl rfl ?_
      refine s_getIv (pc' := 44) (v := (rs4 tp sz).2.2) dX6_text_41 rfl flX6_104 ly7 (by decide) rfl (by rw [upE, udN (by decide)]; exact a2) ?_
      refine s_isub (pc' := 45) dX6_text_44 rfl ?_
      refine s_iret dX6_text_45 rfl (vp_nar_int _) ?_
      exact K1 q6 hf _ (by rw [upE, udE]; exact (by decide : (0 : Int32) = nI 0)) (fun j q1 q2 => by rw [upN q1]; exact f1 j q1 q2)
    · obtain ⟨t1, t2, t3⟩ := tx_ok hsz hf
      have hl := rs4_len hsz hf
      have hTT : (LAY rf (tl ++ [(4, 3, va_up (fun _ => .null) 0 (.ref (tl.length + 68))), (8, (rs3 tp sz).2.1.length, fun _ => .null)]))[tl.length + 67]? = some (4, 3, va_up (fun _ => .null) 0 (.ref (tl.length + 68))) := by
        rw [LAYg, List.getElem?_append_right (Nat.le_refl _), Nat.sub_self]; rfl
      have hTa : (LAY (va_up rf nt (.ref (tl.length + 67))) (tl ++ [(4, 3, va_up (fun _ => .null) 0 (.ref (tl.length + 68))), (8, (rs3 tp sz).2.1.length, fun _ => .null)]))[tl.length + 68]? = some (8, (rs3 tp sz).2.1.length, fun _ => .null) := by
        rw [show tl.length + 68 = (tl.length + 1) + 67 from rfl, LAYg, List.getElem?_append_right (by omega), show tl.length + 1 - tl.length = 1 from by omega]; rfl
      refine s_astore_n (pc' := 23) dX6_text_22 rfl rfl (Nat.le_of_ble_eq_true rfl) rfl ls1 ?_
      refine s_aload_n (pc' := 24) dX6_text_23 rfl lg0 rfl ?_
      refine s_getRv (pc' := 27) (v := .ref 7) dX6_text_24 rfl flX6_19 ly0 (by decide) rfl rfl ?_
      refine s_iconst (pc' := 28) dX6_text_27 rfl iconst_0 ?_
      refine s_putI (pc' := 31) (ty := .int) dX6_text_28 rfl flX6_96 fw1_1 pdI rfl rfl ly7 (by decide) rfl ?_
      refine s_aload_n (pc' := 32) dX6_text_31 rfl lg1 rfl ?_
      refine s_ifnonnull (tgt := 46) dX6_text_32 (by decide) ?_
      refine s_aload_n (pc' := 47) dX6_text_46 rfl lg0 rfl ?_
      refine s_getRv (pc' := 50) (v := .ref 1) dX6_text_47 rfl flX6_10 ly0 (by decide) rfl rfl ?_
      refine s_aload_n (pc' := 51) dX6_text_50 rfl lg1 rfl ?_
      refine s_invV (kc1 := 0) (ks1 := 0) (kc := 0) (ks := 0) (d2 := d - 1) (pc' := 54) dX6_text_51 rfl okX5_adds lkX6_107 inX5_adds seX5_adds (by omega) rfl rfl rfl rfl ly1 rfl (Nat.le_of_ble_eq_true rfl) (Nat.le_of_ble_eq_true rfl) (m_X5_adds (nt := nt) (by rw [upN (by decide), f1 1 (by decide) (by decide) (by omega)]; exact hnt) q6 hTT ?_)
      refine s_iret dX6_text_54 rfl (vp_nar_int _) ?_
      refine K2 q6 hf _ _ _ ?_ (fun j q1 q2 q3 q4 => ?_) ⟨?_, by omega, by omega, fun w hw => ?_⟩ (by rw [List.length_append]; rfl)
      · rw [upN (by decide), upE, udE]; exact (by decide : (0 : Int32) = nI 0)
      · rw [upN q1, upN q2]; exact f1 j q2 q3 (by omega)
      · rw [upE, udE]
      · by_cases hwn : w = nt
        · rw [show (fun w => if w = nt then txP tp sz else T w) w = txP tp sz from if_pos hwn, hwn]
          have hv : va_up rf nt (.ref (tl.length + 67)) nt = .ref (tl.length + 67) := if_pos rfl
          rw [hv]
          refine ⟨tl.length + 67, tl.length + 68, (rs3 tp sz).2.1.length, va_up (fun _ => .null) 0 (.ref (tl.length + 68)), _, rfl, ?_, if_pos rfl, hTa, by omega, by omega, by omega, ?_, ?_, ?_, fun k hk => ?_, fun p hp => t1 p hp 0⟩
          · rw [LAYg, List.getElem?_append_right (Nat.le_refl _), Nat.sub_self]; rfl
          · rw [t3, List.length_append, List.length_append]; omega
          · rw [upN (by omega), upN (by omega), g1]; unfold txP; rw [if_pos rfl]
          · rw [upN (by omega), upN (by omega), g2, t2]
          · rw [upN (by omega), upN (by omega), g3 k hk, t3]
        · rw [show (fun w => if w = nt then txP tp sz else T w) w = T w from if_neg hwn, show va_up rf nt (.ref (tl.length + 67)) w = rf w from if_neg hwn]
          refine (hTx w (by omega)).ext (fun j hj hj2 => ?_)
          rw [upN (by omega), upN (by omega)]
          exact f1 j (by omega) (by omega) hj2
  · skip
    refine s_icmp_lt (pc' := 12) (tgt := 15) dX6_text_9 rfl (by decide) (fun c9 => absurd c9 (nI_nlt (b := 6) q6 (by omega))) (fun _ => ?_)
    refine s_bipush (pc' := 14) dX6_text_12 rfl bipush_m4 ?_
    refine s_iret dX6_text_14 rfl (vp_nar_int _) ?_
    exact K0 (by omega)

