/-! ===== reads ===== -/
theorem LAYl {rf : Nat → Value} {tl : Lay} : (LAY rf tl).length = tl.length + 67 := rfl
theorem st0_PS {mem mem' : Mem} {tp : Nat → Nat} {sz : Nat} (h1 : mem 7 1 = nI sz) (h2 : mem 7 2 = -1) (h4 : mem 7 4 = nI 0) (h8 : ∀ i, i < sz → mem 8 i = nI (tp i)) (f : tkf mem mem') (g5 : mem' 7 5 = nI (nxt tp sz 0).1) (g6 : mem' 7 6 = nI (nxt tp sz 0).2.1) (g7 : mem' 7 7 = nI (nxt tp sz 0).2.2.1) (g8 : (nxt tp sz 0).2.2.1 = 20 → mem' 7 8 = nI (nxt tp sz 0).2.2.2) : isPS mem' tp sz (rs0 tp sz) := by
  have n := nxt_le (tp := tp) (Nat.zero_le sz)
  exact ⟨⟨f.2.1.trans h1, f.2.2.1.trans h2, f.2.2.2.trans h4, g5, g6, g7, g8, fun i hi => by rw [f.1 8 (by decide)]; exact h8 i hi, fun k hk => absurd hk (Nat.not_lt_zero k)⟩, n.1, n.2.1, n.2.2, Nat.zero_le _⟩
set_option maxHeartbeats 4000000 in
theorem m_X1_reads {z : Zz} {d : Nat} {Q : Option Value → Lay → Mem → Prop} {rf : Nat → Value} {tl : Lay} {mem : Mem} {tp : Nat → Nat} {sz : Nat} {s0 s1 s2 s3 s4 : PS} (hdd : 57 ≤ d) (hsz : sz ≤ 160) (h1 : mem 7 1 = nI sz) (ht : ∀ i, i < sz → mem 8 i = nI (tp i)) (h256 : ∀ i, i < sz → tp i < 256) (e0 : rs0 tp sz = s0) (e1 : prt tp sz 0 s0 = s1) (e2 : prt tp sz 1 s1 = s2) (e3 : prt tp sz 2 s2 = s3) (e4 : waP tp sz 21 s3 = s4) (hl : s4.2.2 = -1 → s3.2.1.length < 160 ∧ s4 = goP tp sz s3)
    (K1 : ¬ s4.2.2 = -1 → ∀ mem', isPS mem' tp sz s4 → rdf mem mem' → Q (some .null) (LAY rf tl) mem')
    (K2 : s4.2.2 = -1 → ∀ mem', (∀ j, j ≠ 7 → j ≠ 9 → j < tl.length + 67 → mem' j = mem j) → mem' (tl.length + 67) 1 = nI s1.2.1.length → mem' (tl.length + 67) 2 = nI s2.2.1.length → (∀ k, k < s3.2.1.length → mem' (tl.length + 68) k = s3.2.1.getD k 0) → Q (some (.ref (tl.length + 67))) (LAY rf (tl ++ [(4, 3, va_up (fun _ => .null) 0 (.ref (tl.length + 68))), (8, s3.2.1.length, fun _ => .null)])) mem') : Sim z d 2 163 mX1_reads 0 [.ref 7, .float 0, .float 0, .float 0] [] (LAY rf tl) mem Q := by
  have fin : ∀ m, isPS m tp sz s3 → rdf mem m → Sim z d 2 163 mX1_reads 79 [.ref 7, .int (nI s1.2.1.length), .int (nI s2.2.1.length), .int (nI 3)] [] (LAY rf tl) m Q := by
    intro m p3 f3
    refine s_aload_n (pc' := 80) dX1_reads_79 rfl lg0 rfl ?_
    refine s_bipush (pc' := 82) dX1_reads_80 rfl bipush_21 ?_
    refine c_X1_wants (due := 21) (pc' := 85) dX1_reads_82 rfl lkX1_43 (by omega) (Nat.le_of_ble_eq_true rfl) p3 hsz h256 (by decide) (fun m4 p4 f4 => ?_)
    rw [e4] at p4
    have p4' := p4
    obtain ⟨⟨a1, a2, a3, a4, a5, a6, a7, a8, a9⟩, b1, b2, b3, b4⟩ := p4'
    refine s_aload_n (pc' := 86) dX1_reads_85 rfl lg0 rfl ?_
    refine s_getIv (pc' := 89) (v := s4.2.2) dX1_reads_86 rfl flX1_19 ly7 (by decide) rfl a2 ?_
    refine s_iconst (pc' := 90) dX1_reads_89 rfl iconst_m1 ?_
    refine s_icmp_eq (pc' := 93) (tgt := 95) dX1_reads_90 rfl (by decide) (fun c1 => ?_) (fun c1 => ?_)
    · skip
      obtain ⟨l1, l2⟩ := hl c1
      have ec : s4.2.1 = s3.2.1 := by rw [l2]; rfl
      rw [ec] at a3 a9
      refine s_new (kc := 1) (ks := 160) (pc' := 98) dX1_reads_95 rfl nkX1_51 ?_
      rw [LAYl]
      have nw : am_nw m4 (tl.length + 67) 7 = m4 7 := if_neg (by omega)
      have h7 : (LAY rf tl ++ [(4, 3, fun _ => .null)])[7]? = some (1, 9, R7) := rfl
      have h9 : (LAY rf tl ++ [(4, 3, fun _ => Value.null)])[9]? = some (8, 160, NUL) := rfl
      refine s_dup (pc' := 99) dX1_reads_98 rfl rfl ?_
      refine s_aload_n (pc' := 100) dX1_reads_99 rfl lg0 rfl ?_
      refine s_getRv (pc' := 103) (v := .ref 9) dX1_reads_100 rfl flX1_22 h7 (by decide) rfl rfl ?_
      refine s_aload_n (pc' := 104) dX1_reads_103 rfl lg0 rfl ?_
      refine s_getIv (pc' := 107) (v := nI s3.2.1.length) dX1_reads_104 rfl flX1_25 h7 (by decide) rfl (by rw [nw]; exact a3) ?_
      refine s_invS (kc1 := 1) (ks1 := s3.2.1.length) (kc := 0) (ks := 160 - s3.2.1.length) (d2 := 2) (pc' := 110) dX1_reads_107 rfl okJ7_copyOf_59c91 lkX1_53 stJ7_copyOf_59c91 (by omega) rfl (by omega) rfl rfl (Nat.le_of_ble_eq_true rfl) (Nat.le_of_ble_eq_true rfl) (m_copyOf (Nat.le_refl _) l1 h9 (fun m5 g1 g2 => ?_))
      have eL : (LAY rf tl ++ [(4, 3, fun _ => Value.null)]).length = tl.length + 68 := by rw [List.length_append, LAYl]; rfl
      rw [eL] at g1 g2 ⊢
      refine s_iload_n (pc' := 111) dX1_reads_110 rfl lg1 ?_
      refine s_iload_n (pc' := 112) dX1_reads_111 rfl lg2 ?_
      have hN0 : (LAY rf tl ++ [(4, 3, fun _ => Value.null)] ++ [(8, s3.2.1.length, fun _ => Value.null)])[tl.length + 67]? = some (4, 3, fun _ => .null) := by
        rw [List.getElem?_append_left (by rw [eL]; omega), List.getElem?_append_right (by rw [LAYl]; omega), LAYl, Nat.sub_self]; rfl
      refine s_invI (kc := 0) (ks := 160 - s3.2.1.length) (d2 := 1) (pc' := 115) dX1_reads_112 rfl okX4_init rfl rfl lkX1_59 inX4_init (by omega) (Nat.zero_add _) (Nat.zero_add _) rfl rfl (Nat.le_of_ble_eq_true rfl) (Nat.le_of_ble_eq_true rfl) (m_X4_init (Nat.le_refl _) hN0 ?_)
      refine s_aret dX1_reads_115 rfl (Or.inl ⟨_, rfl⟩) rfl ?_
      have eS : (LAY rf tl ++ [(4, 3, fun _ => Value.null)] ++ [(8, s3.2.1.length, fun _ => Value.null)]).set (tl.length + 67) (4, 3, va_up (fun _ => .null) 0 (.ref (tl.length + 68))) = LAY rf (tl ++ [(4, 3, va_up (fun _ => .null) 0 (.ref (tl.length + 68))), (8, s3.2.1.length, fun _ => .null)]) := by
        rw [List.append_assoc, List.set_append_right _ _ (by rw [LAYl]; omega), LAYl, Nat.sub_self]
        rfl
      rw [eS]
      refine K2 c1 _ (fun j q1 q2 q3 => ?_) ?_ ?_ (fun k hk => ?_)
      · rw [upN (by omega), upN (by omega), g1 j (by omega), show am_nw m4 (tl.length + 67) j = m4 j from if_neg (by omega)]
        exact (f4 j q1 q2).trans (f3 j q1 q2)
      · rw [upE, udN (by decide), upE, udE]
      · rw [upE, udE]
      · rw [upN (by omega), upN (by omega), g2 k hk, show am_nw m4 (tl.length + 67) 9 = m4 9 from if_neg (by omega)]
        exact a9 k hk
    · skip
      refine s_null (pc' := 94) dX1_reads_93 rfl ?_
      refine s_aret dX1_reads_94 rfl (Or.inl ⟨_, rfl⟩) rfl ?_
      exact K1 c1 m4 p4 (f3.tr f4)
  have part : ∀ (p : Nat) (st : PS) (m : Mem) (x1 x2 : Int32), p < 3 → isPS m tp sz st → rdf mem m → (∀ m', isPS m' tp sz (prt tp sz p st) → rdf mem m' → Sim z d 2 163 mX1_reads 25 [.ref 7, .int x1, .int x2, .int (nI (p + 1))] [] (LAY rf tl) m' Q) → Sim z d 2 163 mX1_reads 53 [.ref 7, .int x1, .int x2, .int (nI p)] [] (LAY rf tl) m Q := by
    intro p st m x1 x2 hp p1 f1 C
    refine s_aload_n (pc' := 54) dX1_reads_53 rfl lg0 rfl ?_
    refine s_bipush (pc' := 56) dX1_reads_54 rfl bipush_6 ?_
    refine s_iload_n (pc' := 57) dX1_reads_56 rfl lg3 ?_
    refine s_iadd (pc' := 58) dX1_reads_57 rfl ?_
    rw [show 6 + nI p = nI (6 + p) from nI_add 6 p]
    refine c_X1_wants (due := 6 + p) (pc' := 61) dX1_reads_58 rfl lkX1_43 (by omega) (Nat.le_of_ble_eq_true rfl) p1 hsz h256 (by omega) (fun m2 p2 f2 => ?_)
    refine s_aload_n (pc' := 62) dX1_reads_61 rfl lg0 rfl ?_
    refine s_iconst (pc' := 63) dX1_reads_62 rfl iconst_0 ?_
    refine s_iconst (pc' := 64) dX1_reads_63 rfl iconst_0 ?_
    refine s_invV (kc := 2) (ks := 163) (d2 := d - 1) (pc' := 67) dX1_reads_64 rfl okX1_readsFrom lkX1_47 inX1_readsFrom seX1_readsFrom (by omega) (Nat.zero_add _) (Nat.zero_add _) rfl rfl ly7 rfl (Nat.le_of_ble_eq_true rfl) (Nat.le_of_ble_eq_true rfl) ((rd_all hsz h256 48).1 0 0 (d - 1) _ m2 _ (by omega) (by omega) (by omega) (by omega) p2 (fun m3 p3 f3 => ?_))
    refine s_aload_n (pc' := 68) dX1_reads_67 rfl lg0 rfl ?_
    refine s_bipush (pc' := 70) dX1_reads_68 rfl bipush_14 ?_
    refine c_X1_wants (due := 14) (pc' := 73) dX1_reads_70 rfl lkX1_43 (by omega) (Nat.le_of_ble_eq_true rfl) p3 hsz h256 (by decide) (fun m4 p4 f4 => ?_)
    refine s_iincN (pc' := 76) dX1_reads_73 rfl lg3 rfl ls3 ?_
    refine s_goto (tgt := 25) dX1_reads_76 (by decide) ?_
    exact C m4 p4 (((f1.tr f2).tr f3).tr f4)
  have st2 : ∀ m, isPS m tp sz s2 → rdf mem m → Sim z d 2 163 mX1_reads 25 [.ref 7, .int (nI s1.2.1.length), .int 0, .int (nI 2)] [] (LAY rf tl) m Q := by
    intro m p2 f2
    refine s_iload_n (pc' := 26) dX1_reads_25 rfl lg3 ?_
    refine s_iconst (pc' := 27) dX1_reads_26 rfl iconst_3 ?_
    refine s_icmp_ge (pc' := 30) (tgt := 79) dX1_reads_27 rfl (by decide) (fun c9 => absurd c9 (by decide)) (fun _ => ?_)
    refine s_iload_n (pc' := 31) dX1_reads_30 rfl lg3 ?_
    refine s_iconst (pc' := 32) dX1_reads_31 rfl iconst_1 ?_
    refine s_icmp_ne (pc' := 35) (tgt := 43) dX1_reads_32 rfl (by decide) (fun _ => ?_) (fun c9 => absurd c9 (by decide))
    refine s_iload_n (pc' := 44) dX1_reads_43 rfl lg3 ?_
    refine s_iconst (pc' := 45) dX1_reads_44 rfl iconst_2 ?_
    refine s_icmp_ne (pc' := 48) (tgt := 53) dX1_reads_45 rfl (by decide) (fun c9 => absurd (by decide) c9) (fun _ => ?_)
    refine s_aload_n (pc' := 49) dX1_reads_48 rfl lg0 rfl ?_
    refine s_getIv (pc' := 52) (v := nI s2.2.1.length) dX1_reads_49 rfl flX1_25 ly7 (by decide) rfl p2.1.2.2.1 ?_
    refine s_istore_n (pc' := 53) dX1_reads_52 rfl (Nat.le_of_ble_eq_true rfl) rfl ls2 ?_
    refine part 2 s2 m _ _ (by decide) p2 f2 (fun m' p3 f3 => ?_)
    rw [e3] at p3
    refine s_iload_n (pc' := 26) dX1_reads_25 rfl lg3 ?_
    refine s_iconst (pc' := 27) dX1_reads_26 rfl iconst_3 ?_
    refine s_icmp_ge (pc' := 30) (tgt := 79) dX1_reads_27 rfl (by decide) (fun _ => ?_) (fun c9 => absurd (by decide) c9)
    exact fin m' p3 f3
  have st1 : ∀ m, isPS m tp sz s1 → rdf mem m → Sim z d 2 163 mX1_reads 25 [.ref 7, .int 0, .int 0, .int (nI 1)] [] (LAY rf tl) m Q := by
    intro m p1 f1
    refine s_iload_n (pc' := 26) dX1_reads_25 rfl lg3 ?_
    refine s_iconst (pc' := 27) dX1_reads_26 rfl iconst_3 ?_
    refine s_icmp_ge (pc' := 30) (tgt := 79) dX1_reads_27 rfl (by decide) (fun c9 => absurd c9 (by decide)) (fun _ => ?_)
    refine s_iload_n (pc' := 31) dX1_reads_30 rfl lg3 ?_
    refine s_iconst (pc' := 32) dX1_reads_31 rfl iconst_1 ?_
    refine s_icmp_ne (pc' := 35) (tgt := 43) dX1_reads_32 rfl (by decide) (fun c9 => absurd (by decide) c9) (fun _ => ?_)
    refine s_aload_n (pc' := 36) dX1_reads_35 rfl lg0 rfl ?_
    refine s_getIv (pc' := 39) (v := nI s1.2.1.length) dX1_reads_36 rfl flX1_25 ly7 (by decide) rfl p1.1.2.2.1 ?_
    refine s_istore_n (pc' := 40) dX1_reads_39 rfl (Nat.le_of_ble_eq_true rfl) rfl ls1 ?_
    refine s_goto (tgt := 53) dX1_reads_40 (by decide) ?_
    refine part 1 s1 m _ _ (by decide) p1 f1 (fun m' p3 f3 => ?_)
    rw [e2] at p3
    exact st2 m' p3 f3
  refine s_aload_n (pc' := 1) dX1_reads_0 rfl lg0 rfl ?_
  refine s_iconst (pc' := 2) dX1_reads_1 rfl iconst_m1 ?_
  refine s_putI (pc' := 5) (ty := .int) dX1_reads_2 rfl flX1_19 fw1_2 pdI rfl rfl ly7 (by decide) rfl ?_
  refine s_aload_n (pc' := 6) dX1_reads_5 rfl lg0 rfl ?_
  refine s_iconst (pc' := 7) dX1_reads_6 rfl iconst_0 ?_
  refine s_putI (pc' := 10) (ty := .int) dX1_reads_7 rfl flX1_25 fw1_4 pdI rfl rfl ly7 (by decide) rfl ?_
  refine s_aload_n (pc' := 11) dX1_reads_10 rfl lg0 rfl ?_
  refine s_iconst (pc' := 12) dX1_reads_11 rfl iconst_0 ?_
  refine s_putI (pc' := 15) (ty := .int) dX1_reads_12 rfl flX1_28 fw1_5 pdI rfl rfl ly7 (by decide) rfl ?_
  refine s_aload_n (pc' := 16) dX1_reads_15 rfl lg0 rfl ?_
  refine c_X1_goesOn (a := 0) (sz := sz) (tp := tp) (pc' := 19) dX1_reads_16 rfl lkX1_40 (by omega) (Nat.le_of_ble_eq_true rfl) (Nat.zero_le sz) hsz (by rw [upE, udN (by decide), upE, udN (by decide), upE, udN (by decide)]; exact h1) (by rw [upE, udE]; rfl) (fun i hi => by rw [upN (by decide), upN (by decide), upN (by decide)]; exact ht i hi) h256 (fun m1 g1 g5 g6 g7 g8 => ?_)
  have p0 := st0_PS (mem := am_up (am_up (am_up mem 7 2 (-1)) 7 4 0) 7 5 0) (by rw [upE, udN (by decide), upE, udN (by decide), upE, udN (by decide)]; exact h1) (by rw [upE, udN (by decide), upE, udN (by decide), upE, udE]) (by rw [upE, udN (by decide), upE, udE]; rfl) (fun i hi => by rw [upN (by decide), upN (by decide), upN (by decide)]; exact ht i hi) g1 g5 g6 g7 g8
  rw [e0] at p0
  have f0 : rdf mem m1 := fun j q1 q2 => by rw [g1.1 j q1, upN q1, upN q1, upN q1]
  refine s_iconst (pc' := 20) dX1_reads_19 rfl iconst_0 ?_
  refine s_istore_n (pc' := 21) dX1_reads_20 rfl (Nat.le_of_ble_eq_true rfl) rfl ls1 ?_
  refine s_iconst (pc' := 22) dX1_reads_21 rfl iconst_0 ?_
  refine s_istore_n (pc' := 23) dX1_reads_22 rfl (Nat.le_of_ble_eq_true rfl) rfl ls2 ?_
  refine s_iconst (pc' := 24) dX1_reads_23 rfl iconst_0 ?_
  refine s_istore_n (pc' := 25) dX1_reads_24 rfl (Nat.le_of_ble_eq_true rfl) rfl ls3 ?_
  refine s_iload_n (pc' := 26) dX1_reads_25 rfl lg3 ?_
  refine s_iconst (pc' := 27) dX1_reads_26 rfl iconst_3 ?_
  refine s_icmp_ge (pc' := 30) (tgt := 79) dX1_reads_27 rfl (by decide) (fun c9 => absurd c9 (by decide)) (fun _ => ?_)
  refine s_iload_n (pc' := 31) dX1_reads_30 rfl lg3 ?_
  refine s_iconst (pc' := 32) dX1_reads_31 rfl iconst_1 ?_
  refine s_icmp_ne (pc' := 35) (tgt := 43) dX1_reads_32 rfl (by decide) (fun _ => ?_) (fun c9 => absurd c9 (by decide))
  refine s_iload_n (pc' := 44) dX1_reads_43 rfl lg3 ?_
  refine s_iconst (pc' := 45) dX1_reads_44 rfl iconst_2 ?_
  refine s_icmp_ne (pc' := 48) (tgt := 53) dX1_reads_45 rfl (by decide) (fun _ => ?_) (fun c9 => absurd c9 (by decide))
  refine part 0 s0 m1 _ _ (by decide) p0 f0 (fun m' p3 f3 => ?_)
  rw [e1] at p3
  exact st1 m' p3 f3

