/-! ===== the Model's reader: tokens ===== -/
def srtN (tp : Nat → Nat) (sz i : Nat) : Nat := if sz ≤ i then 0 else if isLt (tp i) then 1 else if isDg (tp i) then 2 else 3
theorem inLt {c : Nat} (h : c < 256) : inB (nI c) 97 122 = bI (isLt c) ∧ inB (nI c) 48 57 = bI (isDg c) := by
  have key : ∀ c : Fin 256, inB (nI c.1) 97 122 = bI (isLt c.1) ∧ inB (nI c.1) 48 57 = bI (isDg c.1) := by decide +kernel
  exact key ⟨c, h⟩
theorem srtN_le {tp : Nat → Nat} {sz i : Nat} : srtN tp sz i < 4 := by
  unfold srtN
  split
  · decide
  · split
    · decide
    · split <;> decide
set_option maxHeartbeats 4000000 in
theorem m_X7_sortAt {z : Zz} {d : Nat} {Q : Option Value → Lay → Mem → Prop} {rf : Nat → Value} {tl : Lay} {mem : Mem}  {i sz : Nat} {tp : Nat → Nat} (hdd : 1 ≤ d) (h1 : mem 47 5 = nI sz) (hsz : sz ≤ 160) (ht : ∀ i, i < sz → mem 51 i = nI (tp i)) (h256 : ∀ i, i < sz → tp i < 256) (hi : i < 1000) (K :  Q (some (.int (nI (srtN tp sz i)))) (LAY rf tl) mem) : Sim z d 0 0 mX7_sortAt 0 [.ref 47, .int (nI i)] [] (LAY rf tl) mem Q := by
  unfold srtN at K
  refine s_iload_n (pc' := 1) dX7_sortAt_0 rfl lg1 ?_
  refine s_aload_n (pc' := 2) dX7_sortAt_1 rfl lg0 rfl ?_
  refine s_getIv (pc' := 5) (v := nI sz) dX7_sortAt_2 rfl flX7_127 ly47 (by decide) rfl h1 ?_
  rcases Nat.lt_or_ge i sz with q | q
  · rw [if_neg (by omega)] at K
    refine s_icmp_lt (pc' := 8) (tgt := 12) dX7_sortAt_5 rfl (by decide) (fun _ => ?_) (fun c9 => absurd (nI_lt q (by omega)) c9)
    refine s_aload_n (pc' := 13) dX7_sortAt_12 rfl lg0 rfl ?_
    refine s_getRv (pc' := 16) (v := .ref 51) dX7_sortAt_13 rfl flX7_19 ly47 (by decide) rfl rfl ?_
    refine s_iload_n (pc' := 17) dX7_sortAt_16 rfl lg1 ?_
    refine s_ialdNv (pc' := 18) (v := nI (tp i)) dX7_sortAt_17 rfl ly51 (by omega) (by decide) (ht i q) ?_
    refine s_bipush (pc' := 20) dX7_sortAt_18 rfl bipush_97 ?_
    refine s_bipush (pc' := 22) dX7_sortAt_20 rfl bipush_122 ?_
    refine c_X7_isIn  (pc' := 25) dX7_sortAt_22 rfl lkX7_86 (by omega) (Nat.le_of_ble_eq_true rfl) ?_
    rw [(inLt (h256 i q)).1]
    cases hl : isLt (tp i) with
    | true =>
      rw [hl, if_pos rfl] at K
      refine s_if_eq (pc' := 28) (tgt := 32) dX7_sortAt_25 rfl (by decide) (fun c9 => absurd c9 (by decide)) (fun _ => ?_)
      refine s_iconst (pc' := 29) dX7_sortAt_28 rfl iconst_1 ?_
      refine s_goto (tgt := 53) dX7_sortAt_29 (by decide) ?_
      refine s_iret dX7_sortAt_53 rfl (vp_nar_int _) ?_
      exact K
    | false =>
      rw [hl, if_neg Bool.false_ne_true] at K
      refine s_if_eq (pc' := 28) (tgt := 32) dX7_sortAt_25 rfl (by decide) (fun _ => ?_) (fun c9 => absurd (by decide) c9)
      refine s_aload_n (pc' := 33) dX7_sortAt_32 rfl lg0 rfl ?_
      refine s_getRv (pc' := 36) (v := .ref 51) dX7_sortAt_33 rfl flX7_19 ly47 (by decide) rfl rfl ?_
      refine s_iload_n (pc' := 37) dX7_sortAt_36 rfl lg1 ?_
      refine s_ialdNv (pc' := 38) (v := nI (tp i)) dX7_sortAt_37 rfl ly51 (by omega) (by decide) (ht i q) ?_
      refine s_bipush (pc' := 40) dX7_sortAt_38 rfl bipush_48 ?_
      refine s_bipush (pc' := 42) dX7_sortAt_40 rfl bipush_57 ?_
      refine c_X7_isIn  (pc' := 45) dX7_sortAt_42 rfl lkX7_86 (by omega) (Nat.le_of_ble_eq_true rfl) ?_
      rw [(inLt (h256 i q)).2]
      cases hd : isDg (tp i) with
      | true =>
        rw [hd, if_pos rfl] at K
        refine s_if_eq (pc' := 48) (tgt := 52) dX7_sortAt_45 rfl (by decide) (fun c9 => absurd c9 (by decide)) (fun _ => ?_)
        refine s_iconst (pc' := 49) dX7_sortAt_48 rfl iconst_2 ?_
        refine s_goto (tgt := 53) dX7_sortAt_49 (by decide) ?_
        refine s_iret dX7_sortAt_53 rfl (vp_nar_int _) ?_
        exact K
      | false =>
        rw [hd, if_neg Bool.false_ne_true] at K
        refine s_if_eq (pc' := 48) (tgt := 52) dX7_sortAt_45 rfl (by decide) (fun _ => ?_) (fun c9 => absurd (by decide) c9)
        refine s_iconst (pc' := 53) dX7_sortAt_52 rfl iconst_3 ?_
        refine s_iret dX7_sortAt_53 rfl (vp_nar_int _) ?_
        exact K
  · rw [if_pos q] at K
    refine s_icmp_lt (pc' := 8) (tgt := 12) dX7_sortAt_5 rfl (by decide) (fun c9 => absurd c9 (nI_nlt q (by omega))) (fun _ => ?_)
    refine s_iconst (pc' := 9) dX7_sortAt_8 rfl iconst_0 ?_
    refine s_goto (tgt := 53) dX7_sortAt_9 (by decide) ?_
    refine s_iret dX7_sortAt_53 rfl (vp_nar_int _) ?_
    exact K
theorem c_X7_sortAt {z : Zz} {d kc ks : Nat} {mi : MI} {pc pc' : Nat} {L S : List Value} {Q : Option Value → Lay → Mem → Prop} {rf : Nat → Value} {tl : Lay} {mem : Mem}  {i sz : Nat} {tp : Nat → Nat} {idx : Nat} (hd : decode mi.2.1 pc = .ok (.invokevirtual idx, 3)) (hp : pc + 3 = pc') (hlk : Cond.methodLink mi.1.cls idx yX7_sortAt ∈ wok) (hdd : 1 + 1 ≤ d) (hcat : (S.map (fun v => v.category)).sum ≤ 8) (h1 : mem 47 5 = nI sz) (hsz : sz ≤ 160) (ht : ∀ i, i < sz → mem 51 i = nI (tp i)) (h256 : ∀ i, i < sz → tp i < 256) (hi : i < 1000) (K :  Sim z d kc ks mi pc' L (.int (nI (srtN tp sz i)) :: S) (LAY rf tl) mem Q) : Sim z d kc ks mi pc L (.int (nI i) :: .ref 47 :: S) (LAY rf tl) mem Q :=
  s_invV (d2 := 1) hd hp okX7_sortAt hlk inX7_sortAt seX7_sortAt hdd (Nat.zero_add _) (Nat.zero_add _) rfl rfl ly47 rfl hcat (Nat.le_of_ble_eq_true rfl) (m_X7_sortAt (Nat.le_refl _) h1 hsz ht h256 hi K)
/-- what a token changes: at, from, sort -/
def nxf (mem mem' : Mem) : Prop := (∀ j, j ≠ 47 → mem' j = mem j) ∧ ∀ k, k ≠ 6 → k ≠ 7 → k ≠ 8 → mem' 47 k = mem 47 k
theorem nxf.rf {mem : Mem} : nxf mem mem := ⟨fun _ _ => rfl, fun _ _ _ _ => rfl⟩
theorem nxf.tr {a b c : Mem} (h1 : nxf a b) (h2 : nxf b c) : nxf a c := ⟨fun j q => (h2.1 j q).trans (h1.1 j q), fun k q1 q2 q3 => (h2.2 k q1 q2 q3).trans (h1.2 k q1 q2 q3)⟩
theorem nxf.up {mem m : Mem} {k : Nat} {x : Int32} (h : nxf mem m) (hk : k = 6 ∨ k = 7 ∨ k = 8) : nxf mem (am_up m 47 k x) := ⟨fun j q => by rw [upN q]; exact h.1 j q, fun q q1 q2 q3 => by rw [upE, udN (by omega)]; exact h.2 q q1 q2 q3⟩
theorem Dg_nLt {c : Nat} (h : isDg c = true) : isLt c = false := by
  unfold isDg at h
  unfold isLt
  simp only [Bool.and_eq_true, decide_eq_true_eq] at h
  rw [decide_eq_false (show ¬ 97 ≤ c by omega), Bool.false_and]
theorem nxs_at {tp : Nat → Nat} {sz s : Nat} : (nxs tp sz s).2.1 = s ∧ (nxs tp sz s).1 = if srtN tp sz s = 0 then s else if srtN tp sz s = 1 then rn (fun i => isLt (tp i)) (sz - s - 1) (s + 1) else if srtN tp sz s = 2 then rn (fun i => isDg (tp i)) (sz - s - 1) (s + 1) else s + 1 := by
  unfold nxs srtN
  by_cases h1 : sz ≤ s
  · rw [if_pos h1, if_pos h1]; exact ⟨rfl, rfl⟩
  rw [if_neg h1, if_neg h1]
  obtain ⟨k, hk⟩ : ∃ k, sz - s = k + 1 := ⟨sz - s - 1, by omega⟩
  by_cases h2 : isLt (tp s) = true
  · rw [if_pos h2, if_pos h2]
    refine ⟨rfl, ?_⟩
    show rn (fun i => isLt (tp i)) (sz - s) s = _
    rw [hk, rn_t (p := fun i => isLt (tp i)) h2]; rfl
  rw [if_neg h2, if_neg h2]
  by_cases h3 : isDg (tp s) = true
  · rw [if_pos h3, if_pos h3]
    refine ⟨rfl, ?_⟩
    show rn (fun i => isDg (tp i)) (sz - s) s = _
    rw [hk, rn_t (p := fun i => isDg (tp i)) h3]; rfl
  rw [if_neg h3, if_neg h3]
  exact ⟨rfl, rfl⟩
set_option maxHeartbeats 4000000 in
theorem m_X7_next {z : Zz} {d : Nat} {Q : Option Value → Lay → Mem → Prop} {rf : Nat → Value} {tl : Lay} {mem : Mem}  {a sz : Nat} {tp : Nat → Nat} (hdd : 2 ≤ d) (haz : a ≤ sz) (hsz : sz ≤ 160) (h1 : mem 47 5 = nI sz) (h6 : mem 47 6 = nI a) (ht : ∀ i, i < sz → mem 51 i = nI (tp i)) (h256 : ∀ i, i < sz → tp i < 256) (K : ∀ mem', nxf mem mem' → mem' 47 6 = nI (nxt tp sz a).1 → mem' 47 7 = nI (nxt tp sz a).2.1 → mem' 47 8 = nI (srtN tp sz (nxt tp sz a).2.1) → Q none (LAY rf tl) mem') : Sim z d 0 0 mX7_next 0 [.ref 47] [] (LAY rf tl) mem Q := by
  have tl2 : ∀ (s : Nat) (m : Mem), s ≤ sz → tS tp sz a = s → nxf mem m → m 47 6 = nI s → Sim z d 0 0 mX7_next 52 [.ref 47] [] (LAY rf tl) m Q := by
    intro s m hs es hm hm6
    have eq : nxt tp sz a = nxs tp sz s := by unfold nxt; rw [es]
    rw [eq, (nxs_at (tp := tp) (sz := sz) (s := s)).1] at K
    have g1 : m 47 5 = nI sz := by rw [hm.2 5 (by decide) (by decide) (by decide)]; exact h1
    have gt : ∀ i, i < sz → m 51 i = nI (tp i) := fun i hi => by rw [hm.1 51 (by decide)]; exact ht i hi
    have hs4 := srtN_le (tp := tp) (sz := sz) (i := s)
    refine s_aload_n (pc' := 53) dX7_next_52 rfl lg0 rfl ?_
    refine s_aload_n (pc' := 54) dX7_next_53 rfl lg0 rfl ?_
    refine s_getIv (pc' := 57) (v := nI s) dX7_next_54 rfl flX7_130 ly47 (by decide) rfl hm6 ?_
    refine s_putI (pc' := 60) (ty := .int) dX7_next_57 rfl flX7_133 fw7_7 pdI rfl rfl ly47 (by decide) rfl ?_
    refine s_aload_n (pc' := 61) dX7_next_60 rfl lg0 rfl ?_
    refine s_aload_n (pc' := 62) dX7_next_61 rfl lg0 rfl ?_
    refine s_aload_n (pc' := 63) dX7_next_62 rfl lg0 rfl ?_
    refine s_getIv (pc' := 66) (v := nI s) dX7_next_63 rfl flX7_130 ly47 (by decide) rfl (by rw [upE, udN (by decide)]; exact hm6) ?_
    refine c_X7_sortAt  (pc' := 69) dX7_next_66 rfl lkX7_136 (by omega) (Nat.le_of_ble_eq_true rfl) (by rw [upE, udN (by decide)]; exact g1) hsz (fun i hi => by rw [upN (by decide)]; exact gt i hi) h256 (by omega) ?_
    refine s_putI (pc' := 72) (ty := .int) dX7_next_69 rfl flX7_139 fw7_8 pdI rfl rfl ly47 (by decide) rfl ?_
    refine s_aload_n (pc' := 73) dX7_next_72 rfl lg0 rfl ?_
    refine s_getIv (pc' := 76) (v := nI (srtN tp sz s)) dX7_next_73 rfl flX7_139 ly47 (by decide) rfl (by rw [upE, udE]) ?_
    have hm3 : nxf mem (am_up (am_up m 47 7 (nI s)) 47 8 (nI (srtN tp sz s))) := (hm.up (by omega)).up (by omega)
    have e6 : am_up (am_up m 47 7 (nI s)) 47 8 (nI (srtN tp sz s)) 47 6 = nI s := by rw [upE, udN (by decide), upE, udN (by decide)]; exact hm6
    have e7 : am_up (am_up m 47 7 (nI s)) 47 8 (nI (srtN tp sz s)) 47 7 = nI s := by rw [upE, udN (by decide), upE, udE]
    have e8 : am_up (am_up m 47 7 (nI s)) 47 8 (nI (srtN tp sz s)) 47 8 = nI (srtN tp sz s) := by rw [upE, udE]
    generalize am_up (am_up m 47 7 (nI s)) 47 8 (nI (srtN tp sz s)) = m3 at hm3 e6 e7 e8 ⊢
    by_cases c0 : srtN tp sz s = 0
    · refine s_if_le (pc' := 79) (tgt := 125) dX7_next_76 rfl (by decide) (fun _ => ?_) (fun c9 => absurd (by rw [c0]; decide) c9)
      refine s_vret dX7_next_125 rfl ?_
      exact K m3 hm3 (by rw [(nxs_at (tp := tp) (sz := sz) (s := s)).2, if_pos c0]; exact e6) e7 e8
    · skip
      refine s_if_le (pc' := 79) (tgt := 125) dX7_next_76 rfl (by decide) (fun c9 => absurd c9 (fun q => by have := (nI_leI (a := srtN tp sz s) (b := 0) (by omega) (by omega)).mp q; omega)) (fun _ => ?_)
      have sl : s < sz := by
        rcases Nat.lt_or_ge s sz with q | q
        · exact q
        · exact absurd (by unfold srtN; rw [if_pos q]) c0
      refine s_aload_n (pc' := 80) dX7_next_79 rfl lg0 rfl ?_
      refine s_dup (pc' := 81) dX7_next_80 rfl rfl ?_
      refine s_getIv (pc' := 84) (v := nI s) dX7_next_81 rfl flX7_130 ly47 (by decide) rfl e6 ?_
      refine s_iconst (pc' := 85) dX7_next_84 rfl iconst_1 ?_
      refine s_iadd (pc' := 86) dX7_next_85 rfl ?_
      rw [nI_1]
      refine s_putI (pc' := 89) (ty := .int) dX7_next_86 rfl flX7_130 fw7_6 pdI rfl rfl ly47 (by decide) rfl ?_
      have loop : ∀ (k b : Nat) (m4 : Mem), b + k = sz → nxf mem m4 → m4 47 6 = nI b → m4 47 7 = nI s → m4 47 8 = nI (srtN tp sz s) → (nxs tp sz s).1 = (if srtN tp sz s = 1 then rn (fun i => isLt (tp i)) k b else if srtN tp sz s = 2 then rn (fun i => isDg (tp i)) k b else b) → Sim z d 0 0 mX7_next 89 [.ref 47] [] (LAY rf tl) m4 Q := by
        intro k
        induction k with
        | zero =>
          intro b m4 hb hm4 b6 b7 b8 er
          have hb' : b = sz := by omega
          have er' : (nxs tp sz s).1 = b := by
            rw [er]
            split
            · rfl
            · split <;> rfl
          have fin : Q none (LAY rf tl) m4 := K m4 hm4 (by rw [er']; exact b6) b7 b8
          have g1 : m4 47 5 = nI sz := by rw [hm4.2 5 (by decide) (by decide) (by decide)]; exact h1
          have gt : ∀ i, i < sz → m4 51 i = nI (tp i) := fun i hi => by rw [hm4.1 51 (by decide)]; exact ht i hi
          refine s_aload_n (pc' := 90) dX7_next_89 rfl lg0 rfl ?_
          refine s_getIv (pc' := 93) (v := nI (srtN tp sz s)) dX7_next_90 rfl flX7_139 ly47 (by decide) rfl b8 ?_
          refine s_iconst (pc' := 94) dX7_next_93 rfl iconst_3 ?_
          refine s_icmp_ge (pc' := 97) (tgt := 125) dX7_next_94 rfl (by decide) (fun c1 => ?_) (fun c1 => ?_)
          · skip
            refine s_vret dX7_next_125 rfl ?_
            exact fin
          · skip
            refine s_aload_n (pc' := 98) dX7_next_97 rfl lg0 rfl ?_
            refine s_aload_n (pc' := 99) dX7_next_98 rfl lg0 rfl ?_
            refine s_getIv (pc' := 102) (v := nI b) dX7_next_99 rfl flX7_130 ly47 (by decide) rfl b6 ?_
            refine c_X7_sortAt  (pc' := 105) dX7_next_102 rfl lkX7_136 (by omega) (Nat.le_of_ble_eq_true rfl) g1 hsz gt h256 (by omega) ?_
            rw [show srtN tp sz b = 0 from by unfold srtN; rw [if_pos (by omega)]]
            refine s_aload_n (pc' := 106) dX7_next_105 rfl lg0 rfl ?_
            refine s_getIv (pc' := 109) (v := nI (srtN tp sz s)) dX7_next_106 rfl flX7_139 ly47 (by decide) rfl b8 ?_
            refine s_icmp_ne (pc' := 112) (tgt := 125) dX7_next_109 rfl (by decide) (fun _ => ?_) (fun c9 => absurd c9 (fun e => c0 ((nI_eq (a := 0) (b := srtN tp sz s) (by omega) (by omega)).mp e).symm))
            refine s_vret dX7_next_125 rfl ?_
            exact fin
        | succ k ih =>
          intro b m4 hb hm4 b6 b7 b8 er
          have g1 : m4 47 5 = nI sz := by rw [hm4.2 5 (by decide) (by decide) (by decide)]; exact h1
          have gt : ∀ i, i < sz → m4 51 i = nI (tp i) := fun i hi => by rw [hm4.1 51 (by decide)]; exact ht i hi
          have hsb := srtN_le (tp := tp) (sz := sz) (i := b)
          refine s_aload_n (pc' := 90) dX7_next_89 rfl lg0 rfl ?_
          refine s_getIv (pc' := 93) (v := nI (srtN tp sz s)) dX7_next_90 rfl flX7_139 ly47 (by decide) rfl b8 ?_
          refine s_iconst (pc' := 94) dX7_next_93 rfl iconst_3 ?_
          by_cases c3 : srtN tp sz s = 3
          · refine s_icmp_ge (pc' := 97) (tgt := 125) dX7_next_94 rfl (by decide) (fun _ => ?_) (fun c9 => absurd (by rw [c3]; decide) c9)
            rw [if_neg (by omega), if_neg (by omega)] at er
            refine s_vret dX7_next_125 rfl ?_
            exact K m4 hm4 (by rw [er]; exact b6) b7 b8
          · skip
            refine s_icmp_ge (pc' := 97) (tgt := 125) dX7_next_94 rfl (by decide) (fun c9 => absurd c9 (fun q => by have := (nI_leI (a := 3) (b := srtN tp sz s) (by omega) (by omega)).mp q; omega)) (fun _ => ?_)
            refine s_aload_n (pc' := 98) dX7_next_97 rfl lg0 rfl ?_
            refine s_aload_n (pc' := 99) dX7_next_98 rfl lg0 rfl ?_
            refine s_getIv (pc' := 102) (v := nI b) dX7_next_99 rfl flX7_130 ly47 (by decide) rfl b6 ?_
            refine c_X7_sortAt  (pc' := 105) dX7_next_102 rfl lkX7_136 (by omega) (Nat.le_of_ble_eq_true rfl) g1 hsz gt h256 (by omega) ?_
            refine s_aload_n (pc' := 106) dX7_next_105 rfl lg0 rfl ?_
            refine s_getIv (pc' := 109) (v := nI (srtN tp sz s)) dX7_next_106 rfl flX7_139 ly47 (by decide) rfl b8 ?_
            by_cases c4 : srtN tp sz b = srtN tp sz s
            · refine s_icmp_ne (pc' := 112) (tgt := 125) dX7_next_109 rfl (by decide) (fun c9 => absurd (by rw [c4]) c9) (fun _ => ?_)
              refine s_aload_n (pc' := 113) dX7_next_112 rfl lg0 rfl ?_
              refine s_dup (pc' := 114) dX7_next_113 rfl rfl ?_
              refine s_getIv (pc' := 117) (v := nI b) dX7_next_114 rfl flX7_130 ly47 (by decide) rfl b6 ?_
              refine s_iconst (pc' := 118) dX7_next_117 rfl iconst_1 ?_
              refine s_iadd (pc' := 119) dX7_next_118 rfl ?_
              rw [nI_1]
              refine s_putI (pc' := 122) (ty := .int) dX7_next_119 rfl flX7_130 fw7_6 pdI rfl rfl ly47 (by decide) rfl ?_
              refine s_goto (tgt := 89) dX7_next_122 (by decide) ?_
              refine ih (b + 1) _ (by omega) (hm4.up (by omega)) (by rw [upE, udE]) (by rw [upE, udN (by decide)]; exact b7) (by rw [upE, udN (by decide)]; exact b8) ?_
              rw [er]
              have hb4 : ¬ sz ≤ b := by omega
              have u4 := c4
              unfold srtN at u4
              rw [if_neg hb4, if_neg (show ¬ sz ≤ s by omega)] at u4
              by_cases d1 : srtN tp sz s = 1
              · rw [if_pos d1, if_pos d1]
                refine rn_t (p := fun i => isLt (tp i)) ?_
                rw [d1] at c4
                unfold srtN at c4
                rw [if_neg hb4] at c4
                cases hl : isLt (tp b) with
                | true => rfl
                | false =>
                  rw [hl, if_neg Bool.false_ne_true] at c4
                  split at c4 <;> omega
              · have d2 : srtN tp sz s = 2 := by omega
                rw [if_neg d1, if_neg d1, if_pos d2, if_pos d2]
                refine rn_t (p := fun i => isDg (tp i)) ?_
                rw [d2] at c4
                unfold srtN at c4
                rw [if_neg hb4] at c4
                cases hl : isLt (tp b) with
                | true => rw [hl, if_pos rfl] at c4; omega
                | false =>
                  rw [hl, if_neg Bool.false_ne_true] at c4
                  cases hd : isDg (tp b) with
                  | true => rfl
                  | false => rw [hd, if_neg Bool.false_ne_true] at c4; omega
            · skip
              refine s_icmp_ne (pc' := 112) (tgt := 125) dX7_next_109 rfl (by decide) (fun _ => ?_) (fun c9 => absurd c9 (fun e => c4 ((nI_eq (by omega) (by omega)).mp e)))
              have er' : (nxs tp sz s).1 = b := by
                rw [er]
                have hb4 : ¬ sz ≤ b := by omega
                by_cases d1 : srtN tp sz s = 1
                · rw [if_pos d1]
                  refine rn_f (p := fun i => isLt (tp i)) ?_
                  rw [d1] at c4
                  cases hl : isLt (tp b) with
                  | true => exact absurd (by unfold srtN; rw [if_neg hb4, hl, if_pos rfl]) c4
                  | false => rfl
                · have d2 : srtN tp sz s = 2 := by omega
                  rw [if_neg d1, if_pos d2]
                  refine rn_f (p := fun i => isDg (tp i)) ?_
                  rw [d2] at c4
                  cases hd : isDg (tp b) with
                  | true => exact absurd (by unfold srtN; rw [if_neg hb4, Dg_nLt hd, if_neg Bool.false_ne_true, hd, if_pos rfl]) c4
                  | false => rfl
              refine s_vret dX7_next_125 rfl ?_
              exact K m4 hm4 (by rw [er']; exact b6) b7 b8
      refine loop (sz - s - 1) (s + 1) _ (by omega) (hm3.up (by omega)) (by rw [upE, udE]) (by rw [upE, udN (by decide)]; exact e7) (by rw [upE, udN (by decide)]; exact e8) ?_
      rw [(nxs_at (tp := tp) (sz := sz) (s := s)).2, if_neg c0]
  have loop0 : ∀ (k b : Nat) (m : Mem), b + k = sz → tS tp sz a = rn (fun i => isBl (tp i)) k b → nxf mem m → m 47 6 = nI b → Sim z d 0 0 mX7_next 0 [.ref 47] [] (LAY rf tl) m Q := by
    intro k
    induction k with
    | zero =>
      intro b m hb es hm hm6
      have g1 : m 47 5 = nI sz := by rw [hm.2 5 (by decide) (by decide) (by decide)]; exact h1
      refine s_aload_n (pc' := 1) dX7_next_0 rfl lg0 rfl ?_
      refine s_getIv (pc' := 4) (v := nI b) dX7_next_1 rfl flX7_130 ly47 (by decide) rfl hm6 ?_
      refine s_aload_n (pc' := 5) dX7_next_4 rfl lg0 rfl ?_
      refine s_getIv (pc' := 8) (v := nI sz) dX7_next_5 rfl flX7_127 ly47 (by decide) rfl g1 ?_
      refine s_icmp_ge (pc' := 11) (tgt := 52) dX7_next_8 rfl (by decide) (fun _ => ?_) (fun c9 => absurd (nI_le (by omega) (by omega)) c9)
      exact tl2 b m (by omega) es hm hm6
    | succ k ih =>
      intro b m hb es hm hm6
      have g1 : m 47 5 = nI sz := by rw [hm.2 5 (by decide) (by decide) (by decide)]; exact h1
      have gt : m 51 b = nI (tp b) := by rw [hm.1 51 (by decide)]; exact ht b (by omega)
      have hb256 := h256 b (by omega)
      have step : isBl (tp b) = true → Sim z d 0 0 mX7_next 39 [.ref 47] [] (LAY rf tl) m Q := by
        intro hbl
        rw [rn_t (p := fun i => isBl (tp i)) hbl] at es
        refine s_aload_n (pc' := 40) dX7_next_39 rfl lg0 rfl ?_
        refine s_dup (pc' := 41) dX7_next_40 rfl rfl ?_
        refine s_getIv (pc' := 44) (v := nI b) dX7_next_41 rfl flX7_130 ly47 (by decide) rfl hm6 ?_
        refine s_iconst (pc' := 45) dX7_next_44 rfl iconst_1 ?_
        refine s_iadd (pc' := 46) dX7_next_45 rfl ?_
        rw [nI_1]
        refine s_putI (pc' := 49) (ty := .int) dX7_next_46 rfl flX7_130 fw7_6 pdI rfl rfl ly47 (by decide) rfl ?_
        refine s_goto (tgt := 0) dX7_next_49 (by decide) ?_
        exact ih (b + 1) _ (by omega) es (hm.up (by omega)) (by rw [upE, udE])
      refine s_aload_n (pc' := 1) dX7_next_0 rfl lg0 rfl ?_
      refine s_getIv (pc' := 4) (v := nI b) dX7_next_1 rfl flX7_130 ly47 (by decide) rfl hm6 ?_
      refine s_aload_n (pc' := 5) dX7_next_4 rfl lg0 rfl ?_
      refine s_getIv (pc' := 8) (v := nI sz) dX7_next_5 rfl flX7_127 ly47 (by decide) rfl g1 ?_
      refine s_icmp_ge (pc' := 11) (tgt := 52) dX7_next_8 rfl (by decide) (fun c9 => absurd c9 (nI_ge (by omega) (by omega))) (fun _ => ?_)
      refine s_aload_n (pc' := 12) dX7_next_11 rfl lg0 rfl ?_
      refine s_getRv (pc' := 15) (v := .ref 51) dX7_next_12 rfl flX7_19 ly47 (by decide) rfl rfl ?_
      refine s_aload_n (pc' := 16) dX7_next_15 rfl lg0 rfl ?_
      refine s_getIv (pc' := 19) (v := nI b) dX7_next_16 rfl flX7_130 ly47 (by decide) rfl hm6 ?_
      refine s_ialdNv (pc' := 20) (v := nI (tp b)) dX7_next_19 rfl ly51 (by omega) (by decide) gt ?_
      refine s_bipush (pc' := 22) dX7_next_20 rfl bipush_32 ?_
      by_cases c1 : tp b = 32
      · refine s_icmp_eq (pc' := 25) (tgt := 39) dX7_next_22 rfl (by decide) (fun _ => ?_) (fun c9 => absurd (by rw [c1]; decide) c9)
        exact step (by rw [c1]; decide)
      · skip
        refine s_icmp_eq (pc' := 25) (tgt := 39) dX7_next_22 rfl (by decide) (fun c9 => absurd c9 (fun e => c1 ((nI_eq (a := tp b) (b := 32) (by omega) (by omega)).mp e))) (fun _ => ?_)
        refine s_aload_n (pc' := 26) dX7_next_25 rfl lg0 rfl ?_
        refine s_getRv (pc' := 29) (v := .ref 51) dX7_next_26 rfl flX7_19 ly47 (by decide) rfl rfl ?_
        refine s_aload_n (pc' := 30) dX7_next_29 rfl lg0 rfl ?_
        refine s_getIv (pc' := 33) (v := nI b) dX7_next_30 rfl flX7_130 ly47 (by decide) rfl hm6 ?_
        refine s_ialdNv (pc' := 34) (v := nI (tp b)) dX7_next_33 rfl ly51 (by omega) (by decide) gt ?_
        refine s_bipush (pc' := 36) dX7_next_34 rfl bipush_10 ?_
        by_cases c2 : tp b = 10
        · refine s_icmp_ne (pc' := 39) (tgt := 52) dX7_next_36 rfl (by decide) (fun c9 => absurd (by rw [c2]; decide) c9) (fun _ => ?_)
          exact step (by rw [c2]; decide)
        · skip
          refine s_icmp_ne (pc' := 39) (tgt := 52) dX7_next_36 rfl (by decide) (fun _ => ?_) (fun c9 => absurd c9 (fun e => c2 ((nI_eq (a := tp b) (b := 10) (by omega) (by omega)).mp e)))
          have hbl : isBl (tp b) = false := by unfold isBl; rw [decide_eq_false c1, decide_eq_false c2]; rfl
          rw [rn_f (p := fun i => isBl (tp i)) hbl] at es
          exact tl2 b m (by omega) es hm hm6
  exact loop0 (sz - a) a mem (by omega) rfl nxf.rf h6
theorem c_X7_next {z : Zz} {d kc ks : Nat} {mi : MI} {pc pc' : Nat} {L S : List Value} {Q : Option Value → Lay → Mem → Prop} {rf : Nat → Value} {tl : Lay} {mem : Mem}  {a sz : Nat} {tp : Nat → Nat} {idx : Nat} (hd : decode mi.2.1 pc = .ok (.invokevirtual idx, 3)) (hp : pc + 3 = pc') (hlk : Cond.methodLink mi.1.cls idx yX7_next ∈ wok) (hdd : 2 + 1 ≤ d) (hcat : (S.map (fun v => v.category)).sum ≤ 8) (haz : a ≤ sz) (hsz : sz ≤ 160) (h1 : mem 47 5 = nI sz) (h6 : mem 47 6 = nI a) (ht : ∀ i, i < sz → mem 51 i = nI (tp i)) (h256 : ∀ i, i < sz → tp i < 256) (K : ∀ mem', nxf mem mem' → mem' 47 6 = nI (nxt tp sz a).1 → mem' 47 7 = nI (nxt tp sz a).2.1 → mem' 47 8 = nI (srtN tp sz (nxt tp sz a).2.1) → Sim z d kc ks mi pc' L S (LAY rf tl) mem' Q) : Sim z d kc ks mi pc L (.ref 47 :: S) (LAY rf tl) mem Q :=
  s_invV (d2 := 2) hd hp okX7_next hlk inX7_next seX7_next hdd (Nat.zero_add _) (Nat.zero_add _) rfl rfl ly47 rfl hcat (Nat.le_of_ble_eq_true rfl) (m_X7_next (Nat.le_refl _) haz hsz h1 h6 ht h256 K)

