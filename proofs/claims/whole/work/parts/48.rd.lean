/-! ===== Reader: the reading, as functions ===== -/
abbrev PS : Type := Tk × List Int32 × Int32
def isPS (mem : Mem) (tp : Nat → Nat) (sz : Nat) (st : PS) : Prop := isRd mem tp sz st.1 st.2.1 st.2.2 ∧ st.1.1 ≤ sz ∧ st.1.2.1 ≤ sz ∧ st.1.2.2.1 < 24 ∧ st.2.1.length ≤ 160
def goP (tp : Nat → Nat) (sz : Nat) (st : PS) : PS := (nxt tp sz st.1.1, st.2.1, st.2.2)
def putP (x : Int32) (st : PS) : PS := (st.1, if st.2.1.length < 160 then st.2.1 ++ [x] else st.2.1, st.2.2)
def faP (st : PS) : PS := (st.1, st.2.1, nI st.1.2.1)
def waP (tp : Nat → Nat) (sz due : Nat) (st : PS) : PS := if st.2.2 = -1 then (if st.1.2.2.1 = due then goP tp sz st else faP st) else st
theorem rdf.rf {m : Mem} : rdf m m := fun _ _ _ => rfl
theorem rdf.tr {a b c : Mem} (h1 : rdf a b) (h2 : rdf b c) : rdf a c := fun j q1 q2 => (h2 j q1 q2).trans (h1 j q1 q2)
theorem wrdN_lt {tp : Nat → Nat} {s len : Nat} : wrdN tp s len < 24 := by
  unfold wrdN
  generalize fk (wmB tp s len) 12 = q
  split
  · decide
  · split
    · omega
    · decide
theorem sgT_lt {c : Nat} : sgT c < 24 := by
  unfold sgT
  generalize sgN (nI c) = q
  split
  · omega
  · decide
theorem tS_le {tp : Nat → Nat} {sz a : Nat} (h : a ≤ sz) : tS tp sz a ≤ sz := by
  have : tS tp sz a ≤ a + (sz - a) := rn_le
  omega
theorem nxs_le {tp : Nat → Nat} {sz s : Nat} (h : s ≤ sz) : (nxs tp sz s).1 ≤ sz ∧ (nxs tp sz s).2.1 ≤ sz ∧ (nxs tp sz s).2.2.1 < 24 := by
  unfold nxs
  by_cases h1 : sz ≤ s
  · rw [if_pos h1]; exact ⟨h, h, (by decide : 21 < 24)⟩
  rw [if_neg h1]
  by_cases h2 : isLt (tp s) = true
  · rw [if_pos h2]
    have : rn (fun i => isLt (tp i)) (sz - s) s ≤ s + (sz - s) := rn_le
    refine ⟨by dsimp only; omega, h, ?_⟩
    dsimp only
    exact wrdN_lt
  rw [if_neg h2]
  by_cases h3 : isDg (tp s) = true
  · rw [if_pos h3]
    have : rn (fun i => isDg (tp i)) (sz - s) s ≤ s + (sz - s) := rn_le
    refine ⟨by dsimp only; omega, h, ?_⟩
    dsimp only
    split <;> decide
  · rw [if_neg h3]
    refine ⟨by dsimp only; omega, h, ?_⟩
    dsimp only
    exact sgT_lt (c := tp s)
theorem nxt_le {tp : Nat → Nat} {sz a : Nat} (h : a ≤ sz) : (nxt tp sz a).1 ≤ sz ∧ (nxt tp sz a).2.1 ≤ sz ∧ (nxt tp sz a).2.2.1 < 24 := nxs_le (tS_le h)
theorem go_PS {mem mem' : Mem} {tp : Nat → Nat} {sz : Nat} {st : PS} (h : isPS mem tp sz st) (h1 : tkf mem mem') (h2 : mem' 7 5 = nI (nxt tp sz st.1.1).1) (h3 : mem' 7 6 = nI (nxt tp sz st.1.1).2.1) (h4 : mem' 7 7 = nI (nxt tp sz st.1.1).2.2.1) (h5 : (nxt tp sz st.1.1).2.2.1 = 20 → mem' 7 8 = nI (nxt tp sz st.1.1).2.2.2) : isPS mem' tp sz (goP tp sz st) ∧ rdf mem mem' := by
  obtain ⟨⟨a1, a2, a3, a4, a5, a6, a7, a8, a9⟩, b1, b2, b3, b4⟩ := h
  have n := nxt_le (tp := tp) b1
  exact ⟨⟨⟨h1.2.1.trans a1, h1.2.2.1.trans a2, h1.2.2.2.trans a3, h2, h3, h4, h5, fun i hi => by rw [h1.1 8 (by decide)]; exact a8 i hi, fun k hk => by rw [h1.1 9 (by decide)]; exact a9 k hk⟩, n.1, n.2.1, n.2.2, b4⟩, fun j q1 _ => h1.1 j q1⟩
set_option maxHeartbeats 4000000 in
theorem m_X1_puts {z : Zz} {d : Nat} {Q : Option Value → Lay → Mem → Prop} {rf : Nat → Value} {tl : Lay} {mem : Mem}  {sz : Nat} {tp : Nat → Nat} {st : PS} {x : Int32} (hdd : 0 ≤ d) (hps : isPS mem tp sz st) (K : ∀ mem', isPS mem' tp sz (putP x st) → rdf mem mem' → Q none (LAY rf tl) mem') : Sim z d 0 0 mX1_puts 0 [.ref 7, .int x] [] (LAY rf tl) mem Q := by
  obtain ⟨⟨a1, a2, a3, a4, a5, a6, a7, a8, a9⟩, b1, b2, b3, b4⟩ := hps
  refine s_aload_n (pc' := 1) dX1_puts_0 rfl lg0 rfl ?_
  refine s_getIv (pc' := 4) (v := nI st.2.1.length) dX1_puts_1 rfl flX1_25 ly7 (by decide) rfl a3 ?_
  refine s_aload_n (pc' := 5) dX1_puts_4 rfl lg0 rfl ?_
  refine s_getRv (pc' := 8) (v := .ref 9) dX1_puts_5 rfl flX1_22 ly7 (by decide) rfl rfl ?_
  refine s_alen (pc' := 9) dX1_puts_8 rfl ly9 (by decide) ?_
  rcases Nat.lt_or_ge st.2.1.length 160 with q | q
  · refine s_icmp_ge (pc' := 12) (tgt := 32) dX1_puts_9 rfl (by decide) (fun c9 => absurd c9 (nI_ge (b := 160) q (by omega))) (fun _ => ?_)
    refine s_aload_n (pc' := 13) dX1_puts_12 rfl lg0 rfl ?_
    refine s_getRv (pc' := 16) (v := .ref 9) dX1_puts_13 rfl flX1_22 ly7 (by decide) rfl rfl ?_
    refine s_aload_n (pc' := 17) dX1_puts_16 rfl lg0 rfl ?_
    refine s_getIv (pc' := 20) (v := nI st.2.1.length) dX1_puts_17 rfl flX1_25 ly7 (by decide) rfl a3 ?_
    refine s_iload_n (pc' := 21) dX1_puts_20 rfl lg1 ?_
    refine s_iastN (pc' := 22) dX1_puts_21 rfl ly9 (by omega) (by decide) ?_
    refine s_aload_n (pc' := 23) dX1_puts_22 rfl lg0 rfl ?_
    refine s_dup (pc' := 24) dX1_puts_23 rfl rfl ?_
    refine s_getIv (pc' := 27) (v := nI st.2.1.length) dX1_puts_24 rfl flX1_25 ly7 (by decide) rfl (by rw [upN (by decide)]; exact a3) ?_
    refine s_iconst (pc' := 28) dX1_puts_27 rfl iconst_1 ?_
    refine s_iadd (pc' := 29) dX1_puts_28 rfl ?_
    rw [nI_1]
    refine s_putI (pc' := 32) (ty := .int) dX1_puts_29 rfl flX1_25 fw1_4 pdI rfl rfl ly7 (by decide) rfl ?_
    refine s_vret dX1_puts_32 rfl ?_
    refine K _ ⟨⟨?_, ?_, ?_, ?_, ?_, ?_, ?_, ?_, ?_⟩, b1, b2, b3, ?_⟩ (fun j q1 q2 => by rw [upN q1, upN q2])
    · rw [upE, udN (by decide), upN (by decide)]; exact a1
    · rw [upE, udN (by decide), upN (by decide)]; exact a2
    · rw [upE, udE]; unfold putP; dsimp only; rw [if_pos q, List.length_append]; rfl
    · rw [upE, udN (by decide), upN (by decide)]; exact a4
    · rw [upE, udN (by decide), upN (by decide)]; exact a5
    · rw [upE, udN (by decide), upN (by decide)]; exact a6
    · intro h; rw [upE, udN (by decide), upN (by decide)]; exact a7 h
    · intro i hi; rw [upN (by decide), upN (by decide)]; exact a8 i hi
    · unfold putP; dsimp only; rw [if_pos q]
      intro k hk
      rw [List.length_append] at hk
      have hk' : k < st.2.1.length + 1 := hk
      rw [upN (by decide), upE]
      by_cases hkl : k = st.2.1.length
      · rw [hkl, udE, List.getD_eq_getElem?_getD, List.getElem?_append_right (Nat.le_refl _), Nat.sub_self]; rfl
      · rw [udN hkl, a9 k (by omega), List.getD_eq_getElem?_getD, List.getD_eq_getElem?_getD, List.getElem?_append_left (by omega)]
    · unfold putP; dsimp only; rw [if_pos q, List.length_append]
      exact q
  · skip
    refine s_icmp_ge (pc' := 12) (tgt := 32) dX1_puts_9 rfl (by decide) (fun _ => ?_) (fun c9 => absurd (nI_le (a := 160) q (by omega)) c9)
    refine s_vret dX1_puts_32 rfl ?_
    have e : putP x st = st := by unfold putP; rw [if_neg (by omega)]
    rw [e] at K
    exact K mem ⟨⟨a1, a2, a3, a4, a5, a6, a7, a8, a9⟩, b1, b2, b3, b4⟩ rdf.rf
theorem c_X1_puts {z : Zz} {d kc ks : Nat} {mi : MI} {pc pc' : Nat} {L S : List Value} {Q : Option Value → Lay → Mem → Prop} {rf : Nat → Value} {tl : Lay} {mem : Mem}  {sz : Nat} {tp : Nat → Nat} {st : PS} {x : Int32} {idx : Nat} (hd : decode mi.2.1 pc = .ok (.invokevirtual idx, 3)) (hp : pc + 3 = pc') (hlk : Cond.methodLink mi.1.cls idx yX1_puts ∈ wok) (hdd : 0 + 1 ≤ d) (hcat : (S.map (fun v => v.category)).sum ≤ 8) (hps : isPS mem tp sz st) (K : ∀ mem', isPS mem' tp sz (putP x st) → rdf mem mem' → Sim z d kc ks mi pc' L S (LAY rf tl) mem' Q) : Sim z d kc ks mi pc L (.int x :: .ref 7 :: S) (LAY rf tl) mem Q :=
  s_invV (d2 := 0) hd hp okX1_puts hlk inX1_puts seX1_puts hdd (Nat.zero_add _) (Nat.zero_add _) rfl rfl ly7 rfl hcat (Nat.le_of_ble_eq_true rfl) (m_X1_puts (Nat.le_refl _) hps K)
def lvI (v : Int32) : Int32 := if v = 9 then 0 else if v = 10 then 1 else if v = 15 then 3 else if v = 16 then 3 else if v = 17 then 4 else if v = 18 then 2 else if v = 19 then 2 else -1
def lvN (t : Nat) : Nat := if t = 9 then 0 else if t = 10 then 1 else if t = 15 then 3 else if t = 16 then 3 else if t = 17 then 4 else if t = 18 then 2 else if t = 19 then 2 else 9
theorem lv_all : ∀ (t : Fin 24) (l : Fin 6), decide (lvI (nI t.1) = nI l.1) = decide (lvN t.1 = l.1) := by decide +kernel
theorem lv_eq {t l : Nat} (ht : t < 24) (hl : l < 6) : (lvI (nI t) = nI l) = (lvN t = l) := propext (decide_eq_decide.mp (lv_all ⟨t, ht⟩ ⟨l, hl⟩))
set_option maxHeartbeats 4000000 in
theorem m_X1_levelJoinedBy {z : Zz} {d : Nat} {Q : Option Value → Lay → Mem → Prop} {lay : Lay} {mem : Mem} {v : Int32} (hdd : 0 ≤ d)  (K :  Q (some (.int (lvI v))) lay mem) : Sim z d 0 0 mX1_levelJoinedBy 0 [.int v] [] (lay) mem Q := by
  refine s_iload_n (pc' := 1) dX1_levelJoinedBy_0 rfl lg0 ?_
  refine s_ts11 (v0 := 9) (v1 := 10) (v2 := 11) (v3 := 12) (v4 := 13) (v5 := 14) (v6 := 15) (v7 := 16) (v8 := 17) (v9 := 18) (v10 := 19) (t0 := 60) (t1 := 62) (t2 := 70) (t3 := 70) (t4 := 70) (t5 := 70) (t6 := 66) (t7 := 66) (t8 := 68) (t9 := 64) (t10 := 64) (td := 70) dX1_levelJoinedBy_1 (by decide) (by decide) (by decide) (by decide) (by decide) (by decide) (by decide) (by decide) (by decide) (by decide) (by decide) (by decide) (by decide) (by decide) (by decide) (by decide) (by decide) (by decide) (by decide) (by decide) (by decide) (by decide) (by decide) (by decide) (fun e1 => ?_) (fun e1 => ?_) (fun e1 => ?_) (fun e1 => ?_) (fun e1 => ?_) (fun e1 => ?_) (fun e1 => ?_) (fun e1 => ?_) (fun e1 => ?_) (fun e1 => ?_) (fun e1 => ?_) (fun e1_0 e1_1 e1_2 e1_3 e1_4 e1_5 e1_6 e1_7 e1_8 e1_9 e1_10 => ?_)
  · refine s_iconst (pc' := 61) dX1_levelJoinedBy_60 rfl iconst_0 ?_
    refine s_iret dX1_levelJoinedBy_61 rfl (vp_nar_int _) ?_
    (simpa [lvI, e1] using K)
  · refine s_iconst (pc' := 63) dX1_levelJoinedBy_62 rfl iconst_1 ?_
    refine s_iret dX1_levelJoinedBy_63 rfl (vp_nar_int _) ?_
    (simpa [lvI, e1] using K)
  · refine s_iconst (pc' := 71) dX1_levelJoinedBy_70 rfl iconst_m1 ?_
    refine s_iret dX1_levelJoinedBy_71 rfl (vp_nar_int _) ?_
    (simpa [lvI, e1] using K)
  · refine s_iconst (pc' := 71) dX1_levelJoinedBy_70 rfl iconst_m1 ?_
    refine s_iret dX1_levelJoinedBy_71 rfl (vp_nar_int _) ?_
    (simpa [lvI, e1] using K)
  · refine s_iconst (pc' := 71) dX1_levelJoinedBy_70 rfl iconst_m1 ?_
    refine s_iret dX1_levelJoinedBy_71 rfl (vp_nar_int _) ?_
    (simpa [lvI, e1] using K)
  · refine s_iconst (pc' := 71) dX1_levelJoinedBy_70 rfl iconst_m1 ?_
    refine s_iret dX1_levelJoinedBy_71 rfl (vp_nar_int _) ?_
    (simpa [lvI, e1] using K)
  · refine s_iconst (pc' := 67) dX1_levelJoinedBy_66 rfl iconst_3 ?_
    refine s_iret dX1_levelJoinedBy_67 rfl (vp_nar_int _) ?_
    (simpa [lvI, e1] using K)
  · refine s_iconst (pc' := 67) dX1_levelJoinedBy_66 rfl iconst_3 ?_
    refine s_iret dX1_levelJoinedBy_67 rfl (vp_nar_int _) ?_
    (simpa [lvI, e1] using K)
  · refine s_iconst (pc' := 69) dX1_levelJoinedBy_68 rfl iconst_4 ?_
    refine s_iret dX1_levelJoinedBy_69 rfl (vp_nar_int _) ?_
    (simpa [lvI, e1] using K)
  · refine s_iconst (pc' := 65) dX1_levelJoinedBy_64 rfl iconst_2 ?_
    refine s_iret dX1_levelJoinedBy_65 rfl (vp_nar_int _) ?_
    (simpa [lvI, e1] using K)
  · refine s_iconst (pc' := 65) dX1_levelJoinedBy_64 rfl iconst_2 ?_
    refine s_iret dX1_levelJoinedBy_65 rfl (vp_nar_int _) ?_
    (simpa [lvI, e1] using K)
  · refine s_iconst (pc' := 71) dX1_levelJoinedBy_70 rfl iconst_m1 ?_
    refine s_iret dX1_levelJoinedBy_71 rfl (vp_nar_int _) ?_
    (simpa [lvI, e1_0, e1_1, e1_2, e1_3, e1_4, e1_5, e1_6, e1_7, e1_8, e1_9, e1_10] using K)
theorem c_X1_levelJoinedBy {z : Zz} {d kc ks : Nat} {mi : MI} {pc pc' : Nat} {L S : List Value} {Q : Option Value → Lay → Mem → Prop} {lay : Lay} {mem : Mem} {v : Int32} {idx : Nat} (hd : decode mi.2.1 pc = .ok (.invokestatic idx, 3)) (hp : pc + 3 = pc') (hlk : Cond.methodLink mi.1.cls idx yX1_levelJoinedBy ∈ wok) (hdd : 0 + 1 ≤ d) (hcat : (S.map (fun v => v.category)).sum ≤ 8)  (K :  Sim z d kc ks mi pc' L (.int (lvI v) :: S) lay mem Q) : Sim z d kc ks mi pc L (.int v :: S) (lay) mem Q :=
  s_invS (d2 := 0) hd hp okX1_levelJoinedBy hlk stX1_levelJoinedBy hdd (Nat.zero_add _) (Nat.zero_add _) rfl rfl hcat (Nat.le_of_ble_eq_true rfl) (m_X1_levelJoinedBy (Nat.le_refl _)  K)
set_option maxHeartbeats 4000000 in
theorem m_X1_wants {z : Zz} {d : Nat} {Q : Option Value → Lay → Mem → Prop} {rf : Nat → Value} {tl : Lay} {mem : Mem}  {sz due : Nat} {tp : Nat → Nat} {st : PS} (hdd : 6 ≤ d) (hps : isPS mem tp sz st) (hsz : sz ≤ 160) (h256 : ∀ i, i < sz → tp i < 256) (hdue : due < 24) (K : ∀ mem', isPS mem' tp sz (waP tp sz due st) → rdf mem mem' → Q none (LAY rf tl) mem') : Sim z d 0 0 mX1_wants 0 [.ref 7, .int (nI due)] [] (LAY rf tl) mem Q := by
  have hp := hps
  obtain ⟨⟨a1, a2, a3, a4, a5, a6, a7, a8, a9⟩, b1, b2, b3, b4⟩ := hp
  unfold waP at K
  refine s_aload_n (pc' := 1) dX1_wants_0 rfl lg0 rfl ?_
  refine s_getIv (pc' := 4) (v := st.2.2) dX1_wants_1 rfl flX1_19 ly7 (by decide) rfl a2 ?_
  refine s_iconst (pc' := 5) dX1_wants_4 rfl iconst_m1 ?_
  refine s_icmp_eq (pc' := 8) (tgt := 9) dX1_wants_5 rfl (by decide) (fun c1 => ?_) (fun c1 => ?_)
  · skip
    rw [if_pos c1] at K
    refine s_aload_n (pc' := 10) dX1_wants_9 rfl lg0 rfl ?_
    refine s_getIv (pc' := 13) (v := nI st.1.2.2.1) dX1_wants_10 rfl flX1_34 ly7 (by decide) rfl a6 ?_
    refine s_iload_n (pc' := 14) dX1_wants_13 rfl lg1 ?_
    refine s_icmp_ne (pc' := 17) (tgt := 24) dX1_wants_14 rfl (by decide) (fun c2 => ?_) (fun c2 => ?_)
    · skip
      rw [nI_eqN (by omega) (by omega)] at c2
      rw [if_neg c2] at K
      refine s_aload_n (pc' := 25) dX1_wants_24 rfl lg0 rfl ?_
      refine s_aload_n (pc' := 26) dX1_wants_25 rfl lg0 rfl ?_
      refine s_getIv (pc' := 29) (v := nI st.1.2.1) dX1_wants_26 rfl flX1_31 ly7 (by decide) rfl a5 ?_
      refine s_putI (pc' := 32) (ty := .int) dX1_wants_29 rfl flX1_19 fw1_2 pdI rfl rfl ly7 (by decide) rfl ?_
      refine s_vret dX1_wants_32 rfl ?_
      refine K _ ⟨⟨?_, ?_, ?_, ?_, ?_, ?_, ?_, ?_, ?_⟩, b1, b2, b3, b4⟩ (fun j q1 q2 => upN q1)
      · rw [upE, udN (by decide)]; exact a1
      · rw [upE, udE]; rfl
      · rw [upE, udN (by decide)]; exact a3
      · rw [upE, udN (by decide)]; exact a4
      · rw [upE, udN (by decide)]; exact a5
      · rw [upE, udN (by decide)]; exact a6
      · intro h; rw [upE, udN (by decide)]; exact a7 h
      · intro i hi; rw [upN (by decide)]; exact a8 i hi
      · intro k hk; rw [upN (by decide)]; exact a9 k hk
    · skip
      rw [nI_eqN (by omega) (by omega)] at c2
      rw [if_pos c2] at K
      refine s_aload_n (pc' := 18) dX1_wants_17 rfl lg0 rfl ?_
      refine c_X1_goesOn  (pc' := 21) dX1_wants_18 rfl lkX1_40 (by omega) (Nat.le_of_ble_eq_true rfl) b1 hsz a1 a4 a8 h256 (fun m1 h1 h2 h3 h4 h5 => ?_)
      obtain ⟨g1, g2⟩ := go_PS hps h1 h2 h3 h4 h5
      refine s_goto (tgt := 32) dX1_wants_21 (by decide) ?_
      refine s_vret dX1_wants_32 rfl ?_
      exact K m1 g1 g2
  · skip
    rw [if_neg c1] at K
    refine s_vret dX1_wants_8 rfl ?_
    exact K mem hps rdf.rf
theorem c_X1_wants {z : Zz} {d kc ks : Nat} {mi : MI} {pc pc' : Nat} {L S : List Value} {Q : Option Value → Lay → Mem → Prop} {rf : Nat → Value} {tl : Lay} {mem : Mem}  {sz due : Nat} {tp : Nat → Nat} {st : PS} {idx : Nat} (hd : decode mi.2.1 pc = .ok (.invokevirtual idx, 3)) (hp : pc + 3 = pc') (hlk : Cond.methodLink mi.1.cls idx yX1_wants ∈ wok) (hdd : 6 + 1 ≤ d) (hcat : (S.map (fun v => v.category)).sum ≤ 8) (hps : isPS mem tp sz st) (hsz : sz ≤ 160) (h256 : ∀ i, i < sz → tp i < 256) (hdue : due < 24) (K : ∀ mem', isPS mem' tp sz (waP tp sz due st) → rdf mem mem' → Sim z d kc ks mi pc' L S (LAY rf tl) mem' Q) : Sim z d kc ks mi pc L (.int (nI due) :: .ref 7 :: S) (LAY rf tl) mem Q :=
  s_invV (d2 := 6) hd hp okX1_wants hlk inX1_wants seX1_wants hdd (Nat.zero_add _) (Nat.zero_add _) rfl rfl ly7 rfl hcat (Nat.le_of_ble_eq_true rfl) (m_X1_wants (Nat.le_refl _) hps hsz h256 hdue K)

