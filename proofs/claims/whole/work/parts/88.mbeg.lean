/-! ===== the Model's reader: between, begin ===== -/
def btI (t : Nat) : Int32 := if lvN t < 5 then toM (-1 - nI t) else 0
theorem wd_eq {t k : Nat} (hk : k < 12) : (wdI t = nI k) ↔ t = k := by
  unfold wdI
  by_cases h : t < 12
  · rw [if_pos h]; exact nI_eq (by omega) (by omega)
  · rw [if_neg h]
    constructor
    · intro e; exact absurd e.symm (nI_m1 (by omega))
    · intro e; omega
theorem bI_0 {b : Bool} : (bI b = 0) ↔ b = false := by cases b <;> decide
theorem dec_bI {p : Prop} [Decidable p] : (bI (decide p) = 0) ↔ ¬ p := by
  rw [bI_0]; exact decide_eq_false_iff_not
set_option maxHeartbeats 4000000 in
theorem m_X7_between {z : Zz} {d : Nat} {Q : Option Value → Lay → Mem → Prop} {rf : Nat → Value} {tl : Lay} {mem : Mem}  {s sz : Nat} {tp : Nat → Nat} (hdd : 1 ≤ d) (hs : s ≤ sz) (hsz : sz ≤ 160) (h6 : mem 47 6 = nI (nxs tp sz s).1) (h7 : mem 47 7 = nI s) (h8 : mem 47 8 = nI (srtN tp sz s)) (ht : ∀ i, i < sz → mem 51 i = nI (tp i)) (h256 : ∀ i, i < sz → tp i < 256) (hnm : ∀ k, k < 84 → mem 54 k = nI (NM k)) (K :  Q (some (.int (btI (nxs tp sz s).2.2.1))) (LAY rf tl) mem) : Sim z d 0 0 mX7_between 0 [.ref 47, .float 0] [] (LAY rf tl) mem Q := by
  refine s_aload_n (pc' := 1) dX7_between_0 rfl lg0 rfl ?_
  refine c_X7_word  (pc' := 4) dX7_between_1 rfl lkX7_161 (by omega) (Nat.le_of_ble_eq_true rfl) hs hsz h6 h7 h8 ht h256 hnm ?_
  have s18 := sg_tok (s := s) h256 tc18 (by decide)
  have s19 := sg_tok (s := s) h256 tc19 (by decide)
  have s15 := sg_tok (s := s) h256 tc15 (by decide)
  have s16 := sg_tok (s := s) h256 tc16 (by decide)
  have s17 := sg_tok (s := s) h256 tc17 (by decide)
  generalize (nxs tp sz s).2.2.1 = t at K s18 s19 s15 s16 s17 ⊢
  refine s_istore_n (pc' := 5) dX7_between_4 rfl (Nat.le_of_ble_eq_true rfl) rfl ls1 ?_
  refine s_iload_n (pc' := 6) dX7_between_5 rfl lg1 ?_
  refine s_bipush (pc' := 8) dX7_between_6 rfl bipush_9 ?_
  by_cases w9 : t = 9
  · refine s_icmp_ne (pc' := 11) (tgt := 16) dX7_between_8 rfl (by decide) (fun c9 => absurd ((wd_eq (k := 9) (by decide)).mpr w9) c9) (fun _ => ?_)
    rw [w9, show btI 9 = -20 from by decide] at K
    refine s_bipush (pc' := 13) dX7_between_11 rfl bipush_m20 ?_
    refine s_goto (tgt := 98) dX7_between_13 (by decide) ?_
    refine s_iret dX7_between_98 rfl (vp_nar_int _) ?_
    exact K
  · skip
    refine s_icmp_ne (pc' := 11) (tgt := 16) dX7_between_8 rfl (by decide) (fun _ => ?_) (fun c9 => absurd c9 (fun e => w9 ((wd_eq (k := 9) (by decide)).mp e)))
    refine s_iload_n (pc' := 17) dX7_between_16 rfl lg1 ?_
    refine s_bipush (pc' := 19) dX7_between_17 rfl bipush_10 ?_
    by_cases c10 : t = 10
    · refine s_icmp_ne (pc' := 22) (tgt := 27) dX7_between_19 rfl (by decide) (fun c9 => absurd ((wd_eq (k := 10) (by decide)).mpr c10) c9) (fun _ => ?_)
      rw [c10, show btI 10 = -21 from by decide] at K
      refine s_bipush (pc' := 24) dX7_between_22 rfl bipush_m21 ?_
      refine s_goto (tgt := 98) dX7_between_24 (by decide) ?_
      refine s_iret dX7_between_98 rfl (vp_nar_int _) ?_
      exact K
    · skip
      refine s_icmp_ne (pc' := 22) (tgt := 27) dX7_between_19 rfl (by decide) (fun _ => ?_) (fun c9 => absurd c9 (fun e => c10 ((wd_eq (k := 10) (by decide)).mp e)))
      refine s_aload_n (pc' := 28) dX7_between_27 rfl lg0 rfl ?_
      refine s_bipush (pc' := 30) dX7_between_28 rfl bipush_60 ?_
      refine c_X7_isSign (c := 60) (pc' := 33) dX7_between_30 rfl lkX7_164 (by omega) (Nat.le_of_ble_eq_true rfl) hsz h7 h8 ht h256 (by decide) ?_
      rw [s18]
      by_cases c18 : t = 18
      · refine s_if_eq (pc' := 36) (tgt := 41) dX7_between_33 rfl (by decide) (fun c9 => absurd c9 (fun e => (dec_bI.mp e) c18)) (fun _ => ?_)
        rw [c18, show btI 18 = -23 from by decide] at K
        refine s_bipush (pc' := 38) dX7_between_36 rfl bipush_m23 ?_
        refine s_goto (tgt := 98) dX7_between_38 (by decide) ?_
        refine s_iret dX7_between_98 rfl (vp_nar_int _) ?_
        exact K
      · skip
        refine s_if_eq (pc' := 36) (tgt := 41) dX7_between_33 rfl (by decide) (fun _ => ?_) (fun c9 => absurd (dec_bI.mpr c18) c9)
        refine s_aload_n (pc' := 42) dX7_between_41 rfl lg0 rfl ?_
        refine s_bipush (pc' := 44) dX7_between_42 rfl bipush_61 ?_
        refine c_X7_isSign (c := 61) (pc' := 47) dX7_between_44 rfl lkX7_164 (by omega) (Nat.le_of_ble_eq_true rfl) hsz h7 h8 ht h256 (by decide) ?_
        rw [s19]
        by_cases c19 : t = 19
        · refine s_if_eq (pc' := 50) (tgt := 55) dX7_between_47 rfl (by decide) (fun c9 => absurd c9 (fun e => (dec_bI.mp e) c19)) (fun _ => ?_)
          rw [c19, show btI 19 = -24 from by decide] at K
          refine s_bipush (pc' := 52) dX7_between_50 rfl bipush_m24 ?_
          refine s_goto (tgt := 98) dX7_between_52 (by decide) ?_
          refine s_iret dX7_between_98 rfl (vp_nar_int _) ?_
          exact K
        · skip
          refine s_if_eq (pc' := 50) (tgt := 55) dX7_between_47 rfl (by decide) (fun _ => ?_) (fun c9 => absurd (dec_bI.mpr c19) c9)
          refine s_aload_n (pc' := 56) dX7_between_55 rfl lg0 rfl ?_
          refine s_bipush (pc' := 58) dX7_between_56 rfl bipush_43 ?_
          refine c_X7_isSign (c := 43) (pc' := 61) dX7_between_58 rfl lkX7_164 (by omega) (Nat.le_of_ble_eq_true rfl) hsz h7 h8 ht h256 (by decide) ?_
          rw [s15]
          by_cases c15 : t = 15
          · refine s_if_eq (pc' := 64) (tgt := 69) dX7_between_61 rfl (by decide) (fun c9 => absurd c9 (fun e => (dec_bI.mp e) c15)) (fun _ => ?_)
            rw [c15, show btI 15 = -25 from by decide] at K
            refine s_bipush (pc' := 66) dX7_between_64 rfl bipush_m25 ?_
            refine s_goto (tgt := 98) dX7_between_66 (by decide) ?_
            refine s_iret dX7_between_98 rfl (vp_nar_int _) ?_
            exact K
          · skip
            refine s_if_eq (pc' := 64) (tgt := 69) dX7_between_61 rfl (by decide) (fun _ => ?_) (fun c9 => absurd (dec_bI.mpr c15) c9)
            refine s_aload_n (pc' := 70) dX7_between_69 rfl lg0 rfl ?_
            refine s_bipush (pc' := 72) dX7_between_70 rfl bipush_45 ?_
            refine c_X7_isSign (c := 45) (pc' := 75) dX7_between_72 rfl lkX7_164 (by omega) (Nat.le_of_ble_eq_true rfl) hsz h7 h8 ht h256 (by decide) ?_
            rw [s16]
            by_cases c16 : t = 16
            · refine s_if_eq (pc' := 78) (tgt := 83) dX7_between_75 rfl (by decide) (fun c9 => absurd c9 (fun e => (dec_bI.mp e) c16)) (fun _ => ?_)
              rw [c16, show btI 16 = -26 from by decide] at K
              refine s_bipush (pc' := 80) dX7_between_78 rfl bipush_m26 ?_
              refine s_goto (tgt := 98) dX7_between_80 (by decide) ?_
              refine s_iret dX7_between_98 rfl (vp_nar_int _) ?_
              exact K
            · skip
              refine s_if_eq (pc' := 78) (tgt := 83) dX7_between_75 rfl (by decide) (fun _ => ?_) (fun c9 => absurd (dec_bI.mpr c16) c9)
              refine s_aload_n (pc' := 84) dX7_between_83 rfl lg0 rfl ?_
              refine s_bipush (pc' := 86) dX7_between_84 rfl bipush_42 ?_
              refine c_X7_isSign (c := 42) (pc' := 89) dX7_between_86 rfl lkX7_164 (by omega) (Nat.le_of_ble_eq_true rfl) hsz h7 h8 ht h256 (by decide) ?_
              rw [s17]
              by_cases c17 : t = 17
              · refine s_if_eq (pc' := 92) (tgt := 97) dX7_between_89 rfl (by decide) (fun c9 => absurd c9 (fun e => (dec_bI.mp e) c17)) (fun _ => ?_)
                rw [c17, show btI 17 = -27 from by decide] at K
                refine s_bipush (pc' := 94) dX7_between_92 rfl bipush_m27 ?_
                refine s_goto (tgt := 98) dX7_between_94 (by decide) ?_
                refine s_iret dX7_between_98 rfl (vp_nar_int _) ?_
                exact K
              · skip
                refine s_if_eq (pc' := 92) (tgt := 97) dX7_between_89 rfl (by decide) (fun _ => ?_) (fun c9 => absurd (dec_bI.mpr c17) c9)
                have e0 : btI t = 0 := by
                  unfold btI lvN
                  rw [if_neg w9, if_neg c10, if_neg c15, if_neg c16, if_neg c17, if_neg c18, if_neg c19, if_neg (by decide)]
                rw [e0] at K
                refine s_iconst (pc' := 98) dX7_between_97 rfl iconst_0 ?_
                refine s_iret dX7_between_98 rfl (vp_nar_int _) ?_
                exact K
theorem c_X7_between {z : Zz} {d kc ks : Nat} {mi : MI} {pc pc' : Nat} {L S : List Value} {Q : Option Value → Lay → Mem → Prop} {rf : Nat → Value} {tl : Lay} {mem : Mem}  {s sz : Nat} {tp : Nat → Nat} {idx : Nat} (hd : decode mi.2.1 pc = .ok (.invokevirtual idx, 3)) (hp : pc + 3 = pc') (hlk : Cond.methodLink mi.1.cls idx yX7_between ∈ wok) (hdd : 1 + 1 ≤ d) (hcat : (S.map (fun v => v.category)).sum ≤ 8) (hs : s ≤ sz) (hsz : sz ≤ 160) (h6 : mem 47 6 = nI (nxs tp sz s).1) (h7 : mem 47 7 = nI s) (h8 : mem 47 8 = nI (srtN tp sz s)) (ht : ∀ i, i < sz → mem 51 i = nI (tp i)) (h256 : ∀ i, i < sz → tp i < 256) (hnm : ∀ k, k < 84 → mem 54 k = nI (NM k)) (K :  Sim z d kc ks mi pc' L (.int (btI (nxs tp sz s).2.2.1) :: S) (LAY rf tl) mem Q) : Sim z d kc ks mi pc L (.ref 47 :: S) (LAY rf tl) mem Q :=
  s_invV (d2 := 1) hd hp okX7_between hlk inX7_between seX7_between hdd (Nat.zero_add _) (Nat.zero_add _) rfl rfl ly47 rfl hcat (Nat.le_of_ble_eq_true rfl) (m_X7_between (Nat.le_refl _) hs hsz h6 h7 h8 ht h256 hnm K)
def bgS (t dg : Nat) (W : List Nat) (c : List Int32) : Nat × List Nat × List Int32 := if t < 6 then (1, W, c ++ [-1 - nI t]) else if t = 20 then (1, W, c ++ [nI dg]) else if (t = 12 ∨ t = 16 ∨ (t = 11 ∧ rkT W ≤ 3)) ∧ ¬ opc W = 5 then (2, (if t = 16 then 23 else t) :: W, c) else (0, W, c)
theorem isMP.wr {mem : Mem} {tp : Nat → Nat} {sz nt : Nat} {q : Tk} {W : List Nat} {c : List Int32} {x y : Int32} (h : isMP mem tp sz nt q W c) (hx : x = toM y) : isMP (am_up (am_up mem 52 (160 * nt + c.length) x) 47 13 (nI (c.length + 1))) tp sz nt q W (c ++ [y]) ∧ mpf nt mem (am_up (am_up mem 52 (160 * nt + c.length) x) 47 13 (nI (c.length + 1))) := by
  have hf : mpf nt mem (am_up (am_up mem 52 (160 * nt + c.length) x) 47 13 (nI (c.length + 1))) := ⟨fun j q1 q2 q3 => by rw [upN q1, upN q2], fun k q1 q2 q3 q4 q5 q6 => by rw [upE, udN q5, upN (by decide)], fun k hk => by rw [upN (by decide), upE, udN (by omega)]⟩
  obtain ⟨hB, ⟨h6, h7, h8⟩, ⟨h9, h13, h16⟩, hws, hcs⟩ := h
  refine ⟨⟨hB.mpf hf, ⟨?_, ?_, ?_⟩, ⟨?_, ?_, ?_⟩, ?_, ?_⟩, hf⟩
  · rw [upE, udN (by decide), upN (by decide)]; exact h6
  · rw [upE, udN (by decide), upN (by decide)]; exact h7
  · rw [upE, udN (by decide), upN (by decide)]; exact h8
  · rw [upE, udN (by decide), upN (by decide)]; exact h9
  · rw [upE, udE, List.length_append]; rfl
  · rw [upE, udN (by decide), upN (by decide)]; exact h16
  · exact hws.cp (by rw [upN (by decide), upN (by decide)])
  · rw [hx]; exact cst.cp (mem := am_up mem 52 (160 * nt + c.length) (toM y)) hcs.push (by rw [upN (by decide)])
theorem isMP.aw {mem : Mem} {tp : Nat → Nat} {sz nt w : Nat} {q : Tk} {W : List Nat} {c : List Int32} (h : isMP mem tp sz nt q W c) (hw : ¬ (w = 11 ∨ w = 12 ∨ w = 23)) : isMP (am_up (am_up mem 55 W.length (dM w)) 47 16 (nI (W.length + 1))) tp sz nt q (w :: W) c ∧ mpf nt mem (am_up (am_up mem 55 W.length (dM w)) 47 16 (nI (W.length + 1))) := by
  have hf : mpf nt mem (am_up (am_up mem 55 W.length (dM w)) 47 16 (nI (W.length + 1))) := ⟨fun j q1 q2 q3 => by rw [upN q1, upN q3], fun k q1 q2 q3 q4 q5 q6 => by rw [upE, udN q6, upN (by decide)], fun k hk => by rw [upN (by decide), upN (by decide)]⟩
  obtain ⟨hB, ⟨h6, h7, h8⟩, ⟨h9, h13, h16⟩, hws, hcs⟩ := h
  refine ⟨⟨hB.mpf hf, ⟨?_, ?_, ?_⟩, ⟨?_, ?_, ?_⟩, ?_, ?_⟩, hf⟩
  · rw [upE, udN (by decide), upN (by decide)]; exact h6
  · rw [upE, udN (by decide), upN (by decide)]; exact h7
  · rw [upE, udN (by decide), upN (by decide)]; exact h8
  · rw [upE, udN (by decide), upN (by decide), show opc (w :: W) = opc W + (if w = 11 ∨ w = 12 ∨ w = 23 then 1 else 0) from rfl, if_neg hw]; exact h9
  · rw [upE, udN (by decide), upN (by decide)]; exact h13
  · rw [upE, udE]; rfl
  · exact wst.cp (mem := am_up mem 55 W.length (dM w)) hws.push (by rw [upN (by decide)])
  · exact hcs.cp (by rw [upN (by decide), upN (by decide)])
theorem isMP.aw1 {mem : Mem} {tp : Nat → Nat} {sz nt w : Nat} {q : Tk} {W : List Nat} {c : List Int32} (h : isMP mem tp sz nt q W c) (hw : w = 11 ∨ w = 12 ∨ w = 23) : isMP (am_up (am_up (am_up mem 47 9 (nI (opc W + 1))) 55 W.length (dM w)) 47 16 (nI (W.length + 1))) tp sz nt q (w :: W) c ∧ mpf nt mem (am_up (am_up (am_up mem 47 9 (nI (opc W + 1))) 55 W.length (dM w)) 47 16 (nI (W.length + 1))) := by
  have hf : mpf nt mem (am_up (am_up (am_up mem 47 9 (nI (opc W + 1))) 55 W.length (dM w)) 47 16 (nI (W.length + 1))) := ⟨fun j q1 q2 q3 => by rw [upN q1, upN q3, upN q1], fun k q1 q2 q3 q4 q5 q6 => by rw [upE, udN q6, upN (by decide), upE, udN q4], fun k hk => by rw [upN (by decide), upN (by decide), upN (by decide)]⟩
  obtain ⟨hB, ⟨h6, h7, h8⟩, ⟨h9, h13, h16⟩, hws, hcs⟩ := h
  refine ⟨⟨hB.mpf hf, ⟨?_, ?_, ?_⟩, ⟨?_, ?_, ?_⟩, ?_, ?_⟩, hf⟩
  · rw [upE, udN (by decide), upN (by decide), upE, udN (by decide)]; exact h6
  · rw [upE, udN (by decide), upN (by decide), upE, udN (by decide)]; exact h7
  · rw [upE, udN (by decide), upN (by decide), upE, udN (by decide)]; exact h8
  · rw [upE, udN (by decide), upN (by decide), upE, udE, show opc (w :: W) = opc W + (if w = 11 ∨ w = 12 ∨ w = 23 then 1 else 0) from rfl, if_pos hw]
  · rw [upE, udN (by decide), upN (by decide), upE, udN (by decide)]; exact h13
  · rw [upE, udE]; rfl
  · refine wst.cp (mem := am_up (am_up mem 47 9 (nI (opc W + 1))) 55 W.length (dM w)) (wst.push (hws.cp (by rw [upN (by decide)]))) (by rw [upN (by decide)])
  · exact hcs.cp (by rw [upN (by decide), upN (by decide), upN (by decide)])
theorem num_tm {v : Nat} (h : v < 10000) : nI v = toM (nI v) := by
  have hn : ¬ 0 ≤ -1 - nI v := by
    rw [Int32.le_iff_toInt_le, m1c_int, nI_toInt (by omega), show (0 : Int32).toInt = 0 from by decide]
    omega
  exact (toM_num hn).symm
theorem nam_tm {t : Nat} (h : t < 6) : -10 - nI t = toM (-1 - nI t) := by
  have key : ∀ t : Fin 6, -10 - nI t.1 = toM (-1 - nI t.1) := by decide +kernel
  exact key ⟨t, h⟩
theorem wd_in {t : Nat} (h : t < 24) : inB (wdI t) 0 5 = bI (decide (t < 6)) := by
  have key : ∀ t : Fin 24, inB (wdI t.1) 0 5 = bI (decide (t.1 < 6)) := by decide +kernel
  exact key ⟨t, h⟩
set_option maxHeartbeats 4000000 in
theorem m_X7_begin {z : Zz} {d : Nat} {Q : Option Value → Lay → Mem → Prop} {rf : Nat → Value} {tl : Lay} {mem : Mem}  {sz nt : Nat} {tp : Nat → Nat} {q : Tk} {W : List Nat} {c : List Int32} (hdd : 2 ≤ d) (hP : isMP mem tp sz nt q W c) (eq : nxs tp sz q.2.1 = q) (hs : q.2.1 ≤ sz) (hsz : sz ≤ 160) (h256 : ∀ i, i < sz → tp i < 256) (hnt : nt < 6) (hlW : W.length < 160) (hlc : c.length < 160) (hk : ∀ w ∈ W, wtk w) (ho : opc W ≤ 5) (K : ∀ mem', isMP mem' tp sz nt q (bgS q.2.2.1 q.2.2.2 W c).2.1 (bgS q.2.2.1 q.2.2.2 W c).2.2 → mpf nt mem mem' → Q (some (.int (nI (bgS q.2.2.1 q.2.2.2 W c).1))) (LAY rf tl) mem') : Sim z d 0 0 mX7_begin 0 [.ref 47, .float 0, .float 0] [] (LAY rf tl) mem Q := by
  obtain ⟨⟨b5, b12, ht, hnm⟩, ⟨h6, h7, h8⟩, ⟨h9, h13, h16⟩, hws, hcs⟩ := id hP
  have hok := nxs_ok (tp := tp) hs
  have hle := nxs_le (tp := tp) hs
  have s12 := sg_tok (s := q.2.1) h256 tc12 (by decide)
  have s16 := sg_tok (s := q.2.1) h256 tc16 (by decide)
  have t0 := fun h => tok_0 (tp := tp) (sz := sz) (s := q.2.1) h
  have t1 := fun h => (tok_1 (tp := tp) (sz := sz) (s := q.2.1) h).1
  have t2 := fun h => tok_2 (tp := tp) (sz := sz) (s := q.2.1) h
  have t3 := fun h => (tok_3 (tp := tp) (sz := sz) (s := q.2.1) h).1
  have hs4 := srtN_le (tp := tp) (sz := sz) (i := q.2.1)
  rw [eq] at hok hle s12 s16 t0 t1 t2 t3
  have h24 := hle.2.2
  have h6' : mem 47 6 = nI (nxs tp sz q.2.1).1 := by rw [eq]; exact h6
  refine s_aload_n (pc' := 1) dX7_begin_0 rfl lg0 rfl ?_
  refine c_X7_word  (pc' := 4) dX7_begin_1 rfl lkX7_161 (by omega) (Nat.le_of_ble_eq_true rfl) hs hsz h6' h7 h8 ht h256 hnm ?_
  rw [eq]
  refine s_istore_n (pc' := 5) dX7_begin_4 rfl (Nat.le_of_ble_eq_true rfl) rfl ls1 ?_
  refine s_iload_n (pc' := 6) dX7_begin_5 rfl lg1 ?_
  refine s_iconst (pc' := 7) dX7_begin_6 rfl iconst_0 ?_
  refine s_iconst (pc' := 8) dX7_begin_7 rfl iconst_5 ?_
  refine c_X7_isIn  (pc' := 11) dX7_begin_8 rfl lkX7_86 (by omega) (Nat.le_of_ble_eq_true rfl) ?_
  rw [wd_in h24]
  unfold bgS at K
  by_cases c6 : q.2.2.1 < 6
  · simp only [if_pos c6] at K
    refine s_if_eq (pc' := 14) (tgt := 24) dX7_begin_11 rfl (by decide) (fun c9 => absurd c9 (fun e => (dec_bI.mp e) c6)) (fun _ => ?_)
    refine s_aload_n (pc' := 15) dX7_begin_14 rfl lg0 rfl ?_
    refine s_bipush (pc' := 17) dX7_begin_15 rfl bipush_m10 ?_
    refine s_iload_n (pc' := 18) dX7_begin_17 rfl lg1 ?_
    refine s_isub (pc' := 19) dX7_begin_18 rfl ?_
    rw [show -10 - wdI q.2.2.1 = -10 - nI q.2.2.1 from by unfold wdI; rw [if_pos (by omega)]]
    refine c_X7_write  (pc' := 22) dX7_begin_19 rfl lkX7_154 (by omega) (Nat.le_of_ble_eq_true rfl) b12 h13 hnt hlc ?_
    have g := hP.wr (nam_tm c6)
    refine s_iconst (pc' := 23) dX7_begin_22 rfl iconst_1 ?_
    refine s_iret dX7_begin_23 rfl (vp_nar_int _) ?_
    exact K _ g.1 g.2
  · simp only [if_neg c6] at K
    refine s_if_eq (pc' := 14) (tgt := 24) dX7_begin_11 rfl (by decide) (fun _ => ?_) (fun c9 => absurd (dec_bI.mpr c6) c9)
    have tail : ¬ q.2.2.1 = 20 → Sim z d 0 0 mX7_begin 55 [.ref 47, .int (wdI q.2.2.1), .float 0] [] (LAY rf tl) mem Q := by
      intro c20
      simp only [if_neg c20] at K
      have bad : ∀ v2, ¬ ((q.2.2.1 = 12 ∨ q.2.2.1 = 16 ∨ (q.2.2.1 = 11 ∧ rkT W ≤ 3)) ∧ ¬ opc W = 5) → Sim z d 0 0 mX7_begin 118 [.ref 47, .int (wdI q.2.2.1), v2] [] (LAY rf tl) mem Q := by
        intro v2 h
        simp only [if_neg h] at K
        refine s_iconst (pc' := 119) dX7_begin_118 rfl iconst_0 ?_
        refine s_iret dX7_begin_119 rfl (vp_nar_int _) ?_
        exact K mem hP mpf.rf
      have good : ∀ w : Nat, (q.2.2.1 = 12 ∨ q.2.2.1 = 16 ∨ (q.2.2.1 = 11 ∧ rkT W ≤ 3)) → (if q.2.2.1 = 16 then 23 else q.2.2.1) = w → (w = 11 ∨ w = 12 ∨ w = 23) → ¬ dM w = -25 → Sim z d 0 0 mX7_begin 103 [.ref 47, .int (wdI q.2.2.1), .float 0] [.int (dM w)] (LAY rf tl) mem Q := by
        intro w h1 h2 h3 h4
        refine s_istore_n (pc' := 104) dX7_begin_103 rfl (Nat.le_of_ble_eq_true rfl) rfl ls2 ?_
        refine s_iload_n (pc' := 105) dX7_begin_104 rfl lg2 ?_
        refine s_bipush (pc' := 107) dX7_begin_105 rfl bipush_m25 ?_
        refine s_icmp_eq (pc' := 110) (tgt := 118) dX7_begin_107 rfl (by decide) (fun c9 => absurd c9 (h4)) (fun _ => ?_)
        refine s_aload_n (pc' := 111) dX7_begin_110 rfl lg0 rfl ?_
        refine s_getIv (pc' := 114) (v := nI (opc W)) dX7_begin_111 rfl flX7_158 ly47 (by decide) rfl h9 ?_
        refine s_iconst (pc' := 115) dX7_begin_114 rfl iconst_5 ?_
        by_cases c5 : opc W = 5
        · refine s_icmp_ne (pc' := 118) (tgt := 120) dX7_begin_115 rfl (by decide) (fun c9 => absurd (by rw [c5]; decide) c9) (fun _ => ?_)
          exact bad _ (fun h => h.2 c5)
        · skip
          refine s_icmp_ne (pc' := 118) (tgt := 120) dX7_begin_115 rfl (by decide) (fun _ => ?_) (fun c9 => absurd c9 (fun e => c5 ((nI_eq (a := opc W) (b := 5) (by omega) (by omega)).mp e)))
          simp only [if_pos (show (q.2.2.1 = 12 ∨ q.2.2.1 = 16 ∨ (q.2.2.1 = 11 ∧ rkT W ≤ 3)) ∧ ¬ opc W = 5 from ⟨h1, c5⟩), h2] at K
          refine s_aload_n (pc' := 121) dX7_begin_120 rfl lg0 rfl ?_
          refine s_dup (pc' := 122) dX7_begin_121 rfl rfl ?_
          refine s_getIv (pc' := 125) (v := nI (opc W)) dX7_begin_122 rfl flX7_158 ly47 (by decide) rfl h9 ?_
          refine s_iconst (pc' := 126) dX7_begin_125 rfl iconst_1 ?_
          refine s_iadd (pc' := 127) dX7_begin_126 rfl ?_
          rw [nI_1]
          refine s_putI (pc' := 130) (ty := .int) dX7_begin_127 rfl flX7_158 fw7_9 pdI rfl rfl ly47 (by decide) rfl ?_
          refine s_aload_n (pc' := 131) dX7_begin_130 rfl lg0 rfl ?_
          refine s_iload_n (pc' := 132) dX7_begin_131 rfl lg2 ?_
          refine c_X7_await  (pc' := 135) dX7_begin_132 rfl lkX7_170 (by omega) (Nat.le_of_ble_eq_true rfl) (by rw [upE, udN (by decide)]; exact h16) hlW ?_
          have g := hP.aw1 h3
          refine s_iconst (pc' := 136) dX7_begin_135 rfl iconst_2 ?_
          refine s_iret dX7_begin_136 rfl (vp_nar_int _) ?_
          exact K _ g.1 g.2
      refine s_aload_n (pc' := 56) dX7_begin_55 rfl lg0 rfl ?_
      refine s_bipush (pc' := 58) dX7_begin_56 rfl bipush_40 ?_
      refine c_X7_isSign (c := 40) (pc' := 61) dX7_begin_58 rfl lkX7_164 (by omega) (Nat.le_of_ble_eq_true rfl) hsz h7 h8 ht h256 (by decide) ?_
      rw [s12]
      by_cases c12 : q.2.2.1 = 12
      · refine s_if_eq (pc' := 64) (tgt := 68) dX7_begin_61 rfl (by decide) (fun c9 => absurd c9 (fun e => (dec_bI.mp e) c12)) (fun _ => ?_)
        refine s_iconst (pc' := 65) dX7_begin_64 rfl iconst_0 ?_
        refine s_goto (tgt := 103) dX7_begin_65 (by decide) ?_
        exact good 12 (Or.inl c12) (by rw [if_neg (by omega)]; exact c12) (by decide) (by decide)
      · skip
        refine s_if_eq (pc' := 64) (tgt := 68) dX7_begin_61 rfl (by decide) (fun _ => ?_) (fun c9 => absurd (dec_bI.mpr c12) c9)
        refine s_aload_n (pc' := 69) dX7_begin_68 rfl lg0 rfl ?_
        refine s_bipush (pc' := 71) dX7_begin_69 rfl bipush_45 ?_
        refine c_X7_isSign (c := 45) (pc' := 74) dX7_begin_71 rfl lkX7_164 (by omega) (Nat.le_of_ble_eq_true rfl) hsz h7 h8 ht h256 (by decide) ?_
        rw [s16]
        by_cases c16 : q.2.2.1 = 16
        · refine s_if_eq (pc' := 77) (tgt := 82) dX7_begin_74 rfl (by decide) (fun c9 => absurd c9 (fun e => (dec_bI.mp e) c16)) (fun _ => ?_)
          refine s_bipush (pc' := 79) dX7_begin_77 rfl bipush_m28 ?_
          refine s_goto (tgt := 103) dX7_begin_79 (by decide) ?_
          have := good 23 (Or.inr (Or.inl c16)) (by rw [if_pos c16]) (by decide) (by decide)
          rw [show dM 23 = -28 from by decide] at this
          exact this
        · skip
          refine s_if_eq (pc' := 77) (tgt := 82) dX7_begin_74 rfl (by decide) (fun _ => ?_) (fun c9 => absurd (dec_bI.mpr c16) c9)
          have none' : ¬ (q.2.2.1 = 11 ∧ rkT W ≤ 3) → Sim z d 0 0 mX7_begin 101 [.ref 47, .int (wdI q.2.2.1), .float 0] [] (LAY rf tl) mem Q := by
            intro h
            refine s_bipush (pc' := 103) dX7_begin_101 rfl bipush_m25 ?_
            refine s_istore_n (pc' := 104) dX7_begin_103 rfl (Nat.le_of_ble_eq_true rfl) rfl ls2 ?_
            refine s_iload_n (pc' := 105) dX7_begin_104 rfl lg2 ?_
            refine s_bipush (pc' := 107) dX7_begin_105 rfl bipush_m25 ?_
            refine s_icmp_eq (pc' := 110) (tgt := 118) dX7_begin_107 rfl (by decide) (fun _ => ?_) (fun c9 => absurd (rfl) c9)
            exact bad _ (fun hh => hh.1.elim c12 (fun a => a.elim c16 h))
          refine s_iload_n (pc' := 83) dX7_begin_82 rfl lg1 ?_
          refine s_bipush (pc' := 85) dX7_begin_83 rfl bipush_11 ?_
          by_cases c11 : q.2.2.1 = 11
          · refine s_icmp_ne (pc' := 88) (tgt := 101) dX7_begin_85 rfl (by decide) (fun c9 => absurd ((wd_eq (k := 11) (by decide)).mpr c11) c9) (fun _ => ?_)
            refine s_aload_n (pc' := 89) dX7_begin_88 rfl lg0 rfl ?_
            refine c_X7_last  (pc' := 92) dX7_begin_89 rfl lkX7_151 (by omega) (Nat.le_of_ble_eq_true rfl) h16 hws hk (by omega) ?_
            have hr7 : rkT W ≤ 7 := by
              cases W with
              | nil => exact Nat.zero_le _
              | cons w W => exact (rk_dM (hk w List.mem_cons_self)).2.2.2
            refine s_iconst (pc' := 93) dX7_begin_92 rfl iconst_3 ?_
            rcases Nat.lt_or_ge 3 (rkT W) with r3 | r3
            · refine s_icmp_gt (pc' := 96) (tgt := 101) dX7_begin_93 rfl (by decide) (fun _ => ?_) (fun c9 => absurd ((nI_ltI (a := 3) (b := rkT W) (by omega) (by omega)).mpr r3) c9)
              exact none' (by omega)
            · skip
              refine s_icmp_gt (pc' := 96) (tgt := 101) dX7_begin_93 rfl (by decide) (fun c9 => absurd c9 (fun e => by have := (nI_ltI (a := 3) (b := rkT W) (by omega) (by omega)).mp e; omega)) (fun _ => ?_)
              refine s_bipush (pc' := 98) dX7_begin_96 rfl bipush_m22 ?_
              refine s_goto (tgt := 103) dX7_begin_98 (by decide) ?_
              have := good 11 (Or.inr (Or.inr ⟨c11, r3⟩)) (by rw [if_neg (by omega)]; exact c11) (by decide) (by decide)
              rw [show dM 11 = -22 from by decide] at this
              exact this
          · skip
            refine s_icmp_ne (pc' := 88) (tgt := 101) dX7_begin_85 rfl (by decide) (fun _ => ?_) (fun c9 => absurd c9 (fun e => c11 ((wd_eq (k := 11) (by decide)).mp e)))
            exact none' (fun h => c11 h.1)
    refine s_aload_n (pc' := 25) dX7_begin_24 rfl lg0 rfl ?_
    refine s_getIv (pc' := 28) (v := nI (srtN tp sz q.2.1)) dX7_begin_25 rfl flX7_139 ly47 (by decide) rfl h8 ?_
    refine s_iconst (pc' := 29) dX7_begin_28 rfl iconst_2 ?_
    by_cases d2 : srtN tp sz q.2.1 = 2
    · obtain ⟨u1, u2, u3, u4⟩ := t2 d2
      refine s_icmp_ne (pc' := 32) (tgt := 55) dX7_begin_29 rfl (by decide) (fun c9 => absurd (by rw [d2]; decide) c9) (fun _ => ?_)
      refine s_aload_n (pc' := 33) dX7_begin_32 rfl lg0 rfl ?_
      refine s_getIv (pc' := 36) (v := nI q.1) dX7_begin_33 rfl flX7_130 ly47 (by decide) rfl h6 ?_
      refine s_aload_n (pc' := 37) dX7_begin_36 rfl lg0 rfl ?_
      refine s_getIv (pc' := 40) (v := nI q.2.1) dX7_begin_37 rfl flX7_133 ly47 (by decide) rfl h7 ?_
      refine s_isub (pc' := 41) dX7_begin_40 rfl ?_
      rw [pk_sub (by omega)]
      refine s_iconst (pc' := 42) dX7_begin_41 rfl iconst_4 ?_
      rcases Nat.lt_or_ge 4 (q.1 - q.2.1) with g4 | g4
      · refine s_icmp_gt (pc' := 45) (tgt := 55) dX7_begin_42 rfl (by decide) (fun _ => ?_) (fun c9 => absurd ((nI_ltI (a := 4) (b := q.1 - q.2.1) (by omega) (by omega)).mpr g4) c9)
        exact tail (by rw [u1, if_pos g4]; decide)
      · skip
        refine s_icmp_gt (pc' := 45) (tgt := 55) dX7_begin_42 rfl (by decide) (fun c9 => absurd c9 (fun e => by have := (nI_ltI (a := 4) (b := q.1 - q.2.1) (by omega) (by omega)).mp e; omega)) (fun _ => ?_)
        rw [if_neg (by omega)] at u1
        simp only [if_pos u1] at K
        refine s_aload_n (pc' := 46) dX7_begin_45 rfl lg0 rfl ?_
        refine s_aload_n (pc' := 47) dX7_begin_46 rfl lg0 rfl ?_
        refine c_X7_numberThere  (pc' := 50) dX7_begin_47 rfl lkX7_167 (by omega) (Nat.le_of_ble_eq_true rfl) (by omega) hle.1 hsz h6 h7 ht u4 ?_
        rw [← u2]
        refine c_X7_write  (pc' := 53) dX7_begin_50 rfl lkX7_154 (by omega) (Nat.le_of_ble_eq_true rfl) b12 h13 hnt hlc ?_
        have g := hP.wr (num_tm (hok.1.2.2.2 u1))
        refine s_iconst (pc' := 54) dX7_begin_53 rfl iconst_1 ?_
        refine s_iret dX7_begin_54 rfl (vp_nar_int _) ?_
        exact K _ g.1 g.2
    · skip
      refine s_icmp_ne (pc' := 32) (tgt := 55) dX7_begin_29 rfl (by decide) (fun _ => ?_) (fun c9 => absurd c9 (fun e => d2 ((nI_eq (a := srtN tp sz q.2.1) (b := 2) (by omega) (by omega)).mp e)))
      refine tail (fun e => ?_)
      have c3 : srtN tp sz q.2.1 = 0 ∨ srtN tp sz q.2.1 = 1 ∨ srtN tp sz q.2.1 = 3 := by omega
      rcases c3 with h | h | h
      · rw [t0 h] at e; omega
      · rw [t1 h] at e; exact wrdN_ne e
      · rw [t3 h] at e; exact sgT_ne e
theorem c_X7_begin {z : Zz} {d kc ks : Nat} {mi : MI} {pc pc' : Nat} {L S : List Value} {Q : Option Value → Lay → Mem → Prop} {rf : Nat → Value} {tl : Lay} {mem : Mem}  {sz nt : Nat} {tp : Nat → Nat} {q : Tk} {W : List Nat} {c : List Int32} {idx : Nat} (hd : decode mi.2.1 pc = .ok (.invokevirtual idx, 3)) (hp : pc + 3 = pc') (hlk : Cond.methodLink mi.1.cls idx yX7_begin ∈ wok) (hdd : 2 + 1 ≤ d) (hcat : (S.map (fun v => v.category)).sum ≤ 8) (hP : isMP mem tp sz nt q W c) (eq : nxs tp sz q.2.1 = q) (hs : q.2.1 ≤ sz) (hsz : sz ≤ 160) (h256 : ∀ i, i < sz → tp i < 256) (hnt : nt < 6) (hlW : W.length < 160) (hlc : c.length < 160) (hk : ∀ w ∈ W, wtk w) (ho : opc W ≤ 5) (K : ∀ mem', isMP mem' tp sz nt q (bgS q.2.2.1 q.2.2.2 W c).2.1 (bgS q.2.2.1 q.2.2.2 W c).2.2 → mpf nt mem mem' → Sim z d kc ks mi pc' L (.int (nI (bgS q.2.2.1 q.2.2.2 W c).1) :: S) (LAY rf tl) mem' Q) : Sim z d kc ks mi pc L (.ref 47 :: S) (LAY rf tl) mem Q :=
  s_invV (d2 := 2) hd hp okX7_begin hlk inX7_begin seX7_begin hdd (Nat.zero_add _) (Nat.zero_add _) rfl rfl ly47 rfl hcat (Nat.le_of_ble_eq_true rfl) (m_X7_begin (Nat.le_refl _) hP eq hs hsz h256 hnt hlW hlc hk ho K)

