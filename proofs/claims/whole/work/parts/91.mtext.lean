/-! ===== the Model's reader: isText, text ===== -/
def rsF (tp : Nat → Nat) (sz : Nat) : Nat → PS
  | 0 => rs0 tp sz
  | p + 1 => prt tp sz p (rsF tp sz p)
theorem rsF_s {tp : Nat → Nat} {sz p : Nat} : rsF tp sz (p + 1) = prt tp sz p (rsF tp sz p) := by rw [rsF]
theorem rsF_123 {tp : Nat → Nat} {sz : Nat} : rsF tp sz 1 = rs1 tp sz ∧ rsF tp sz 2 = rs2 tp sz ∧ rsF tp sz 3 = rs3 tp sz := by
  have e1 : rs1 tp sz = prt tp sz 0 (rs0 tp sz) := by unfold rs1; exact Eq.refl _
  have e2 : rs2 tp sz = prt tp sz 1 (rs1 tp sz) := by unfold rs2; exact Eq.refl _
  have e3 : rs3 tp sz = prt tp sz 2 (rs2 tp sz) := by unfold rs3; exact Eq.refl _
  have e0 : rsF tp sz 0 = rs0 tp sz := by rw [rsF]
  refine ⟨?_, ?_, ?_⟩
  · rw [rsF_s, e0, e1]
  · rw [rsF_s, rsF_s, e0, e2, e1]
  · rw [rsF_s, rsF_s, rsF_s, e0, e3, e2, e1]
theorem rsF_slk {tp : Nat → Nat} {sz : Nat} : ∀ {p : Nat}, p ≤ 3 → slk sz 0 (rsF tp sz p)
  | 0, _ => by rw [rsF]; exact rs0_slk
  | p + 1, h => by rw [rsF_s]; exact prt_slk (rsF_slk (by omega)) (by omega)
/-- where a fault was found, it stays -/
theorem rsF_bad {tp : Nat → Nat} {sz : Nat} {x : Int32} (hx : ¬ x = -1) : ∀ (k p : Nat), (rsF tp sz p).2.2 = x → (rsF tp sz (p + k)).2.2 = x
  | 0, p, h => h
  | k + 1, p, h => by
    rw [show p + (k + 1) = (p + k) + 1 from rfl, rsF_s]
    have := rsF_bad hx k p h
    rw [prt_bad (by rw [this]; exact hx)]; exact this
theorem rs4_bad {tp : Nat → Nat} {sz p : Nat} {x : Int32} (hx : ¬ x = -1) (hp : p ≤ 3) (h : (rsF tp sz p).2.2 = x) : (rs4 tp sz).2.2 = x := by
  have h3 := rsF_bad hx (3 - p) p h
  rw [show p + (3 - p) = 3 by omega, rsF_123.2.2] at h3
  unfold rs4
  rw [wa_bad (by rw [h3]; exact hx)]; exact h3
theorem rs4_of {tp : Nat → Nat} {sz : Nat} (h : (rsF tp sz 3).2.2 = -1) : (rs4 tp sz).2.2 = if (rsF tp sz 3).1.2.2.1 = 21 then -1 else nI (rsF tp sz 3).1.2.1 := by
  have e : rs4 tp sz = waP tp sz 21 (rsF tp sz 3) := by unfold rs4; rw [rsF_123.2.2]
  rw [e]
  generalize rsF tp sz 3 = st at h
  unfold waP
  rw [if_pos h]
  by_cases q : st.1.2.2.1 = 21
  · rw [if_pos q, if_pos q]; exact h
  · rw [if_neg q, if_neg q]; rfl
theorem rsF_0 {tp : Nat → Nat} {sz : Nat} : (rsF tp sz 0).1 = nxt tp sz 0 ∧ (rsF tp sz 0).2.1 = [] ∧ (rsF tp sz 0).2.2 = -1 := by
  have e : rsF tp sz 0 = rs0 tp sz := by rw [rsF]
  rw [e]
  unfold rs0 goP
  dsimp only
  exact ⟨Eq.refl _, Eq.refl _, Eq.refl _⟩
def tEnd (tp : Nat → Nat) (sz nt : Nat) (b : Bool) (mem' : Mem) : Prop := if b = true then ((rs4 tp sz).2.2 = -1 ∧ cst mem' nt (rsF tp sz 3).2.1 ∧ ∀ i, i < 3 → mem' 53 (3 * nt + i) = nI (rsF tp sz (i + 1)).2.1.length) else (¬ (rs4 tp sz).2.2 = -1 ∧ mem' 47 7 = (rs4 tp sz).2.2)
def tff (nt : Nat) (mem mem' : Mem) : Prop := (∀ j, j ≠ 47 → j ≠ 52 → j ≠ 53 → j ≠ 55 → mem' j = mem j) ∧ (∀ k, k ≠ 6 → k ≠ 7 → k ≠ 8 → k ≠ 9 → k ≠ 13 → k ≠ 16 → mem' 47 k = mem 47 k) ∧ (∀ k, k < 160 * nt → mem' 52 k = mem 52 k) ∧ ∀ k, k < 3 * nt → mem' 53 k = mem 53 k
theorem tff.rf {nt : Nat} {mem : Mem} : tff nt mem mem := ⟨fun _ _ _ _ _ => rfl, fun _ _ _ _ _ _ _ => rfl, fun _ _ => rfl, fun _ _ => rfl⟩
theorem tff.tr {nt : Nat} {a b c : Mem} (h1 : tff nt a b) (h2 : tff nt b c) : tff nt a c := ⟨fun j q1 q2 q3 q4 => (h2.1 j q1 q2 q3 q4).trans (h1.1 j q1 q2 q3 q4), fun k q1 q2 q3 q4 q5 q6 => (h2.2.1 k q1 q2 q3 q4 q5 q6).trans (h1.2.1 k q1 q2 q3 q4 q5 q6), fun k hk => (h2.2.2.1 k hk).trans (h1.2.2.1 k hk), fun k hk => (h2.2.2.2 k hk).trans (h1.2.2.2 k hk)⟩
theorem mpf.tff {nt : Nat} {a b : Mem} (h : mpf nt a b) : tff nt a b := ⟨fun j q1 q2 _ q4 => h.1 j q1 q2 q4, h.2.1, h.2.2, fun k _ => by rw [h.1 53 (by decide) (by decide) (by decide)]⟩
theorem nxf.mpf {nt : Nat} {a b : Mem} (h : nxf a b) : mpf nt a b := ⟨fun j q1 _ _ => h.1 j q1, fun k q1 q2 q3 _ _ _ => h.2 k q1 q2 q3, fun k _ => by rw [h.1 52 (by decide)]⟩
/-- the reading stands between two parts -/
def isMZ (m : Mem) (tp : Nat → Nat) (sz nt : Nat) (st : PS) : Prop := isMB m tp sz nt ∧ (m 47 6 = nI st.1.1 ∧ m 47 7 = nI st.1.2.1 ∧ m 47 8 = nI (srtN tp sz st.1.2.1)) ∧ m 47 9 = 0 ∧ m 47 13 = nI st.2.1.length ∧ cst m nt st.2.1
theorem isMZ.nx {m m' : Mem} {tp : Nat → Nat} {sz nt : Nat} {st : PS} (h : isMZ m tp sz nt st) (hf : nxf m m') (g6 : m' 47 6 = nI (nxt tp sz st.1.1).1) (g7 : m' 47 7 = nI (nxt tp sz st.1.1).2.1) (g8 : m' 47 8 = nI (srtN tp sz (nxt tp sz st.1.1).2.1)) : isMZ m' tp sz nt (goP tp sz st) := by
  obtain ⟨hB, h678, h9, h13, hcs⟩ := h
  exact ⟨hB.mpf (hf.mpf (nt := nt)), ⟨g6, g7, g8⟩, by rw [hf.2 9 (by decide) (by decide) (by decide)]; exact h9, by rw [hf.2 13 (by decide) (by decide) (by decide)]; exact h13, hcs.cp (hf.1 52 (by decide))⟩
theorem wd6 {t p : Nat} (hp : p < 3) : (wdI t = 6 + nI p) ↔ t = 6 + p := by
  rw [show (6 : Int32) + nI p = nI (6 + p) from nI_add 6 p]
  exact wd_eq (by omega)
set_option maxHeartbeats 4000000 in
theorem m_X7_isText {z : Zz} {d : Nat} {Q : Option Value → Lay → Mem → Prop} {rf : Nat → Value} {tl : Lay} {mem : Mem}  {sz nt : Nat} {tp : Nat → Nat} (hdd : 5 ≤ d) (hB : isMB mem tp sz nt) (h6 : mem 47 6 = nI 0) (h9 : mem 47 9 = 0) (h13 : mem 47 13 = nI 0) (hsz : sz ≤ 160) (h256 : ∀ i, i < sz → tp i < 256) (hnt : nt < 6) (K : ∀ (b : Bool) mem', tEnd tp sz nt b mem' → tff nt mem mem' → Q (some (.int (bI b))) (LAY rf tl) mem') : Sim z d 0 0 mX7_isText 0 [.ref 47, .float 0] [] (LAY rf tl) mem Q := by
  have hneg : ∀ p : Nat, p ≤ sz → ¬ nI p = -1 := fun p hp => nI_m1 (by omega)
  have KF : ∀ (p s : Nat) (m : Mem), p ≤ 3 → s ≤ sz → (rsF tp sz p).2.2 = nI s → m 47 7 = nI s → tff nt mem m → Q (some (.int 0)) (LAY rf tl) m := by
    intro p s m hp hs hr hm hf
    have := rs4_bad (hneg s hs) hp hr
    exact K false m (by unfold tEnd; rw [if_neg Bool.false_ne_true, this]; exact ⟨hneg s hs, hm⟩) hf
  have KT : ∀ m : Mem, (rs4 tp sz).2.2 = -1 → cst m nt (rsF tp sz 3).2.1 → (∀ i, i < 3 → m 53 (3 * nt + i) = nI (rsF tp sz (i + 1)).2.1.length) → tff nt mem m → Q (some (.int 1)) (LAY rf tl) m := fun m h1 h2 h3 h4 => K true m (by unfold tEnd; rw [if_pos rfl]; exact ⟨h1, h2, h3⟩) h4
  have h4 := rs4_of (tp := tp) (sz := sz)
  have loop : ∀ (k p : Nat) (m : Mem), p + k = 3 → isMZ m tp sz nt (rsF tp sz p) → (rsF tp sz p).2.2 = -1 → nxs tp sz (rsF tp sz p).1.2.1 = (rsF tp sz p).1 → (∀ i, i < p → m 53 (3 * nt + i) = nI (rsF tp sz (i + 1)).2.1.length) → tff nt mem m → Sim z d 0 0 mX7_isText 6 [.ref 47, .int (nI p)] [] (LAY rf tl) m Q := by
    intro k
    induction k with
    | zero =>
      intro p m hp hm hf hq hends hfr
      have : p = 3 := by omega
      subst this
      obtain ⟨hB', ⟨k6, k7, k8⟩, k9, k13, kcs⟩ := hm
      have hr4 := h4 hf
      have hsr := slk_sr (rsF_slk (tp := tp) (sz := sz) (p := 3) (by decide))
      have fin1 : (rsF tp sz 3).1.2.2.1 = 21 → Q (some (.int 1)) (LAY rf tl) m := fun h => KT m (by rw [hr4, if_pos h]) kcs hends hfr
      have fin0 : ¬ (rsF tp sz 3).1.2.2.1 = 21 → Q (some (.int 0)) (LAY rf tl) m := fun h => by
        rw [if_neg h] at hr4
        refine K false m ?_ hfr
        unfold tEnd
        rw [if_neg Bool.false_ne_true, hr4]
        exact ⟨hneg _ hsr, k7⟩
      clear hends hr4 KF KT h4 kcs k13
      generalize rsF tp sz 3 = st at hf hq k6 k7 k8 hsr fin1 fin0
      have hs4 := srtN_le (tp := tp) (sz := sz) (i := st.1.2.1)
      have t0 := fun h => tok_0 (tp := tp) (sz := sz) (s := st.1.2.1) h
      have t1 := fun h => (tok_1 (tp := tp) (sz := sz) (s := st.1.2.1) h).1
      have t2 := fun h => (tok_2 (tp := tp) (sz := sz) (s := st.1.2.1) h).1
      have t3 := fun h => tok_3 (tp := tp) (sz := sz) (s := st.1.2.1) h
      rw [hq] at t0 t1 t2 t3
      refine s_iload_n (pc' := 7) dX7_isText_6 rfl lg1 ?_
      refine s_iconst (pc' := 8) dX7_isText_7 rfl iconst_3 ?_
      refine s_icmp_ge (pc' := 11) (tgt := 73) dX7_isText_8 rfl (by decide) (fun _ => ?_) (fun c9 => absurd (by decide) c9)
      refine s_aload_n (pc' := 74) dX7_isText_73 rfl lg0 rfl ?_
      refine s_getIv (pc' := 77) (v := nI (srtN tp sz st.1.2.1)) dX7_isText_74 rfl flX7_139 ly47 (by decide) rfl k8 ?_
      by_cases c0 : srtN tp sz st.1.2.1 = 0
      · refine s_if_ne (pc' := 80) (tgt := 84) dX7_isText_77 rfl (by decide) (fun c9 => absurd (by rw [c0]; exact nI_0) c9) (fun _ => ?_)
        have fin := fin1 (t0 c0)
        refine s_iconst (pc' := 81) dX7_isText_80 rfl iconst_1 ?_
        refine s_goto (tgt := 85) dX7_isText_81 (by decide) ?_
        refine s_iret dX7_isText_85 rfl (by decide) ?_
        exact fin
      · skip
        refine s_if_ne (pc' := 80) (tgt := 84) dX7_isText_77 rfl (by decide) (fun _ => ?_) (fun c9 => absurd c9 (fun h => c0 ((nI_eq (a := srtN tp sz st.1.2.1) (b := 0) (by omega) (by omega)).mp h)))
        have n21 : ¬ st.1.2.2.1 = 21 := by
          intro h
          have c3 : srtN tp sz st.1.2.1 = 1 ∨ srtN tp sz st.1.2.1 = 2 ∨ srtN tp sz st.1.2.1 = 3 := by omega
          rcases c3 with g | g | g
          · have u := t1 g
            have w1 := wrdN_or (tp := tp) (s := st.1.2.1) (len := st.1.1 - st.1.2.1)
            rw [← u] at w1; omega
          · have u := t2 g
            rw [h] at u
            split at u <;> omega
          · have u := t3 g
            have u1 := u.1
            rw [h, sgT_c (h256 _ u.2)] at u1
            generalize tp st.1.2.1 = x at u1
            unfold tokc at u1
            (repeat' split at u1) <;> omega
        have fin := fin0 n21
        refine s_iconst (pc' := 85) dX7_isText_84 rfl iconst_0 ?_
        refine s_iret dX7_isText_85 rfl (by decide) ?_
        exact fin
    | succ k ih =>
      intro p m hp hm hf hq hends hfr
      obtain ⟨⟨m5, m12, m51, m54⟩, ⟨k6, k7, k8⟩, k9, k13, kcs⟩ := id hm
      have hsl := rsF_slk (tp := tp) (sz := sz) (p := p) (by omega)
      have hsr := slk_sr hsl
      have hnx := rsF_s (tp := tp) (sz := sz) (p := p)
      generalize hst : rsF tp sz p = st at hm hf hq k6 k7 k8 k13 kcs hsl hsr hnx
      refine s_iload_n (pc' := 7) dX7_isText_6 rfl lg1 ?_
      refine s_iconst (pc' := 8) dX7_isText_7 rfl iconst_3 ?_
      refine s_icmp_ge (pc' := 11) (tgt := 73) dX7_isText_8 rfl (by decide) (fun c9 => absurd c9 (nI_ge (b := 3) (by omega) (by omega))) (fun _ => ?_)
      refine s_aload_n (pc' := 12) dX7_isText_11 rfl lg0 rfl ?_
      refine c_X7_word  (pc' := 15) dX7_isText_12 rfl lkX7_161 (by omega) (Nat.le_of_ble_eq_true rfl) hsr hsz (by rw [hq]; exact k6) k7 k8 m51 h256 m54 ?_
      rw [hq]
      refine s_bipush (pc' := 17) dX7_isText_15 rfl bipush_6 ?_
      refine s_iload_n (pc' := 18) dX7_isText_17 rfl lg1 ?_
      refine s_iadd (pc' := 19) dX7_isText_18 rfl ?_
      by_cases c1 : st.1.2.2.1 = 6 + p
      · refine s_icmp_eq (pc' := 22) (tgt := 24) dX7_isText_19 rfl (by decide) (fun _ => ?_) (fun c9 => absurd ((wd6 (by omega)).mpr c1) c9)
        have hw : waP tp sz (6 + p) st = goP tp sz st := by unfold waP; rw [if_pos hf, if_pos c1]
        have hgo := hsl.go (tp := tp) (show ¬ st.1.2.2.1 = 21 by omega)
        refine s_aload_n (pc' := 25) dX7_isText_24 rfl lg0 rfl ?_
        refine c_X7_next  (pc' := 28) dX7_isText_25 rfl lkX7_176 (by omega) (Nat.le_of_ble_eq_true rfl) hsl.1.2.1 hsz m5 k6 m51 h256 (fun m1 g1 g6 g7 g8 => ?_)
        obtain ⟨hB1, ⟨l6, l7, l8⟩, l9, l13, lcs⟩ := hm.nx g1 g6 g7 g8
        refine s_aload_n (pc' := 29) dX7_isText_28 rfl lg0 rfl ?_
        refine c_X7_isE  (pc' := 32) dX7_isText_29 rfl lkX7_185 (by omega) (Nat.le_of_ble_eq_true rfl) hB1 l6 l7 l8 l9 l13 lcs hsz h256 hnt hgo nxs_self hf (fun b q m2 j1 j2 => ?_)
        have hfr2 : tff nt mem m2 := (hfr.tr (g1.mpf (nt := nt)).tff).tr j2.tff
        have hr : prt tp sz p st = waP tp sz 14 (rd tp sz 48 0 0 0 0 (goP tp sz st)) := by unfold prt; rw [hw]
        have hs3 := rd_slk (tp := tp) 48 0 0 0 0 1 _ hgo (Or.inl rfl)
        unfold eEnd at j1
        generalize rd tp sz 48 0 0 0 0 (goP tp sz st) = r at j1 hr hs3
        cases b with
        | false =>
          rw [if_neg Bool.false_ne_true] at j1
          obtain ⟨a1, a2, a3⟩ := j1
          have fin : Q (some (.int 0)) (LAY rf tl) m2 := by
            rcases a3 with ⟨x1, x2⟩ | ⟨x1, x2, x3⟩
            · have e : (rsF tp sz (p + 1)).2.2 = nI q.2.1 := by rw [hnx, hr, wa_bad x1]; exact x2
              refine K false m2 ?_ hfr2
              have e4 := rs4_bad (tp := tp) (sz := sz) (p := p + 1) (x := nI q.2.1) (by rw [← x2]; exact x1) (by omega) e
              unfold tEnd
              rw [if_neg Bool.false_ne_true, e4]
              exact ⟨by rw [← x2]; exact x1, a1⟩
            · subst x3
              have e : (rsF tp sz (p + 1)).2.2 = nI r.1.2.1 := by rw [hnx, hr]; unfold waP; rw [if_pos x1, if_neg x2]; exact Eq.refl _
              exact KF (p + 1) r.1.2.1 m2 (by omega) (slk_sr hs3) e a1 hfr2
          refine s_if_eq (pc' := 35) (tgt := 44) dX7_isText_32 rfl (by decide) (fun _ => ?_) (fun c9 => absurd (by decide) c9)
          refine s_iconst (pc' := 45) dX7_isText_44 rfl iconst_0 ?_
          refine s_iret dX7_isText_45 rfl (by decide) ?_
          exact fin
        | true =>
          rw [if_pos rfl] at j1
          obtain ⟨x1, x2, hm2⟩ := j1
          obtain ⟨⟨n5, n12, n51, n54⟩, ⟨n6, n7, n8⟩, ⟨n9, n13, n16⟩, nws, ncs⟩ := id hm2
          have s14 := sg_tok (s := r.1.2.1) h256 tc14 (by decide)
          rw [x2] at s14
          refine s_if_eq (pc' := 35) (tgt := 44) dX7_isText_32 rfl (by decide) (fun c9 => absurd c9 (by decide)) (fun _ => ?_)
          refine s_aload_n (pc' := 36) dX7_isText_35 rfl lg0 rfl ?_
          refine s_bipush (pc' := 38) dX7_isText_36 rfl bipush_59 ?_
          refine c_X7_isSign (c := 59) (pc' := 41) dX7_isText_38 rfl lkX7_164 (by omega) (Nat.le_of_ble_eq_true rfl) hsz n7 n8 n51 h256 (by decide) ?_
          rw [s14]
          by_cases c14 : r.1.2.2.1 = 14
          · refine s_if_ne (pc' := 44) (tgt := 46) dX7_isText_41 rfl (by decide) (fun _ => ?_) (fun c9 => absurd c9 (fun h => (dec_bI.mp h) c14))
            have hw14 : waP tp sz 14 r = goP tp sz r := by unfold waP; rw [if_pos x1, if_pos c14]
            have er : rsF tp sz (p + 1) = goP tp sz r := by rw [hnx, hr, hw14]
            refine s_aload_n (pc' := 47) dX7_isText_46 rfl lg0 rfl ?_
            refine s_getRv (pc' := 50) (v := .ref 53) dX7_isText_47 rfl flX7_25 ly47 (by decide) rfl rfl ?_
            refine s_iconst (pc' := 51) dX7_isText_50 rfl iconst_3 ?_
            refine s_aload_n (pc' := 52) dX7_isText_51 rfl lg0 rfl ?_
            refine s_getIv (pc' := 55) (v := nI nt) dX7_isText_52 rfl flX7_32 ly47 (by decide) rfl n12 ?_
            refine s_imul (pc' := 56) dX7_isText_55 rfl ?_
            refine s_iload_n (pc' := 57) dX7_isText_56 rfl lg1 ?_
            refine s_iadd (pc' := 58) dX7_isText_57 rfl ?_
            rw [mI3]
            refine s_aload_n (pc' := 59) dX7_isText_58 rfl lg0 rfl ?_
            refine s_getIv (pc' := 62) (v := nI r.2.1.length) dX7_isText_59 rfl flX7_142 ly47 (by decide) rfl n13 ?_
            refine s_iastN (pc' := 63) dX7_isText_62 rfl ly53 (by omega) (by decide) ?_
            refine s_aload_n (pc' := 64) dX7_isText_63 rfl lg0 rfl ?_
            have hZ : isMZ (am_up m2 53 (3 * nt + p) (nI r.2.1.length)) tp sz nt r := ⟨⟨by rw [upN (by decide)]; exact n5, by rw [upN (by decide)]; exact n12, fun i hi => by rw [upN (by decide)]; exact n51 i hi, fun i hi => by rw [upN (by decide)]; exact n54 i hi⟩, ⟨by rw [upN (by decide)]; exact n6, by rw [upN (by decide)]; exact n7, by rw [upN (by decide)]; exact n8⟩, by rw [upN (by decide)]; exact n9, by rw [upN (by decide)]; exact n13, ncs.cp (by rw [upN (by decide)])⟩
            refine c_X7_next  (pc' := 67) dX7_isText_64 rfl lkX7_176 (by omega) (Nat.le_of_ble_eq_true rfl) hs3.1.2.1 hsz hZ.1.1 hZ.2.1.1 hZ.1.2.2.1 h256 (fun m3 y1 y6 y7 y8 => ?_)
            have hZ3 := hZ.nx y1 y6 y7 y8
            rw [← er] at hZ3
            refine s_iincN (pc' := 70) dX7_isText_67 rfl lg1 rfl ls1 ?_
            refine s_goto (tgt := 6) dX7_isText_70 (by decide) ?_
            refine ih (p + 1) m3 (by omega) hZ3 (by rw [er]; exact x1) (by rw [er]; exact nxs_self) (fun i hi => ?_) ?_
            · rw [y1.1 53 (by decide), upE]
              by_cases e : i = p
              · rw [e, udE, er]; rfl
              · rw [udN (by omega), j2.1 53 (by decide) (by decide) (by decide), g1.1 53 (by decide)]
                exact hends i (by omega)
            · refine hfr2.tr (tff.tr (b := am_up m2 53 (3 * nt + p) (nI r.2.1.length)) ⟨fun j q1 q2 q3 q4 => by rw [upN q3], fun k _ _ _ _ _ _ => by rw [upN (by decide)], fun k _ => by rw [upN (by decide)], fun k hk => by rw [upE, udN (by omega)]⟩ (y1.mpf (nt := nt)).tff)
          · have e : (rsF tp sz (p + 1)).2.2 = nI r.1.2.1 := by rw [hnx, hr]; unfold waP; rw [if_pos x1, if_neg c14]; exact Eq.refl _
            have fin := KF (p + 1) r.1.2.1 m2 (by omega) (slk_sr hs3) e n7 hfr2
            refine s_if_ne (pc' := 44) (tgt := 46) dX7_isText_41 rfl (by decide) (fun c9 => absurd (dec_bI.mpr c14) c9) (fun _ => ?_)
            refine s_iconst (pc' := 45) dX7_isText_44 rfl iconst_0 ?_
            refine s_iret dX7_isText_45 rfl (by decide) ?_
            exact fin
      · have hw : waP tp sz (6 + p) st = faP st := by unfold waP; rw [if_pos hf, if_neg c1]
        have e : (rsF tp sz (p + 1)).2.2 = nI st.1.2.1 := by
          rw [hnx]
          unfold prt
          rw [hw]
          have hb : ¬ (faP st).2.2 = -1 := hneg _ hsr
          rw [rd_bad hb, wa_bad hb]
          exact Eq.refl _
        have fin := KF (p + 1) st.1.2.1 m (by omega) hsr e k7 hfr
        refine s_icmp_eq (pc' := 22) (tgt := 24) dX7_isText_19 rfl (by decide) (fun c9 => absurd c9 (fun h => c1 ((wd6 (by omega)).mp h))) (fun _ => ?_)
        refine s_iconst (pc' := 23) dX7_isText_22 rfl iconst_0 ?_
        refine s_iret dX7_isText_23 rfl (by decide) ?_
        exact fin
  refine s_aload_n (pc' := 1) dX7_isText_0 rfl lg0 rfl ?_
  refine c_X7_next  (pc' := 4) dX7_isText_1 rfl lkX7_176 (by omega) (Nat.le_of_ble_eq_true rfl) (Nat.zero_le sz) hsz hB.1 h6 hB.2.2.1 h256 (fun m1 g1 g6 g7 g8 => ?_)
  refine s_iconst (pc' := 5) dX7_isText_4 rfl iconst_0 ?_
  refine s_istore_n (pc' := 6) dX7_isText_5 rfl (Nat.le_of_ble_eq_true rfl) rfl ls1 ?_
  obtain ⟨z1, z2, z3⟩ := rsF_0 (tp := tp) (sz := sz)
  refine loop 3 0 m1 (by omega) ?_ z3 (by rw [z1]; exact nxs_self) (fun i hi => absurd hi (Nat.not_lt_zero i)) (g1.mpf (nt := nt)).tff
  unfold isMZ
  rw [z1, z2]
  exact ⟨hB.mpf (g1.mpf (nt := nt)), ⟨g6, g7, g8⟩, by rw [g1.2 9 (by decide) (by decide) (by decide)]; exact h9, by rw [g1.2 13 (by decide) (by decide) (by decide)]; exact h13, fun k hk => absurd hk (Nat.not_lt_zero k)⟩
theorem c_X7_isText {z : Zz} {d kc ks : Nat} {mi : MI} {pc pc' : Nat} {L S : List Value} {Q : Option Value → Lay → Mem → Prop} {rf : Nat → Value} {tl : Lay} {mem : Mem}  {sz nt : Nat} {tp : Nat → Nat} {idx : Nat} (hd : decode mi.2.1 pc = .ok (.invokevirtual idx, 3)) (hp : pc + 3 = pc') (hlk : Cond.methodLink mi.1.cls idx yX7_isText ∈ wok) (hdd : 5 + 1 ≤ d) (hcat : (S.map (fun v => v.category)).sum ≤ 8) (hB : isMB mem tp sz nt) (h6 : mem 47 6 = nI 0) (h9 : mem 47 9 = 0) (h13 : mem 47 13 = nI 0) (hsz : sz ≤ 160) (h256 : ∀ i, i < sz → tp i < 256) (hnt : nt < 6) (K : ∀ (b : Bool) mem', tEnd tp sz nt b mem' → tff nt mem mem' → Sim z d kc ks mi pc' L (.int (bI b) :: S) (LAY rf tl) mem' Q) : Sim z d kc ks mi pc L (.ref 47 :: S) (LAY rf tl) mem Q :=
  s_invV (d2 := 5) hd hp okX7_isText hlk inX7_isText seX7_isText hdd (Nat.zero_add _) (Nat.zero_add _) rfl rfl ly47 rfl hcat (Nat.le_of_ble_eq_true rfl) (m_X7_isText (Nat.le_refl _) hB h6 h9 h13 hsz h256 hnt K)

