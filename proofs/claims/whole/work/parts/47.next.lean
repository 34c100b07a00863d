/-! ===== Reader: the next token ===== -/
def tS (tp : Nat → Nat) (sz a : Nat) : Nat := rn (fun i => isBl (tp i)) (sz - a) a
def sgT (c : Nat) : Nat := if sgN (nI c) < 8 then 12 + sgN (nI c) else 22
def nxs (tp : Nat → Nat) (sz s : Nat) : Tk := if sz ≤ s then (s, s, 21, 0) else if isLt (tp s) then (rn (fun i => isLt (tp i)) (sz - s) s, s, wrdN tp s (rn (fun i => isLt (tp i)) (sz - s) s - s), 0) else if isDg (tp s) then (rn (fun i => isDg (tp i)) (sz - s) s, s, if 4 < rn (fun i => isDg (tp i)) (sz - s) s - s then 22 else 20, numN tp s (rn (fun i => isDg (tp i)) (sz - s) s - s)) else (s + 1, s, sgT (tp s), 0)
def nxt (tp : Nat → Nat) (sz a : Nat) : Tk := nxs tp sz (tS tp sz a)
theorem tkf.rf {m : Mem} : tkf m m := ⟨fun _ _ => rfl, rfl, rfl, rfl⟩
theorem tkf.up {mem m : Mem} (h : tkf mem m) {k : Nat} {x : Int32} (hk : 4 < k) : tkf mem (am_up m 7 k x) := ⟨fun j hj => by rw [upN hj]; exact h.1 j hj, by rw [upE, udN (by omega)]; exact h.2.1, by rw [upE, udN (by omega)]; exact h.2.2.1, by rw [upE, udN (by omega)]; exact h.2.2.2⟩
theorem nI_eqL {k c : Nat} (hk : k < 1000) (hc : c < 1000) : (nI k = nI c) = (k = c) := propext (nI_eq (by omega) (by omega))
theorem i2c_b {c : Nat} (h : c < 256) : ((nI c).toUInt32 % 65536).toInt32 = nI c := by
  have key : ∀ c : Fin 256, ((nI c.1).toUInt32 % 65536).toInt32 = nI c.1 := by decide +kernel
  exact key ⟨c, h⟩
theorem sgT_ne {c : Nat} : ¬ sgT c = 20 := by
  unfold sgT
  generalize sgN (nI c) = q
  split
  · omega
  · decide
theorem wrdN_ne {tp : Nat → Nat} {s len : Nat} : ¬ wrdN tp s len = 20 := by
  unfold wrdN
  generalize fk (wmB tp s len) 12 = q
  split
  · decide
  · split
    · omega
    · decide
set_option maxHeartbeats 4000000 in
theorem m_X1_goesOn {z : Zz} {d : Nat} {Q : Option Value → Lay → Mem → Prop} {rf : Nat → Value} {tl : Lay} {mem : Mem}  {a sz : Nat} {tp : Nat → Nat} (hdd : 5 ≤ d) (haz : a ≤ sz) (hsz : sz ≤ 160) (h1 : mem 7 1 = nI sz) (h5 : mem 7 5 = nI a) (ht : ∀ i, i < sz → mem 8 i = nI (tp i)) (h256 : ∀ i, i < sz → tp i < 256) (K : ∀ mem', tkf mem mem' → mem' 7 5 = nI (nxt tp sz a).1 → mem' 7 6 = nI (nxt tp sz a).2.1 → mem' 7 7 = nI (nxt tp sz a).2.2.1 → ((nxt tp sz a).2.2.1 = 20 → mem' 7 8 = nI (nxt tp sz a).2.2.2) → Q none (LAY rf tl) mem') : Sim z d 0 0 mX1_goesOn 0 [.ref 7, .float 0] [] (LAY rf tl) mem Q := by
  have back : ∀ s, s ≤ sz → (nxt tp sz a = nxs tp sz s) → ∀ m, tkf mem m → m 7 5 = nI s → Sim z d 0 0 mX1_goesOn 52 [.ref 7, .float 0] [] (LAY rf tl) m Q := by
    intro s hs es m hm hp
    rw [es] at K
    have f1 : m 7 1 = nI sz := by rw [hm.2.1]; exact h1
    have t1 : ∀ i, i < sz → m 8 i = nI (tp i) := fun i hi => by rw [hm.1 8 (by decide)]; exact ht i hi
    refine s_aload_n (pc' := 53) dX1_goesOn_52 rfl lg0 rfl ?_
    refine s_aload_n (pc' := 54) dX1_goesOn_53 rfl lg0 rfl ?_
    refine s_getIv (pc' := 57) (v := nI s) dX1_goesOn_54 rfl flX1_28 ly7 (by decide) rfl hp ?_
    refine s_putI (pc' := 60) (ty := .int) dX1_goesOn_57 rfl flX1_31 fw1_6 pdI rfl rfl ly7 (by decide) rfl ?_
    have hm2 : tkf mem (am_up m 7 6 (nI s)) := hm.up (by decide)
    have p2 : am_up m 7 6 (nI s) 7 5 = nI s := by rw [upE, udN (by decide)]; exact hp
    have z2 : am_up m 7 6 (nI s) 7 1 = nI sz := by rw [upE, udN (by decide)]; exact f1
    have s2 : am_up m 7 6 (nI s) 7 6 = nI s := by rw [upE, udE]
    have t2 : ∀ i, i < sz → am_up m 7 6 (nI s) 8 i = nI (tp i) := fun i hi => by rw [upN (by decide)]; exact t1 i hi
    generalize am_up m 7 6 (nI s) = m2 at hm2 p2 z2 s2 t2
    unfold nxs at K
    refine s_aload_n (pc' := 61) dX1_goesOn_60 rfl lg0 rfl ?_
    refine s_getIv (pc' := 64) (v := nI s) dX1_goesOn_61 rfl flX1_28 ly7 (by decide) rfl p2 ?_
    refine s_aload_n (pc' := 65) dX1_goesOn_64 rfl lg0 rfl ?_
    refine s_getIv (pc' := 68) (v := nI sz) dX1_goesOn_65 rfl flX1_15 ly7 (by decide) rfl z2 ?_
    refine s_icmp_lt (pc' := 71) (tgt := 80) dX1_goesOn_68 rfl (by decide) (fun c1 => ?_) (fun c1 => ?_)
    · skip
      have hlt : s < sz := (nI_ltI (by omega) (by omega)).mp c1
      rw [if_neg (by omega)] at K
      refine s_aload_n (pc' := 81) dX1_goesOn_80 rfl lg0 rfl ?_
      refine s_getRv (pc' := 84) (v := .ref 8) dX1_goesOn_81 rfl flX1_9 ly7 (by decide) rfl rfl ?_
      refine s_aload_n (pc' := 85) dX1_goesOn_84 rfl lg0 rfl ?_
      refine s_getIv (pc' := 88) (v := nI s) dX1_goesOn_85 rfl flX1_28 ly7 (by decide) rfl p2 ?_
      refine s_ialdNv (pc' := 89) (v := nI (tp s)) dX1_goesOn_88 rfl ly8 (by omega) (by decide) (t2 s hlt) ?_
      refine c_X1_isLetter  (pc' := 92) dX1_goesOn_89 rfl lkX1_78 (by omega) (Nat.le_of_ble_eq_true rfl) (h256 s hlt) ?_
      by_cases hl : isLt (tp s) = true
      · rw [if_pos hl] at K
        rw [hl]
        refine s_if_eq (pc' := 95) (tgt := 145) dX1_goesOn_92 rfl (by decide) (fun c9 => absurd c9 (by decide)) (fun _ => ?_)
        have loop : ∀ (k i : Nat) (m : Mem), i + k = sz → s ≤ i → rn (fun i => isLt (tp i)) k i = rn (fun i => isLt (tp i)) (sz - s) s → tkf mem m → m 7 5 = nI i → m 7 6 = nI s → Sim z d 0 0 mX1_goesOn 95 [.ref 7, .float 0] [] (LAY rf tl) m Q := by
          have fin : ∀ (m : Mem), tkf mem m → m 7 5 = nI (rn (fun i => isLt (tp i)) (sz - s) s) → m 7 6 = nI s → Sim z d 0 0 mX1_goesOn 134 [.ref 7, .float 0] [] (LAY rf tl) m Q := by
            intro m g1 g2 g3
            have le1 : rn (fun i => isLt (tp i)) (sz - s) s ≤ s + (sz - s) := rn_le
            refine s_aload_n (pc' := 135) dX1_goesOn_134 rfl lg0 rfl ?_
            refine s_aload_n (pc' := 136) dX1_goesOn_135 rfl lg0 rfl ?_
            refine c_X1_wordFromStart  (pc' := 139) dX1_goesOn_136 rfl lkX1_82 (by omega) (Nat.le_of_ble_eq_true rfl) rn_ge (show rn (fun i => isLt (tp i)) (sz - s) s ≤ sz by omega) hsz g2 g3 (fun i hi => by rw [g1.1 8 (by decide)]; exact ht i hi) h256 ?_
            refine s_putI (pc' := 142) (ty := .int) dX1_goesOn_139 rfl flX1_34 fw1_7 pdI rfl rfl ly7 (by decide) rfl ?_
            refine s_goto (tgt := 253) dX1_goesOn_142 (by decide) ?_
            refine s_vret dX1_goesOn_253 rfl ?_
            exact K _ (g1.up (by decide)) (by rw [upE, udN (by decide)]; exact g2) (by rw [upE, udN (by decide)]; exact g3) (by rw [upE, udE]) (fun h20 => by dsimp only at h20; exact absurd h20 wrdN_ne)
          intro k
          induction k with
          | zero =>
            intro i m hi hsi hr g1 g2 g3
            rw [rn] at hr
            refine s_aload_n (pc' := 96) dX1_goesOn_95 rfl lg0 rfl ?_
            refine s_getIv (pc' := 99) (v := nI i) dX1_goesOn_96 rfl flX1_28 ly7 (by decide) rfl g2 ?_
            refine s_aload_n (pc' := 100) dX1_goesOn_99 rfl lg0 rfl ?_
            refine s_getIv (pc' := 103) (v := nI sz) dX1_goesOn_100 rfl flX1_15 ly7 (by decide) rfl (by rw [g1.2.1]; exact h1) ?_
            refine s_icmp_ge (pc' := 106) (tgt := 134) dX1_goesOn_103 rfl (by decide) (fun _ => ?_) (fun c9 => absurd (nI_le (by omega) (by omega)) c9)
            exact fin m g1 (by rw [← hr]; exact g2) g3
          | succ k ih =>
            intro i m hi hsi hr g1 g2 g3
            refine s_aload_n (pc' := 96) dX1_goesOn_95 rfl lg0 rfl ?_
            refine s_getIv (pc' := 99) (v := nI i) dX1_goesOn_96 rfl flX1_28 ly7 (by decide) rfl g2 ?_
            refine s_aload_n (pc' := 100) dX1_goesOn_99 rfl lg0 rfl ?_
            refine s_getIv (pc' := 103) (v := nI sz) dX1_goesOn_100 rfl flX1_15 ly7 (by decide) rfl (by rw [g1.2.1]; exact h1) ?_
            refine s_icmp_ge (pc' := 106) (tgt := 134) dX1_goesOn_103 rfl (by decide) (fun c9 => absurd c9 (nI_ge (by omega) (by omega))) (fun _ => ?_)
            refine s_aload_n (pc' := 107) dX1_goesOn_106 rfl lg0 rfl ?_
            refine s_getRv (pc' := 110) (v := .ref 8) dX1_goesOn_107 rfl flX1_9 ly7 (by decide) rfl rfl ?_
            refine s_aload_n (pc' := 111) dX1_goesOn_110 rfl lg0 rfl ?_
            refine s_getIv (pc' := 114) (v := nI i) dX1_goesOn_111 rfl flX1_28 ly7 (by decide) rfl g2 ?_
            refine s_ialdNv (pc' := 115) (v := nI (tp i)) dX1_goesOn_114 rfl ly8 (by omega) (by decide) (by rw [g1.1 8 (by decide)]; exact ht i (by omega)) ?_
            refine c_X1_isLetter  (pc' := 118) dX1_goesOn_115 rfl lkX1_78 (by omega) (Nat.le_of_ble_eq_true rfl) (h256 i (by omega)) ?_
            by_cases hq : isLt (tp i) = true
            · rw [hq]
              rw [rn_t (p := fun i => isLt (tp i)) hq] at hr
              refine s_if_eq (pc' := 121) (tgt := 134) dX1_goesOn_118 rfl (by decide) (fun c9 => absurd c9 (by decide)) (fun _ => ?_)
              refine s_aload_n (pc' := 122) dX1_goesOn_121 rfl lg0 rfl ?_
              refine s_dup (pc' := 123) dX1_goesOn_122 rfl rfl ?_
              refine s_getIv (pc' := 126) (v := nI i) dX1_goesOn_123 rfl flX1_28 ly7 (by decide) rfl g2 ?_
              refine s_iconst (pc' := 127) dX1_goesOn_126 rfl iconst_1 ?_
              refine s_iadd (pc' := 128) dX1_goesOn_127 rfl ?_
              rw [nI_1]
              refine s_putI (pc' := 131) (ty := .int) dX1_goesOn_128 rfl flX1_28 fw1_5 pdI rfl rfl ly7 (by decide) rfl ?_
              refine s_goto (tgt := 95) dX1_goesOn_131 (by decide) ?_
              exact ih (i + 1) _ (by omega) (by omega) hr (g1.up (by decide)) (by rw [upE, udE]) (by rw [upE, udN (by decide)]; exact g3)
            · rw [Bool.eq_false_iff.mpr hq]
              rw [rn_f (p := fun i => isLt (tp i)) (Bool.eq_false_iff.mpr hq)] at hr
              refine s_if_eq (pc' := 121) (tgt := 134) dX1_goesOn_118 rfl (by decide) (fun _ => ?_) (fun c9 => absurd (by decide) c9)
              exact fin m g1 (by rw [← hr]; exact g2) g3
        exact loop (sz - s) s m2 (by omega) (Nat.le_refl s) rfl hm2 p2 s2
      · rw [if_neg hl] at K
        rw [Bool.eq_false_iff.mpr hl]
        refine s_if_eq (pc' := 95) (tgt := 145) dX1_goesOn_92 rfl (by decide) (fun _ => ?_) (fun c9 => absurd (by decide) c9)
        refine s_aload_n (pc' := 146) dX1_goesOn_145 rfl lg0 rfl ?_
        refine s_getRv (pc' := 149) (v := .ref 8) dX1_goesOn_146 rfl flX1_9 ly7 (by decide) rfl rfl ?_
        refine s_aload_n (pc' := 150) dX1_goesOn_149 rfl lg0 rfl ?_
        refine s_getIv (pc' := 153) (v := nI s) dX1_goesOn_150 rfl flX1_28 ly7 (by decide) rfl p2 ?_
        refine s_ialdNv (pc' := 154) (v := nI (tp s)) dX1_goesOn_153 rfl ly8 (by omega) (by decide) (t2 s hlt) ?_
        refine c_X1_isDigit  (pc' := 157) dX1_goesOn_154 rfl lkX1_86 (by omega) (Nat.le_of_ble_eq_true rfl) (h256 s hlt) ?_
        by_cases hd : isDg (tp s) = true
        · rw [if_pos hd] at K
          rw [hd]
          refine s_if_eq (pc' := 160) (tgt := 210) dX1_goesOn_157 rfl (by decide) (fun c9 => absurd c9 (by decide)) (fun _ => ?_)
          have loop : ∀ (k i : Nat) (m : Mem), i + k = sz → s ≤ i → rn (fun i => isDg (tp i)) k i = rn (fun i => isDg (tp i)) (sz - s) s → tkf mem m → m 7 5 = nI i → m 7 6 = nI s → Sim z d 0 0 mX1_goesOn 160 [.ref 7, .float 0] [] (LAY rf tl) m Q := by
            have fin : ∀ (m : Mem), tkf mem m → m 7 5 = nI (rn (fun i => isDg (tp i)) (sz - s) s) → m 7 6 = nI s → Sim z d 0 0 mX1_goesOn 199 [.ref 7, .float 0] [] (LAY rf tl) m Q := by
              intro m g1 g2 g3
              have le1 : rn (fun i => isDg (tp i)) (sz - s) s ≤ s + (sz - s) := rn_le
              refine s_aload_n (pc' := 200) dX1_goesOn_199 rfl lg0 rfl ?_
              refine s_aload_n (pc' := 201) dX1_goesOn_200 rfl lg0 rfl ?_
              refine c_X1_numberFromStart  (pc' := 204) dX1_goesOn_201 rfl lkX1_89 (by omega) (Nat.le_of_ble_eq_true rfl) rn_ge (show rn (fun i => isDg (tp i)) (sz - s) s ≤ sz by omega) hsz g2 g3 (fun i hi => by rw [g1.1 8 (by decide)]; exact ht i hi) (fun i q1 q2 => rn_in (p := fun i => isDg (tp i)) (k := sz - s) q1 q2) (fun m3 q1 q2 => ?_)
              have g4 : tkf mem m3 := ⟨fun j hj => (q1.1 j hj).trans (g1.1 j hj), (q1.2 1 (by decide)).trans g1.2.1, (q1.2 2 (by decide)).trans g1.2.2.1, (q1.2 4 (by decide)).trans g1.2.2.2⟩
              refine s_putI (pc' := 207) (ty := .int) dX1_goesOn_204 rfl flX1_34 fw1_7 pdI rfl rfl ly7 (by decide) rfl ?_
              refine s_goto (tgt := 253) dX1_goesOn_207 (by decide) ?_
              refine s_vret dX1_goesOn_253 rfl ?_
              refine K _ (g4.up (by decide)) ?_ ?_ ?_ ?_
              · rw [upE, udN (by decide), q1.2 5 (by decide)]; exact g2
              · rw [upE, udN (by decide), q1.2 6 (by decide)]; exact g3
              · rw [upE, udE]
                dsimp only
                split
                · decide
                · decide
              · intro h20
                rw [upE, udN (by decide)]
                refine q2 ?_
                rcases Nat.lt_or_ge 4 (rn (fun i => isDg (tp i)) (sz - s) s - s) with q | q
                · dsimp only at h20
                  rw [if_pos q] at h20
                  exact absurd h20 (by decide)
                · exact q
            intro k
            induction k with
            | zero =>
              intro i m hi hsi hr g1 g2 g3
              rw [rn] at hr
              refine s_aload_n (pc' := 161) dX1_goesOn_160 rfl lg0 rfl ?_
              refine s_getIv (pc' := 164) (v := nI i) dX1_goesOn_161 rfl flX1_28 ly7 (by decide) rfl g2 ?_
              refine s_aload_n (pc' := 165) dX1_goesOn_164 rfl lg0 rfl ?_
              refine s_getIv (pc' := 168) (v := nI sz) dX1_goesOn_165 rfl flX1_15 ly7 (by decide) rfl (by rw [g1.2.1]; exact h1) ?_
              refine s_icmp_ge (pc' := 171) (tgt := 199) dX1_goesOn_168 rfl (by decide) (fun _ => ?_) (fun c9 => absurd (nI_le (by omega) (by omega)) c9)
              exact fin m g1 (by rw [← hr]; exact g2) g3
            | succ k ih =>
              intro i m hi hsi hr g1 g2 g3
              refine s_aload_n (pc' := 161) dX1_goesOn_160 rfl lg0 rfl ?_
              refine s_getIv (pc' := 164) (v := nI i) dX1_goesOn_161 rfl flX1_28 ly7 (by decide) rfl g2 ?_
              refine s_aload_n (pc' := 165) dX1_goesOn_164 rfl lg0 rfl ?_
              refine s_getIv (pc' := 168) (v := nI sz) dX1_goesOn_165 rfl flX1_15 ly7 (by decide) rfl (by rw [g1.2.1]; exact h1) ?_
              refine s_icmp_ge (pc' := 171) (tgt := 199) dX1_goesOn_168 rfl (by decide) (fun c9 => absurd c9 (nI_ge (by omega) (by omega))) (fun _ => ?_)
              refine s_aload_n (pc' := 172) dX1_goesOn_171 rfl lg0 rfl ?_
              refine s_getRv (pc' := 175) (v := .ref 8) dX1_goesOn_172 rfl flX1_9 ly7 (by decide) rfl rfl ?_
              refine s_aload_n (pc' := 176) dX1_goesOn_175 rfl lg0 rfl ?_
              refine s_getIv (pc' := 179) (v := nI i) dX1_goesOn_176 rfl flX1_28 ly7 (by decide) rfl g2 ?_
              refine s_ialdNv (pc' := 180) (v := nI (tp i)) dX1_goesOn_179 rfl ly8 (by omega) (by decide) (by rw [g1.1 8 (by decide)]; exact ht i (by omega)) ?_
              refine c_X1_isDigit  (pc' := 183) dX1_goesOn_180 rfl lkX1_86 (by omega) (Nat.le_of_ble_eq_true rfl) (h256 i (by omega)) ?_
              by_cases hq : isDg (tp i) = true
              · rw [hq]
                rw [rn_t (p := fun i => isDg (tp i)) hq] at hr
                refine s_if_eq (pc' := 186) (tgt := 199) dX1_goesOn_183 rfl (by decide) (fun c9 => absurd c9 (by decide)) (fun _ => ?_)
                refine s_aload_n (pc' := 187) dX1_goesOn_186 rfl lg0 rfl ?_
                refine s_dup (pc' := 188) dX1_goesOn_187 rfl rfl ?_
                refine s_getIv (pc' := 191) (v := nI i) dX1_goesOn_188 rfl flX1_28 ly7 (by decide) rfl g2 ?_
                refine s_iconst (pc' := 192) dX1_goesOn_191 rfl iconst_1 ?_
                refine s_iadd (pc' := 193) dX1_goesOn_192 rfl ?_
                rw [nI_1]
                refine s_putI (pc' := 196) (ty := .int) dX1_goesOn_193 rfl flX1_28 fw1_5 pdI rfl rfl ly7 (by decide) rfl ?_
                refine s_goto (tgt := 160) dX1_goesOn_196 (by decide) ?_
                exact ih (i + 1) _ (by omega) (by omega) hr (g1.up (by decide)) (by rw [upE, udE]) (by rw [upE, udN (by decide)]; exact g3)
              · rw [Bool.eq_false_iff.mpr hq]
                rw [rn_f (p := fun i => isDg (tp i)) (Bool.eq_false_iff.mpr hq)] at hr
                refine s_if_eq (pc' := 186) (tgt := 199) dX1_goesOn_183 rfl (by decide) (fun _ => ?_) (fun c9 => absurd (by decide) c9)
                exact fin m g1 (by rw [← hr]; exact g2) g3
          exact loop (sz - s) s m2 (by omega) (Nat.le_refl s) rfl hm2 p2 s2
        · rw [if_neg hd] at K
          rw [Bool.eq_false_iff.mpr hd]
          refine s_if_eq (pc' := 160) (tgt := 210) dX1_goesOn_157 rfl (by decide) (fun _ => ?_) (fun c9 => absurd (by decide) c9)
          refine s_ldcS (pc' := 212) dX1_goesOn_210 rfl rfl ?_
          refine s_aload_n (pc' := 213) dX1_goesOn_212 rfl lg0 rfl ?_
          refine s_getRv (pc' := 216) (v := .ref 8) dX1_goesOn_213 rfl flX1_9 ly7 (by decide) rfl rfl ?_
          refine s_aload_n (pc' := 217) dX1_goesOn_216 rfl lg0 rfl ?_
          refine s_getIv (pc' := 220) (v := nI s) dX1_goesOn_217 rfl flX1_28 ly7 (by decide) rfl p2 ?_
          refine s_ialdNv (pc' := 221) (v := nI (tp s)) dX1_goesOn_220 rfl ly8 (by omega) (by decide) (t2 s hlt) ?_
          refine s_i2c (pc' := 222) dX1_goesOn_221 rfl ?_
          rw [show ((nI (tp s)).toUInt32 % 65536).toInt32 = nI (tp s) from i2c_b (h256 s hlt)]
          refine c_J0_indexOf_0f7a4  (pc' := 225) dX1_goesOn_222 rfl lkX1_94 (by omega) (Nat.le_of_ble_eq_true rfl) (h256 s hlt) ?_
          have hfin : ∀ (t : Nat) (x : Value) (S : Int32), t = sgT (tp s) → Sim z d 0 0 mX1_goesOn 243 [.ref 7, x] [] (LAY rf tl) (am_up m2 7 7 (nI t)) Q := by
            intro t x S et
            refine s_aload_n (pc' := 244) dX1_goesOn_243 rfl lg0 rfl ?_
            refine s_dup (pc' := 245) dX1_goesOn_244 rfl rfl ?_
            refine s_getIv (pc' := 248) (v := nI s) dX1_goesOn_245 rfl flX1_28 ly7 (by decide) rfl (by rw [upE, udN (by decide)]; exact p2) ?_
            refine s_iconst (pc' := 249) dX1_goesOn_248 rfl iconst_1 ?_
            refine s_iadd (pc' := 250) dX1_goesOn_249 rfl ?_
            rw [nI_1]
            refine s_putI (pc' := 253) (ty := .int) dX1_goesOn_250 rfl flX1_28 fw1_5 pdI rfl rfl ly7 (by decide) rfl ?_
            refine s_vret dX1_goesOn_253 rfl ?_
            refine K _ ((hm2.up (by decide)).up (by decide)) ?_ ?_ ?_ (fun h20 => by dsimp only at h20; exact absurd h20 sgT_ne)
            · rw [upE, udE]
            · rw [upE, udN (by decide), upE, udN (by decide)]; exact s2
            · rw [upE, udN (by decide), upE, udE, et]
          refine s_istore_n (pc' := 226) dX1_goesOn_225 rfl (Nat.le_of_ble_eq_true rfl) rfl ls1 ?_
          refine s_aload_n (pc' := 227) dX1_goesOn_226 rfl lg0 rfl ?_
          refine s_iload_n (pc' := 228) dX1_goesOn_227 rfl lg1 ?_
          unfold sgI
          by_cases hg : sgN (nI (tp s)) < 8
          · rw [if_pos hg]
            refine s_if_lt (pc' := 231) (tgt := 238) dX1_goesOn_228 rfl (by decide) (fun c9 => absurd c9 (nI_pos (by omega))) (fun _ => ?_)
            refine s_bipush (pc' := 233) dX1_goesOn_231 rfl bipush_12 ?_
            refine s_iload_n (pc' := 234) dX1_goesOn_233 rfl lg1 ?_
            refine s_iadd (pc' := 235) dX1_goesOn_234 rfl ?_
            refine s_goto (tgt := 240) dX1_goesOn_235 (by decide) ?_
            rw [show 12 + nI (sgN (nI (tp s))) = nI (12 + sgN (nI (tp s))) from nI_add 12 _]
            refine s_putI (pc' := 243) (ty := .int) dX1_goesOn_240 rfl flX1_34 fw1_7 pdI rfl rfl ly7 (by decide) rfl ?_
            exact hfin _ _ 0 (by unfold sgT; rw [if_pos hg])
          · rw [if_neg hg]
            refine s_if_lt (pc' := 231) (tgt := 238) dX1_goesOn_228 rfl (by decide) (fun _ => ?_) (fun c9 => absurd (by decide) c9)
            refine s_bipush (pc' := 240) dX1_goesOn_238 rfl bipush_22 ?_
            refine s_putI (pc' := 243) (ty := .int) dX1_goesOn_240 rfl flX1_34 fw1_7 pdI rfl rfl ly7 (by decide) rfl ?_
            exact hfin 22 _ 0 (by unfold sgT; rw [if_neg hg])
    · skip
      have hge : sz ≤ s := by
        rcases Nat.lt_or_ge s sz with q | q
        · exact absurd (nI_lt q (by omega)) c1
        · exact q
      rw [if_pos hge] at K
      refine s_aload_n (pc' := 72) dX1_goesOn_71 rfl lg0 rfl ?_
      refine s_bipush (pc' := 74) dX1_goesOn_72 rfl bipush_21 ?_
      refine s_putI (pc' := 77) (ty := .int) dX1_goesOn_74 rfl flX1_34 fw1_7 pdI rfl rfl ly7 (by decide) rfl ?_
      refine s_goto (tgt := 253) dX1_goesOn_77 (by decide) ?_
      refine s_vret dX1_goesOn_253 rfl ?_
      exact K _ (hm2.up (by decide)) (by rw [upE, udN (by decide)]; exact p2) (by rw [upE, udN (by decide)]; exact s2) (by rw [upE, udE]; rfl) (fun h => by dsimp only at h; exact absurd h (by decide))
  have loop : ∀ (k i : Nat) (m : Mem), i + k = sz → rn (fun i => isBl (tp i)) k i = tS tp sz a → tkf mem m → m 7 5 = nI i → Sim z d 0 0 mX1_goesOn 0 [.ref 7, .float 0] [] (LAY rf tl) m Q := by
    intro k
    induction k with
    | zero =>
      intro i m hi hr g1 g2
      rw [rn] at hr
      refine s_aload_n (pc' := 1) dX1_goesOn_0 rfl lg0 rfl ?_
      refine s_getIv (pc' := 4) (v := nI i) dX1_goesOn_1 rfl flX1_28 ly7 (by decide) rfl g2 ?_
      refine s_aload_n (pc' := 5) dX1_goesOn_4 rfl lg0 rfl ?_
      refine s_getIv (pc' := 8) (v := nI sz) dX1_goesOn_5 rfl flX1_15 ly7 (by decide) rfl (by rw [g1.2.1]; exact h1) ?_
      refine s_icmp_ge (pc' := 11) (tgt := 52) dX1_goesOn_8 rfl (by decide) (fun _ => ?_) (fun c9 => absurd (nI_le (by omega) (by omega)) c9)
      exact back i (by omega) (by unfold nxt; rw [← hr]) m g1 g2
    | succ k ih =>
      intro i m hi hr g1 g2
      have hb := h256 i (by omega)
      have e1 : (nI (tp i) = 32) = (tp i = 32) := nI_eqL (c := 32) (by omega) (by omega)
      have e2 : (nI (tp i) = 10) = (tp i = 10) := nI_eqL (c := 10) (by omega) (by omega)
      have et : m 8 i = nI (tp i) := by rw [g1.1 8 (by decide)]; exact ht i (by omega)
      have nx : isBl (tp i) = true → Sim z d 0 0 mX1_goesOn 39 [.ref 7, .float 0] [] (LAY rf tl) m Q := by
        intro hq
        rw [rn_t (p := fun i => isBl (tp i)) hq] at hr
        refine s_aload_n (pc' := 40) dX1_goesOn_39 rfl lg0 rfl ?_
        refine s_dup (pc' := 41) dX1_goesOn_40 rfl rfl ?_
        refine s_getIv (pc' := 44) (v := nI i) dX1_goesOn_41 rfl flX1_28 ly7 (by decide) rfl g2 ?_
        refine s_iconst (pc' := 45) dX1_goesOn_44 rfl iconst_1 ?_
        refine s_iadd (pc' := 46) dX1_goesOn_45 rfl ?_
        rw [nI_1]
        refine s_putI (pc' := 49) (ty := .int) dX1_goesOn_46 rfl flX1_28 fw1_5 pdI rfl rfl ly7 (by decide) rfl ?_
        refine s_goto (tgt := 0) dX1_goesOn_49 (by decide) ?_
        exact ih (i + 1) _ (by omega) hr (g1.up (by decide)) (by rw [upE, udE])
      refine s_aload_n (pc' := 1) dX1_goesOn_0 rfl lg0 rfl ?_
      refine s_getIv (pc' := 4) (v := nI i) dX1_goesOn_1 rfl flX1_28 ly7 (by decide) rfl g2 ?_
      refine s_aload_n (pc' := 5) dX1_goesOn_4 rfl lg0 rfl ?_
      refine s_getIv (pc' := 8) (v := nI sz) dX1_goesOn_5 rfl flX1_15 ly7 (by decide) rfl (by rw [g1.2.1]; exact h1) ?_
      refine s_icmp_ge (pc' := 11) (tgt := 52) dX1_goesOn_8 rfl (by decide) (fun c9 => absurd c9 (nI_ge (by omega) (by omega))) (fun _ => ?_)
      refine s_aload_n (pc' := 12) dX1_goesOn_11 rfl lg0 rfl ?_
      refine s_getRv (pc' := 15) (v := .ref 8) dX1_goesOn_12 rfl flX1_9 ly7 (by decide) rfl rfl ?_
      refine s_aload_n (pc' := 16) dX1_goesOn_15 rfl lg0 rfl ?_
      refine s_getIv (pc' := 19) (v := nI i) dX1_goesOn_16 rfl flX1_28 ly7 (by decide) rfl g2 ?_
      refine s_ialdNv (pc' := 20) (v := nI (tp i)) dX1_goesOn_19 rfl ly8 (by omega) (by decide) et ?_
      refine s_bipush (pc' := 22) dX1_goesOn_20 rfl bipush_32 ?_
      refine s_icmp_eq (pc' := 25) (tgt := 39) dX1_goesOn_22 rfl (by decide) (fun c1 => ?_) (fun c1 => ?_)
      · rw [e1] at c1
        exact nx (by unfold isBl; rw [decide_eq_true c1]; rfl)
      · skip
        rw [e1] at c1
        refine s_aload_n (pc' := 26) dX1_goesOn_25 rfl lg0 rfl ?_
        refine s_getRv (pc' := 29) (v := .ref 8) dX1_goesOn_26 rfl flX1_9 ly7 (by decide) rfl rfl ?_
        refine s_aload_n (pc' := 30) dX1_goesOn_29 rfl lg0 rfl ?_
        refine s_getIv (pc' := 33) (v := nI i) dX1_goesOn_30 rfl flX1_28 ly7 (by decide) rfl g2 ?_
        refine s_ialdNv (pc' := 34) (v := nI (tp i)) dX1_goesOn_33 rfl ly8 (by omega) (by decide) et ?_
        refine s_bipush (pc' := 36) dX1_goesOn_34 rfl bipush_10 ?_
        refine s_icmp_ne (pc' := 39) (tgt := 52) dX1_goesOn_36 rfl (by decide) (fun c2 => ?_) (fun c2 => ?_)
        · rw [e2] at c2
          rw [rn_f (p := fun i => isBl (tp i)) (by show isBl (tp i) = false; unfold isBl; rw [decide_eq_false c1, decide_eq_false c2]; rfl)] at hr
          exact back i (by omega) (by unfold nxt; rw [← hr]) m g1 g2
        · rw [e2] at c2
          exact nx (by unfold isBl; rw [decide_eq_true c2, Bool.or_true])
  exact loop (sz - a) a mem (by omega) rfl tkf.rf h5
theorem c_X1_goesOn {z : Zz} {d kc ks : Nat} {mi : MI} {pc pc' : Nat} {L S : List Value} {Q : Option Value → Lay → Mem → Prop} {rf : Nat → Value} {tl : Lay} {mem : Mem}  {a sz : Nat} {tp : Nat → Nat} {idx : Nat} (hd : decode mi.2.1 pc = .ok (.invokevirtual idx, 3)) (hp : pc + 3 = pc') (hlk : Cond.methodLink mi.1.cls idx yX1_goesOn ∈ wok) (hdd : 5 + 1 ≤ d) (hcat : (S.map (fun v => v.category)).sum ≤ 8) (haz : a ≤ sz) (hsz : sz ≤ 160) (h1 : mem 7 1 = nI sz) (h5 : mem 7 5 = nI a) (ht : ∀ i, i < sz → mem 8 i = nI (tp i)) (h256 : ∀ i, i < sz → tp i < 256) (K : ∀ mem', tkf mem mem' → mem' 7 5 = nI (nxt tp sz a).1 → mem' 7 6 = nI (nxt tp sz a).2.1 → mem' 7 7 = nI (nxt tp sz a).2.2.1 → ((nxt tp sz a).2.2.1 = 20 → mem' 7 8 = nI (nxt tp sz a).2.2.2) → Sim z d kc ks mi pc' L S (LAY rf tl) mem' Q) : Sim z d kc ks mi pc L (.ref 7 :: S) (LAY rf tl) mem Q :=
  s_invV (d2 := 5) hd hp okX1_goesOn hlk inX1_goesOn seX1_goesOn hdd (Nat.zero_add _) (Nat.zero_add _) rfl rfl ly7 rfl hcat (Nat.le_of_ble_eq_true rfl) (m_X1_goesOn (Nat.le_refl _) haz hsz h1 h5 ht h256 K)

