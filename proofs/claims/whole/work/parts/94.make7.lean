/-! ===== the Model's making ===== -/
theorem m_X7_firstText {z : Zz} {d : Nat} {Q : Option Value → Lay → Mem → Prop} {lay : Lay} {mem : Mem} {t a b : Nat} {rr ra rb : Nat → Value} (hc : lay[t]? = some (7, 30, rr)) (h10 : rr 10 = .ref a) (h11 : rr 11 = .ref b) (ha : lay[a]? = some (8, 960, ra)) (hb : lay[b]? = some (8, 18, rb)) (K : Q (some (.int 1)) lay (am_up (am_up (am_up (am_up (am_up (am_up mem a 0 2) a 1 1) a 2 1) b 0 1) b 1 2) b 2 3)) : Sim z d 0 0 mX7_firstText 0 [.ref t] [] lay mem Q := by
  refine s_aload_n (pc' := 1) dX7_firstText_0 rfl lg0 rfl ?_
  refine s_getRv (v := .ref a) (pc' := 4) dX7_firstText_1 rfl flX7_22 hc (by decide) rfl h10 ?_
  refine s_iconst (pc' := 5) dX7_firstText_4 rfl iconst_0 ?_
  refine s_iconst (pc' := 6) dX7_firstText_5 rfl iconst_2 ?_
  refine s_iastN (id := a) (k := 0) (pc' := 7) dX7_firstText_6 rfl ha (by decide) (by decide) ?_
  refine s_aload_n (pc' := 8) dX7_firstText_7 rfl lg0 rfl ?_
  refine s_getRv (v := .ref a) (pc' := 11) dX7_firstText_8 rfl flX7_22 hc (by decide) rfl h10 ?_
  refine s_iconst (pc' := 12) dX7_firstText_11 rfl iconst_1 ?_
  refine s_iconst (pc' := 13) dX7_firstText_12 rfl iconst_1 ?_
  refine s_iastN (id := a) (k := 1) (pc' := 14) dX7_firstText_13 rfl ha (by decide) (by decide) ?_
  refine s_aload_n (pc' := 15) dX7_firstText_14 rfl lg0 rfl ?_
  refine s_getRv (v := .ref a) (pc' := 18) dX7_firstText_15 rfl flX7_22 hc (by decide) rfl h10 ?_
  refine s_iconst (pc' := 19) dX7_firstText_18 rfl iconst_2 ?_
  refine s_iconst (pc' := 20) dX7_firstText_19 rfl iconst_1 ?_
  refine s_iastN (id := a) (k := 2) (pc' := 21) dX7_firstText_20 rfl ha (by decide) (by decide) ?_
  refine s_aload_n (pc' := 22) dX7_firstText_21 rfl lg0 rfl ?_
  refine s_getRv (v := .ref b) (pc' := 25) dX7_firstText_22 rfl flX7_25 hc (by decide) rfl h11 ?_
  refine s_iconst (pc' := 26) dX7_firstText_25 rfl iconst_0 ?_
  refine s_iconst (pc' := 27) dX7_firstText_26 rfl iconst_1 ?_
  refine s_iastN (id := b) (k := 0) (pc' := 28) dX7_firstText_27 rfl hb (by decide) (by decide) ?_
  refine s_aload_n (pc' := 29) dX7_firstText_28 rfl lg0 rfl ?_
  refine s_getRv (v := .ref b) (pc' := 32) dX7_firstText_29 rfl flX7_25 hc (by decide) rfl h11 ?_
  refine s_iconst (pc' := 33) dX7_firstText_32 rfl iconst_1 ?_
  refine s_iconst (pc' := 34) dX7_firstText_33 rfl iconst_2 ?_
  refine s_iastN (id := b) (k := 1) (pc' := 35) dX7_firstText_34 rfl hb (by decide) (by decide) ?_
  refine s_aload_n (pc' := 36) dX7_firstText_35 rfl lg0 rfl ?_
  refine s_getRv (v := .ref b) (pc' := 39) dX7_firstText_36 rfl flX7_25 hc (by decide) rfl h11 ?_
  refine s_iconst (pc' := 40) dX7_firstText_39 rfl iconst_2 ?_
  refine s_iconst (pc' := 41) dX7_firstText_40 rfl iconst_3 ?_
  refine s_iastN (id := b) (k := 2) (pc' := 42) dX7_firstText_41 rfl hb (by decide) (by decide) ?_
  refine s_iconst (pc' := 43) dX7_firstText_42 rfl iconst_1 ?_
  exact s_iret dX7_firstText_43 rfl (vp_nar_int _) K
def gN (m : Nat) : Nat → Int32 := fun i => if i < m then nI (NM i) else 0
theorem gN_up {f : Nat → Int32} {m : Nat} {x : Int32} (hf : f = gN m) (hx : x = nI (NM m)) : upd f m x = gN (m + 1) := by
  rw [hf, hx]
  funext i
  unfold gN upd
  by_cases e : i = m
  · rw [if_pos e, if_pos (by omega), e]
  · rw [if_neg e]
    dsimp only
    by_cases q : i < m
    · rw [if_pos q, if_pos (by omega)]
    · rw [if_neg q, if_neg (by omega)]
theorem gN_0 : (fun _ => (0 : Int32)) = gN 0 := by
  funext i
  unfold gN
  rw [if_neg (Nat.not_lt_zero i)]
set_option maxHeartbeats 4000000 in
theorem nmc_0 {z : Zz} {d kc ks t id : Nat} {Q : Option Value → Lay → Mem → Prop} {lay : Lay} {M : Mem} {S : List Value} (hg : lay[id]? = some (9, 84, NUL)) (hM : M id = gN 0) (K : ∀ M', M' id = gN 12 → (∀ j, j ≠ id → M' j = M j) → Sim z d kc ks mX7_init 131 [.ref t] (.ref id :: S) lay M' Q) : Sim z d kc ks mX7_init 67 [.ref t] (.ref id :: S) lay M Q := by
  refine s_dup (pc' := 68) dX7_init_67 rfl rfl ?_
  refine s_iconst (pc' := 69) dX7_init_68 rfl iconst_0 ?_
  refine s_bipush (pc' := 71) dX7_init_69 rfl bipush_115 ?_
  refine s_castN (id := id) (k := 0) (pc' := 72) dX7_init_71 rfl hg (by decide) (by decide) ?_
  generalize e0 : am_up M id 0 (vp_nar .char 115) = M1
  have h1 : M1 id = gN 1 := by rw [← e0, upE]; exact gN_up hM (by decide)
  have f1 : ∀ j, j ≠ id → M1 j = M j := fun j hj => by rw [← e0, upN hj]
  refine s_dup (pc' := 73) dX7_init_72 rfl rfl ?_
  refine s_iconst (pc' := 74) dX7_init_73 rfl iconst_1 ?_
  refine s_bipush (pc' := 76) dX7_init_74 rfl bipush_104 ?_
  refine s_castN (id := id) (k := 1) (pc' := 77) dX7_init_76 rfl hg (by decide) (by decide) ?_
  generalize e1 : am_up M1 id 1 (vp_nar .char 104) = M2
  have h2 : M2 id = gN 2 := by rw [← e1, upE]; exact gN_up h1 (by decide)
  have f2 : ∀ j, j ≠ id → M2 j = M j := fun j hj => by rw [← e1, upN hj]; exact f1 j hj
  refine s_dup (pc' := 78) dX7_init_77 rfl rfl ?_
  refine s_iconst (pc' := 79) dX7_init_78 rfl iconst_2 ?_
  refine s_bipush (pc' := 81) dX7_init_79 rfl bipush_97 ?_
  refine s_castN (id := id) (k := 2) (pc' := 82) dX7_init_81 rfl hg (by decide) (by decide) ?_
  generalize e2 : am_up M2 id 2 (vp_nar .char 97) = M3
  have h3 : M3 id = gN 3 := by rw [← e2, upE]; exact gN_up h2 (by decide)
  have f3 : ∀ j, j ≠ id → M3 j = M j := fun j hj => by rw [← e2, upN hj]; exact f2 j hj
  refine s_dup (pc' := 83) dX7_init_82 rfl rfl ?_
  refine s_iconst (pc' := 84) dX7_init_83 rfl iconst_3 ?_
  refine s_bipush (pc' := 86) dX7_init_84 rfl bipush_114 ?_
  refine s_castN (id := id) (k := 3) (pc' := 87) dX7_init_86 rfl hg (by decide) (by decide) ?_
  generalize e3 : am_up M3 id 3 (vp_nar .char 114) = M4
  have h4 : M4 id = gN 4 := by rw [← e3, upE]; exact gN_up h3 (by decide)
  have f4 : ∀ j, j ≠ id → M4 j = M j := fun j hj => by rw [← e3, upN hj]; exact f3 j hj
  refine s_dup (pc' := 88) dX7_init_87 rfl rfl ?_
  refine s_iconst (pc' := 89) dX7_init_88 rfl iconst_4 ?_
  refine s_bipush (pc' := 91) dX7_init_89 rfl bipush_112 ?_
  refine s_castN (id := id) (k := 4) (pc' := 92) dX7_init_91 rfl hg (by decide) (by decide) ?_
  generalize e4 : am_up M4 id 4 (vp_nar .char 112) = M5
  have h5 : M5 id = gN 5 := by rw [← e4, upE]; exact gN_up h4 (by decide)
  have f5 : ∀ j, j ≠ id → M5 j = M j := fun j hj => by rw [← e4, upN hj]; exact f4 j hj
  refine s_dup (pc' := 93) dX7_init_92 rfl rfl ?_
  refine s_iconst (pc' := 94) dX7_init_93 rfl iconst_5 ?_
  refine s_iconst (pc' := 95) dX7_init_94 rfl iconst_0 ?_
  refine s_castN (id := id) (k := 5) (pc' := 96) dX7_init_95 rfl hg (by decide) (by decide) ?_
  generalize e5 : am_up M5 id 5 (vp_nar .char 0) = M6
  have h6 : M6 id = gN 6 := by rw [← e5, upE]; exact gN_up h5 (by decide)
  have f6 : ∀ j, j ≠ id → M6 j = M j := fun j hj => by rw [← e5, upN hj]; exact f5 j hj
  refine s_dup (pc' := 97) dX7_init_96 rfl rfl ?_
  refine s_bipush (pc' := 99) dX7_init_97 rfl bipush_6 ?_
  refine s_iconst (pc' := 100) dX7_init_99 rfl iconst_0 ?_
  refine s_castN (id := id) (k := 6) (pc' := 101) dX7_init_100 rfl hg (by decide) (by decide) ?_
  generalize e6 : am_up M6 id 6 (vp_nar .char 0) = M7
  have h7 : M7 id = gN 7 := by rw [← e6, upE]; exact gN_up h6 (by decide)
  have f7 : ∀ j, j ≠ id → M7 j = M j := fun j hj => by rw [← e6, upN hj]; exact f6 j hj
  refine s_dup (pc' := 102) dX7_init_101 rfl rfl ?_
  refine s_bipush (pc' := 104) dX7_init_102 rfl bipush_7 ?_
  refine s_bipush (pc' := 106) dX7_init_104 rfl bipush_116 ?_
  refine s_castN (id := id) (k := 7) (pc' := 107) dX7_init_106 rfl hg (by decide) (by decide) ?_
  generalize e7 : am_up M7 id 7 (vp_nar .char 116) = M8
  have h8 : M8 id = gN 8 := by rw [← e7, upE]; exact gN_up h7 (by decide)
  have f8 : ∀ j, j ≠ id → M8 j = M j := fun j hj => by rw [← e7, upN hj]; exact f7 j hj
  refine s_dup (pc' := 108) dX7_init_107 rfl rfl ?_
  refine s_bipush (pc' := 110) dX7_init_108 rfl bipush_8 ?_
  refine s_bipush (pc' := 112) dX7_init_110 rfl bipush_104 ?_
  refine s_castN (id := id) (k := 8) (pc' := 113) dX7_init_112 rfl hg (by decide) (by decide) ?_
  generalize e8 : am_up M8 id 8 (vp_nar .char 104) = M9
  have h9 : M9 id = gN 9 := by rw [← e8, upE]; exact gN_up h8 (by decide)
  have f9 : ∀ j, j ≠ id → M9 j = M j := fun j hj => by rw [← e8, upN hj]; exact f8 j hj
  refine s_dup (pc' := 114) dX7_init_113 rfl rfl ?_
  refine s_bipush (pc' := 116) dX7_init_114 rfl bipush_9 ?_
  refine s_bipush (pc' := 118) dX7_init_116 rfl bipush_101 ?_
  refine s_castN (id := id) (k := 9) (pc' := 119) dX7_init_118 rfl hg (by decide) (by decide) ?_
  generalize e9 : am_up M9 id 9 (vp_nar .char 101) = M10
  have h10 : M10 id = gN 10 := by rw [← e9, upE]; exact gN_up h9 (by decide)
  have f10 : ∀ j, j ≠ id → M10 j = M j := fun j hj => by rw [← e9, upN hj]; exact f9 j hj
  refine s_dup (pc' := 120) dX7_init_119 rfl rfl ?_
  refine s_bipush (pc' := 122) dX7_init_120 rfl bipush_10 ?_
  refine s_bipush (pc' := 124) dX7_init_122 rfl bipush_105 ?_
  refine s_castN (id := id) (k := 10) (pc' := 125) dX7_init_124 rfl hg (by decide) (by decide) ?_
  generalize e10 : am_up M10 id 10 (vp_nar .char 105) = M11
  have h11 : M11 id = gN 11 := by rw [← e10, upE]; exact gN_up h10 (by decide)
  have f11 : ∀ j, j ≠ id → M11 j = M j := fun j hj => by rw [← e10, upN hj]; exact f10 j hj
  refine s_dup (pc' := 126) dX7_init_125 rfl rfl ?_
  refine s_bipush (pc' := 128) dX7_init_126 rfl bipush_11 ?_
  refine s_bipush (pc' := 130) dX7_init_128 rfl bipush_114 ?_
  refine s_castN (id := id) (k := 11) (pc' := 131) dX7_init_130 rfl hg (by decide) (by decide) ?_
  generalize e11 : am_up M11 id 11 (vp_nar .char 114) = M12
  have h12 : M12 id = gN 12 := by rw [← e11, upE]; exact gN_up h11 (by decide)
  have f12 : ∀ j, j ≠ id → M12 j = M j := fun j hj => by rw [← e11, upN hj]; exact f11 j hj
  exact K M12 h12 f12
set_option maxHeartbeats 4000000 in
theorem nmc_1 {z : Zz} {d kc ks t id : Nat} {Q : Option Value → Lay → Mem → Prop} {lay : Lay} {M : Mem} {S : List Value} (hg : lay[id]? = some (9, 84, NUL)) (hM : M id = gN 12) (K : ∀ M', M' id = gN 24 → (∀ j, j ≠ id → M' j = M j) → Sim z d kc ks mX7_init 200 [.ref t] (.ref id :: S) lay M' Q) : Sim z d kc ks mX7_init 131 [.ref t] (.ref id :: S) lay M Q := by
  refine s_dup (pc' := 132) dX7_init_131 rfl rfl ?_
  refine s_bipush (pc' := 134) dX7_init_132 rfl bipush_12 ?_
  refine s_bipush (pc' := 136) dX7_init_134 rfl bipush_115 ?_
  refine s_castN (id := id) (k := 12) (pc' := 137) dX7_init_136 rfl hg (by decide) (by decide) ?_
  generalize e0 : am_up M id 12 (vp_nar .char 115) = M1
  have h1 : M1 id = gN 13 := by rw [← e0, upE]; exact gN_up hM (by decide)
  have f1 : ∀ j, j ≠ id → M1 j = M j := fun j hj => by rw [← e0, upN hj]
  refine s_dup (pc' := 138) dX7_init_137 rfl rfl ?_
  refine s_bipush (pc' := 140) dX7_init_138 rfl bipush_13 ?_
  refine s_iconst (pc' := 141) dX7_init_140 rfl iconst_0 ?_
  refine s_castN (id := id) (k := 13) (pc' := 142) dX7_init_141 rfl hg (by decide) (by decide) ?_
  generalize e1 : am_up M1 id 13 (vp_nar .char 0) = M2
  have h2 : M2 id = gN 14 := by rw [← e1, upE]; exact gN_up h1 (by decide)
  have f2 : ∀ j, j ≠ id → M2 j = M j := fun j hj => by rw [← e1, upN hj]; exact f1 j hj
  refine s_dup (pc' := 143) dX7_init_142 rfl rfl ?_
  refine s_bipush (pc' := 145) dX7_init_143 rfl bipush_14 ?_
  refine s_bipush (pc' := 147) dX7_init_145 rfl bipush_97 ?_
  refine s_castN (id := id) (k := 14) (pc' := 148) dX7_init_147 rfl hg (by decide) (by decide) ?_
  generalize e2 : am_up M2 id 14 (vp_nar .char 97) = M3
  have h3 : M3 id = gN 15 := by rw [← e2, upE]; exact gN_up h2 (by decide)
  have f3 : ∀ j, j ≠ id → M3 j = M j := fun j hj => by rw [← e2, upN hj]; exact f2 j hj
  refine s_dup (pc' := 149) dX7_init_148 rfl rfl ?_
  refine s_bipush (pc' := 151) dX7_init_149 rfl bipush_15 ?_
  refine s_bipush (pc' := 153) dX7_init_151 rfl bipush_112 ?_
  refine s_castN (id := id) (k := 15) (pc' := 154) dX7_init_153 rfl hg (by decide) (by decide) ?_
  generalize e3 : am_up M3 id 15 (vp_nar .char 112) = M4
  have h4 : M4 id = gN 16 := by rw [← e3, upE]; exact gN_up h3 (by decide)
  have f4 : ∀ j, j ≠ id → M4 j = M j := fun j hj => by rw [← e3, upN hj]; exact f3 j hj
  refine s_dup (pc' := 155) dX7_init_154 rfl rfl ?_
  refine s_bipush (pc' := 157) dX7_init_155 rfl bipush_16 ?_
  refine s_bipush (pc' := 159) dX7_init_157 rfl bipush_97 ?_
  refine s_castN (id := id) (k := 16) (pc' := 160) dX7_init_159 rfl hg (by decide) (by decide) ?_
  generalize e4 : am_up M4 id 16 (vp_nar .char 97) = M5
  have h5 : M5 id = gN 17 := by rw [← e4, upE]; exact gN_up h4 (by decide)
  have f5 : ∀ j, j ≠ id → M5 j = M j := fun j hj => by rw [← e4, upN hj]; exact f4 j hj
  refine s_dup (pc' := 161) dX7_init_160 rfl rfl ?_
  refine s_bipush (pc' := 163) dX7_init_161 rfl bipush_17 ?_
  refine s_bipush (pc' := 165) dX7_init_163 rfl bipush_114 ?_
  refine s_castN (id := id) (k := 17) (pc' := 166) dX7_init_165 rfl hg (by decide) (by decide) ?_
  generalize e5 : am_up M5 id 17 (vp_nar .char 114) = M6
  have h6 : M6 id = gN 18 := by rw [← e5, upE]; exact gN_up h5 (by decide)
  have f6 : ∀ j, j ≠ id → M6 j = M j := fun j hj => by rw [← e5, upN hj]; exact f5 j hj
  refine s_dup (pc' := 167) dX7_init_166 rfl rfl ?_
  refine s_bipush (pc' := 169) dX7_init_167 rfl bipush_18 ?_
  refine s_bipush (pc' := 171) dX7_init_169 rfl bipush_116 ?_
  refine s_castN (id := id) (k := 18) (pc' := 172) dX7_init_171 rfl hg (by decide) (by decide) ?_
  generalize e6 : am_up M6 id 18 (vp_nar .char 116) = M7
  have h7 : M7 id = gN 19 := by rw [← e6, upE]; exact gN_up h6 (by decide)
  have f7 : ∀ j, j ≠ id → M7 j = M j := fun j hj => by rw [← e6, upN hj]; exact f6 j hj
  refine s_dup (pc' := 173) dX7_init_172 rfl rfl ?_
  refine s_bipush (pc' := 175) dX7_init_173 rfl bipush_19 ?_
  refine s_iconst (pc' := 176) dX7_init_175 rfl iconst_0 ?_
  refine s_castN (id := id) (k := 19) (pc' := 177) dX7_init_176 rfl hg (by decide) (by decide) ?_
  generalize e7 : am_up M7 id 19 (vp_nar .char 0) = M8
  have h8 : M8 id = gN 20 := by rw [← e7, upE]; exact gN_up h7 (by decide)
  have f8 : ∀ j, j ≠ id → M8 j = M j := fun j hj => by rw [← e7, upN hj]; exact f7 j hj
  refine s_dup (pc' := 178) dX7_init_177 rfl rfl ?_
  refine s_bipush (pc' := 180) dX7_init_178 rfl bipush_20 ?_
  refine s_iconst (pc' := 181) dX7_init_180 rfl iconst_0 ?_
  refine s_castN (id := id) (k := 20) (pc' := 182) dX7_init_181 rfl hg (by decide) (by decide) ?_
  generalize e8 : am_up M8 id 20 (vp_nar .char 0) = M9
  have h9 : M9 id = gN 21 := by rw [← e8, upE]; exact gN_up h8 (by decide)
  have f9 : ∀ j, j ≠ id → M9 j = M j := fun j hj => by rw [← e8, upN hj]; exact f8 j hj
  refine s_dup (pc' := 183) dX7_init_182 rfl rfl ?_
  refine s_bipush (pc' := 185) dX7_init_183 rfl bipush_21 ?_
  refine s_bipush (pc' := 187) dX7_init_185 rfl bipush_110 ?_
  refine s_castN (id := id) (k := 21) (pc' := 188) dX7_init_187 rfl hg (by decide) (by decide) ?_
  generalize e9 : am_up M9 id 21 (vp_nar .char 110) = M10
  have h10 : M10 id = gN 22 := by rw [← e9, upE]; exact gN_up h9 (by decide)
  have f10 : ∀ j, j ≠ id → M10 j = M j := fun j hj => by rw [← e9, upN hj]; exact f9 j hj
  refine s_dup (pc' := 189) dX7_init_188 rfl rfl ?_
  refine s_bipush (pc' := 191) dX7_init_189 rfl bipush_22 ?_
  refine s_bipush (pc' := 193) dX7_init_191 rfl bipush_117 ?_
  refine s_castN (id := id) (k := 22) (pc' := 194) dX7_init_193 rfl hg (by decide) (by decide) ?_
  generalize e10 : am_up M10 id 22 (vp_nar .char 117) = M11
  have h11 : M11 id = gN 23 := by rw [← e10, upE]; exact gN_up h10 (by decide)
  have f11 : ∀ j, j ≠ id → M11 j = M j := fun j hj => by rw [← e10, upN hj]; exact f10 j hj
  refine s_dup (pc' := 195) dX7_init_194 rfl rfl ?_
  refine s_bipush (pc' := 197) dX7_init_195 rfl bipush_23 ?_
  refine s_bipush (pc' := 199) dX7_init_197 rfl bipush_109 ?_
  refine s_castN (id := id) (k := 23) (pc' := 200) dX7_init_199 rfl hg (by decide) (by decide) ?_
  generalize e11 : am_up M11 id 23 (vp_nar .char 109) = M12
  have h12 : M12 id = gN 24 := by rw [← e11, upE]; exact gN_up h11 (by decide)
  have f12 : ∀ j, j ≠ id → M12 j = M j := fun j hj => by rw [← e11, upN hj]; exact f11 j hj
  exact K M12 h12 f12
set_option maxHeartbeats 4000000 in
theorem nmc_2 {z : Zz} {d kc ks t id : Nat} {Q : Option Value → Lay → Mem → Prop} {lay : Lay} {M : Mem} {S : List Value} (hg : lay[id]? = some (9, 84, NUL)) (hM : M id = gN 24) (K : ∀ M', M' id = gN 36 → (∀ j, j ≠ id → M' j = M j) → Sim z d kc ks mX7_init 268 [.ref t] (.ref id :: S) lay M' Q) : Sim z d kc ks mX7_init 200 [.ref t] (.ref id :: S) lay M Q := by
  refine s_dup (pc' := 201) dX7_init_200 rfl rfl ?_
  refine s_bipush (pc' := 203) dX7_init_201 rfl bipush_24 ?_
  refine s_bipush (pc' := 205) dX7_init_203 rfl bipush_98 ?_
  refine s_castN (id := id) (k := 24) (pc' := 206) dX7_init_205 rfl hg (by decide) (by decide) ?_
  generalize e0 : am_up M id 24 (vp_nar .char 98) = M1
  have h1 : M1 id = gN 25 := by rw [← e0, upE]; exact gN_up hM (by decide)
  have f1 : ∀ j, j ≠ id → M1 j = M j := fun j hj => by rw [← e0, upN hj]
  refine s_dup (pc' := 207) dX7_init_206 rfl rfl ?_
  refine s_bipush (pc' := 209) dX7_init_207 rfl bipush_25 ?_
  refine s_bipush (pc' := 211) dX7_init_209 rfl bipush_101 ?_
  refine s_castN (id := id) (k := 25) (pc' := 212) dX7_init_211 rfl hg (by decide) (by decide) ?_
  generalize e1 : am_up M1 id 25 (vp_nar .char 101) = M2
  have h2 : M2 id = gN 26 := by rw [← e1, upE]; exact gN_up h1 (by decide)
  have f2 : ∀ j, j ≠ id → M2 j = M j := fun j hj => by rw [← e1, upN hj]; exact f1 j hj
  refine s_dup (pc' := 213) dX7_init_212 rfl rfl ?_
  refine s_bipush (pc' := 215) dX7_init_213 rfl bipush_26 ?_
  refine s_bipush (pc' := 217) dX7_init_215 rfl bipush_114 ?_
  refine s_castN (id := id) (k := 26) (pc' := 218) dX7_init_217 rfl hg (by decide) (by decide) ?_
  generalize e2 : am_up M2 id 26 (vp_nar .char 114) = M3
  have h3 : M3 id = gN 27 := by rw [← e2, upE]; exact gN_up h2 (by decide)
  have f3 : ∀ j, j ≠ id → M3 j = M j := fun j hj => by rw [← e2, upN hj]; exact f2 j hj
  refine s_dup (pc' := 219) dX7_init_218 rfl rfl ?_
  refine s_bipush (pc' := 221) dX7_init_219 rfl bipush_27 ?_
  refine s_iconst (pc' := 222) dX7_init_221 rfl iconst_0 ?_
  refine s_castN (id := id) (k := 27) (pc' := 223) dX7_init_222 rfl hg (by decide) (by decide) ?_
  generalize e3 : am_up M3 id 27 (vp_nar .char 0) = M4
  have h4 : M4 id = gN 28 := by rw [← e3, upE]; exact gN_up h3 (by decide)
  have f4 : ∀ j, j ≠ id → M4 j = M j := fun j hj => by rw [← e3, upN hj]; exact f3 j hj
  refine s_dup (pc' := 224) dX7_init_223 rfl rfl ?_
  refine s_bipush (pc' := 226) dX7_init_224 rfl bipush_28 ?_
  refine s_bipush (pc' := 228) dX7_init_226 rfl bipush_116 ?_
  refine s_castN (id := id) (k := 28) (pc' := 229) dX7_init_228 rfl hg (by decide) (by decide) ?_
  generalize e4 : am_up M4 id 28 (vp_nar .char 116) = M5
  have h5 : M5 id = gN 29 := by rw [← e4, upE]; exact gN_up h4 (by decide)
  have f5 : ∀ j, j ≠ id → M5 j = M j := fun j hj => by rw [← e4, upN hj]; exact f4 j hj
  refine s_dup (pc' := 230) dX7_init_229 rfl rfl ?_
  refine s_bipush (pc' := 232) dX7_init_230 rfl bipush_29 ?_
  refine s_bipush (pc' := 234) dX7_init_232 rfl bipush_105 ?_
  refine s_castN (id := id) (k := 29) (pc' := 235) dX7_init_234 rfl hg (by decide) (by decide) ?_
  generalize e5 : am_up M5 id 29 (vp_nar .char 105) = M6
  have h6 : M6 id = gN 30 := by rw [← e5, upE]; exact gN_up h5 (by decide)
  have f6 : ∀ j, j ≠ id → M6 j = M j := fun j hj => by rw [← e5, upN hj]; exact f5 j hj
  refine s_dup (pc' := 236) dX7_init_235 rfl rfl ?_
  refine s_bipush (pc' := 238) dX7_init_236 rfl bipush_30 ?_
  refine s_bipush (pc' := 240) dX7_init_238 rfl bipush_100 ?_
  refine s_castN (id := id) (k := 30) (pc' := 241) dX7_init_240 rfl hg (by decide) (by decide) ?_
  generalize e6 : am_up M6 id 30 (vp_nar .char 100) = M7
  have h7 : M7 id = gN 31 := by rw [← e6, upE]; exact gN_up h6 (by decide)
  have f7 : ∀ j, j ≠ id → M7 j = M j := fun j hj => by rw [← e6, upN hj]; exact f6 j hj
  refine s_dup (pc' := 242) dX7_init_241 rfl rfl ?_
  refine s_bipush (pc' := 244) dX7_init_242 rfl bipush_31 ?_
  refine s_bipush (pc' := 246) dX7_init_244 rfl bipush_101 ?_
  refine s_castN (id := id) (k := 31) (pc' := 247) dX7_init_246 rfl hg (by decide) (by decide) ?_
  generalize e7 : am_up M7 id 31 (vp_nar .char 101) = M8
  have h8 : M8 id = gN 32 := by rw [← e7, upE]; exact gN_up h7 (by decide)
  have f8 : ∀ j, j ≠ id → M8 j = M j := fun j hj => by rw [← e7, upN hj]; exact f7 j hj
  refine s_dup (pc' := 248) dX7_init_247 rfl rfl ?_
  refine s_bipush (pc' := 250) dX7_init_248 rfl bipush_32 ?_
  refine s_iconst (pc' := 251) dX7_init_250 rfl iconst_0 ?_
  refine s_castN (id := id) (k := 32) (pc' := 252) dX7_init_251 rfl hg (by decide) (by decide) ?_
  generalize e8 : am_up M8 id 32 (vp_nar .char 0) = M9
  have h9 : M9 id = gN 33 := by rw [← e8, upE]; exact gN_up h8 (by decide)
  have f9 : ∀ j, j ≠ id → M9 j = M j := fun j hj => by rw [← e8, upN hj]; exact f8 j hj
  refine s_dup (pc' := 253) dX7_init_252 rfl rfl ?_
  refine s_bipush (pc' := 255) dX7_init_253 rfl bipush_33 ?_
  refine s_iconst (pc' := 256) dX7_init_255 rfl iconst_0 ?_
  refine s_castN (id := id) (k := 33) (pc' := 257) dX7_init_256 rfl hg (by decide) (by decide) ?_
  generalize e9 : am_up M9 id 33 (vp_nar .char 0) = M10
  have h10 : M10 id = gN 34 := by rw [← e9, upE]; exact gN_up h9 (by decide)
  have f10 : ∀ j, j ≠ id → M10 j = M j := fun j hj => by rw [← e9, upN hj]; exact f9 j hj
  refine s_dup (pc' := 258) dX7_init_257 rfl rfl ?_
  refine s_bipush (pc' := 260) dX7_init_258 rfl bipush_34 ?_
  refine s_iconst (pc' := 261) dX7_init_260 rfl iconst_0 ?_
  refine s_castN (id := id) (k := 34) (pc' := 262) dX7_init_261 rfl hg (by decide) (by decide) ?_
  generalize e10 : am_up M10 id 34 (vp_nar .char 0) = M11
  have h11 : M11 id = gN 35 := by rw [← e10, upE]; exact gN_up h10 (by decide)
  have f11 : ∀ j, j ≠ id → M11 j = M j := fun j hj => by rw [← e10, upN hj]; exact f10 j hj
  refine s_dup (pc' := 263) dX7_init_262 rfl rfl ?_
  refine s_bipush (pc' := 265) dX7_init_263 rfl bipush_35 ?_
  refine s_bipush (pc' := 267) dX7_init_265 rfl bipush_112 ?_
  refine s_castN (id := id) (k := 35) (pc' := 268) dX7_init_267 rfl hg (by decide) (by decide) ?_
  generalize e11 : am_up M11 id 35 (vp_nar .char 112) = M12
  have h12 : M12 id = gN 36 := by rw [← e11, upE]; exact gN_up h11 (by decide)
  have f12 : ∀ j, j ≠ id → M12 j = M j := fun j hj => by rw [← e11, upN hj]; exact f11 j hj
  exact K M12 h12 f12
set_option maxHeartbeats 4000000 in
theorem nmc_3 {z : Zz} {d kc ks t id : Nat} {Q : Option Value → Lay → Mem → Prop} {lay : Lay} {M : Mem} {S : List Value} (hg : lay[id]? = some (9, 84, NUL)) (hM : M id = gN 36) (K : ∀ M', M' id = gN 48 → (∀ j, j ≠ id → M' j = M j) → Sim z d kc ks mX7_init 337 [.ref t] (.ref id :: S) lay M' Q) : Sim z d kc ks mX7_init 268 [.ref t] (.ref id :: S) lay M Q := by
  refine s_dup (pc' := 269) dX7_init_268 rfl rfl ?_
  refine s_bipush (pc' := 271) dX7_init_269 rfl bipush_36 ?_
  refine s_bipush (pc' := 273) dX7_init_271 rfl bipush_108 ?_
  refine s_castN (id := id) (k := 36) (pc' := 274) dX7_init_273 rfl hg (by decide) (by decide) ?_
  generalize e0 : am_up M id 36 (vp_nar .char 108) = M1
  have h1 : M1 id = gN 37 := by rw [← e0, upE]; exact gN_up hM (by decide)
  have f1 : ∀ j, j ≠ id → M1 j = M j := fun j hj => by rw [← e0, upN hj]
  refine s_dup (pc' := 275) dX7_init_274 rfl rfl ?_
  refine s_bipush (pc' := 277) dX7_init_275 rfl bipush_37 ?_
  refine s_bipush (pc' := 279) dX7_init_277 rfl bipush_97 ?_
  refine s_castN (id := id) (k := 37) (pc' := 280) dX7_init_279 rfl hg (by decide) (by decide) ?_
  generalize e1 : am_up M1 id 37 (vp_nar .char 97) = M2
  have h2 : M2 id = gN 38 := by rw [← e1, upE]; exact gN_up h1 (by decide)
  have f2 : ∀ j, j ≠ id → M2 j = M j := fun j hj => by rw [← e1, upN hj]; exact f1 j hj
  refine s_dup (pc' := 281) dX7_init_280 rfl rfl ?_
  refine s_bipush (pc' := 283) dX7_init_281 rfl bipush_38 ?_
  refine s_bipush (pc' := 285) dX7_init_283 rfl bipush_99 ?_
  refine s_castN (id := id) (k := 38) (pc' := 286) dX7_init_285 rfl hg (by decide) (by decide) ?_
  generalize e2 : am_up M2 id 38 (vp_nar .char 99) = M3
  have h3 : M3 id = gN 39 := by rw [← e2, upE]; exact gN_up h2 (by decide)
  have f3 : ∀ j, j ≠ id → M3 j = M j := fun j hj => by rw [← e2, upN hj]; exact f2 j hj
  refine s_dup (pc' := 287) dX7_init_286 rfl rfl ?_
  refine s_bipush (pc' := 289) dX7_init_287 rfl bipush_39 ?_
  refine s_bipush (pc' := 291) dX7_init_289 rfl bipush_101 ?_
  refine s_castN (id := id) (k := 39) (pc' := 292) dX7_init_291 rfl hg (by decide) (by decide) ?_
  generalize e3 : am_up M3 id 39 (vp_nar .char 101) = M4
  have h4 : M4 id = gN 40 := by rw [← e3, upE]; exact gN_up h3 (by decide)
  have f4 : ∀ j, j ≠ id → M4 j = M j := fun j hj => by rw [← e3, upN hj]; exact f3 j hj
  refine s_dup (pc' := 293) dX7_init_292 rfl rfl ?_
  refine s_bipush (pc' := 295) dX7_init_293 rfl bipush_40 ?_
  refine s_iconst (pc' := 296) dX7_init_295 rfl iconst_0 ?_
  refine s_castN (id := id) (k := 40) (pc' := 297) dX7_init_296 rfl hg (by decide) (by decide) ?_
  generalize e4 : am_up M4 id 40 (vp_nar .char 0) = M5
  have h5 : M5 id = gN 41 := by rw [← e4, upE]; exact gN_up h4 (by decide)
  have f5 : ∀ j, j ≠ id → M5 j = M j := fun j hj => by rw [← e4, upN hj]; exact f4 j hj
  refine s_dup (pc' := 298) dX7_init_297 rfl rfl ?_
  refine s_bipush (pc' := 300) dX7_init_298 rfl bipush_41 ?_
  refine s_iconst (pc' := 301) dX7_init_300 rfl iconst_0 ?_
  refine s_castN (id := id) (k := 41) (pc' := 302) dX7_init_301 rfl hg (by decide) (by decide) ?_
  generalize e5 : am_up M5 id 41 (vp_nar .char 0) = M6
  have h6 : M6 id = gN 42 := by rw [← e5, upE]; exact gN_up h5 (by decide)
  have f6 : ∀ j, j ≠ id → M6 j = M j := fun j hj => by rw [← e5, upN hj]; exact f5 j hj
  refine s_dup (pc' := 303) dX7_init_302 rfl rfl ?_
  refine s_bipush (pc' := 305) dX7_init_303 rfl bipush_42 ?_
  refine s_bipush (pc' := 307) dX7_init_305 rfl bipush_119 ?_
  refine s_castN (id := id) (k := 42) (pc' := 308) dX7_init_307 rfl hg (by decide) (by decide) ?_
  generalize e6 : am_up M6 id 42 (vp_nar .char 119) = M7
  have h7 : M7 id = gN 43 := by rw [← e6, upE]; exact gN_up h6 (by decide)
  have f7 : ∀ j, j ≠ id → M7 j = M j := fun j hj => by rw [← e6, upN hj]; exact f6 j hj
  refine s_dup (pc' := 309) dX7_init_308 rfl rfl ?_
  refine s_bipush (pc' := 311) dX7_init_309 rfl bipush_43 ?_
  refine s_bipush (pc' := 313) dX7_init_311 rfl bipush_101 ?_
  refine s_castN (id := id) (k := 43) (pc' := 314) dX7_init_313 rfl hg (by decide) (by decide) ?_
  generalize e7 : am_up M7 id 43 (vp_nar .char 101) = M8
  have h8 : M8 id = gN 44 := by rw [← e7, upE]; exact gN_up h7 (by decide)
  have f8 : ∀ j, j ≠ id → M8 j = M j := fun j hj => by rw [← e7, upN hj]; exact f7 j hj
  refine s_dup (pc' := 315) dX7_init_314 rfl rfl ?_
  refine s_bipush (pc' := 317) dX7_init_315 rfl bipush_44 ?_
  refine s_bipush (pc' := 319) dX7_init_317 rfl bipush_97 ?_
  refine s_castN (id := id) (k := 44) (pc' := 320) dX7_init_319 rfl hg (by decide) (by decide) ?_
  generalize e8 : am_up M8 id 44 (vp_nar .char 97) = M9
  have h9 : M9 id = gN 45 := by rw [← e8, upE]; exact gN_up h8 (by decide)
  have f9 : ∀ j, j ≠ id → M9 j = M j := fun j hj => by rw [← e8, upN hj]; exact f8 j hj
  refine s_dup (pc' := 321) dX7_init_320 rfl rfl ?_
  refine s_bipush (pc' := 323) dX7_init_321 rfl bipush_45 ?_
  refine s_bipush (pc' := 325) dX7_init_323 rfl bipush_114 ?_
  refine s_castN (id := id) (k := 45) (pc' := 326) dX7_init_325 rfl hg (by decide) (by decide) ?_
  generalize e9 : am_up M9 id 45 (vp_nar .char 114) = M10
  have h10 : M10 id = gN 46 := by rw [← e9, upE]; exact gN_up h9 (by decide)
  have f10 : ∀ j, j ≠ id → M10 j = M j := fun j hj => by rw [← e9, upN hj]; exact f9 j hj
  refine s_dup (pc' := 327) dX7_init_326 rfl rfl ?_
  refine s_bipush (pc' := 329) dX7_init_327 rfl bipush_46 ?_
  refine s_bipush (pc' := 331) dX7_init_329 rfl bipush_115 ?_
  refine s_castN (id := id) (k := 46) (pc' := 332) dX7_init_331 rfl hg (by decide) (by decide) ?_
  generalize e10 : am_up M10 id 46 (vp_nar .char 115) = M11
  have h11 : M11 id = gN 47 := by rw [← e10, upE]; exact gN_up h10 (by decide)
  have f11 : ∀ j, j ≠ id → M11 j = M j := fun j hj => by rw [← e10, upN hj]; exact f10 j hj
  refine s_dup (pc' := 333) dX7_init_332 rfl rfl ?_
  refine s_bipush (pc' := 335) dX7_init_333 rfl bipush_47 ?_
  refine s_iconst (pc' := 336) dX7_init_335 rfl iconst_0 ?_
  refine s_castN (id := id) (k := 47) (pc' := 337) dX7_init_336 rfl hg (by decide) (by decide) ?_
  generalize e11 : am_up M11 id 47 (vp_nar .char 0) = M12
  have h12 : M12 id = gN 48 := by rw [← e11, upE]; exact gN_up h11 (by decide)
  have f12 : ∀ j, j ≠ id → M12 j = M j := fun j hj => by rw [← e11, upN hj]; exact f11 j hj
  exact K M12 h12 f12
set_option maxHeartbeats 4000000 in
theorem nmc_4 {z : Zz} {d kc ks t id : Nat} {Q : Option Value → Lay → Mem → Prop} {lay : Lay} {M : Mem} {S : List Value} (hg : lay[id]? = some (9, 84, NUL)) (hM : M id = gN 48) (K : ∀ M', M' id = gN 60 → (∀ j, j ≠ id → M' j = M j) → Sim z d kc ks mX7_init 408 [.ref t] (.ref id :: S) lay M' Q) : Sim z d kc ks mX7_init 337 [.ref t] (.ref id :: S) lay M Q := by
  refine s_dup (pc' := 338) dX7_init_337 rfl rfl ?_
  refine s_bipush (pc' := 340) dX7_init_338 rfl bipush_48 ?_
  refine s_iconst (pc' := 341) dX7_init_340 rfl iconst_0 ?_
  refine s_castN (id := id) (k := 48) (pc' := 342) dX7_init_341 rfl hg (by decide) (by decide) ?_
  generalize e0 : am_up M id 48 (vp_nar .char 0) = M1
  have h1 : M1 id = gN 49 := by rw [← e0, upE]; exact gN_up hM (by decide)
  have f1 : ∀ j, j ≠ id → M1 j = M j := fun j hj => by rw [← e0, upN hj]
  refine s_dup (pc' := 343) dX7_init_342 rfl rfl ?_
  refine s_bipush (pc' := 345) dX7_init_343 rfl bipush_49 ?_
  refine s_bipush (pc' := 347) dX7_init_345 rfl bipush_99 ?_
  refine s_castN (id := id) (k := 49) (pc' := 348) dX7_init_347 rfl hg (by decide) (by decide) ?_
  generalize e1 : am_up M1 id 49 (vp_nar .char 99) = M2
  have h2 : M2 id = gN 50 := by rw [← e1, upE]; exact gN_up h1 (by decide)
  have f2 : ∀ j, j ≠ id → M2 j = M j := fun j hj => by rw [← e1, upN hj]; exact f1 j hj
  refine s_dup (pc' := 349) dX7_init_348 rfl rfl ?_
  refine s_bipush (pc' := 351) dX7_init_349 rfl bipush_50 ?_
  refine s_bipush (pc' := 353) dX7_init_351 rfl bipush_97 ?_
  refine s_castN (id := id) (k := 50) (pc' := 354) dX7_init_353 rfl hg (by decide) (by decide) ?_
  generalize e2 : am_up M2 id 50 (vp_nar .char 97) = M3
  have h3 : M3 id = gN 51 := by rw [← e2, upE]; exact gN_up h2 (by decide)
  have f3 : ∀ j, j ≠ id → M3 j = M j := fun j hj => by rw [← e2, upN hj]; exact f2 j hj
  refine s_dup (pc' := 355) dX7_init_354 rfl rfl ?_
  refine s_bipush (pc' := 357) dX7_init_355 rfl bipush_51 ?_
  refine s_bipush (pc' := 359) dX7_init_357 rfl bipush_114 ?_
  refine s_castN (id := id) (k := 51) (pc' := 360) dX7_init_359 rfl hg (by decide) (by decide) ?_
  generalize e3 : am_up M3 id 51 (vp_nar .char 114) = M4
  have h4 : M4 id = gN 52 := by rw [← e3, upE]; exact gN_up h3 (by decide)
  have f4 : ∀ j, j ≠ id → M4 j = M j := fun j hj => by rw [← e3, upN hj]; exact f3 j hj
  refine s_dup (pc' := 361) dX7_init_360 rfl rfl ?_
  refine s_bipush (pc' := 363) dX7_init_361 rfl bipush_52 ?_
  refine s_bipush (pc' := 365) dX7_init_363 rfl bipush_114 ?_
  refine s_castN (id := id) (k := 52) (pc' := 366) dX7_init_365 rfl hg (by decide) (by decide) ?_
  generalize e4 : am_up M4 id 52 (vp_nar .char 114) = M5
  have h5 : M5 id = gN 53 := by rw [← e4, upE]; exact gN_up h4 (by decide)
  have f5 : ∀ j, j ≠ id → M5 j = M j := fun j hj => by rw [← e4, upN hj]; exact f4 j hj
  refine s_dup (pc' := 367) dX7_init_366 rfl rfl ?_
  refine s_bipush (pc' := 369) dX7_init_367 rfl bipush_53 ?_
  refine s_bipush (pc' := 371) dX7_init_369 rfl bipush_105 ?_
  refine s_castN (id := id) (k := 53) (pc' := 372) dX7_init_371 rfl hg (by decide) (by decide) ?_
  generalize e5 : am_up M5 id 53 (vp_nar .char 105) = M6
  have h6 : M6 id = gN 54 := by rw [← e5, upE]; exact gN_up h5 (by decide)
  have f6 : ∀ j, j ≠ id → M6 j = M j := fun j hj => by rw [← e5, upN hj]; exact f5 j hj
  refine s_dup (pc' := 373) dX7_init_372 rfl rfl ?_
  refine s_bipush (pc' := 375) dX7_init_373 rfl bipush_54 ?_
  refine s_bipush (pc' := 377) dX7_init_375 rfl bipush_101 ?_
  refine s_castN (id := id) (k := 54) (pc' := 378) dX7_init_377 rfl hg (by decide) (by decide) ?_
  generalize e6 : am_up M6 id 54 (vp_nar .char 101) = M7
  have h7 : M7 id = gN 55 := by rw [← e6, upE]; exact gN_up h6 (by decide)
  have f7 : ∀ j, j ≠ id → M7 j = M j := fun j hj => by rw [← e6, upN hj]; exact f6 j hj
  refine s_dup (pc' := 379) dX7_init_378 rfl rfl ?_
  refine s_bipush (pc' := 381) dX7_init_379 rfl bipush_55 ?_
  refine s_bipush (pc' := 383) dX7_init_381 rfl bipush_115 ?_
  refine s_castN (id := id) (k := 55) (pc' := 384) dX7_init_383 rfl hg (by decide) (by decide) ?_
  generalize e7 : am_up M7 id 55 (vp_nar .char 115) = M8
  have h8 : M8 id = gN 56 := by rw [← e7, upE]; exact gN_up h7 (by decide)
  have f8 : ∀ j, j ≠ id → M8 j = M j := fun j hj => by rw [← e7, upN hj]; exact f7 j hj
  refine s_dup (pc' := 385) dX7_init_384 rfl rfl ?_
  refine s_bipush (pc' := 387) dX7_init_385 rfl bipush_56 ?_
  refine s_bipush (pc' := 389) dX7_init_387 rfl bipush_99 ?_
  refine s_castN (id := id) (k := 56) (pc' := 390) dX7_init_389 rfl hg (by decide) (by decide) ?_
  generalize e8 : am_up M8 id 56 (vp_nar .char 99) = M9
  have h9 : M9 id = gN 57 := by rw [← e8, upE]; exact gN_up h8 (by decide)
  have f9 : ∀ j, j ≠ id → M9 j = M j := fun j hj => by rw [← e8, upN hj]; exact f8 j hj
  refine s_dup (pc' := 391) dX7_init_390 rfl rfl ?_
  refine s_bipush (pc' := 393) dX7_init_391 rfl bipush_57 ?_
  refine s_bipush (pc' := 395) dX7_init_393 rfl bipush_108 ?_
  refine s_castN (id := id) (k := 57) (pc' := 396) dX7_init_395 rfl hg (by decide) (by decide) ?_
  generalize e9 : am_up M9 id 57 (vp_nar .char 108) = M10
  have h10 : M10 id = gN 58 := by rw [← e9, upE]; exact gN_up h9 (by decide)
  have f10 : ∀ j, j ≠ id → M10 j = M j := fun j hj => by rw [← e9, upN hj]; exact f9 j hj
  refine s_dup (pc' := 397) dX7_init_396 rfl rfl ?_
  refine s_bipush (pc' := 399) dX7_init_397 rfl bipush_58 ?_
  refine s_bipush (pc' := 401) dX7_init_399 rfl bipush_97 ?_
  refine s_castN (id := id) (k := 58) (pc' := 402) dX7_init_401 rfl hg (by decide) (by decide) ?_
  generalize e10 : am_up M10 id 58 (vp_nar .char 97) = M11
  have h11 : M11 id = gN 59 := by rw [← e10, upE]; exact gN_up h10 (by decide)
  have f11 : ∀ j, j ≠ id → M11 j = M j := fun j hj => by rw [← e10, upN hj]; exact f10 j hj
  refine s_dup (pc' := 403) dX7_init_402 rfl rfl ?_
  refine s_bipush (pc' := 405) dX7_init_403 rfl bipush_59 ?_
  refine s_bipush (pc' := 407) dX7_init_405 rfl bipush_115 ?_
  refine s_castN (id := id) (k := 59) (pc' := 408) dX7_init_407 rfl hg (by decide) (by decide) ?_
  generalize e11 : am_up M11 id 59 (vp_nar .char 115) = M12
  have h12 : M12 id = gN 60 := by rw [← e11, upE]; exact gN_up h11 (by decide)
  have f12 : ∀ j, j ≠ id → M12 j = M j := fun j hj => by rw [← e11, upN hj]; exact f11 j hj
  exact K M12 h12 f12
set_option maxHeartbeats 4000000 in
theorem nmc_5 {z : Zz} {d kc ks t id : Nat} {Q : Option Value → Lay → Mem → Prop} {lay : Lay} {M : Mem} {S : List Value} (hg : lay[id]? = some (9, 84, NUL)) (hM : M id = gN 60) (K : ∀ M', M' id = gN 72 → (∀ j, j ≠ id → M' j = M j) → Sim z d kc ks mX7_init 475 [.ref t] (.ref id :: S) lay M' Q) : Sim z d kc ks mX7_init 408 [.ref t] (.ref id :: S) lay M Q := by
  refine s_dup (pc' := 409) dX7_init_408 rfl rfl ?_
  refine s_bipush (pc' := 411) dX7_init_409 rfl bipush_60 ?_
  refine s_bipush (pc' := 413) dX7_init_411 rfl bipush_104 ?_
  refine s_castN (id := id) (k := 60) (pc' := 414) dX7_init_413 rfl hg (by decide) (by decide) ?_
  generalize e0 : am_up M id 60 (vp_nar .char 104) = M1
  have h1 : M1 id = gN 61 := by rw [← e0, upE]; exact gN_up hM (by decide)
  have f1 : ∀ j, j ≠ id → M1 j = M j := fun j hj => by rw [← e0, upN hj]
  refine s_dup (pc' := 415) dX7_init_414 rfl rfl ?_
  refine s_bipush (pc' := 417) dX7_init_415 rfl bipush_61 ?_
  refine s_bipush (pc' := 419) dX7_init_417 rfl bipush_101 ?_
  refine s_castN (id := id) (k := 61) (pc' := 420) dX7_init_419 rfl hg (by decide) (by decide) ?_
  generalize e1 : am_up M1 id 61 (vp_nar .char 101) = M2
  have h2 : M2 id = gN 62 := by rw [← e1, upE]; exact gN_up h1 (by decide)
  have f2 : ∀ j, j ≠ id → M2 j = M j := fun j hj => by rw [← e1, upN hj]; exact f1 j hj
  refine s_dup (pc' := 421) dX7_init_420 rfl rfl ?_
  refine s_bipush (pc' := 423) dX7_init_421 rfl bipush_62 ?_
  refine s_bipush (pc' := 425) dX7_init_423 rfl bipush_115 ?_
  refine s_castN (id := id) (k := 62) (pc' := 426) dX7_init_425 rfl hg (by decide) (by decide) ?_
  generalize e2 : am_up M2 id 62 (vp_nar .char 115) = M3
  have h3 : M3 id = gN 63 := by rw [← e2, upE]; exact gN_up h2 (by decide)
  have f3 : ∀ j, j ≠ id → M3 j = M j := fun j hj => by rw [← e2, upN hj]; exact f2 j hj
  refine s_dup (pc' := 427) dX7_init_426 rfl rfl ?_
  refine s_bipush (pc' := 429) dX7_init_427 rfl bipush_63 ?_
  refine s_bipush (pc' := 431) dX7_init_429 rfl bipush_111 ?_
  refine s_castN (id := id) (k := 63) (pc' := 432) dX7_init_431 rfl hg (by decide) (by decide) ?_
  generalize e3 : am_up M3 id 63 (vp_nar .char 111) = M4
  have h4 : M4 id = gN 64 := by rw [← e3, upE]; exact gN_up h3 (by decide)
  have f4 : ∀ j, j ≠ id → M4 j = M j := fun j hj => by rw [← e3, upN hj]; exact f3 j hj
  refine s_dup (pc' := 433) dX7_init_432 rfl rfl ?_
  refine s_bipush (pc' := 435) dX7_init_433 rfl bipush_64 ?_
  refine s_bipush (pc' := 437) dX7_init_435 rfl bipush_114 ?_
  refine s_castN (id := id) (k := 64) (pc' := 438) dX7_init_437 rfl hg (by decide) (by decide) ?_
  generalize e4 : am_up M4 id 64 (vp_nar .char 114) = M5
  have h5 : M5 id = gN 65 := by rw [← e4, upE]; exact gN_up h4 (by decide)
  have f5 : ∀ j, j ≠ id → M5 j = M j := fun j hj => by rw [← e4, upN hj]; exact f4 j hj
  refine s_dup (pc' := 439) dX7_init_438 rfl rfl ?_
  refine s_bipush (pc' := 441) dX7_init_439 rfl bipush_65 ?_
  refine s_iconst (pc' := 442) dX7_init_441 rfl iconst_0 ?_
  refine s_castN (id := id) (k := 65) (pc' := 443) dX7_init_442 rfl hg (by decide) (by decide) ?_
  generalize e5 : am_up M5 id 65 (vp_nar .char 0) = M6
  have h6 : M6 id = gN 66 := by rw [← e5, upE]; exact gN_up h5 (by decide)
  have f6 : ∀ j, j ≠ id → M6 j = M j := fun j hj => by rw [← e5, upN hj]; exact f5 j hj
  refine s_dup (pc' := 444) dX7_init_443 rfl rfl ?_
  refine s_bipush (pc' := 446) dX7_init_444 rfl bipush_66 ?_
  refine s_iconst (pc' := 447) dX7_init_446 rfl iconst_0 ?_
  refine s_castN (id := id) (k := 66) (pc' := 448) dX7_init_447 rfl hg (by decide) (by decide) ?_
  generalize e6 : am_up M6 id 66 (vp_nar .char 0) = M7
  have h7 : M7 id = gN 67 := by rw [← e6, upE]; exact gN_up h6 (by decide)
  have f7 : ∀ j, j ≠ id → M7 j = M j := fun j hj => by rw [← e6, upN hj]; exact f6 j hj
  refine s_dup (pc' := 449) dX7_init_448 rfl rfl ?_
  refine s_bipush (pc' := 451) dX7_init_449 rfl bipush_67 ?_
  refine s_iconst (pc' := 452) dX7_init_451 rfl iconst_0 ?_
  refine s_castN (id := id) (k := 67) (pc' := 453) dX7_init_452 rfl hg (by decide) (by decide) ?_
  generalize e7 : am_up M7 id 67 (vp_nar .char 0) = M8
  have h8 : M8 id = gN 68 := by rw [← e7, upE]; exact gN_up h7 (by decide)
  have f8 : ∀ j, j ≠ id → M8 j = M j := fun j hj => by rw [← e7, upN hj]; exact f7 j hj
  refine s_dup (pc' := 454) dX7_init_453 rfl rfl ?_
  refine s_bipush (pc' := 456) dX7_init_454 rfl bipush_68 ?_
  refine s_iconst (pc' := 457) dX7_init_456 rfl iconst_0 ?_
  refine s_castN (id := id) (k := 68) (pc' := 458) dX7_init_457 rfl hg (by decide) (by decide) ?_
  generalize e8 : am_up M8 id 68 (vp_nar .char 0) = M9
  have h9 : M9 id = gN 69 := by rw [← e8, upE]; exact gN_up h8 (by decide)
  have f9 : ∀ j, j ≠ id → M9 j = M j := fun j hj => by rw [← e8, upN hj]; exact f8 j hj
  refine s_dup (pc' := 459) dX7_init_458 rfl rfl ?_
  refine s_bipush (pc' := 461) dX7_init_459 rfl bipush_69 ?_
  refine s_iconst (pc' := 462) dX7_init_461 rfl iconst_0 ?_
  refine s_castN (id := id) (k := 69) (pc' := 463) dX7_init_462 rfl hg (by decide) (by decide) ?_
  generalize e9 : am_up M9 id 69 (vp_nar .char 0) = M10
  have h10 : M10 id = gN 70 := by rw [← e9, upE]; exact gN_up h9 (by decide)
  have f10 : ∀ j, j ≠ id → M10 j = M j := fun j hj => by rw [← e9, upN hj]; exact f9 j hj
  refine s_dup (pc' := 464) dX7_init_463 rfl rfl ?_
  refine s_bipush (pc' := 466) dX7_init_464 rfl bipush_70 ?_
  refine s_bipush (pc' := 468) dX7_init_466 rfl bipush_97 ?_
  refine s_castN (id := id) (k := 70) (pc' := 469) dX7_init_468 rfl hg (by decide) (by decide) ?_
  generalize e10 : am_up M10 id 70 (vp_nar .char 97) = M11
  have h11 : M11 id = gN 71 := by rw [← e10, upE]; exact gN_up h10 (by decide)
  have f11 : ∀ j, j ≠ id → M11 j = M j := fun j hj => by rw [← e10, upN hj]; exact f10 j hj
  refine s_dup (pc' := 470) dX7_init_469 rfl rfl ?_
  refine s_bipush (pc' := 472) dX7_init_470 rfl bipush_71 ?_
  refine s_bipush (pc' := 474) dX7_init_472 rfl bipush_110 ?_
  refine s_castN (id := id) (k := 71) (pc' := 475) dX7_init_474 rfl hg (by decide) (by decide) ?_
  generalize e11 : am_up M11 id 71 (vp_nar .char 110) = M12
  have h12 : M12 id = gN 72 := by rw [← e11, upE]; exact gN_up h11 (by decide)
  have f12 : ∀ j, j ≠ id → M12 j = M j := fun j hj => by rw [← e11, upN hj]; exact f11 j hj
  exact K M12 h12 f12
set_option maxHeartbeats 4000000 in
theorem nmc_6 {z : Zz} {d kc ks t id : Nat} {Q : Option Value → Lay → Mem → Prop} {lay : Lay} {M : Mem} {S : List Value} (hg : lay[id]? = some (9, 84, NUL)) (hM : M id = gN 72) (K : ∀ M', M' id = gN 84 → (∀ j, j ≠ id → M' j = M j) → Sim z d kc ks mX7_init 539 [.ref t] (.ref id :: S) lay M' Q) : Sim z d kc ks mX7_init 475 [.ref t] (.ref id :: S) lay M Q := by
  refine s_dup (pc' := 476) dX7_init_475 rfl rfl ?_
  refine s_bipush (pc' := 478) dX7_init_476 rfl bipush_72 ?_
  refine s_bipush (pc' := 480) dX7_init_478 rfl bipush_100 ?_
  refine s_castN (id := id) (k := 72) (pc' := 481) dX7_init_480 rfl hg (by decide) (by decide) ?_
  generalize e0 : am_up M id 72 (vp_nar .char 100) = M1
  have h1 : M1 id = gN 73 := by rw [← e0, upE]; exact gN_up hM (by decide)
  have f1 : ∀ j, j ≠ id → M1 j = M j := fun j hj => by rw [← e0, upN hj]
  refine s_dup (pc' := 482) dX7_init_481 rfl rfl ?_
  refine s_bipush (pc' := 484) dX7_init_482 rfl bipush_73 ?_
  refine s_iconst (pc' := 485) dX7_init_484 rfl iconst_0 ?_
  refine s_castN (id := id) (k := 73) (pc' := 486) dX7_init_485 rfl hg (by decide) (by decide) ?_
  generalize e1 : am_up M1 id 73 (vp_nar .char 0) = M2
  have h2 : M2 id = gN 74 := by rw [← e1, upE]; exact gN_up h1 (by decide)
  have f2 : ∀ j, j ≠ id → M2 j = M j := fun j hj => by rw [← e1, upN hj]; exact f1 j hj
  refine s_dup (pc' := 487) dX7_init_486 rfl rfl ?_
  refine s_bipush (pc' := 489) dX7_init_487 rfl bipush_74 ?_
  refine s_iconst (pc' := 490) dX7_init_489 rfl iconst_0 ?_
  refine s_castN (id := id) (k := 74) (pc' := 491) dX7_init_490 rfl hg (by decide) (by decide) ?_
  generalize e2 : am_up M2 id 74 (vp_nar .char 0) = M3
  have h3 : M3 id = gN 75 := by rw [← e2, upE]; exact gN_up h2 (by decide)
  have f3 : ∀ j, j ≠ id → M3 j = M j := fun j hj => by rw [← e2, upN hj]; exact f2 j hj
  refine s_dup (pc' := 492) dX7_init_491 rfl rfl ?_
  refine s_bipush (pc' := 494) dX7_init_492 rfl bipush_75 ?_
  refine s_iconst (pc' := 495) dX7_init_494 rfl iconst_0 ?_
  refine s_castN (id := id) (k := 75) (pc' := 496) dX7_init_495 rfl hg (by decide) (by decide) ?_
  generalize e3 : am_up M3 id 75 (vp_nar .char 0) = M4
  have h4 : M4 id = gN 76 := by rw [← e3, upE]; exact gN_up h3 (by decide)
  have f4 : ∀ j, j ≠ id → M4 j = M j := fun j hj => by rw [← e3, upN hj]; exact f3 j hj
  refine s_dup (pc' := 497) dX7_init_496 rfl rfl ?_
  refine s_bipush (pc' := 499) dX7_init_497 rfl bipush_76 ?_
  refine s_iconst (pc' := 500) dX7_init_499 rfl iconst_0 ?_
  refine s_castN (id := id) (k := 76) (pc' := 501) dX7_init_500 rfl hg (by decide) (by decide) ?_
  generalize e4 : am_up M4 id 76 (vp_nar .char 0) = M5
  have h5 : M5 id = gN 77 := by rw [← e4, upE]; exact gN_up h4 (by decide)
  have f5 : ∀ j, j ≠ id → M5 j = M j := fun j hj => by rw [← e4, upN hj]; exact f4 j hj
  refine s_dup (pc' := 502) dX7_init_501 rfl rfl ?_
  refine s_bipush (pc' := 504) dX7_init_502 rfl bipush_77 ?_
  refine s_bipush (pc' := 506) dX7_init_504 rfl bipush_110 ?_
  refine s_castN (id := id) (k := 77) (pc' := 507) dX7_init_506 rfl hg (by decide) (by decide) ?_
  generalize e5 : am_up M5 id 77 (vp_nar .char 110) = M6
  have h6 : M6 id = gN 78 := by rw [← e5, upE]; exact gN_up h5 (by decide)
  have f6 : ∀ j, j ≠ id → M6 j = M j := fun j hj => by rw [← e5, upN hj]; exact f5 j hj
  refine s_dup (pc' := 508) dX7_init_507 rfl rfl ?_
  refine s_bipush (pc' := 510) dX7_init_508 rfl bipush_78 ?_
  refine s_bipush (pc' := 512) dX7_init_510 rfl bipush_111 ?_
  refine s_castN (id := id) (k := 78) (pc' := 513) dX7_init_512 rfl hg (by decide) (by decide) ?_
  generalize e6 : am_up M6 id 78 (vp_nar .char 111) = M7
  have h7 : M7 id = gN 79 := by rw [← e6, upE]; exact gN_up h6 (by decide)
  have f7 : ∀ j, j ≠ id → M7 j = M j := fun j hj => by rw [← e6, upN hj]; exact f6 j hj
  refine s_dup (pc' := 514) dX7_init_513 rfl rfl ?_
  refine s_bipush (pc' := 516) dX7_init_514 rfl bipush_79 ?_
  refine s_bipush (pc' := 518) dX7_init_516 rfl bipush_116 ?_
  refine s_castN (id := id) (k := 79) (pc' := 519) dX7_init_518 rfl hg (by decide) (by decide) ?_
  generalize e7 : am_up M7 id 79 (vp_nar .char 116) = M8
  have h8 : M8 id = gN 80 := by rw [← e7, upE]; exact gN_up h7 (by decide)
  have f8 : ∀ j, j ≠ id → M8 j = M j := fun j hj => by rw [← e7, upN hj]; exact f7 j hj
  refine s_dup (pc' := 520) dX7_init_519 rfl rfl ?_
  refine s_bipush (pc' := 522) dX7_init_520 rfl bipush_80 ?_
  refine s_iconst (pc' := 523) dX7_init_522 rfl iconst_0 ?_
  refine s_castN (id := id) (k := 80) (pc' := 524) dX7_init_523 rfl hg (by decide) (by decide) ?_
  generalize e8 : am_up M8 id 80 (vp_nar .char 0) = M9
  have h9 : M9 id = gN 81 := by rw [← e8, upE]; exact gN_up h8 (by decide)
  have f9 : ∀ j, j ≠ id → M9 j = M j := fun j hj => by rw [← e8, upN hj]; exact f8 j hj
  refine s_dup (pc' := 525) dX7_init_524 rfl rfl ?_
  refine s_bipush (pc' := 527) dX7_init_525 rfl bipush_81 ?_
  refine s_iconst (pc' := 528) dX7_init_527 rfl iconst_0 ?_
  refine s_castN (id := id) (k := 81) (pc' := 529) dX7_init_528 rfl hg (by decide) (by decide) ?_
  generalize e9 : am_up M9 id 81 (vp_nar .char 0) = M10
  have h10 : M10 id = gN 82 := by rw [← e9, upE]; exact gN_up h9 (by decide)
  have f10 : ∀ j, j ≠ id → M10 j = M j := fun j hj => by rw [← e9, upN hj]; exact f9 j hj
  refine s_dup (pc' := 530) dX7_init_529 rfl rfl ?_
  refine s_bipush (pc' := 532) dX7_init_530 rfl bipush_82 ?_
  refine s_iconst (pc' := 533) dX7_init_532 rfl iconst_0 ?_
  refine s_castN (id := id) (k := 82) (pc' := 534) dX7_init_533 rfl hg (by decide) (by decide) ?_
  generalize e10 : am_up M10 id 82 (vp_nar .char 0) = M11
  have h11 : M11 id = gN 83 := by rw [← e10, upE]; exact gN_up h10 (by decide)
  have f11 : ∀ j, j ≠ id → M11 j = M j := fun j hj => by rw [← e10, upN hj]; exact f10 j hj
  refine s_dup (pc' := 535) dX7_init_534 rfl rfl ?_
  refine s_bipush (pc' := 537) dX7_init_535 rfl bipush_83 ?_
  refine s_iconst (pc' := 538) dX7_init_537 rfl iconst_0 ?_
  refine s_castN (id := id) (k := 83) (pc' := 539) dX7_init_538 rfl hg (by decide) (by decide) ?_
  generalize e11 : am_up M11 id 83 (vp_nar .char 0) = M12
  have h12 : M12 id = gN 84 := by rw [← e11, upE]; exact gN_up h11 (by decide)
  have f12 : ∀ j, j ≠ id → M12 j = M j := fun j hj => by rw [← e11, upN hj]; exact f11 j hj
  exact K M12 h12 f12
theorem nm_all {z : Zz} {d kc ks t id : Nat} {Q : Option Value → Lay → Mem → Prop} {lay : Lay} {M : Mem} {S : List Value} (hg : lay[id]? = some (9, 84, NUL)) (hM : M id = fun _ => 0) (K : ∀ M', M' id = gN 84 → (∀ j, j ≠ id → M' j = M j) → Sim z d kc ks mX7_init 539 [.ref t] (.ref id :: S) lay M' Q) : Sim z d kc ks mX7_init 67 [.ref t] (.ref id :: S) lay M Q := by
  refine nmc_0 hg (by rw [hM]; exact gN_0) (fun N0 a0 b0 => ?_)
  refine nmc_1 hg a0 (fun N1 a1 b1 => ?_)
  refine nmc_2 hg a1 (fun N2 a2 b2 => ?_)
  refine nmc_3 hg a2 (fun N3 a3 b3 => ?_)
  refine nmc_4 hg a3 (fun N4 a4 b4 => ?_)
  refine nmc_5 hg a4 (fun N5 a5 b5 => ?_)
  refine nmc_6 hg a5 (fun N6 a6 b6 => ?_)
  exact K N6 a6 (fun j hj => by rw [b6 j hj, b5 j hj, b4 j hj, b3 j hj, b2 j hj, b1 j hj, b0 j hj])
set_option maxHeartbeats 4000000 in
theorem m_X7_init {z : Zz} {d : Nat} {Q : Option Value → Lay → Mem → Prop} {l0 : Lay} {mem : Mem} {t : Nat} (hdd : 2 ≤ d) (ht : l0.length = t) (hz : mem t = fun _ => 0) (K : ∀ mem', (∀ j, j < t → mem' j = mem j) → (mem' (t + 1) = fun _ => 0) → (mem' (t + 5) 0 = 2) → (mem' (t + 5) 1 = 1) → (mem' (t + 5) 2 = 1) → (mem' (t + 6) 0 = 1) → (mem' (t + 6) 1 = 2) → (mem' (t + 6) 2 = 3) → (mem' (t + 7) = gN 84) → (mem' (t + 13) = fun _ => 0) → (mem' (t + 14) 0 = -1) → (mem' (t + 14) 1 = -1) → (mem' (t + 14) 2 = -1) → (mem' (t + 14) 3 = -1) → (mem' (t + 15) = fun _ => 0) → (mem' (t + 18) 0 = -1) → (mem' (t + 18) 1 = 0) → (mem' (t + 18) 2 = 0) → (mem' (t + 18) 3 = 1) → (mem' (t + 18) 4 = 2) → (mem' (t + 18) 5 = 0) → (mem' t 12 = 1) → (mem' t 3 = 0) → (mem' t 5 = 0) → Q none (l0 ++ [(7, 30, va_up (va_up (va_up (va_up (va_up (va_up (va_up (va_up (va_up (va_up (va_up (va_up (va_up (va_up (va_up (va_up (va_up (va_up (va_up (NUL) 0 (.ref (t + 1))) 1 (.ref (t + 2))) 2 (.ref (t + 3))) 4 (.ref (t + 4))) 10 (.ref (t + 5))) 11 (.ref (t + 6))) 14 (.ref (t + 7))) 15 (.ref (t + 8))) 17 (.ref (t + 9))) 18 (.ref (t + 10))) 19 (.ref (t + 11))) 20 (.ref (t + 12))) 21 (.ref (t + 13))) 24 (.ref (t + 14))) 25 (.ref (t + 15))) 26 (.ref (t + 16))) 27 (.ref (t + 17))) 28 (.ref (t + 18))) 29 (.ref (t + 19))), (8, 43, NUL), (8, 43, NUL), (8, 43, NUL), (8, 160, NUL), (8, 960, NUL), (8, 18, NUL), (9, 84, NUL), (8, 160, NUL), (8, 160, NUL), (8, 8, NUL), (8, 8, NUL), (8, 8, NUL), (8, 9, NUL), (8, 4, NUL), (8, 4, NUL), (8, 160, NUL), (8, 40, NUL), (8, 6, NUL), (10, 100, NUL)]) mem') : Sim z d 19 2018 mX7_init 0 [.ref t] [] (l0 ++ [(7, 30, NUL)]) mem Q := by
  refine s_aload_n (pc' := 1) dX7_init_0 rfl lg0 rfl ?_
  refine s_objInit (pc' := 4) dX7_init_1 rfl lkX7_1 oiI oiC (by omega) (Nat.le_of_ble_eq_true rfl) ?_
  refine s_aload_n (pc' := 5) dX7_init_4 rfl lg0 rfl ?_
  refine s_bipush (pc' := 7) dX7_init_5 rfl bipush_43 ?_
  refine s_newaN (kc := 18) (ks := 1975) (tg := 8) (N := 43) (nn := t + 1) (lay' := (l0 ++ [(7, 30, NUL), (8, 43, NUL)])) (pc' := 9) dX7_init_7 rfl acI (by decide) rfl (by decide) (by decide) (by decide) (ap_len ht rfl) (by rw [List.append_assoc]; rfl) ?_
  refine s_putRN (id := t + 0) (lay' := (l0 ++ [(7, 30, va_up (NUL) 0 (.ref (t + 1))), (8, 43, NUL)])) (pc' := 12) dX7_init_9 rfl flX7_7 fw7_0 pf_7 (Or.inr ⟨_, rfl⟩) rfl ⟨_, _, rfl⟩ rfl (ap_get (m := 0) ht) (by decide) rfl (ap_set (m := 0) ht) ?_
  refine s_aload_n (pc' := 13) dX7_init_12 rfl lg0 rfl ?_
  refine s_bipush (pc' := 15) dX7_init_13 rfl bipush_43 ?_
  refine s_newaN (kc := 17) (ks := 1932) (tg := 8) (N := 43) (nn := t + 2) (lay' := (l0 ++ [(7, 30, va_up (NUL) 0 (.ref (t + 1))), (8, 43, NUL), (8, 43, NUL)])) (pc' := 17) dX7_init_15 rfl acI (by decide) rfl (by decide) (by decide) (by decide) (ap_len ht rfl) (by rw [List.append_assoc]; rfl) ?_
  refine s_putRN (id := t + 0) (lay' := (l0 ++ [(7, 30, va_up (va_up (NUL) 0 (.ref (t + 1))) 1 (.ref (t + 2))), (8, 43, NUL), (8, 43, NUL)])) (pc' := 20) dX7_init_17 rfl flX7_13 fw7_1 pf_7 (Or.inr ⟨_, rfl⟩) rfl ⟨_, _, rfl⟩ rfl (ap_get (m := 0) ht) (by decide) rfl (ap_set (m := 0) ht) ?_
  refine s_aload_n (pc' := 21) dX7_init_20 rfl lg0 rfl ?_
  refine s_bipush (pc' := 23) dX7_init_21 rfl bipush_43 ?_
  refine s_newaN (kc := 16) (ks := 1889) (tg := 8) (N := 43) (nn := t + 3) (lay' := (l0 ++ [(7, 30, va_up (va_up (NUL) 0 (.ref (t + 1))) 1 (.ref (t + 2))), (8, 43, NUL), (8, 43, NUL), (8, 43, NUL)])) (pc' := 25) dX7_init_23 rfl acI (by decide) rfl (by decide) (by decide) (by decide) (ap_len ht rfl) (by rw [List.append_assoc]; rfl) ?_
  refine s_putRN (id := t + 0) (lay' := (l0 ++ [(7, 30, va_up (va_up (va_up (NUL) 0 (.ref (t + 1))) 1 (.ref (t + 2))) 2 (.ref (t + 3))), (8, 43, NUL), (8, 43, NUL), (8, 43, NUL)])) (pc' := 28) dX7_init_25 rfl flX7_16 fw7_2 pf_7 (Or.inr ⟨_, rfl⟩) rfl ⟨_, _, rfl⟩ rfl (ap_get (m := 0) ht) (by decide) rfl (ap_set (m := 0) ht) ?_
  refine s_aload_n (pc' := 29) dX7_init_28 rfl lg0 rfl ?_
  refine s_sipush (pc' := 32) dX7_init_29 rfl sipush_160 ?_
  refine s_newaN (kc := 15) (ks := 1729) (tg := 8) (N := 160) (nn := t + 4) (lay' := (l0 ++ [(7, 30, va_up (va_up (va_up (NUL) 0 (.ref (t + 1))) 1 (.ref (t + 2))) 2 (.ref (t + 3))), (8, 43, NUL), (8, 43, NUL), (8, 43, NUL), (8, 160, NUL)])) (pc' := 34) dX7_init_32 rfl acI (by decide) rfl (by decide) (by decide) (by decide) (ap_len ht rfl) (by rw [List.append_assoc]; rfl) ?_
  refine s_putRN (id := t + 0) (lay' := (l0 ++ [(7, 30, va_up (va_up (va_up (va_up (NUL) 0 (.ref (t + 1))) 1 (.ref (t + 2))) 2 (.ref (t + 3))) 4 (.ref (t + 4))), (8, 43, NUL), (8, 43, NUL), (8, 43, NUL), (8, 160, NUL)])) (pc' := 37) dX7_init_34 rfl flX7_19 fw7_4 pf_7 (Or.inr ⟨_, rfl⟩) rfl ⟨_, _, rfl⟩ rfl (ap_get (m := 0) ht) (by decide) rfl (ap_set (m := 0) ht) ?_
  refine s_aload_n (pc' := 38) dX7_init_37 rfl lg0 rfl ?_
  refine s_sipush (pc' := 41) dX7_init_38 rfl sipush_960 ?_
  refine s_newaN (kc := 14) (ks := 769) (tg := 8) (N := 960) (nn := t + 5) (lay' := (l0 ++ [(7, 30, va_up (va_up (va_up (va_up (NUL) 0 (.ref (t + 1))) 1 (.ref (t + 2))) 2 (.ref (t + 3))) 4 (.ref (t + 4))), (8, 43, NUL), (8, 43, NUL), (8, 43, NUL), (8, 160, NUL), (8, 960, NUL)])) (pc' := 43) dX7_init_41 rfl acI (by decide) rfl (by decide) (by decide) (by decide) (ap_len ht rfl) (by rw [List.append_assoc]; rfl) ?_
  refine s_putRN (id := t + 0) (lay' := (l0 ++ [(7, 30, va_up (va_up (va_up (va_up (va_up (NUL) 0 (.ref (t + 1))) 1 (.ref (t + 2))) 2 (.ref (t + 3))) 4 (.ref (t + 4))) 10 (.ref (t + 5))), (8, 43, NUL), (8, 43, NUL), (8, 43, NUL), (8, 160, NUL), (8, 960, NUL)])) (pc' := 46) dX7_init_43 rfl flX7_22 fw7_10 pf_7 (Or.inr ⟨_, rfl⟩) rfl ⟨_, _, rfl⟩ rfl (ap_get (m := 0) ht) (by decide) rfl (ap_set (m := 0) ht) ?_
  refine s_aload_n (pc' := 47) dX7_init_46 rfl lg0 rfl ?_
  refine s_bipush (pc' := 49) dX7_init_47 rfl bipush_18 ?_
  refine s_newaN (kc := 13) (ks := 751) (tg := 8) (N := 18) (nn := t + 6) (lay' := (l0 ++ [(7, 30, va_up (va_up (va_up (va_up (va_up (NUL) 0 (.ref (t + 1))) 1 (.ref (t + 2))) 2 (.ref (t + 3))) 4 (.ref (t + 4))) 10 (.ref (t + 5))), (8, 43, NUL), (8, 43, NUL), (8, 43, NUL), (8, 160, NUL), (8, 960, NUL), (8, 18, NUL)])) (pc' := 51) dX7_init_49 rfl acI (by decide) rfl (by decide) (by decide) (by decide) (ap_len ht rfl) (by rw [List.append_assoc]; rfl) ?_
  refine s_putRN (id := t + 0) (lay' := (l0 ++ [(7, 30, va_up (va_up (va_up (va_up (va_up (va_up (NUL) 0 (.ref (t + 1))) 1 (.ref (t + 2))) 2 (.ref (t + 3))) 4 (.ref (t + 4))) 10 (.ref (t + 5))) 11 (.ref (t + 6))), (8, 43, NUL), (8, 43, NUL), (8, 43, NUL), (8, 160, NUL), (8, 960, NUL), (8, 18, NUL)])) (pc' := 54) dX7_init_51 rfl flX7_25 fw7_11 pf_7 (Or.inr ⟨_, rfl⟩) rfl ⟨_, _, rfl⟩ rfl (ap_get (m := 0) ht) (by decide) rfl (ap_set (m := 0) ht) ?_
  refine s_aload_n (pc' := 55) dX7_init_54 rfl lg0 rfl ?_
  refine s_aload_n (pc' := 56) dX7_init_55 rfl lg0 rfl ?_
  refine s_invV (kc1 := 0) (ks1 := 0) (kc := 13) (ks := 751) (d2 := d - 1) (pc' := 59) dX7_init_56 rfl okX7_firstText lkX7_28 inX7_firstText seX7_firstText (by omega) rfl rfl rfl rfl (ap_get (m := 0) ht) rfl (Nat.le_of_ble_eq_true rfl) (Nat.le_of_ble_eq_true rfl) (m_X7_firstText (t := t + 0) (a := t + 5) (b := t + 6) (ap_get (m := 0) ht) rfl rfl (ap_get (m := 5) ht) (ap_get (m := 6) ht) ?_)
  refine s_putI (id := t + 0) (ty := .int) (pc' := 62) dX7_init_59 rfl flX7_32 fw7_12 pdI rfl rfl (ap_get (m := 0) ht) (by decide) rfl ?_
  refine s_aload_n (pc' := 63) dX7_init_62 rfl lg0 rfl ?_
  refine s_bipush (pc' := 65) dX7_init_63 rfl bipush_84 ?_
  refine s_newaN (kc := 12) (ks := 667) (tg := 9) (N := 84) (nn := t + 7) (lay' := (l0 ++ [(7, 30, va_up (va_up (va_up (va_up (va_up (va_up (NUL) 0 (.ref (t + 1))) 1 (.ref (t + 2))) 2 (.ref (t + 3))) 4 (.ref (t + 4))) 10 (.ref (t + 5))) 11 (.ref (t + 6))), (8, 43, NUL), (8, 43, NUL), (8, 43, NUL), (8, 160, NUL), (8, 960, NUL), (8, 18, NUL), (9, 84, NUL)])) (pc' := 67) dX7_init_65 rfl acC (by decide) rfl (by decide) (by decide) (by decide) (ap_len ht rfl) (by rw [List.append_assoc]; rfl) ?_
  refine nm_all (id := t + 7) (ap_get (m := 7) ht) (by simp (disch := omega) only [Nat.add_zero, upE, upN, nwE, nwN, udE, udN]) (fun M hM hF => ?_)
  refine s_putRN (id := t + 0) (lay' := (l0 ++ [(7, 30, va_up (va_up (va_up (va_up (va_up (va_up (va_up (NUL) 0 (.ref (t + 1))) 1 (.ref (t + 2))) 2 (.ref (t + 3))) 4 (.ref (t + 4))) 10 (.ref (t + 5))) 11 (.ref (t + 6))) 14 (.ref (t + 7))), (8, 43, NUL), (8, 43, NUL), (8, 43, NUL), (8, 160, NUL), (8, 960, NUL), (8, 18, NUL), (9, 84, NUL)])) (pc' := 542) dX7_init_539 rfl flX7_36 fw7_14 pf_6 (Or.inr ⟨_, rfl⟩) rfl ⟨_, _, rfl⟩ rfl (ap_get (m := 0) ht) (by decide) rfl (ap_set (m := 0) ht) ?_
  refine s_aload_n (pc' := 543) dX7_init_542 rfl lg0 rfl ?_
  refine s_sipush (pc' := 546) dX7_init_543 rfl sipush_160 ?_
  refine s_newaN (kc := 11) (ks := 507) (tg := 8) (N := 160) (nn := t + 8) (lay' := (l0 ++ [(7, 30, va_up (va_up (va_up (va_up (va_up (va_up (va_up (NUL) 0 (.ref (t + 1))) 1 (.ref (t + 2))) 2 (.ref (t + 3))) 4 (.ref (t + 4))) 10 (.ref (t + 5))) 11 (.ref (t + 6))) 14 (.ref (t + 7))), (8, 43, NUL), (8, 43, NUL), (8, 43, NUL), (8, 160, NUL), (8, 960, NUL), (8, 18, NUL), (9, 84, NUL), (8, 160, NUL)])) (pc' := 548) dX7_init_546 rfl acI (by decide) rfl (by decide) (by decide) (by decide) (ap_len ht rfl) (by rw [List.append_assoc]; rfl) ?_
  refine s_putRN (id := t + 0) (lay' := (l0 ++ [(7, 30, va_up (va_up (va_up (va_up (va_up (va_up (va_up (va_up (NUL) 0 (.ref (t + 1))) 1 (.ref (t + 2))) 2 (.ref (t + 3))) 4 (.ref (t + 4))) 10 (.ref (t + 5))) 11 (.ref (t + 6))) 14 (.ref (t + 7))) 15 (.ref (t + 8))), (8, 43, NUL), (8, 43, NUL), (8, 43, NUL), (8, 160, NUL), (8, 960, NUL), (8, 18, NUL), (9, 84, NUL), (8, 160, NUL)])) (pc' := 551) dX7_init_548 rfl flX7_40 fw7_15 pf_7 (Or.inr ⟨_, rfl⟩) rfl ⟨_, _, rfl⟩ rfl (ap_get (m := 0) ht) (by decide) rfl (ap_set (m := 0) ht) ?_
  refine s_aload_n (pc' := 552) dX7_init_551 rfl lg0 rfl ?_
  refine s_sipush (pc' := 555) dX7_init_552 rfl sipush_160 ?_
  refine s_newaN (kc := 10) (ks := 347) (tg := 8) (N := 160) (nn := t + 9) (lay' := (l0 ++ [(7, 30, va_up (va_up (va_up (va_up (va_up (va_up (va_up (va_up (NUL) 0 (.ref (t + 1))) 1 (.ref (t + 2))) 2 (.ref (t + 3))) 4 (.ref (t + 4))) 10 (.ref (t + 5))) 11 (.ref (t + 6))) 14 (.ref (t + 7))) 15 (.ref (t + 8))), (8, 43, NUL), (8, 43, NUL), (8, 43, NUL), (8, 160, NUL), (8, 960, NUL), (8, 18, NUL), (9, 84, NUL), (8, 160, NUL), (8, 160, NUL)])) (pc' := 557) dX7_init_555 rfl acI (by decide) rfl (by decide) (by decide) (by decide) (ap_len ht rfl) (by rw [List.append_assoc]; rfl) ?_
  refine s_putRN (id := t + 0) (lay' := (l0 ++ [(7, 30, va_up (va_up (va_up (va_up (va_up (va_up (va_up (va_up (va_up (NUL) 0 (.ref (t + 1))) 1 (.ref (t + 2))) 2 (.ref (t + 3))) 4 (.ref (t + 4))) 10 (.ref (t + 5))) 11 (.ref (t + 6))) 14 (.ref (t + 7))) 15 (.ref (t + 8))) 17 (.ref (t + 9))), (8, 43, NUL), (8, 43, NUL), (8, 43, NUL), (8, 160, NUL), (8, 960, NUL), (8, 18, NUL), (9, 84, NUL), (8, 160, NUL), (8, 160, NUL)])) (pc' := 560) dX7_init_557 rfl flX7_43 fw7_17 pf_7 (Or.inr ⟨_, rfl⟩) rfl ⟨_, _, rfl⟩ rfl (ap_get (m := 0) ht) (by decide) rfl (ap_set (m := 0) ht) ?_
  refine s_aload_n (pc' := 561) dX7_init_560 rfl lg0 rfl ?_
  refine s_bipush (pc' := 563) dX7_init_561 rfl bipush_8 ?_
  refine s_newaN (kc := 9) (ks := 339) (tg := 8) (N := 8) (nn := t + 10) (lay' := (l0 ++ [(7, 30, va_up (va_up (va_up (va_up (va_up (va_up (va_up (va_up (va_up (NUL) 0 (.ref (t + 1))) 1 (.ref (t + 2))) 2 (.ref (t + 3))) 4 (.ref (t + 4))) 10 (.ref (t + 5))) 11 (.ref (t + 6))) 14 (.ref (t + 7))) 15 (.ref (t + 8))) 17 (.ref (t + 9))), (8, 43, NUL), (8, 43, NUL), (8, 43, NUL), (8, 160, NUL), (8, 960, NUL), (8, 18, NUL), (9, 84, NUL), (8, 160, NUL), (8, 160, NUL), (8, 8, NUL)])) (pc' := 565) dX7_init_563 rfl acI (by decide) rfl (by decide) (by decide) (by decide) (ap_len ht rfl) (by rw [List.append_assoc]; rfl) ?_
  refine s_putRN (id := t + 0) (lay' := (l0 ++ [(7, 30, va_up (va_up (va_up (va_up (va_up (va_up (va_up (va_up (va_up (va_up (NUL) 0 (.ref (t + 1))) 1 (.ref (t + 2))) 2 (.ref (t + 3))) 4 (.ref (t + 4))) 10 (.ref (t + 5))) 11 (.ref (t + 6))) 14 (.ref (t + 7))) 15 (.ref (t + 8))) 17 (.ref (t + 9))) 18 (.ref (t + 10))), (8, 43, NUL), (8, 43, NUL), (8, 43, NUL), (8, 160, NUL), (8, 960, NUL), (8, 18, NUL), (9, 84, NUL), (8, 160, NUL), (8, 160, NUL), (8, 8, NUL)])) (pc' := 568) dX7_init_565 rfl flX7_46 fw7_18 pf_7 (Or.inr ⟨_, rfl⟩) rfl ⟨_, _, rfl⟩ rfl (ap_get (m := 0) ht) (by decide) rfl (ap_set (m := 0) ht) ?_
  refine s_aload_n (pc' := 569) dX7_init_568 rfl lg0 rfl ?_
  refine s_bipush (pc' := 571) dX7_init_569 rfl bipush_8 ?_
  refine s_newaN (kc := 8) (ks := 331) (tg := 8) (N := 8) (nn := t + 11) (lay' := (l0 ++ [(7, 30, va_up (va_up (va_up (va_up (va_up (va_up (va_up (va_up (va_up (va_up (NUL) 0 (.ref (t + 1))) 1 (.ref (t + 2))) 2 (.ref (t + 3))) 4 (.ref (t + 4))) 10 (.ref (t + 5))) 11 (.ref (t + 6))) 14 (.ref (t + 7))) 15 (.ref (t + 8))) 17 (.ref (t + 9))) 18 (.ref (t + 10))), (8, 43, NUL), (8, 43, NUL), (8, 43, NUL), (8, 160, NUL), (8, 960, NUL), (8, 18, NUL), (9, 84, NUL), (8, 160, NUL), (8, 160, NUL), (8, 8, NUL), (8, 8, NUL)])) (pc' := 573) dX7_init_571 rfl acI (by decide) rfl (by decide) (by decide) (by decide) (ap_len ht rfl) (by rw [List.append_assoc]; rfl) ?_
  refine s_putRN (id := t + 0) (lay' := (l0 ++ [(7, 30, va_up (va_up (va_up (va_up (va_up (va_up (va_up (va_up (va_up (va_up (va_up (NUL) 0 (.ref (t + 1))) 1 (.ref (t + 2))) 2 (.ref (t + 3))) 4 (.ref (t + 4))) 10 (.ref (t + 5))) 11 (.ref (t + 6))) 14 (.ref (t + 7))) 15 (.ref (t + 8))) 17 (.ref (t + 9))) 18 (.ref (t + 10))) 19 (.ref (t + 11))), (8, 43, NUL), (8, 43, NUL), (8, 43, NUL), (8, 160, NUL), (8, 960, NUL), (8, 18, NUL), (9, 84, NUL), (8, 160, NUL), (8, 160, NUL), (8, 8, NUL), (8, 8, NUL)])) (pc' := 576) dX7_init_573 rfl flX7_49 fw7_19 pf_7 (Or.inr ⟨_, rfl⟩) rfl ⟨_, _, rfl⟩ rfl (ap_get (m := 0) ht) (by decide) rfl (ap_set (m := 0) ht) ?_
  refine s_aload_n (pc' := 577) dX7_init_576 rfl lg0 rfl ?_
  refine s_bipush (pc' := 579) dX7_init_577 rfl bipush_8 ?_
  refine s_newaN (kc := 7) (ks := 323) (tg := 8) (N := 8) (nn := t + 12) (lay' := (l0 ++ [(7, 30, va_up (va_up (va_up (va_up (va_up (va_up (va_up (va_up (va_up (va_up (va_up (NUL) 0 (.ref (t + 1))) 1 (.ref (t + 2))) 2 (.ref (t + 3))) 4 (.ref (t + 4))) 10 (.ref (t + 5))) 11 (.ref (t + 6))) 14 (.ref (t + 7))) 15 (.ref (t + 8))) 17 (.ref (t + 9))) 18 (.ref (t + 10))) 19 (.ref (t + 11))), (8, 43, NUL), (8, 43, NUL), (8, 43, NUL), (8, 160, NUL), (8, 960, NUL), (8, 18, NUL), (9, 84, NUL), (8, 160, NUL), (8, 160, NUL), (8, 8, NUL), (8, 8, NUL), (8, 8, NUL)])) (pc' := 581) dX7_init_579 rfl acI (by decide) rfl (by decide) (by decide) (by decide) (ap_len ht rfl) (by rw [List.append_assoc]; rfl) ?_
  refine s_putRN (id := t + 0) (lay' := (l0 ++ [(7, 30, va_up (va_up (va_up (va_up (va_up (va_up (va_up (va_up (va_up (va_up (va_up (va_up (NUL) 0 (.ref (t + 1))) 1 (.ref (t + 2))) 2 (.ref (t + 3))) 4 (.ref (t + 4))) 10 (.ref (t + 5))) 11 (.ref (t + 6))) 14 (.ref (t + 7))) 15 (.ref (t + 8))) 17 (.ref (t + 9))) 18 (.ref (t + 10))) 19 (.ref (t + 11))) 20 (.ref (t + 12))), (8, 43, NUL), (8, 43, NUL), (8, 43, NUL), (8, 160, NUL), (8, 960, NUL), (8, 18, NUL), (9, 84, NUL), (8, 160, NUL), (8, 160, NUL), (8, 8, NUL), (8, 8, NUL), (8, 8, NUL)])) (pc' := 584) dX7_init_581 rfl flX7_52 fw7_20 pf_7 (Or.inr ⟨_, rfl⟩) rfl ⟨_, _, rfl⟩ rfl (ap_get (m := 0) ht) (by decide) rfl (ap_set (m := 0) ht) ?_
  refine s_aload_n (pc' := 585) dX7_init_584 rfl lg0 rfl ?_
  refine s_bipush (pc' := 587) dX7_init_585 rfl bipush_9 ?_
  refine s_newaN (kc := 6) (ks := 314) (tg := 8) (N := 9) (nn := t + 13) (lay' := (l0 ++ [(7, 30, va_up (va_up (va_up (va_up (va_up (va_up (va_up (va_up (va_up (va_up (va_up (va_up (NUL) 0 (.ref (t + 1))) 1 (.ref (t + 2))) 2 (.ref (t + 3))) 4 (.ref (t + 4))) 10 (.ref (t + 5))) 11 (.ref (t + 6))) 14 (.ref (t + 7))) 15 (.ref (t + 8))) 17 (.ref (t + 9))) 18 (.ref (t + 10))) 19 (.ref (t + 11))) 20 (.ref (t + 12))), (8, 43, NUL), (8, 43, NUL), (8, 43, NUL), (8, 160, NUL), (8, 960, NUL), (8, 18, NUL), (9, 84, NUL), (8, 160, NUL), (8, 160, NUL), (8, 8, NUL), (8, 8, NUL), (8, 8, NUL), (8, 9, NUL)])) (pc' := 589) dX7_init_587 rfl acI (by decide) rfl (by decide) (by decide) (by decide) (ap_len ht rfl) (by rw [List.append_assoc]; rfl) ?_
  refine s_putRN (id := t + 0) (lay' := (l0 ++ [(7, 30, va_up (va_up (va_up (va_up (va_up (va_up (va_up (va_up (va_up (va_up (va_up (va_up (va_up (NUL) 0 (.ref (t + 1))) 1 (.ref (t + 2))) 2 (.ref (t + 3))) 4 (.ref (t + 4))) 10 (.ref (t + 5))) 11 (.ref (t + 6))) 14 (.ref (t + 7))) 15 (.ref (t + 8))) 17 (.ref (t + 9))) 18 (.ref (t + 10))) 19 (.ref (t + 11))) 20 (.ref (t + 12))) 21 (.ref (t + 13))), (8, 43, NUL), (8, 43, NUL), (8, 43, NUL), (8, 160, NUL), (8, 960, NUL), (8, 18, NUL), (9, 84, NUL), (8, 160, NUL), (8, 160, NUL), (8, 8, NUL), (8, 8, NUL), (8, 8, NUL), (8, 9, NUL)])) (pc' := 592) dX7_init_589 rfl flX7_55 fw7_21 pf_7 (Or.inr ⟨_, rfl⟩) rfl ⟨_, _, rfl⟩ rfl (ap_get (m := 0) ht) (by decide) rfl (ap_set (m := 0) ht) ?_
  refine s_aload_n (pc' := 593) dX7_init_592 rfl lg0 rfl ?_
  refine s_iconst (pc' := 594) dX7_init_593 rfl iconst_4 ?_
  refine s_newaN (kc := 5) (ks := 310) (tg := 8) (N := 4) (nn := t + 14) (lay' := (l0 ++ [(7, 30, va_up (va_up (va_up (va_up (va_up (va_up (va_up (va_up (va_up (va_up (va_up (va_up (va_up (NUL) 0 (.ref (t + 1))) 1 (.ref (t + 2))) 2 (.ref (t + 3))) 4 (.ref (t + 4))) 10 (.ref (t + 5))) 11 (.ref (t + 6))) 14 (.ref (t + 7))) 15 (.ref (t + 8))) 17 (.ref (t + 9))) 18 (.ref (t + 10))) 19 (.ref (t + 11))) 20 (.ref (t + 12))) 21 (.ref (t + 13))), (8, 43, NUL), (8, 43, NUL), (8, 43, NUL), (8, 160, NUL), (8, 960, NUL), (8, 18, NUL), (9, 84, NUL), (8, 160, NUL), (8, 160, NUL), (8, 8, NUL), (8, 8, NUL), (8, 8, NUL), (8, 9, NUL), (8, 4, NUL)])) (pc' := 596) dX7_init_594 rfl acI (by decide) rfl (by decide) (by decide) (by decide) (ap_len ht rfl) (by rw [List.append_assoc]; rfl) ?_
  refine s_dup (pc' := 597) dX7_init_596 rfl rfl ?_
  refine s_iconst (pc' := 598) dX7_init_597 rfl iconst_0 ?_
  refine s_iconst (pc' := 599) dX7_init_598 rfl iconst_m1 ?_
  refine s_iastN (id := t + 14) (k := 0) (pc' := 600) dX7_init_599 rfl (ap_get (m := 14) ht) (by decide) (by decide) ?_
  refine s_dup (pc' := 601) dX7_init_600 rfl rfl ?_
  refine s_iconst (pc' := 602) dX7_init_601 rfl iconst_1 ?_
  refine s_iconst (pc' := 603) dX7_init_602 rfl iconst_m1 ?_
  refine s_iastN (id := t + 14) (k := 1) (pc' := 604) dX7_init_603 rfl (ap_get (m := 14) ht) (by decide) (by decide) ?_
  refine s_dup (pc' := 605) dX7_init_604 rfl rfl ?_
  refine s_iconst (pc' := 606) dX7_init_605 rfl iconst_2 ?_
  refine s_iconst (pc' := 607) dX7_init_606 rfl iconst_m1 ?_
  refine s_iastN (id := t + 14) (k := 2) (pc' := 608) dX7_init_607 rfl (ap_get (m := 14) ht) (by decide) (by decide) ?_
  refine s_dup (pc' := 609) dX7_init_608 rfl rfl ?_
  refine s_iconst (pc' := 610) dX7_init_609 rfl iconst_3 ?_
  refine s_iconst (pc' := 611) dX7_init_610 rfl iconst_m1 ?_
  refine s_iastN (id := t + 14) (k := 3) (pc' := 612) dX7_init_611 rfl (ap_get (m := 14) ht) (by decide) (by decide) ?_
  refine s_putRN (id := t + 0) (lay' := (l0 ++ [(7, 30, va_up (va_up (va_up (va_up (va_up (va_up (va_up (va_up (va_up (va_up (va_up (va_up (va_up (va_up (NUL) 0 (.ref (t + 1))) 1 (.ref (t + 2))) 2 (.ref (t + 3))) 4 (.ref (t + 4))) 10 (.ref (t + 5))) 11 (.ref (t + 6))) 14 (.ref (t + 7))) 15 (.ref (t + 8))) 17 (.ref (t + 9))) 18 (.ref (t + 10))) 19 (.ref (t + 11))) 20 (.ref (t + 12))) 21 (.ref (t + 13))) 24 (.ref (t + 14))), (8, 43, NUL), (8, 43, NUL), (8, 43, NUL), (8, 160, NUL), (8, 960, NUL), (8, 18, NUL), (9, 84, NUL), (8, 160, NUL), (8, 160, NUL), (8, 8, NUL), (8, 8, NUL), (8, 8, NUL), (8, 9, NUL), (8, 4, NUL)])) (pc' := 615) dX7_init_612 rfl flX7_58 fw7_24 pf_7 (Or.inr ⟨_, rfl⟩) rfl ⟨_, _, rfl⟩ rfl (ap_get (m := 0) ht) (by decide) rfl (ap_set (m := 0) ht) ?_
  refine s_aload_n (pc' := 616) dX7_init_615 rfl lg0 rfl ?_
  refine s_iconst (pc' := 617) dX7_init_616 rfl iconst_4 ?_
  refine s_newaN (kc := 4) (ks := 306) (tg := 8) (N := 4) (nn := t + 15) (lay' := (l0 ++ [(7, 30, va_up (va_up (va_up (va_up (va_up (va_up (va_up (va_up (va_up (va_up (va_up (va_up (va_up (va_up (NUL) 0 (.ref (t + 1))) 1 (.ref (t + 2))) 2 (.ref (t + 3))) 4 (.ref (t + 4))) 10 (.ref (t + 5))) 11 (.ref (t + 6))) 14 (.ref (t + 7))) 15 (.ref (t + 8))) 17 (.ref (t + 9))) 18 (.ref (t + 10))) 19 (.ref (t + 11))) 20 (.ref (t + 12))) 21 (.ref (t + 13))) 24 (.ref (t + 14))), (8, 43, NUL), (8, 43, NUL), (8, 43, NUL), (8, 160, NUL), (8, 960, NUL), (8, 18, NUL), (9, 84, NUL), (8, 160, NUL), (8, 160, NUL), (8, 8, NUL), (8, 8, NUL), (8, 8, NUL), (8, 9, NUL), (8, 4, NUL), (8, 4, NUL)])) (pc' := 619) dX7_init_617 rfl acI (by decide) rfl (by decide) (by decide) (by decide) (ap_len ht rfl) (by rw [List.append_assoc]; rfl) ?_
  refine s_putRN (id := t + 0) (lay' := (l0 ++ [(7, 30, va_up (va_up (va_up (va_up (va_up (va_up (va_up (va_up (va_up (va_up (va_up (va_up (va_up (va_up (va_up (NUL) 0 (.ref (t + 1))) 1 (.ref (t + 2))) 2 (.ref (t + 3))) 4 (.ref (t + 4))) 10 (.ref (t + 5))) 11 (.ref (t + 6))) 14 (.ref (t + 7))) 15 (.ref (t + 8))) 17 (.ref (t + 9))) 18 (.ref (t + 10))) 19 (.ref (t + 11))) 20 (.ref (t + 12))) 21 (.ref (t + 13))) 24 (.ref (t + 14))) 25 (.ref (t + 15))), (8, 43, NUL), (8, 43, NUL), (8, 43, NUL), (8, 160, NUL), (8, 960, NUL), (8, 18, NUL), (9, 84, NUL), (8, 160, NUL), (8, 160, NUL), (8, 8, NUL), (8, 8, NUL), (8, 8, NUL), (8, 9, NUL), (8, 4, NUL), (8, 4, NUL)])) (pc' := 622) dX7_init_619 rfl flX7_61 fw7_25 pf_7 (Or.inr ⟨_, rfl⟩) rfl ⟨_, _, rfl⟩ rfl (ap_get (m := 0) ht) (by decide) rfl (ap_set (m := 0) ht) ?_
  refine s_aload_n (pc' := 623) dX7_init_622 rfl lg0 rfl ?_
  refine s_sipush (pc' := 626) dX7_init_623 rfl sipush_160 ?_
  refine s_newaN (kc := 3) (ks := 146) (tg := 8) (N := 160) (nn := t + 16) (lay' := (l0 ++ [(7, 30, va_up (va_up (va_up (va_up (va_up (va_up (va_up (va_up (va_up (va_up (va_up (va_up (va_up (va_up (va_up (NUL) 0 (.ref (t + 1))) 1 (.ref (t + 2))) 2 (.ref (t + 3))) 4 (.ref (t + 4))) 10 (.ref (t + 5))) 11 (.ref (t + 6))) 14 (.ref (t + 7))) 15 (.ref (t + 8))) 17 (.ref (t + 9))) 18 (.ref (t + 10))) 19 (.ref (t + 11))) 20 (.ref (t + 12))) 21 (.ref (t + 13))) 24 (.ref (t + 14))) 25 (.ref (t + 15))), (8, 43, NUL), (8, 43, NUL), (8, 43, NUL), (8, 160, NUL), (8, 960, NUL), (8, 18, NUL), (9, 84, NUL), (8, 160, NUL), (8, 160, NUL), (8, 8, NUL), (8, 8, NUL), (8, 8, NUL), (8, 9, NUL), (8, 4, NUL), (8, 4, NUL), (8, 160, NUL)])) (pc' := 628) dX7_init_626 rfl acI (by decide) rfl (by decide) (by decide) (by decide) (ap_len ht rfl) (by rw [List.append_assoc]; rfl) ?_
  refine s_putRN (id := t + 0) (lay' := (l0 ++ [(7, 30, va_up (va_up (va_up (va_up (va_up (va_up (va_up (va_up (va_up (va_up (va_up (va_up (va_up (va_up (va_up (va_up (NUL) 0 (.ref (t + 1))) 1 (.ref (t + 2))) 2 (.ref (t + 3))) 4 (.ref (t + 4))) 10 (.ref (t + 5))) 11 (.ref (t + 6))) 14 (.ref (t + 7))) 15 (.ref (t + 8))) 17 (.ref (t + 9))) 18 (.ref (t + 10))) 19 (.ref (t + 11))) 20 (.ref (t + 12))) 21 (.ref (t + 13))) 24 (.ref (t + 14))) 25 (.ref (t + 15))) 26 (.ref (t + 16))), (8, 43, NUL), (8, 43, NUL), (8, 43, NUL), (8, 160, NUL), (8, 960, NUL), (8, 18, NUL), (9, 84, NUL), (8, 160, NUL), (8, 160, NUL), (8, 8, NUL), (8, 8, NUL), (8, 8, NUL), (8, 9, NUL), (8, 4, NUL), (8, 4, NUL), (8, 160, NUL)])) (pc' := 631) dX7_init_628 rfl flX7_64 fw7_26 pf_7 (Or.inr ⟨_, rfl⟩) rfl ⟨_, _, rfl⟩ rfl (ap_get (m := 0) ht) (by decide) rfl (ap_set (m := 0) ht) ?_
  refine s_aload_n (pc' := 632) dX7_init_631 rfl lg0 rfl ?_
  refine s_bipush (pc' := 634) dX7_init_632 rfl bipush_40 ?_
  refine s_newaN (kc := 2) (ks := 106) (tg := 8) (N := 40) (nn := t + 17) (lay' := (l0 ++ [(7, 30, va_up (va_up (va_up (va_up (va_up (va_up (va_up (va_up (va_up (va_up (va_up (va_up (va_up (va_up (va_up (va_up (NUL) 0 (.ref (t + 1))) 1 (.ref (t + 2))) 2 (.ref (t + 3))) 4 (.ref (t + 4))) 10 (.ref (t + 5))) 11 (.ref (t + 6))) 14 (.ref (t + 7))) 15 (.ref (t + 8))) 17 (.ref (t + 9))) 18 (.ref (t + 10))) 19 (.ref (t + 11))) 20 (.ref (t + 12))) 21 (.ref (t + 13))) 24 (.ref (t + 14))) 25 (.ref (t + 15))) 26 (.ref (t + 16))), (8, 43, NUL), (8, 43, NUL), (8, 43, NUL), (8, 160, NUL), (8, 960, NUL), (8, 18, NUL), (9, 84, NUL), (8, 160, NUL), (8, 160, NUL), (8, 8, NUL), (8, 8, NUL), (8, 8, NUL), (8, 9, NUL), (8, 4, NUL), (8, 4, NUL), (8, 160, NUL), (8, 40, NUL)])) (pc' := 636) dX7_init_634 rfl acI (by decide) rfl (by decide) (by decide) (by decide) (ap_len ht rfl) (by rw [List.append_assoc]; rfl) ?_
  refine s_putRN (id := t + 0) (lay' := (l0 ++ [(7, 30, va_up (va_up (va_up (va_up (va_up (va_up (va_up (va_up (va_up (va_up (va_up (va_up (va_up (va_up (va_up (va_up (va_up (NUL) 0 (.ref (t + 1))) 1 (.ref (t + 2))) 2 (.ref (t + 3))) 4 (.ref (t + 4))) 10 (.ref (t + 5))) 11 (.ref (t + 6))) 14 (.ref (t + 7))) 15 (.ref (t + 8))) 17 (.ref (t + 9))) 18 (.ref (t + 10))) 19 (.ref (t + 11))) 20 (.ref (t + 12))) 21 (.ref (t + 13))) 24 (.ref (t + 14))) 25 (.ref (t + 15))) 26 (.ref (t + 16))) 27 (.ref (t + 17))), (8, 43, NUL), (8, 43, NUL), (8, 43, NUL), (8, 160, NUL), (8, 960, NUL), (8, 18, NUL), (9, 84, NUL), (8, 160, NUL), (8, 160, NUL), (8, 8, NUL), (8, 8, NUL), (8, 8, NUL), (8, 9, NUL), (8, 4, NUL), (8, 4, NUL), (8, 160, NUL), (8, 40, NUL)])) (pc' := 639) dX7_init_636 rfl flX7_67 fw7_27 pf_7 (Or.inr ⟨_, rfl⟩) rfl ⟨_, _, rfl⟩ rfl (ap_get (m := 0) ht) (by decide) rfl (ap_set (m := 0) ht) ?_
  refine s_aload_n (pc' := 640) dX7_init_639 rfl lg0 rfl ?_
  refine s_bipush (pc' := 642) dX7_init_640 rfl bipush_6 ?_
  refine s_newaN (kc := 1) (ks := 100) (tg := 8) (N := 6) (nn := t + 18) (lay' := (l0 ++ [(7, 30, va_up (va_up (va_up (va_up (va_up (va_up (va_up (va_up (va_up (va_up (va_up (va_up (va_up (va_up (va_up (va_up (va_up (NUL) 0 (.ref (t + 1))) 1 (.ref (t + 2))) 2 (.ref (t + 3))) 4 (.ref (t + 4))) 10 (.ref (t + 5))) 11 (.ref (t + 6))) 14 (.ref (t + 7))) 15 (.ref (t + 8))) 17 (.ref (t + 9))) 18 (.ref (t + 10))) 19 (.ref (t + 11))) 20 (.ref (t + 12))) 21 (.ref (t + 13))) 24 (.ref (t + 14))) 25 (.ref (t + 15))) 26 (.ref (t + 16))) 27 (.ref (t + 17))), (8, 43, NUL), (8, 43, NUL), (8, 43, NUL), (8, 160, NUL), (8, 960, NUL), (8, 18, NUL), (9, 84, NUL), (8, 160, NUL), (8, 160, NUL), (8, 8, NUL), (8, 8, NUL), (8, 8, NUL), (8, 9, NUL), (8, 4, NUL), (8, 4, NUL), (8, 160, NUL), (8, 40, NUL), (8, 6, NUL)])) (pc' := 644) dX7_init_642 rfl acI (by decide) rfl (by decide) (by decide) (by decide) (ap_len ht rfl) (by rw [List.append_assoc]; rfl) ?_
  refine s_dup (pc' := 645) dX7_init_644 rfl rfl ?_
  refine s_iconst (pc' := 646) dX7_init_645 rfl iconst_0 ?_
  refine s_iconst (pc' := 647) dX7_init_646 rfl iconst_m1 ?_
  refine s_iastN (id := t + 18) (k := 0) (pc' := 648) dX7_init_647 rfl (ap_get (m := 18) ht) (by decide) (by decide) ?_
  refine s_dup (pc' := 649) dX7_init_648 rfl rfl ?_
  refine s_iconst (pc' := 650) dX7_init_649 rfl iconst_1 ?_
  refine s_iconst (pc' := 651) dX7_init_650 rfl iconst_0 ?_
  refine s_iastN (id := t + 18) (k := 1) (pc' := 652) dX7_init_651 rfl (ap_get (m := 18) ht) (by decide) (by decide) ?_
  refine s_dup (pc' := 653) dX7_init_652 rfl rfl ?_
  refine s_iconst (pc' := 654) dX7_init_653 rfl iconst_2 ?_
  refine s_iconst (pc' := 655) dX7_init_654 rfl iconst_0 ?_
  refine s_iastN (id := t + 18) (k := 2) (pc' := 656) dX7_init_655 rfl (ap_get (m := 18) ht) (by decide) (by decide) ?_
  refine s_dup (pc' := 657) dX7_init_656 rfl rfl ?_
  refine s_iconst (pc' := 658) dX7_init_657 rfl iconst_3 ?_
  refine s_iconst (pc' := 659) dX7_init_658 rfl iconst_1 ?_
  refine s_iastN (id := t + 18) (k := 3) (pc' := 660) dX7_init_659 rfl (ap_get (m := 18) ht) (by decide) (by decide) ?_
  refine s_dup (pc' := 661) dX7_init_660 rfl rfl ?_
  refine s_iconst (pc' := 662) dX7_init_661 rfl iconst_4 ?_
  refine s_iconst (pc' := 663) dX7_init_662 rfl iconst_2 ?_
  refine s_iastN (id := t + 18) (k := 4) (pc' := 664) dX7_init_663 rfl (ap_get (m := 18) ht) (by decide) (by decide) ?_
  refine s_dup (pc' := 665) dX7_init_664 rfl rfl ?_
  refine s_iconst (pc' := 666) dX7_init_665 rfl iconst_5 ?_
  refine s_iconst (pc' := 667) dX7_init_666 rfl iconst_0 ?_
  refine s_iastN (id := t + 18) (k := 5) (pc' := 668) dX7_init_667 rfl (ap_get (m := 18) ht) (by decide) (by decide) ?_
  refine s_putRN (id := t + 0) (lay' := (l0 ++ [(7, 30, va_up (va_up (va_up (va_up (va_up (va_up (va_up (va_up (va_up (va_up (va_up (va_up (va_up (va_up (va_up (va_up (va_up (va_up (NUL) 0 (.ref (t + 1))) 1 (.ref (t + 2))) 2 (.ref (t + 3))) 4 (.ref (t + 4))) 10 (.ref (t + 5))) 11 (.ref (t + 6))) 14 (.ref (t + 7))) 15 (.ref (t + 8))) 17 (.ref (t + 9))) 18 (.ref (t + 10))) 19 (.ref (t + 11))) 20 (.ref (t + 12))) 21 (.ref (t + 13))) 24 (.ref (t + 14))) 25 (.ref (t + 15))) 26 (.ref (t + 16))) 27 (.ref (t + 17))) 28 (.ref (t + 18))), (8, 43, NUL), (8, 43, NUL), (8, 43, NUL), (8, 160, NUL), (8, 960, NUL), (8, 18, NUL), (9, 84, NUL), (8, 160, NUL), (8, 160, NUL), (8, 8, NUL), (8, 8, NUL), (8, 8, NUL), (8, 9, NUL), (8, 4, NUL), (8, 4, NUL), (8, 160, NUL), (8, 40, NUL), (8, 6, NUL)])) (pc' := 671) dX7_init_668 rfl flX7_70 fw7_28 pf_7 (Or.inr ⟨_, rfl⟩) rfl ⟨_, _, rfl⟩ rfl (ap_get (m := 0) ht) (by decide) rfl (ap_set (m := 0) ht) ?_
  refine s_aload_n (pc' := 672) dX7_init_671 rfl lg0 rfl ?_
  refine s_bipush (pc' := 674) dX7_init_672 rfl bipush_100 ?_
  refine s_newaN (kc := 0) (ks := 0) (tg := 10) (N := 100) (nn := t + 19) (lay' := (l0 ++ [(7, 30, va_up (va_up (va_up (va_up (va_up (va_up (va_up (va_up (va_up (va_up (va_up (va_up (va_up (va_up (va_up (va_up (va_up (va_up (NUL) 0 (.ref (t + 1))) 1 (.ref (t + 2))) 2 (.ref (t + 3))) 4 (.ref (t + 4))) 10 (.ref (t + 5))) 11 (.ref (t + 6))) 14 (.ref (t + 7))) 15 (.ref (t + 8))) 17 (.ref (t + 9))) 18 (.ref (t + 10))) 19 (.ref (t + 11))) 20 (.ref (t + 12))) 21 (.ref (t + 13))) 24 (.ref (t + 14))) 25 (.ref (t + 15))) 26 (.ref (t + 16))) 27 (.ref (t + 17))) 28 (.ref (t + 18))), (8, 43, NUL), (8, 43, NUL), (8, 43, NUL), (8, 160, NUL), (8, 960, NUL), (8, 18, NUL), (9, 84, NUL), (8, 160, NUL), (8, 160, NUL), (8, 8, NUL), (8, 8, NUL), (8, 8, NUL), (8, 9, NUL), (8, 4, NUL), (8, 4, NUL), (8, 160, NUL), (8, 40, NUL), (8, 6, NUL), (10, 100, NUL)])) (pc' := 676) dX7_init_674 rfl acZ (by decide) rfl (by decide) (by decide) (by decide) (ap_len ht rfl) (by rw [List.append_assoc]; rfl) ?_
  refine s_putRN (id := t + 0) (lay' := (l0 ++ [(7, 30, va_up (va_up (va_up (va_up (va_up (va_up (va_up (va_up (va_up (va_up (va_up (va_up (va_up (va_up (va_up (va_up (va_up (va_up (va_up (NUL) 0 (.ref (t + 1))) 1 (.ref (t + 2))) 2 (.ref (t + 3))) 4 (.ref (t + 4))) 10 (.ref (t + 5))) 11 (.ref (t + 6))) 14 (.ref (t + 7))) 15 (.ref (t + 8))) 17 (.ref (t + 9))) 18 (.ref (t + 10))) 19 (.ref (t + 11))) 20 (.ref (t + 12))) 21 (.ref (t + 13))) 24 (.ref (t + 14))) 25 (.ref (t + 15))) 26 (.ref (t + 16))) 27 (.ref (t + 17))) 28 (.ref (t + 18))) 29 (.ref (t + 19))), (8, 43, NUL), (8, 43, NUL), (8, 43, NUL), (8, 160, NUL), (8, 960, NUL), (8, 18, NUL), (9, 84, NUL), (8, 160, NUL), (8, 160, NUL), (8, 8, NUL), (8, 8, NUL), (8, 8, NUL), (8, 9, NUL), (8, 4, NUL), (8, 4, NUL), (8, 160, NUL), (8, 40, NUL), (8, 6, NUL), (10, 100, NUL)])) (pc' := 679) dX7_init_676 rfl flX7_73 fw7_29 pf_10 (Or.inr ⟨_, rfl⟩) rfl ⟨_, _, rfl⟩ rfl (ap_get (m := 0) ht) (by decide) rfl (ap_set (m := 0) ht) ?_
  refine s_vret dX7_init_679 rfl ?_
  refine K _ (fun j hj => ?_) ?_ ?_ ?_ ?_ ?_ ?_ ?_ ?_ ?_ ?_ ?_ ?_ ?_ ?_ ?_ ?_ ?_ ?_ ?_ ?_ ?_ ?_ ?_
  · simp (disch := omega) only [upN, nwN, hF]
  · simp (disch := omega) only [Nat.add_zero, upE, upN, nwE, nwN, udE, udN, hF]
  · simp (disch := omega) only [Nat.add_zero, upE, upN, nwE, nwN, udE, udN, hF]
  · simp (disch := omega) only [Nat.add_zero, upE, upN, nwE, nwN, udE, udN, hF]
  · simp (disch := omega) only [Nat.add_zero, upE, upN, nwE, nwN, udE, udN, hF]
  · simp (disch := omega) only [Nat.add_zero, upE, upN, nwE, nwN, udE, udN, hF]
  · simp (disch := omega) only [Nat.add_zero, upE, upN, nwE, nwN, udE, udN, hF]
  · simp (disch := omega) only [Nat.add_zero, upE, upN, nwE, nwN, udE, udN, hF]
  · simp (disch := omega) only [Nat.add_zero, upE, upN, nwE, nwN, hM]
  · simp (disch := omega) only [Nat.add_zero, upE, upN, nwE, nwN, udE, udN, hF]
  · simp (disch := omega) only [Nat.add_zero, upE, upN, nwE, nwN, udE, udN, hF]
  · simp (disch := omega) only [Nat.add_zero, upE, upN, nwE, nwN, udE, udN, hF]
  · simp (disch := omega) only [Nat.add_zero, upE, upN, nwE, nwN, udE, udN, hF]
  · simp (disch := omega) only [Nat.add_zero, upE, upN, nwE, nwN, udE, udN, hF]
  · simp (disch := omega) only [Nat.add_zero, upE, upN, nwE, nwN, udE, udN, hF]
  · simp (disch := omega) only [Nat.add_zero, upE, upN, nwE, nwN, udE, udN, hF]
  · simp (disch := omega) only [Nat.add_zero, upE, upN, nwE, nwN, udE, udN, hF]
  · simp (disch := omega) only [Nat.add_zero, upE, upN, nwE, nwN, udE, udN, hF]
  · simp (disch := omega) only [Nat.add_zero, upE, upN, nwE, nwN, udE, udN, hF]
  · simp (disch := omega) only [Nat.add_zero, upE, upN, nwE, nwN, udE, udN, hF]
  · simp (disch := omega) only [Nat.add_zero, upE, upN, nwE, nwN, udE, udN, hF]
  · simp (disch := omega) only [Nat.add_zero, upE, upN, nwE, nwN, udE, udN, hF, hz]
  · simp (disch := omega) only [Nat.add_zero, upE, upN, nwE, nwN, udE, udN, hF, hz]
  · simp (disch := omega) only [Nat.add_zero, upE, upN, nwE, nwN, udE, udN, hF, hz]
