/-! ===== the law: text, the loop, the start ===== -/
theorem txZ_le {sz nt : Nat} : txZ sz nt ≤ sz := by
  unfold txZ
  split <;> omega
theorem txN_le {tp : Nat → Nat} {sz nt : Nat} : nt ≤ txN tp sz nt := by
  unfold txN
  split <;> omega
theorem c5_tail {z : Zz} {d kc ks i : Nat} {rf : Nat → Value} {tl : Lay} {m1 : Mem} {Q : Option Value → Lay → Mem → Prop} {σ : Nat → Nat → Int32} {n t w nt : Nat} {T : Nat → Nat → List Int32} {so : Nat → Int32} {sz : Nat → Nat} {it : Nat → Nat → Int32} {tn : Nat} {tp : Nat → Nat} {kp : Bool} {τ : Nat → Nat → Int32} {nk tk wk : Nat} {x : Int32} (hdd : 60 ≤ d) (hx : x = txR tp tn nt) (hC : CL rf tl m1 σ n t w (txN tp tn nt) (txT tp tn nt T) so sz it (txZ tn nt) tp kp τ nk tk wk) (hM : MO m1 σ n t w nt T so sz it tn tp kp τ nk tk wk) (hP : PU σ n t w nt tn tp kp τ nk tk wk) (K : ∀ mem', INV rf tl mem' → Sim z d kc ks mL_law 1103 [.retAddr 2, .ref 0, .ref 47, .int (nI i)] [] (LAY rf tl) mem' Q) : Sim z d kc ks mL_law 343 [.retAddr 2, .ref 0, .ref 47, .int (nI i)] [.int x] (LAY rf tl) m1 Q := by
  subst hx
  obtain ⟨m1', m2, m3, ⟨m4, m5⟩, m6, m7, m8, m9, m10⟩ := id hM
  obtain ⟨p1, p2, p3, p4, p5, p6⟩ := id hP
  refine s_aload_n (pc' := 344) dL_law_343 rfl lg2 rfl ?_
  refine c_X7_text (tp := tp) (sz := tn) (nt := nt) (T := T) (pc' := 347) dL_law_344 rfl lkL_41 (by omega) (Nat.le_of_ble_eq_true rfl) m2 m4 p4 m5 p5 m8 (fun B h1 h2 h3 h4 => ?_)
  have hz := @txZ_le tn nt
  have hn := @txN_le tp tn nt
  generalize txR tp tn nt = y
  generalize txN tp tn nt = N at *
  generalize txZ tn nt = Z at *
  generalize txT tp tn nt T = T' at *
  refine s_icmp_eq (pc' := 350) (tgt := 1103) dL_law_347 rfl (by decide) (fun _ => ?_) (fun c9 => absurd (rfl) c9)
  refine K B ⟨σ, n, t, w, N, T', so, sz, it, Z, tp, kp, τ, nk, tk, wk, hC.keep (fun j _ _ _ _ _ q => h4 j (by omega) (by omega) (by omega) (by omega)), ⟨m1'.cp (fun k _ => by rw [h4 48 (by decide) (by decide) (by decide) (by decide)]), h1, ?_, ⟨h2, fun i hi => by rw [h4 51 (by decide) (by decide) (by decide) (by decide)]; exact m5 i (by omega)⟩, by rw [h3]; exact m6, fun q => (m7 q).cp (fun k _ => by rw [h4 49 (by decide) (by decide) (by decide) (by decide)]), fun k hk => by rw [h4 54 (by decide) (by decide) (by decide) (by decide)]; exact m8 k hk, fun j hj => by rw [h4 65 (by decide) (by decide) (by decide) (by decide)]; exact m9 j hj, fun j hj => by rw [h4 60 (by decide) (by decide) (by decide) (by decide)]; exact m10 j hj⟩, p1, p2, by omega, by omega, fun i hi => p5 i (by omega), fun q => ⟨(p6 q).1, (p6 q).2.1, by have := (p6 q).2.2; omega⟩⟩
  unfold isMR at m3 ⊢
  rw [h4 61 (by decide) (by decide) (by decide) (by decide), h4 62 (by decide) (by decide) (by decide) (by decide), h4 63 (by decide) (by decide) (by decide) (by decide)]
  exact m3
set_option maxHeartbeats 4000000 in
theorem lw_c5 {z : Zz} {d kc ks i : Nat} {rf : Nat → Value} {tl : Lay} {mem : Mem} {Q : Option Value → Lay → Mem → Prop} (hdd : 60 ≤ d) (hI : INV rf tl mem) (K : ∀ rf' tl' mem', INV rf' tl' mem' → Sim z d kc ks mL_law 1103 [.retAddr 2, .ref 0, .ref 47, .int (nI i)] [] (LAY rf' tl') mem' Q) : Sim z d (2 + kc) (163 + ks) mL_law 339 [.retAddr 2, .ref 0, .ref 47, .int (nI i)] [] (LAY rf tl) mem Q := by
  obtain ⟨σ, n, t, w, nt, T, so, sz, it, tn, tp, kp, τ, nk, tk, wk, hC, hM, hP⟩ := hI
  obtain ⟨c1, c2, c3, ⟨c4, c5⟩, c6, c7⟩ := id hC
  obtain ⟨p1, p2, p3, p4, p5, p6⟩ := id hP
  have hnt := c2.2.2.1
  refine s_aload_n (pc' := 340) dL_law_339 rfl lg1 rfl ?_
  refine s_invV (kc1 := 2) (ks1 := 163) (kc := kc) (ks := ks) (d2 := d - 1) (pc' := 343) dL_law_340 rfl okX6_text lkL_37 inX6_text seX6_text (by omega) rfl rfl rfl rfl ly0 rfl (Nat.le_of_ble_eq_true rfl) (Nat.le_of_ble_eq_true rfl) (m_X6_text (tp := tp) (sz := tn) (nt := nt) (T := T) (by omega) p4 c2 c4 c5 p5 (fun h6 => ?_) (fun q6 hf m1 e1 e2 => ?_) (fun q6 hf rf' tl' m1 e1 e2 e3 _ => ?_))
  · have eN : txN tp tn nt = nt := by unfold txN; rw [if_neg (fun h => absurd h.1 (by omega))]
    have eT : txT tp tn nt T = T := by unfold txT; rw [if_neg (fun h => absurd h.1 (by omega))]
    have eZ : txZ tn nt = tn := by unfold txZ; rw [if_neg (by omega)]
    have eR : (-4 : Int32) = txR tp tn nt := by unfold txR; rw [if_neg (by omega)]
    exact c5_tail (x := -4) (tp := tp) (tn := tn) (nt := nt) (T := T) hdd eR (by rw [eN, eT, eZ]; exact hC) hM hP (K rf tl)
  · have eN : txN tp tn nt = nt := by unfold txN; rw [if_neg (fun h => hf h.2)]
    have eT : txT tp tn nt T = T := by unfold txT; rw [if_neg (fun h => hf h.2)]
    have eZ : txZ tn nt = 0 := by unfold txZ; rw [if_pos q6]
    have eR : -100 - (rs4 tp tn).2.2 = txR tp tn nt := by unfold txR; rw [if_pos q6, if_neg hf]
    have hk : kC mem m1 → False ∨ True := fun _ => Or.inr trivial
    refine c5_tail (x := -100 - (rs4 tp tn).2.2) (tp := tp) (tn := tn) (nt := nt) (T := T) hdd eR ?_ (hM.keep (kM.of (fun j q1 q2 => e2 j (by omega) (by omega)))) hP (K rf tl)
    rw [eN, eT, eZ]
    exact ⟨c1.kept (fun j q1 q2 => e2 j (by omega) (by omega)), c2.kept (fun j q => e2 j (by omega) (by omega)), c3.kept (fun j q1 q2 => e2 j (by omega) (by omega)), ⟨e1, fun i hi => absurd hi (by omega)⟩, by rw [e2 0 (by decide) (by decide)]; exact c6, fun q => (c7 q).kept (fun j q1 q2 => e2 j (by omega) (by omega))⟩
  · have eN : txN tp tn nt = nt + 1 := by unfold txN; rw [if_pos ⟨q6, hf⟩]
    have eT : txT tp tn nt T = (fun w => if w = nt then txP tp tn else T w) := by unfold txT; rw [if_pos ⟨q6, hf⟩]
    have eZ : txZ tn nt = 0 := by unfold txZ; rw [if_pos q6]
    have eR : nI nt = txR tp tn nt := by unfold txR; rw [if_pos q6, if_pos hf]
    refine c5_tail (x := nI nt) (tp := tp) (tn := tn) (nt := nt) (T := T) hdd eR ?_ (hM.keep (kM.of (fun j q1 q2 => e2 j (by omega) (by omega) (by omega) (by omega)))) hP (K rf' tl')
    rw [eN, eT, eZ]
    exact ⟨c1.kept (fun j q1 q2 => e2 j (by omega) (by omega) (by omega) (by omega)), e3, c3.kept (fun j q1 q2 => e2 j (by omega) (by omega) (by omega) (by omega)), ⟨e1, fun i hi => absurd hi (by omega)⟩, by rw [e2 0 (by decide) (by decide) (by decide) (by decide)]; exact c6, fun q => (c7 q).kept (fun j q1 q2 => e2 j (by omega) (by omega) (by omega) (by omega))⟩
theorem lw_gt {i SL : Nat} (hi : i ≤ 4000) (hS : SL ≤ 4000) : nI SL - 6 < nI i ↔ SL < i + 6 := by
  rw [Int32.lt_iff_toInt_lt, show (nI SL - 6).toInt = (SL : Int) - (6 : Nat) from pk_sub_toInt (a := SL) (b := 6) (by omega) (by omega), nI_toInt (n := i) (by omega)]
  omega
theorem lw_31 (x : Int32) : ∃ c, c < 32 ∧ x &&& 31 = nI c := by
  refine ⟨x.toBitVec.toNat % 32, Nat.mod_lt _ (by decide), ?_⟩
  apply Int32.toBitVec_inj.mp
  apply BitVec.eq_of_toNat_eq
  rw [Int32.toBitVec_and, BitVec.toNat_and, show ((31 : Int32).toBitVec).toNat = 2 ^ 5 - 1 from by decide, Nat.and_two_pow_sub_one_eq_mod]
  unfold nI
  rw [Int32.toBitVec_ofNat', BitVec.toNat_ofNat]
  omega
set_option maxHeartbeats 8000000 in
theorem lw_sw {z : Zz} {d kc ks i : Nat} {rf : Nat → Value} {tl : Lay} {mem : Mem} {Q : Option Value → Lay → Mem → Prop} (hdd : 60 ≤ d) (hSL : z.2.1 ≤ 3072) (hi : i + 6 ≤ z.2.1) (hI : INV rf tl mem) (K : ∀ rf' tl' mem', INV rf' tl' mem' → Sim z d kc ks mL_law 1103 [.retAddr 2, .ref 0, .ref 47, .int (nI i)] [] (LAY rf' tl') mem' Q) {c : Nat} (hc : c < 32) : Sim z d (2 + kc) (163 + ks) mL_law 33 [.retAddr 2, .ref 0, .ref 47, .int (nI i)] [.int (nI c)] (LAY rf tl) mem Q := by
  have nw : ∀ mem', INV rf tl mem' → Sim z d (2 + kc) (163 + ks) mL_law 1103 [.retAddr 2, .ref 0, .ref 47, .int (nI i)] [] (LAY rf tl) mem' Q := fun mem' h => s_wide (a := 2) (b := 163) (K rf tl mem' h)
  rcases (by omega : c = 0 ∨ c = 1 ∨ c = 2 ∨ c = 3 ∨ c = 4 ∨ c = 5 ∨ c = 6 ∨ c = 7 ∨ c = 8 ∨ c = 9 ∨ c = 10 ∨ c = 11 ∨ c = 12 ∨ c = 13 ∨ c = 14 ∨ c = 15 ∨ c = 16 ∨ c = 17 ∨ c = 18 ∨ c = 19 ∨ c = 20 ∨ c = 21 ∨ c = 22 ∨ c = 23 ∨ c = 24 ∨ c = 25 ∨ c = 26 ∨ c = 27 ∨ c = 28 ∨ (28 < c ∧ c < 32)) with rfl | rfl | rfl | rfl | rfl | rfl | rfl | rfl | rfl | rfl | rfl | rfl | rfl | rfl | rfl | rfl | rfl | rfl | rfl | rfl | rfl | rfl | rfl | rfl | rfl | rfl | rfl | rfl | rfl | h28
  · refine s_tsIn (off := 131) (tgt := 164) dL_law_33 (by decide) (by decide) (by decide) (by decide) ?_
    exact lw_c0 hdd hSL hi hI nw
  · refine s_tsIn (off := 174) (tgt := 207) dL_law_33 (by decide) (by decide) (by decide) (by decide) ?_
    exact lw_c1 hdd hSL hi hI nw
  · refine s_tsIn (off := 227) (tgt := 260) dL_law_33 (by decide) (by decide) (by decide) (by decide) ?_
    exact lw_c2 hdd hSL hi hI nw
  · refine s_tsIn (off := 260) (tgt := 293) dL_law_33 (by decide) (by decide) (by decide) (by decide) ?_
    exact lw_c3 hdd hSL hi hI nw
  · refine s_tsIn (off := 283) (tgt := 316) dL_law_33 (by decide) (by decide) (by decide) (by decide) ?_
    exact lw_c4 hdd hSL hi hI nw
  · refine s_tsIn (off := 306) (tgt := 339) dL_law_33 (by decide) (by decide) (by decide) (by decide) ?_
    exact lw_c5 hdd hI K
  · refine s_tsIn (off := 319) (tgt := 352) dL_law_33 (by decide) (by decide) (by decide) (by decide) ?_
    exact lw_c6 hdd hSL hi hI nw
  · refine s_tsIn (off := 342) (tgt := 375) dL_law_33 (by decide) (by decide) (by decide) (by decide) ?_
    exact lw_c7 hdd hSL hi hI nw
  · refine s_tsIn (off := 355) (tgt := 388) dL_law_33 (by decide) (by decide) (by decide) (by decide) ?_
    exact lw_c8 hdd hSL hi hI nw
  · refine s_tsIn (off := 398) (tgt := 431) dL_law_33 (by decide) (by decide) (by decide) (by decide) ?_
    exact lw_c9 hdd hSL hi hI nw
  · refine s_tsIn (off := 421) (tgt := 454) dL_law_33 (by decide) (by decide) (by decide) (by decide) ?_
    exact lw_c10 hdd hSL hi hI nw
  · refine s_tsIn (off := 454) (tgt := 487) dL_law_33 (by decide) (by decide) (by decide) (by decide) ?_
    exact lw_c11 hdd hSL hi hI nw
  · refine s_tsIn (off := 477) (tgt := 510) dL_law_33 (by decide) (by decide) (by decide) (by decide) ?_
    exact lw_c12 hdd hSL hi hI nw
  · refine s_tsIn (off := 500) (tgt := 533) dL_law_33 (by decide) (by decide) (by decide) (by decide) ?_
    exact lw_c13 hdd hSL hi hI nw
  · refine s_tsIn (off := 533) (tgt := 566) dL_law_33 (by decide) (by decide) (by decide) (by decide) ?_
    exact lw_c14 hdd hSL hi hI nw
  · refine s_tsIn (off := 556) (tgt := 589) dL_law_33 (by decide) (by decide) (by decide) (by decide) ?_
    exact lw_c15 hdd hSL hi hI nw
  · refine s_tsIn (off := 589) (tgt := 622) dL_law_33 (by decide) (by decide) (by decide) (by decide) ?_
    exact lw_c16 hdd hSL hi hI nw
  · refine s_tsIn (off := 613) (tgt := 646) dL_law_33 (by decide) (by decide) (by decide) (by decide) ?_
    exact lw_c17 hdd hSL hi hI nw
  · refine s_tsIn (off := 656) (tgt := 689) dL_law_33 (by decide) (by decide) (by decide) (by decide) ?_
    exact lw_c18 hdd hSL hi hI nw
  · refine s_tsIn (off := 699) (tgt := 732) dL_law_33 (by decide) (by decide) (by decide) (by decide) ?_
    exact lw_c19 hdd hSL hi hI nw
  · refine s_tsIn (off := 732) (tgt := 765) dL_law_33 (by decide) (by decide) (by decide) (by decide) ?_
    exact lw_c20 hdd hSL hi hI nw
  · refine s_tsIn (off := 786) (tgt := 819) dL_law_33 (by decide) (by decide) (by decide) (by decide) ?_
    exact lw_c21 hdd hSL hi hI nw
  · refine s_tsIn (off := 799) (tgt := 832) dL_law_33 (by decide) (by decide) (by decide) (by decide) ?_
    exact lw_c22 hdd hSL hi hI nw
  · refine s_tsIn (off := 812) (tgt := 845) dL_law_33 (by decide) (by decide) (by decide) (by decide) ?_
    exact lw_c23 hdd hSL hi hI nw
  · refine s_tsIn (off := 835) (tgt := 868) dL_law_33 (by decide) (by decide) (by decide) (by decide) ?_
    exact lw_c24 hdd hSL hi hI nw
  · refine s_tsIn (off := 878) (tgt := 911) dL_law_33 (by decide) (by decide) (by decide) (by decide) ?_
    exact lw_c25 hdd hSL hi hI nw
  · refine s_tsIn (off := 921) (tgt := 954) dL_law_33 (by decide) (by decide) (by decide) (by decide) ?_
    exact lw_c26 hdd hSL hi hI nw
  · refine s_tsIn (off := 984) (tgt := 1017) dL_law_33 (by decide) (by decide) (by decide) (by decide) ?_
    exact lw_c27 hdd hSL hi hI nw
  · refine s_tsIn (off := 1037) (tgt := 1070) dL_law_33 (by decide) (by decide) (by decide) (by decide) ?_
    exact lw_c28 hdd hSL hi hI nw
  · refine s_tsOut (tgt := 1103) dL_law_33 (Or.inr ?_) (by decide) (nw mem hI)
    rw [nI_toInt (by omega)]; omega
set_option maxHeartbeats 4000000 in
theorem lw_loop {z : Zz} {d : Nat} {Q : Option Value → Lay → Mem → Prop} (hdd : 60 ≤ d) (hSL : z.2.1 ≤ 3072) (hQ : ∀ lay mem, Q (some (.int 1)) lay mem) : ∀ (k i : Nat) (rf : Nat → Value) (tl : Lay) (mem : Mem), z.2.1 < i + 6 * k + 6 → i ≤ 3072 → INV rf tl mem → Sim z d (2 * k) (163 * k) mL_law 18 [.retAddr 2, .ref 0, .ref 47, .int (nI i)] [] (LAY rf tl) mem Q := by
  intro k
  induction k with
  | zero =>
    intro i rf tl mem h1 h2 hI
    refine s_iload_n (pc' := 19) dL_law_18 rfl lg3 ?_
    refine s_aload_n (pc' := 20) dL_law_19 rfl lg0 rfl ?_
    refine s_tlen2 (pc' := 21) dL_law_20 rfl ?_
    refine s_bipush (pc' := 23) dL_law_21 rfl bipush_6 ?_
    refine s_isub (pc' := 24) dL_law_23 rfl ?_
    refine s_icmp_gt (pc' := 27) (tgt := 1109) dL_law_24 rfl (by decide) (fun _ => ?_) (fun h => absurd ((lw_gt (by omega) (by omega)).mpr (by omega)) h)
    refine s_iconst (pc' := 1110) dL_law_1109 rfl iconst_1 ?_
    exact s_iret dL_law_1110 rfl (by decide) (hQ _ _)
  | succ k ih =>
    intro i rf tl mem h1 h2 hI
    refine s_iload_n (pc' := 19) dL_law_18 rfl lg3 ?_
    refine s_aload_n (pc' := 20) dL_law_19 rfl lg0 rfl ?_
    refine s_tlen2 (pc' := 21) dL_law_20 rfl ?_
    refine s_bipush (pc' := 23) dL_law_21 rfl bipush_6 ?_
    refine s_isub (pc' := 24) dL_law_23 rfl ?_
    refine s_icmp_gt (pc' := 27) (tgt := 1109) dL_law_24 rfl (by decide) (fun _ => ?_) (fun h => ?_)
    · refine s_iconst (pc' := 1110) dL_law_1109 rfl iconst_1 ?_
      exact s_iret dL_law_1110 rfl (by decide) (hQ _ _)
    · have hi : i + 6 ≤ z.2.1 := by
        rcases Nat.lt_or_ge z.2.1 (i + 6) with q | q
        · exact absurd ((lw_gt (by omega) (by omega)).mpr q) h
        · exact q
      obtain ⟨i0, i1, i2, i3, i4, i5⟩ := lwi hSL hi
      refine s_aload_n (pc' := 28) dL_law_27 rfl lg0 rfl ?_
      refine s_iload_n (pc' := 29) dL_law_28 rfl lg3 ?_
      refine s_tald2 (pc' := 30) dL_law_29 rfl i0 ?_
      refine s_bipush (pc' := 32) dL_law_30 rfl bipush_31 ?_
      refine s_iand (pc' := 33) dL_law_32 rfl ?_
      generalize z.2.2 (nI i).toNatClampNeg = x
      obtain ⟨c, hc, ec⟩ := lw_31 x
      rw [ec, show 2 * (k + 1) = 2 + 2 * k from by omega, show 163 * (k + 1) = 163 + 163 * k from by omega]
      refine lw_sw hdd hSL hi hI (fun rf' tl' mem' hI' => ?_) hc
      refine s_iinc (v := nI (i + 6)) (pc' := 1106) dL_law_1103 rfl lg3 rfl (by rw [← nI_add]; rfl) ls3 ?_
      refine s_goto (tgt := 18) dL_law_1106 (by decide) ?_
      exact ih (i + 6) rf' tl' mem' (by omega) (by omega) hI'

theorem va_end {f : Nat → Value} {l : List Value} {N : Nat} (h1 : ∀ k, k < N → f k = rl l k) (h2 : ∀ k, N ≤ k → f k = .null) (h3 : l.length ≤ N) : f = rl l := by
  funext k
  rcases Nat.lt_or_ge k N with q | q
  · exact h1 k q
  · rw [h2 k q]
    unfold rl
    rw [List.getD_eq_getElem?_getD, List.getElem?_eq_none (by omega)]; rfl
theorem vR0 : va_up (va_up (va_up (va_up (va_up (va_up (va_up (NUL) 0 (.ref 1)) 1 (.ref 7)) 2 (.ref 10)) 3 (.ref 18)) 4 (.ref 26)) 5 (.ref 34)) 6 (.ref 38) = R0 := by
  refine va_end (N := 7) (fun k hk => ?_) (fun k hk => ?_) (by decide)
  · rcases (by omega : k = 0 ∨ k = 1 ∨ k = 2 ∨ k = 3 ∨ k = 4 ∨ k = 5 ∨ k = 6) with rfl | rfl | rfl | rfl | rfl | rfl | rfl <;> rfl
  · unfold va_up NUL; repeat rw [if_neg (by omega)]
theorem vR1 : va_up (va_up (va_up (NUL) 0 (.ref 2)) 1 (.ref 3)) 2 (.ref 4) = R1 := by
  refine va_end (N := 3) (fun k hk => ?_) (fun k hk => ?_) (by decide)
  · rcases (by omega : k = 0 ∨ k = 1 ∨ k = 2) with rfl | rfl | rfl <;> rfl
  · unfold va_up NUL; repeat rw [if_neg (by omega)]
theorem vR5 : va_up (NUL) 0 (.ref 6) = R5 := by
  refine va_end (N := 1) (fun k hk => ?_) (fun k hk => ?_) (by decide)
  · rcases (by omega : k = 0) with rfl <;> rfl
  · unfold va_up NUL; repeat rw [if_neg (by omega)]
theorem vR7 : va_up (va_up (NUL) 0 (.ref 8)) 3 (.ref 9) = R7 := by
  refine va_end (N := 4) (fun k hk => ?_) (fun k hk => ?_) (by decide)
  · rcases (by omega : k = 0 ∨ k = 1 ∨ k = 2 ∨ k = 3) with rfl | rfl | rfl | rfl <;> rfl
  · unfold va_up NUL; repeat rw [if_neg (by omega)]
theorem vRS10 : va_up (va_up (va_up (va_up (va_up (va_up (va_up (va_up (NUL) 1 (.ref 11)) 2 (.ref 12)) 3 (.ref 13)) 4 (.ref 14)) 5 (.ref 15)) 6 (.ref 16)) 7 (.ref 17)) 0 (.ref 1) = RS 10 := by
  refine va_end (N := 8) (fun k hk => ?_) (fun k hk => ?_) (by decide)
  · rcases (by omega : k = 0 ∨ k = 1 ∨ k = 2 ∨ k = 3 ∨ k = 4 ∨ k = 5 ∨ k = 6 ∨ k = 7) with rfl | rfl | rfl | rfl | rfl | rfl | rfl | rfl <;> rfl
  · unfold va_up NUL; repeat rw [if_neg (by omega)]
theorem vRS18 : va_up (va_up (va_up (va_up (va_up (va_up (va_up (va_up (NUL) 1 (.ref 19)) 2 (.ref 20)) 3 (.ref 21)) 4 (.ref 22)) 5 (.ref 23)) 6 (.ref 24)) 7 (.ref 25)) 0 (.ref 1) = RS 18 := by
  refine va_end (N := 8) (fun k hk => ?_) (fun k hk => ?_) (by decide)
  · rcases (by omega : k = 0 ∨ k = 1 ∨ k = 2 ∨ k = 3 ∨ k = 4 ∨ k = 5 ∨ k = 6 ∨ k = 7) with rfl | rfl | rfl | rfl | rfl | rfl | rfl | rfl <;> rfl
  · unfold va_up NUL; repeat rw [if_neg (by omega)]
theorem vRS26 : va_up (va_up (va_up (va_up (va_up (va_up (va_up (va_up (NUL) 1 (.ref 27)) 2 (.ref 28)) 3 (.ref 29)) 4 (.ref 30)) 5 (.ref 31)) 6 (.ref 32)) 7 (.ref 33)) 0 (.ref 1) = RS 26 := by
  refine va_end (N := 8) (fun k hk => ?_) (fun k hk => ?_) (by decide)
  · rcases (by omega : k = 0 ∨ k = 1 ∨ k = 2 ∨ k = 3 ∨ k = 4 ∨ k = 5 ∨ k = 6 ∨ k = 7) with rfl | rfl | rfl | rfl | rfl | rfl | rfl | rfl <;> rfl
  · unfold va_up NUL; repeat rw [if_neg (by omega)]
theorem vR34 : va_up (va_up (va_up (NUL) 0 (.ref 35)) 1 (.ref 36)) 2 (.ref 37) = R34 := by
  refine va_end (N := 3) (fun k hk => ?_) (fun k hk => ?_) (by decide)
  · rcases (by omega : k = 0 ∨ k = 1 ∨ k = 2) with rfl | rfl | rfl <;> rfl
  · unfold va_up NUL; repeat rw [if_neg (by omega)]
theorem vR38 : va_up (va_up (va_up (va_up (NUL) 0 (.ref 39)) 1 (.ref 41)) 2 (.ref 43)) 3 (.ref 45) = R38 := by
  refine va_end (N := 4) (fun k hk => ?_) (fun k hk => ?_) (by decide)
  · rcases (by omega : k = 0 ∨ k = 1 ∨ k = 2 ∨ k = 3) with rfl | rfl | rfl | rfl <;> rfl
  · unfold va_up NUL; repeat rw [if_neg (by omega)]
theorem vRR0 : va_up (NUL) 0 (.ref 40) = RR 0 := by
  refine va_end (N := 1) (fun k hk => ?_) (fun k hk => ?_) (by decide)
  · rcases (by omega : k = 0) with rfl <;> rfl
  · unfold va_up NUL; repeat rw [if_neg (by omega)]
theorem vRR1 : va_up (NUL) 0 (.ref 42) = RR 1 := by
  refine va_end (N := 1) (fun k hk => ?_) (fun k hk => ?_) (by decide)
  · rcases (by omega : k = 0) with rfl <;> rfl
  · unfold va_up NUL; repeat rw [if_neg (by omega)]
theorem vRR2 : va_up (NUL) 0 (.ref 44) = RR 2 := by
  refine va_end (N := 1) (fun k hk => ?_) (fun k hk => ?_) (by decide)
  · rcases (by omega : k = 0) with rfl <;> rfl
  · unfold va_up NUL; repeat rw [if_neg (by omega)]
theorem vRR3 : va_up (NUL) 0 (.ref 46) = RR 3 := by
  refine va_end (N := 1) (fun k hk => ?_) (fun k hk => ?_) (by decide)
  · rcases (by omega : k = 0) with rfl <;> rfl
  · unfold va_up NUL; repeat rw [if_neg (by omega)]
theorem vR47 : va_up (va_up (va_up (va_up (va_up (va_up (va_up (va_up (va_up (va_up (va_up (va_up (va_up (va_up (va_up (va_up (va_up (va_up (va_up (NUL) 0 (.ref (47 + 1))) 1 (.ref (47 + 2))) 2 (.ref (47 + 3))) 4 (.ref (47 + 4))) 10 (.ref (47 + 5))) 11 (.ref (47 + 6))) 14 (.ref (47 + 7))) 15 (.ref (47 + 8))) 17 (.ref (47 + 9))) 18 (.ref (47 + 10))) 19 (.ref (47 + 11))) 20 (.ref (47 + 12))) 21 (.ref (47 + 13))) 24 (.ref (47 + 14))) 25 (.ref (47 + 15))) 26 (.ref (47 + 16))) 27 (.ref (47 + 17))) 28 (.ref (47 + 18))) 29 (.ref (47 + 19)) = R47 := by
  refine va_end (N := 30) (fun k hk => ?_) (fun k hk => ?_) (by decide)
  · rcases (by omega : k = 0 ∨ k = 1 ∨ k = 2 ∨ k = 3 ∨ k = 4 ∨ k = 5 ∨ k = 6 ∨ k = 7 ∨ k = 8 ∨ k = 9 ∨ k = 10 ∨ k = 11 ∨ k = 12 ∨ k = 13 ∨ k = 14 ∨ k = 15 ∨ k = 16 ∨ k = 17 ∨ k = 18 ∨ k = 19 ∨ k = 20 ∨ k = 21 ∨ k = 22 ∨ k = 23 ∨ k = 24 ∨ k = 25 ∨ k = 26 ∨ k = 27 ∨ k = 28 ∨ k = 29) with rfl | rfl | rfl | rfl | rfl | rfl | rfl | rfl | rfl | rfl | rfl | rfl | rfl | rfl | rfl | rfl | rfl | rfl | rfl | rfl | rfl | rfl | rfl | rfl | rfl | rfl | rfl | rfl | rfl | rfl <;> rfl
  · unfold va_up NUL; repeat rw [if_neg (by omega)]
theorem lay_fin : lay6 ++ [(7, 30, va_up (va_up (va_up (va_up (va_up (va_up (va_up (va_up (va_up (va_up (va_up (va_up (va_up (va_up (va_up (va_up (va_up (va_up (va_up (NUL) 0 (.ref (47 + 1))) 1 (.ref (47 + 2))) 2 (.ref (47 + 3))) 4 (.ref (47 + 4))) 10 (.ref (47 + 5))) 11 (.ref (47 + 6))) 14 (.ref (47 + 7))) 15 (.ref (47 + 8))) 17 (.ref (47 + 9))) 18 (.ref (47 + 10))) 19 (.ref (47 + 11))) 20 (.ref (47 + 12))) 21 (.ref (47 + 13))) 24 (.ref (47 + 14))) 25 (.ref (47 + 15))) 26 (.ref (47 + 16))) 27 (.ref (47 + 17))) 28 (.ref (47 + 18))) 29 (.ref (47 + 19))), (8, 43, NUL), (8, 43, NUL), (8, 43, NUL), (8, 160, NUL), (8, 960, NUL), (8, 18, NUL), (9, 84, NUL), (8, 160, NUL), (8, 160, NUL), (8, 8, NUL), (8, 8, NUL), (8, 8, NUL), (8, 9, NUL), (8, 4, NUL), (8, 4, NUL), (8, 160, NUL), (8, 40, NUL), (8, 6, NUL), (10, 100, NUL)] = LAY (va_up NUL 0 (.ref 5)) [] := by
  unfold lay6 LAY
  rw [vR0, vR1, vR5, vR7, vRS10, vRS18, vRS26, vR34, vR38, vRR0, vRR1, vRR2, vRR3, vR47]; rfl
theorem s_lay {z : Zz} {d kc ks : Nat} {mi : MI} {pc : Nat} {L S : List Value} {lay lay' : Lay} {mem : Mem} {Q : Option Value → Lay → Mem → Prop} (h : lay = lay') (K : Sim z d kc ks mi pc L S lay' mem Q) : Sim z d kc ks mi pc L S lay mem Q := by rw [h]; exact K
def T00 : Nat → Nat → List Int32 := fun _ p => if p = 0 then [2] else [1]
theorem T00_p {p : Nat} (w : Nat) (h : p < 3) : (p = 0 ∧ T00 w p = [2]) ∨ (p = 1 ∧ T00 w p = [1]) ∨ (p = 2 ∧ T00 w p = [1]) := by
  rcases (by omega : p = 0 ∨ p = 1 ∨ p = 2) with rfl | rfl | rfl
  · exact Or.inl ⟨rfl, rfl⟩
  · exact Or.inr (Or.inl ⟨rfl, rfl⟩)
  · exact Or.inr (Or.inr ⟨rfl, rfl⟩)
theorem inv_0 {M B : Mem} (a1 : M 0 7 = 0) (a2 : M 1 3 = 1) (a3 : M 5 1 = 1) (a4 : M 5 2 = 2) (a5 : M 6 0 = 2) (a6 : M 6 1 = 1) (a7 : M 6 2 = 1) (a8 : M 7 1 = 0) (a9 : M 10 8 = 0) (a10 : M 10 9 = 0) (a11 : M 10 10 = 0) (a12 : M 39 1 = -1) (a13 : M 39 2 = 0) (a14 : M 41 1 = -1) (a15 : M 41 2 = 0) (a16 : M 43 1 = -1) (a17 : M 43 2 = 0) (a18 : M 45 1 = -1) (a19 : M 45 2 = 0)
    (f : ∀ j, j < 47 → B j = M j) (b1 : B 48 = fun _ => 0) (b2 : B 52 0 = 2) (b3 : B 52 1 = 1) (b4 : B 52 2 = 1) (b5 : B 53 0 = 1) (b6 : B 53 1 = 2) (b7 : B 53 2 = 3) (b8 : B 54 = gN 84) (b9 : B 60 = fun _ => 0) (b10 : B 61 0 = -1) (b11 : B 61 1 = -1) (b12 : B 61 2 = -1) (b13 : B 61 3 = -1) (b14 : B 62 = fun _ => 0) (b15 : B 65 0 = -1) (b16 : B 65 1 = 0) (b17 : B 65 2 = 0) (b18 : B 65 3 = 1) (b19 : B 65 4 = 2) (b20 : B 65 5 = 0) (b21 : B 47 12 = 1) (b22 : B 47 3 = 0) (b23 : B 47 5 = 0) : INV (va_up NUL 0 (.ref 5)) [] B := by
  refine ⟨fun _ _ => 0, 0, 0, 0, 1, T00, fun _ => -1, fun _ => 0, fun _ _ => 0, 0, fun _ => 0, false, fun _ _ => 0, 0, 0, 0, ⟨⟨?_, by decide, ?_, ?_, fun i hi => absurd hi (by omega)⟩, ⟨?_, by decide, by decide, fun w hw => ?_⟩, fun j hj => ?_, ⟨?_, fun i hi => absurd hi (by omega)⟩, ?_, fun q => absurd q (by decide)⟩, ⟨⟨?_, by decide, ?_, ?_, fun i hi => absurd hi (by omega)⟩, ⟨?_, by decide, by decide, fun w hw => ?_⟩, fun j hj => ?_, ⟨?_, fun i hi => absurd hi (by omega)⟩, ?_, fun q => absurd q (by decide), fun k hk => ?_, fun j hj => ?_, fun j hj => ?_⟩, fun i hi => absurd hi (by omega), by decide, by decide, by decide, fun i hi => absurd hi (by omega), fun q => absurd q (by decide)⟩
  · rw [f 10 (by decide), a9]; decide
  · rw [f 10 (by decide), a10]; decide
  · rw [f 10 (by decide), a11]; decide
  · rw [f 1 (by decide), a2]; decide
  · obtain rfl : w = 0 := by omega
    refine ⟨5, 6, 3, R5, NUL, rfl, ly5, rfl, ly6, Or.inl rfl, Or.inl rfl, by decide, rfl, ?_, ?_, fun k hk => ?_, fun p hp => ?_⟩
    · rw [f 5 (by decide), a3]; decide
    · rw [f 5 (by decide), a4]; decide
    · rw [f 6 (by decide)]
      rcases (by omega : k = 0 ∨ k = 1 ∨ k = 2) with rfl | rfl | rfl
      · rw [a5]; decide
      · rw [a6]; decide
      · rw [a7]; decide
    · rcases T00_p 0 hp with ⟨-, e⟩ | ⟨-, e⟩ | ⟨-, e⟩ <;> rw [e] <;> decide
  · rcases (by omega : j = 0 ∨ j = 1 ∨ j = 2 ∨ j = 3) with rfl | rfl | rfl | rfl
    · exact ⟨(congrFun (f 39 (by decide)) 1).trans a12, (congrFun (f 39 (by decide)) 2).trans (a13.trans (by decide)), by decide, fun k hk => absurd hk (Nat.not_lt_zero k)⟩
    · exact ⟨(congrFun (f 41 (by decide)) 1).trans a14, (congrFun (f 41 (by decide)) 2).trans (a15.trans (by decide)), by decide, fun k hk => absurd hk (Nat.not_lt_zero k)⟩
    · exact ⟨(congrFun (f 43 (by decide)) 1).trans a16, (congrFun (f 43 (by decide)) 2).trans (a17.trans (by decide)), by decide, fun k hk => absurd hk (Nat.not_lt_zero k)⟩
    · exact ⟨(congrFun (f 45 (by decide)) 1).trans a18, (congrFun (f 45 (by decide)) 2).trans (a19.trans (by decide)), by decide, fun k hk => absurd hk (Nat.not_lt_zero k)⟩
  · rw [f 7 (by decide), a8]; decide
  · rw [f 0 (by decide), a1]; rfl
  · rw [b1]; decide
  · rw [b1]; decide
  · rw [b1]; decide
  · rw [b21]; decide
  · obtain rfl : w = 0 := by omega
    refine ⟨fun p hp => ?_, fun p hp => ?_, by decide, fun p hp k hk => ?_⟩
    · rcases (by omega : p = 0 ∨ p = 1 ∨ p = 2) with rfl | rfl | rfl
      · exact b5.trans (by decide)
      · exact b6.trans (by decide)
      · exact b7.trans (by decide)
    · rcases T00_p 0 hp with ⟨-, e⟩ | ⟨-, e⟩ | ⟨-, e⟩ <;> rw [e] <;> decide
    · rcases (by omega : p = 0 ∨ p = 1 ∨ p = 2) with rfl | rfl | rfl
      · obtain rfl : k = 0 := by have : k < 1 := hk; omega
        exact b2.trans (by decide)
      · obtain rfl : k = 0 := by have : k < 1 := hk; omega
        exact b3.trans (by decide)
      · obtain rfl : k = 0 := by have : k < 1 := hk; omega
        exact b4.trans (by decide)
  · refine ⟨?_, by rw [b14]; exact (by decide : (0 : Int32) = nI 0), Nat.zero_le _, fun k hk => absurd hk (Nat.not_lt_zero k)⟩
    rcases (by omega : j = 0 ∨ j = 1 ∨ j = 2 ∨ j = 3) with rfl | rfl | rfl | rfl
    · exact b10
    · exact b11
    · exact b12
    · exact b13
  · rw [b23]; decide
  · rw [b22]; rfl
  · rw [b8]; unfold gN; rw [if_pos hk]
  · rcases (by omega : j = 0 ∨ j = 1 ∨ j = 2 ∨ j = 3 ∨ j = 4 ∨ j = 5) with rfl | rfl | rfl | rfl | rfl | rfl
    · rw [b15]; decide
    · rw [b16]; decide
    · rw [b17]; decide
    · rw [b18]; decide
    · rw [b19]; decide
    · rw [b20]; decide
  · rw [b9]
set_option maxHeartbeats 4000000 in
theorem lw_sim {z : Zz} {d : Nat} {Q : Option Value → Lay → Mem → Prop} {mem : Mem} (hdd : 60 ≤ d) (hSL : z.2.1 ≤ 3072) (hQ : ∀ lay mem, Q (some (.int 1)) lay mem) : Sim z d 1091 86428 mL_law 0 [.retAddr 2, .float 0, .float 0, .float 0] [] [] mem Q := by
  refine s_newN (kc := 1090) (ks := 86420) (nn := 0) (lay' := [(6, 8, NUL)]) (pc' := 3) dL_law_0 rfl nkL_7 rfl rfl ?_
  refine s_dup (pc' := 4) dL_law_3 rfl rfl ?_
  refine s_invI (kc1 := 46) (ks1 := 916) (kc := 1044) (ks := 85504) (d2 := d - 1) (pc' := 7) dL_law_4 rfl okX6_init rfl rfl lkL_9 inX6_init (by omega) rfl rfl rfl rfl (Nat.le_of_ble_eq_true rfl) (Nat.le_of_ble_eq_true rfl) (m_X6_init (by omega) (fun M a1 a2 a3 a4 a5 a6 a7 a8 a9 a10 a11 a12 a13 a14 a15 a16 a17 a18 a19 => ?_))
  show Sim z d 1044 85504 mL_law 7 [.retAddr 2, .float 0, .float 0, .float 0] [.ref 0] lay6 M Q
  refine s_astore_n (pc' := 8) dL_law_7 rfl rfl (Nat.le_of_ble_eq_true rfl) rfl ls1 ?_
  refine s_newN (kc := 1043) (ks := 85474) (nn := 47) (lay' := lay6 ++ [(7, 30, NUL)]) (pc' := 11) dL_law_8 rfl nkL_10 rfl rfl ?_
  refine s_dup (pc' := 12) dL_law_11 rfl rfl ?_
  refine s_invI (kc1 := 19) (ks1 := 2018) (kc := 1024) (ks := 83456) (d2 := d - 1) (pc' := 15) dL_law_12 rfl okX7_init rfl rfl lkL_12 inX7_init (by omega) rfl rfl rfl rfl (Nat.le_of_ble_eq_true rfl) (Nat.le_of_ble_eq_true rfl) (m_X7_init (l0 := lay6) (t := 47) (by omega) rfl nwE (fun B f b1 b2 b3 b4 b5 b6 b7 b8 b9 b10 b11 b12 b13 b14 b15 b16 b17 b18 b19 b20 b21 b22 b23 => ?_))
  have hI := inv_0 a1 a2 a3 a4 a5 a6 a7 a8 a9 a10 a11 a12 a13 a14 a15 a16 a17 a18 a19 (fun j hj => (f j hj).trans (nwN (by omega))) b1 b2 b3 b4 b5 b6 b7 b8 b9 b10 b11 b12 b13 b14 b15 b16 b17 b18 b19 b20 b21 b22 b23
  refine s_lay lay_fin ?_
  show Sim z d 1024 83456 mL_law 15 [.retAddr 2, .ref 0, .float 0, .float 0] [.ref 47] (LAY (va_up NUL 0 (.ref 5)) []) B Q
  refine s_astore_n (pc' := 16) dL_law_15 rfl rfl (Nat.le_of_ble_eq_true rfl) rfl ls2 ?_
  refine s_iconst (pc' := 17) dL_law_16 rfl iconst_0 ?_
  refine s_istore_n (pc' := 18) dL_law_17 rfl (Nat.le_of_ble_eq_true rfl) rfl ls3 ?_
  exact lw_loop hdd hSL hQ 512 0 _ _ B (by omega) (by omega) hI


