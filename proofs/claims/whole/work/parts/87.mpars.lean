/-! ===== the Model's reader: signs, numbers, deeds that wait ===== -/
def tokc (c : Nat) : Nat := if c = 40 then 12 else if c = 41 then 13 else if c = 59 then 14 else if c = 43 then 15 else if c = 45 then 16 else if c = 42 then 17 else if c = 60 then 18 else if c = 61 then 19 else 22
theorem sgT_c {c : Nat} (h : c < 256) : sgT c = tokc c := by
  have key : ∀ c : Fin 256, sgT c.1 = tokc c.1 := by decide +kernel
  exact key ⟨c, h⟩
theorem tok_0 {tp : Nat → Nat} {sz s : Nat} (h : srtN tp sz s = 0) : (nxs tp sz s).2.2.1 = 21 := by
  unfold srtN at h
  by_cases h1 : sz ≤ s
  · rw [show nxs tp sz s = (s, s, 21, 0) from by unfold nxs; rw [if_pos h1]]
  · rw [if_neg h1] at h
    split at h
    · omega
    · split at h <;> omega
theorem tok_2 {tp : Nat → Nat} {sz s : Nat} (h : srtN tp sz s = 2) : (nxs tp sz s).2.2.1 = (if 4 < (nxs tp sz s).1 - s then 22 else 20) ∧ (nxs tp sz s).2.2.2 = numN tp s ((nxs tp sz s).1 - s) ∧ s < (nxs tp sz s).1 ∧ ∀ i, i < (nxs tp sz s).1 - s → 48 ≤ tp (s + i) := by
  unfold srtN at h
  by_cases h1 : sz ≤ s
  · rw [if_pos h1] at h; omega
  rw [if_neg h1] at h
  by_cases h2 : isLt (tp s) = true
  · rw [if_pos h2] at h; omega
  rw [if_neg h2] at h
  by_cases h3 : isDg (tp s) = true
  · have e : nxs tp sz s = (rn (fun i => isDg (tp i)) (sz - s) s, s, if 4 < rn (fun i => isDg (tp i)) (sz - s) s - s then 22 else 20, numN tp s (rn (fun i => isDg (tp i)) (sz - s) s - s)) := by unfold nxs; rw [if_neg h1, if_neg h2, if_pos h3]
    rw [e]
    obtain ⟨k, hk⟩ : ∃ k, sz - s = k + 1 := ⟨sz - s - 1, by omega⟩
    have h4 : s + 1 ≤ rn (fun i => isDg (tp i)) (sz - s) s := by rw [hk, rn_t (p := fun i => isDg (tp i)) h3]; exact rn_ge
    refine ⟨rfl, rfl, h4, fun i hi => ?_⟩
    dsimp only at hi
    have e9 : isDg (tp (s + i)) = true := rn_in (p := fun i => isDg (tp i)) (k := sz - s) (a := s) (i := s + i) (by omega) (by omega)
    unfold isDg at e9
    simp only [Bool.and_eq_true, decide_eq_true_eq] at e9
    exact e9.1
  · rw [if_neg h3] at h; omega
theorem tok_3 {tp : Nat → Nat} {sz s : Nat} (h : srtN tp sz s = 3) : (nxs tp sz s).2.2.1 = sgT (tp s) ∧ s < sz := by
  unfold srtN at h
  by_cases h1 : sz ≤ s
  · rw [if_pos h1] at h; omega
  rw [if_neg h1] at h
  by_cases h2 : isLt (tp s) = true
  · rw [if_pos h2] at h; omega
  rw [if_neg h2] at h
  by_cases h3 : isDg (tp s) = true
  · rw [if_pos h3] at h; omega
  · have e : nxs tp sz s = (s + 1, s, sgT (tp s), 0) := by unfold nxs; rw [if_neg h1, if_neg h2, if_neg h3]
    refine ⟨?_, by omega⟩
    rw [e]
theorem wrdN_or {tp : Nat → Nat} {s len : Nat} : wrdN tp s len < 12 ∨ wrdN tp s len = 22 := by
  unfold wrdN
  generalize fk (wmB tp s len) 12 = q
  split
  · exact Or.inr rfl
  · split
    · rename_i h; exact Or.inl h
    · exact Or.inr rfl
/-- is the token the sign c, of token k? -/
def sgB (tp : Nat → Nat) (sz s c : Nat) : Bool := decide (srtN tp sz s = 3) && decide (tp s = c)
theorem sg_tok {tp : Nat → Nat} {sz s c k : Nat} (h256 : ∀ i, i < sz → tp i < 256) (hc : ∀ x, (tokc x = k) ↔ x = c) (hk : 12 ≤ k ∧ k ≤ 19) : sgB tp sz s c = decide ((nxs tp sz s).2.2.1 = k) := by
  have hs4 := srtN_le (tp := tp) (sz := sz) (i := s)
  unfold sgB
  have c4 : srtN tp sz s = 0 ∨ srtN tp sz s = 1 ∨ srtN tp sz s = 2 ∨ srtN tp sz s = 3 := by omega
  rcases c4 with h | h | h | h
  · rw [tok_0 h, h, decide_eq_false (show ¬ (0 = 3) by decide), Bool.false_and]
    exact (decide_eq_false (by omega)).symm
  · have t1 := (tok_1 h).1
    have w1 := wrdN_or (tp := tp) (s := s) (len := (nxs tp sz s).1 - s)
    rw [← t1] at w1
    rw [h, decide_eq_false (show ¬ (1 = 3) by decide), Bool.false_and]
    exact (decide_eq_false (by omega)).symm
  · have t1 := (tok_2 h).1
    have t2 : (nxs tp sz s).2.2.1 = 22 ∨ (nxs tp sz s).2.2.1 = 20 := by
      rw [t1]
      split
      · exact Or.inl rfl
      · exact Or.inr rfl
    rw [h, decide_eq_false (show ¬ (2 = 3) by decide), Bool.false_and]
    exact (decide_eq_false (by omega)).symm
  · obtain ⟨t1, t2⟩ := tok_3 h
    rw [t1, sgT_c (h256 s t2), decide_eq_true h, Bool.true_and]
    exact decide_eq_decide.mpr (hc (tp s)).symm
theorem tc (k c : Nat) (h : tokc c = k) (hu : ∀ x, x < 256 → tokc x = k → x = c) (hk : ¬ k = 22) : ∀ x, (tokc x = k) ↔ x = c := by
  intro x
  constructor
  · intro e
    rcases Nat.lt_or_ge x 256 with q | q
    · exact hu x q e
    · exfalso
      unfold tokc at e
      rw [if_neg (by omega), if_neg (by omega), if_neg (by omega), if_neg (by omega), if_neg (by omega), if_neg (by omega), if_neg (by omega), if_neg (by omega)] at e
      exact hk e.symm
  · intro e; rw [e]; exact h
theorem tu12 : ∀ x : Fin 256, tokc x.1 = 12 → x.1 = 40 := by decide +kernel
theorem tc12 : ∀ x, (tokc x = 12) ↔ x = 40 := tc 12 40 (by decide) (fun x hx => tu12 ⟨x, hx⟩) (by decide)
theorem tu13 : ∀ x : Fin 256, tokc x.1 = 13 → x.1 = 41 := by decide +kernel
theorem tc13 : ∀ x, (tokc x = 13) ↔ x = 41 := tc 13 41 (by decide) (fun x hx => tu13 ⟨x, hx⟩) (by decide)
theorem tu14 : ∀ x : Fin 256, tokc x.1 = 14 → x.1 = 59 := by decide +kernel
theorem tc14 : ∀ x, (tokc x = 14) ↔ x = 59 := tc 14 59 (by decide) (fun x hx => tu14 ⟨x, hx⟩) (by decide)
theorem tu15 : ∀ x : Fin 256, tokc x.1 = 15 → x.1 = 43 := by decide +kernel
theorem tc15 : ∀ x, (tokc x = 15) ↔ x = 43 := tc 15 43 (by decide) (fun x hx => tu15 ⟨x, hx⟩) (by decide)
theorem tu16 : ∀ x : Fin 256, tokc x.1 = 16 → x.1 = 45 := by decide +kernel
theorem tc16 : ∀ x, (tokc x = 16) ↔ x = 45 := tc 16 45 (by decide) (fun x hx => tu16 ⟨x, hx⟩) (by decide)
theorem tu17 : ∀ x : Fin 256, tokc x.1 = 17 → x.1 = 42 := by decide +kernel
theorem tc17 : ∀ x, (tokc x = 17) ↔ x = 42 := tc 17 42 (by decide) (fun x hx => tu17 ⟨x, hx⟩) (by decide)
theorem tu18 : ∀ x : Fin 256, tokc x.1 = 18 → x.1 = 60 := by decide +kernel
theorem tc18 : ∀ x, (tokc x = 18) ↔ x = 60 := tc 18 60 (by decide) (fun x hx => tu18 ⟨x, hx⟩) (by decide)
theorem tu19 : ∀ x : Fin 256, tokc x.1 = 19 → x.1 = 61 := by decide +kernel
theorem tc19 : ∀ x, (tokc x = 19) ↔ x = 61 := tc 19 61 (by decide) (fun x hx => tu19 ⟨x, hx⟩) (by decide)
set_option maxHeartbeats 4000000 in
theorem m_X7_isSign {z : Zz} {d : Nat} {Q : Option Value → Lay → Mem → Prop} {rf : Nat → Value} {tl : Lay} {mem : Mem}  {s sz c : Nat} {tp : Nat → Nat} (hdd : 0 ≤ d) (hsz : sz ≤ 160) (h7 : mem 47 7 = nI s) (h8 : mem 47 8 = nI (srtN tp sz s)) (ht : ∀ i, i < sz → mem 51 i = nI (tp i)) (h256 : ∀ i, i < sz → tp i < 256) (hc : c < 256) (K :  Q (some (.int (bI (sgB tp sz s c)))) (LAY rf tl) mem) : Sim z d 0 0 mX7_isSign 0 [.ref 47, .int (nI c)] [] (LAY rf tl) mem Q := by
  have hs4 := srtN_le (tp := tp) (sz := sz) (i := s)
  unfold sgB at K
  refine s_aload_n (pc' := 1) dX7_isSign_0 rfl lg0 rfl ?_
  refine s_getIv (pc' := 4) (v := nI (srtN tp sz s)) dX7_isSign_1 rfl flX7_139 ly47 (by decide) rfl h8 ?_
  refine s_iconst (pc' := 5) dX7_isSign_4 rfl iconst_3 ?_
  by_cases c1 : srtN tp sz s = 3
  · rw [decide_eq_true c1, Bool.true_and] at K
    have hlt := (tok_3 c1).2
    have h2 := h256 s hlt
    refine s_icmp_ne (pc' := 8) (tgt := 25) dX7_isSign_5 rfl (by decide) (fun c9 => absurd (by rw [c1]; decide) c9) (fun _ => ?_)
    refine s_aload_n (pc' := 9) dX7_isSign_8 rfl lg0 rfl ?_
    refine s_getRv (pc' := 12) (v := .ref 51) dX7_isSign_9 rfl flX7_19 ly47 (by decide) rfl rfl ?_
    refine s_aload_n (pc' := 13) dX7_isSign_12 rfl lg0 rfl ?_
    refine s_getIv (pc' := 16) (v := nI s) dX7_isSign_13 rfl flX7_133 ly47 (by decide) rfl h7 ?_
    refine s_ialdNv (pc' := 17) (v := nI (tp s)) dX7_isSign_16 rfl ly51 (by omega) (by decide) (ht s hlt) ?_
    refine s_iload_n (pc' := 18) dX7_isSign_17 rfl lg1 ?_
    by_cases c2 : tp s = c
    · rw [decide_eq_true c2] at K
      refine s_icmp_ne (pc' := 21) (tgt := 25) dX7_isSign_18 rfl (by decide) (fun c9 => absurd (by rw [c2]) c9) (fun _ => ?_)
      refine s_iconst (pc' := 22) dX7_isSign_21 rfl iconst_1 ?_
      refine s_goto (tgt := 26) dX7_isSign_22 (by decide) ?_
      refine s_iret dX7_isSign_26 rfl (by decide) ?_
      exact K
    · rw [decide_eq_false c2] at K
      refine s_icmp_ne (pc' := 21) (tgt := 25) dX7_isSign_18 rfl (by decide) (fun _ => ?_) (fun c9 => absurd c9 (fun e => c2 ((nI_eq (by omega) (by omega)).mp e)))
      refine s_iconst (pc' := 26) dX7_isSign_25 rfl iconst_0 ?_
      refine s_iret dX7_isSign_26 rfl (by decide) ?_
      exact K
  · rw [decide_eq_false c1, Bool.false_and] at K
    refine s_icmp_ne (pc' := 8) (tgt := 25) dX7_isSign_5 rfl (by decide) (fun _ => ?_) (fun c9 => absurd c9 (fun e => c1 ((nI_eq (a := srtN tp sz s) (b := 3) (by omega) (by omega)).mp e)))
    refine s_iconst (pc' := 26) dX7_isSign_25 rfl iconst_0 ?_
    refine s_iret dX7_isSign_26 rfl (by decide) ?_
    exact K
theorem c_X7_isSign {z : Zz} {d kc ks : Nat} {mi : MI} {pc pc' : Nat} {L S : List Value} {Q : Option Value → Lay → Mem → Prop} {rf : Nat → Value} {tl : Lay} {mem : Mem}  {s sz c : Nat} {tp : Nat → Nat} {idx : Nat} (hd : decode mi.2.1 pc = .ok (.invokevirtual idx, 3)) (hp : pc + 3 = pc') (hlk : Cond.methodLink mi.1.cls idx yX7_isSign ∈ wok) (hdd : 0 + 1 ≤ d) (hcat : (S.map (fun v => v.category)).sum ≤ 8) (hsz : sz ≤ 160) (h7 : mem 47 7 = nI s) (h8 : mem 47 8 = nI (srtN tp sz s)) (ht : ∀ i, i < sz → mem 51 i = nI (tp i)) (h256 : ∀ i, i < sz → tp i < 256) (hc : c < 256) (K :  Sim z d kc ks mi pc' L (.int (bI (sgB tp sz s c)) :: S) (LAY rf tl) mem Q) : Sim z d kc ks mi pc L (.int (nI c) :: .ref 47 :: S) (LAY rf tl) mem Q :=
  s_invV (d2 := 0) hd hp okX7_isSign hlk inX7_isSign seX7_isSign hdd (Nat.zero_add _) (Nat.zero_add _) rfl rfl ly47 rfl hcat (Nat.le_of_ble_eq_true rfl) (m_X7_isSign (Nat.le_refl _) hsz h7 h8 ht h256 hc K)
theorem num_stp {a c : Nat} (hc : 48 ≤ c) : 10 * nI a + nI c - 48 = nI (a * 10 + (c - 48)) := by rw [Int32.mul_comm]; exact num_step hc
set_option maxHeartbeats 4000000 in
theorem m_X7_numberThere {z : Zz} {d : Nat} {Q : Option Value → Lay → Mem → Prop} {rf : Nat → Value} {tl : Lay} {mem : Mem}  {s e sz : Nat} {tp : Nat → Nat} (hdd : 0 ≤ d) (hse : s ≤ e) (hez : e ≤ sz) (hsz : sz ≤ 160) (h6 : mem 47 6 = nI e) (h7 : mem 47 7 = nI s) (ht : ∀ i, i < sz → mem 51 i = nI (tp i)) (hdg : ∀ i, i < e - s → 48 ≤ tp (s + i)) (K :  Q (some (.int (nI (numN tp s (e - s))))) (LAY rf tl) mem) : Sim z d 0 0 mX7_numberThere 0 [.ref 47, .float 0, .float 0] [] (LAY rf tl) mem Q := by
  refine s_iconst (pc' := 1) dX7_numberThere_0 rfl iconst_0 ?_
  refine s_istore_n (pc' := 2) dX7_numberThere_1 rfl (Nat.le_of_ble_eq_true rfl) rfl ls1 ?_
  refine s_aload_n (pc' := 3) dX7_numberThere_2 rfl lg0 rfl ?_
  refine s_getIv (pc' := 6) (v := nI s) dX7_numberThere_3 rfl flX7_133 ly47 (by decide) rfl h7 ?_
  refine s_istore_n (pc' := 7) dX7_numberThere_6 rfl (Nat.le_of_ble_eq_true rfl) rfl ls2 ?_
  have loop : ∀ (k i : Nat), s + i + k = e → Sim z d 0 0 mX7_numberThere 7 [.ref 47, .int (nI (numN tp s i)), .int (nI (s + i))] [] (LAY rf tl) mem Q := by
    intro k
    induction k with
    | zero =>
      intro i hi
      have : i = e - s := by omega
      subst this
      refine s_iload_n (pc' := 8) dX7_numberThere_7 rfl lg2 ?_
      refine s_aload_n (pc' := 9) dX7_numberThere_8 rfl lg0 rfl ?_
      refine s_getIv (pc' := 12) (v := nI e) dX7_numberThere_9 rfl flX7_130 ly47 (by decide) rfl h6 ?_
      refine s_icmp_ge (pc' := 15) (tgt := 36) dX7_numberThere_12 rfl (by decide) (fun _ => ?_) (fun c9 => absurd (nI_le (by omega) (by omega)) c9)
      refine s_iload_n (pc' := 37) dX7_numberThere_36 rfl lg1 ?_
      refine s_iret dX7_numberThere_37 rfl (vp_nar_int _) ?_
      exact K
    | succ k ih =>
      intro i hi
      have nx := ih (i + 1) (by omega)
      refine s_iload_n (pc' := 8) dX7_numberThere_7 rfl lg2 ?_
      refine s_aload_n (pc' := 9) dX7_numberThere_8 rfl lg0 rfl ?_
      refine s_getIv (pc' := 12) (v := nI e) dX7_numberThere_9 rfl flX7_130 ly47 (by decide) rfl h6 ?_
      refine s_icmp_ge (pc' := 15) (tgt := 36) dX7_numberThere_12 rfl (by decide) (fun c9 => absurd c9 (nI_ge (by omega) (by omega))) (fun _ => ?_)
      refine s_bipush (pc' := 17) dX7_numberThere_15 rfl bipush_10 ?_
      refine s_iload_n (pc' := 18) dX7_numberThere_17 rfl lg1 ?_
      refine s_imul (pc' := 19) dX7_numberThere_18 rfl ?_
      refine s_aload_n (pc' := 20) dX7_numberThere_19 rfl lg0 rfl ?_
      refine s_getRv (pc' := 23) (v := .ref 51) dX7_numberThere_20 rfl flX7_19 ly47 (by decide) rfl rfl ?_
      refine s_iload_n (pc' := 24) dX7_numberThere_23 rfl lg2 ?_
      refine s_ialdNv (pc' := 25) (v := nI (tp (s + i))) dX7_numberThere_24 rfl ly51 (by omega) (by decide) (ht _ (by omega)) ?_
      refine s_iadd (pc' := 26) dX7_numberThere_25 rfl ?_
      refine s_bipush (pc' := 28) dX7_numberThere_26 rfl bipush_48 ?_
      refine s_isub (pc' := 29) dX7_numberThere_28 rfl ?_
      rw [num_stp (hdg i (by omega))]
      refine s_istore_n (pc' := 30) dX7_numberThere_29 rfl (Nat.le_of_ble_eq_true rfl) rfl ls1 ?_
      refine s_iincN (pc' := 33) dX7_numberThere_30 rfl lg2 rfl ls2 ?_
      refine s_goto (tgt := 7) dX7_numberThere_33 (by decide) ?_
      exact nx
  exact loop (e - s) 0 (by omega)
theorem c_X7_numberThere {z : Zz} {d kc ks : Nat} {mi : MI} {pc pc' : Nat} {L S : List Value} {Q : Option Value → Lay → Mem → Prop} {rf : Nat → Value} {tl : Lay} {mem : Mem}  {s e sz : Nat} {tp : Nat → Nat} {idx : Nat} (hd : decode mi.2.1 pc = .ok (.invokevirtual idx, 3)) (hp : pc + 3 = pc') (hlk : Cond.methodLink mi.1.cls idx yX7_numberThere ∈ wok) (hdd : 0 + 1 ≤ d) (hcat : (S.map (fun v => v.category)).sum ≤ 8) (hse : s ≤ e) (hez : e ≤ sz) (hsz : sz ≤ 160) (h6 : mem 47 6 = nI e) (h7 : mem 47 7 = nI s) (ht : ∀ i, i < sz → mem 51 i = nI (tp i)) (hdg : ∀ i, i < e - s → 48 ≤ tp (s + i)) (K :  Sim z d kc ks mi pc' L (.int (nI (numN tp s (e - s))) :: S) (LAY rf tl) mem Q) : Sim z d kc ks mi pc L (.ref 47 :: S) (LAY rf tl) mem Q :=
  s_invV (d2 := 0) hd hp okX7_numberThere hlk inX7_numberThere seX7_numberThere hdd (Nat.zero_add _) (Nat.zero_add _) rfl rfl ly47 rfl hcat (Nat.le_of_ble_eq_true rfl) (m_X7_numberThere (Nat.le_refl _) hse hez hsz h6 h7 ht hdg K)
def rkN (t : Nat) : Nat := if t = 12 then 0 else if t = 9 then 1 else if t = 10 then 2 else if t = 11 then 3 else if t = 18 then 4 else if t = 19 then 4 else if t = 17 then 6 else if t = 23 then 7 else 5
def rkT : List Nat → Nat
  | [] => 0
  | w :: _ => rkN w
def dM (t : Nat) : Int32 := if t = 12 then 0 else toM (-1 - nI t)
def wtk (t : Nat) : Prop := t = 9 ∨ t = 10 ∨ t = 11 ∨ t = 12 ∨ t = 15 ∨ t = 16 ∨ t = 17 ∨ t = 18 ∨ t = 19 ∨ t = 23
def opc : List Nat → Nat
  | [] => 0
  | w :: W => opc W + (if w = 11 ∨ w = 12 ∨ w = 23 then 1 else 0)
def rkI (v : Int32) : Int32 := if v = 0 then 0 else if v = -20 then 1 else if v = -21 then 2 else if v = -22 then 3 else if v = -23 then 4 else if v = -24 then 4 else if v = -27 then 6 else if v = -28 then 7 else 5
set_option maxHeartbeats 4000000 in
theorem m_X7_rank {z : Zz} {d : Nat} {Q : Option Value → Lay → Mem → Prop} {lay : Lay} {mem : Mem} {v : Int32} (hdd : 0 ≤ d)  (K :  Q (some (.int (rkI v))) lay mem) : Sim z d 0 0 mX7_rank 0 [.int v] [] (lay) mem Q := by
  refine s_iload_n (pc' := 1) dX7_rank_0 rfl lg0 ?_
  refine s_if_ne (pc' := 4) (tgt := 8) dX7_rank_1 rfl (by decide) (fun c1 => ?_) (fun c1 => ?_)
  · refine s_iload_n (pc' := 9) dX7_rank_8 rfl lg0 ?_
    refine s_bipush (pc' := 11) dX7_rank_9 rfl bipush_m20 ?_
    refine s_icmp_ne (pc' := 14) (tgt := 18) dX7_rank_11 rfl (by decide) (fun c2 => ?_) (fun c2 => ?_)
    · refine s_iload_n (pc' := 19) dX7_rank_18 rfl lg0 ?_
      refine s_bipush (pc' := 21) dX7_rank_19 rfl bipush_m21 ?_
      refine s_icmp_ne (pc' := 24) (tgt := 28) dX7_rank_21 rfl (by decide) (fun c3 => ?_) (fun c3 => ?_)
      · refine s_iload_n (pc' := 29) dX7_rank_28 rfl lg0 ?_
        refine s_bipush (pc' := 31) dX7_rank_29 rfl bipush_m22 ?_
        refine s_icmp_ne (pc' := 34) (tgt := 38) dX7_rank_31 rfl (by decide) (fun c4 => ?_) (fun c4 => ?_)
        · refine s_iload_n (pc' := 39) dX7_rank_38 rfl lg0 ?_
          refine s_bipush (pc' := 41) dX7_rank_39 rfl bipush_m23 ?_
          refine s_icmp_eq (pc' := 44) (tgt := 50) dX7_rank_41 rfl (by decide) (fun c5 => ?_) (fun c5 => ?_)
          · refine s_iconst (pc' := 51) dX7_rank_50 rfl iconst_4 ?_
            refine s_goto (tgt := 77) dX7_rank_51 (by decide) ?_
            refine s_iret dX7_rank_77 rfl (vp_nar_int _) ?_
            (simpa [rkI, c1, c2, c3, c4, c5] using K)
          · refine s_iload_n (pc' := 45) dX7_rank_44 rfl lg0 ?_
            refine s_bipush (pc' := 47) dX7_rank_45 rfl bipush_m24 ?_
            refine s_icmp_ne (pc' := 50) (tgt := 54) dX7_rank_47 rfl (by decide) (fun c6 => ?_) (fun c6 => ?_)
            · refine s_iload_n (pc' := 55) dX7_rank_54 rfl lg0 ?_
              refine s_bipush (pc' := 57) dX7_rank_55 rfl bipush_m27 ?_
              refine s_icmp_ne (pc' := 60) (tgt := 65) dX7_rank_57 rfl (by decide) (fun c7 => ?_) (fun c7 => ?_)
              · refine s_iload_n (pc' := 66) dX7_rank_65 rfl lg0 ?_
                refine s_bipush (pc' := 68) dX7_rank_66 rfl bipush_m28 ?_
                refine s_icmp_ne (pc' := 71) (tgt := 76) dX7_rank_68 rfl (by decide) (fun c8 => ?_) (fun c8 => ?_)
                · refine s_iconst (pc' := 77) dX7_rank_76 rfl iconst_5 ?_
                  refine s_iret dX7_rank_77 rfl (vp_nar_int _) ?_
                  (simpa [rkI, c1, c2, c3, c4, c5, c6, c7, c8] using K)
                · refine s_bipush (pc' := 73) dX7_rank_71 rfl bipush_7 ?_
                  refine s_goto (tgt := 77) dX7_rank_73 (by decide) ?_
                  refine s_iret dX7_rank_77 rfl (vp_nar_int _) ?_
                  (simpa [rkI, c1, c2, c3, c4, c5, c6, c7, c8] using K)
              · refine s_bipush (pc' := 62) dX7_rank_60 rfl bipush_6 ?_
                refine s_goto (tgt := 77) dX7_rank_62 (by decide) ?_
                refine s_iret dX7_rank_77 rfl (vp_nar_int _) ?_
                (simpa [rkI, c1, c2, c3, c4, c5, c6, c7] using K)
            · refine s_iconst (pc' := 51) dX7_rank_50 rfl iconst_4 ?_
              refine s_goto (tgt := 77) dX7_rank_51 (by decide) ?_
              refine s_iret dX7_rank_77 rfl (vp_nar_int _) ?_
              (simpa [rkI, c1, c2, c3, c4, c5, c6] using K)
        · refine s_iconst (pc' := 35) dX7_rank_34 rfl iconst_3 ?_
          refine s_goto (tgt := 77) dX7_rank_35 (by decide) ?_
          refine s_iret dX7_rank_77 rfl (vp_nar_int _) ?_
          (simpa [rkI, c1, c2, c3, c4] using K)
      · refine s_iconst (pc' := 25) dX7_rank_24 rfl iconst_2 ?_
        refine s_goto (tgt := 77) dX7_rank_25 (by decide) ?_
        refine s_iret dX7_rank_77 rfl (vp_nar_int _) ?_
        (simpa [rkI, c1, c2, c3] using K)
    · refine s_iconst (pc' := 15) dX7_rank_14 rfl iconst_1 ?_
      refine s_goto (tgt := 77) dX7_rank_15 (by decide) ?_
      refine s_iret dX7_rank_77 rfl (vp_nar_int _) ?_
      (simpa [rkI, c1, c2] using K)
  · refine s_iconst (pc' := 5) dX7_rank_4 rfl iconst_0 ?_
    refine s_goto (tgt := 77) dX7_rank_5 (by decide) ?_
    refine s_iret dX7_rank_77 rfl (vp_nar_int _) ?_
    (simpa [rkI, c1] using K)
theorem c_X7_rank {z : Zz} {d kc ks : Nat} {mi : MI} {pc pc' : Nat} {L S : List Value} {Q : Option Value → Lay → Mem → Prop} {lay : Lay} {mem : Mem} {v : Int32} {idx : Nat} (hd : decode mi.2.1 pc = .ok (.invokestatic idx, 3)) (hp : pc + 3 = pc') (hlk : Cond.methodLink mi.1.cls idx yX7_rank ∈ wok) (hdd : 0 + 1 ≤ d) (hcat : (S.map (fun v => v.category)).sum ≤ 8)  (K :  Sim z d kc ks mi pc' L (.int (rkI v) :: S) lay mem Q) : Sim z d kc ks mi pc L (.int v :: S) (lay) mem Q :=
  s_invS (d2 := 0) hd hp okX7_rank hlk stX7_rank hdd (Nat.zero_add _) (Nat.zero_add _) rfl rfl hcat (Nat.le_of_ble_eq_true rfl) (m_X7_rank (Nat.le_refl _)  K)
theorem rk_dM {t : Nat} (h : wtk t) : rkI (dM t) = nI (rkN t) ∧ ((dM t = -22) ↔ t = 11) ∧ ((dM t = -28) ↔ t = 23) ∧ rkN t ≤ 7 := by
  rcases h with rfl | rfl | rfl | rfl | rfl | rfl | rfl | rfl | rfl | rfl <;> decide +kernel
def wst (mem : Mem) (W : List Nat) : Prop := ∀ i, i < W.length → mem 55 i = dM (W.getD (W.length - 1 - i) 0)
theorem wst.top {mem : Mem} {w : Nat} {W : List Nat} (h : wst mem (w :: W)) : mem 55 W.length = dM w := by
  have := h W.length (by simp)
  simpa using this
theorem wst.pop {mem : Mem} {w : Nat} {W : List Nat} (h : wst mem (w :: W)) : wst mem W := by
  intro i hi
  have := h i (by simp; omega)
  simp only [List.length_cons] at this
  have e : W.length + 1 - 1 - i = (W.length - 1 - i) + 1 := by omega
  rw [e] at this
  simpa using this
theorem wst.push {mem : Mem} {w : Nat} {W : List Nat} (h : wst mem W) : wst (am_up mem 55 W.length (dM w)) (w :: W) := by
  intro i hi
  simp only [List.length_cons] at hi ⊢
  rw [upE]
  by_cases hq : i = W.length
  · subst hq
    rw [udE]
    simp
  · rw [udN hq, h i (by omega)]
    have e : W.length + 1 - 1 - i = (W.length - 1 - i) + 1 := by omega
    rw [e]
    simp
theorem wst.cp {mem mem' : Mem} {W : List Nat} (h : wst mem W) (h55 : mem' 55 = mem 55) : wst mem' W := fun i hi => by rw [h55]; exact h i hi
def cst (mem : Mem) (nt : Nat) (c : List Int32) : Prop := ∀ k, k < c.length → mem 52 (160 * nt + k) = toM (c.getD k 0)
theorem cst.push {mem : Mem} {nt : Nat} {c : List Int32} {x : Int32} (h : cst mem nt c) : cst (am_up mem 52 (160 * nt + c.length) (toM x)) nt (c ++ [x]) := by
  intro k hk
  rw [List.length_append] at hk
  simp only [List.length_cons, List.length_nil] at hk
  rw [upE, getD_app]
  by_cases q : k = c.length
  · subst q
    rw [udE, if_neg (Nat.lt_irrefl _), Nat.sub_self]; rfl
  · rw [udN (by omega), if_pos (by omega)]; exact h k (by omega)
theorem cst.cp {mem mem' : Mem} {nt : Nat} {c : List Int32} (h : cst mem nt c) (h52 : mem' 52 = mem 52) : cst mem' nt c := fun k hk => by rw [h52]; exact h k hk
def isMB (mem : Mem) (tp : Nat → Nat) (sz nt : Nat) : Prop := mem 47 5 = nI sz ∧ mem 47 12 = nI nt ∧ (∀ i, i < sz → mem 51 i = nI (tp i)) ∧ ∀ k, k < 84 → mem 54 k = nI (NM k)
def isMP (mem : Mem) (tp : Nat → Nat) (sz nt : Nat) (q : Tk) (W : List Nat) (c : List Int32) : Prop := isMB mem tp sz nt ∧ (mem 47 6 = nI q.1 ∧ mem 47 7 = nI q.2.1 ∧ mem 47 8 = nI (srtN tp sz q.2.1)) ∧ (mem 47 9 = nI (opc W) ∧ mem 47 13 = nI c.length ∧ mem 47 16 = nI W.length) ∧ wst mem W ∧ cst mem nt c
/-- what the reading changes -/
def mpf (nt : Nat) (mem mem' : Mem) : Prop := (∀ j, j ≠ 47 → j ≠ 52 → j ≠ 55 → mem' j = mem j) ∧ (∀ k, k ≠ 6 → k ≠ 7 → k ≠ 8 → k ≠ 9 → k ≠ 13 → k ≠ 16 → mem' 47 k = mem 47 k) ∧ ∀ k, k < 160 * nt → mem' 52 k = mem 52 k
theorem mpf.rf {nt : Nat} {mem : Mem} : mpf nt mem mem := ⟨fun _ _ _ _ => rfl, fun _ _ _ _ _ _ _ => rfl, fun _ _ => rfl⟩
theorem mpf.tr {nt : Nat} {a b c : Mem} (h1 : mpf nt a b) (h2 : mpf nt b c) : mpf nt a c := ⟨fun j q1 q2 q3 => (h2.1 j q1 q2 q3).trans (h1.1 j q1 q2 q3), fun k q1 q2 q3 q4 q5 q6 => (h2.2.1 k q1 q2 q3 q4 q5 q6).trans (h1.2.1 k q1 q2 q3 q4 q5 q6), fun k hk => (h2.2.2 k hk).trans (h1.2.2 k hk)⟩
theorem isMB.mpf {mem mem' : Mem} {tp : Nat → Nat} {sz nt nt' : Nat} (h : isMB mem tp sz nt) (hk : mpf nt' mem mem') : isMB mem' tp sz nt := by
  obtain ⟨a, b, c, d⟩ := h
  exact ⟨by rw [hk.2.1 5 (by decide) (by decide) (by decide) (by decide) (by decide) (by decide)]; exact a, by rw [hk.2.1 12 (by decide) (by decide) (by decide) (by decide) (by decide) (by decide)]; exact b, fun i hi => by rw [hk.1 51 (by decide) (by decide) (by decide)]; exact c i hi, fun k hk2 => by rw [hk.1 54 (by decide) (by decide) (by decide)]; exact d k hk2⟩
set_option maxHeartbeats 4000000 in
theorem m_X7_last {z : Zz} {d : Nat} {Q : Option Value → Lay → Mem → Prop} {rf : Nat → Value} {tl : Lay} {mem : Mem}  {W : List Nat} (hdd : 1 ≤ d) (h16 : mem 47 16 = nI W.length) (hw : wst mem W) (hk : ∀ w ∈ W, wtk w) (hl : W.length ≤ 160) (K :  Q (some (.int (nI (rkT W)))) (LAY rf tl) mem) : Sim z d 0 0 mX7_last 0 [.ref 47] [] (LAY rf tl) mem Q := by
  cases W with
  | nil =>
    refine s_aload_n (pc' := 1) dX7_last_0 rfl lg0 rfl ?_
    refine s_getIv (pc' := 4) (v := nI 0) dX7_last_1 rfl flX7_145 ly47 (by decide) rfl h16 ?_
    refine s_if_ne (pc' := 7) (tgt := 11) dX7_last_4 rfl (by decide) (fun c9 => absurd (nI_0) c9) (fun _ => ?_)
    refine s_iconst (pc' := 8) dX7_last_7 rfl iconst_0 ?_
    refine s_goto (tgt := 25) dX7_last_8 (by decide) ?_
    refine s_iret dX7_last_25 rfl (vp_nar_int _) ?_
    exact K
  | cons w W =>
    rw [List.length_cons] at h16 hl
    refine s_aload_n (pc' := 1) dX7_last_0 rfl lg0 rfl ?_
    refine s_getIv (pc' := 4) (v := nI (W.length + 1)) dX7_last_1 rfl flX7_145 ly47 (by decide) rfl h16 ?_
    refine s_if_ne (pc' := 7) (tgt := 11) dX7_last_4 rfl (by decide) (fun _ => ?_) (fun c9 => absurd c9 (nI_ne0 (by omega) (by omega)))
    refine s_aload_n (pc' := 12) dX7_last_11 rfl lg0 rfl ?_
    refine s_getRv (pc' := 15) (v := .ref 55) dX7_last_12 rfl flX7_40 ly47 (by decide) rfl rfl ?_
    refine s_aload_n (pc' := 16) dX7_last_15 rfl lg0 rfl ?_
    refine s_getIv (pc' := 19) (v := nI (W.length + 1)) dX7_last_16 rfl flX7_145 ly47 (by decide) rfl h16 ?_
    refine s_iconst (pc' := 20) dX7_last_19 rfl iconst_1 ?_
    refine s_isub (pc' := 21) dX7_last_20 rfl ?_
    rw [nI_pred]
    refine s_ialdNv (pc' := 22) (v := dM w) dX7_last_21 rfl ly55 (by omega) (by decide) hw.top ?_
    refine c_X7_rank (pc' := 25) dX7_last_22 rfl lkX7_148 (by omega) (Nat.le_of_ble_eq_true rfl)  ?_
    rw [(rk_dM (hk w List.mem_cons_self)).1]
    refine s_iret dX7_last_25 rfl (vp_nar_int _) ?_
    exact K
theorem c_X7_last {z : Zz} {d kc ks : Nat} {mi : MI} {pc pc' : Nat} {L S : List Value} {Q : Option Value → Lay → Mem → Prop} {rf : Nat → Value} {tl : Lay} {mem : Mem}  {W : List Nat} {idx : Nat} (hd : decode mi.2.1 pc = .ok (.invokevirtual idx, 3)) (hp : pc + 3 = pc') (hlk : Cond.methodLink mi.1.cls idx yX7_last ∈ wok) (hdd : 1 + 1 ≤ d) (hcat : (S.map (fun v => v.category)).sum ≤ 8) (h16 : mem 47 16 = nI W.length) (hw : wst mem W) (hk : ∀ w ∈ W, wtk w) (hl : W.length ≤ 160) (K :  Sim z d kc ks mi pc' L (.int (nI (rkT W)) :: S) (LAY rf tl) mem Q) : Sim z d kc ks mi pc L (.ref 47 :: S) (LAY rf tl) mem Q :=
  s_invV (d2 := 1) hd hp okX7_last hlk inX7_last seX7_last hdd (Nat.zero_add _) (Nat.zero_add _) rfl rfl ly47 rfl hcat (Nat.le_of_ble_eq_true rfl) (m_X7_last (Nat.le_refl _) h16 hw hk hl K)
set_option maxHeartbeats 4000000 in
theorem m_X7_write {z : Zz} {d : Nat} {Q : Option Value → Lay → Mem → Prop} {rf : Nat → Value} {tl : Lay} {mem : Mem}  {nt n : Nat} {x : Int32} (hdd : 0 ≤ d) (h12 : mem 47 12 = nI nt) (h13 : mem 47 13 = nI n) (hnt : nt < 6) (hn : n < 160) (K :  Q none (LAY rf tl) (am_up (am_up mem 52 (160 * nt + n) x) 47 13 (nI (n + 1)))) : Sim z d 0 0 mX7_write 0 [.ref 47, .int x] [] (LAY rf tl) mem Q := by
  refine s_aload_n (pc' := 1) dX7_write_0 rfl lg0 rfl ?_
  refine s_getRv (pc' := 4) (v := .ref 52) dX7_write_1 rfl flX7_22 ly47 (by decide) rfl rfl ?_
  refine s_sipush (pc' := 7) dX7_write_4 rfl sipush_160 ?_
  refine s_aload_n (pc' := 8) dX7_write_7 rfl lg0 rfl ?_
  refine s_getIv (pc' := 11) (v := nI nt) dX7_write_8 rfl flX7_32 ly47 (by decide) rfl h12 ?_
  refine s_imul (pc' := 12) dX7_write_11 rfl ?_
  refine s_aload_n (pc' := 13) dX7_write_12 rfl lg0 rfl ?_
  refine s_getIv (pc' := 16) (v := nI n) dX7_write_13 rfl flX7_142 ly47 (by decide) rfl h13 ?_
  refine s_iadd (pc' := 17) dX7_write_16 rfl ?_
  rw [mI160]
  refine s_iload_n (pc' := 18) dX7_write_17 rfl lg1 ?_
  refine s_iastN (pc' := 19) dX7_write_18 rfl ly52 (by omega) (by decide) ?_
  refine s_aload_n (pc' := 20) dX7_write_19 rfl lg0 rfl ?_
  refine s_dup (pc' := 21) dX7_write_20 rfl rfl ?_
  refine s_getIv (pc' := 24) (v := nI n) dX7_write_21 rfl flX7_142 ly47 (by decide) rfl (by rw [upN (by decide)]; exact h13) ?_
  refine s_iconst (pc' := 25) dX7_write_24 rfl iconst_1 ?_
  refine s_iadd (pc' := 26) dX7_write_25 rfl ?_
  rw [nI_1]
  refine s_putI (pc' := 29) (ty := .int) dX7_write_26 rfl flX7_142 fw7_13 pdI rfl rfl ly47 (by decide) rfl ?_
  refine s_vret dX7_write_29 rfl ?_
  exact K
theorem c_X7_write {z : Zz} {d kc ks : Nat} {mi : MI} {pc pc' : Nat} {L S : List Value} {Q : Option Value → Lay → Mem → Prop} {rf : Nat → Value} {tl : Lay} {mem : Mem}  {nt n : Nat} {x : Int32} {idx : Nat} (hd : decode mi.2.1 pc = .ok (.invokevirtual idx, 3)) (hp : pc + 3 = pc') (hlk : Cond.methodLink mi.1.cls idx yX7_write ∈ wok) (hdd : 0 + 1 ≤ d) (hcat : (S.map (fun v => v.category)).sum ≤ 8) (h12 : mem 47 12 = nI nt) (h13 : mem 47 13 = nI n) (hnt : nt < 6) (hn : n < 160) (K :  Sim z d kc ks mi pc' L S (LAY rf tl) (am_up (am_up mem 52 (160 * nt + n) x) 47 13 (nI (n + 1))) Q) : Sim z d kc ks mi pc L (.int x :: .ref 47 :: S) (LAY rf tl) mem Q :=
  s_invV (d2 := 0) hd hp okX7_write hlk inX7_write seX7_write hdd (Nat.zero_add _) (Nat.zero_add _) rfl rfl ly47 rfl hcat (Nat.le_of_ble_eq_true rfl) (m_X7_write (Nat.le_refl _) h12 h13 hnt hn K)
set_option maxHeartbeats 4000000 in
theorem m_X7_await {z : Zz} {d : Nat} {Q : Option Value → Lay → Mem → Prop} {rf : Nat → Value} {tl : Lay} {mem : Mem}  {n : Nat} {x : Int32} (hdd : 0 ≤ d) (h16 : mem 47 16 = nI n) (hn : n < 160) (K :  Q none (LAY rf tl) (am_up (am_up mem 55 n x) 47 16 (nI (n + 1)))) : Sim z d 0 0 mX7_await 0 [.ref 47, .int x] [] (LAY rf tl) mem Q := by
  refine s_aload_n (pc' := 1) dX7_await_0 rfl lg0 rfl ?_
  refine s_getRv (pc' := 4) (v := .ref 55) dX7_await_1 rfl flX7_40 ly47 (by decide) rfl rfl ?_
  refine s_aload_n (pc' := 5) dX7_await_4 rfl lg0 rfl ?_
  refine s_getIv (pc' := 8) (v := nI n) dX7_await_5 rfl flX7_145 ly47 (by decide) rfl h16 ?_
  refine s_iload_n (pc' := 9) dX7_await_8 rfl lg1 ?_
  refine s_iastN (pc' := 10) dX7_await_9 rfl ly55 (by omega) (by decide) ?_
  refine s_aload_n (pc' := 11) dX7_await_10 rfl lg0 rfl ?_
  refine s_dup (pc' := 12) dX7_await_11 rfl rfl ?_
  refine s_getIv (pc' := 15) (v := nI n) dX7_await_12 rfl flX7_145 ly47 (by decide) rfl (by rw [upN (by decide)]; exact h16) ?_
  refine s_iconst (pc' := 16) dX7_await_15 rfl iconst_1 ?_
  refine s_iadd (pc' := 17) dX7_await_16 rfl ?_
  rw [nI_1]
  refine s_putI (pc' := 20) (ty := .int) dX7_await_17 rfl flX7_145 fw7_16 pdI rfl rfl ly47 (by decide) rfl ?_
  refine s_vret dX7_await_20 rfl ?_
  exact K
theorem c_X7_await {z : Zz} {d kc ks : Nat} {mi : MI} {pc pc' : Nat} {L S : List Value} {Q : Option Value → Lay → Mem → Prop} {rf : Nat → Value} {tl : Lay} {mem : Mem}  {n : Nat} {x : Int32} {idx : Nat} (hd : decode mi.2.1 pc = .ok (.invokevirtual idx, 3)) (hp : pc + 3 = pc') (hlk : Cond.methodLink mi.1.cls idx yX7_await ∈ wok) (hdd : 0 + 1 ≤ d) (hcat : (S.map (fun v => v.category)).sum ≤ 8) (h16 : mem 47 16 = nI n) (hn : n < 160) (K :  Sim z d kc ks mi pc' L S (LAY rf tl) (am_up (am_up mem 55 n x) 47 16 (nI (n + 1))) Q) : Sim z d kc ks mi pc L (.int x :: .ref 47 :: S) (LAY rf tl) mem Q :=
  s_invV (d2 := 0) hd hp okX7_await hlk inX7_await seX7_await hdd (Nat.zero_add _) (Nat.zero_add _) rfl rfl ly47 rfl hcat (Nat.le_of_ble_eq_true rfl) (m_X7_await (Nat.le_refl _) h16 hn K)
def stl (r : Nat) : List Nat → List Int32 → List Nat × List Int32
  | [], c => ([], c)
  | w :: W, c => if 0 < rkN w ∧ r ≤ rkN w then stl r W (c ++ [-1 - nI w]) else (w :: W, c)
theorem stl_t {r w : Nat} {W : List Nat} {c : List Int32} (h : 0 < rkN w ∧ r ≤ rkN w) : stl r (w :: W) c = stl r W (c ++ [-1 - nI w]) := by rw [stl, if_pos h]
theorem stl_f {r w : Nat} {W : List Nat} {c : List Int32} (h : ¬ (0 < rkN w ∧ r ≤ rkN w)) : stl r (w :: W) c = (w :: W, c) := by rw [stl, if_neg h]
set_option maxRecDepth 4000 in
set_option maxHeartbeats 4000000 in
theorem m_X7_settle {z : Zz} {d : Nat} {Q : Option Value → Lay → Mem → Prop} {rf : Nat → Value} {tl : Lay} {mem : Mem}  {sz nt r : Nat} {tp : Nat → Nat} {q : Tk} {W : List Nat} {c : List Int32} (hdd : 2 ≤ d) (hP : isMP mem tp sz nt q W c) (hnt : nt < 6) (hlen : W.length + c.length ≤ 160) (hk : ∀ w ∈ W, wtk w) (hr : r ≤ 7) (K : ∀ mem', isMP mem' tp sz nt q (stl r W c).1 (stl r W c).2 → mpf nt mem mem' → Q none (LAY rf tl) mem') : Sim z d 0 0 mX7_settle 0 [.ref 47, .int (nI r)] [] (LAY rf tl) mem Q := by
  have loop : ∀ (V : List Nat) (e : List Int32) (m : Mem), isMP m tp sz nt q V e → mpf nt mem m → V.length + e.length ≤ 160 → (∀ w ∈ V, wtk w) → stl r V e = stl r W c → Sim z d 0 0 mX7_settle 0 [.ref 47, .int (nI r)] [] (LAY rf tl) m Q := by
    intro V
    induction V with
    | nil =>
      intro e m hm hf hl hv hs
      obtain ⟨hB, h678, ⟨h9, h13, h16⟩, hws, hcs⟩ := id hm
      refine s_aload_n (pc' := 1) dX7_settle_0 rfl lg0 rfl ?_
      refine c_X7_last  (pc' := 4) dX7_settle_1 rfl lkX7_151 (by omega) (Nat.le_of_ble_eq_true rfl) h16 hws hv (by simp) ?_
      refine s_if_le (pc' := 7) (tgt := 83) dX7_settle_4 rfl (by decide) (fun _ => ?_) (fun c9 => absurd (by show nI 0 ≤ 0; decide) c9)
      refine s_vret dX7_settle_83 rfl ?_
      exact K m (by rw [← hs]; exact hm) hf
    | cons w V ih =>
      intro e m hm hf hl hv hs
      obtain ⟨hB, ⟨h6, h7, h8⟩, ⟨h9, h13, h16⟩, hws, hcs⟩ := id hm
      have hwt := hv w List.mem_cons_self
      obtain ⟨k1, k2, k3, k4⟩ := rk_dM hwt
      have fin : ¬ (0 < rkN w ∧ r ≤ rkN w) → Q none (LAY rf tl) m := fun h => K m (by rw [← hs, stl_f h]; exact hm) hf
      rw [List.length_cons] at hl h16
      refine s_aload_n (pc' := 1) dX7_settle_0 rfl lg0 rfl ?_
      refine c_X7_last (W := w :: V) (pc' := 4) dX7_settle_1 rfl lkX7_151 (by omega) (Nat.le_of_ble_eq_true rfl) h16 hws hv (by rw [List.length_cons]; omega) ?_
      rw [show rkT (w :: V) = rkN w from rfl]
      by_cases c1 : 0 < rkN w
      · refine s_if_le (pc' := 7) (tgt := 83) dX7_settle_4 rfl (by decide) (fun c9 => absurd c9 (fun h => by have := (nI_leI (a := rkN w) (b := 0) (by omega) (by omega)).mp h; omega)) (fun _ => ?_)
        refine s_aload_n (pc' := 8) dX7_settle_7 rfl lg0 rfl ?_
        refine c_X7_last (W := w :: V) (pc' := 11) dX7_settle_8 rfl lkX7_151 (by omega) (Nat.le_of_ble_eq_true rfl) h16 hws hv (by rw [List.length_cons]; omega) ?_
        rw [show rkT (w :: V) = rkN w from rfl]
        refine s_iload_n (pc' := 12) dX7_settle_11 rfl lg1 ?_
        rcases Nat.lt_or_ge (rkN w) r with c2 | c2
        · refine s_icmp_lt (pc' := 15) (tgt := 83) dX7_settle_12 rfl (by decide) (fun _ => ?_) (fun c9 => absurd (nI_lt c2 (by omega)) c9)
          refine s_vret dX7_settle_83 rfl ?_
          exact fin (by omega)
        · skip
          refine s_icmp_lt (pc' := 15) (tgt := 83) dX7_settle_12 rfl (by decide) (fun c9 => absurd c9 (nI_nlt c2 (by omega))) (fun _ => ?_)
          rw [stl_t ⟨c1, c2⟩] at hs
          refine s_aload_n (pc' := 16) dX7_settle_15 rfl lg0 rfl ?_
          refine s_dup (pc' := 17) dX7_settle_16 rfl rfl ?_
          refine s_getIv (pc' := 20) (v := nI (V.length + 1)) dX7_settle_17 rfl flX7_145 ly47 (by decide) rfl h16 ?_
          refine s_iconst (pc' := 21) dX7_settle_20 rfl iconst_1 ?_
          refine s_isub (pc' := 22) dX7_settle_21 rfl ?_
          rw [nI_pred]
          refine s_putI (pc' := 25) (ty := .int) dX7_settle_22 rfl flX7_145 fw7_16 pdI rfl rfl ly47 (by decide) rfl ?_
          refine s_aload_n (pc' := 26) dX7_settle_25 rfl lg0 rfl ?_
          refine s_aload_n (pc' := 27) dX7_settle_26 rfl lg0 rfl ?_
          refine s_getRv (pc' := 30) (v := .ref 55) dX7_settle_27 rfl flX7_40 ly47 (by decide) rfl rfl ?_
          refine s_aload_n (pc' := 31) dX7_settle_30 rfl lg0 rfl ?_
          refine s_getIv (pc' := 34) (v := nI V.length) dX7_settle_31 rfl flX7_145 ly47 (by decide) rfl (by rw [upE, udE]) ?_
          refine s_ialdNv (pc' := 35) (v := dM w) dX7_settle_34 rfl ly55 (by omega) (by decide) (by rw [upN (by decide)]; exact hws.top) ?_
          refine c_X7_write  (pc' := 38) dX7_settle_35 rfl lkX7_154 (by omega) (Nat.le_of_ble_eq_true rfl) (by rw [upE, udN (by decide)]; exact hB.2.1) (by rw [upE, udN (by decide)]; exact h13) hnt (by omega) ?_
          have ne12 : w ≠ 12 := fun h => by rw [h] at c1; exact absurd c1 (by decide)
          have dm : dM w = toM (-1 - nI w) := if_neg ne12
          have nx : ∀ (x : Int32), x = nI (opc V) → Sim z d 0 0 mX7_settle 0 [.ref 47, .int (nI r)] [] (LAY rf tl) (am_up (am_up (am_up (am_up m 47 16 (nI V.length)) 52 (160 * nt + e.length) (dM w)) 47 13 (nI (e.length + 1))) 47 9 x) Q := by
            intro x hx
            refine ih (e ++ [-1 - nI w]) _ ⟨?_, ⟨?_, ?_, ?_⟩, ⟨?_, ?_, ?_⟩, ?_, ?_⟩ (hf.tr ⟨fun j q1 q2 q3 => by rw [upN q1, upN q1, upN q2, upN q1], fun k q1 q2 q3 q4 q5 q6 => by rw [upE, udN q4, upE, udN q5, upN (by decide), upE, udN q6], fun k hk => by rw [upN (by decide), upN (by decide), upE, udN (by omega), upN (by decide)]⟩) (by simp only [List.length_append, List.length_cons, List.length_nil]; omega) (fun v hv' => hv v (List.mem_cons_of_mem _ hv')) hs
            · obtain ⟨a1, a2, a3, a4⟩ := hB
              exact ⟨by rw [upE, udN (by decide), upE, udN (by decide), upN (by decide), upE, udN (by decide)]; exact a1, by rw [upE, udN (by decide), upE, udN (by decide), upN (by decide), upE, udN (by decide)]; exact a2, fun i hi => by rw [upN (by decide), upN (by decide), upN (by decide), upN (by decide)]; exact a3 i hi, fun i hi => by rw [upN (by decide), upN (by decide), upN (by decide), upN (by decide)]; exact a4 i hi⟩
            · rw [upE, udN (by decide), upE, udN (by decide), upN (by decide), upE, udN (by decide)]; exact h6
            · rw [upE, udN (by decide), upE, udN (by decide), upN (by decide), upE, udN (by decide)]; exact h7
            · rw [upE, udN (by decide), upE, udN (by decide), upN (by decide), upE, udN (by decide)]; exact h8
            · rw [upE, udE]; exact hx
            · rw [upE, udN (by decide), upE, udE, List.length_append]; rfl
            · rw [upE, udN (by decide), upE, udN (by decide), upN (by decide), upE, udE]
            · exact hws.pop.cp (by rw [upN (by decide), upN (by decide), upN (by decide), upN (by decide)])
            · rw [dm]
              refine cst.cp (mem := am_up m 52 (160 * nt + e.length) (toM (-1 - nI w))) hcs.push ?_
              rw [upN (by decide), upN (by decide), upE, upE, upN (by decide)]
          have hop : opc (w :: V) = opc V + (if w = 11 ∨ w = 12 ∨ w = 23 then 1 else 0) := rfl
          rw [hop] at h9
          refine s_aload_n (pc' := 39) dX7_settle_38 rfl lg0 rfl ?_
          refine s_dup (pc' := 40) dX7_settle_39 rfl rfl ?_
          refine s_getIv (pc' := 43) (v := nI (opc V + (if w = 11 ∨ w = 12 ∨ w = 23 then 1 else 0))) dX7_settle_40 rfl flX7_158 ly47 (by decide) rfl (by rw [upE, udN (by decide), upN (by decide), upE, udN (by decide)]; exact h9) ?_
          refine s_aload_n (pc' := 44) dX7_settle_43 rfl lg0 rfl ?_
          refine s_getRv (pc' := 47) (v := .ref 55) dX7_settle_44 rfl flX7_40 ly47 (by decide) rfl rfl ?_
          refine s_aload_n (pc' := 48) dX7_settle_47 rfl lg0 rfl ?_
          refine s_getIv (pc' := 51) (v := nI V.length) dX7_settle_48 rfl flX7_145 ly47 (by decide) rfl (by rw [upE, udN (by decide), upN (by decide), upE, udE]) ?_
          refine s_ialdNv (pc' := 52) (v := dM w) dX7_settle_51 rfl ly55 (by omega) (by decide) (by rw [upN (by decide), upN (by decide), upN (by decide)]; exact hws.top) ?_
          refine s_bipush (pc' := 54) dX7_settle_52 rfl bipush_m22 ?_
          by_cases e11 : w = 11
          · refine s_icmp_eq (pc' := 57) (tgt := 71) dX7_settle_54 rfl (by decide) (fun _ => ?_) (fun c9 => absurd (k2.mpr e11) c9)
            refine s_iconst (pc' := 72) dX7_settle_71 rfl iconst_1 ?_
            refine s_goto (tgt := 76) dX7_settle_72 (by decide) ?_
            refine s_isub (pc' := 77) dX7_settle_76 rfl ?_
            rw [if_pos (Or.inl e11), nI_pred]
            refine s_putI (pc' := 80) (ty := .int) dX7_settle_77 rfl flX7_158 fw7_9 pdI rfl rfl ly47 (by decide) rfl ?_
            refine s_goto (tgt := 0) dX7_settle_80 (by decide) ?_
            exact nx _ rfl
          · skip
            refine s_icmp_eq (pc' := 57) (tgt := 71) dX7_settle_54 rfl (by decide) (fun c9 => absurd c9 (fun h => e11 (k2.mp h))) (fun _ => ?_)
            refine s_aload_n (pc' := 58) dX7_settle_57 rfl lg0 rfl ?_
            refine s_getRv (pc' := 61) (v := .ref 55) dX7_settle_58 rfl flX7_40 ly47 (by decide) rfl rfl ?_
            refine s_aload_n (pc' := 62) dX7_settle_61 rfl lg0 rfl ?_
            refine s_getIv (pc' := 65) (v := nI V.length) dX7_settle_62 rfl flX7_145 ly47 (by decide) rfl (by rw [upE, udN (by decide), upN (by decide), upE, udE]) ?_
            refine s_ialdNv (pc' := 66) (v := dM w) dX7_settle_65 rfl ly55 (by omega) (by decide) (by rw [upN (by decide), upN (by decide), upN (by decide)]; exact hws.top) ?_
            refine s_bipush (pc' := 68) dX7_settle_66 rfl bipush_m28 ?_
            by_cases e23 : w = 23
            · refine s_icmp_ne (pc' := 71) (tgt := 75) dX7_settle_68 rfl (by decide) (fun c9 => absurd (k3.mpr e23) c9) (fun _ => ?_)
              refine s_iconst (pc' := 72) dX7_settle_71 rfl iconst_1 ?_
              refine s_goto (tgt := 76) dX7_settle_72 (by decide) ?_
              refine s_isub (pc' := 77) dX7_settle_76 rfl ?_
              rw [if_pos (Or.inr (Or.inr e23)), nI_pred]
              refine s_putI (pc' := 80) (ty := .int) dX7_settle_77 rfl flX7_158 fw7_9 pdI rfl rfl ly47 (by decide) rfl ?_
              refine s_goto (tgt := 0) dX7_settle_80 (by decide) ?_
              exact nx _ rfl
            · skip
              refine s_icmp_ne (pc' := 71) (tgt := 75) dX7_settle_68 rfl (by decide) (fun _ => ?_) (fun c9 => absurd c9 (fun h => e23 (k3.mp h)))
              refine s_iconst (pc' := 76) dX7_settle_75 rfl iconst_0 ?_
              refine s_isub (pc' := 77) dX7_settle_76 rfl ?_
              rw [if_neg (by omega), Nat.add_zero, show nI (opc V) - 0 = nI (opc V) from Int32.sub_zero _]
              refine s_putI (pc' := 80) (ty := .int) dX7_settle_77 rfl flX7_158 fw7_9 pdI rfl rfl ly47 (by decide) rfl ?_
              refine s_goto (tgt := 0) dX7_settle_80 (by decide) ?_
              exact nx _ rfl
      · skip
        refine s_if_le (pc' := 7) (tgt := 83) dX7_settle_4 rfl (by decide) (fun _ => ?_) (fun c9 => absurd ((nI_leI (a := rkN w) (b := 0) (by omega) (by omega)).mpr (by omega)) c9)
        refine s_vret dX7_settle_83 rfl ?_
        exact fin (by omega)
  exact loop W c mem hP mpf.rf hlen hk rfl
theorem c_X7_settle {z : Zz} {d kc ks : Nat} {mi : MI} {pc pc' : Nat} {L S : List Value} {Q : Option Value → Lay → Mem → Prop} {rf : Nat → Value} {tl : Lay} {mem : Mem}  {sz nt r : Nat} {tp : Nat → Nat} {q : Tk} {W : List Nat} {c : List Int32} {idx : Nat} (hd : decode mi.2.1 pc = .ok (.invokevirtual idx, 3)) (hp : pc + 3 = pc') (hlk : Cond.methodLink mi.1.cls idx yX7_settle ∈ wok) (hdd : 2 + 1 ≤ d) (hcat : (S.map (fun v => v.category)).sum ≤ 8) (hP : isMP mem tp sz nt q W c) (hnt : nt < 6) (hlen : W.length + c.length ≤ 160) (hk : ∀ w ∈ W, wtk w) (hr : r ≤ 7) (K : ∀ mem', isMP mem' tp sz nt q (stl r W c).1 (stl r W c).2 → mpf nt mem mem' → Sim z d kc ks mi pc' L S (LAY rf tl) mem' Q) : Sim z d kc ks mi pc L (.int (nI r) :: .ref 47 :: S) (LAY rf tl) mem Q :=
  s_invV (d2 := 2) hd hp okX7_settle hlk inX7_settle seX7_settle hdd (Nat.zero_add _) (Nat.zero_add _) rfl rfl ly47 rfl hcat (Nat.le_of_ble_eq_true rfl) (m_X7_settle (Nat.le_refl _) hP hnt hlen hk hr K)

