/-! ===== Reader: tokens ===== -/
def isLt (c : Nat) : Bool := decide (97 ≤ c) && decide (c ≤ 122)
def isDg (c : Nat) : Bool := decide (48 ≤ c) && decide (c ≤ 57)
def isBl (c : Nat) : Bool := decide (c = 32) || decide (c = 10)
def bI (b : Bool) : Int32 := if b then 1 else 0
theorem nI_ltL {k c : Nat} (hk : k < 1000) (hc : c < 1000) : (nI k < nI c) = (k < c) := propext (nI_ltI (by omega) (by omega))
set_option maxHeartbeats 4000000 in
theorem m_X1_isLetter {z : Zz} {d : Nat} {Q : Option Value → Lay → Mem → Prop} {lay : Lay} {mem : Mem} {c : Nat} (hdd : 0 ≤ d) (hc : c < 256) (K :  Q (some (.int (bI (isLt c)))) lay mem) : Sim z d 0 0 mX1_isLetter 0 [.int (nI c)] [] (lay) mem Q := by
  have e1 : (nI c < 97) = (c < 97) := nI_ltL (c := 97) (by omega) (by omega)
  have e2 : (122 < nI c) = (122 < c) := nI_ltL (k := 122) (by omega) (by omega)
  unfold isLt bI at K
  refine s_iload_n (pc' := 1) dX1_isLetter_0 rfl lg0 ?_
  refine s_bipush (pc' := 3) dX1_isLetter_1 rfl bipush_97 ?_
  refine s_icmp_lt (pc' := 6) (tgt := 16) dX1_isLetter_3 rfl (by decide) (fun c1 => ?_) (fun c1 => ?_)
  · skip
    rw [e1] at c1
    rw [decide_eq_false (show ¬ 97 ≤ c from by omega), Bool.false_and, if_neg Bool.false_ne_true] at K
    refine s_iconst (pc' := 17) dX1_isLetter_16 rfl iconst_0 ?_
    refine s_iret dX1_isLetter_17 rfl (by decide) ?_
    exact K
  · skip
    rw [e1] at c1
    refine s_iload_n (pc' := 7) dX1_isLetter_6 rfl lg0 ?_
    refine s_bipush (pc' := 9) dX1_isLetter_7 rfl bipush_122 ?_
    refine s_icmp_gt (pc' := 12) (tgt := 16) dX1_isLetter_9 rfl (by decide) (fun c2 => ?_) (fun c2 => ?_)
    · skip
      rw [e2] at c2
      rw [decide_eq_false (show ¬ c ≤ 122 from by omega), Bool.and_false, if_neg Bool.false_ne_true] at K
      refine s_iconst (pc' := 17) dX1_isLetter_16 rfl iconst_0 ?_
      refine s_iret dX1_isLetter_17 rfl (by decide) ?_
      exact K
    · skip
      rw [e2] at c2
      rw [decide_eq_true (show 97 ≤ c from by omega), decide_eq_true (show c ≤ 122 from by omega), Bool.and_true, if_pos rfl] at K
      refine s_iconst (pc' := 13) dX1_isLetter_12 rfl iconst_1 ?_
      refine s_goto (tgt := 17) dX1_isLetter_13 (by decide) ?_
      refine s_iret dX1_isLetter_17 rfl (by decide) ?_
      exact K
theorem c_X1_isLetter {z : Zz} {d kc ks : Nat} {mi : MI} {pc pc' : Nat} {L S : List Value} {Q : Option Value → Lay → Mem → Prop} {lay : Lay} {mem : Mem} {c : Nat} {idx : Nat} (hd : decode mi.2.1 pc = .ok (.invokestatic idx, 3)) (hp : pc + 3 = pc') (hlk : Cond.methodLink mi.1.cls idx yX1_isLetter ∈ wok) (hdd : 0 + 1 ≤ d) (hcat : (S.map (fun v => v.category)).sum ≤ 8) (hc : c < 256) (K :  Sim z d kc ks mi pc' L (.int (bI (isLt c)) :: S) lay mem Q) : Sim z d kc ks mi pc L (.int (nI c) :: S) (lay) mem Q :=
  s_invS (d2 := 0) hd hp okX1_isLetter hlk stX1_isLetter hdd (Nat.zero_add _) (Nat.zero_add _) rfl rfl hcat (Nat.le_of_ble_eq_true rfl) (m_X1_isLetter (Nat.le_refl _) hc K)
set_option maxHeartbeats 4000000 in
theorem m_X1_isDigit {z : Zz} {d : Nat} {Q : Option Value → Lay → Mem → Prop} {lay : Lay} {mem : Mem} {c : Nat} (hdd : 0 ≤ d) (hc : c < 256) (K :  Q (some (.int (bI (isDg c)))) lay mem) : Sim z d 0 0 mX1_isDigit 0 [.int (nI c)] [] (lay) mem Q := by
  have e1 : (nI c < 48) = (c < 48) := nI_ltL (c := 48) (by omega) (by omega)
  have e2 : (57 < nI c) = (57 < c) := nI_ltL (k := 57) (by omega) (by omega)
  unfold isDg bI at K
  refine s_iload_n (pc' := 1) dX1_isDigit_0 rfl lg0 ?_
  refine s_bipush (pc' := 3) dX1_isDigit_1 rfl bipush_48 ?_
  refine s_icmp_lt (pc' := 6) (tgt := 16) dX1_isDigit_3 rfl (by decide) (fun c1 => ?_) (fun c1 => ?_)
  · skip
    rw [e1] at c1
    rw [decide_eq_false (show ¬ 48 ≤ c from by omega), Bool.false_and, if_neg Bool.false_ne_true] at K
    refine s_iconst (pc' := 17) dX1_isDigit_16 rfl iconst_0 ?_
    refine s_iret dX1_isDigit_17 rfl (by decide) ?_
    exact K
  · skip
    rw [e1] at c1
    refine s_iload_n (pc' := 7) dX1_isDigit_6 rfl lg0 ?_
    refine s_bipush (pc' := 9) dX1_isDigit_7 rfl bipush_57 ?_
    refine s_icmp_gt (pc' := 12) (tgt := 16) dX1_isDigit_9 rfl (by decide) (fun c2 => ?_) (fun c2 => ?_)
    · skip
      rw [e2] at c2
      rw [decide_eq_false (show ¬ c ≤ 57 from by omega), Bool.and_false, if_neg Bool.false_ne_true] at K
      refine s_iconst (pc' := 17) dX1_isDigit_16 rfl iconst_0 ?_
      refine s_iret dX1_isDigit_17 rfl (by decide) ?_
      exact K
    · skip
      rw [e2] at c2
      rw [decide_eq_true (show 48 ≤ c from by omega), decide_eq_true (show c ≤ 57 from by omega), Bool.and_true, if_pos rfl] at K
      refine s_iconst (pc' := 13) dX1_isDigit_12 rfl iconst_1 ?_
      refine s_goto (tgt := 17) dX1_isDigit_13 (by decide) ?_
      refine s_iret dX1_isDigit_17 rfl (by decide) ?_
      exact K
theorem c_X1_isDigit {z : Zz} {d kc ks : Nat} {mi : MI} {pc pc' : Nat} {L S : List Value} {Q : Option Value → Lay → Mem → Prop} {lay : Lay} {mem : Mem} {c : Nat} {idx : Nat} (hd : decode mi.2.1 pc = .ok (.invokestatic idx, 3)) (hp : pc + 3 = pc') (hlk : Cond.methodLink mi.1.cls idx yX1_isDigit ∈ wok) (hdd : 0 + 1 ≤ d) (hcat : (S.map (fun v => v.category)).sum ≤ 8) (hc : c < 256) (K :  Sim z d kc ks mi pc' L (.int (bI (isDg c)) :: S) lay mem Q) : Sim z d kc ks mi pc L (.int (nI c) :: S) (lay) mem Q :=
  s_invS (d2 := 0) hd hp okX1_isDigit hlk stX1_isDigit hdd (Nat.zero_add _) (Nat.zero_add _) rfl rfl hcat (Nat.le_of_ble_eq_true rfl) (m_X1_isDigit (Nat.le_refl _) hc K)
/-- how far a run goes -/
def rn (p : Nat → Bool) : Nat → Nat → Nat
  | 0, a => a
  | k + 1, a => if p a then rn p k (a + 1) else a
theorem rn_ge {p : Nat → Bool} : ∀ {k a : Nat}, a ≤ rn p k a
  | 0, a => Nat.le_refl a
  | k + 1, a => by
    rw [rn]
    split
    · exact Nat.le_trans (Nat.le_succ a) rn_ge
    · exact Nat.le_refl a
theorem rn_le {p : Nat → Bool} : ∀ {k a : Nat}, rn p k a ≤ a + k
  | 0, a => Nat.le_refl a
  | k + 1, a => by
    rw [rn]
    split
    · exact Nat.le_trans (rn_le (k := k)) (by omega)
    · omega
theorem rn_t {p : Nat → Bool} {k a : Nat} (h : p a = true) : rn p (k + 1) a = rn p k (a + 1) := by rw [rn, if_pos h]
theorem rn_f {p : Nat → Bool} {k a : Nat} (h : p a = false) : rn p (k + 1) a = a := by rw [rn, h, if_neg Bool.false_ne_true]
theorem rn_in {p : Nat → Bool} : ∀ {k a i : Nat}, a ≤ i → i < rn p k a → p i = true
  | 0, a, i, h1, h2 => absurd (show i < a from h2) (by omega)
  | k + 1, a, i, h1, h2 => by
    by_cases h : p a = true
    · rw [rn_t h] at h2
      rcases Nat.lt_or_ge a i with q | q
      · exact rn_in (show a + 1 ≤ i by omega) h2
      · have : i = a := by omega
        rw [this]; exact h
    · rw [rn_f (Bool.eq_false_iff.mpr h)] at h2
      omega
def numN (tp : Nat → Nat) (s : Nat) : Nat → Nat
  | 0 => 0
  | k + 1 => numN tp s k * 10 + (tp (s + k) - 48)
theorem numN_le {tp : Nat → Nat} {s : Nat} : ∀ {k : Nat}, (∀ i, i < k → tp (s + i) ≤ 57) → numN tp s k + 1 ≤ 10 ^ k
  | 0, _ => Nat.le_refl _
  | k + 1, h => by
    have h1 := numN_le (k := k) (fun i hi => h i (by omega))
    have h2 := h k (by omega)
    rw [numN, Nat.pow_succ]
    omega
/-- the reader but its code: place, start, token, number -/
abbrev Tk : Type := Nat × Nat × Nat × Nat
def isRd (mem : Mem) (tp : Nat → Nat) (sz : Nat) (q : Tk) (c : List Int32) (f : Int32) : Prop := mem 7 1 = nI sz ∧ mem 7 2 = f ∧ mem 7 4 = nI c.length ∧ mem 7 5 = nI q.1 ∧ mem 7 6 = nI q.2.1 ∧ mem 7 7 = nI q.2.2.1 ∧ (q.2.2.1 = 20 → mem 7 8 = nI q.2.2.2) ∧ (∀ i, i < sz → mem 8 i = nI (tp i)) ∧ (∀ k, k < c.length → mem 9 k = c.getD k 0)
def rdf (mem mem' : Mem) : Prop := ∀ j, j ≠ 7 → j ≠ 9 → mem' j = mem j
/-- only the fields from place to number may have changed -/
def tkf (mem mem' : Mem) : Prop := (∀ j, j ≠ 7 → mem' j = mem j) ∧ mem' 7 1 = mem 7 1 ∧ mem' 7 2 = mem 7 2 ∧ mem' 7 4 = mem 7 4
def nmf (mem mem' : Mem) : Prop := (∀ j, j ≠ 7 → mem' j = mem j) ∧ ∀ k, k ≠ 8 → mem' 7 k = mem 7 k
theorem num_step {a c : Nat} (hc : 48 ≤ c) : nI a * 10 + nI c - 48 = nI (a * 10 + (c - 48)) := by
  have h1 : nI a * 10 = nI (a * 10) := (Int32.ofNat_mul a 10).symm
  rw [h1, nI_add, show (48 : Int32) = nI 48 from by decide, pk_sub (by omega)]
  congr 1
  omega
set_option maxHeartbeats 4000000 in
theorem m_X1_numberFromStart {z : Zz} {d : Nat} {Q : Option Value → Lay → Mem → Prop} {rf : Nat → Value} {tl : Lay} {mem : Mem}  {s e sz : Nat} {tp : Nat → Nat} (hdd : 0 ≤ d) (hse : s ≤ e) (hez : e ≤ sz) (hsz : sz ≤ 160) (h5 : mem 7 5 = nI e) (h6 : mem 7 6 = nI s) (ht : ∀ i, i < sz → mem 8 i = nI (tp i)) (hd9 : ∀ i, s ≤ i → i < e → isDg (tp i) = true) (K : ∀ mem', nmf mem mem' → (e - s ≤ 4 → mem' 7 8 = nI (numN tp s (e - s))) → Q (some (.int (if 4 < e - s then 22 else 20))) (LAY rf tl) mem') : Sim z d 0 0 mX1_numberFromStart 0 [.ref 7, .float 0] [] (LAY rf tl) mem Q := by
  refine s_aload_n (pc' := 1) dX1_numberFromStart_0 rfl lg0 rfl ?_
  refine s_getIv (pc' := 4) (v := nI e) dX1_numberFromStart_1 rfl flX1_28 ly7 (by decide) rfl h5 ?_
  refine s_aload_n (pc' := 5) dX1_numberFromStart_4 rfl lg0 rfl ?_
  refine s_getIv (pc' := 8) (v := nI s) dX1_numberFromStart_5 rfl flX1_31 ly7 (by decide) rfl h6 ?_
  refine s_isub (pc' := 9) dX1_numberFromStart_8 rfl ?_
  refine s_iconst (pc' := 10) dX1_numberFromStart_9 rfl iconst_4 ?_
  rw [pk_sub hse]
  refine s_icmp_le (pc' := 13) (tgt := 16) dX1_numberFromStart_10 rfl (by decide) (fun c1 => ?_) (fun c1 => ?_)
  · skip
    have h4 : e - s ≤ 4 := (nI_leI (a := e - s) (b := 4) (by omega) (by omega)).mp c1
    rw [if_neg (by omega)] at K
    refine s_aload_n (pc' := 17) dX1_numberFromStart_16 rfl lg0 rfl ?_
    refine s_iconst (pc' := 18) dX1_numberFromStart_17 rfl iconst_0 ?_
    refine s_putI (pc' := 21) (ty := .int) dX1_numberFromStart_18 rfl flX1_37 fw1_8 pdI rfl rfl ly7 (by decide) rfl ?_
    refine s_aload_n (pc' := 22) dX1_numberFromStart_21 rfl lg0 rfl ?_
    refine s_getIv (pc' := 25) (v := nI s) dX1_numberFromStart_22 rfl flX1_31 ly7 (by decide) rfl h6 ?_
    refine s_istore_n (pc' := 26) dX1_numberFromStart_25 rfl (Nat.le_of_ble_eq_true rfl) rfl ls1 ?_
    have loop : ∀ (k i : Nat) (m : Mem), s + i + k = e → nmf mem m → m 7 8 = nI (numN tp s i) → Sim z d 0 0 mX1_numberFromStart 26 [.ref 7, .int (nI (s + i))] [] (LAY rf tl) m Q := by
      intro k
      induction k with
      | zero =>
        intro i m hi hm h8
        have e5 : m 7 5 = nI e := by rw [hm.2 5 (by decide)]; exact h5
        have hi2 : i = e - s := by omega
        refine s_iload_n (pc' := 27) dX1_numberFromStart_26 rfl lg1 ?_
        refine s_aload_n (pc' := 28) dX1_numberFromStart_27 rfl lg0 rfl ?_
        refine s_getI (pc' := 31) dX1_numberFromStart_28 rfl flX1_28 ly7 (by decide) rfl ?_
        refine s_icmp_ge (pc' := 34) (tgt := 61) dX1_numberFromStart_31 rfl (by decide) (fun _ => ?_) (fun c9 => absurd (by rw [e5]; exact nI_le (by omega) (by omega)) c9)
        refine s_bipush (pc' := 63) dX1_numberFromStart_61 rfl bipush_20 ?_
        refine s_iret dX1_numberFromStart_63 rfl (vp_nar_int _) ?_
        exact K m hm (fun _ => by rw [← hi2]; exact h8)
      | succ k ih =>
        intro i m hi hm h8
        have e5 : m 7 5 = nI e := by rw [hm.2 5 (by decide)]; exact h5
        have ed := hd9 (s + i) (by omega) (by omega)
        have e48 : 48 ≤ tp (s + i) := by
          unfold isDg at ed
          simp only [Bool.and_eq_true, decide_eq_true_eq] at ed
          exact ed.1
        have e9 : m 8 (s + i) = nI (tp (s + i)) := by rw [hm.1 8 (by decide)]; exact ht _ (by omega)
        refine s_iload_n (pc' := 27) dX1_numberFromStart_26 rfl lg1 ?_
        refine s_aload_n (pc' := 28) dX1_numberFromStart_27 rfl lg0 rfl ?_
        refine s_getI (pc' := 31) dX1_numberFromStart_28 rfl flX1_28 ly7 (by decide) rfl ?_
        refine s_icmp_ge (pc' := 34) (tgt := 61) dX1_numberFromStart_31 rfl (by decide) (fun c9 => absurd c9 (by rw [e5]; exact nI_ge (by omega) (by omega))) (fun _ => ?_)
        refine s_aload_n (pc' := 35) dX1_numberFromStart_34 rfl lg0 rfl ?_
        refine s_aload_n (pc' := 36) dX1_numberFromStart_35 rfl lg0 rfl ?_
        refine s_getIv (pc' := 39) (v := nI (numN tp s i)) dX1_numberFromStart_36 rfl flX1_37 ly7 (by decide) rfl h8 ?_
        refine s_bipush (pc' := 41) dX1_numberFromStart_39 rfl bipush_10 ?_
        refine s_imul (pc' := 42) dX1_numberFromStart_41 rfl ?_
        refine s_aload_n (pc' := 43) dX1_numberFromStart_42 rfl lg0 rfl ?_
        refine s_getRv (pc' := 46) (v := .ref 8) dX1_numberFromStart_43 rfl flX1_9 ly7 (by decide) rfl rfl ?_
        refine s_iload_n (pc' := 47) dX1_numberFromStart_46 rfl lg1 ?_
        refine s_ialdNv (pc' := 48) (v := nI (tp (s + i))) dX1_numberFromStart_47 rfl ly8 (by omega) (by decide) e9 ?_
        refine s_iadd (pc' := 49) dX1_numberFromStart_48 rfl ?_
        refine s_bipush (pc' := 51) dX1_numberFromStart_49 rfl bipush_48 ?_
        refine s_isub (pc' := 52) dX1_numberFromStart_51 rfl ?_
        rw [num_step e48]
        refine s_putI (pc' := 55) (ty := .int) dX1_numberFromStart_52 rfl flX1_37 fw1_8 pdI rfl rfl ly7 (by decide) rfl ?_
        refine s_iincN (pc' := 58) dX1_numberFromStart_55 rfl lg1 rfl ls1 ?_
        refine s_goto (tgt := 26) dX1_numberFromStart_58 (by decide) ?_
        rw [show s + i + 1 = s + (i + 1) from rfl]
        refine ih (i + 1) _ (by omega) ⟨fun j hj => ?_, fun q hq => ?_⟩ ?_
        · rw [upN hj]; exact hm.1 j hj
        · rw [upE, udN hq]; exact hm.2 q hq
        · rw [upE, udE]; rfl
    exact loop (e - s) 0 _ (by omega) ⟨fun j hj => upN hj, fun q hq => by rw [upE, udN hq]⟩ (by rw [upE, udE]; rfl)
  · skip
    have h4 : 4 < e - s := by
      rcases Nat.lt_or_ge 4 (e - s) with q | q
      · exact q
      · exact absurd (nI_le (a := e - s) (b := 4) q (by omega)) c1
    rw [if_pos h4] at K
    refine s_bipush (pc' := 15) dX1_numberFromStart_13 rfl bipush_22 ?_
    refine s_iret dX1_numberFromStart_15 rfl (vp_nar_int _) ?_
    exact K mem ⟨fun _ _ => rfl, fun _ _ => rfl⟩ (fun q => absurd q (by omega))
theorem c_X1_numberFromStart {z : Zz} {d kc ks : Nat} {mi : MI} {pc pc' : Nat} {L S : List Value} {Q : Option Value → Lay → Mem → Prop} {rf : Nat → Value} {tl : Lay} {mem : Mem}  {s e sz : Nat} {tp : Nat → Nat} {idx : Nat} (hd : decode mi.2.1 pc = .ok (.invokevirtual idx, 3)) (hp : pc + 3 = pc') (hlk : Cond.methodLink mi.1.cls idx yX1_numberFromStart ∈ wok) (hdd : 0 + 1 ≤ d) (hcat : (S.map (fun v => v.category)).sum ≤ 8) (hse : s ≤ e) (hez : e ≤ sz) (hsz : sz ≤ 160) (h5 : mem 7 5 = nI e) (h6 : mem 7 6 = nI s) (ht : ∀ i, i < sz → mem 8 i = nI (tp i)) (hd9 : ∀ i, s ≤ i → i < e → isDg (tp i) = true) (K : ∀ mem', nmf mem mem' → (e - s ≤ 4 → mem' 7 8 = nI (numN tp s (e - s))) → Sim z d kc ks mi pc' L (.int (if 4 < e - s then 22 else 20) :: S) (LAY rf tl) mem' Q) : Sim z d kc ks mi pc L (.ref 7 :: S) (LAY rf tl) mem Q :=
  s_invV (d2 := 0) hd hp okX1_numberFromStart hlk inX1_numberFromStart seX1_numberFromStart hdd (Nat.zero_add _) (Nat.zero_add _) rfl rfl ly7 rfl hcat (Nat.le_of_ble_eq_true rfl) (m_X1_numberFromStart (Nat.le_refl _) hse hez hsz h5 h6 ht hd9 K)

