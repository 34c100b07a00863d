/-! ===== jars: the fewest ===== -/
def h0 : Nat → Int32 := fun _ => 0
/-- one jar a piece is always enough -/
theorem fst_some {f : Nat → Option (List Nat)} : ∀ {m i : Nat}, i < m → (f i).isSome = true → (fst f m).isSome = true
  | 0, i, hi, _ => absurd hi (Nat.not_lt_zero i)
  | m + 1, i, hi, h => by
    rw [fst]
    by_cases hs : (fst f m).isSome = true
    · rw [if_pos hs]; exact hs
    · rw [if_neg hs]
      rcases Nat.lt_or_ge i m with q | q
      · exact absurd (fst_some q h) hs
      · have : i = m := by omega
        rw [← this]; exact h
theorem fil_some {ca : Nat → Int32} {lf : Int32} {mo : Nat} : ∀ (k p u : Nat) (h : Nat → Int32), p + k ≤ mo → u ≤ p → (∀ j, u ≤ j → h j = 0) → (fil ca lf mo k p u h).isSome = true
  | 0, _, _, _, _, _, _ => rfl
  | k + 1, p, u, h, hp, hu, h2 => by
    by_cases hl : nI p = lf
    · rw [fil_l hl]; exact fil_some k (p + 1) u h (by omega) (by omega) h2
    · rw [fil_s hl]
      refine fst_some (i := u) (by omega) ?_
      rw [h2 u (Nat.le_refl u), if_pos (by rw [Int32.zero_and]), Option.isSome_map]
      refine fil_some k (p + 1) _ _ (by omega) (by omega) (fun j hj => ?_)
      rw [udN (by omega)]
      exact h2 j (by omega)
def fwP (ca : Nat → Int32) (n : Nat) (lf : Int32) (m : Nat) : Bool := (fil ca lf m n 0 0 h0).isSome
def fwN (ca : Nat → Int32) (n : Nat) (lf : Int32) : Nat := fk (fwP ca n lf) (n + 1)
theorem fwN_le {ca : Nat → Int32} {n : Nat} {lf : Int32} : fwN ca n lf ≤ n := by
  unfold fwN
  rw [fk]
  have h := fk_le (fwP ca n lf) n
  by_cases q : fk (fwP ca n lf) n < n
  · rw [if_pos q]; omega
  · rw [if_neg q, if_pos (show fwP ca n lf n = true from fil_some n 0 0 h0 (by omega) (by omega) (fun _ _ => rfl))]
    exact Nat.le_refl n
def fwL (ca : Nat → Int32) (n : Nat) (lf : Int32) : List Nat := (fil ca lf (fwN ca n lf) n 0 0 h0).getD []
theorem fst_cong {f g : Nat → Option (List Nat)} : ∀ {m : Nat}, (∀ j, j < m → f j = g j) → fst f m = fst g m
  | 0, _ => rfl
  | m + 1, h => by rw [fst, fst, fst_cong (fun j hj => h j (by omega)), h m (by omega)]
theorem fil_cong {ca : Nat → Int32} {lf : Int32} {mo : Nat} (hmo : mo ≤ 8) : ∀ (k p u : Nat) (h h' : Nat → Int32), (∀ j, j < 8 → h j = h' j) → fil ca lf mo k p u h = fil ca lf mo k p u h'
  | 0, _, _, _, _, _ => rfl
  | k + 1, p, u, h, h', e => by
    by_cases hl : nI p = lf
    · rw [fil_l hl, fil_l hl]; exact fil_cong hmo k (p + 1) u h h' e
    · rw [fil_s hl, fil_s hl]
      refine fst_cong (fun j hj => ?_)
      have ej := e j (by omega)
      show (if h j &&& ca p = 0 then _ else none) = (if h' j &&& ca p = 0 then _ else none)
      rw [ej, fil_cong hmo k (p + 1) (max u (j + 1)) (upd h j (h' j ||| b1I p)) (upd h' j (h' j ||| b1I p)) (fun q hq => by
        by_cases hqj : q = j
        · rw [hqj, udE, udE]
        · rw [udN hqj, udN hqj]; exact e q hq)]
set_option maxHeartbeats 4000000 in
theorem m_X0_fewestWithout {z : Zz} {d : Nat} {Q : Option Value → Lay → Mem → Prop} {rf : Nat → Value} {tl : Lay} {mem : Mem}  {n : Nat} {ca : Nat → Int32} {lf : Int32} (hdd : 11 ≤ d) (h8 : n ≤ 8) (hz : mem 34 3 = nI n) (hc : ∀ a, a < n → mem 35 a = ca a) (K : ∀ mem', (∀ c, c ≠ 36 → c ≠ 37 → mem' c = mem c) → (lf = -1 → ∀ q, q < n → mem' 37 q = nI ((fwL ca n lf).getD q 0)) → Q (some (.int (nI (fwN ca n lf)))) (LAY rf tl) mem') : Sim z d 0 0 mX0_fewestWithout 0 [.ref 34, .int lf, .float 0] [] (LAY rf tl) mem Q := by
  refine s_iconst (pc' := 1) dX0_fewestWithout_0 rfl iconst_0 ?_
  refine s_istore_n (pc' := 2) dX0_fewestWithout_1 rfl (Nat.le_of_ble_eq_true rfl) rfl ls2 ?_
  have loop : ∀ (k i : Nat) (m : Mem), i + k = n + 1 → (∀ c, c ≠ 36 → c ≠ 37 → m c = mem c) → (∀ q, q < i → fwP ca n lf q = false) → Sim z d 0 0 mX0_fewestWithout 2 [.ref 34, .int lf, .int (nI i)] [] (LAY rf tl) m Q := by
    intro k
    induction k with
    | zero =>
      intro i m hi g1 g2
      have hs : fwP ca n lf n = true := fil_some n 0 0 h0 (by omega) (by omega) (fun _ _ => rfl)
      rw [g2 n (by omega)] at hs
      exact absurd hs Bool.false_ne_true
    | succ k ih =>
      intro i m hi g1 g2
      have hz2 : m 34 3 = nI n := by rw [g1 34 (by decide) (by decide)]; exact hz
      refine s_iload_n (pc' := 3) dX0_fewestWithout_2 rfl lg2 ?_
      refine s_aload_n (pc' := 4) dX0_fewestWithout_3 rfl lg0 rfl ?_
      refine s_getI (pc' := 7) dX0_fewestWithout_4 rfl flX0_21 ly34 (by decide) rfl ?_
      refine s_icmp_gt (pc' := 10) (tgt := 37) dX0_fewestWithout_7 rfl (by decide) (fun c9 => absurd c9 (by rw [hz2]; exact nI_nlt (by omega) (by omega))) (fun _ => ?_)
      refine s_aload_n (pc' := 11) dX0_fewestWithout_10 rfl lg0 rfl ?_
      refine s_getRv (pc' := 14) (v := .ref 36) dX0_fewestWithout_11 rfl flX0_15 ly34 (by decide) rfl rfl ?_
      refine s_iconst (pc' := 15) dX0_fewestWithout_14 rfl iconst_0 ?_
      refine c_J7_fill_53178  (pc' := 18) dX0_fewestWithout_15 rfl lkX0_28 (by omega) (Nat.le_of_ble_eq_true rfl) ly36 (by decide) (fun m1 r1 r2 => ?_)
      refine s_aload_n (pc' := 19) dX0_fewestWithout_18 rfl lg0 rfl ?_
      refine s_iconst (pc' := 20) dX0_fewestWithout_19 rfl iconst_0 ?_
      refine s_iload_n (pc' := 21) dX0_fewestWithout_20 rfl lg1 ?_
      refine s_iconst (pc' := 22) dX0_fewestWithout_21 rfl iconst_0 ?_
      refine s_iload_n (pc' := 23) dX0_fewestWithout_22 rfl lg2 ?_
      refine s_invS (d2 := 10) (pc' := 26) dX0_fewestWithout_23 rfl okX0_isFilled lkX0_38 stX0_isFilled (by omega) (Nat.zero_add _) (Nat.zero_add _) rfl rfl (Nat.le_of_ble_eq_true rfl) (Nat.le_of_ble_eq_true rfl) (fi_all (ca := ca) (n := n) (mo := i) (by omega) h8 n 0 0 10 m1 _ (by omega) (by omega) (by omega) ?_ ?_ ?_ (fun m2 e1 e2 e3 e4 => ?_))
      · rw [r1 34 (by decide)]; exact hz2
      · intro a ha; rw [r1 35 (by decide), g1 35 (by decide) (by decide)]; exact hc a ha
      · intro j hj q _ _; rw [r2 j hj]; exact Int32.zero_and
      · have ef : fil ca lf i n 0 0 (m1 36) = fil ca lf i n 0 0 h0 := fil_cong (by omega) n 0 0 _ _ (fun j hj => r2 j hj)
        rw [ef] at e3 e4 ⊢
        have g1' : ∀ c, c ≠ 36 → c ≠ 37 → m2 c = mem c := fun c q1 q2 => by rw [e1 c q1 q2, r1 c q1]; exact g1 c q1 q2
        cases hs : fil ca lf i n 0 0 h0 with
        | none =>
          refine s_if_eq (pc' := 29) (tgt := 31) dX0_fewestWithout_26 rfl (by decide) (fun _ => ?_) (fun c9 => absurd (by decide) c9)
          refine s_iincN (pc' := 34) dX0_fewestWithout_31 rfl lg2 rfl ls2 ?_
          refine s_goto (tgt := 2) dX0_fewestWithout_34 (by decide) ?_
          refine ih (i + 1) m2 (by omega) g1' (fun q hq => ?_)
          rcases Nat.lt_or_ge q i with q1 | q1
          · exact g2 q q1
          · have : q = i := by omega
            rw [this, fwP, hs]; rfl
        | some l =>
          have he : fwN ca n lf = i := fk_at g2 (by rw [fwP, hs]; rfl) (by omega)
          have hl : fwL ca n lf = l := by rw [fwL, he, hs]; rfl
          rw [hl, he] at K
          refine s_if_eq (pc' := 29) (tgt := 31) dX0_fewestWithout_26 rfl (by decide) (fun c9 => absurd c9 ((by rw [show someI (some l) = 1 from rfl]; decide))) (fun _ => ?_)
          refine s_iload_n (pc' := 30) dX0_fewestWithout_29 rfl lg2 ?_
          refine s_iret dX0_fewestWithout_30 rfl (vp_nar_int _) ?_
          exact K m2 g1' (fun hlf q hq => e4 l hs hlf q (Nat.zero_le q) hq)
  exact loop (n + 1) 0 mem (by omega) (fun _ _ _ => rfl) (fun q hq => absurd hq (Nat.not_lt_zero q))
theorem c_X0_fewestWithout {z : Zz} {d kc ks : Nat} {mi : MI} {pc pc' : Nat} {L S : List Value} {Q : Option Value → Lay → Mem → Prop} {rf : Nat → Value} {tl : Lay} {mem : Mem}  {n : Nat} {ca : Nat → Int32} {lf : Int32} {idx : Nat} (hd : decode mi.2.1 pc = .ok (.invokevirtual idx, 3)) (hp : pc + 3 = pc') (hlk : Cond.methodLink mi.1.cls idx yX0_fewestWithout ∈ wok) (hdd : 11 + 1 ≤ d) (hcat : (S.map (fun v => v.category)).sum ≤ 8) (h8 : n ≤ 8) (hz : mem 34 3 = nI n) (hc : ∀ a, a < n → mem 35 a = ca a) (K : ∀ mem', (∀ c, c ≠ 36 → c ≠ 37 → mem' c = mem c) → (lf = -1 → ∀ q, q < n → mem' 37 q = nI ((fwL ca n lf).getD q 0)) → Sim z d kc ks mi pc' L (.int (nI (fwN ca n lf)) :: S) (LAY rf tl) mem' Q) : Sim z d kc ks mi pc L (.int lf :: .ref 34 :: S) (LAY rf tl) mem Q :=
  s_invV (d2 := 11) hd hp okX0_fewestWithout hlk inX0_fewestWithout seX0_fewestWithout hdd (Nat.zero_add _) (Nat.zero_add _) rfl rfl ly34 rfl hcat (Nat.le_of_ble_eq_true rfl) (m_X0_fewestWithout (Nat.le_refl _) h8 hz hc K)
def jfr2 (mem mem' : Mem) : Prop := ∀ c, c ≠ 36 → c ≠ 37 → mem' c = mem c
def dgL (l : List Nat) : Nat → Int32
  | 0 => 0
  | i + 1 => dgL l i * 10 + nI (l.getD i 0)
set_option maxHeartbeats 4000000 in
theorem m_X0_digits {z : Zz} {d : Nat} {Q : Option Value → Lay → Mem → Prop} {rf : Nat → Value} {tl : Lay} {mem : Mem}  {n : Nat} {ca : Nat → Int32} (hdd : 12 ≤ d) (h8 : n ≤ 8) (hz : mem 34 3 = nI n) (hc : ∀ a, a < n → mem 35 a = ca a) (K : ∀ mem', jfr2 mem mem' → Q (some (.int (dgL (fwL ca n (-1)) n))) (LAY rf tl) mem') : Sim z d 0 0 mX0_digits 0 [.ref 34, .float 0, .float 0] [] (LAY rf tl) mem Q := by
  refine s_aload_n (pc' := 1) dX0_digits_0 rfl lg0 rfl ?_
  refine s_iconst (pc' := 2) dX0_digits_1 rfl iconst_m1 ?_
  refine c_X0_fewestWithout  (pc' := 5) dX0_digits_2 rfl lkX0_51 (by omega) (Nat.le_of_ble_eq_true rfl) h8 hz hc (fun m1 r1 r2 => ?_)
  have r3 := r2 rfl
  have hz1 : m1 34 3 = nI n := by rw [r1 34 (by decide) (by decide)]; exact hz
  refine s_pop (pc' := 6) dX0_digits_5 rfl rfl ?_
  refine s_iconst (pc' := 7) dX0_digits_6 rfl iconst_0 ?_
  refine s_istore_n (pc' := 8) dX0_digits_7 rfl (Nat.le_of_ble_eq_true rfl) rfl ls1 ?_
  refine s_iconst (pc' := 9) dX0_digits_8 rfl iconst_0 ?_
  refine s_istore_n (pc' := 10) dX0_digits_9 rfl (Nat.le_of_ble_eq_true rfl) rfl ls2 ?_
  have loop : ∀ (k i : Nat), i + k = n → Sim z d 0 0 mX0_digits 10 [.ref 34, .int (dgL (fwL ca n (-1)) i), .int (nI i)] [] (LAY rf tl) m1 Q := by
    intro k
    induction k with
    | zero =>
      intro i hi
      have : i = n := by omega
      subst this
      refine s_iload_n (pc' := 11) dX0_digits_10 rfl lg2 ?_
      refine s_aload_n (pc' := 12) dX0_digits_11 rfl lg0 rfl ?_
      refine s_getI (pc' := 15) dX0_digits_12 rfl flX0_21 ly34 (by decide) rfl ?_
      refine s_icmp_ge (pc' := 18) (tgt := 36) dX0_digits_15 rfl (by decide) (fun _ => ?_) (fun c9 => absurd (by rw [hz1]; exact nI_le (by omega) (by omega)) c9)
      refine s_iload_n (pc' := 37) dX0_digits_36 rfl lg1 ?_
      refine s_iret dX0_digits_37 rfl (vp_nar_int _) ?_
      exact K m1 r1
    | succ k ih =>
      intro i hi
      refine s_iload_n (pc' := 11) dX0_digits_10 rfl lg2 ?_
      refine s_aload_n (pc' := 12) dX0_digits_11 rfl lg0 rfl ?_
      refine s_getI (pc' := 15) dX0_digits_12 rfl flX0_21 ly34 (by decide) rfl ?_
      refine s_icmp_ge (pc' := 18) (tgt := 36) dX0_digits_15 rfl (by decide) (fun c9 => absurd c9 (by rw [hz1]; exact nI_ge (by omega) (by omega))) (fun _ => ?_)
      refine s_iload_n (pc' := 19) dX0_digits_18 rfl lg1 ?_
      refine s_bipush (pc' := 21) dX0_digits_19 rfl bipush_10 ?_
      refine s_imul (pc' := 22) dX0_digits_21 rfl ?_
      refine s_aload_n (pc' := 23) dX0_digits_22 rfl lg0 rfl ?_
      refine s_getRv (pc' := 26) (v := .ref 37) dX0_digits_23 rfl flX0_18 ly34 (by decide) rfl rfl ?_
      refine s_iload_n (pc' := 27) dX0_digits_26 rfl lg2 ?_
      refine s_ialdNv (pc' := 28) (v := nI ((fwL ca n (-1)).getD i 0)) dX0_digits_27 rfl ly37 (by omega) (by decide) (r3 i (by omega)) ?_
      refine s_iadd (pc' := 29) dX0_digits_28 rfl ?_
      refine s_istore_n (pc' := 30) dX0_digits_29 rfl (Nat.le_of_ble_eq_true rfl) rfl ls1 ?_
      refine s_iincN (pc' := 33) dX0_digits_30 rfl lg2 rfl ls2 ?_
      refine s_goto (tgt := 10) dX0_digits_33 (by decide) ?_
      exact ih (i + 1) (by omega)
  exact loop n 0 (by omega)
theorem c_X0_digits {z : Zz} {d kc ks : Nat} {mi : MI} {pc pc' : Nat} {L S : List Value} {Q : Option Value → Lay → Mem → Prop} {rf : Nat → Value} {tl : Lay} {mem : Mem}  {n : Nat} {ca : Nat → Int32} {idx : Nat} (hd : decode mi.2.1 pc = .ok (.invokevirtual idx, 3)) (hp : pc + 3 = pc') (hlk : Cond.methodLink mi.1.cls idx yX0_digits ∈ wok) (hdd : 12 + 1 ≤ d) (hcat : (S.map (fun v => v.category)).sum ≤ 8) (h8 : n ≤ 8) (hz : mem 34 3 = nI n) (hc : ∀ a, a < n → mem 35 a = ca a) (K : ∀ mem', jfr2 mem mem' → Sim z d kc ks mi pc' L (.int (dgL (fwL ca n (-1)) n) :: S) (LAY rf tl) mem' Q) : Sim z d kc ks mi pc L (.ref 34 :: S) (LAY rf tl) mem Q :=
  s_invV (d2 := 12) hd hp okX0_digits hlk inX0_digits seX0_digits hdd (Nat.zero_add _) (Nat.zero_add _) rfl rfl ly34 rfl hcat (Nat.le_of_ble_eq_true rfl) (m_X0_digits (Nat.le_refl _) h8 hz hc K)
/-- which is left out, and the fewest so far -/
def loS (ca : Nat → Int32) (n : Nat) : Nat → Int32 × Nat
  | 0 => (-1, n + 1)
  | i + 1 => if fwN ca n (nI i) < (loS ca n i).2 then (nI i, fwN ca n (nI i)) else loS ca n i
theorem loS_le {ca : Nat → Int32} {n : Nat} : ∀ i, (loS ca n i).2 ≤ n + 1
  | 0 => Nat.le_refl _
  | i + 1 => by
    rw [loS]
    split
    · exact Nat.le_succ_of_le fwN_le
    · exact loS_le i
set_option maxHeartbeats 4000000 in
theorem m_X0_leftOut {z : Zz} {d : Nat} {Q : Option Value → Lay → Mem → Prop} {rf : Nat → Value} {tl : Lay} {mem : Mem}  {n : Nat} {ca : Nat → Int32} (hdd : 12 ≤ d) (h8 : n ≤ 8) (hz : mem 34 3 = nI n) (hc : ∀ a, a < n → mem 35 a = ca a) (K : ∀ mem', jfr2 mem mem' → Q (some (.int (loS ca n n).1)) (LAY rf tl) mem') : Sim z d 0 0 mX0_leftOut 0 [.ref 34, .float 0, .float 0, .float 0, .float 0] [] (LAY rf tl) mem Q := by
  refine s_iconst (pc' := 1) dX0_leftOut_0 rfl iconst_m1 ?_
  refine s_istore_n (pc' := 2) dX0_leftOut_1 rfl (Nat.le_of_ble_eq_true rfl) rfl ls1 ?_
  refine s_aload_n (pc' := 3) dX0_leftOut_2 rfl lg0 rfl ?_
  refine s_getIv (pc' := 6) (v := nI n) dX0_leftOut_3 rfl flX0_21 ly34 (by decide) rfl hz ?_
  refine s_iconst (pc' := 7) dX0_leftOut_6 rfl iconst_1 ?_
  refine s_iadd (pc' := 8) dX0_leftOut_7 rfl ?_
  rw [nI_1]
  refine s_istore_n (pc' := 9) dX0_leftOut_8 rfl (Nat.le_of_ble_eq_true rfl) rfl ls2 ?_
  refine s_iconst (pc' := 10) dX0_leftOut_9 rfl iconst_0 ?_
  refine s_istore_n (pc' := 11) dX0_leftOut_10 rfl (Nat.le_of_ble_eq_true rfl) rfl ls3 ?_
  have loop : ∀ (k i : Nat) (x : Value) (m : Mem), i + k = n → jfr2 mem m → Sim z d 0 0 mX0_leftOut 11 [.ref 34, .int (loS ca n i).1, .int (nI (loS ca n i).2), .int (nI i), x] [] (LAY rf tl) m Q := by
    intro k
    induction k with
    | zero =>
      intro i x m hi g1
      have : i = n := by omega
      subst this
      have hz1 : m 34 3 = nI i := by rw [g1 34 (by decide) (by decide)]; exact hz
      refine s_iload_n (pc' := 12) dX0_leftOut_11 rfl lg3 ?_
      refine s_aload_n (pc' := 13) dX0_leftOut_12 rfl lg0 rfl ?_
      refine s_getI (pc' := 16) dX0_leftOut_13 rfl flX0_21 ly34 (by decide) rfl ?_
      refine s_icmp_ge (pc' := 19) (tgt := 43) dX0_leftOut_16 rfl (by decide) (fun _ => ?_) (fun c9 => absurd (by rw [hz1]; exact nI_le (by omega) (by omega)) c9)
      refine s_iload_n (pc' := 44) dX0_leftOut_43 rfl lg1 ?_
      refine s_iret dX0_leftOut_44 rfl (vp_nar_int _) ?_
      exact K m g1
    | succ k ih =>
      intro i x m hi g1
      have hz1 : m 34 3 = nI n := by rw [g1 34 (by decide) (by decide)]; exact hz
      have hc1 : ∀ a, a < n → m 35 a = ca a := fun a ha => by rw [g1 35 (by decide) (by decide)]; exact hc a ha
      refine s_iload_n (pc' := 12) dX0_leftOut_11 rfl lg3 ?_
      refine s_aload_n (pc' := 13) dX0_leftOut_12 rfl lg0 rfl ?_
      refine s_getI (pc' := 16) dX0_leftOut_13 rfl flX0_21 ly34 (by decide) rfl ?_
      refine s_icmp_ge (pc' := 19) (tgt := 43) dX0_leftOut_16 rfl (by decide) (fun c9 => absurd c9 (by rw [hz1]; exact nI_ge (by omega) (by omega))) (fun _ => ?_)
      refine s_aload_n (pc' := 20) dX0_leftOut_19 rfl lg0 rfl ?_
      refine s_iload_n (pc' := 21) dX0_leftOut_20 rfl lg3 ?_
      refine c_X0_fewestWithout  (pc' := 24) dX0_leftOut_21 rfl lkX0_51 (by omega) (Nat.le_of_ble_eq_true rfl) h8 hz1 hc1 (fun m1 r1 r2 => ?_)
      have g2 : jfr2 mem m1 := fun c q1 q2 => (r1 c q1 q2).trans (g1 c q1 q2)
      have l1 := fwN_le (ca := ca) (n := n) (lf := nI i)
      have l2 := loS_le (ca := ca) (n := n) i
      refine s_istore (pc' := 26) dX0_leftOut_24 rfl (Nat.le_of_ble_eq_true rfl) rfl ls4 ?_
      refine s_iload (pc' := 28) dX0_leftOut_26 rfl lg4 ?_
      refine s_iload_n (pc' := 29) dX0_leftOut_28 rfl lg2 ?_
      rcases Nat.lt_or_ge (fwN ca n (nI i)) (loS ca n i).2 with q | q
      · have := ih (i + 1) (.int (nI (fwN ca n (nI i)))) m1 (by omega) g2
        rw [loS, if_pos q] at this
        refine s_icmp_ge (pc' := 32) (tgt := 37) dX0_leftOut_29 rfl (by decide) (fun c9 => absurd c9 (nI_ge q (by omega))) (fun _ => ?_)
        refine s_iload_n (pc' := 33) dX0_leftOut_32 rfl lg3 ?_
        refine s_istore_n (pc' := 34) dX0_leftOut_33 rfl (Nat.le_of_ble_eq_true rfl) rfl ls1 ?_
        refine s_iload (pc' := 36) dX0_leftOut_34 rfl lg4 ?_
        refine s_istore_n (pc' := 37) dX0_leftOut_36 rfl (Nat.le_of_ble_eq_true rfl) rfl ls2 ?_
        refine s_iincN (pc' := 40) dX0_leftOut_37 rfl lg3 rfl ls3 ?_
        refine s_goto (tgt := 11) dX0_leftOut_40 (by decide) ?_
        exact this
      · have := ih (i + 1) (.int (nI (fwN ca n (nI i)))) m1 (by omega) g2
        rw [loS, if_neg (by omega)] at this
        refine s_icmp_ge (pc' := 32) (tgt := 37) dX0_leftOut_29 rfl (by decide) (fun _ => ?_) (fun c9 => absurd (nI_le q (by omega)) c9)
        refine s_iincN (pc' := 40) dX0_leftOut_37 rfl lg3 rfl ls3 ?_
        refine s_goto (tgt := 11) dX0_leftOut_40 (by decide) ?_
        exact this
  exact loop n 0 _ mem (by omega) (fun _ _ _ => rfl)
theorem c_X0_leftOut {z : Zz} {d kc ks : Nat} {mi : MI} {pc pc' : Nat} {L S : List Value} {Q : Option Value → Lay → Mem → Prop} {rf : Nat → Value} {tl : Lay} {mem : Mem}  {n : Nat} {ca : Nat → Int32} {idx : Nat} (hd : decode mi.2.1 pc = .ok (.invokevirtual idx, 3)) (hp : pc + 3 = pc') (hlk : Cond.methodLink mi.1.cls idx yX0_leftOut ∈ wok) (hdd : 12 + 1 ≤ d) (hcat : (S.map (fun v => v.category)).sum ≤ 8) (h8 : n ≤ 8) (hz : mem 34 3 = nI n) (hc : ∀ a, a < n → mem 35 a = ca a) (K : ∀ mem', jfr2 mem mem' → Sim z d kc ks mi pc' L (.int (loS ca n n).1 :: S) (LAY rf tl) mem' Q) : Sim z d kc ks mi pc L (.ref 34 :: S) (LAY rf tl) mem Q :=
  s_invV (d2 := 12) hd hp okX0_leftOut hlk inX0_leftOut seX0_leftOut hdd (Nat.zero_add _) (Nat.zero_add _) rfl rfl ly34 rfl hcat (Nat.le_of_ble_eq_true rfl) (m_X0_leftOut (Nat.le_refl _) h8 hz hc K)
set_option maxHeartbeats 4000000 in
theorem m_X0_fewestWithoutLeftOut {z : Zz} {d : Nat} {Q : Option Value → Lay → Mem → Prop} {rf : Nat → Value} {tl : Lay} {mem : Mem}  {n : Nat} {ca : Nat → Int32} (hdd : 13 ≤ d) (h8 : n ≤ 8) (hz : mem 34 3 = nI n) (hc : ∀ a, a < n → mem 35 a = ca a) (K : ∀ mem', jfr2 mem mem' → Q (some (.int (nI (fwN ca n (loS ca n n).1)))) (LAY rf tl) mem') : Sim z d 0 0 mX0_fewestWithoutLeftOut 0 [.ref 34] [] (LAY rf tl) mem Q := by
  refine s_aload_n (pc' := 1) dX0_fewestWithoutLeftOut_0 rfl lg0 rfl ?_
  refine s_aload_n (pc' := 2) dX0_fewestWithoutLeftOut_1 rfl lg0 rfl ?_
  refine c_X0_leftOut  (pc' := 5) dX0_fewestWithoutLeftOut_2 rfl lkX0_55 (by omega) (Nat.le_of_ble_eq_true rfl) h8 hz hc (fun m1 r1 => ?_)
  have hz1 : m1 34 3 = nI n := by rw [r1 34 (by decide) (by decide)]; exact hz
  have hc1 : ∀ a, a < n → m1 35 a = ca a := fun a ha => by rw [r1 35 (by decide) (by decide)]; exact hc a ha
  refine c_X0_fewestWithout  (pc' := 8) dX0_fewestWithoutLeftOut_5 rfl lkX0_51 (by omega) (Nat.le_of_ble_eq_true rfl) h8 hz1 hc1 (fun m2 r2 _ => ?_)
  refine s_iret dX0_fewestWithoutLeftOut_8 rfl (vp_nar_int _) ?_
  exact K m2 (fun c q1 q2 => (r2 c q1 q2).trans (r1 c q1 q2))
theorem c_X0_fewestWithoutLeftOut {z : Zz} {d kc ks : Nat} {mi : MI} {pc pc' : Nat} {L S : List Value} {Q : Option Value → Lay → Mem → Prop} {rf : Nat → Value} {tl : Lay} {mem : Mem}  {n : Nat} {ca : Nat → Int32} {idx : Nat} (hd : decode mi.2.1 pc = .ok (.invokevirtual idx, 3)) (hp : pc + 3 = pc') (hlk : Cond.methodLink mi.1.cls idx yX0_fewestWithoutLeftOut ∈ wok) (hdd : 13 + 1 ≤ d) (hcat : (S.map (fun v => v.category)).sum ≤ 8) (h8 : n ≤ 8) (hz : mem 34 3 = nI n) (hc : ∀ a, a < n → mem 35 a = ca a) (K : ∀ mem', jfr2 mem mem' → Sim z d kc ks mi pc' L (.int (nI (fwN ca n (loS ca n n).1)) :: S) (LAY rf tl) mem' Q) : Sim z d kc ks mi pc L (.ref 34 :: S) (LAY rf tl) mem Q :=
  s_invV (d2 := 13) hd hp okX0_fewestWithoutLeftOut hlk inX0_fewestWithoutLeftOut seX0_fewestWithoutLeftOut hdd (Nat.zero_add _) (Nat.zero_add _) rfl rfl ly34 rfl hcat (Nat.le_of_ble_eq_true rfl) (m_X0_fewestWithoutLeftOut (Nat.le_refl _) h8 hz hc K)
def jarR (σ : Nat → Nat → Int32) (n : Nat) (td : Int32) (P : Nat → List Int32) (what : Int32) : Int32 := if inB what 0 3 = 0 then -2 else if what = 0 then nI (fwN (caI σ n td P) n (-1)) else if what = 1 then dgL (fwL (caI σ n td P) n (-1)) n else if what = 2 then (loS (caI σ n td P) n n).1 else nI (fwN (caI σ n td P) n (loS (caI σ n td P) n n).1)
set_option maxHeartbeats 4000000 in
theorem m_X6_jars {z : Zz} {d : Nat} {Q : Option Value → Lay → Mem → Prop} {rf : Nat → Value} {tl : Lay} {mem : Mem}  {n w nt : Nat} {σ : Nat → Nat → Int32} {td what : Int32} {T : Nat → Nat → List Int32} (hdd : 14 ≤ d) (hS : isS 10 mem σ n td (nI w)) (hT : isTT rf tl mem nt T) (hw : w < nt) (K : ∀ mem', jfr mem mem' → Q (some (.int (jarR σ n td (T w) what))) (LAY rf tl) mem') : Sim z d 0 0 mX6_jars 0 [.ref 0, .int what] [] (LAY rf tl) mem Q := by
  have h8 := hS.2.1
  unfold jarR at K
  refine s_iload_n (pc' := 1) dX6_jars_0 rfl lg1 ?_
  refine s_iconst (pc' := 2) dX6_jars_1 rfl iconst_0 ?_
  refine s_iconst (pc' := 3) dX6_jars_2 rfl iconst_3 ?_
  refine c_X6_isIn  (pc' := 6) dX6_jars_3 rfl lkX6_56 (by omega) (Nat.le_of_ble_eq_true rfl) ?_
  refine s_if_ne (pc' := 9) (tgt := 12) dX6_jars_6 rfl (by decide) (fun c1 => ?_) (fun c1 => ?_)
  · skip
    rw [if_neg c1] at K
    refine s_aload_n (pc' := 13) dX6_jars_12 rfl lg0 rfl ?_
    refine s_getRv (pc' := 16) (v := .ref 34) dX6_jars_13 rfl flX6_41 ly0 (by decide) rfl rfl ?_
    refine s_aload_n (pc' := 17) dX6_jars_16 rfl lg0 rfl ?_
    refine s_getRv (pc' := 20) (v := .ref 10) dX6_jars_17 rfl flX6_28 ly0 (by decide) rfl rfl ?_
    refine c_X0_looksAt  (pc' := 23) dX6_jars_20 rfl lkX6_163 (by omega) (Nat.le_of_ble_eq_true rfl) hS hT hw (fun m1 f1 hz hc => ?_)
    have fin : ∀ m2, jfr2 m1 m2 → jfr mem m2 := fun m2 h c q1 q2 q3 => (h c (by omega) (by omega)).trans (f1 c q1 q2 q3)
    refine s_iload_n (pc' := 24) dX6_jars_23 rfl lg1 ?_
    refine s_ts3 (v0 := 0) (v1 := 1) (v2 := 2) (t0 := 52) (t1 := 61) (t2 := 69) (td := 77) dX6_jars_24 (by decide) (by decide) (by decide) (by decide) (by decide) (by decide) (by decide) (by decide) (fun e1 => ?_) (fun e1 => ?_) (fun e1 => ?_) (fun e1_0 e1_1 e1_2 => ?_)
    · refine s_aload_n (pc' := 53) dX6_jars_52 rfl lg0 rfl ?_
      refine s_getRv (pc' := 56) (v := .ref 34) dX6_jars_53 rfl flX6_41 ly0 (by decide) rfl rfl ?_
      refine s_iconst (pc' := 57) dX6_jars_56 rfl iconst_m1 ?_
      refine c_X0_fewestWithout (pc' := 60) dX6_jars_57 rfl lkX6_166 (by omega) (Nat.le_of_ble_eq_true rfl) h8 hz hc ?_
      intro m2 r2 _
      refine s_iret dX6_jars_60 rfl (vp_nar_int _) ?_
      (have K2 := K _ (fin _ r2); simpa [e1] using K2)
    · refine s_aload_n (pc' := 62) dX6_jars_61 rfl lg0 rfl ?_
      refine s_getRv (pc' := 65) (v := .ref 34) dX6_jars_62 rfl flX6_41 ly0 (by decide) rfl rfl ?_
      refine c_X0_digits (pc' := 68) dX6_jars_65 rfl lkX6_169 (by omega) (Nat.le_of_ble_eq_true rfl) h8 hz hc ?_
      intro m2 r2
      refine s_iret dX6_jars_68 rfl (vp_nar_int _) ?_
      (have K2 := K _ (fin _ r2); simpa [e1] using K2)
    · refine s_aload_n (pc' := 70) dX6_jars_69 rfl lg0 rfl ?_
      refine s_getRv (pc' := 73) (v := .ref 34) dX6_jars_70 rfl flX6_41 ly0 (by decide) rfl rfl ?_
      refine c_X0_leftOut (pc' := 76) dX6_jars_73 rfl lkX6_172 (by omega) (Nat.le_of_ble_eq_true rfl) h8 hz hc ?_
      intro m2 r2
      refine s_iret dX6_jars_76 rfl (vp_nar_int _) ?_
      (have K2 := K _ (fin _ r2); simpa [e1] using K2)
    · refine s_aload_n (pc' := 78) dX6_jars_77 rfl lg0 rfl ?_
      refine s_getRv (pc' := 81) (v := .ref 34) dX6_jars_78 rfl flX6_41 ly0 (by decide) rfl rfl ?_
      refine c_X0_fewestWithoutLeftOut (pc' := 84) dX6_jars_81 rfl lkX6_175 (by omega) (Nat.le_of_ble_eq_true rfl) h8 hz hc ?_
      intro m2 r2
      refine s_iret dX6_jars_84 rfl (vp_nar_int _) ?_
      (have K2 := K _ (fin _ r2); simpa [e1_0, e1_1, e1_2] using K2)
  · skip
    rw [if_pos c1] at K
    refine s_bipush (pc' := 11) dX6_jars_9 rfl bipush_m2 ?_
    refine s_iret dX6_jars_11 rfl (vp_nar_int _) ?_
    exact K mem (fun _ _ _ _ => rfl)
theorem c_X6_jars {z : Zz} {d kc ks : Nat} {mi : MI} {pc pc' : Nat} {L S : List Value} {Q : Option Value → Lay → Mem → Prop} {rf : Nat → Value} {tl : Lay} {mem : Mem}  {n w nt : Nat} {σ : Nat → Nat → Int32} {td what : Int32} {T : Nat → Nat → List Int32} {idx : Nat} (hd : decode mi.2.1 pc = .ok (.invokevirtual idx, 3)) (hp : pc + 3 = pc') (hlk : Cond.methodLink mi.1.cls idx yX6_jars ∈ wok) (hdd : 14 + 1 ≤ d) (hcat : (S.map (fun v => v.category)).sum ≤ 8) (hS : isS 10 mem σ n td (nI w)) (hT : isTT rf tl mem nt T) (hw : w < nt) (K : ∀ mem', jfr mem mem' → Sim z d kc ks mi pc' L (.int (jarR σ n td (T w) what) :: S) (LAY rf tl) mem' Q) : Sim z d kc ks mi pc L (.int what :: .ref 0 :: S) (LAY rf tl) mem Q :=
  s_invV (d2 := 14) hd hp okX6_jars hlk inX6_jars seX6_jars hdd (Nat.zero_add _) (Nat.zero_add _) rfl rfl ly0 rfl hcat (Nat.le_of_ble_eq_true rfl) (m_X6_jars (Nat.le_refl _) hS hT hw K)

