/-! ===== the Model's reader: words, signs, numbers ===== -/
def NML : List Nat := [115, 104, 97, 114, 112, 0, 0, 116, 104, 101, 105, 114, 115, 0, 97, 112, 97, 114, 116, 0, 0, 110, 117, 109, 98, 101, 114, 0, 116, 105, 100, 101, 0, 0, 0, 112, 108, 97, 99, 101, 0, 0, 119, 101, 97, 114, 115, 0, 0, 99, 97, 114, 114, 105, 101, 115, 99, 108, 97, 115, 104, 101, 115, 111, 114, 0, 0, 0, 0, 0, 97, 110, 100, 0, 0, 0, 0, 110, 111, 116, 0, 0, 0, 0]
def NM (k : Nat) : Nat := NML.getD k 0
theorem NM_t1 : ∀ k : Fin 12, ∀ i : Fin 7, (NM (7 * k.1 + i.1) = 0 ∧ WC (k.1 * 8 + i.1) = 32) ∨ (NM (7 * k.1 + i.1) = WC (k.1 * 8 + i.1) ∧ 97 ≤ NM (7 * k.1 + i.1)) := by decide +kernel
theorem NM_t2 : ∀ k : Fin 12, ∀ l : Fin 8, ∀ i : Fin 7, l.1 ≤ i.1 → WC (k.1 * 8 + l.1) = 32 → WC (k.1 * 8 + i.1) = 32 := by decide +kernel
theorem NM_t3 : ∀ k : Fin 12, WC (k.1 * 8 + 7) = 32 := by decide +kernel
theorem NM_t4 : ∀ k l : Fin 12, (∀ i : Fin 7, NM (7 * k.1 + i.1) = NM (7 * l.1 + i.1)) → k = l := by decide +kernel
theorem NM_lt {k : Nat} (h : k < 84) : NM k < 256 := by
  have key : ∀ k : Fin 84, NM k.1 < 256 := by decide +kernel
  exact key ⟨k, h⟩
theorem ct_full {f : Nat → Bool} : ∀ {n : Nat}, (ct f n = n) ↔ ∀ i, i < n → f i = true
  | 0 => ⟨fun _ i hi => absurd hi (Nat.not_lt_zero i), fun _ => rfl⟩
  | n + 1 => by
    have ih := ct_full (f := f) (n := n)
    have hl := ct_le f n
    rw [ct]
    cases hf : f n with
    | true =>
      rw [if_pos rfl]
      constructor
      · intro h i hi
        rcases Nat.lt_or_ge i n with q | q
        · exact ih.mp (by omega) i q
        · have : i = n := by omega
          rw [this]; exact hf
      · intro h
        have := ih.mpr (fun i hi => h i (by omega))
        omega
    | false =>
      rw [if_neg Bool.false_ne_true]
      constructor
      · intro h; omega
      · intro h
        have := h n (by omega)
        rw [hf] at this; cases this
def xW (tp : Nat → Nat) (s len i : Nat) : Nat := if i < len then tp (s + i) else 0
def mtB (tp : Nat → Nat) (s len k : Nat) : Bool := decide (len ≤ 7) && decide (ct (fun i => decide (NM (7 * k + i) = xW tp s len i)) 7 = 7)
theorem mt_iff {tp : Nat → Nat} {s len k : Nat} (hl : len ≤ 7) : mtB tp s len k = true ↔ ∀ i, i < 7 → NM (7 * k + i) = xW tp s len i := by
  unfold mtB
  rw [decide_eq_true hl, Bool.true_and, decide_eq_true_eq, ct_full]
  constructor
  · intro h i hi; exact of_decide_eq_true (h i hi)
  · intro h i hi; exact decide_eq_true (h i hi)
theorem wm_iff {tp : Nat → Nat} {s len k : Nat} : wmB tp s len k = true ↔ (∀ i, i < len → WC (k * 8 + i) = tp (s + i)) ∧ WC (k * 8 + len) = 32 := by
  unfold wmB
  rw [Bool.and_eq_true, decide_eq_true_eq, decide_eq_true_eq, ct_full]
  constructor
  · intro h; exact ⟨fun i hi => of_decide_eq_true (h.1 i hi), h.2⟩
  · intro h; exact ⟨fun i hi => decide_eq_true (h.1 i hi), h.2⟩
theorem mt_wm {tp : Nat → Nat} {s len k : Nat} (hl : len ≤ 7) (hk : k < 12) (hlt : ∀ i, i < len → 97 ≤ tp (s + i)) : mtB tp s len k = wmB tp s len k := by
  have iff : mtB tp s len k = true ↔ wmB tp s len k = true := by
    rw [mt_iff hl, wm_iff]
    constructor
    · intro h
      refine ⟨fun i hi => ?_, ?_⟩
      · have h1 := h i (by omega)
        unfold xW at h1
        rw [if_pos hi] at h1
        have h2 := hlt i hi
        rcases NM_t1 ⟨k, hk⟩ ⟨i, by omega⟩ with ⟨a, b⟩ | ⟨a, b⟩
        · dsimp only at a; omega
        · dsimp only at a; omega
      · rcases Nat.lt_or_ge len 7 with q | q
        · have h1 := h len q
          unfold xW at h1
          rw [if_neg (Nat.lt_irrefl len)] at h1
          rcases NM_t1 ⟨k, hk⟩ ⟨len, q⟩ with ⟨a, b⟩ | ⟨a, b⟩
          · exact b
          · dsimp only at b; omega
        · have : len = 7 := by omega
          rw [this]; exact NM_t3 ⟨k, hk⟩
    · intro ⟨h1, h2⟩ i hi
      unfold xW
      by_cases q : i < len
      · rw [if_pos q]
        have h3 := h1 i q
        have h4 := hlt i q
        rcases NM_t1 ⟨k, hk⟩ ⟨i, hi⟩ with ⟨a, b⟩ | ⟨a, b⟩
        · dsimp only at b; omega
        · dsimp only at a; omega
      · rw [if_neg q]
        have h3 := NM_t2 ⟨k, hk⟩ ⟨len, by omega⟩ ⟨i, hi⟩ (by show len ≤ i; omega) h2
        dsimp only at h3
        rcases NM_t1 ⟨k, hk⟩ ⟨i, hi⟩ with ⟨a, b⟩ | ⟨a, b⟩
        · exact a
        · dsimp only at a b; omega
  cases h1 : mtB tp s len k with
  | true => exact (iff.mp h1).symm
  | false =>
    cases h2 : wmB tp s len k with
    | true => rw [iff.mpr h2] at h1; cases h1
    | false => rfl
def fdM (f : Nat → Bool) : Nat → Int32
  | 0 => -1
  | k + 1 => if f k then nI k else fdM f k
theorem fdM_t {f : Nat → Bool} {k : Nat} (h : f k = true) : fdM f (k + 1) = nI k := by rw [fdM, if_pos h]
theorem fdM_f {f : Nat → Bool} {k : Nat} (h : f k = false) : fdM f (k + 1) = fdM f k := by rw [fdM, h, if_neg Bool.false_ne_true]
theorem fdM_none {f : Nat → Bool} : ∀ {n : Nat}, (∀ k, k < n → f k = false) → fdM f n = -1
  | 0, _ => rfl
  | n + 1, h => by rw [fdM_f (h n (by omega)), fdM_none (fun k hk => h k (by omega))]
theorem fdM_at {f : Nat → Bool} {k : Nat} (hk : f k = true) (hu : ∀ j, j ≠ k → f j = false) : ∀ {n : Nat}, k < n → fdM f n = nI k
  | 0, h => absurd h (Nat.not_lt_zero k)
  | n + 1, h => by
    by_cases e : n = k
    · rw [e, fdM_t hk]
    · rw [fdM_f (hu n e), fdM_at hk hu (by omega)]
def wdI (t : Nat) : Int32 := if t < 12 then nI t else -1
theorem fdM_cong {f g : Nat → Bool} : ∀ {n : Nat}, (∀ k, k < n → f k = g k) → fdM f n = fdM g n
  | 0, _ => rfl
  | n + 1, h => by rw [fdM, fdM, h n (by omega), fdM_cong (fun k hk => h k (by omega))]
theorem word_eq {tp : Nat → Nat} {s len : Nat} (hlt : ∀ i, i < len → 97 ≤ tp (s + i)) : fdM (mtB tp s len) 12 = wdI (wrdN tp s len) := by
  unfold wrdN
  rcases Nat.lt_or_ge len 8 with q | q
  · rw [if_neg (by omega)]
    have hle := fk_le (wmB tp s len) 12
    have hhit : fk (wmB tp s len) 12 < 12 → wmB tp s len (fk (wmB tp s len) 12) = true := fun c => (fk_hit c).1
    have hall : fk (wmB tp s len) 12 = 12 → ∀ k, k < 12 → wmB tp s len k = false := fun e => fk_all e
    generalize fk (wmB tp s len) 12 = f at hle hhit hall ⊢
    rcases Nat.lt_or_ge f 12 with c | c
    · rw [if_pos c]
      have h1 := hhit c
      have hm : mtB tp s len f = true := by rw [mt_wm (by omega) c hlt]; exact h1
      have hu : ∀ j, j < 12 → j ≠ f → mtB tp s len j = false := by
        intro j hj hne
        cases hb : mtB tp s len j with
        | false => rfl
        | true =>
          rw [mt_iff (by omega)] at hb hm
          have := NM_t4 ⟨j, hj⟩ ⟨f, c⟩ (fun i => (hb i.1 i.2).trans (hm i.1 i.2).symm)
          exact absurd (congrArg Fin.val this) hne
      have e : fdM (mtB tp s len) 12 = fdM (fun j => decide (j = f)) 12 := fdM_cong (fun j hj => by
        by_cases hne : j = f
        · rw [decide_eq_true hne, hne]; exact hm
        · rw [decide_eq_false hne]; exact hu j hj hne)
      rw [e, fdM_at (f := fun j => decide (j = f)) (k := f) (decide_eq_true rfl) (fun j hj => decide_eq_false hj) c]
      unfold wdI
      rw [if_pos c]
    · rw [if_neg (by omega)]
      have hn := hall (by omega)
      rw [fdM_none (fun k hk => by rw [mt_wm (by omega) hk hlt]; exact hn k hk)]
      decide
  · rw [if_pos q, fdM_none (fun k hk => by unfold mtB; rw [decide_eq_false (by omega), Bool.false_and])]
    decide
theorem sgT_ge {c : Nat} : 12 ≤ sgT c := by
  unfold sgT
  generalize sgN (nI c) = q
  split <;> omega
/-- the token's kinds, by its sort -/
theorem tok_1 {tp : Nat → Nat} {sz s : Nat} (h : srtN tp sz s = 1) : (nxs tp sz s).2.2.1 = wrdN tp s ((nxs tp sz s).1 - s) ∧ s < (nxs tp sz s).1 ∧ ∀ i, i < (nxs tp sz s).1 - s → 97 ≤ tp (s + i) := by
  unfold srtN at h
  by_cases h1 : sz ≤ s
  · rw [if_pos h1] at h; omega
  rw [if_neg h1] at h
  by_cases h2 : isLt (tp s) = true
  · have e : nxs tp sz s = (rn (fun i => isLt (tp i)) (sz - s) s, s, wrdN tp s (rn (fun i => isLt (tp i)) (sz - s) s - s), 0) := by unfold nxs; rw [if_neg h1, if_pos h2]
    rw [e]
    obtain ⟨k, hk⟩ : ∃ k, sz - s = k + 1 := ⟨sz - s - 1, by omega⟩
    have h3 : s + 1 ≤ rn (fun i => isLt (tp i)) (sz - s) s := by rw [hk, rn_t (p := fun i => isLt (tp i)) h2]; exact rn_ge
    refine ⟨rfl, h3, fun i hi => ?_⟩
    dsimp only at hi
    have e9 : isLt (tp (s + i)) = true := rn_in (p := fun i => isLt (tp i)) (k := sz - s) (a := s) (i := s + i) (by omega) (by omega)
    unfold isLt at e9
    simp only [Bool.and_eq_true, decide_eq_true_eq] at e9
    exact e9.1
  · rw [if_neg h2] at h
    split at h <;> omega
theorem tok_n1 {tp : Nat → Nat} {sz s : Nat} (h : ¬ srtN tp sz s = 1) : 12 ≤ (nxs tp sz s).2.2.1 := by
  unfold srtN at h
  by_cases h1 : sz ≤ s
  · rw [show nxs tp sz s = (s, s, 21, 0) from by unfold nxs; rw [if_pos h1]]; dsimp only; omega
  rw [if_neg h1] at h
  by_cases h2 : isLt (tp s) = true
  · rw [if_pos h2] at h; exact absurd rfl h
  by_cases h3 : isDg (tp s) = true
  · rw [show nxs tp sz s = (rn (fun i => isDg (tp i)) (sz - s) s, s, if 4 < rn (fun i => isDg (tp i)) (sz - s) s - s then 22 else 20, numN tp s (rn (fun i => isDg (tp i)) (sz - s) s - s)) from by unfold nxs; rw [if_neg h1, if_neg h2, if_pos h3]]
    dsimp only
    split <;> omega
  · rw [show nxs tp sz s = (s + 1, s, sgT (tp s), 0) from by unfold nxs; rw [if_neg h1, if_neg h2, if_neg h3]]
    dsimp only
    exact sgT_ge
theorem mI7 {k i : Nat} : 7 * nI k + nI i = nI (7 * k + i) := by
  rw [show (7 : Int32) * nI k = nI (7 * k) from (Int32.ofNat_mul 7 k).symm, nI_add]
theorem ct_and {f : Nat → Bool} {i : Nat} : (decide (ct f (i + 1) = i + 1)) = (decide (ct f i = i) && f i) := by
  have hl := ct_le f i
  rw [ct]
  cases hf : f i with
  | true =>
    rw [if_pos rfl, Bool.and_true]
    exact decide_eq_decide.mpr (by omega)
  | false =>
    rw [if_neg Bool.false_ne_true, Bool.and_false]
    exact decide_eq_false (by omega)
set_option maxHeartbeats 4000000 in
theorem m_X7_word {z : Zz} {d : Nat} {Q : Option Value → Lay → Mem → Prop} {rf : Nat → Value} {tl : Lay} {mem : Mem}  {s sz : Nat} {tp : Nat → Nat} (hdd : 0 ≤ d) (hs : s ≤ sz) (hsz : sz ≤ 160) (h6 : mem 47 6 = nI (nxs tp sz s).1) (h7 : mem 47 7 = nI s) (h8 : mem 47 8 = nI (srtN tp sz s)) (ht : ∀ i, i < sz → mem 51 i = nI (tp i)) (h256 : ∀ i, i < sz → tp i < 256) (hnm : ∀ k, k < 84 → mem 54 k = nI (NM k)) (K :  Q (some (.int (wdI (nxs tp sz s).2.2.1))) (LAY rf tl) mem) : Sim z d 0 0 mX7_word 0 [.ref 47, .float 0, .float 0, .float 0, .float 0] [] (LAY rf tl) mem Q := by
  have hs4 := srtN_le (tp := tp) (sz := sz) (i := s)
  have hok := (nxs_ok (tp := tp) hs).1
  have he2 := hok.2.1
  have he1 : s ≤ (nxs tp sz s).1 := by have := hok.1; rw [(nxs_ok (tp := tp) hs).2] at this; exact this
  by_cases c1 : srtN tp sz s = 1
  · obtain ⟨t1, t2, t3⟩ := tok_1 c1
    rw [t1, ← word_eq t3] at K
    rw [c1] at h8
    clear hok t1 c1 hs4
    generalize (nxs tp sz s).1 = e at K h6 he1 he2 t2 t3
    refine s_iconst (pc' := 1) dX7_word_0 rfl iconst_m1 ?_
    refine s_istore_n (pc' := 2) dX7_word_1 rfl (Nat.le_of_ble_eq_true rfl) rfl ls1 ?_
    refine s_iconst (pc' := 3) dX7_word_2 rfl iconst_0 ?_
    refine s_istore_n (pc' := 4) dX7_word_3 rfl (Nat.le_of_ble_eq_true rfl) rfl ls2 ?_
    have loop : ∀ (k j : Nat) (v3 v4 : Value), j + k = 12 → Sim z d 0 0 mX7_word 4 [.ref 47, .int (fdM (mtB tp s (e - s)) j), .int (nI j), v3, v4] [] (LAY rf tl) mem Q := by
      intro k
      induction k with
      | zero =>
        intro j v3 v4 hj
        have : j = 12 := by omega
        subst this
        refine s_iload_n (pc' := 5) dX7_word_4 rfl lg2 ?_
        refine s_bipush (pc' := 7) dX7_word_5 rfl bipush_12 ?_
        refine s_icmp_ge (pc' := 10) (tgt := 125) dX7_word_7 rfl (by decide) (fun _ => ?_) (fun c9 => absurd (by decide) c9)
        refine s_iload_n (pc' := 126) dX7_word_125 rfl lg1 ?_
        refine s_iret dX7_word_126 rfl (vp_nar_int _) ?_
        exact K
      | succ k ih =>
        intro j v3 v4 hj
        have fin : ∀ (b : Bool) (i : Nat), mtB tp s (e - s) j = b → Sim z d 0 0 mX7_word 109 [.ref 47, .int (fdM (mtB tp s (e - s)) j), .int (nI j), .int (bI b), .int (nI i)] [] (LAY rf tl) mem Q := by
          intro b i hb
          have nx := ih (j + 1) (.int (bI b)) (.int (nI i)) (by omega)
          refine s_iload_n (pc' := 110) dX7_word_109 rfl lg3 ?_
          cases b with
          | true =>
            rw [fdM_t hb] at nx
            refine s_if_eq (pc' := 113) (tgt := 117) dX7_word_110 rfl (by decide) (fun c9 => absurd c9 (by decide)) (fun _ => ?_)
            refine s_iload_n (pc' := 114) dX7_word_113 rfl lg2 ?_
            refine s_goto (tgt := 118) dX7_word_114 (by decide) ?_
            refine s_istore_n (pc' := 119) dX7_word_118 rfl (Nat.le_of_ble_eq_true rfl) rfl ls1 ?_
            refine s_iincN (pc' := 122) dX7_word_119 rfl lg2 rfl ls2 ?_
            refine s_goto (tgt := 4) dX7_word_122 (by decide) ?_
            exact nx
          | false =>
            rw [fdM_f hb] at nx
            refine s_if_eq (pc' := 113) (tgt := 117) dX7_word_110 rfl (by decide) (fun _ => ?_) (fun c9 => absurd (by decide) c9)
            refine s_iload_n (pc' := 118) dX7_word_117 rfl lg1 ?_
            refine s_istore_n (pc' := 119) dX7_word_118 rfl (Nat.le_of_ble_eq_true rfl) rfl ls1 ?_
            refine s_iincN (pc' := 122) dX7_word_119 rfl lg2 rfl ls2 ?_
            refine s_goto (tgt := 4) dX7_word_122 (by decide) ?_
            exact nx
        refine s_iload_n (pc' := 5) dX7_word_4 rfl lg2 ?_
        refine s_bipush (pc' := 7) dX7_word_5 rfl bipush_12 ?_
        refine s_icmp_ge (pc' := 10) (tgt := 125) dX7_word_7 rfl (by decide) (fun c9 => absurd c9 (nI_ge (b := 12) (by omega) (by omega))) (fun _ => ?_)
        refine s_aload_n (pc' := 11) dX7_word_10 rfl lg0 rfl ?_
        refine s_getIv (pc' := 14) (v := 1) dX7_word_11 rfl flX7_139 ly47 (by decide) rfl h8 ?_
        refine s_iconst (pc' := 15) dX7_word_14 rfl iconst_1 ?_
        refine s_icmp_ne (pc' := 18) (tgt := 36) dX7_word_15 rfl (by decide) (fun c9 => absurd (rfl) c9) (fun _ => ?_)
        refine s_aload_n (pc' := 19) dX7_word_18 rfl lg0 rfl ?_
        refine s_getIv (pc' := 22) (v := nI e) dX7_word_19 rfl flX7_130 ly47 (by decide) rfl h6 ?_
        refine s_aload_n (pc' := 23) dX7_word_22 rfl lg0 rfl ?_
        refine s_getIv (pc' := 26) (v := nI s) dX7_word_23 rfl flX7_133 ly47 (by decide) rfl h7 ?_
        refine s_isub (pc' := 27) dX7_word_26 rfl ?_
        rw [pk_sub he1]
        refine s_bipush (pc' := 29) dX7_word_27 rfl bipush_7 ?_
        rcases Nat.lt_or_ge 7 (e - s) with q | q
        · refine s_icmp_gt (pc' := 32) (tgt := 36) dX7_word_29 rfl (by decide) (fun _ => ?_) (fun c9 => absurd ((nI_ltI (a := 7) (b := e - s) (by omega) (by omega)).mpr q) c9)
          refine s_iconst (pc' := 37) dX7_word_36 rfl iconst_0 ?_
          refine s_istore_n (pc' := 38) dX7_word_37 rfl (Nat.le_of_ble_eq_true rfl) rfl ls3 ?_
          refine s_iconst (pc' := 39) dX7_word_38 rfl iconst_0 ?_
          refine s_istore (pc' := 41) dX7_word_39 rfl (Nat.le_of_ble_eq_true rfl) rfl ls4 ?_
          refine s_iload_n (pc' := 42) dX7_word_41 rfl lg3 ?_
          refine s_if_eq (pc' := 45) (tgt := 109) dX7_word_42 rfl (by decide) (fun _ => ?_) (fun c9 => absurd (rfl) c9)
          exact fin false 0 (by unfold mtB; rw [decide_eq_false (by omega), Bool.false_and])
        · skip
          refine s_icmp_gt (pc' := 32) (tgt := 36) dX7_word_29 rfl (by decide) (fun c9 => absurd c9 (fun c => by have := (nI_ltI (a := 7) (b := e - s) (by omega) (by omega)).mp c; omega)) (fun _ => ?_)
          refine s_iconst (pc' := 33) dX7_word_32 rfl iconst_1 ?_
          refine s_goto (tgt := 37) dX7_word_33 (by decide) ?_
          refine s_istore_n (pc' := 38) dX7_word_37 rfl (Nat.le_of_ble_eq_true rfl) rfl ls3 ?_
          refine s_iconst (pc' := 39) dX7_word_38 rfl iconst_0 ?_
          refine s_istore (pc' := 41) dX7_word_39 rfl (Nat.le_of_ble_eq_true rfl) rfl ls4 ?_
          have inner : ∀ (m i : Nat), i + m = 7 → Sim z d 0 0 mX7_word 41 [.ref 47, .int (fdM (mtB tp s (e - s)) j), .int (nI j), .int (bI (decide (ct (fun i => decide (NM (7 * j + i) = xW tp s (e - s) i)) i = i))), .int (nI i)] [] (LAY rf tl) mem Q := by
            intro m
            induction m with
            | zero =>
              intro i hi
              have : i = 7 := by omega
              subst this
              have hb : mtB tp s (e - s) j = decide (ct (fun i => decide (NM (7 * j + i) = xW tp s (e - s) i)) 7 = 7) := by unfold mtB; rw [decide_eq_true q, Bool.true_and]
              generalize decide (ct (fun i => decide (NM (7 * j + i) = xW tp s (e - s) i)) 7 = 7) = b at hb ⊢
              refine s_iload_n (pc' := 42) dX7_word_41 rfl lg3 ?_
              cases b with
              | true =>
                refine s_if_eq (pc' := 45) (tgt := 109) dX7_word_42 rfl (by decide) (fun c9 => absurd c9 (by decide)) (fun _ => ?_)
                refine s_iload (pc' := 47) dX7_word_45 rfl lg4 ?_
                refine s_bipush (pc' := 49) dX7_word_47 rfl bipush_7 ?_
                refine s_icmp_ge (pc' := 52) (tgt := 109) dX7_word_49 rfl (by decide) (fun _ => ?_) (fun c9 => absurd (by decide) c9)
                exact fin true 7 hb
              | false =>
                refine s_if_eq (pc' := 45) (tgt := 109) dX7_word_42 rfl (by decide) (fun _ => ?_) (fun c9 => absurd (by decide) c9)
                exact fin false 7 hb
            | succ m ihm =>
              intro i hi
              have nx := ihm (i + 1) (by omega)
              rw [ct_and] at nx
              have hN := NM_lt (k := 7 * j + i) (by omega)
              by_cases hb : ct (fun i => decide (NM (7 * j + i) = xW tp s (e - s) i)) i = i
              · rw [decide_eq_true hb, Bool.true_and] at nx
                rw [decide_eq_true hb]
                have rest : ∀ x : Nat, x < 256 → xW tp s (e - s) i = x → Sim z d 0 0 mX7_word 94 [.ref 47, .int (fdM (mtB tp s (e - s)) j), .int (nI j), .int (bI true), .int (nI i)] [.int (nI x), .int (nI (NM (7 * j + i)))] (LAY rf tl) mem Q := by
                  intro x hx ex
                  rw [ex] at nx
                  by_cases c2 : NM (7 * j + i) = x
                  · refine s_icmp_ne (pc' := 97) (tgt := 101) dX7_word_94 rfl (by decide) (fun c9 => absurd (by rw [c2]) c9) (fun _ => ?_)
                    rw [decide_eq_true c2] at nx
                    refine s_iconst (pc' := 98) dX7_word_97 rfl iconst_1 ?_
                    refine s_goto (tgt := 102) dX7_word_98 (by decide) ?_
                    refine s_istore_n (pc' := 103) dX7_word_102 rfl (Nat.le_of_ble_eq_true rfl) rfl ls3 ?_
                    refine s_iincN (pc' := 106) dX7_word_103 rfl lg4 rfl ls4 ?_
                    refine s_goto (tgt := 41) dX7_word_106 (by decide) ?_
                    exact nx
                  · skip
                    refine s_icmp_ne (pc' := 97) (tgt := 101) dX7_word_94 rfl (by decide) (fun _ => ?_) (fun c9 => absurd c9 (fun h => c2 ((nI_eq (by omega) (by omega)).mp h)))
                    rw [decide_eq_false c2] at nx
                    refine s_iconst (pc' := 102) dX7_word_101 rfl iconst_0 ?_
                    refine s_istore_n (pc' := 103) dX7_word_102 rfl (Nat.le_of_ble_eq_true rfl) rfl ls3 ?_
                    refine s_iincN (pc' := 106) dX7_word_103 rfl lg4 rfl ls4 ?_
                    refine s_goto (tgt := 41) dX7_word_106 (by decide) ?_
                    exact nx
                refine s_iload_n (pc' := 42) dX7_word_41 rfl lg3 ?_
                refine s_if_eq (pc' := 45) (tgt := 109) dX7_word_42 rfl (by decide) (fun c9 => absurd c9 (by decide)) (fun _ => ?_)
                refine s_iload (pc' := 47) dX7_word_45 rfl lg4 ?_
                refine s_bipush (pc' := 49) dX7_word_47 rfl bipush_7 ?_
                refine s_icmp_ge (pc' := 52) (tgt := 109) dX7_word_49 rfl (by decide) (fun c9 => absurd c9 (nI_ge (b := 7) (by omega) (by omega))) (fun _ => ?_)
                refine s_aload_n (pc' := 53) dX7_word_52 rfl lg0 rfl ?_
                refine s_getRv (pc' := 56) (v := .ref 54) dX7_word_53 rfl flX7_36 ly47 (by decide) rfl rfl ?_
                refine s_bipush (pc' := 58) dX7_word_56 rfl bipush_7 ?_
                refine s_iload_n (pc' := 59) dX7_word_58 rfl lg2 ?_
                refine s_imul (pc' := 60) dX7_word_59 rfl ?_
                refine s_iload (pc' := 62) dX7_word_60 rfl lg4 ?_
                refine s_iadd (pc' := 63) dX7_word_62 rfl ?_
                rw [mI7]
                refine s_caldNv (pc' := 64) (v := nI (NM (7 * j + i))) dX7_word_63 rfl ly54 (by omega) (by decide) (hnm _ (by omega)) ?_
                refine s_aload_n (pc' := 65) dX7_word_64 rfl lg0 rfl ?_
                refine s_getIv (pc' := 68) (v := nI s) dX7_word_65 rfl flX7_133 ly47 (by decide) rfl h7 ?_
                refine s_iload (pc' := 70) dX7_word_68 rfl lg4 ?_
                refine s_iadd (pc' := 71) dX7_word_70 rfl ?_
                rw [nI_add]
                refine s_aload_n (pc' := 72) dX7_word_71 rfl lg0 rfl ?_
                refine s_getIv (pc' := 75) (v := nI e) dX7_word_72 rfl flX7_130 ly47 (by decide) rfl h6 ?_
                rcases Nat.lt_or_ge (s + i) e with c | c
                · refine s_icmp_ge (pc' := 78) (tgt := 93) dX7_word_75 rfl (by decide) (fun c9 => absurd c9 (nI_ge c (by omega))) (fun _ => ?_)
                  refine s_aload_n (pc' := 79) dX7_word_78 rfl lg0 rfl ?_
                  refine s_getRv (pc' := 82) (v := .ref 51) dX7_word_79 rfl flX7_19 ly47 (by decide) rfl rfl ?_
                  refine s_aload_n (pc' := 83) dX7_word_82 rfl lg0 rfl ?_
                  refine s_getIv (pc' := 86) (v := nI s) dX7_word_83 rfl flX7_133 ly47 (by decide) rfl h7 ?_
                  refine s_iload (pc' := 88) dX7_word_86 rfl lg4 ?_
                  refine s_iadd (pc' := 89) dX7_word_88 rfl ?_
                  rw [nI_add]
                  refine s_ialdNv (pc' := 90) (v := nI (tp (s + i))) dX7_word_89 rfl ly51 (by omega) (by decide) (ht _ (by omega)) ?_
                  refine s_goto (tgt := 94) dX7_word_90 (by decide) ?_
                  exact rest _ (h256 _ (by omega)) (by unfold xW; rw [if_pos (by omega)])
                · skip
                  refine s_icmp_ge (pc' := 78) (tgt := 93) dX7_word_75 rfl (by decide) (fun _ => ?_) (fun c9 => absurd (nI_le c (by omega)) c9)
                  refine s_iconst (pc' := 94) dX7_word_93 rfl iconst_0 ?_
                  exact rest 0 (by omega) (by unfold xW; rw [if_neg (by omega)])
              · rw [decide_eq_false hb]
                refine s_iload_n (pc' := 42) dX7_word_41 rfl lg3 ?_
                refine s_if_eq (pc' := 45) (tgt := 109) dX7_word_42 rfl (by decide) (fun _ => ?_) (fun c9 => absurd (by decide) c9)
                refine fin false i ?_
                have h7 : ¬ ct (fun i => decide (NM (7 * j + i) = xW tp s (e - s) i)) 7 = 7 := fun h => hb (by rw [ct_full] at h ⊢; exact fun i' hi' => h i' (by omega))
                unfold mtB
                rw [decide_eq_false h7, Bool.and_false]
          exact inner 7 0 (by omega)
    exact loop 12 0 _ _ (by omega)
  · have hw : wdI (nxs tp sz s).2.2.1 = -1 := by unfold wdI; rw [if_neg (by have := tok_n1 c1; omega)]
    rw [hw] at K
    refine s_iconst (pc' := 1) dX7_word_0 rfl iconst_m1 ?_
    refine s_istore_n (pc' := 2) dX7_word_1 rfl (Nat.le_of_ble_eq_true rfl) rfl ls1 ?_
    refine s_iconst (pc' := 3) dX7_word_2 rfl iconst_0 ?_
    refine s_istore_n (pc' := 4) dX7_word_3 rfl (Nat.le_of_ble_eq_true rfl) rfl ls2 ?_
    have loop : ∀ (k j : Nat) (v3 v4 : Value), j + k = 12 → Sim z d 0 0 mX7_word 4 [.ref 47, .int (-1), .int (nI j), v3, v4] [] (LAY rf tl) mem Q := by
      intro k
      induction k with
      | zero =>
        intro j v3 v4 hj
        have : j = 12 := by omega
        subst this
        refine s_iload_n (pc' := 5) dX7_word_4 rfl lg2 ?_
        refine s_bipush (pc' := 7) dX7_word_5 rfl bipush_12 ?_
        refine s_icmp_ge (pc' := 10) (tgt := 125) dX7_word_7 rfl (by decide) (fun _ => ?_) (fun c9 => absurd (by decide) c9)
        refine s_iload_n (pc' := 126) dX7_word_125 rfl lg1 ?_
        refine s_iret dX7_word_126 rfl (vp_nar_int _) ?_
        exact K
      | succ k ih =>
        intro j v3 v4 hj
        refine s_iload_n (pc' := 5) dX7_word_4 rfl lg2 ?_
        refine s_bipush (pc' := 7) dX7_word_5 rfl bipush_12 ?_
        refine s_icmp_ge (pc' := 10) (tgt := 125) dX7_word_7 rfl (by decide) (fun c9 => absurd c9 (nI_ge (b := 12) (by omega) (by omega))) (fun _ => ?_)
        refine s_aload_n (pc' := 11) dX7_word_10 rfl lg0 rfl ?_
        refine s_getIv (pc' := 14) (v := nI (srtN tp sz s)) dX7_word_11 rfl flX7_139 ly47 (by decide) rfl h8 ?_
        refine s_iconst (pc' := 15) dX7_word_14 rfl iconst_1 ?_
        refine s_icmp_ne (pc' := 18) (tgt := 36) dX7_word_15 rfl (by decide) (fun _ => ?_) (fun c9 => absurd c9 (fun h => c1 ((nI_eq (a := srtN tp sz s) (b := 1) (by omega) (by omega)).mp h)))
        refine s_iconst (pc' := 37) dX7_word_36 rfl iconst_0 ?_
        refine s_istore_n (pc' := 38) dX7_word_37 rfl (Nat.le_of_ble_eq_true rfl) rfl ls3 ?_
        refine s_iconst (pc' := 39) dX7_word_38 rfl iconst_0 ?_
        refine s_istore (pc' := 41) dX7_word_39 rfl (Nat.le_of_ble_eq_true rfl) rfl ls4 ?_
        refine s_iload_n (pc' := 42) dX7_word_41 rfl lg3 ?_
        refine s_if_eq (pc' := 45) (tgt := 109) dX7_word_42 rfl (by decide) (fun _ => ?_) (fun c9 => absurd (rfl) c9)
        refine s_iload_n (pc' := 110) dX7_word_109 rfl lg3 ?_
        refine s_if_eq (pc' := 113) (tgt := 117) dX7_word_110 rfl (by decide) (fun _ => ?_) (fun c9 => absurd (rfl) c9)
        refine s_iload_n (pc' := 118) dX7_word_117 rfl lg1 ?_
        refine s_istore_n (pc' := 119) dX7_word_118 rfl (Nat.le_of_ble_eq_true rfl) rfl ls1 ?_
        refine s_iincN (pc' := 122) dX7_word_119 rfl lg2 rfl ls2 ?_
        refine s_goto (tgt := 4) dX7_word_122 (by decide) ?_
        exact ih (j + 1) _ _ (by omega)
    exact loop 12 0 _ _ (by omega)
theorem c_X7_word {z : Zz} {d kc ks : Nat} {mi : MI} {pc pc' : Nat} {L S : List Value} {Q : Option Value → Lay → Mem → Prop} {rf : Nat → Value} {tl : Lay} {mem : Mem}  {s sz : Nat} {tp : Nat → Nat} {idx : Nat} (hd : decode mi.2.1 pc = .ok (.invokevirtual idx, 3)) (hp : pc + 3 = pc') (hlk : Cond.methodLink mi.1.cls idx yX7_word ∈ wok) (hdd : 0 + 1 ≤ d) (hcat : (S.map (fun v => v.category)).sum ≤ 8) (hs : s ≤ sz) (hsz : sz ≤ 160) (h6 : mem 47 6 = nI (nxs tp sz s).1) (h7 : mem 47 7 = nI s) (h8 : mem 47 8 = nI (srtN tp sz s)) (ht : ∀ i, i < sz → mem 51 i = nI (tp i)) (h256 : ∀ i, i < sz → tp i < 256) (hnm : ∀ k, k < 84 → mem 54 k = nI (NM k)) (K :  Sim z d kc ks mi pc' L (.int (wdI (nxs tp sz s).2.2.1) :: S) (LAY rf tl) mem Q) : Sim z d kc ks mi pc L (.ref 47 :: S) (LAY rf tl) mem Q :=
  s_invV (d2 := 0) hd hp okX7_word hlk inX7_word seX7_word hdd (Nat.zero_add _) (Nat.zero_add _) rfl rfl ly47 rfl hcat (Nat.le_of_ble_eq_true rfl) (m_X7_word (Nat.le_refl _) hs hsz h6 h7 h8 ht h256 hnm K)

