/-! ===== jars: which can't be together ===== -/
def prB (σ : Nat → Nat → Int32) (td : Int32) (P : Nat → List Int32) (a k : Nat) : Bool := !decide (k = a) && !decide (uB σ td P a k = 0)
def caI (σ : Nat → Nat → Int32) (n : Nat) (td : Int32) (P : Nat → List Int32) (a : Nat) : Int32 := bo (prB σ td P a) n
theorem uB_sym {σ : Nat → Nat → Int32} {td : Int32} {P : Nat → List Int32} {p q : Nat} : uB σ td P p q = uB σ td P q p := by
  unfold uB
  by_cases h1 : clB σ td P p q = 0
  · by_cases h2 : clB σ td P q p = 0
    · rw [if_pos h1, if_pos h2, if_pos h2, if_pos h1]
    · rw [if_pos h1, if_neg h2, if_neg h2]
  · by_cases h2 : clB σ td P q p = 0
    · rw [if_neg h1, if_pos h2, if_neg h1]
    · rw [if_neg h1, if_neg h2]
theorem bo_t {p : Nat → Bool} {k : Nat} (h : p k = true) : bo p (k + 1) = bo p k ||| ((1 : Int32) <<< (nI k &&& 31)) := by rw [bo, if_pos h]
theorem bo_f {p : Nat → Bool} {k : Nat} (h : p k = false) : bo p (k + 1) = bo p k := by rw [bo, h, if_neg Bool.false_ne_true]
theorem prB_self {σ : Nat → Nat → Int32} {td : Int32} {P : Nat → List Int32} {a : Nat} : prB σ td P a a = false := by unfold prB; rw [decide_eq_true rfl]; rfl
theorem prB_t {σ : Nat → Nat → Int32} {td : Int32} {P : Nat → List Int32} {a k : Nat} (h : ¬ k = a) (hu : ¬ uB σ td P a k = 0) : prB σ td P a k = true := by unfold prB; rw [decide_eq_false h, decide_eq_false hu]; rfl
theorem prB_f {σ : Nat → Nat → Int32} {td : Int32} {P : Nat → List Int32} {a k : Nat} (hu : uB σ td P a k = 0) : prB σ td P a k = false := by unfold prB; rw [decide_eq_true hu, Bool.not_true, Bool.and_false]
/-- up to where a row of bits has been looked at -/
def jlim (n i j a : Nat) : Nat := if a < i then n else if a = i then j else if a < j then i + 1 else i
def jfr (mem mem' : Mem) : Prop := ∀ j, j ≠ 3 → j ≠ 4 → (j < 34 ∨ 37 < j) → mem' j = mem j
theorem jfr.isS {mem mem' : Mem} {σ : Nat → Nat → Int32} {n : Nat} {td ru : Int32} (hk : jfr mem mem') (h : isS 10 mem σ n td ru) : isS 10 mem' σ n td ru := h.kept (fun j h1 h2 => hk j (by omega) (by omega) (by omega))
theorem jfr.isTT {rf : Nat → Value} {tl : Lay} {mem mem' : Mem} {nt : Nat} {T : Nat → Nat → List Int32} (hk : jfr mem mem') (h : isTT rf tl mem nt T) : isTT rf tl mem' nt T := h.kept (fun j hj => hk j (by omega) (by omega) (by omega))
set_option maxHeartbeats 4000000 in
theorem m_X0_looksAt {z : Zz} {d : Nat} {Q : Option Value → Lay → Mem → Prop} {rf : Nat → Value} {tl : Lay} {mem : Mem}  {n w nt : Nat} {σ : Nat → Nat → Int32} {td : Int32} {T : Nat → Nat → List Int32} (hdd : 6 ≤ d) (hS : isS 10 mem σ n td (nI w)) (hT : isTT rf tl mem nt T) (hw : w < nt) (K : ∀ mem', jfr mem mem' → mem' 34 3 = nI n → (∀ a, a < n → mem' 35 a = caI σ n td (T w) a) → Q none (LAY rf tl) mem') : Sim z d 0 0 mX0_looksAt 0 [.ref 34, .ref 10, .float 0, .float 0] [] (LAY rf tl) mem Q := by
  have h8 := hS.2.1
  have hn := hS.1
  refine s_aload_n (pc' := 1) dX0_looksAt_0 rfl lg0 rfl ?_
  refine s_aload_n (pc' := 2) dX0_looksAt_1 rfl lg1 rfl ?_
  refine s_getI (pc' := 5) dX0_looksAt_2 rfl flX0_25 ly10 (by decide) rfl ?_
  refine s_putI (pc' := 8) (ty := .int) dX0_looksAt_5 rfl flX0_21 fw0_3 pdI rfl rfl ly34 (by decide) rfl ?_
  refine s_aload_n (pc' := 9) dX0_looksAt_8 rfl lg0 rfl ?_
  refine s_getRv (pc' := 12) (v := .ref 35) dX0_looksAt_9 rfl flX0_9 ly34 (by decide) rfl rfl ?_
  refine s_iconst (pc' := 13) dX0_looksAt_12 rfl iconst_0 ?_
  refine c_J7_fill_53178  (pc' := 16) dX0_looksAt_13 rfl lkX0_28 (by omega) (Nat.le_of_ble_eq_true rfl) ly35 (by decide) (fun m1 r1 r2 => ?_)
  refine s_iconst (pc' := 17) dX0_looksAt_16 rfl iconst_0 ?_
  refine s_istore_n (pc' := 18) dX0_looksAt_17 rfl (Nat.le_of_ble_eq_true rfl) rfl ls2 ?_
  have f1 : jfr mem m1 := by
    intro j q1 q2 q3
    rw [r1 j (by omega)]
    simp only [am_up]
    rw [if_neg (by omega)]
  have z1 : m1 34 3 = nI n := by rw [r1 34 (by decide)]; simp [am_up, upd, hn]
  have inner : ∀ (k i j : Nat) (m : Mem), j + k = n → i < j → jfr mem m → m 34 3 = nI n → (∀ a, a < n → m 35 a = bo (prB σ td (T w) a) (jlim n i j a)) → (∀ m', jfr mem m' → m' 34 3 = nI n → (∀ a, a < n → m' 35 a = bo (prB σ td (T w) a) (jlim n i n a)) → Sim z d 0 0 mX0_looksAt 77 [.ref 34, .ref 10, .int (nI i), .int (nI n)] [] (LAY rf tl) m' Q) → Sim z d 0 0 mX0_looksAt 30 [.ref 34, .ref 10, .int (nI i), .int (nI j)] [] (LAY rf tl) m Q := by
    intro k
    induction k with
    | zero =>
      intro i j m hj hij hf hz hc C
      have : j = n := by omega
      subst this
      refine s_iload_n (pc' := 31) dX0_looksAt_30 rfl lg3 ?_
      refine s_aload_n (pc' := 32) dX0_looksAt_31 rfl lg0 rfl ?_
      refine s_getI (pc' := 35) dX0_looksAt_32 rfl flX0_21 ly34 (by decide) rfl ?_
      refine s_icmp_ge (pc' := 38) (tgt := 77) dX0_looksAt_35 rfl (by decide) (fun _ => ?_) (fun c9 => absurd (by rw [hz]; exact nI_le (by omega) (by omega)) c9)
      exact C m hf hz hc
    | succ k ih =>
      intro i j m hj hij hf hz hc C
      refine s_iload_n (pc' := 31) dX0_looksAt_30 rfl lg3 ?_
      refine s_aload_n (pc' := 32) dX0_looksAt_31 rfl lg0 rfl ?_
      refine s_getI (pc' := 35) dX0_looksAt_32 rfl flX0_21 ly34 (by decide) rfl ?_
      refine s_icmp_ge (pc' := 38) (tgt := 77) dX0_looksAt_35 rfl (by decide) (fun c9 => absurd c9 (by rw [hz]; exact nI_ge (by omega) (by omega))) (fun _ => ?_)
      refine s_aload_n (pc' := 39) dX0_looksAt_38 rfl lg1 rfl ?_
      refine s_iload_n (pc' := 40) dX0_looksAt_39 rfl lg2 ?_
      refine s_iload_n (pc' := 41) dX0_looksAt_40 rfl lg3 ?_
      refine c_X3_isApartByClash (b := 10) (pc' := 44) dX0_looksAt_41 rfl lkX0_34 (by omega) (Nat.le_of_ble_eq_true rfl) (Or.inl rfl) (hf.isS hS) (by omega) (by omega) (hf.isTT hT) hw (fun m2 s2 => ?_)
      have hf2 : jfr mem m2 := fun q q1 q2 q3 => (s2 q q1 q2).trans (hf q q1 q2 q3)
      have hz2 : m2 34 3 = nI n := by rw [s2 34 (by decide) (by decide)]; exact hz
      have hc2 : ∀ a, a < n → m2 35 a = bo (prB σ td (T w) a) (jlim n i j a) := fun a ha => by rw [s2 35 (by decide) (by decide)]; exact hc a ha
      have li : jlim n i j i = j := by unfold jlim; rw [if_neg (by omega), if_pos rfl]
      have lj : jlim n i j j = i := by unfold jlim; rw [if_neg (by omega), if_neg (by omega), if_neg (by omega)]
      have li' : jlim n i (j + 1) i = j + 1 := by unfold jlim; rw [if_neg (by omega), if_pos rfl]
      have lj' : jlim n i (j + 1) j = i + 1 := by unfold jlim; rw [if_neg (by omega), if_neg (by omega), if_pos (by omega)]
      have lo : ∀ a, a ≠ i → a ≠ j → jlim n i (j + 1) a = jlim n i j a := by
        intro a q1 q2
        unfold jlim
        by_cases g1 : a < i
        · rw [if_pos g1, if_pos g1]
        · rw [if_neg g1, if_neg g1, if_neg q1, if_neg q1]
          by_cases g2 : a < j
          · rw [if_pos g2, if_pos (by omega)]
          · rw [if_neg g2, if_neg (by omega)]
      refine s_if_eq (pc' := 47) (tgt := 71) dX0_looksAt_44 rfl (by decide) (fun c1 => ?_) (fun c1 => ?_)
      · skip
        refine s_iincN (pc' := 74) dX0_looksAt_71 rfl lg3 rfl ls3 ?_
        refine s_goto (tgt := 30) dX0_looksAt_74 (by decide) ?_
        refine ih i (j + 1) m2 (by omega) (by omega) hf2 hz2 (fun a ha => ?_) C
        by_cases q1 : a = i
        · rw [q1, li', bo_f (prB_f c1), hc2 i (by omega), li]
        · by_cases q2 : a = j
          · rw [q2, lj', bo_f (prB_f (by rw [uB_sym]; exact c1)), hc2 j (by omega), lj]
          · rw [lo a q1 q2]; exact hc2 a ha
      · skip
        refine s_aload_n (pc' := 48) dX0_looksAt_47 rfl lg0 rfl ?_
        refine s_getRv (pc' := 51) (v := .ref 35) dX0_looksAt_48 rfl flX0_9 ly34 (by decide) rfl rfl ?_
        refine s_iload_n (pc' := 52) dX0_looksAt_51 rfl lg2 ?_
        refine s_dup2 (pc' := 53) dX0_looksAt_52 rfl rfl rfl ?_
        refine s_ialdN (pc' := 54) dX0_looksAt_53 rfl ly35 (by omega) (by decide) ?_
        refine s_iconst (pc' := 55) dX0_looksAt_54 rfl iconst_1 ?_
        refine s_iload_n (pc' := 56) dX0_looksAt_55 rfl lg3 ?_
        refine s_ishl (pc' := 57) dX0_looksAt_56 rfl ?_
        refine s_ior (pc' := 58) dX0_looksAt_57 rfl ?_
        refine s_iastN (pc' := 59) dX0_looksAt_58 rfl ly35 (by omega) (by decide) ?_
        refine s_aload_n (pc' := 60) dX0_looksAt_59 rfl lg0 rfl ?_
        refine s_getRv (pc' := 63) (v := .ref 35) dX0_looksAt_60 rfl flX0_9 ly34 (by decide) rfl rfl ?_
        refine s_iload_n (pc' := 64) dX0_looksAt_63 rfl lg3 ?_
        refine s_dup2 (pc' := 65) dX0_looksAt_64 rfl rfl rfl ?_
        refine s_ialdN (pc' := 66) dX0_looksAt_65 rfl ly35 (by omega) (by decide) ?_
        refine s_iconst (pc' := 67) dX0_looksAt_66 rfl iconst_1 ?_
        refine s_iload_n (pc' := 68) dX0_looksAt_67 rfl lg2 ?_
        refine s_ishl (pc' := 69) dX0_looksAt_68 rfl ?_
        refine s_ior (pc' := 70) dX0_looksAt_69 rfl ?_
        refine s_iastN (pc' := 71) dX0_looksAt_70 rfl ly35 (by omega) (by decide) ?_
        refine s_iincN (pc' := 74) dX0_looksAt_71 rfl lg3 rfl ls3 ?_
        refine s_goto (tgt := 30) dX0_looksAt_74 (by decide) ?_
        refine ih i (j + 1) _ (by omega) (by omega) (fun q q1 q2 q3 => ?_) ?_ (fun a ha => ?_) C
        · simp only [am_up]; rw [if_neg (by omega), if_neg (by omega)]; exact hf2 q q1 q2 q3
        · simp only [am_up]; rw [if_neg (by omega), if_neg (by omega)]; exact hz2
        · have hji : ¬ j = i := by omega
          have hij2 : ¬ i = j := by omega
          by_cases q1 : a = i
          · rw [q1, li', bo_t (prB_t hji c1)]
            simp only [am_up, if_true, upd, if_neg hij2]
            rw [hc2 i (by omega), li]
          · by_cases q2 : a = j
            · rw [q2, lj', bo_t (prB_t hij2 (by rw [uB_sym]; exact c1))]
              simp only [am_up, if_true, upd, if_neg hji]
              rw [hc2 j (by omega), lj]
            · rw [lo a q1 q2]
              simp only [am_up, if_true, upd, if_neg q1, if_neg q2]
              exact hc2 a ha
  have outer : ∀ (k i : Nat) (x : Value) (m : Mem), i + k = n → jfr mem m → m 34 3 = nI n → (∀ a, a < n → m 35 a = bo (prB σ td (T w) a) (jlim n i i a)) → Sim z d 0 0 mX0_looksAt 18 [.ref 34, .ref 10, .int (nI i), x] [] (LAY rf tl) m Q := by
    intro k
    induction k with
    | zero =>
      intro i x m hi hf hz hc
      refine s_iload_n (pc' := 19) dX0_looksAt_18 rfl lg2 ?_
      refine s_aload_n (pc' := 20) dX0_looksAt_19 rfl lg0 rfl ?_
      refine s_getI (pc' := 23) dX0_looksAt_20 rfl flX0_21 ly34 (by decide) rfl ?_
      refine s_icmp_ge (pc' := 26) (tgt := 83) dX0_looksAt_23 rfl (by decide) (fun _ => ?_) (fun c9 => absurd (by rw [hz]; exact nI_le (by omega) (by omega)) c9)
      refine s_vret dX0_looksAt_83 rfl ?_
      refine K m hf hz (fun a ha => ?_)
      rw [hc a ha, show jlim n i i a = n from by unfold jlim; rw [if_pos (by omega)]]
      rfl
    | succ k ih =>
      intro i x m hi hf hz hc
      refine s_iload_n (pc' := 19) dX0_looksAt_18 rfl lg2 ?_
      refine s_aload_n (pc' := 20) dX0_looksAt_19 rfl lg0 rfl ?_
      refine s_getI (pc' := 23) dX0_looksAt_20 rfl flX0_21 ly34 (by decide) rfl ?_
      refine s_icmp_ge (pc' := 26) (tgt := 83) dX0_looksAt_23 rfl (by decide) (fun c9 => absurd c9 (by rw [hz]; exact nI_ge (by omega) (by omega))) (fun _ => ?_)
      refine s_iload_n (pc' := 27) dX0_looksAt_26 rfl lg2 ?_
      refine s_iconst (pc' := 28) dX0_looksAt_27 rfl iconst_1 ?_
      refine s_iadd (pc' := 29) dX0_looksAt_28 rfl ?_
      rw [nI_1]
      refine s_istore_n (pc' := 30) dX0_looksAt_29 rfl (Nat.le_of_ble_eq_true rfl) rfl ls3 ?_
      refine inner k i (i + 1) m (by omega) (by omega) hf hz (fun a ha => ?_) (fun m' hf' hz' hc' => ?_)
      · rw [hc a ha]
        by_cases q1 : a < i
        · unfold jlim; rw [if_pos q1, if_pos q1]
        · by_cases q2 : a = i
          · have e1 : jlim n i i a = i := by unfold jlim; rw [if_neg q1, if_pos q2]
            have e2 : jlim n i (i + 1) a = i + 1 := by unfold jlim; rw [if_neg q1, if_pos q2]
            rw [e1, e2, q2, bo_f prB_self]
          · unfold jlim; rw [if_neg q1, if_neg q2, if_neg (by omega), if_neg q1, if_neg q2, if_neg (by omega)]
      · skip
        refine s_iincN (pc' := 80) dX0_looksAt_77 rfl lg2 rfl ls2 ?_
        refine s_goto (tgt := 18) dX0_looksAt_80 (by decide) ?_
        refine ih (i + 1) _ m' (by omega) hf' hz' (fun a ha => ?_)
        rw [hc' a ha]
        by_cases q1 : a < i
        · unfold jlim; rw [if_pos q1, if_pos (by omega)]
        · by_cases q2 : a = i
          · unfold jlim; rw [if_neg q1, if_pos q2, if_pos (by omega)]
          · by_cases q3 : a = i + 1
            · unfold jlim; rw [if_neg q1, if_neg q2, if_pos ha, if_neg (by omega), if_pos q3]
            · unfold jlim; rw [if_neg q1, if_neg q2, if_pos ha, if_neg (by omega), if_neg q3, if_neg (by omega)]
  refine outer n 0 _ m1 (by omega) f1 z1 (fun a ha => ?_)
  rw [r2 a (by omega)]
  have : jlim n 0 0 a = 0 := by
    unfold jlim
    by_cases q : a = 0
    · rw [if_neg (by omega), if_pos q]
    · rw [if_neg (by omega), if_neg q, if_neg (by omega)]
  rw [this]; rfl
theorem c_X0_looksAt {z : Zz} {d kc ks : Nat} {mi : MI} {pc pc' : Nat} {L S : List Value} {Q : Option Value → Lay → Mem → Prop} {rf : Nat → Value} {tl : Lay} {mem : Mem}  {n w nt : Nat} {σ : Nat → Nat → Int32} {td : Int32} {T : Nat → Nat → List Int32} {idx : Nat} (hd : decode mi.2.1 pc = .ok (.invokevirtual idx, 3)) (hp : pc + 3 = pc') (hlk : Cond.methodLink mi.1.cls idx yX0_looksAt ∈ wok) (hdd : 6 + 1 ≤ d) (hcat : (S.map (fun v => v.category)).sum ≤ 8) (hS : isS 10 mem σ n td (nI w)) (hT : isTT rf tl mem nt T) (hw : w < nt) (K : ∀ mem', jfr mem mem' → mem' 34 3 = nI n → (∀ a, a < n → mem' 35 a = caI σ n td (T w) a) → Sim z d kc ks mi pc' L S (LAY rf tl) mem' Q) : Sim z d kc ks mi pc L (.ref 10 :: .ref 34 :: S) (LAY rf tl) mem Q :=
  s_invV (d2 := 6) hd hp okX0_looksAt hlk inX0_looksAt seX0_looksAt hdd (Nat.zero_add _) (Nat.zero_add _) rfl rfl ly34 rfl hcat (Nat.le_of_ble_eq_true rfl) (m_X0_looksAt (Nat.le_refl _) hS hT hw K)

