/-! ===== jars: the filling ===== -/
theorem Int32_bv {x y : Int32} (h : x.toBitVec = y.toBitVec) : x = y := Int32.toBitVec_inj.mp h
theorem b1_ne {p q : Nat} (hp : p < 8) (hq : q < 8) (h : p ≠ q) : b1I p &&& b1I q = 0 := by
  have key : ∀ p q : Fin 8, p ≠ q → b1I p.1 &&& b1I q.1 = 0 := by decide +kernel
  exact key ⟨p, hp⟩ ⟨q, hq⟩ (fun e => h (congrArg Fin.val e))
theorem and_or_0 {x y w : Int32} (h1 : x &&& w = 0) (h2 : y &&& w = 0) : (x ||| y) &&& w = 0 := by
  have h1' := congrArg Int32.toBitVec h1
  have h2' := congrArg Int32.toBitVec h2
  rw [Int32.toBitVec_and] at h1' h2'
  apply Int32_bv
  rw [Int32.toBitVec_and, Int32.toBitVec_or]
  apply BitVec.eq_of_getLsbD_eq
  intro i hi
  have e1 := congrArg (fun b => b.getLsbD i) h1'
  have e2 := congrArg (fun b => b.getLsbD i) h2'
  simp at e1 e2 ⊢
  cases hx : x.toBitVec.getLsbD i <;> cases hy : y.toBitVec.getLsbD i <;> simp_all
theorem or_cut {x w : Int32} (h1 : x &&& w = 0) : (x ||| w) &&& (w ^^^ -1) = x := by
  have h1' := congrArg Int32.toBitVec h1
  rw [Int32.toBitVec_and] at h1'
  apply Int32_bv
  rw [Int32.toBitVec_and, Int32.toBitVec_or, Int32.toBitVec_xor]
  apply BitVec.eq_of_getLsbD_eq
  intro i hi
  have e1 := congrArg (fun b => b.getLsbD i) h1'
  have em : (-1 : Int32).toBitVec.getLsbD i = true := by
    rw [show (-1 : Int32).toBitVec = BitVec.allOnes 32 from by decide, BitVec.getLsbD_allOnes]
    exact decide_eq_true hi
  simp only [BitVec.getLsbD_and, BitVec.getLsbD_or, BitVec.getLsbD_xor, em] at e1 ⊢
  cases hx : x.toBitVec.getLsbD i <;> cases hy : w.toBitVec.getLsbD i <;> simp_all
def fst (f : Nat → Option (List Nat)) : Nat → Option (List Nat)
  | 0 => none
  | m + 1 => if (fst f m).isSome then fst f m else f m
theorem fst_no {f : Nat → Option (List Nat)} {i : Nat} (h : fst f i = none) (h2 : f i = none) : fst f (i + 1) = none := by rw [fst, h]; exact h2
theorem fst_hit {f : Nat → Option (List Nat)} {i : Nat} {l : List Nat} (h : fst f i = none) (h2 : f i = some l) : ∀ {m : Nat}, i < m → fst f m = some l
  | 0, hm => absurd hm (Nat.not_lt_zero i)
  | m + 1, hm => by
    rcases Nat.lt_or_ge i m with q | q
    · rw [fst, fst_hit h h2 q]; rfl
    · have : i = m := by omega
      subst this
      rw [fst, h]; exact h2
def fil (ca : Nat → Int32) (lf : Int32) (mo : Nat) : Nat → Nat → Nat → (Nat → Int32) → Option (List Nat)
  | 0, _, _, _ => some []
  | k + 1, p, u, h => if nI p = lf then fil ca lf mo k (p + 1) u h else fst (fun j => if h j &&& ca p = 0 then (fil ca lf mo k (p + 1) (max u (j + 1)) (upd h j (h j ||| b1I p))).map (fun l => (j + 1) :: l) else none) (min (u + 1) mo)
theorem fil_0 {ca : Nat → Int32} {lf : Int32} {mo p u : Nat} {h : Nat → Int32} : fil ca lf mo 0 p u h = some [] := rfl
theorem fil_l {ca : Nat → Int32} {lf : Int32} {mo k p u : Nat} {h : Nat → Int32} (hl : nI p = lf) : fil ca lf mo (k + 1) p u h = fil ca lf mo k (p + 1) u h := by rw [fil, if_pos hl]
theorem fil_s {ca : Nat → Int32} {lf : Int32} {mo k p u : Nat} {h : Nat → Int32} (hl : ¬ nI p = lf) : fil ca lf mo (k + 1) p u h = fst (fun j => if h j &&& ca p = 0 then (fil ca lf mo k (p + 1) (max u (j + 1)) (upd h j (h j ||| b1I p))).map (fun l => (j + 1) :: l) else none) (min (u + 1) mo) := by rw [fil, if_neg hl]
theorem mx_nI {a b : Nat} (ha : a < 1000) (hb : b < 1000) : mxI (nI a) (nI b) = nI (max a b) := by
  unfold mxI
  rcases Nat.lt_or_ge a b with q | q
  · rw [if_pos (nI_lt q (by omega)), Nat.max_eq_right (by omega)]
  · rw [if_neg (nI_nlt q (by omega)), Nat.max_eq_left q]
theorem mn_nI {a b : Nat} (ha : a < 1000) (hb : b < 1000) : mnI (nI a) (nI b) = nI (min a b) := by
  unfold mnI
  rcases Nat.lt_or_ge b a with q | q
  · rw [if_pos (nI_lt q (by omega)), Nat.min_eq_right (by omega)]
  · rw [if_neg (nI_nlt q (by omega)), Nat.min_eq_left q]
theorem upE {m : Mem} {i k : Nat} {x : Int32} : am_up m i k x i = upd (m i) k x := if_pos rfl
theorem upN {m : Mem} {i j k : Nat} {x : Int32} (h : j ≠ i) : am_up m i k x j = m j := if_neg h
theorem udE {f : Nat → Int32} {k : Nat} {x : Int32} : upd f k x k = x := if_pos rfl
theorem udN {f : Nat → Int32} {k j : Nat} {x : Int32} (h : j ≠ k) : upd f k x j = f j := if_neg h
def someI (o : Option (List Nat)) : Int32 := if o.isSome then 1 else 0
set_option maxHeartbeats 4000000 in
theorem fi_all {z : Zz} {rf : Nat → Value} {tl : Lay} {n mo : Nat} {ca : Nat → Int32} {lf : Int32} (hmo : mo ≤ 8) (h8 : n ≤ 8) : ∀ (k p u d : Nat) (mem : Mem) (Q : Option Value → Lay → Mem → Prop), p + k = n → k + 2 ≤ d → u ≤ 8 → mem 34 3 = nI n → (∀ a, a < n → mem 35 a = ca a) → (∀ j, j < 8 → ∀ q, p ≤ q → q < 8 → mem 36 j &&& b1I q = 0) → (∀ mem', (∀ c, c ≠ 36 → c ≠ 37 → mem' c = mem c) → (∀ q, q < p → mem' 37 q = mem 37 q) → (fil ca lf mo k p u (mem 36) = none → mem' 36 = mem 36) → (∀ l, fil ca lf mo k p u (mem 36) = some l → lf = -1 → ∀ q, p ≤ q → q < n → mem' 37 q = nI (l.getD (q - p) 0)) → Q (some (.int (someI (fil ca lf mo k p u (mem 36))))) (LAY rf tl) mem') → Sim z d 0 0 mX0_isFilled 0 [.ref 34, .int (nI p), .int lf, .int (nI u), .int (nI mo), .float 0, .float 0] [] (LAY rf tl) mem Q := by
  intro k
  induction k with
  | zero =>
    intro p u d mem Q hp hd hu hz hc hb K
    have K2 := K mem (fun _ _ _ => rfl) (fun _ _ => rfl) (fun _ => rfl) (fun l _ _ q q1 q2 => absurd q2 (by omega))
    refine s_iload_n (pc' := 1) dX0_isFilled_0 rfl lg1 ?_
    refine s_aload_n (pc' := 2) dX0_isFilled_1 rfl lg0 rfl ?_
    refine s_getI (pc' := 5) dX0_isFilled_2 rfl flX0_21 ly34 (by decide) rfl ?_
    refine s_icmp_lt (pc' := 8) (tgt := 10) dX0_isFilled_5 rfl (by decide) (fun c9 => absurd c9 (by rw [hz]; exact nI_nlt (by omega) (by omega))) (fun _ => ?_)
    refine s_iconst (pc' := 9) dX0_isFilled_8 rfl iconst_1 ?_
    refine s_iret dX0_isFilled_9 rfl (by decide) ?_
    exact K2
  | succ k ih =>
    intro p u d mem Q hp hd hu hz hc hb K
    refine s_iload_n (pc' := 1) dX0_isFilled_0 rfl lg1 ?_
    refine s_aload_n (pc' := 2) dX0_isFilled_1 rfl lg0 rfl ?_
    refine s_getI (pc' := 5) dX0_isFilled_2 rfl flX0_21 ly34 (by decide) rfl ?_
    refine s_icmp_lt (pc' := 8) (tgt := 10) dX0_isFilled_5 rfl (by decide) (fun _ => ?_) (fun c9 => absurd (by rw [hz]; exact nI_lt (by omega) (by omega)) c9)
    refine s_iload_n (pc' := 11) dX0_isFilled_10 rfl lg1 ?_
    refine s_iload_n (pc' := 12) dX0_isFilled_11 rfl lg2 ?_
    refine s_icmp_ne (pc' := 15) (tgt := 27) dX0_isFilled_12 rfl (by decide) (fun c1 => ?_) (fun c1 => ?_)
    · skip
      rw [fil_s c1] at K
      refine s_iload_n (pc' := 28) dX0_isFilled_27 rfl lg3 ?_
      refine s_iconst (pc' := 29) dX0_isFilled_28 rfl iconst_1 ?_
      refine s_iadd (pc' := 30) dX0_isFilled_29 rfl ?_
      rw [nI_1]
      refine s_iload (pc' := 32) dX0_isFilled_30 rfl lg4 ?_
      refine c_J9_min_7cf53  (pc' := 35) dX0_isFilled_32 rfl lkX0_42 (by omega) (Nat.le_of_ble_eq_true rfl) ?_
      rw [mn_nI (by omega) (by omega)]
      refine s_istore (pc' := 37) dX0_isFilled_35 rfl (Nat.le_of_ble_eq_true rfl) rfl ls5 ?_
      refine s_iconst (pc' := 38) dX0_isFilled_37 rfl iconst_0 ?_
      refine s_istore (pc' := 40) dX0_isFilled_38 rfl (Nat.le_of_ble_eq_true rfl) rfl ls6 ?_
      have hcp := hc p (by omega)
      generalize hf : (fun j => if mem 36 j &&& ca p = 0 then (fil ca lf mo k (p + 1) (max u (j + 1)) (upd (mem 36) j (mem 36 j ||| b1I p))).map (fun l => (j + 1) :: l) else none) = f at K
      have loop : ∀ (m i : Nat) (mm : Mem), i + m = min (u + 1) mo → (∀ c, c ≠ 36 → c ≠ 37 → mm c = mem c) → mm 36 = mem 36 → (∀ q, q < p → mm 37 q = mem 37 q) → fst f i = none → Sim z d 0 0 mX0_isFilled 40 [.ref 34, .int (nI p), .int lf, .int (nI u), .int (nI mo), .int (nI (min (u + 1) mo)), .int (nI i)] [] (LAY rf tl) mm Q := by
        intro m
        induction m with
        | zero =>
          intro i mm hi g1 g2 g3 g4
          have : i = min (u + 1) mo := by omega
          subst this
          rw [g4] at K
          refine s_iload (pc' := 42) dX0_isFilled_40 rfl lg6 ?_
          refine s_iload (pc' := 44) dX0_isFilled_42 rfl lg5 ?_
          refine s_icmp_ge (pc' := 47) (tgt := 131) dX0_isFilled_44 rfl (by decide) (fun _ => ?_) (fun c9 => absurd (nI_le (Nat.le_refl _) (by omega)) c9)
          refine s_iconst (pc' := 132) dX0_isFilled_131 rfl iconst_0 ?_
          refine s_iret dX0_isFilled_132 rfl (by decide) ?_
          exact K mm g1 g3 (fun _ => g2) (fun l hl => absurd hl (by simp))
        | succ m ihm =>
          intro i mm hi g1 g2 g3 g4
          have h35 : mm 35 p = ca p := by rw [g1 35 (by decide) (by decide)]; exact hcp
          have fi : f i = if mem 36 i &&& ca p = 0 then (fil ca lf mo k (p + 1) (max u (i + 1)) (upd (mem 36) i (mem 36 i ||| b1I p))).map (fun l => (i + 1) :: l) else none := by rw [← hf]
          refine s_iload (pc' := 42) dX0_isFilled_40 rfl lg6 ?_
          refine s_iload (pc' := 44) dX0_isFilled_42 rfl lg5 ?_
          refine s_icmp_ge (pc' := 47) (tgt := 131) dX0_isFilled_44 rfl (by decide) (fun c9 => absurd c9 (nI_ge (by omega) (by omega))) (fun _ => ?_)
          refine s_aload_n (pc' := 48) dX0_isFilled_47 rfl lg0 rfl ?_
          refine s_getRv (pc' := 51) (v := .ref 36) dX0_isFilled_48 rfl flX0_15 ly34 (by decide) rfl rfl ?_
          refine s_iload (pc' := 53) dX0_isFilled_51 rfl lg6 ?_
          refine s_ialdNv (pc' := 54) (v := mem 36 i) dX0_isFilled_53 rfl ly36 (by omega) (by decide) (by rw [g2]) ?_
          refine s_aload_n (pc' := 55) dX0_isFilled_54 rfl lg0 rfl ?_
          refine s_getRv (pc' := 58) (v := .ref 35) dX0_isFilled_55 rfl flX0_9 ly34 (by decide) rfl rfl ?_
          refine s_iload_n (pc' := 59) dX0_isFilled_58 rfl lg1 ?_
          refine s_ialdNv (pc' := 60) (v := ca p) dX0_isFilled_59 rfl ly35 (by omega) (by decide) h35 ?_
          refine s_iand (pc' := 61) dX0_isFilled_60 rfl ?_
          refine s_if_ne (pc' := 64) (tgt := 125) dX0_isFilled_61 rfl (by decide) (fun c2 => ?_) (fun c2 => ?_)
          · skip
            refine s_iincN (pc' := 128) dX0_isFilled_125 rfl lg6 rfl ls6 ?_
            refine s_goto (tgt := 40) dX0_isFilled_128 (by decide) ?_
            refine ihm (i + 1) mm (by omega) g1 g2 g3 (fst_no g4 ?_)
            rw [fi, if_neg c2]
          · skip
            rw [if_pos c2] at fi
            refine s_aload_n (pc' := 65) dX0_isFilled_64 rfl lg0 rfl ?_
            refine s_getRv (pc' := 68) (v := .ref 36) dX0_isFilled_65 rfl flX0_15 ly34 (by decide) rfl rfl ?_
            refine s_iload (pc' := 70) dX0_isFilled_68 rfl lg6 ?_
            refine s_dup2 (pc' := 71) dX0_isFilled_70 rfl rfl rfl ?_
            refine s_ialdNv (pc' := 72) (v := mem 36 i) dX0_isFilled_71 rfl ly36 (by omega) (by decide) (by rw [g2]) ?_
            refine s_iconst (pc' := 73) dX0_isFilled_72 rfl iconst_1 ?_
            refine s_iload_n (pc' := 74) dX0_isFilled_73 rfl lg1 ?_
            refine s_ishl (pc' := 75) dX0_isFilled_74 rfl ?_
            refine s_ior (pc' := 76) dX0_isFilled_75 rfl ?_
            refine s_iastN (pc' := 77) dX0_isFilled_76 rfl ly36 (by omega) (by decide) ?_
            refine s_aload_n (pc' := 78) dX0_isFilled_77 rfl lg0 rfl ?_
            refine s_getRv (pc' := 81) (v := .ref 37) dX0_isFilled_78 rfl flX0_18 ly34 (by decide) rfl rfl ?_
            refine s_iload_n (pc' := 82) dX0_isFilled_81 rfl lg1 ?_
            refine s_iload (pc' := 84) dX0_isFilled_82 rfl lg6 ?_
            refine s_iconst (pc' := 85) dX0_isFilled_84 rfl iconst_1 ?_
            refine s_iadd (pc' := 86) dX0_isFilled_85 rfl ?_
            rw [nI_1]
            refine s_iastN (pc' := 87) dX0_isFilled_86 rfl ly37 (by omega) (by decide) ?_
            refine s_aload_n (pc' := 88) dX0_isFilled_87 rfl lg0 rfl ?_
            refine s_iload_n (pc' := 89) dX0_isFilled_88 rfl lg1 ?_
            refine s_iconst (pc' := 90) dX0_isFilled_89 rfl iconst_1 ?_
            refine s_iadd (pc' := 91) dX0_isFilled_90 rfl ?_
            rw [nI_1]
            refine s_iload_n (pc' := 92) dX0_isFilled_91 rfl lg2 ?_
            refine s_iload_n (pc' := 93) dX0_isFilled_92 rfl lg3 ?_
            refine s_iload (pc' := 95) dX0_isFilled_93 rfl lg6 ?_
            refine s_iconst (pc' := 96) dX0_isFilled_95 rfl iconst_1 ?_
            refine s_iadd (pc' := 97) dX0_isFilled_96 rfl ?_
            rw [nI_1]
            refine c_J9_max_7cf53  (pc' := 100) dX0_isFilled_97 rfl lkX0_48 (by omega) (Nat.le_of_ble_eq_true rfl) ?_
            rw [mx_nI (by omega) (by omega)]
            refine s_iload (pc' := 102) dX0_isFilled_100 rfl lg4 ?_
            refine s_invS (d2 := d - 1) (pc' := 105) dX0_isFilled_102 rfl okX0_isFilled lkX0_38 stX0_isFilled (by omega) (Nat.zero_add _) (Nat.zero_add _) rfl rfl (Nat.le_of_ble_eq_true rfl) (Nat.le_of_ble_eq_true rfl) (ih (p + 1) (max u (i + 1)) (d - 1) _ _ (by omega) (by omega) (by omega) ?_ ?_ ?_ (fun m2 e1 e2 e3 e4 => ?_))
            · rw [upN (by decide), upN (by decide), g1 34 (by decide) (by decide)]; exact hz
            · intro a ha
              rw [upN (by decide), upN (by decide), g1 35 (by decide) (by decide)]; exact hc a ha
            · intro j hj q q1 q2
              rw [upN (by decide), upE, g2]
              by_cases hji : j = i
              · subst hji
                rw [udE]
                exact and_or_0 (hb j hj q (by omega) q2) (b1_ne (by omega) q2 (by omega))
              · rw [udN hji]
                exact hb j hj q (by omega) q2
            · have e36 : am_up (am_up mm 36 i (mem 36 i ||| b1I p)) 37 p (nI (i + 1)) 36 = upd (mem 36) i (mem 36 i ||| b1I p) := by
                rw [upN (by decide), upE, g2]
              have e1' : ∀ c, c ≠ 36 → c ≠ 37 → m2 c = mem c := by
                intro c q1 q2
                rw [e1 c q1 q2]
                rw [upN q2, upN q1]; exact g1 c q1 q2
              have e2' : ∀ q, q < p → m2 37 q = mem 37 q := by
                intro q hq
                rw [e2 q (by omega)]
                rw [upE, udN (by omega), upN (by decide)]; exact g3 q hq
              have e5 : m2 37 p = nI (i + 1) := by
                rw [e2 p (by omega)]
                rw [upE, udE]
              change Sim z d 0 0 mX0_isFilled 105 _ (am_ap (some (.int (someI (fil ca lf mo k (p + 1) (max u (i + 1)) (am_up (am_up mm 36 i (mem 36 i ||| b1I p)) 37 p (nI (i + 1)) 36))))) _) _ _ _
              change fil ca lf mo k (p + 1) (max u (i + 1)) (am_up (am_up mm 36 i (mem 36 i ||| b1I p)) 37 p (nI (i + 1)) 36) = none → m2 36 = am_up (am_up mm 36 i (mem 36 i ||| b1I p)) 37 p (nI (i + 1)) 36 at e3
              change ∀ l, fil ca lf mo k (p + 1) (max u (i + 1)) (am_up (am_up mm 36 i (mem 36 i ||| b1I p)) 37 p (nI (i + 1)) 36) = some l → _ at e4
              rw [e36] at e3 e4 ⊢
              cases hs : fil ca lf mo k (p + 1) (max u (i + 1)) (upd (mem 36) i (mem 36 i ||| b1I p)) with
              | none =>
                rw [hs] at fi
                have e3' := e3 hs
                refine s_if_eq (pc' := 108) (tgt := 110) dX0_isFilled_105 rfl (by decide) (fun _ => ?_) (fun c9 => absurd (by decide) c9)
                refine s_aload_n (pc' := 111) dX0_isFilled_110 rfl lg0 rfl ?_
                refine s_getRv (pc' := 114) (v := .ref 36) dX0_isFilled_111 rfl flX0_15 ly34 (by decide) rfl rfl ?_
                refine s_iload (pc' := 116) dX0_isFilled_114 rfl lg6 ?_
                refine s_dup2 (pc' := 117) dX0_isFilled_116 rfl rfl rfl ?_
                refine s_ialdNv (pc' := 118) (v := mem 36 i ||| b1I p) dX0_isFilled_117 rfl ly36 (by omega) (by decide) (by rw [e3', udE]) ?_
                refine s_iconst (pc' := 119) dX0_isFilled_118 rfl iconst_1 ?_
                refine s_iload_n (pc' := 120) dX0_isFilled_119 rfl lg1 ?_
                refine s_ishl (pc' := 121) dX0_isFilled_120 rfl ?_
                refine s_iconst (pc' := 122) dX0_isFilled_121 rfl iconst_m1 ?_
                refine s_ixor (pc' := 123) dX0_isFilled_122 rfl ?_
                refine s_iand (pc' := 124) dX0_isFilled_123 rfl ?_
                refine s_iastN (pc' := 125) dX0_isFilled_124 rfl ly36 (by omega) (by decide) ?_
                refine s_iincN (pc' := 128) dX0_isFilled_125 rfl lg6 rfl ls6 ?_
                refine s_goto (tgt := 40) dX0_isFilled_128 (by decide) ?_
                refine ihm (i + 1) _ (by omega) (fun c q1 q2 => ?_) ?_ (fun q hq => ?_) (fst_no g4 fi)
                · rw [upN q1]; exact e1' c q1 q2
                · rw [upE, e3']
                  funext q
                  by_cases hq : q = i
                  · subst hq
                    rw [udE]
                    exact or_cut (hb q (by omega) p (by omega) (by omega))
                  · rw [udN hq, udN hq]
                · rw [upN (by decide)]; exact e2' q hq
              | some l =>
                rw [hs] at fi
                have ff := fst_hit g4 fi (m := min (u + 1) mo) (by omega)
                have K2 := K m2 e1' e2' (fun hh => absurd (ff.symm.trans hh) (by simp)) (fun l' hl' hlf q q1 q2 => by
                  have : l' = (i + 1) :: l := by
                    have := hl'.symm.trans ff
                    simpa using this
                  rw [this]
                  rcases Nat.lt_or_ge p q with q3 | q3
                  · rw [e4 l hs hlf q (by omega) q2, show q - p = (q - (p + 1)) + 1 from by omega, List.getD_cons_succ]
                  · have : q = p := by omega
                    rw [this, Nat.sub_self, e5]; rfl)
                rw [ff] at K2
                refine s_if_eq (pc' := 108) (tgt := 110) dX0_isFilled_105 rfl (by decide) (fun c9 => absurd c9 ((by rw [show someI (some l) = 1 from rfl]; decide))) (fun _ => ?_)
                refine s_iconst (pc' := 109) dX0_isFilled_108 rfl iconst_1 ?_
                refine s_iret dX0_isFilled_109 rfl (by decide) ?_
                exact K2
      exact loop (min (u + 1) mo) 0 mem (by omega) (fun _ _ _ => rfl) rfl (fun _ _ => rfl) rfl
    · skip
      rw [fil_l c1] at K
      refine s_aload_n (pc' := 16) dX0_isFilled_15 rfl lg0 rfl ?_
      refine s_iload_n (pc' := 17) dX0_isFilled_16 rfl lg1 ?_
      refine s_iconst (pc' := 18) dX0_isFilled_17 rfl iconst_1 ?_
      refine s_iadd (pc' := 19) dX0_isFilled_18 rfl ?_
      refine s_iload_n (pc' := 20) dX0_isFilled_19 rfl lg2 ?_
      refine s_iload_n (pc' := 21) dX0_isFilled_20 rfl lg3 ?_
      refine s_iload (pc' := 23) dX0_isFilled_21 rfl lg4 ?_
      rw [nI_1]
      refine s_invS (d2 := d - 1) (pc' := 26) dX0_isFilled_23 rfl okX0_isFilled lkX0_38 stX0_isFilled (by omega) (Nat.zero_add _) (Nat.zero_add _) rfl rfl (Nat.le_of_ble_eq_true rfl) (Nat.le_of_ble_eq_true rfl) (ih (p + 1) u (d - 1) mem _ (by omega) (by omega) hu hz hc (fun j hj q q1 q2 => hb j hj q (by omega) q2) (fun m2 e1 e2 e3 e4 => ?_))
      have K2 := K m2 e1 (fun q hq => e2 q (by omega)) e3 (fun l hl hlf => absurd (c1.trans hlf) (nI_m1 (by omega)))
      cases hs : fil ca lf mo k (p + 1) u (mem 36) with
      | none =>
        rw [hs] at K2
        refine s_iret dX0_isFilled_26 rfl (by decide) ?_
        exact K2
      | some l =>
        rw [hs] at K2
        refine s_iret dX0_isFilled_26 rfl (by rw [show someI (some l) = 1 from rfl]; decide) ?_
        exact K2

