/-! ===== Reader: words, the next token ===== -/
def WC (k : Nat) : Nat := (am_txtW.toList.map (fun c => c.toNat)).getD k 0
theorem WC_all : ∀ k : Fin 96, am_sb 0 k.1 = nI (WC k.1) ∧ WC k.1 < 256 := by decide +kernel
theorem WC_b {k : Nat} (h : k < 96) : am_sb 0 k = nI (WC k) := (WC_all ⟨k, h⟩).1
theorem WC_lt {k : Nat} (h : k < 96) : WC k < 256 := (WC_all ⟨k, h⟩).2
def wmB (tp : Nat → Nat) (s len w : Nat) : Bool := decide (ct (fun i => decide (WC (w * 8 + i) = tp (s + i))) len = len) && decide (WC (w * 8 + len) = 32)
def wrdN (tp : Nat → Nat) (s len : Nat) : Nat := if 8 ≤ len then 22 else if fk (wmB tp s len) 12 < 12 then fk (wmB tp s len) 12 else 22
set_option maxHeartbeats 4000000 in
theorem m_X1_wordFromStart {z : Zz} {d : Nat} {Q : Option Value → Lay → Mem → Prop} {rf : Nat → Value} {tl : Lay} {mem : Mem}  {s e sz : Nat} {tp : Nat → Nat} (hdd : 4 ≤ d) (hse : s ≤ e) (hez : e ≤ sz) (hsz : sz ≤ 160) (h5 : mem 7 5 = nI e) (h6 : mem 7 6 = nI s) (ht : ∀ i, i < sz → mem 8 i = nI (tp i)) (h256 : ∀ i, i < sz → tp i < 256) (K :  Q (some (.int (nI (wrdN tp s (e - s))))) (LAY rf tl) mem) : Sim z d 0 0 mX1_wordFromStart 0 [.ref 7, .float 0, .float 0, .float 0, .float 0, .float 0] [] (LAY rf tl) mem Q := by
  refine s_aload_n (pc' := 1) dX1_wordFromStart_0 rfl lg0 rfl ?_
  refine s_getIv (pc' := 4) (v := nI e) dX1_wordFromStart_1 rfl flX1_28 ly7 (by decide) rfl h5 ?_
  refine s_aload_n (pc' := 5) dX1_wordFromStart_4 rfl lg0 rfl ?_
  refine s_getIv (pc' := 8) (v := nI s) dX1_wordFromStart_5 rfl flX1_31 ly7 (by decide) rfl h6 ?_
  refine s_isub (pc' := 9) dX1_wordFromStart_8 rfl ?_
  rw [pk_sub hse]
  refine s_istore_n (pc' := 10) dX1_wordFromStart_9 rfl (Nat.le_of_ble_eq_true rfl) rfl ls1 ?_
  refine s_iload_n (pc' := 11) dX1_wordFromStart_10 rfl lg1 ?_
  refine s_bipush (pc' := 13) dX1_wordFromStart_11 rfl bipush_8 ?_
  refine s_icmp_lt (pc' := 16) (tgt := 19) dX1_wordFromStart_13 rfl (by decide) (fun c1 => ?_) (fun c1 => ?_)
  · skip
    have h8 : e - s < 8 := (nI_ltI (a := e - s) (b := 8) (by omega) (by omega)).mp c1
    unfold wrdN at K
    rw [if_neg (by omega)] at K
    refine s_iconst (pc' := 20) dX1_wordFromStart_19 rfl iconst_0 ?_
    refine s_istore_n (pc' := 21) dX1_wordFromStart_20 rfl (Nat.le_of_ble_eq_true rfl) rfl ls2 ?_
    have inner : ∀ (w : Nat), w < 12 → (∀ a : Nat, a = ct (fun i => decide (WC (w * 8 + i) = tp (s + i))) (e - s) → Sim z d 0 0 mX1_wordFromStart 77 [.ref 7, .int (nI (e - s)), .int (nI w), .int (nI (w * 8)), .int (nI a), .int (nI (e - s))] [] (LAY rf tl) mem Q) → ∀ (k i : Nat), i + k = e - s → Sim z d 0 0 mX1_wordFromStart 38 [.ref 7, .int (nI (e - s)), .int (nI w), .int (nI (w * 8)), .int (nI (ct (fun i => decide (WC (w * 8 + i) = tp (s + i))) i)), .int (nI i)] [] (LAY rf tl) mem Q := by
      intro w hw C k
      induction k with
      | zero =>
        intro i hi
        have : i = e - s := by omega
        subst this
        refine s_iload (pc' := 40) dX1_wordFromStart_38 rfl lg5 ?_
        refine s_iload_n (pc' := 41) dX1_wordFromStart_40 rfl lg1 ?_
        refine s_icmp_ge (pc' := 44) (tgt := 77) dX1_wordFromStart_41 rfl (by decide) (fun _ => ?_) (fun c9 => absurd (nI_le (Nat.le_refl _) (by omega)) c9)
        exact C _ rfl
      | succ k ih =>
        intro i hi
        have h1 := ih (i + 1) (by omega)
        have hb : WC (w * 8 + i) < 256 := WC_lt (by omega)
        have hb2 := h256 (s + i) (by omega)
        rw [ct] at h1
        refine s_iload (pc' := 40) dX1_wordFromStart_38 rfl lg5 ?_
        refine s_iload_n (pc' := 41) dX1_wordFromStart_40 rfl lg1 ?_
        refine s_icmp_ge (pc' := 44) (tgt := 77) dX1_wordFromStart_41 rfl (by decide) (fun c9 => absurd c9 (nI_ge (by omega) (by omega))) (fun _ => ?_)
        refine s_ldcW (pc' := 46) dX1_wordFromStart_44 rfl rfl ?_
        refine s_iload_n (pc' := 47) dX1_wordFromStart_46 rfl lg3 ?_
        refine s_iload (pc' := 49) dX1_wordFromStart_47 rfl lg5 ?_
        refine s_iadd (pc' := 50) dX1_wordFromStart_49 rfl ?_
        rw [nI_add]
        refine c_J0_charAt_5068e  (pc' := 53) dX1_wordFromStart_50 rfl lkX1_101 (by omega) (Nat.le_of_ble_eq_true rfl) (show w * 8 + i < 96 by omega) ?_
        rw [WC_b (show w * 8 + i < 96 by omega)]
        refine s_aload_n (pc' := 54) dX1_wordFromStart_53 rfl lg0 rfl ?_
        refine s_getRv (pc' := 57) (v := .ref 8) dX1_wordFromStart_54 rfl flX1_9 ly7 (by decide) rfl rfl ?_
        refine s_aload_n (pc' := 58) dX1_wordFromStart_57 rfl lg0 rfl ?_
        refine s_getIv (pc' := 61) (v := nI s) dX1_wordFromStart_58 rfl flX1_31 ly7 (by decide) rfl h6 ?_
        refine s_iload (pc' := 63) dX1_wordFromStart_61 rfl lg5 ?_
        refine s_iadd (pc' := 64) dX1_wordFromStart_63 rfl ?_
        rw [nI_add]
        refine s_ialdNv (pc' := 65) (v := nI (tp (s + i))) dX1_wordFromStart_64 rfl ly8 (by omega) (by decide) (ht _ (by omega)) ?_
        refine s_icmp_ne (pc' := 68) (tgt := 71) dX1_wordFromStart_65 rfl (by decide) (fun c2 => ?_) (fun c2 => ?_)
        · skip
          rw [nI_eqN (by omega) (by omega)] at c2
          rw [decide_eq_false c2, if_neg Bool.false_ne_true] at h1
          refine s_iincN (pc' := 74) dX1_wordFromStart_71 rfl lg5 rfl ls5 ?_
          refine s_goto (tgt := 38) dX1_wordFromStart_74 (by decide) ?_
          exact h1
        · skip
          rw [nI_eqN (by omega) (by omega)] at c2
          rw [decide_eq_true c2, if_pos rfl] at h1
          refine s_iincN (pc' := 71) dX1_wordFromStart_68 rfl lg4 rfl ls4 ?_
          refine s_iincN (pc' := 74) dX1_wordFromStart_71 rfl lg5 rfl ls5 ?_
          refine s_goto (tgt := 38) dX1_wordFromStart_74 (by decide) ?_
          exact h1
    have outer : ∀ (k w : Nat) (x y u : Value), w + k = 12 → (∀ q, q < w → wmB tp s (e - s) q = false) → Sim z d 0 0 mX1_wordFromStart 21 [.ref 7, .int (nI (e - s)), .int (nI w), x, y, u] [] (LAY rf tl) mem Q := by
      intro k
      induction k with
      | zero =>
        intro w x y u hw hno
        have : w = 12 := by omega
        subst this
        rw [fk_none hno, if_neg (by omega)] at K
        refine s_iload_n (pc' := 22) dX1_wordFromStart_21 rfl lg2 ?_
        refine s_bipush (pc' := 24) dX1_wordFromStart_22 rfl bipush_12 ?_
        refine s_icmp_ge (pc' := 27) (tgt := 104) dX1_wordFromStart_24 rfl (by decide) (fun _ => ?_) (fun c9 => absurd (by decide) c9)
        refine s_bipush (pc' := 106) dX1_wordFromStart_104 rfl bipush_22 ?_
        refine s_iret dX1_wordFromStart_106 rfl (vp_nar_int _) ?_
        exact K
      | succ k ih =>
        intro w x y u hw hno
        refine s_iload_n (pc' := 22) dX1_wordFromStart_21 rfl lg2 ?_
        refine s_bipush (pc' := 24) dX1_wordFromStart_22 rfl bipush_12 ?_
        refine s_icmp_ge (pc' := 27) (tgt := 104) dX1_wordFromStart_24 rfl (by decide) (fun c9 => absurd c9 (nI_ge (a := w) (b := 12) (by omega) (by omega))) (fun _ => ?_)
        refine s_iload_n (pc' := 28) dX1_wordFromStart_27 rfl lg2 ?_
        refine s_bipush (pc' := 30) dX1_wordFromStart_28 rfl bipush_8 ?_
        refine s_imul (pc' := 31) dX1_wordFromStart_30 rfl ?_
        rw [show nI w * 8 = nI (w * 8) from (Int32.ofNat_mul w 8).symm]
        refine s_istore_n (pc' := 32) dX1_wordFromStart_31 rfl (Nat.le_of_ble_eq_true rfl) rfl ls3 ?_
        refine s_iconst (pc' := 33) dX1_wordFromStart_32 rfl iconst_0 ?_
        refine s_istore (pc' := 35) dX1_wordFromStart_33 rfl (Nat.le_of_ble_eq_true rfl) rfl ls4 ?_
        refine s_iconst (pc' := 36) dX1_wordFromStart_35 rfl iconst_0 ?_
        refine s_istore (pc' := 38) dX1_wordFromStart_36 rfl (Nat.le_of_ble_eq_true rfl) rfl ls5 ?_
        refine inner w (by omega) (fun a ha => ?_) (e - s) 0 (by omega)
        have nx : wmB tp s (e - s) w = false → ∀ x y u, Sim z d 0 0 mX1_wordFromStart 21 [.ref 7, .int (nI (e - s)), .int (nI (w + 1)), x, y, u] [] (LAY rf tl) mem Q := fun h x y u => ih (w + 1) x y u (by omega) (fun q hq => by
          rcases Nat.lt_or_ge q w with q1 | q1
          · exact hno q q1
          · have : q = w := by omega
            rw [this]; exact h)
        have hal : a ≤ e - s := by rw [ha]; exact ct_le _ _
        refine s_iload (pc' := 79) dX1_wordFromStart_77 rfl lg4 ?_
        refine s_iload_n (pc' := 80) dX1_wordFromStart_79 rfl lg1 ?_
        refine s_icmp_ne (pc' := 83) (tgt := 98) dX1_wordFromStart_80 rfl (by decide) (fun c2 => ?_) (fun c2 => ?_)
        · skip
          rw [nI_eqN (by omega) (by omega)] at c2
          refine s_iincN (pc' := 101) dX1_wordFromStart_98 rfl lg2 rfl ls2 ?_
          refine s_goto (tgt := 21) dX1_wordFromStart_101 (by decide) ?_
          exact nx (by unfold wmB; rw [← ha, decide_eq_false c2, Bool.false_and]) _ _ _
        · skip
          rw [nI_eqN (by omega) (by omega)] at c2
          refine s_ldcW (pc' := 85) dX1_wordFromStart_83 rfl rfl ?_
          refine s_iload_n (pc' := 86) dX1_wordFromStart_85 rfl lg3 ?_
          refine s_iload_n (pc' := 87) dX1_wordFromStart_86 rfl lg1 ?_
          refine s_iadd (pc' := 88) dX1_wordFromStart_87 rfl ?_
          rw [nI_add]
          refine c_J0_charAt_5068e  (pc' := 91) dX1_wordFromStart_88 rfl lkX1_101 (by omega) (Nat.le_of_ble_eq_true rfl) (show w * 8 + (e - s) < 96 by omega) ?_
          rw [WC_b (show w * 8 + (e - s) < 96 by omega)]
          have hb : WC (w * 8 + (e - s)) < 256 := WC_lt (by omega)
          have e32 : (nI (WC (w * 8 + (e - s))) = 32) = (WC (w * 8 + (e - s)) = 32) := nI_eqN (b := 32) (by omega) (by omega)
          refine s_bipush (pc' := 93) dX1_wordFromStart_91 rfl bipush_32 ?_
          refine s_icmp_ne (pc' := 96) (tgt := 98) dX1_wordFromStart_93 rfl (by decide) (fun c3 => ?_) (fun c3 => ?_)
          · skip
            rw [e32] at c3
            refine s_iincN (pc' := 101) dX1_wordFromStart_98 rfl lg2 rfl ls2 ?_
            refine s_goto (tgt := 21) dX1_wordFromStart_101 (by decide) ?_
            exact nx (by unfold wmB; rw [decide_eq_false c3, Bool.and_false]) _ _ _
          · skip
            rw [e32] at c3
            have hit : wmB tp s (e - s) w = true := by unfold wmB; rw [← ha, decide_eq_true c2, decide_eq_true c3]; rfl
            have e := fk_at (m := 12) hno hit (by omega)
            rw [e, if_pos (by omega)] at K
            refine s_iload_n (pc' := 97) dX1_wordFromStart_96 rfl lg2 ?_
            refine s_iret dX1_wordFromStart_97 rfl (vp_nar_int _) ?_
            exact K
    exact outer 12 0 _ _ _ (by omega) (fun q hq => absurd hq (Nat.not_lt_zero q))
  · skip
    have h8 : 8 ≤ e - s := by
      rcases Nat.lt_or_ge (e - s) 8 with q | q
      · exact absurd (nI_lt (a := e - s) (b := 8) q (by omega)) c1
      · exact q
    unfold wrdN at K
    rw [if_pos h8] at K
    refine s_bipush (pc' := 18) dX1_wordFromStart_16 rfl bipush_22 ?_
    refine s_iret dX1_wordFromStart_18 rfl (vp_nar_int _) ?_
    exact K
theorem c_X1_wordFromStart {z : Zz} {d kc ks : Nat} {mi : MI} {pc pc' : Nat} {L S : List Value} {Q : Option Value → Lay → Mem → Prop} {rf : Nat → Value} {tl : Lay} {mem : Mem}  {s e sz : Nat} {tp : Nat → Nat} {idx : Nat} (hd : decode mi.2.1 pc = .ok (.invokevirtual idx, 3)) (hp : pc + 3 = pc') (hlk : Cond.methodLink mi.1.cls idx yX1_wordFromStart ∈ wok) (hdd : 4 + 1 ≤ d) (hcat : (S.map (fun v => v.category)).sum ≤ 8) (hse : s ≤ e) (hez : e ≤ sz) (hsz : sz ≤ 160) (h5 : mem 7 5 = nI e) (h6 : mem 7 6 = nI s) (ht : ∀ i, i < sz → mem 8 i = nI (tp i)) (h256 : ∀ i, i < sz → tp i < 256) (K :  Sim z d kc ks mi pc' L (.int (nI (wrdN tp s (e - s))) :: S) (LAY rf tl) mem Q) : Sim z d kc ks mi pc L (.ref 7 :: S) (LAY rf tl) mem Q :=
  s_invV (d2 := 4) hd hp okX1_wordFromStart hlk inX1_wordFromStart seX1_wordFromStart hdd (Nat.zero_add _) (Nat.zero_add _) rfl rfl ly7 rfl hcat (Nat.le_of_ble_eq_true rfl) (m_X1_wordFromStart (Nat.le_refl _) hse hez hsz h5 h6 ht h256 K)

