/-! ===== the Model: fill, jars ===== -/
/-- but the jars, fewest and digits -/
def flf (mem mem' : Mem) : Prop := (∀ c, c ≠ 47 → c ≠ 60 → mem' c = mem c) ∧ ∀ q, q ≠ 22 → q ≠ 23 → mem' 47 q = mem 47 q
theorem flf.rf {mem : Mem} : flf mem mem := ⟨fun _ _ _ => rfl, fun _ _ _ => rfl⟩
theorem flf.tr {a b c : Mem} (h1 : flf a b) (h2 : flf b c) : flf a c := ⟨fun j q1 q2 => (h2.1 j q1 q2).trans (h1.1 j q1 q2), fun q q1 q2 => (h2.2 q q1 q2).trans (h1.2 q q1 q2)⟩
theorem lpM_s {f : Nat → FS → FS} {m : Nat} {s : FS} : lpM f (m + 1) s = f m (lpM f m s) := rfl
theorem lpM_le {f : Nat → FS → FS} (hf : ∀ j s, (f j s).1 ≤ s.1) : ∀ (m : Nat) (s : FS), (lpM f m s).1 ≤ s.1
  | 0, s => Nat.le_refl _
  | m + 1, s => by rw [lpM_s]; exact Nat.le_trans (hf _ _) (lpM_le hf m s)
set_option maxHeartbeats 4000000 in
theorem fl_all {z : Zz} {rf : Nat → Value} {tl : Lay} {n : Nat} {ca : Nat → Int32} {lf : Int32} (h8 : n ≤ 8) : ∀ (k p u d : Nat) (mem : Mem) (h : Nat → Int32) (r : Int32) (s : FS) (Q : Option Value → Lay → Mem → Prop), p + k = n → u ≤ p → k + 3 ≤ d → mem 48 40 = nI n → (∀ a, a < n → mem 59 a = ca a) → (∀ j, j < 9 → mem 60 j = h j) → (∀ j, j < 9 → ∀ q, p ≤ q → q < 8 → h j &&& b1I q = 0) → mem 47 22 = nI s.1 → s.1 ≤ 9 → mem 47 23 = s.2 → (∀ mem', flf mem mem' → (∀ j, j < 9 → mem' 60 j = h j) → mem' 47 22 = nI (fiM ca lf k p u h r s).1 → mem' 47 23 = (fiM ca lf k p u h r s).2 → Q none (LAY rf tl) mem') → Sim z d 0 0 mX7_fill 0 [.ref 47, .int (nI p), .int (nI u), .int r, .int lf, .float 0] [] (LAY rf tl) mem Q := by
  intro k
  induction k with
  | zero =>
    intro p u d mem h r s Q hp hu hd hn hca hh hb hF hF9 hD K
    have : p = n := by omega
    subst this
    rw [fiM_0] at K
    refine s_iload_n (pc' := 1) dX7_fill_0 rfl lg2 ?_
    refine s_aload_n (pc' := 2) dX7_fill_1 rfl lg0 rfl ?_
    refine s_getIv (pc' := 5) (v := nI s.1) dX7_fill_2 rfl flX7_251 ly47 (by decide) rfl hF ?_
    rcases Nat.lt_or_ge u s.1 with q | q
    · rw [if_neg (by omega)] at K
      refine s_icmp_lt (pc' := 8) (tgt := 9) dX7_fill_5 rfl (by decide) (fun _ => ?_) (fun c9 => absurd (nI_lt q (by omega)) c9)
      refine s_iload_n (pc' := 10) dX7_fill_9 rfl lg1 ?_
      refine s_aload_n (pc' := 11) dX7_fill_10 rfl lg0 rfl ?_
      refine c_X7_many  (pc' := 14) dX7_fill_11 rfl lkX7_101 (by omega) (Nat.le_of_ble_eq_true rfl) ?_
      refine s_icmp_ne (pc' := 17) (tgt := 28) dX7_fill_14 rfl (by decide) (fun c9 => absurd (by rw [hn]) c9) (fun _ => ?_)
      refine s_aload_n (pc' := 18) dX7_fill_17 rfl lg0 rfl ?_
      refine s_iload_n (pc' := 19) dX7_fill_18 rfl lg2 ?_
      refine s_putI (pc' := 22) (ty := .int) dX7_fill_19 rfl flX7_251 fw7_22 pdI rfl rfl ly47 (by decide) rfl ?_
      refine s_aload_n (pc' := 23) dX7_fill_22 rfl lg0 rfl ?_
      refine s_iload_n (pc' := 24) dX7_fill_23 rfl lg3 ?_
      refine s_putI (pc' := 27) (ty := .int) dX7_fill_24 rfl flX7_254 fw7_23 pdI rfl rfl ly47 (by decide) rfl ?_
      refine s_vret dX7_fill_27 rfl ?_
      exact K _ ⟨fun c q1 q2 => by rw [upN q1, upN q1], fun q q1 q2 => by rw [upE, udN q2, upE, udN q1]⟩ (fun j hj => by rw [upN (by decide), upN (by decide)]; exact hh j hj) (by rw [upE, udN (by decide), upE, udE]) (by rw [upE, udE])
    · rw [if_pos q] at K
      refine s_icmp_lt (pc' := 8) (tgt := 9) dX7_fill_5 rfl (by decide) (fun c9 => absurd c9 (nI_nlt q (by omega))) (fun _ => ?_)
      refine s_vret dX7_fill_8 rfl ?_
      exact K mem flf.rf hh hF hD
  | succ k ih =>
    intro p u d mem h r s Q hp hu hd hn hca hh hb hF hF9 hD K
    rw [fiM_s] at K
    refine s_iload_n (pc' := 1) dX7_fill_0 rfl lg2 ?_
    refine s_aload_n (pc' := 2) dX7_fill_1 rfl lg0 rfl ?_
    refine s_getIv (pc' := 5) (v := nI s.1) dX7_fill_2 rfl flX7_251 ly47 (by decide) rfl hF ?_
    rcases Nat.lt_or_ge u s.1 with q | q
    · rw [if_neg (by omega)] at K
      refine s_icmp_lt (pc' := 8) (tgt := 9) dX7_fill_5 rfl (by decide) (fun _ => ?_) (fun c9 => absurd (nI_lt q (by omega)) c9)
      refine s_iload_n (pc' := 10) dX7_fill_9 rfl lg1 ?_
      refine s_aload_n (pc' := 11) dX7_fill_10 rfl lg0 rfl ?_
      refine c_X7_many  (pc' := 14) dX7_fill_11 rfl lkX7_101 (by omega) (Nat.le_of_ble_eq_true rfl) ?_
      refine s_icmp_ne (pc' := 17) (tgt := 28) dX7_fill_14 rfl (by decide) (fun _ => ?_) (fun c9 => absurd c9 (by rw [hn]; exact fun e => absurd ((nI_eq (a := p) (b := n) (by omega) (by omega)).mp e) (by omega)))
      refine s_iload_n (pc' := 29) dX7_fill_28 rfl lg1 ?_
      refine s_iload (pc' := 31) dX7_fill_29 rfl lg4 ?_
      refine s_icmp_ne (pc' := 34) (tgt := 46) dX7_fill_31 rfl (by decide) (fun c1 => ?_) (fun c1 => ?_)
      · skip
        rw [if_neg c1] at K
        refine s_iconst (pc' := 47) dX7_fill_46 rfl iconst_0 ?_
        refine s_istore (pc' := 49) dX7_fill_47 rfl (Nat.le_of_ble_eq_true rfl) rfl ls5 ?_
        have loop : ∀ (m j : Nat) (mm : Mem), j + m = u + 1 → flf mem mm → (∀ j, j < 9 → mm 60 j = h j) → mm 47 22 = nI (lpM (fun j s => if h j &&& ca p = 0 then fiM ca lf k (p + 1) (max u (j + 1)) (upd h j (h j ||| b1I p)) (10 * r + nI (j + 1)) s else s) j s).1 → (lpM (fun j s => if h j &&& ca p = 0 then fiM ca lf k (p + 1) (max u (j + 1)) (upd h j (h j ||| b1I p)) (10 * r + nI (j + 1)) s else s) j s).1 ≤ 9 → mm 47 23 = (lpM (fun j s => if h j &&& ca p = 0 then fiM ca lf k (p + 1) (max u (j + 1)) (upd h j (h j ||| b1I p)) (10 * r + nI (j + 1)) s else s) j s).2 → Sim z d 0 0 mX7_fill 49 [.ref 47, .int (nI p), .int (nI u), .int r, .int lf, .int (nI j)] [] (LAY rf tl) mm Q := by
          intro m
          induction m with
          | zero =>
            intro j mm hj hm hmm hmF hm9 hmD
            have : j = u + 1 := by omega
            subst this
            refine s_iload (pc' := 51) dX7_fill_49 rfl lg5 ?_
            refine s_iload_n (pc' := 52) dX7_fill_51 rfl lg2 ?_
            refine s_icmp_gt (pc' := 55) (tgt := 132) dX7_fill_52 rfl (by decide) (fun _ => ?_) (fun c9 => absurd ((nI_ltI (a := u) (b := u + 1) (by omega) (by omega)).mpr (by omega)) c9)
            refine s_vret dX7_fill_132 rfl ?_
            exact K mm hm hmm hmF hmD
          | succ m ihm =>
            intro j mm hj hm hmm hmF hm9 hmD
            have nxt := fun mm' => ihm (j + 1) mm' (by omega)
            rw [lpM_s] at nxt
            generalize lpM (fun j s => if h j &&& ca p = 0 then fiM ca lf k (p + 1) (max u (j + 1)) (upd h j (h j ||| b1I p)) (10 * r + nI (j + 1)) s else s) j s = sm at nxt hmF hm9 hmD
            refine s_iload (pc' := 51) dX7_fill_49 rfl lg5 ?_
            refine s_iload_n (pc' := 52) dX7_fill_51 rfl lg2 ?_
            refine s_icmp_gt (pc' := 55) (tgt := 132) dX7_fill_52 rfl (by decide) (fun c9 => absurd c9 (fun e => by have := (nI_ltI (a := u) (b := j) (by omega) (by omega)).mp e; omega)) (fun _ => ?_)
            refine s_aload_n (pc' := 56) dX7_fill_55 rfl lg0 rfl ?_
            refine s_getRv (pc' := 59) (v := .ref 60) dX7_fill_56 rfl flX7_55 ly47 (by decide) rfl rfl ?_
            refine s_iload (pc' := 61) dX7_fill_59 rfl lg5 ?_
            refine s_ialdNv (pc' := 62) (v := h j) dX7_fill_61 rfl ly60 (by omega) (by decide) (hmm j (by omega)) ?_
            refine s_aload_n (pc' := 63) dX7_fill_62 rfl lg0 rfl ?_
            refine s_getRv (pc' := 66) (v := .ref 59) dX7_fill_63 rfl flX7_52 ly47 (by decide) rfl rfl ?_
            refine s_iload_n (pc' := 67) dX7_fill_66 rfl lg1 ?_
            refine s_ialdNv (pc' := 68) (v := ca p) dX7_fill_67 rfl ly59 (by omega) (by decide) (by rw [hm.1 59 (by decide) (by decide)]; exact hca p (by omega)) ?_
            refine s_iand (pc' := 69) dX7_fill_68 rfl ?_
            refine s_if_ne (pc' := 72) (tgt := 126) dX7_fill_69 rfl (by decide) (fun c2 => ?_) (fun c2 => ?_)
            · skip
              rw [if_neg c2] at nxt
              refine s_iincN (pc' := 129) dX7_fill_126 rfl lg5 rfl ls5 ?_
              refine s_goto (tgt := 49) dX7_fill_129 (by decide) ?_
              exact nxt mm hm hmm hmF hm9 hmD
            · skip
              rw [if_pos c2] at nxt
              have hle : (fiM ca lf k (p + 1) (max u (j + 1)) (upd h j (h j ||| b1I p)) (10 * r + nI (j + 1)) sm).1 ≤ sm.1 := fiM_le
              refine s_aload_n (pc' := 73) dX7_fill_72 rfl lg0 rfl ?_
              refine s_getRv (pc' := 76) (v := .ref 60) dX7_fill_73 rfl flX7_55 ly47 (by decide) rfl rfl ?_
              refine s_iload (pc' := 78) dX7_fill_76 rfl lg5 ?_
              refine s_dup2 (pc' := 79) dX7_fill_78 rfl rfl rfl ?_
              refine s_ialdNv (pc' := 80) (v := h j) dX7_fill_79 rfl ly60 (by omega) (by decide) (hmm j (by omega)) ?_
              refine s_iconst (pc' := 81) dX7_fill_80 rfl iconst_1 ?_
              refine s_iload_n (pc' := 82) dX7_fill_81 rfl lg1 ?_
              refine s_ishl (pc' := 83) dX7_fill_82 rfl ?_
              refine s_ior (pc' := 84) dX7_fill_83 rfl ?_
              refine s_iastN (pc' := 85) dX7_fill_84 rfl ly60 (by omega) (by decide) ?_
              refine s_aload_n (pc' := 86) dX7_fill_85 rfl lg0 rfl ?_
              refine s_iload_n (pc' := 87) dX7_fill_86 rfl lg1 ?_
              refine s_iconst (pc' := 88) dX7_fill_87 rfl iconst_1 ?_
              refine s_iadd (pc' := 89) dX7_fill_88 rfl ?_
              rw [nI_1]
              refine s_iload_n (pc' := 90) dX7_fill_89 rfl lg2 ?_
              refine s_iload (pc' := 92) dX7_fill_90 rfl lg5 ?_
              refine s_iconst (pc' := 93) dX7_fill_92 rfl iconst_1 ?_
              refine s_iadd (pc' := 94) dX7_fill_93 rfl ?_
              rw [nI_1]
              refine c_J9_max_7cf53 (pc' := 97) dX7_fill_94 rfl lkX7_83 (by omega) (Nat.le_of_ble_eq_true rfl)  ?_
              rw [mx_nI (by omega) (by omega)]
              refine s_bipush (pc' := 99) dX7_fill_97 rfl bipush_10 ?_
              refine s_iload_n (pc' := 100) dX7_fill_99 rfl lg3 ?_
              refine s_imul (pc' := 101) dX7_fill_100 rfl ?_
              refine s_iload (pc' := 103) dX7_fill_101 rfl lg5 ?_
              refine s_iadd (pc' := 104) dX7_fill_103 rfl ?_
              refine s_iconst (pc' := 105) dX7_fill_104 rfl iconst_1 ?_
              refine s_iadd (pc' := 106) dX7_fill_105 rfl ?_
              rw [Int32.add_assoc, nI_1]
              refine s_iload (pc' := 108) dX7_fill_106 rfl lg4 ?_
              rw [show h j ||| (1 : Int32) <<< (nI p &&& 31) = h j ||| b1I p from rfl]
              refine s_invV (d2 := d - 1) (pc' := 111) dX7_fill_108 rfl okX7_fill lkX7_257 inX7_fill seX7_fill (by omega) (Nat.zero_add _) (Nat.zero_add _) rfl rfl ly47 rfl (Nat.le_of_ble_eq_true rfl) (Nat.le_of_ble_eq_true rfl) (ih (p + 1) (max u (j + 1)) (d - 1) (am_up mm 60 j (h j ||| b1I p)) (upd h j (h j ||| b1I p)) (10 * r + nI (j + 1)) sm _ (by omega) (by omega) (by omega) (by rw [upN (by decide), hm.1 48 (by decide) (by decide)]; exact hn) (fun a ha => by rw [upN (by decide), hm.1 59 (by decide) (by decide)]; exact hca a ha) (fun j' hj' => ?_) (fun j' hj' q' q1 q2 => ?_) (by rw [upN (by decide)]; exact hmF) hm9 (by rw [upN (by decide)]; exact hmD) (fun m2 g1 g2 g3 g4 => ?_))
              · rw [upE]
                by_cases e : j' = j
                · rw [e, udE, udE]
                · rw [udN e, udN e]; exact hmm j' hj'
              · by_cases e : j' = j
                · rw [e, udE]
                  exact and_or_0 (hb j (by omega) q' (by omega) q2) (b1_ne (by omega) q2 (by omega))
                · rw [udN e]; exact hb j' hj' q' (by omega) q2
              · skip
                refine s_aload_n (pc' := 112) dX7_fill_111 rfl lg0 rfl ?_
                refine s_getRv (pc' := 115) (v := .ref 60) dX7_fill_112 rfl flX7_55 ly47 (by decide) rfl rfl ?_
                refine s_iload (pc' := 117) dX7_fill_115 rfl lg5 ?_
                refine s_dup2 (pc' := 118) dX7_fill_117 rfl rfl rfl ?_
                refine s_ialdNv (pc' := 119) (v := (h j ||| b1I p)) dX7_fill_118 rfl ly60 (by omega) (by decide) (by rw [g2 j (by omega), udE]) ?_
                refine s_iconst (pc' := 120) dX7_fill_119 rfl iconst_1 ?_
                refine s_iload_n (pc' := 121) dX7_fill_120 rfl lg1 ?_
                refine s_ishl (pc' := 122) dX7_fill_121 rfl ?_
                refine s_iconst (pc' := 123) dX7_fill_122 rfl iconst_m1 ?_
                refine s_ixor (pc' := 124) dX7_fill_123 rfl ?_
                refine s_iand (pc' := 125) dX7_fill_124 rfl ?_
                rw [show (h j ||| b1I p) &&& ((1 : Int32) <<< (nI p &&& 31) ^^^ -1) = h j from or_cut (hb j (by omega) p (Nat.le_refl p) (by omega))]
                refine s_iastN (pc' := 126) dX7_fill_125 rfl ly60 (by omega) (by decide) ?_
                refine s_iincN (pc' := 129) dX7_fill_126 rfl lg5 rfl ls5 ?_
                refine s_goto (tgt := 49) dX7_fill_129 (by decide) ?_
                refine nxt (am_up m2 60 j (h j)) ⟨fun c q1 q2 => by rw [upN q2, g1.1 c q1 q2, upN q2]; exact hm.1 c q1 q2, fun q q1 q2 => by rw [upN (by decide), g1.2 q q1 q2, upN (by decide)]; exact hm.2 q q1 q2⟩ (fun j' hj' => ?_) (by rw [upN (by decide)]; exact g3) (by omega) (by rw [upN (by decide)]; exact g4)
                rw [upE]
                by_cases e : j' = j
                · rw [e, udE]
                · rw [udN e, g2 j' hj', udN e]
        exact loop (u + 1) 0 mem (by omega) flf.rf hh hF hF9 hD
      · skip
        rw [if_pos c1] at K
        refine s_aload_n (pc' := 35) dX7_fill_34 rfl lg0 rfl ?_
        refine s_iload_n (pc' := 36) dX7_fill_35 rfl lg1 ?_
        refine s_iconst (pc' := 37) dX7_fill_36 rfl iconst_1 ?_
        refine s_iadd (pc' := 38) dX7_fill_37 rfl ?_
        rw [nI_1]
        refine s_iload_n (pc' := 39) dX7_fill_38 rfl lg2 ?_
        refine s_iload_n (pc' := 40) dX7_fill_39 rfl lg3 ?_
        refine s_iload (pc' := 42) dX7_fill_40 rfl lg4 ?_
        refine s_invV (d2 := d - 1) (pc' := 45) dX7_fill_42 rfl okX7_fill lkX7_257 inX7_fill seX7_fill (by omega) (Nat.zero_add _) (Nat.zero_add _) rfl rfl ly47 rfl (Nat.le_of_ble_eq_true rfl) (Nat.le_of_ble_eq_true rfl) (ih (p + 1) u (d - 1) mem h r s _ (by omega) (by omega) (by omega) hn hca hh (fun j hj q' q1 q2 => hb j hj q' (by omega) q2) hF hF9 hD (fun m2 g1 g2 g3 g4 => ?_))
        refine s_vret dX7_fill_45 rfl ?_
        exact K m2 g1 g2 g3 g4
    · rw [if_pos q] at K
      refine s_icmp_lt (pc' := 8) (tgt := 9) dX7_fill_5 rfl (by decide) (fun c9 => absurd c9 (nI_nlt q (by omega))) (fun _ => ?_)
      refine s_vret dX7_fill_8 rfl ?_
      exact K mem flf.rf hh hF hD
/-- but the rows of jars and of the unlike, the row of numbers, fewest and digits -/
def jbf (mem mem' : Mem) : Prop := (∀ c, c ≠ 47 → c ≠ 56 → c ≠ 59 → c ≠ 60 → mem' c = mem c) ∧ (∀ q, q ≠ 22 → q ≠ 23 → mem' 47 q = mem 47 q) ∧ ∀ j, j < 9 → mem' 60 j = mem 60 j
theorem jbf.rf {mem : Mem} : jbf mem mem := ⟨fun _ _ _ _ _ => rfl, fun _ _ _ => rfl, fun _ _ => rfl⟩
theorem jbf.tr {a b c : Mem} (h1 : jbf a b) (h2 : jbf b c) : jbf a c := ⟨fun j q1 q2 q3 q4 => (h2.1 j q1 q2 q3 q4).trans (h1.1 j q1 q2 q3 q4), fun q q1 q2 => (h2.2.1 q q1 q2).trans (h1.2.1 q q1 q2), fun j hj => (h2.2.2 j hj).trans (h1.2.2 j hj)⟩
theorem jbf.of_rwf {a b : Mem} (h : rwf a b) : jbf a b := ⟨fun j _ q _ _ => h j q, fun q _ _ => by rw [h 47 (by decide)], fun j _ => by rw [h 60 (by decide)]⟩
theorem isM.jbf {mem mem' : Mem} {σ : Nat → Nat → Int32} {n : Nat} {td ru : Int32} (h : isM 48 mem σ n td ru) (hk : jbf mem mem') : isM 48 mem' σ n td ru := h.cp (fun q _ => by rw [hk.1 48 (by decide) (by decide) (by decide) (by decide)])
theorem isTM.jbf {mem mem' : Mem} {nt : Nat} {T : Nat → Nat → List Int32} (h : isTM mem nt T) (hk : jbf mem mem') : isTM mem' nt T := h.kept (hk.2.1 12 (by decide) (by decide)) (hk.1 52 (by decide) (by decide) (by decide) (by decide)) (hk.1 53 (by decide) (by decide) (by decide) (by decide))
set_option maxHeartbeats 4000000 in
theorem m_X7_jarsBut {z : Zz} {d : Nat} {Q : Option Value → Lay → Mem → Prop} {rf : Nat → Value} {tl : Lay} {mem : Mem}  {n w nt : Nat} {σ : Nat → Nat → Int32} {td lf : Int32} {T : Nat → Nat → List Int32} (hdd : 13 ≤ d) (hM : isM 48 mem σ n td (nI w)) (hT : isTM mem nt T) (hw : w < nt) (h60 : ∀ j, j < 9 → mem 60 j = 0) (K : ∀ mem', jbf mem mem' → mem' 47 23 = rwL 0 (fwL (caI σ n td (T w)) n lf) → Q (some (.int (nI (fwN (caI σ n td (T w)) n lf)))) (LAY rf tl) mem') : Sim z d 0 0 mX7_jarsBut 0 [.ref 47, .int lf, .float 0, .float 0] [] (LAY rf tl) mem Q := by
  have h8 := hM.2.1
  have hn := hM.1
  have last : ∀ (m : Mem) (v2 v3 : Value), jbf mem m → (∀ a, a < n → m 59 a = caI σ n td (T w) a) → Sim z d 0 0 mX7_jarsBut 69 [.ref 47, .int lf, v2, v3] [] (LAY rf tl) m Q := by
    intro m v2 v3 hm hca
    refine s_aload_n (pc' := 70) dX7_jarsBut_69 rfl lg0 rfl ?_
    refine s_bipush (pc' := 72) dX7_jarsBut_70 rfl bipush_9 ?_
    refine s_putI (pc' := 75) (ty := .int) dX7_jarsBut_72 rfl flX7_251 fw7_22 pdI rfl rfl ly47 (by decide) rfl ?_
    refine s_aload_n (pc' := 76) dX7_jarsBut_75 rfl lg0 rfl ?_
    refine s_iconst (pc' := 77) dX7_jarsBut_76 rfl iconst_0 ?_
    refine s_putI (pc' := 80) (ty := .int) dX7_jarsBut_77 rfl flX7_254 fw7_23 pdI rfl rfl ly47 (by decide) rfl ?_
    refine s_aload_n (pc' := 81) dX7_jarsBut_80 rfl lg0 rfl ?_
    refine s_iconst (pc' := 82) dX7_jarsBut_81 rfl iconst_0 ?_
    refine s_iconst (pc' := 83) dX7_jarsBut_82 rfl iconst_0 ?_
    refine s_iconst (pc' := 84) dX7_jarsBut_83 rfl iconst_0 ?_
    refine s_iload_n (pc' := 85) dX7_jarsBut_84 rfl lg1 ?_
    refine s_invV (d2 := d - 1) (pc' := 88) dX7_jarsBut_85 rfl okX7_fill lkX7_257 inX7_fill seX7_fill (by omega) (Nat.zero_add _) (Nat.zero_add _) rfl rfl ly47 rfl (Nat.le_of_ble_eq_true rfl) (Nat.le_of_ble_eq_true rfl) (fl_all (ca := caI σ n td (T w)) h8 n 0 0 (d - 1) _ h0 0 (9, 0) _ (by omega) (by omega) (by omega) (by rw [upN (by decide), upN (by decide), hm.1 48 (by decide) (by decide) (by decide) (by decide)]; exact hn) (fun a ha => by rw [upN (by decide), upN (by decide)]; exact hca a ha) (fun j hj => by rw [upN (by decide), upN (by decide), hm.2.2 j hj]; exact h60 j hj) (fun _ _ _ _ _ => Int32.zero_and) (by rw [upE, udN (by decide), upE, udE]; rfl) (by decide) (by rw [upE, udE]) (fun m2 g1 g2 g3 g4 => ?_))
    rw [fi_end h8] at g3 g4
    dsimp only at g3 g4
    refine s_aload_n (pc' := 89) dX7_jarsBut_88 rfl lg0 rfl ?_
    refine s_getIv (pc' := 92) (v := nI (fwN (caI σ n td (T w)) n lf)) dX7_jarsBut_89 rfl flX7_251 ly47 (by decide) rfl g3 ?_
    refine s_iret dX7_jarsBut_92 rfl (vp_nar_int _) ?_
    refine K m2 ⟨fun c q1 q2 q3 q4 => by rw [g1.1 c q1 q4, upN q1, upN q1]; exact hm.1 c q1 q2 q3 q4, fun q q1 q2 => by rw [g1.2 q q1 q2, upE, udN q2, upE, udN q1]; exact hm.2.1 q q1 q2, fun j hj => by rw [g2 j hj, h60 j hj]; rfl⟩ g4
  have inner : ∀ (i : Nat), i < n → ∀ (k j : Nat) (m : Mem), j + k = n → jbf mem m → (∀ a, a < i → m 59 a = caI σ n td (T w) a) → m 59 i = bo (prB σ td (T w) i) j → (∀ m', jbf mem m' → (∀ a, a < i + 1 → m' 59 a = caI σ n td (T w) a) → Sim z d 0 0 mX7_jarsBut 63 [.ref 47, .int lf, .int (nI i), .int (nI n)] [] (LAY rf tl) m' Q) → Sim z d 0 0 mX7_jarsBut 19 [.ref 47, .int lf, .int (nI i), .int (nI j)] [] (LAY rf tl) m Q := by
    intro i hi k
    induction k with
    | zero =>
      intro j m hj hm hlo hi2 KK
      have hn := (hM.jbf hm).1
      have : j = n := by omega
      subst this
      refine s_iload_n (pc' := 20) dX7_jarsBut_19 rfl lg3 ?_
      refine s_aload_n (pc' := 21) dX7_jarsBut_20 rfl lg0 rfl ?_
      refine c_X7_many  (pc' := 24) dX7_jarsBut_21 rfl lkX7_101 (by omega) (Nat.le_of_ble_eq_true rfl) ?_
      refine s_icmp_ge (pc' := 27) (tgt := 63) dX7_jarsBut_24 rfl (by decide) (fun _ => ?_) (fun c9 => absurd (by rw [hn]; exact nI_le (by omega) (by omega)) c9)
      refine KK m hm (fun a ha => ?_)
      by_cases e : a = i
      · rw [e]; exact hi2
      · exact hlo a (by omega)
    | succ k ih =>
      intro j m hj hm hlo hi2 KK
      have hMm := hM.jbf hm
      have hn := hMm.1
      have fin : ∀ (m1 : Mem) (x y : Int32), jbf mem m1 → m1 59 = m 59 → bo (prB σ td (T w) i) (j + 1) = x ||| y → Sim z d 0 0 mX7_jarsBut 55 [.ref 47, .int lf, .int (nI i), .int (nI j)] [.int y, .int x, .int (nI i), .ref 59] (LAY rf tl) m1 Q := by
        intro m1 x y hm1 h59 hxy
        refine s_ior (pc' := 56) dX7_jarsBut_55 rfl ?_
        refine s_iastN (pc' := 57) dX7_jarsBut_56 rfl ly59 (by omega) (by decide) ?_
        refine s_iincN (pc' := 60) dX7_jarsBut_57 rfl lg3 rfl ls3 ?_
        refine s_goto (tgt := 19) dX7_jarsBut_60 (by decide) ?_
        refine ih (j + 1) _ (by omega) ⟨fun c q1 q2 q3 q4 => by rw [upN q3]; exact hm1.1 c q1 q2 q3 q4, fun q q1 q2 => by rw [upN (by decide)]; exact hm1.2.1 q q1 q2, fun j hj => by rw [upN (by decide)]; exact hm1.2.2 j hj⟩ (fun a ha => by rw [upE, udN (by omega), h59]; exact hlo a ha) (by rw [upE, udE, hxy]) KK
      refine s_iload_n (pc' := 20) dX7_jarsBut_19 rfl lg3 ?_
      refine s_aload_n (pc' := 21) dX7_jarsBut_20 rfl lg0 rfl ?_
      refine c_X7_many  (pc' := 24) dX7_jarsBut_21 rfl lkX7_101 (by omega) (Nat.le_of_ble_eq_true rfl) ?_
      refine s_icmp_ge (pc' := 27) (tgt := 63) dX7_jarsBut_24 rfl (by decide) (fun c9 => absurd c9 (by rw [hn]; exact nI_ge (by omega) (by omega))) (fun _ => ?_)
      refine s_aload_n (pc' := 28) dX7_jarsBut_27 rfl lg0 rfl ?_
      refine s_getRv (pc' := 31) (v := .ref 59) dX7_jarsBut_28 rfl flX7_52 ly47 (by decide) rfl rfl ?_
      refine s_iload_n (pc' := 32) dX7_jarsBut_31 rfl lg2 ?_
      refine s_dup2 (pc' := 33) dX7_jarsBut_32 rfl rfl rfl ?_
      refine s_ialdNv (pc' := 34) (v := bo (prB σ td (T w) i) j) dX7_jarsBut_33 rfl ly59 (by omega) (by decide) hi2 ?_
      refine s_iload_n (pc' := 35) dX7_jarsBut_34 rfl lg3 ?_
      refine s_iload_n (pc' := 36) dX7_jarsBut_35 rfl lg2 ?_
      refine s_icmp_eq (pc' := 39) (tgt := 54) dX7_jarsBut_36 rfl (by decide) (fun c1 => ?_) (fun c1 => ?_)
      · skip
        rw [nI_eqN (by omega) (by omega)] at c1
        refine s_iconst (pc' := 55) dX7_jarsBut_54 rfl iconst_0 ?_
        exact fin m _ _ hm rfl (by rw [or_0, c1, bo_f prB_self])
      · skip
        rw [nI_eqN (by omega) (by omega)] at c1
        refine s_aload_n (pc' := 40) dX7_jarsBut_39 rfl lg0 rfl ?_
        refine s_iload_n (pc' := 41) dX7_jarsBut_40 rfl lg2 ?_
        refine s_iload_n (pc' := 42) dX7_jarsBut_41 rfl lg3 ?_
        refine c_X7_isUnlike  (pc' := 45) dX7_jarsBut_42 rfl lkX7_261 (by omega) (Nat.le_of_ble_eq_true rfl) hMm hi (by omega) (hT.jbf hm) hw (fun m1 s1 => ?_)
        have hm1 := hm.tr (jbf.of_rwf s1)
        refine s_if_eq (pc' := 48) (tgt := 54) dX7_jarsBut_45 rfl (by decide) (fun c2 => ?_) (fun c2 => ?_)
        · skip
          refine s_iconst (pc' := 55) dX7_jarsBut_54 rfl iconst_0 ?_
          exact fin m1 _ _ hm1 (s1 59 (by decide)) (by rw [or_0, bo_f (prB_f c2)])
        · skip
          refine s_iconst (pc' := 49) dX7_jarsBut_48 rfl iconst_1 ?_
          refine s_iload_n (pc' := 50) dX7_jarsBut_49 rfl lg3 ?_
          refine s_ishl (pc' := 51) dX7_jarsBut_50 rfl ?_
          refine s_goto (tgt := 55) dX7_jarsBut_51 (by decide) ?_
          exact fin m1 _ _ hm1 (s1 59 (by decide)) (by rw [bo_t (prB_t c1 c2)])
  refine s_iconst (pc' := 1) dX7_jarsBut_0 rfl iconst_0 ?_
  refine s_istore_n (pc' := 2) dX7_jarsBut_1 rfl (Nat.le_of_ble_eq_true rfl) rfl ls2 ?_
  have loop : ∀ (k i : Nat) (m : Mem) (v3 : Value), i + k = n → jbf mem m → (∀ a, a < i → m 59 a = caI σ n td (T w) a) → Sim z d 0 0 mX7_jarsBut 2 [.ref 47, .int lf, .int (nI i), v3] [] (LAY rf tl) m Q := by
    intro k
    induction k with
    | zero =>
      intro i m v3 hi hm hlo
      have hn := (hM.jbf hm).1
      have : i = n := by omega
      subst this
      refine s_iload_n (pc' := 3) dX7_jarsBut_2 rfl lg2 ?_
      refine s_aload_n (pc' := 4) dX7_jarsBut_3 rfl lg0 rfl ?_
      refine c_X7_many  (pc' := 7) dX7_jarsBut_4 rfl lkX7_101 (by omega) (Nat.le_of_ble_eq_true rfl) ?_
      refine s_icmp_ge (pc' := 10) (tgt := 69) dX7_jarsBut_7 rfl (by decide) (fun _ => ?_) (fun c9 => absurd (by rw [hn]; exact nI_le (by omega) (by omega)) c9)
      exact last m _ _ hm hlo
    | succ k ih =>
      intro i m v3 hi hm hlo
      have hn := (hM.jbf hm).1
      refine s_iload_n (pc' := 3) dX7_jarsBut_2 rfl lg2 ?_
      refine s_aload_n (pc' := 4) dX7_jarsBut_3 rfl lg0 rfl ?_
      refine c_X7_many  (pc' := 7) dX7_jarsBut_4 rfl lkX7_101 (by omega) (Nat.le_of_ble_eq_true rfl) ?_
      refine s_icmp_ge (pc' := 10) (tgt := 69) dX7_jarsBut_7 rfl (by decide) (fun c9 => absurd c9 (by rw [hn]; exact nI_ge (by omega) (by omega))) (fun _ => ?_)
      refine s_aload_n (pc' := 11) dX7_jarsBut_10 rfl lg0 rfl ?_
      refine s_getRv (pc' := 14) (v := .ref 59) dX7_jarsBut_11 rfl flX7_52 ly47 (by decide) rfl rfl ?_
      refine s_iload_n (pc' := 15) dX7_jarsBut_14 rfl lg2 ?_
      refine s_iconst (pc' := 16) dX7_jarsBut_15 rfl iconst_0 ?_
      refine s_iastN (pc' := 17) dX7_jarsBut_16 rfl ly59 (by omega) (by decide) ?_
      refine s_iconst (pc' := 18) dX7_jarsBut_17 rfl iconst_0 ?_
      refine s_istore_n (pc' := 19) dX7_jarsBut_18 rfl (Nat.le_of_ble_eq_true rfl) rfl ls3 ?_
      refine inner i (by omega) n 0 _ (by omega) ⟨fun c q1 q2 q3 q4 => by rw [upN q3]; exact hm.1 c q1 q2 q3 q4, fun q q1 q2 => by rw [upN (by decide)]; exact hm.2.1 q q1 q2, fun j hj => by rw [upN (by decide)]; exact hm.2.2 j hj⟩ (fun a ha => by rw [upE, udN (by omega)]; exact hlo a ha) (by rw [upE, udE]; rfl) (fun m' hm' hlo' => ?_)
      refine s_iincN (pc' := 66) dX7_jarsBut_63 rfl lg2 rfl ls2 ?_
      refine s_goto (tgt := 2) dX7_jarsBut_66 (by decide) ?_
      exact ih (i + 1) m' _ (by omega) hm' hlo'
  exact loop n 0 mem _ (by omega) jbf.rf (fun a ha => absurd ha (Nat.not_lt_zero a))
theorem c_X7_jarsBut {z : Zz} {d kc ks : Nat} {mi : MI} {pc pc' : Nat} {L S : List Value} {Q : Option Value → Lay → Mem → Prop} {rf : Nat → Value} {tl : Lay} {mem : Mem}  {n w nt : Nat} {σ : Nat → Nat → Int32} {td lf : Int32} {T : Nat → Nat → List Int32} {idx : Nat} (hd : decode mi.2.1 pc = .ok (.invokevirtual idx, 3)) (hp : pc + 3 = pc') (hlk : Cond.methodLink mi.1.cls idx yX7_jarsBut ∈ wok) (hdd : 13 + 1 ≤ d) (hcat : (S.map (fun v => v.category)).sum ≤ 8) (hM : isM 48 mem σ n td (nI w)) (hT : isTM mem nt T) (hw : w < nt) (h60 : ∀ j, j < 9 → mem 60 j = 0) (K : ∀ mem', jbf mem mem' → mem' 47 23 = rwL 0 (fwL (caI σ n td (T w)) n lf) → Sim z d kc ks mi pc' L (.int (nI (fwN (caI σ n td (T w)) n lf)) :: S) (LAY rf tl) mem' Q) : Sim z d kc ks mi pc L (.int lf :: .ref 47 :: S) (LAY rf tl) mem Q :=
  s_invV (d2 := 13) hd hp okX7_jarsBut hlk inX7_jarsBut seX7_jarsBut hdd (Nat.zero_add _) (Nat.zero_add _) rfl rfl ly47 rfl hcat (Nat.le_of_ble_eq_true rfl) (m_X7_jarsBut (Nat.le_refl _) hM hT hw h60 K)
set_option maxHeartbeats 4000000 in
theorem m_X7_jars {z : Zz} {d : Nat} {Q : Option Value → Lay → Mem → Prop} {rf : Nat → Value} {tl : Lay} {mem : Mem}  {n w nt : Nat} {σ : Nat → Nat → Int32} {td what : Int32} {T : Nat → Nat → List Int32} (hdd : 14 ≤ d) (hM : isM 48 mem σ n td (nI w)) (hT : isTM mem nt T) (hw : w < nt) (h60 : ∀ j, j < 9 → mem 60 j = 0) (K : ∀ mem', jbf mem mem' → Q (some (.int (jarR σ n td (T w) what))) (LAY rf tl) mem') : Sim z d 0 0 mX7_jars 0 [.ref 47, .int what, .float 0, .float 0, .float 0, .float 0] [] (LAY rf tl) mem Q := by
  have h8 := hM.2.1
  unfold jarR at K
  refine s_iload_n (pc' := 1) dX7_jars_0 rfl lg1 ?_
  refine s_iconst (pc' := 2) dX7_jars_1 rfl iconst_0 ?_
  refine s_iconst (pc' := 3) dX7_jars_2 rfl iconst_3 ?_
  refine c_X7_isIn  (pc' := 6) dX7_jars_3 rfl lkX7_86 (by omega) (Nat.le_of_ble_eq_true rfl) ?_
  refine s_if_ne (pc' := 9) (tgt := 12) dX7_jars_6 rfl (by decide) (fun c0 => ?_) (fun c0 => ?_)
  · skip
    rw [if_neg c0] at K
    have loop : ∀ (k i x : Nat) (b : Int32) (m : Mem) (v5 : Value), i + k = n → ((i = 0 ∧ b = -1 ∧ x = 0) ∨ (1 ≤ i ∧ (b, x) = loS (caI σ n td (T w)) n i)) → jbf mem m → (∀ m', jbf mem m' → Q (some (.int (if what = 2 then (loS (caI σ n td (T w)) n n).1 else nI (fwN (caI σ n td (T w)) n (loS (caI σ n td (T w)) n n).1)))) (LAY rf tl) m') → Sim z d 0 0 mX7_jars 43 [.ref 47, .int what, .int b, .int (nI x), .int (nI i), v5] [] (LAY rf tl) m Q := by
      intro k
      induction k with
      | zero =>
        intro i x b m v5 hi hbx hm KK
        have hn := (hM.jbf hm).1
        have : i = n := by omega
        subst this
        have K2 := KK m hm
        have e1 : (loS (caI σ i td (T w)) i i).1 = b := by
          rcases hbx with ⟨rfl, rfl, rfl⟩ | ⟨-, q⟩
          · rfl
          · rw [← q]
        have e2 : fwN (caI σ i td (T w)) i b = x := by
          rcases hbx with ⟨rfl, rfl, rfl⟩ | ⟨q1, q⟩
          · have := fwN_le (ca := caI σ 0 td (T w)) (n := 0) (lf := -1)
            omega
          · have := loS_fw (ca := caI σ i td (T w)) (n := i) i q1
            rw [← q] at this
            exact this
        rw [e1, e2] at K2
        refine s_iload (pc' := 45) dX7_jars_43 rfl lg4 ?_
        refine s_aload_n (pc' := 46) dX7_jars_45 rfl lg0 rfl ?_
        refine c_X7_many  (pc' := 49) dX7_jars_46 rfl lkX7_101 (by omega) (Nat.le_of_ble_eq_true rfl) ?_
        refine s_icmp_ge (pc' := 52) (tgt := 83) dX7_jars_49 rfl (by decide) (fun _ => ?_) (fun c9 => absurd (by rw [hn]; exact nI_le (by omega) (by omega)) c9)
        refine s_iload_n (pc' := 84) dX7_jars_83 rfl lg1 ?_
        refine s_iconst (pc' := 85) dX7_jars_84 rfl iconst_2 ?_
        refine s_icmp_ne (pc' := 88) (tgt := 92) dX7_jars_85 rfl (by decide) (fun c5 => ?_) (fun c5 => ?_)
        · skip
          rw [if_neg c5] at K2
          refine s_iload_n (pc' := 93) dX7_jars_92 rfl lg3 ?_
          refine s_iret dX7_jars_93 rfl (vp_nar_int _) ?_
          exact K2
        · skip
          rw [if_pos c5] at K2
          refine s_iload_n (pc' := 89) dX7_jars_88 rfl lg2 ?_
          refine s_goto (tgt := 93) dX7_jars_89 (by decide) ?_
          refine s_iret dX7_jars_93 rfl (vp_nar_int _) ?_
          exact K2
      | succ k ih =>
        intro i x b m v5 hi hbx hm KK
        have hMm := hM.jbf hm
        have hn := hMm.1
        refine s_iload (pc' := 45) dX7_jars_43 rfl lg4 ?_
        refine s_aload_n (pc' := 46) dX7_jars_45 rfl lg0 rfl ?_
        refine c_X7_many  (pc' := 49) dX7_jars_46 rfl lkX7_101 (by omega) (Nat.le_of_ble_eq_true rfl) ?_
        refine s_icmp_ge (pc' := 52) (tgt := 83) dX7_jars_49 rfl (by decide) (fun c9 => absurd c9 (by rw [hn]; exact nI_ge (by omega) (by omega))) (fun _ => ?_)
        refine s_aload_n (pc' := 53) dX7_jars_52 rfl lg0 rfl ?_
        refine s_iload (pc' := 55) dX7_jars_53 rfl lg4 ?_
        refine c_X7_jarsBut  (pc' := 58) dX7_jars_55 rfl lkX7_264 (by omega) (Nat.le_of_ble_eq_true rfl) hMm (hT.jbf hm) hw (fun j hj => by rw [hm.2.2 j hj]; exact h60 j hj) (fun m1 g1 g2 => ?_)
        have hm1 := hm.tr g1
        have hfl := fwN_le (ca := caI σ n td (T w)) (n := n) (lf := nI i)
        have take : ∀ v, (i = 0 ∨ fwN (caI σ n td (T w)) n (nI i) < x) → Sim z d 0 0 mX7_jars 71 [.ref 47, .int what, .int b, .int (nI x), .int (nI i), .int (nI (fwN (caI σ n td (T w)) n (nI i)))] [] (LAY rf tl) m1 Q → Sim z d 0 0 mX7_jars 71 [.ref 47, .int what, .int b, .int (nI x), .int (nI i), v] [] (LAY rf tl) m1 Q → True := fun _ _ _ _ => trivial
        clear take
        have take : (i = 0 ∨ fwN (caI σ n td (T w)) n (nI i) < x) → Sim z d 0 0 mX7_jars 71 [.ref 47, .int what, .int b, .int (nI x), .int (nI i), .int (nI (fwN (caI σ n td (T w)) n (nI i)))] [] (LAY rf tl) m1 Q := by
          intro hq
          have st : ((nI i : Int32), fwN (caI σ n td (T w)) n (nI i)) = loS (caI σ n td (T w)) n (i + 1) := by
            rcases hbx with ⟨rfl, rfl, rfl⟩ | ⟨q1, q⟩
            · rw [loS_1]
            · rw [loS_s, ← q]
              dsimp only
              rw [if_pos (hq.resolve_left (by omega))]
          refine s_iload (pc' := 73) dX7_jars_71 rfl lg4 ?_
          refine s_istore_n (pc' := 74) dX7_jars_73 rfl (Nat.le_of_ble_eq_true rfl) rfl ls2 ?_
          refine s_iload (pc' := 76) dX7_jars_74 rfl lg5 ?_
          refine s_istore_n (pc' := 77) dX7_jars_76 rfl (Nat.le_of_ble_eq_true rfl) rfl ls3 ?_
          refine s_iincN (pc' := 80) dX7_jars_77 rfl lg4 rfl ls4 ?_
          refine s_goto (tgt := 43) dX7_jars_80 (by decide) ?_
          exact ih (i + 1) _ _ m1 _ (by omega) (Or.inr ⟨by omega, st⟩) hm1 KK
        have skip' : ¬ i = 0 → ¬ fwN (caI σ n td (T w)) n (nI i) < x → Sim z d 0 0 mX7_jars 77 [.ref 47, .int what, .int b, .int (nI x), .int (nI i), .int (nI (fwN (caI σ n td (T w)) n (nI i)))] [] (LAY rf tl) m1 Q := by
          intro h0 hq
          have st : (b, x) = loS (caI σ n td (T w)) n (i + 1) := by
            rcases hbx with ⟨rfl, rfl, rfl⟩ | ⟨q1, q⟩
            · exact absurd rfl h0
            · rw [loS_s, ← q]
              dsimp only
              rw [if_neg hq]
          refine s_iincN (pc' := 80) dX7_jars_77 rfl lg4 rfl ls4 ?_
          refine s_goto (tgt := 43) dX7_jars_80 (by decide) ?_
          exact ih (i + 1) _ _ m1 _ (by omega) (Or.inr ⟨by omega, st⟩) hm1 KK
        have hx : x ≤ 9 := by
          rcases hbx with ⟨-, -, rfl⟩ | ⟨-, q⟩
          · omega
          · have := loS_le (ca := caI σ n td (T w)) (n := n) i
            rw [← q] at this
            dsimp only at this
            omega
        have hb1 : (b = -1) ↔ i = 0 := by
          rcases hbx with ⟨q1, q2, -⟩ | ⟨q1, q⟩
          · exact ⟨fun _ => q1, fun _ => q2⟩
          · have key : ∀ i, 1 ≤ i → ∃ c, c < 100 + i ∧ (loS (caI σ n td (T w)) n i).1 = nI c := by
              intro i
              induction i with
              | zero => intro h; omega
              | succ i ihi =>
                intro _
                rcases Nat.eq_zero_or_pos i with q | q
                · subst q; rw [loS_1]; exact ⟨0, by omega, rfl⟩
                · rw [loS_s]
                  split
                  · exact ⟨i, by omega, rfl⟩
                  · obtain ⟨c, hc, ec⟩ := ihi q
                    exact ⟨c, by omega, ec⟩
            obtain ⟨c, hc, ec⟩ := key i q1
            rw [← q] at ec
            dsimp only at ec
            constructor
            · intro e; rw [ec] at e; exact absurd e (nI_m1 (by omega))
            · intro e; omega
        refine s_istore (pc' := 60) dX7_jars_58 rfl (Nat.le_of_ble_eq_true rfl) rfl ls5 ?_
        refine s_iload_n (pc' := 61) dX7_jars_60 rfl lg2 ?_
        refine s_iconst (pc' := 62) dX7_jars_61 rfl iconst_m1 ?_
        refine s_icmp_eq (pc' := 65) (tgt := 71) dX7_jars_62 rfl (by decide) (fun c5 => ?_) (fun c5 => ?_)
        · exact take (Or.inl (hb1.mp c5))
        · skip
          have h0 : ¬ i = 0 := fun e => c5 (hb1.mpr e)
          refine s_iload (pc' := 67) dX7_jars_65 rfl lg5 ?_
          refine s_iload_n (pc' := 68) dX7_jars_67 rfl lg3 ?_
          rcases Nat.lt_or_ge (fwN (caI σ n td (T w)) n (nI i)) x with q | q
          · refine s_icmp_ge (pc' := 71) (tgt := 77) dX7_jars_68 rfl (by decide) (fun c9 => absurd c9 (nI_ge q (by omega))) (fun _ => ?_)
            exact take (Or.inr q)
          · skip
            refine s_icmp_ge (pc' := 71) (tgt := 77) dX7_jars_68 rfl (by decide) (fun _ => ?_) (fun c9 => absurd (nI_le q (by omega)) c9)
            exact skip' h0 (by omega)
    rcases in_or what (lo := 0) (hi := 3) rfl (m := 3) rfl (by omega) with h | ⟨k, hk, rfl, -⟩
    · exact absurd h c0
    have k4 : k = 0 ∨ k = 1 ∨ k = 2 ∨ k = 3 := by omega
    rcases k4 with rfl | rfl | rfl | rfl
    · rw [if_pos nI_0] at K
      refine s_iload_n (pc' := 13) dX7_jars_12 rfl lg1 ?_
      refine s_iconst (pc' := 14) dX7_jars_13 rfl iconst_2 ?_
      refine s_icmp_ge (pc' := 17) (tgt := 36) dX7_jars_14 rfl (by decide) (fun c9 => absurd c9 (by decide)) (fun _ => ?_)
      refine s_aload_n (pc' := 18) dX7_jars_17 rfl lg0 rfl ?_
      refine s_iconst (pc' := 19) dX7_jars_18 rfl iconst_m1 ?_
      refine c_X7_jarsBut  (pc' := 22) dX7_jars_19 rfl lkX7_264 (by omega) (Nat.le_of_ble_eq_true rfl) hM hT hw h60 (fun m1 g1 g2 => ?_)
      refine s_istore_n (pc' := 23) dX7_jars_22 rfl (Nat.le_of_ble_eq_true rfl) rfl ls2 ?_
      refine s_iload_n (pc' := 24) dX7_jars_23 rfl lg1 ?_
      refine s_if_ne (pc' := 27) (tgt := 31) dX7_jars_24 rfl (by decide) (fun c9 => absurd (nI_0) c9) (fun _ => ?_)
      refine s_iload_n (pc' := 28) dX7_jars_27 rfl lg2 ?_
      refine s_goto (tgt := 35) dX7_jars_28 (by decide) ?_
      refine s_iret dX7_jars_35 rfl (vp_nar_int _) ?_
      exact K m1 g1
    · rw [show nI 1 = 1 from by decide, if_neg (by decide), if_pos rfl] at K
      refine s_iload_n (pc' := 13) dX7_jars_12 rfl lg1 ?_
      refine s_iconst (pc' := 14) dX7_jars_13 rfl iconst_2 ?_
      refine s_icmp_ge (pc' := 17) (tgt := 36) dX7_jars_14 rfl (by decide) (fun c9 => absurd c9 (by decide)) (fun _ => ?_)
      refine s_aload_n (pc' := 18) dX7_jars_17 rfl lg0 rfl ?_
      refine s_iconst (pc' := 19) dX7_jars_18 rfl iconst_m1 ?_
      refine c_X7_jarsBut  (pc' := 22) dX7_jars_19 rfl lkX7_264 (by omega) (Nat.le_of_ble_eq_true rfl) hM hT hw h60 (fun m1 g1 g2 => ?_)
      rw [dg_eq h8] at g2
      refine s_istore_n (pc' := 23) dX7_jars_22 rfl (Nat.le_of_ble_eq_true rfl) rfl ls2 ?_
      refine s_iload_n (pc' := 24) dX7_jars_23 rfl lg1 ?_
      refine s_if_ne (pc' := 27) (tgt := 31) dX7_jars_24 rfl (by decide) (fun _ => ?_) (fun c9 => absurd c9 (by decide))
      refine s_aload_n (pc' := 32) dX7_jars_31 rfl lg0 rfl ?_
      refine s_getIv (pc' := 35) (v := dgL (fwL (caI σ n td (T w)) n (-1)) n) dX7_jars_32 rfl flX7_254 ly47 (by decide) rfl g2 ?_
      refine s_iret dX7_jars_35 rfl (vp_nar_int _) ?_
      exact K m1 g1
    · rw [show nI 2 = 2 from by decide, if_neg (by decide), if_neg (by decide)] at K
      rw [show nI 2 = 2 from by decide] at loop ⊢
      refine s_iload_n (pc' := 13) dX7_jars_12 rfl lg1 ?_
      refine s_iconst (pc' := 14) dX7_jars_13 rfl iconst_2 ?_
      refine s_icmp_ge (pc' := 17) (tgt := 36) dX7_jars_14 rfl (by decide) (fun _ => ?_) (fun c9 => absurd (by decide) c9)
      refine s_iconst (pc' := 37) dX7_jars_36 rfl iconst_m1 ?_
      refine s_istore_n (pc' := 38) dX7_jars_37 rfl (Nat.le_of_ble_eq_true rfl) rfl ls2 ?_
      refine s_iconst (pc' := 39) dX7_jars_38 rfl iconst_0 ?_
      refine s_istore_n (pc' := 40) dX7_jars_39 rfl (Nat.le_of_ble_eq_true rfl) rfl ls3 ?_
      refine s_iconst (pc' := 41) dX7_jars_40 rfl iconst_0 ?_
      refine s_istore (pc' := 43) dX7_jars_41 rfl (Nat.le_of_ble_eq_true rfl) rfl ls4 ?_
      exact loop n 0 0 (-1) mem _ (by omega) (Or.inl ⟨rfl, rfl, rfl⟩) jbf.rf K
    · rw [show nI 3 = 3 from by decide, if_neg (by decide), if_neg (by decide)] at K
      rw [show nI 3 = 3 from by decide] at loop ⊢
      refine s_iload_n (pc' := 13) dX7_jars_12 rfl lg1 ?_
      refine s_iconst (pc' := 14) dX7_jars_13 rfl iconst_2 ?_
      refine s_icmp_ge (pc' := 17) (tgt := 36) dX7_jars_14 rfl (by decide) (fun _ => ?_) (fun c9 => absurd (by decide) c9)
      refine s_iconst (pc' := 37) dX7_jars_36 rfl iconst_m1 ?_
      refine s_istore_n (pc' := 38) dX7_jars_37 rfl (Nat.le_of_ble_eq_true rfl) rfl ls2 ?_
      refine s_iconst (pc' := 39) dX7_jars_38 rfl iconst_0 ?_
      refine s_istore_n (pc' := 40) dX7_jars_39 rfl (Nat.le_of_ble_eq_true rfl) rfl ls3 ?_
      refine s_iconst (pc' := 41) dX7_jars_40 rfl iconst_0 ?_
      refine s_istore (pc' := 43) dX7_jars_41 rfl (Nat.le_of_ble_eq_true rfl) rfl ls4 ?_
      exact loop n 0 0 (-1) mem _ (by omega) (Or.inl ⟨rfl, rfl, rfl⟩) jbf.rf K
  · skip
    rw [if_pos c0] at K
    refine s_bipush (pc' := 11) dX7_jars_9 rfl bipush_m2 ?_
    refine s_iret dX7_jars_11 rfl (vp_nar_int _) ?_
    exact K mem jbf.rf
theorem c_X7_jars {z : Zz} {d kc ks : Nat} {mi : MI} {pc pc' : Nat} {L S : List Value} {Q : Option Value → Lay → Mem → Prop} {rf : Nat → Value} {tl : Lay} {mem : Mem}  {n w nt : Nat} {σ : Nat → Nat → Int32} {td what : Int32} {T : Nat → Nat → List Int32} {idx : Nat} (hd : decode mi.2.1 pc = .ok (.invokevirtual idx, 3)) (hp : pc + 3 = pc') (hlk : Cond.methodLink mi.1.cls idx yX7_jars ∈ wok) (hdd : 14 + 1 ≤ d) (hcat : (S.map (fun v => v.category)).sum ≤ 8) (hM : isM 48 mem σ n td (nI w)) (hT : isTM mem nt T) (hw : w < nt) (h60 : ∀ j, j < 9 → mem 60 j = 0) (K : ∀ mem', jbf mem mem' → Sim z d kc ks mi pc' L (.int (jarR σ n td (T w) what) :: S) (LAY rf tl) mem' Q) : Sim z d kc ks mi pc L (.int what :: .ref 47 :: S) (LAY rf tl) mem Q :=
  s_invV (d2 := 14) hd hp okX7_jars hlk inX7_jars seX7_jars hdd (Nat.zero_add _) (Nat.zero_add _) rfl rfl ly47 rfl hcat (Nat.le_of_ble_eq_true rfl) (m_X7_jars (Nat.le_refl _) hM hT hw h60 K)

