/-! ===== what is thought: tides in a row ===== -/
/-- the shore behind k tides -/
def sg (n : Nat) (P : Nat → List Int32) (σ : Nat → Nat → Int32) (td : Int32) : Nat → Nat → Nat → Int32
  | 0 => σ
  | k + 1 => pas (sg n P σ td k) n (td + nI k) P
theorem sg_succ {n : Nat} {P : Nat → List Int32} {σ : Nat → Nat → Int32} {td : Int32} {k : Nat} : sg n P σ td (k + 1) = pas (sg n P σ td k) n (td + nI k) P := rfl
theorem td_succ (td : Int32) (k : Nat) : td + nI k + 1 = td + nI (k + 1) := by rw [Int32.add_assoc, nI_1]
theorem td_0 (td : Int32) : td + nI 0 = td := by rw [nI_0]; exact Int32.add_zero td
/-- all but the thought shore and the scratch rows -/
def thf (mem mem' : Mem) : Prop := ∀ j, j ≠ 3 → j ≠ 4 → (j < 18 ∨ 25 < j) → mem' j = mem j
theorem thf.rf {mem : Mem} : thf mem mem := fun _ _ _ _ => rfl
theorem thf.tr {a b c : Mem} (h1 : thf a b) (h2 : thf b c) : thf a c := fun j h3 h4 h5 => (h2 j h3 h4 h5).trans (h1 j h3 h4 h5)
theorem thf.of_frm {a b : Mem} (h : frm 18 a b) : thf a b := fun j h3 h4 h5 => h j h3 h4 (by omega)
theorem thf.of_scr {a b : Mem} (h : scr a b) : thf a b := fun j h3 h4 _ => h j h3 h4
theorem isS.thf {mem mem' : Mem} {σ : Nat → Nat → Int32} {n : Nat} {td ru : Int32} (h : isS 10 mem σ n td ru) (hk : thf mem mem') : isS 10 mem' σ n td ru := h.kept (fun j h1 h2 => hk j (by omega) (by omega) (by omega))
theorem isTT.thf {rf : Nat → Value} {tl : Lay} {mem mem' : Mem} {nt : Nat} {T : Nat → Nat → List Int32} (h : isTT rf tl mem nt T) (hk : thf mem mem') : isTT rf tl mem' nt T := h.kept (fun j hj => hk j (by omega) (by omega) (by omega))
/-- the first k below m with p, else m -/
def fk (p : Nat → Bool) : Nat → Nat
  | 0 => 0
  | m + 1 => if fk p m < m then fk p m else if p m then m else m + 1
theorem fk_le (p : Nat → Bool) : ∀ m, fk p m ≤ m
  | 0 => Nat.le_refl 0
  | m + 1 => by
    have := fk_le p m
    unfold fk
    split
    · omega
    · split <;> omega
theorem fk_none {p : Nat → Bool} : ∀ {m : Nat}, (∀ k, k < m → p k = false) → fk p m = m
  | 0, _ => rfl
  | m + 1, h => by
    unfold fk
    rw [fk_none (fun k hk => h k (by omega)), if_neg (by omega), h m (by omega)]
    rfl
theorem fk_at {p : Nat → Bool} : ∀ {m i : Nat}, (∀ k, k < i → p k = false) → p i = true → i < m → fk p m = i
  | 0, i, _, _, hi => absurd hi (Nat.not_lt_zero i)
  | m + 1, i, h, hp, hi => by
    unfold fk
    rcases Nat.lt_or_ge i m with q | q
    · rw [fk_at h hp q, if_pos q]
    · have : i = m := by omega
      subst this
      rw [fk_none h, if_neg (by omega), hp]
      rfl
theorem suI_cong {f g : Nat → Int32} : ∀ {n : Nat}, (∀ k, k < n → f k = g k) → suI f n = suI g n
  | 0, _ => rfl
  | n + 1, h => by rw [suI_succ, suI_succ, suI_cong (fun k hk => h k (by omega)), h n (by omega)]
theorem po_cong {f g : Nat → Int32} : ∀ {n : Nat}, (∀ k, k < n → f k = g k) → po f n = po g n
  | 0, _ => rfl
  | n + 1, h => by
    have h1 := po_cong (n := n) (fun k hk => h k (by omega))
    have h2 := h n (by omega)
    unfold po
    rw [h1, h2]
def rou (σ : Nat → Nat → Int32) (n : Nat) : Nat := ct (fun i => decide (σ 2 i = 0)) n
theorem rou_of {b : Nat} {mem : Mem} {σ : Nat → Nat → Int32} {n : Nat} {td ru : Int32} (h : isS b mem σ n td ru) : ct (fun i => decide (mem (b + 2) i = 0)) n = rou σ n := ct_cong (fun k hk => by rw [(h.2.2.2.2 k hk).2.2.1])
theorem sum_of {b : Nat} {mem : Mem} {σ : Nat → Nat → Int32} {n : Nat} {td ru : Int32} (h : isS b mem σ n td ru) : suI (mem (b + 2)) n = suI (σ 2) n := suI_cong (fun k hk => (h.2.2.2.2 k hk).2.2.1)
theorem pla_of {b : Nat} {mem : Mem} {σ : Nat → Nat → Int32} {n : Nat} {td ru : Int32} (h : isS b mem σ n td ru) : po (mem (b + 3)) n = po (σ 3) n := po_cong (fun k hk => (h.2.2.2.2 k hk).2.2.2.1)
def runR (σ : Nat → Nat → Int32) (n : Nat) (td : Int32) (P : Nat → List Int32) (p m what : Int32) : Int32 :=
  if pcB p (nI n) = 0 then -2 else if inB m 0 60 = 0 then -2 else if inB what 0 4 = 0 then -2
  else if what = 0 then sg n P σ td (ix m) 2 (ix p) else if what = 1 then sg n P σ td (ix m) 3 (ix p)
  else if what = 2 then suI (sg n P σ td (ix m) 2) n else if what = 3 then nI (rou (sg n P σ td (ix m)) n) else bcI (po (sg n P σ td (ix m) 3) n)
set_option maxHeartbeats 4000000 in
theorem m_X6_run {z : Zz} {d : Nat} {Q : Option Value → Lay → Mem → Prop} {rf : Nat → Value} {tl : Lay} {mem : Mem}  {n w nt : Nat} {σ : Nat → Nat → Int32} {td p m what : Int32} {T : Nat → Nat → List Int32} (hdd : 4 ≤ d) (hS : isS 10 mem σ n td (nI w)) (hT : isTT rf tl mem nt T) (hw : w < nt) (K : ∀ mem', thf mem mem' → Q (some (.int (runR σ n td (T w) p m what))) (LAY rf tl) mem') : Sim z d 0 0 mX6_run 0 [.ref 0, .int p, .int m, .int what, .float 0] [] (LAY rf tl) mem Q := by
  have h8 := hS.2.1
  have hn := hS.1
  have tail : ∀ (a c : Nat), a < n → c ≤ 60 → p = nI a → m = nI c → ¬ pcB p (nI n) = 0 → ¬ inB m 0 60 = 0 → ¬ inB what 0 4 = 0 → Sim z d 0 0 mX6_run 30 [.ref 0, .int (nI a), .int (nI c), .int what, .float 0] [] (LAY rf tl) mem Q := by
    intro a c ha hc ep em q1 q2 q3
    subst ep; subst em
    unfold runR at K
    rw [if_neg q1, if_neg q2, if_neg q3, ix_nI (by omega), ix_nI (by omega)] at K
    refine s_aload_n (pc' := 31) dX6_run_30 rfl lg0 rfl ?_
    refine s_getRv (pc' := 34) (v := .ref 18) dX6_run_31 rfl flX6_32 ly0 (by decide) rfl rfl ?_
    refine s_aload_n (pc' := 35) dX6_run_34 rfl lg0 rfl ?_
    refine s_getRv (pc' := 38) (v := .ref 10) dX6_run_35 rfl flX6_28 ly0 (by decide) rfl rfl ?_
    refine c_X3_becomes_18_10  (pc' := 41) dX6_run_38 rfl lkX6_120 (by omega) (Nat.le_of_ble_eq_true rfl) hS (fun m1 hS1 f1 => ?_)
    have t1 : thf mem m1 := fun j h3 h4 h5 => f1 j (by omega)
    refine s_iconst (pc' := 42) dX6_run_41 rfl iconst_0 ?_
    refine s_istore (pc' := 44) dX6_run_42 rfl (Nat.le_of_ble_eq_true rfl) rfl ls4 ?_
    have loop : ∀ (k i : Nat) (m : Mem), i + k = c → isS 18 m (sg n (T w) σ td i) n (td + nI i) (nI w) → thf mem m → Sim z d 0 0 mX6_run 44 [.ref 0, .int (nI a), .int (nI c), .int what, .int (nI i)] [] (LAY rf tl) m Q := by
      intro k
      induction k with
      | zero =>
        intro i m hi hSm hm
        have hic : i = c := by omega
        subst hic
        have K2 := K m hm
        have e2 := (hSm.2.2.2.2 a ha).2.2.1
        have e3 := (hSm.2.2.2.2 a ha).2.2.2.1
        rw [← e2, ← e3, ← rou_of hSm, ← sum_of hSm, ← pla_of hSm] at K2
        refine s_iload (pc' := 46) dX6_run_44 rfl lg4 ?_
        refine s_iload_n (pc' := 47) dX6_run_46 rfl lg2 ?_
        refine s_icmp_ge (pc' := 50) (tgt := 63) dX6_run_47 rfl (by decide) (fun _ => ?_) (fun c9 => absurd (nI_le (Nat.le_refl _) (by omega)) c9)
        refine s_iload_n (pc' := 64) dX6_run_63 rfl lg3 ?_
        refine s_ts4 (v0 := 0) (v1 := 1) (v2 := 2) (v3 := 3) (t0 := 96) (t1 := 106) (t2 := 116) (t3 := 124) (td := 132) dX6_run_64 (by decide) (by decide) (by decide) (by decide) (by decide) (by decide) (by decide) (by decide) (by decide) (by decide) (fun e1 => ?_) (fun e1 => ?_) (fun e1 => ?_) (fun e1 => ?_) (fun e1_0 e1_1 e1_2 e1_3 => ?_)
        · refine s_aload_n (pc' := 97) dX6_run_96 rfl lg0 rfl ?_
          refine s_getRv (pc' := 100) (v := .ref 18) dX6_run_97 rfl flX6_32 ly0 (by decide) rfl rfl ?_
          refine s_getRv (pc' := 103) (v := .ref 20) dX6_run_100 rfl flX6_124 ly18 (by decide) rfl rfl ?_
          refine s_iload_n (pc' := 104) dX6_run_103 rfl lg1 ?_
          refine s_ialdN (pc' := 105) dX6_run_104 rfl ly20 (by omega) (by decide) ?_
          refine s_iret dX6_run_105 rfl (vp_nar_int _) ?_
          (simpa [e1] using K2)
        · refine s_aload_n (pc' := 107) dX6_run_106 rfl lg0 rfl ?_
          refine s_getRv (pc' := 110) (v := .ref 18) dX6_run_107 rfl flX6_32 ly0 (by decide) rfl rfl ?_
          refine s_getRv (pc' := 113) (v := .ref 21) dX6_run_110 rfl flX6_127 ly18 (by decide) rfl rfl ?_
          refine s_iload_n (pc' := 114) dX6_run_113 rfl lg1 ?_
          refine s_ialdN (pc' := 115) dX6_run_114 rfl ly21 (by omega) (by decide) ?_
          refine s_iret dX6_run_115 rfl (vp_nar_int _) ?_
          (simpa [e1] using K2)
        · refine s_aload_n (pc' := 117) dX6_run_116 rfl lg0 rfl ?_
          refine s_getRv (pc' := 120) (v := .ref 18) dX6_run_117 rfl flX6_32 ly0 (by decide) rfl rfl ?_
          refine c_X3_sharpTogether (pc' := 123) dX6_run_120 rfl lkX6_130 (by omega) (Nat.le_of_ble_eq_true rfl) (b := 18) (Or.inr (Or.inl rfl)) hSm.1 hSm.2.1 ?_
          refine s_iret dX6_run_123 rfl (vp_nar_int _) ?_
          (simpa [e1] using K2)
        · refine s_aload_n (pc' := 125) dX6_run_124 rfl lg0 rfl ?_
          refine s_getRv (pc' := 128) (v := .ref 18) dX6_run_125 rfl flX6_32 ly0 (by decide) rfl rfl ?_
          refine c_X3_howManyRound (pc' := 131) dX6_run_128 rfl lkX6_116 (by omega) (Nat.le_of_ble_eq_true rfl) (b := 18) (Or.inr (Or.inl rfl)) hSm.1 hSm.2.1 ?_
          refine s_iret dX6_run_131 rfl (vp_nar_int _) ?_
          (simpa [e1] using K2)
        · refine s_aload_n (pc' := 133) dX6_run_132 rfl lg0 rfl ?_
          refine s_getRv (pc' := 136) (v := .ref 18) dX6_run_133 rfl flX6_32 ly0 (by decide) rfl rfl ?_
          refine c_X3_howManyPlaces (pc' := 139) dX6_run_136 rfl lkX6_133 (by omega) (Nat.le_of_ble_eq_true rfl) (b := 18) (Or.inr (Or.inl rfl)) hSm.1 hSm.2.1 ?_
          refine s_iret dX6_run_139 rfl (vp_nar_int _) ?_
          (simpa [e1_0, e1_1, e1_2, e1_3] using K2)
      | succ k ih =>
        intro i m hi hSm hm
        refine s_iload (pc' := 46) dX6_run_44 rfl lg4 ?_
        refine s_iload_n (pc' := 47) dX6_run_46 rfl lg2 ?_
        refine s_icmp_ge (pc' := 50) (tgt := 63) dX6_run_47 rfl (by decide) (fun c9 => absurd c9 (nI_ge (by omega) (by omega))) (fun _ => ?_)
        refine s_aload_n (pc' := 51) dX6_run_50 rfl lg0 rfl ?_
        refine s_getRv (pc' := 54) (v := .ref 18) dX6_run_51 rfl flX6_32 ly0 (by decide) rfl rfl ?_
        refine c_X3_passes (b := 18) (pc' := 57) dX6_run_54 rfl lkX6_113 (by omega) (Nat.le_of_ble_eq_true rfl) (Or.inr (Or.inl rfl)) hSm (hT.thf hm) hw (fun m2 h2 f2 => ?_)
        refine s_iincN (pc' := 60) dX6_run_57 rfl lg4 rfl ls4 ?_
        refine s_goto (tgt := 44) dX6_run_60 (by decide) ?_
        refine ih (i + 1) m2 (by omega) ?_ (hm.tr (thf.of_frm f2))
        rw [sg_succ, ← td_succ]
        exact h2
    exact loop c 0 m1 (by omega) (by rw [td_0]; exact hS1) t1
  refine s_aload_n (pc' := 1) dX6_run_0 rfl lg0 rfl ?_
  refine s_iload_n (pc' := 2) dX6_run_1 rfl lg1 ?_
  refine c_X6_isPiece  (pc' := 5) dX6_run_2 rfl lkX6_60 (by omega) (Nat.le_of_ble_eq_true rfl) ?_
  rw [hn]
  refine s_if_eq (pc' := 8) (tgt := 27) dX6_run_5 rfl (by decide) (fun c1 => ?_) (fun c1 => ?_)
  · skip
    rw [runR, if_pos c1] at K
    refine s_bipush (pc' := 29) dX6_run_27 rfl bipush_m2 ?_
    refine s_iret dX6_run_29 rfl (vp_nar_int _) ?_
    exact K mem thf.rf
  · skip
    refine s_iload_n (pc' := 9) dX6_run_8 rfl lg2 ?_
    refine s_iconst (pc' := 10) dX6_run_9 rfl iconst_0 ?_
    refine s_bipush (pc' := 12) dX6_run_10 rfl bipush_60 ?_
    refine c_X6_isIn  (pc' := 15) dX6_run_12 rfl lkX6_56 (by omega) (Nat.le_of_ble_eq_true rfl) ?_
    refine s_if_eq (pc' := 18) (tgt := 27) dX6_run_15 rfl (by decide) (fun c2 => ?_) (fun c2 => ?_)
    · skip
      rw [runR, if_neg c1, if_pos c2] at K
      refine s_bipush (pc' := 29) dX6_run_27 rfl bipush_m2 ?_
      refine s_iret dX6_run_29 rfl (vp_nar_int _) ?_
      exact K mem thf.rf
    · skip
      refine s_iload_n (pc' := 19) dX6_run_18 rfl lg3 ?_
      refine s_iconst (pc' := 20) dX6_run_19 rfl iconst_0 ?_
      refine s_iconst (pc' := 21) dX6_run_20 rfl iconst_4 ?_
      refine c_X6_isIn  (pc' := 24) dX6_run_21 rfl lkX6_56 (by omega) (Nat.le_of_ble_eq_true rfl) ?_
      refine s_if_ne (pc' := 27) (tgt := 30) dX6_run_24 rfl (by decide) (fun c3 => ?_) (fun c3 => ?_)
      · rcases pc_or p (n := n) (by omega) with q | ⟨a, ha, ea, -⟩
        · exact absurd q c1
        rcases in_or m (lo := 0) (hi := 60) rfl (m := 60) rfl (by omega) with q | ⟨c, hc, ec, -⟩
        · exact absurd q c2
        have := tail a c ha hc ea ec c1 c2 c3
        rw [← ea, ← ec] at this
        exact this
      · skip
        rw [runR, if_neg c1, if_neg c2, if_pos c3] at K
        refine s_bipush (pc' := 29) dX6_run_27 rfl bipush_m2 ?_
        refine s_iret dX6_run_29 rfl (vp_nar_int _) ?_
        exact K mem thf.rf
theorem c_X6_run {z : Zz} {d kc ks : Nat} {mi : MI} {pc pc' : Nat} {L S : List Value} {Q : Option Value → Lay → Mem → Prop} {rf : Nat → Value} {tl : Lay} {mem : Mem}  {n w nt : Nat} {σ : Nat → Nat → Int32} {td p m what : Int32} {T : Nat → Nat → List Int32} {idx : Nat} (hd : decode mi.2.1 pc = .ok (.invokevirtual idx, 3)) (hp : pc + 3 = pc') (hlk : Cond.methodLink mi.1.cls idx yX6_run ∈ wok) (hdd : 4 + 1 ≤ d) (hcat : (S.map (fun v => v.category)).sum ≤ 8) (hS : isS 10 mem σ n td (nI w)) (hT : isTT rf tl mem nt T) (hw : w < nt) (K : ∀ mem', thf mem mem' → Sim z d kc ks mi pc' L (.int (runR σ n td (T w) p m what) :: S) (LAY rf tl) mem' Q) : Sim z d kc ks mi pc L (.int what :: .int m :: .int p :: .ref 0 :: S) (LAY rf tl) mem Q :=
  s_invV (d2 := 4) hd hp okX6_run hlk inX6_run seX6_run hdd (Nat.zero_add _) (Nat.zero_add _) rfl rfl ly0 rfl hcat (Nat.le_of_ble_eq_true rfl) (m_X6_run (Nat.le_refl _) hS hT hw K)

