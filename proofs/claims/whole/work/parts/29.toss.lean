/-! ===== toss; what was told ===== -/
def u2 (σ : Nat → Nat → Int32) (w i : Nat) (x : Int32) : Nat → Nat → Int32 := fun w' i' => if w' = w ∧ i' = i then x else σ w' i'
theorem isS.up {b : Nat} {mem : Mem} {σ : Nat → Nat → Int32} {n : Nat} {td ru : Int32} (h : isS b mem σ n td ru) {w i : Nat} {x : Int32} (hw : 1 ≤ w ∧ w ≤ 4) : isS b (am_up mem (b + w) i x) (u2 σ w i x) n td ru := by
  obtain ⟨h1, h2, h3, h4, h5⟩ := h
  have : w = 1 ∨ w = 2 ∨ w = 3 ∨ w = 4 := by omega
  rcases this with rfl | rfl | rfl | rfl
  · refine ⟨by simp [am_up, h1], h2, by simp [am_up, h3], by simp [am_up, h4], fun j hj => ?_⟩
    obtain ⟨a0, a1, a2, a3, a4⟩ := h5 j hj
    by_cases hji : j = i
    · subst hji; simp [am_up, upd, u2, a0, a1, a2, a3, a4]
    · simp [am_up, upd, u2, hji, a0, a1, a2, a3, a4]
  · refine ⟨by simp [am_up, h1], h2, by simp [am_up, h3], by simp [am_up, h4], fun j hj => ?_⟩
    obtain ⟨a0, a1, a2, a3, a4⟩ := h5 j hj
    by_cases hji : j = i
    · subst hji; simp [am_up, upd, u2, a0, a1, a2, a3, a4]
    · simp [am_up, upd, u2, hji, a0, a1, a2, a3, a4]
  · refine ⟨by simp [am_up, h1], h2, by simp [am_up, h3], by simp [am_up, h4], fun j hj => ?_⟩
    obtain ⟨a0, a1, a2, a3, a4⟩ := h5 j hj
    by_cases hji : j = i
    · subst hji; simp [am_up, upd, u2, a0, a1, a2, a3, a4]
    · simp [am_up, upd, u2, hji, a0, a1, a2, a3, a4]
  · refine ⟨by simp [am_up, h1], h2, by simp [am_up, h3], by simp [am_up, h4], fun j hj => ?_⟩
    obtain ⟨a0, a1, a2, a3, a4⟩ := h5 j hj
    by_cases hji : j = i
    · subst hji; simp [am_up, upd, u2, a0, a1, a2, a3, a4]
    · simp [am_up, upd, u2, hji, a0, a1, a2, a3, a4]
theorem isS.upK {b : Nat} {mem : Mem} {σ : Nat → Nat → Int32} {n : Nat} {td ru : Int32} (h : isS b mem σ n td ru) {i : Nat} {x : Int32} : isS b (am_up mem (b + 5) i x) (u2 σ 0 i x) n td ru := by
  obtain ⟨h1, h2, h3, h4, h5⟩ := h
  refine ⟨by simp [am_up, h1], h2, by simp [am_up, h3], by simp [am_up, h4], fun j hj => ?_⟩
  obtain ⟨a0, a1, a2, a3, a4⟩ := h5 j hj
  by_cases hji : j = i
  · subst hji; simp [am_up, upd, u2, a1, a2, a3, a4]
  · simp [am_up, upd, u2, hji, a0, a1, a2, a3, a4]
def soo (σ : Nat → Nat → Int32) (n : Nat) (td : Int32) (P : Nat → List Int32) (a c k : Nat) : Bool := decide (sg n P (u2 σ 3 a (nI c)) td k 2 a = 0)
set_option maxHeartbeats 4000000 in
theorem m_X6_behindWhichRoundFrom {z : Zz} {d : Nat} {Q : Option Value → Lay → Mem → Prop} {rf : Nat → Value} {tl : Lay} {mem : Mem}  {n w nt a c m : Nat} {σ : Nat → Nat → Int32} {td : Int32} {T : Nat → Nat → List Int32} (hdd : 4 ≤ d) (hS : isS 10 mem σ n td (nI w)) (hT : isTT rf tl mem nt T) (hw : w < nt) (ha : a < n) (hm61 : m ≤ 61) (K : ∀ mem', thf mem mem' → Q (some (.int (nI (fk (soo σ n td (T w) a c) m)))) (LAY rf tl) mem') : Sim z d 0 0 mX6_behindWhichRoundFrom 0 [.ref 0, .int (nI a), .int (nI c), .int (nI m), .float 0] [] (LAY rf tl) mem Q := by
  have h8 := hS.2.1
  refine s_aload_n (pc' := 1) dX6_behindWhichRoundFrom_0 rfl lg0 rfl ?_
  refine s_getRv (pc' := 4) (v := .ref 18) dX6_behindWhichRoundFrom_1 rfl flX6_32 ly0 (by decide) rfl rfl ?_
  refine s_aload_n (pc' := 5) dX6_behindWhichRoundFrom_4 rfl lg0 rfl ?_
  refine s_getRv (pc' := 8) (v := .ref 10) dX6_behindWhichRoundFrom_5 rfl flX6_28 ly0 (by decide) rfl rfl ?_
  refine c_X3_becomes_18_10  (pc' := 11) dX6_behindWhichRoundFrom_8 rfl lkX6_120 (by omega) (Nat.le_of_ble_eq_true rfl) hS (fun m1 hS1 f1 => ?_)
  have t1 : thf mem m1 := fun j h3 h4 h5 => f1 j (by omega)
  refine s_aload_n (pc' := 12) dX6_behindWhichRoundFrom_11 rfl lg0 rfl ?_
  refine s_getRv (pc' := 15) (v := .ref 18) dX6_behindWhichRoundFrom_12 rfl flX6_32 ly0 (by decide) rfl rfl ?_
  refine s_getRv (pc' := 18) (v := .ref 21) dX6_behindWhichRoundFrom_15 rfl flX6_127 ly18 (by decide) rfl rfl ?_
  refine s_iload_n (pc' := 19) dX6_behindWhichRoundFrom_18 rfl lg1 ?_
  refine s_iload_n (pc' := 20) dX6_behindWhichRoundFrom_19 rfl lg2 ?_
  refine s_iastN (pc' := 21) dX6_behindWhichRoundFrom_20 rfl ly21 (by omega) (by decide) ?_
  refine s_iconst (pc' := 22) dX6_behindWhichRoundFrom_21 rfl iconst_0 ?_
  refine s_istore (pc' := 24) dX6_behindWhichRoundFrom_22 rfl (Nat.le_of_ble_eq_true rfl) rfl ls4 ?_
  have loop : ∀ (k i : Nat) (mm : Mem), i + k = m → isS 18 mm (sg n (T w) (u2 σ 3 a (nI c)) td i) n (td + nI i) (nI w) → thf mem mm → (∀ j, j < i → soo σ n td (T w) a c j = false) → Sim z d 0 0 mX6_behindWhichRoundFrom 24 [.ref 0, .int (nI a), .int (nI c), .int (nI m), .int (nI i)] [] (LAY rf tl) mm Q := by
    intro k
    induction k with
    | zero =>
      intro i mm hi hSm hm hno
      have hic : i = m := by omega
      subst hic
      have K2 := K mm hm
      rw [fk_none hno] at K2
      refine s_iload (pc' := 26) dX6_behindWhichRoundFrom_24 rfl lg4 ?_
      refine s_iload_n (pc' := 27) dX6_behindWhichRoundFrom_26 rfl lg3 ?_
      refine s_icmp_ge (pc' := 30) (tgt := 58) dX6_behindWhichRoundFrom_27 rfl (by decide) (fun _ => ?_) (fun c9 => absurd (nI_le (Nat.le_refl _) (by omega)) c9)
      refine s_iload_n (pc' := 59) dX6_behindWhichRoundFrom_58 rfl lg3 ?_
      refine s_iret dX6_behindWhichRoundFrom_59 rfl (vp_nar_int _) ?_
      exact K2
    | succ k ih =>
      intro i mm hi hSm hm hno
      have ea := (hSm.2.2.2.2 a ha).2.2.1
      refine s_iload (pc' := 26) dX6_behindWhichRoundFrom_24 rfl lg4 ?_
      refine s_iload_n (pc' := 27) dX6_behindWhichRoundFrom_26 rfl lg3 ?_
      refine s_icmp_ge (pc' := 30) (tgt := 58) dX6_behindWhichRoundFrom_27 rfl (by decide) (fun c9 => absurd c9 (nI_ge (by omega) (by omega))) (fun _ => ?_)
      refine s_aload_n (pc' := 31) dX6_behindWhichRoundFrom_30 rfl lg0 rfl ?_
      refine s_getRv (pc' := 34) (v := .ref 18) dX6_behindWhichRoundFrom_31 rfl flX6_32 ly0 (by decide) rfl rfl ?_
      refine s_getRv (pc' := 37) (v := .ref 20) dX6_behindWhichRoundFrom_34 rfl flX6_124 ly18 (by decide) rfl rfl ?_
      refine s_iload_n (pc' := 38) dX6_behindWhichRoundFrom_37 rfl lg1 ?_
      refine s_ialdNv (pc' := 39) (v := sg n (T w) (u2 σ 3 a (nI c)) td i 2 a) dX6_behindWhichRoundFrom_38 rfl ly20 (by omega) (by decide) ea ?_
      refine s_if_ne (pc' := 42) (tgt := 45) dX6_behindWhichRoundFrom_39 rfl (by decide) (fun c1 => ?_) (fun c1 => ?_)
      · skip
        refine s_aload_n (pc' := 46) dX6_behindWhichRoundFrom_45 rfl lg0 rfl ?_
        refine s_getRv (pc' := 49) (v := .ref 18) dX6_behindWhichRoundFrom_46 rfl flX6_32 ly0 (by decide) rfl rfl ?_
        refine c_X3_passes (b := 18) (pc' := 52) dX6_behindWhichRoundFrom_49 rfl lkX6_113 (by omega) (Nat.le_of_ble_eq_true rfl) (Or.inr (Or.inl rfl)) hSm (hT.thf hm) hw (fun m2 h2 f2 => ?_)
        refine s_iincN (pc' := 55) dX6_behindWhichRoundFrom_52 rfl lg4 rfl ls4 ?_
        refine s_goto (tgt := 24) dX6_behindWhichRoundFrom_55 (by decide) ?_
        refine ih (i + 1) m2 (by omega) ?_ (hm.tr (thf.of_frm f2)) (fun j hj => ?_)
        · rw [sg_succ, ← td_succ]
          exact h2
        · rcases Nat.lt_or_ge j i with q | q
          · exact hno j q
          · have : j = i := by omega
            rw [this]; exact decide_eq_false c1
      · skip
        have e := fk_at (m := m) hno (decide_eq_true c1) (by omega)
        have K2 := K mm hm
        rw [e] at K2
        refine s_iload (pc' := 44) dX6_behindWhichRoundFrom_42 rfl lg4 ?_
        refine s_iret dX6_behindWhichRoundFrom_44 rfl (vp_nar_int _) ?_
        exact K2
  exact loop m 0 _ (by omega) (by rw [td_0]; exact hS1.up (w := 3) (by decide)) (t1.tr (fun j h3 h4 h5 => if_neg (by omega))) (fun j hj => absurd hj (Nat.not_lt_zero j))
theorem c_X6_behindWhichRoundFrom {z : Zz} {d kc ks : Nat} {mi : MI} {pc pc' : Nat} {L S : List Value} {Q : Option Value → Lay → Mem → Prop} {rf : Nat → Value} {tl : Lay} {mem : Mem}  {n w nt a c m : Nat} {σ : Nat → Nat → Int32} {td : Int32} {T : Nat → Nat → List Int32} {idx : Nat} (hd : decode mi.2.1 pc = .ok (.invokevirtual idx, 3)) (hp : pc + 3 = pc') (hlk : Cond.methodLink mi.1.cls idx yX6_behindWhichRoundFrom ∈ wok) (hdd : 4 + 1 ≤ d) (hcat : (S.map (fun v => v.category)).sum ≤ 8) (hS : isS 10 mem σ n td (nI w)) (hT : isTT rf tl mem nt T) (hw : w < nt) (ha : a < n) (hm61 : m ≤ 61) (K : ∀ mem', thf mem mem' → Sim z d kc ks mi pc' L (.int (nI (fk (soo σ n td (T w) a c) m)) :: S) (LAY rf tl) mem' Q) : Sim z d kc ks mi pc L (.int (nI m) :: .int (nI c) :: .int (nI a) :: .ref 0 :: S) (LAY rf tl) mem Q :=
  s_invV (d2 := 4) hd hp okX6_behindWhichRoundFrom hlk inX6_behindWhichRoundFrom seX6_behindWhichRoundFrom hdd (Nat.zero_add _) (Nat.zero_add _) rfl rfl ly0 rfl hcat (Nat.le_of_ble_eq_true rfl) (m_X6_behindWhichRoundFrom (Nat.le_refl _) hS hT hw ha hm61 K)
def tos (σ : Nat → Nat → Int32) (n : Nat) (td : Int32) (P : Nat → List Int32) (a : Nat) : Nat → Nat × Nat
  | 0 => (0, 61)
  | c + 1 => if fk (soo σ n td P a c) (tos σ n td P a c).2 < (tos σ n td P a c).2 then (c, fk (soo σ n td P a c) (tos σ n td P a c).2) else tos σ n td P a c
theorem tos_succ {σ : Nat → Nat → Int32} {n : Nat} {td : Int32} {P : Nat → List Int32} {a c : Nat} : tos σ n td P a (c + 1) = if fk (soo σ n td P a c) (tos σ n td P a c).2 < (tos σ n td P a c).2 then (c, fk (soo σ n td P a c) (tos σ n td P a c).2) else tos σ n td P a c := rfl
theorem tos_le {σ : Nat → Nat → Int32} {n : Nat} {td : Int32} {P : Nat → List Int32} {a : Nat} : ∀ c, (tos σ n td P a c).2 ≤ 61
  | 0 => Nat.le_refl _
  | c + 1 => by
    have := tos_le (σ := σ) (n := n) (td := td) (P := P) (a := a) c
    rw [tos_succ]
    split
    · simp only; omega
    · exact this
def tossR (σ : Nat → Nat → Int32) (n : Nat) (td : Int32) (P : Nat → List Int32) (p what : Int32) : Int32 := if pcB p (nI n) = 0 then -2 else if inB what 0 1 = 0 then -2 else if what = 0 then nI (tos σ n td P (ix p) 12).1 else nI (tos σ n td P (ix p) 12).2
set_option maxHeartbeats 4000000 in
theorem m_X6_toss {z : Zz} {d : Nat} {Q : Option Value → Lay → Mem → Prop} {rf : Nat → Value} {tl : Lay} {mem : Mem}  {n w nt : Nat} {σ : Nat → Nat → Int32} {td p what : Int32} {T : Nat → Nat → List Int32} (hdd : 5 ≤ d) (hS : isS 10 mem σ n td (nI w)) (hT : isTT rf tl mem nt T) (hw : w < nt) (K : ∀ mem', thf mem mem' → Q (some (.int (tossR σ n td (T w) p what))) (LAY rf tl) mem') : Sim z d 0 0 mX6_toss 0 [.ref 0, .int p, .int what, .float 0, .float 0, .float 0, .float 0] [] (LAY rf tl) mem Q := by
  have h8 := hS.2.1
  have hn := hS.1
  have loop : ∀ (a : Nat), a < n → ∀ (k c : Nat) (x y : Nat) (m : Mem) (v6 : Value), c + k = 12 → (x, y) = tos σ n td (T w) a c → thf mem m → (∀ m', thf mem m' → Q (some (.int (if what = 0 then nI (tos σ n td (T w) a 12).1 else nI (tos σ n td (T w) a 12).2))) (LAY rf tl) m') → Sim z d 0 0 mX6_toss 29 [.ref 0, .int (nI a), .int what, .int (nI x), .int (nI y), .int (nI c), v6] [] (LAY rf tl) m Q := by
    intro a ha k
    induction k with
    | zero =>
      intro c x y m v6 hc hxy hm KK
      have hcc : c = 12 := by omega
      subst hcc
      have K2 := KK m hm
      rw [← hxy] at K2
      refine s_iload (pc' := 31) dX6_toss_29 rfl lg5 ?_
      refine s_bipush (pc' := 33) dX6_toss_31 rfl bipush_12 ?_
      refine s_icmp_ge (pc' := 36) (tgt := 67) dX6_toss_33 rfl (by decide) (fun _ => ?_) (fun c9 => absurd (by decide) c9)
      refine s_iload_n (pc' := 68) dX6_toss_67 rfl lg2 ?_
      refine s_if_ne (pc' := 71) (tgt := 75) dX6_toss_68 rfl (by decide) (fun c1 => ?_) (fun c1 => ?_)
      · refine s_iload (pc' := 77) dX6_toss_75 rfl lg4 ?_
        refine s_iret dX6_toss_77 rfl (vp_nar_int _) ?_
        (simpa [c1] using K2)
      · refine s_iload_n (pc' := 72) dX6_toss_71 rfl lg3 ?_
        refine s_goto (tgt := 77) dX6_toss_72 (by decide) ?_
        refine s_iret dX6_toss_77 rfl (vp_nar_int _) ?_
        (simpa [c1] using K2)
    | succ k ih =>
      intro c x y m v6 hc hxy hm KK
      have hy : y ≤ 61 := by have := tos_le (σ := σ) (n := n) (td := td) (P := T w) (a := a) c; rw [← hxy] at this; exact this
      refine s_iload (pc' := 31) dX6_toss_29 rfl lg5 ?_
      refine s_bipush (pc' := 33) dX6_toss_31 rfl bipush_12 ?_
      refine s_icmp_ge (pc' := 36) (tgt := 67) dX6_toss_33 rfl (by decide) (fun c9 => absurd c9 (fun q => by have := (nI_leI (a := 12) (b := c) (by omega) (by omega)).mp q; omega)) (fun _ => ?_)
      refine s_aload_n (pc' := 37) dX6_toss_36 rfl lg0 rfl ?_
      refine s_iload_n (pc' := 38) dX6_toss_37 rfl lg1 ?_
      refine s_iload (pc' := 40) dX6_toss_38 rfl lg5 ?_
      refine s_iload (pc' := 42) dX6_toss_40 rfl lg4 ?_
      refine c_X6_behindWhichRoundFrom  (pc' := 45) dX6_toss_42 rfl lkX6_185 (by omega) (Nat.le_of_ble_eq_true rfl) (hS.thf hm) (hT.thf hm) hw ha hy (fun m2 t2 => ?_)
      have hfl := fk_le (soo σ n td (T w) a c) y
      refine s_istore (pc' := 47) dX6_toss_45 rfl (Nat.le_of_ble_eq_true rfl) rfl ls6 ?_
      refine s_iload (pc' := 49) dX6_toss_47 rfl lg6 ?_
      refine s_iload (pc' := 51) dX6_toss_49 rfl lg4 ?_
      refine s_icmp_ge (pc' := 54) (tgt := 61) dX6_toss_51 rfl (by decide) (fun c1 => ?_) (fun c1 => ?_)
      · skip
        refine s_iincN (pc' := 64) dX6_toss_61 rfl lg5 rfl ls5 ?_
        refine s_goto (tgt := 29) dX6_toss_64 (by decide) ?_
        refine ih (c + 1) x y m2 _ (by omega) ?_ (hm.tr t2) KK
        have := (nI_leI (a := y) (b := fk (soo σ n td (T w) a c) y) (by omega) (by omega)).mp c1
        rw [tos_succ, ← hxy, if_neg (by simp only; omega)]
      · skip
        refine s_iload (pc' := 56) dX6_toss_54 rfl lg5 ?_
        refine s_istore_n (pc' := 57) dX6_toss_56 rfl (Nat.le_of_ble_eq_true rfl) rfl ls3 ?_
        refine s_iload (pc' := 59) dX6_toss_57 rfl lg6 ?_
        refine s_istore (pc' := 61) dX6_toss_59 rfl (Nat.le_of_ble_eq_true rfl) rfl ls4 ?_
        refine s_iincN (pc' := 64) dX6_toss_61 rfl lg5 rfl ls5 ?_
        refine s_goto (tgt := 29) dX6_toss_64 (by decide) ?_
        refine ih (c + 1) _ _ m2 _ (by omega) ?_ (hm.tr t2) KK
        have : fk (soo σ n td (T w) a c) y < y := by
          rcases Nat.lt_or_ge (fk (soo σ n td (T w) a c) y) y with q | q
          · exact q
          · exact absurd (nI_le q (by omega)) c1
        rw [tos_succ, ← hxy, if_pos this]
  refine s_aload_n (pc' := 1) dX6_toss_0 rfl lg0 rfl ?_
  refine s_iload_n (pc' := 2) dX6_toss_1 rfl lg1 ?_
  refine c_X6_isPiece  (pc' := 5) dX6_toss_2 rfl lkX6_60 (by omega) (Nat.le_of_ble_eq_true rfl) ?_
  rw [hn]
  refine s_if_eq (pc' := 8) (tgt := 17) dX6_toss_5 rfl (by decide) (fun c1 => ?_) (fun c1 => ?_)
  · skip
    rw [tossR, if_pos c1] at K
    refine s_bipush (pc' := 19) dX6_toss_17 rfl bipush_m2 ?_
    refine s_iret dX6_toss_19 rfl (vp_nar_int _) ?_
    exact K mem thf.rf
  · skip
    refine s_iload_n (pc' := 9) dX6_toss_8 rfl lg2 ?_
    refine s_iconst (pc' := 10) dX6_toss_9 rfl iconst_0 ?_
    refine s_iconst (pc' := 11) dX6_toss_10 rfl iconst_1 ?_
    refine c_X6_isIn  (pc' := 14) dX6_toss_11 rfl lkX6_56 (by omega) (Nat.le_of_ble_eq_true rfl) ?_
    refine s_if_ne (pc' := 17) (tgt := 20) dX6_toss_14 rfl (by decide) (fun c2 => ?_) (fun c2 => ?_)
    · skip
      rcases pc_or p (n := n) (by omega) with h | ⟨a, ha, rfl, -⟩
      · exact absurd h c1
      unfold tossR at K
      rw [if_neg c1, if_neg c2, ix_nI (by omega)] at K
      refine s_iconst (pc' := 21) dX6_toss_20 rfl iconst_0 ?_
      refine s_istore_n (pc' := 22) dX6_toss_21 rfl (Nat.le_of_ble_eq_true rfl) rfl ls3 ?_
      refine s_bipush (pc' := 24) dX6_toss_22 rfl bipush_61 ?_
      refine s_istore (pc' := 26) dX6_toss_24 rfl (Nat.le_of_ble_eq_true rfl) rfl ls4 ?_
      refine s_iconst (pc' := 27) dX6_toss_26 rfl iconst_0 ?_
      refine s_istore (pc' := 29) dX6_toss_27 rfl (Nat.le_of_ble_eq_true rfl) rfl ls5 ?_
      exact loop a ha 12 0 0 61 mem _ (by omega) rfl thf.rf K
    · skip
      rw [tossR, if_neg c1, if_pos c2] at K
      refine s_bipush (pc' := 19) dX6_toss_17 rfl bipush_m2 ?_
      refine s_iret dX6_toss_19 rfl (vp_nar_int _) ?_
      exact K mem thf.rf
theorem c_X6_toss {z : Zz} {d kc ks : Nat} {mi : MI} {pc pc' : Nat} {L S : List Value} {Q : Option Value → Lay → Mem → Prop} {rf : Nat → Value} {tl : Lay} {mem : Mem}  {n w nt : Nat} {σ : Nat → Nat → Int32} {td p what : Int32} {T : Nat → Nat → List Int32} {idx : Nat} (hd : decode mi.2.1 pc = .ok (.invokevirtual idx, 3)) (hp : pc + 3 = pc') (hlk : Cond.methodLink mi.1.cls idx yX6_toss ∈ wok) (hdd : 5 + 1 ≤ d) (hcat : (S.map (fun v => v.category)).sum ≤ 8) (hS : isS 10 mem σ n td (nI w)) (hT : isTT rf tl mem nt T) (hw : w < nt) (K : ∀ mem', thf mem mem' → Sim z d kc ks mi pc' L (.int (tossR σ n td (T w) p what) :: S) (LAY rf tl) mem' Q) : Sim z d kc ks mi pc L (.int what :: .int p :: .ref 0 :: S) (LAY rf tl) mem Q :=
  s_invV (d2 := 5) hd hp okX6_toss hlk inX6_toss seX6_toss hdd (Nat.zero_add _) (Nat.zero_add _) rfl rfl ly0 rfl hcat (Nat.le_of_ble_eq_true rfl) (m_X6_toss (Nat.le_refl _) hS hT hw K)

