/-! ===== tells, film: the calls ===== -/
theorem isS.ru {b : Nat} {mem : Mem} {σ : Nat → Nat → Int32} {n : Nat} {td ru x : Int32} (h : isS b mem σ n td ru) : isS b (am_up mem b 10 x) σ n td x := by
  obtain ⟨h1, h2, h3, h4, h5⟩ := h
  refine ⟨by simp [am_up, upd, h1], h2, by simp [am_up, upd, h3], by simp [am_up, upd], fun j hj => ?_⟩
  obtain ⟨a0, a1, a2, a3, a4⟩ := h5 j hj
  simp [am_up, a0, a1, a2, a3, a4]
set_option maxHeartbeats 4000000 in
theorem m_X6_whichTextsAreSo {z : Zz} {d : Nat} {Q : Option Value → Lay → Mem → Prop} {rf : Nat → Value} {tl : Lay} {mem : Mem}  {j n w nt a sz : Nat} {σ : Nat → Nat → Int32} {td so : Int32} {it : Nat → Int32} {T : Nat → Nat → List Int32} (hdd : 5 ≤ d) (hj : j < 4) (hS : isS 10 mem σ n td (nI w)) (hT : isTT rf tl mem nt T) (ha : a < n) (hR : isR mem j so sz it) (K : ∀ mem', thf mem mem' → Q (some (.int (bo (fun v => son σ n td (T v) a it sz) nt))) (LAY rf tl) mem') : Sim z d 0 0 mX6_whichTextsAreSo 0 [.ref 0, .ref (39 + 2 * j), .int (nI a), .float 0, .float 0] [] (LAY rf tl) mem Q := by
  have h6 := hT.2.2.1
  have h40 := hR.2.2.1
  refine s_iconst (pc' := 1) dX6_whichTextsAreSo_0 rfl iconst_0 ?_
  refine s_istore_n (pc' := 2) dX6_whichTextsAreSo_1 rfl (Nat.le_of_ble_eq_true rfl) rfl ls3 ?_
  refine s_iconst (pc' := 3) dX6_whichTextsAreSo_2 rfl iconst_0 ?_
  refine s_istore (pc' := 5) dX6_whichTextsAreSo_3 rfl (Nat.le_of_ble_eq_true rfl) rfl ls4 ?_
  have loop : ∀ (q i : Nat) (x : Int32) (m : Mem), i + q = nt → x = bo (fun v => son σ n td (T v) a it sz) i → thf mem m → Sim z d 0 0 mX6_whichTextsAreSo 5 [.ref 0, .ref (39 + 2 * j), .int (nI a), .int x, .int (nI i)] [] (LAY rf tl) m Q := by
    intro q
    induction q with
    | zero =>
      intro i x m hi hx hm
      have : i = nt := by omega
      subst this
      have K2 := K m hm
      rw [← hx] at K2
      have hn := (hT.thf hm).1
      refine s_iload (pc' := 7) dX6_whichTextsAreSo_5 rfl lg4 ?_
      refine s_aload_n (pc' := 8) dX6_whichTextsAreSo_7 rfl lg0 rfl ?_
      refine s_getRv (pc' := 11) (v := .ref 1) dX6_whichTextsAreSo_8 rfl flX6_10 ly0 (by decide) rfl rfl ?_
      refine s_getI (pc' := 14) dX6_whichTextsAreSo_11 rfl flX6_99 ly1 (by decide) rfl ?_
      refine s_icmp_ge (pc' := 17) (tgt := 60) dX6_whichTextsAreSo_14 rfl (by decide) (fun _ => ?_) (fun c9 => absurd (by rw [hn]; exact nI_le (by omega) (by omega)) c9)
      refine s_iload_n (pc' := 61) dX6_whichTextsAreSo_60 rfl lg3 ?_
      refine s_iret dX6_whichTextsAreSo_61 rfl (vp_nar_int _) ?_
      exact K2
    | succ q ih =>
      intro i x m hi hx hm
      have hn := (hT.thf hm).1
      refine s_iload (pc' := 7) dX6_whichTextsAreSo_5 rfl lg4 ?_
      refine s_aload_n (pc' := 8) dX6_whichTextsAreSo_7 rfl lg0 rfl ?_
      refine s_getRv (pc' := 11) (v := .ref 1) dX6_whichTextsAreSo_8 rfl flX6_10 ly0 (by decide) rfl rfl ?_
      refine s_getI (pc' := 14) dX6_whichTextsAreSo_11 rfl flX6_99 ly1 (by decide) rfl ?_
      refine s_icmp_ge (pc' := 17) (tgt := 60) dX6_whichTextsAreSo_14 rfl (by decide) (fun c9 => absurd c9 (by rw [hn]; exact nI_ge (by omega) (by omega))) (fun _ => ?_)
      refine s_aload_n (pc' := 18) dX6_whichTextsAreSo_17 rfl lg0 rfl ?_
      refine s_getRv (pc' := 21) (v := .ref 18) dX6_whichTextsAreSo_18 rfl flX6_32 ly0 (by decide) rfl rfl ?_
      refine s_aload_n (pc' := 22) dX6_whichTextsAreSo_21 rfl lg0 rfl ?_
      refine s_getRv (pc' := 25) (v := .ref 10) dX6_whichTextsAreSo_22 rfl flX6_28 ly0 (by decide) rfl rfl ?_
      refine c_X3_becomes_18_10  (pc' := 28) dX6_whichTextsAreSo_25 rfl lkX6_120 (by omega) (Nat.le_of_ble_eq_true rfl) (hS.thf hm) (fun m1 hS1 f1 => ?_)
      have t1 : thf mem (am_up m1 18 10 (nI i)) := hm.tr (fun q h3 h4 h5 => by rw [show am_up m1 18 10 (nI i) q = m1 q from if_neg (by omega)]; exact f1 q (by omega))
      refine s_aload_n (pc' := 29) dX6_whichTextsAreSo_28 rfl lg0 rfl ?_
      refine s_getRv (pc' := 32) (v := .ref 18) dX6_whichTextsAreSo_29 rfl flX6_32 ly0 (by decide) rfl rfl ?_
      refine s_iload (pc' := 34) dX6_whichTextsAreSo_32 rfl lg4 ?_
      refine s_putI (pc' := 37) (ty := .int) dX6_whichTextsAreSo_34 rfl flX6_110 fw3_10 pdI rfl rfl ly18 (by decide) rfl ?_
      refine s_aload_n (pc' := 38) dX6_whichTextsAreSo_37 rfl lg0 rfl ?_
      refine s_aload_n (pc' := 39) dX6_whichTextsAreSo_38 rfl lg1 rfl ?_
      refine s_iload_n (pc' := 40) dX6_whichTextsAreSo_39 rfl lg2 ?_
      refine c_X6_firstOtherwise  (pc' := 43) dX6_whichTextsAreSo_40 rfl lkX6_196 (by omega) (Nat.le_of_ble_eq_true rfl) hj hS1.ru (hT.thf t1) (by omega) ha (hR.thf t1) (fun m2 t2 => ?_)
      refine s_iconst (pc' := 44) dX6_whichTextsAreSo_43 rfl iconst_m1 ?_
      refine s_icmp_ne (pc' := 47) (tgt := 54) dX6_whichTextsAreSo_44 rfl (by decide) (fun c1 => ?_) (fun c1 => ?_)
      · skip
        rw [oth_m1 h40] at c1
        refine s_iincN (pc' := 57) dX6_whichTextsAreSo_54 rfl lg4 rfl ls4 ?_
        refine s_goto (tgt := 5) dX6_whichTextsAreSo_57 (by decide) ?_
        exact ih (i + 1) _ m2 (by omega) (by simp [bo, hx, c1]) (t1.tr t2)
      · skip
        rw [oth_m1 h40] at c1
        refine s_iload_n (pc' := 48) dX6_whichTextsAreSo_47 rfl lg3 ?_
        refine s_iconst (pc' := 49) dX6_whichTextsAreSo_48 rfl iconst_1 ?_
        refine s_iload (pc' := 51) dX6_whichTextsAreSo_49 rfl lg4 ?_
        refine s_ishl (pc' := 52) dX6_whichTextsAreSo_51 rfl ?_
        refine s_ior (pc' := 53) dX6_whichTextsAreSo_52 rfl ?_
        refine s_istore_n (pc' := 54) dX6_whichTextsAreSo_53 rfl (Nat.le_of_ble_eq_true rfl) rfl ls3 ?_
        refine s_iincN (pc' := 57) dX6_whichTextsAreSo_54 rfl lg4 rfl ls4 ?_
        refine s_goto (tgt := 5) dX6_whichTextsAreSo_57 (by decide) ?_
        exact ih (i + 1) _ m2 (by omega) (by simp [bo, hx, c1]) (t1.tr t2)
  exact loop nt 0 0 mem (by omega) rfl thf.rf
theorem c_X6_whichTextsAreSo {z : Zz} {d kc ks : Nat} {mi : MI} {pc pc' : Nat} {L S : List Value} {Q : Option Value → Lay → Mem → Prop} {rf : Nat → Value} {tl : Lay} {mem : Mem}  {j n w nt a sz : Nat} {σ : Nat → Nat → Int32} {td so : Int32} {it : Nat → Int32} {T : Nat → Nat → List Int32} {idx : Nat} (hd : decode mi.2.1 pc = .ok (.invokevirtual idx, 3)) (hp : pc + 3 = pc') (hlk : Cond.methodLink mi.1.cls idx yX6_whichTextsAreSo ∈ wok) (hdd : 5 + 1 ≤ d) (hcat : (S.map (fun v => v.category)).sum ≤ 8) (hj : j < 4) (hS : isS 10 mem σ n td (nI w)) (hT : isTT rf tl mem nt T) (ha : a < n) (hR : isR mem j so sz it) (K : ∀ mem', thf mem mem' → Sim z d kc ks mi pc' L (.int (bo (fun v => son σ n td (T v) a it sz) nt) :: S) (LAY rf tl) mem' Q) : Sim z d kc ks mi pc L (.int (nI a) :: .ref (39 + 2 * j) :: .ref 0 :: S) (LAY rf tl) mem Q :=
  s_invV (d2 := 5) hd hp okX6_whichTextsAreSo hlk inX6_whichTextsAreSo seX6_whichTextsAreSo hdd (Nat.zero_add _) (Nat.zero_add _) rfl rfl ly0 rfl hcat (Nat.le_of_ble_eq_true rfl) (m_X6_whichTextsAreSo (Nat.le_refl _) hj hS hT ha hR K)
set_option maxHeartbeats 4000000 in
theorem m_X6_whichPiecesAreSo {z : Zz} {d : Nat} {Q : Option Value → Lay → Mem → Prop} {rf : Nat → Value} {tl : Lay} {mem : Mem}  {j n w nt sz : Nat} {σ : Nat → Nat → Int32} {td so : Int32} {it : Nat → Int32} {T : Nat → Nat → List Int32} (hdd : 5 ≤ d) (hj : j < 4) (hS : isS 10 mem σ n td (nI w)) (hT : isTT rf tl mem nt T) (hw : w < nt) (hR : isR mem j so sz it) (K : ∀ mem', thf mem mem' → Q (some (.int (bo (fun v => son σ n td (T w) v it sz) n))) (LAY rf tl) mem') : Sim z d 0 0 mX6_whichPiecesAreSo 0 [.ref 0, .ref (39 + 2 * j), .float 0, .float 0] [] (LAY rf tl) mem Q := by
  have h8 := hS.2.1
  have h40 := hR.2.2.1
  refine s_iconst (pc' := 1) dX6_whichPiecesAreSo_0 rfl iconst_0 ?_
  refine s_istore_n (pc' := 2) dX6_whichPiecesAreSo_1 rfl (Nat.le_of_ble_eq_true rfl) rfl ls2 ?_
  refine s_iconst (pc' := 3) dX6_whichPiecesAreSo_2 rfl iconst_0 ?_
  refine s_istore_n (pc' := 4) dX6_whichPiecesAreSo_3 rfl (Nat.le_of_ble_eq_true rfl) rfl ls3 ?_
  have loop : ∀ (q i : Nat) (x : Int32) (m : Mem), i + q = n → x = bo (fun v => son σ n td (T w) v it sz) i → thf mem m → Sim z d 0 0 mX6_whichPiecesAreSo 4 [.ref 0, .ref (39 + 2 * j), .int x, .int (nI i)] [] (LAY rf tl) m Q := by
    intro q
    induction q with
    | zero =>
      intro i x m hi hx hm
      have : i = n := by omega
      subst this
      have K2 := K m hm
      rw [← hx] at K2
      have hn := (hS.thf hm).1
      refine s_iload_n (pc' := 5) dX6_whichPiecesAreSo_4 rfl lg3 ?_
      refine s_aload_n (pc' := 6) dX6_whichPiecesAreSo_5 rfl lg0 rfl ?_
      refine s_getRv (pc' := 9) (v := .ref 10) dX6_whichPiecesAreSo_6 rfl flX6_28 ly0 (by decide) rfl rfl ?_
      refine s_getI (pc' := 12) dX6_whichPiecesAreSo_9 rfl flX6_189 ly10 (by decide) rfl ?_
      refine s_icmp_ge (pc' := 15) (tgt := 48) dX6_whichPiecesAreSo_12 rfl (by decide) (fun _ => ?_) (fun c9 => absurd (by rw [hn]; exact nI_le (by omega) (by omega)) c9)
      refine s_iload_n (pc' := 49) dX6_whichPiecesAreSo_48 rfl lg2 ?_
      refine s_iret dX6_whichPiecesAreSo_49 rfl (vp_nar_int _) ?_
      exact K2
    | succ q ih =>
      intro i x m hi hx hm
      have hn := (hS.thf hm).1
      refine s_iload_n (pc' := 5) dX6_whichPiecesAreSo_4 rfl lg3 ?_
      refine s_aload_n (pc' := 6) dX6_whichPiecesAreSo_5 rfl lg0 rfl ?_
      refine s_getRv (pc' := 9) (v := .ref 10) dX6_whichPiecesAreSo_6 rfl flX6_28 ly0 (by decide) rfl rfl ?_
      refine s_getI (pc' := 12) dX6_whichPiecesAreSo_9 rfl flX6_189 ly10 (by decide) rfl ?_
      refine s_icmp_ge (pc' := 15) (tgt := 48) dX6_whichPiecesAreSo_12 rfl (by decide) (fun c9 => absurd c9 (by rw [hn]; exact nI_ge (by omega) (by omega))) (fun _ => ?_)
      refine s_aload_n (pc' := 16) dX6_whichPiecesAreSo_15 rfl lg0 rfl ?_
      refine s_getRv (pc' := 19) (v := .ref 18) dX6_whichPiecesAreSo_16 rfl flX6_32 ly0 (by decide) rfl rfl ?_
      refine s_aload_n (pc' := 20) dX6_whichPiecesAreSo_19 rfl lg0 rfl ?_
      refine s_getRv (pc' := 23) (v := .ref 10) dX6_whichPiecesAreSo_20 rfl flX6_28 ly0 (by decide) rfl rfl ?_
      refine c_X3_becomes_18_10  (pc' := 26) dX6_whichPiecesAreSo_23 rfl lkX6_120 (by omega) (Nat.le_of_ble_eq_true rfl) (hS.thf hm) (fun m1 hS1 f1 => ?_)
      have t1 : thf mem m1 := hm.tr (fun q h3 h4 h5 => f1 q (by omega))
      refine s_aload_n (pc' := 27) dX6_whichPiecesAreSo_26 rfl lg0 rfl ?_
      refine s_aload_n (pc' := 28) dX6_whichPiecesAreSo_27 rfl lg1 rfl ?_
      refine s_iload_n (pc' := 29) dX6_whichPiecesAreSo_28 rfl lg3 ?_
      refine c_X6_firstOtherwise  (pc' := 32) dX6_whichPiecesAreSo_29 rfl lkX6_196 (by omega) (Nat.le_of_ble_eq_true rfl) hj hS1 (hT.thf t1) hw (by omega) (hR.thf t1) (fun m2 t2 => ?_)
      refine s_iconst (pc' := 33) dX6_whichPiecesAreSo_32 rfl iconst_m1 ?_
      refine s_icmp_ne (pc' := 36) (tgt := 42) dX6_whichPiecesAreSo_33 rfl (by decide) (fun c1 => ?_) (fun c1 => ?_)
      · skip
        rw [oth_m1 h40] at c1
        refine s_iincN (pc' := 45) dX6_whichPiecesAreSo_42 rfl lg3 rfl ls3 ?_
        refine s_goto (tgt := 4) dX6_whichPiecesAreSo_45 (by decide) ?_
        exact ih (i + 1) _ m2 (by omega) (by simp [bo, hx, c1]) (t1.tr t2)
      · skip
        rw [oth_m1 h40] at c1
        refine s_iload_n (pc' := 37) dX6_whichPiecesAreSo_36 rfl lg2 ?_
        refine s_iconst (pc' := 38) dX6_whichPiecesAreSo_37 rfl iconst_1 ?_
        refine s_iload_n (pc' := 39) dX6_whichPiecesAreSo_38 rfl lg3 ?_
        refine s_ishl (pc' := 40) dX6_whichPiecesAreSo_39 rfl ?_
        refine s_ior (pc' := 41) dX6_whichPiecesAreSo_40 rfl ?_
        refine s_istore_n (pc' := 42) dX6_whichPiecesAreSo_41 rfl (Nat.le_of_ble_eq_true rfl) rfl ls2 ?_
        refine s_iincN (pc' := 45) dX6_whichPiecesAreSo_42 rfl lg3 rfl ls3 ?_
        refine s_goto (tgt := 4) dX6_whichPiecesAreSo_45 (by decide) ?_
        exact ih (i + 1) _ m2 (by omega) (by simp [bo, hx, c1]) (t1.tr t2)
  exact loop n 0 0 mem (by omega) rfl thf.rf
theorem c_X6_whichPiecesAreSo {z : Zz} {d kc ks : Nat} {mi : MI} {pc pc' : Nat} {L S : List Value} {Q : Option Value → Lay → Mem → Prop} {rf : Nat → Value} {tl : Lay} {mem : Mem}  {j n w nt sz : Nat} {σ : Nat → Nat → Int32} {td so : Int32} {it : Nat → Int32} {T : Nat → Nat → List Int32} {idx : Nat} (hd : decode mi.2.1 pc = .ok (.invokevirtual idx, 3)) (hp : pc + 3 = pc') (hlk : Cond.methodLink mi.1.cls idx yX6_whichPiecesAreSo ∈ wok) (hdd : 5 + 1 ≤ d) (hcat : (S.map (fun v => v.category)).sum ≤ 8) (hj : j < 4) (hS : isS 10 mem σ n td (nI w)) (hT : isTT rf tl mem nt T) (hw : w < nt) (hR : isR mem j so sz it) (K : ∀ mem', thf mem mem' → Sim z d kc ks mi pc' L (.int (bo (fun v => son σ n td (T w) v it sz) n) :: S) (LAY rf tl) mem' Q) : Sim z d kc ks mi pc L (.ref (39 + 2 * j) :: .ref 0 :: S) (LAY rf tl) mem Q :=
  s_invV (d2 := 5) hd hp okX6_whichPiecesAreSo hlk inX6_whichPiecesAreSo seX6_whichPiecesAreSo hdd (Nat.zero_add _) (Nat.zero_add _) rfl rfl ly0 rfl hcat (Nat.le_of_ble_eq_true rfl) (m_X6_whichPiecesAreSo (Nat.le_refl _) hj hS hT hw hR K)
theorem sh_or (v : Int32) : shB v = 0 ∨ ∃ j, j < 4 ∧ v = nI j ∧ shB v = 1 := by
  unfold shB
  by_cases h1 : v < 0
  · left; rw [if_pos h1]
  · by_cases h2 : 4 ≤ v
    · left; rw [if_neg h1, if_pos h2]
    · right
      obtain ⟨j, hj, rfl⟩ := nI_of h1
      refine ⟨j, ?_, rfl, by rw [if_neg h1, if_neg h2]⟩
      rcases Nat.lt_or_ge j 4 with q | q
      · exact q
      · exact absurd ((nI_leI (a := 4) (b := j) (by omega) hj).mpr q) h2
/-- all sheets -/
def isRR (mem : Mem) (so : Nat → Int32) (sz : Nat → Nat) (it : Nat → Nat → Int32) : Prop := ∀ j, j < 4 → isR mem j (so j) (sz j) (it j)
theorem isRR.thf {mem mem' : Mem} {so : Nat → Int32} {sz : Nat → Nat} {it : Nat → Nat → Int32} (h : isRR mem so sz it) (hk : thf mem mem') : isRR mem' so sz it := fun j hj => (h j hj).thf hk
def tellW (σ : Nat → Nat → Int32) (n : Nat) (td : Int32) (T : Nat → Nat → List Int32) (w nt a : Nat) (it : Nat → Int32) (sz : Nat) (what : Int32) : Int32 :=
  if what = 0 then othR σ n td (T w) a it sz
  else if what = 1 then bo (fun v => son (u2 σ 0 a (nI v)) n td (T w) a it sz) 6
  else if what = 2 then bo (fun v => son (u2 σ 1 a (nI v)) n td (T w) a it sz) 10
  else if what = 3 then nI (ct (fun v => son (u2 σ 2 a (nI v)) n td (T w) a it sz) 100)
  else if what = 4 then lsR (fun v => son (u2 σ 2 a (nI v)) n td (T w) a it sz)
  else if what = 5 then bo (fun v => son (u2 σ 3 a (nI v)) n td (T w) a it sz) 12
  else if what = 6 then bo (fun v => son σ n td (T v) a it sz) nt
  else bo (fun v => son σ n td (T w) v it sz) n
def tellR (σ : Nat → Nat → Int32) (n : Nat) (td : Int32) (T : Nat → Nat → List Int32) (w nt : Nat) (so : Nat → Int32) (sz : Nat → Nat) (it : Nat → Nat → Int32) (s p what : Int32) : Int32 :=
  if shB s = 0 then -2 else if pcB p (nI n) = 0 then -2 else if inB what 0 7 = 0 then -2 else if so (ix s) = -1 then -11 else if 30 < sz (ix s) then -2 else tellW σ n td T w nt (ix p) (it (ix s)) (sz (ix s)) what
set_option maxHeartbeats 4000000 in
theorem m_X6_tells {z : Zz} {d : Nat} {Q : Option Value → Lay → Mem → Prop} {rf : Nat → Value} {tl : Lay} {mem : Mem}  {n w nt : Nat} {σ : Nat → Nat → Int32} {td s p what : Int32} {so : Nat → Int32} {sz : Nat → Nat} {it : Nat → Nat → Int32} {T : Nat → Nat → List Int32} (hdd : 7 ≤ d) (hS : isS 10 mem σ n td (nI w)) (hT : isTT rf tl mem nt T) (hw : w < nt) (hRR : isRR mem so sz it) (K : ∀ mem', thf mem mem' → Q (some (.int (tellR σ n td T w nt so sz it s p what))) (LAY rf tl) mem') : Sim z d 0 0 mX6_tells 0 [.ref 0, .int s, .int p, .int what, .float 0] [] (LAY rf tl) mem Q := by
  have h8 := hS.2.1
  have hn := hS.1
  unfold tellR at K
  refine s_iload_n (pc' := 1) dX6_tells_0 rfl lg1 ?_
  refine c_X6_isSheet  (pc' := 4) dX6_tells_1 rfl lkX6_146 (by omega) (Nat.le_of_ble_eq_true rfl) ?_
  refine s_if_eq (pc' := 7) (tgt := 25) dX6_tells_4 rfl (by decide) (fun c1 => ?_) (fun c1 => ?_)
  · skip
    rw [if_pos c1] at K
    refine s_bipush (pc' := 27) dX6_tells_25 rfl bipush_m2 ?_
    refine s_iret dX6_tells_27 rfl (vp_nar_int _) ?_
    exact K mem thf.rf
  · skip
    rw [if_neg c1] at K
    refine s_aload_n (pc' := 8) dX6_tells_7 rfl lg0 rfl ?_
    refine s_iload_n (pc' := 9) dX6_tells_8 rfl lg2 ?_
    refine c_X6_isPiece  (pc' := 12) dX6_tells_9 rfl lkX6_60 (by omega) (Nat.le_of_ble_eq_true rfl) ?_
    rw [hn]
    refine s_if_eq (pc' := 15) (tgt := 25) dX6_tells_12 rfl (by decide) (fun c2 => ?_) (fun c2 => ?_)
    · skip
      rw [if_pos c2] at K
      refine s_bipush (pc' := 27) dX6_tells_25 rfl bipush_m2 ?_
      refine s_iret dX6_tells_27 rfl (vp_nar_int _) ?_
      exact K mem thf.rf
    · skip
      rw [if_neg c2] at K
      refine s_iload_n (pc' := 16) dX6_tells_15 rfl lg3 ?_
      refine s_iconst (pc' := 17) dX6_tells_16 rfl iconst_0 ?_
      refine s_bipush (pc' := 19) dX6_tells_17 rfl bipush_7 ?_
      refine c_X6_isIn  (pc' := 22) dX6_tells_19 rfl lkX6_56 (by omega) (Nat.le_of_ble_eq_true rfl) ?_
      refine s_if_ne (pc' := 25) (tgt := 28) dX6_tells_22 rfl (by decide) (fun c3 => ?_) (fun c3 => ?_)
      · skip
        rw [if_neg c3] at K
        rcases sh_or s with h | ⟨j, hj, rfl, -⟩
        · exact absurd h c1
        rcases pc_or p (n := n) (by omega) with h | ⟨a, ha, rfl, -⟩
        · exact absurd h c2
        rw [ix_nI (by omega), ix_nI (by omega)] at K
        have hR := hRR j hj
        have h40 := hR.2.2.1
        refine s_aload_n (pc' := 29) dX6_tells_28 rfl lg0 rfl ?_
        refine s_getRv (pc' := 32) (v := .ref 38) dX6_tells_29 rfl flX6_47 ly0 (by decide) rfl rfl ?_
        refine s_iload_n (pc' := 33) dX6_tells_32 rfl lg1 ?_
        refine s_aaldv (pc' := 34) (v := .ref (39 + 2 * j)) dX6_tells_33 rfl ly38 (by decide) (am_in (by omega) (by decide)) (by rw [am_cl (n := 4) hj (by decide)]; exact R38_at hj) ?_
        refine s_astore (pc' := 36) dX6_tells_34 rfl rfl (Nat.le_of_ble_eq_true rfl) rfl ls4 ?_
        refine s_aload (pc' := 38) dX6_tells_36 rfl lg4 rfl ?_
        refine c_X2_isMissing  (pc' := 41) dX6_tells_38 rfl lkX6_149 (by omega) (Nat.le_of_ble_eq_true rfl) hj ?_
        rw [hR.1]
        by_cases hm : so j = -1
        · rw [if_pos hm] at K
          rw [if_pos hm]
          refine s_if_eq (pc' := 44) (tgt := 47) dX6_tells_41 rfl (by decide) (fun c9 => absurd c9 (by decide)) (fun _ => ?_)
          refine s_bipush (pc' := 46) dX6_tells_44 rfl bipush_m11 ?_
          refine s_iret dX6_tells_46 rfl (vp_nar_int _) ?_
          exact K mem thf.rf
        · rw [if_neg hm] at K
          rw [if_neg hm]
          refine s_if_eq (pc' := 44) (tgt := 47) dX6_tells_41 rfl (by decide) (fun _ => ?_) (fun c9 => absurd (by decide) c9)
          refine s_aload (pc' := 49) dX6_tells_47 rfl lg4 rfl ?_
          refine s_getIv (pc' := 52) (v := nI (sz j)) dX6_tells_49 rfl flX6_156 (lyR hj) (by decide) rfl hR.2.1 ?_
          refine s_bipush (pc' := 54) dX6_tells_52 rfl bipush_30 ?_
          refine s_icmp_le (pc' := 57) (tgt := 60) dX6_tells_54 rfl (by decide) (fun c4 => ?_) (fun c4 => ?_)
          · skip
            have q30 : ¬ 30 < sz j := by have := (nI_leI (a := sz j) (b := 30) (by omega) (by omega)).mp c4; omega
            rw [if_neg q30] at K
            unfold tellW at K
            refine s_iload_n (pc' := 61) dX6_tells_60 rfl lg3 ?_
            refine s_ts7 (v0 := 0) (v1 := 1) (v2 := 2) (v3 := 3) (v4 := 4) (v5 := 5) (v6 := 6) (t0 := 104) (t1 := 123) (t2 := 132) (t3 := 141) (t4 := 149) (t5 := 157) (t6 := 166) (td := 174) dX6_tells_61 (by decide) (by decide) (by decide) (by decide) (by decide) (by decide) (by decide) (by decide) (by decide) (by decide) (by decide) (by decide) (by decide) (by decide) (by decide) (by decide) (fun e1 => ?_) (fun e1 => ?_) (fun e1 => ?_) (fun e1 => ?_) (fun e1 => ?_) (fun e1 => ?_) (fun e1 => ?_) (fun e1_0 e1_1 e1_2 e1_3 e1_4 e1_5 e1_6 => ?_)
            · refine s_aload_n (pc' := 105) dX6_tells_104 rfl lg0 rfl ?_
              refine s_getRv (pc' := 108) (v := .ref 18) dX6_tells_105 rfl flX6_32 ly0 (by decide) rfl rfl ?_
              refine s_aload_n (pc' := 109) dX6_tells_108 rfl lg0 rfl ?_
              refine s_getRv (pc' := 112) (v := .ref 10) dX6_tells_109 rfl flX6_28 ly0 (by decide) rfl rfl ?_
              refine c_X3_becomes_18_10 (pc' := 115) dX6_tells_112 rfl lkX6_120 (by omega) (Nat.le_of_ble_eq_true rfl) hS ?_
              intro m1 hS1 f1
              refine s_aload_n (pc' := 116) dX6_tells_115 rfl lg0 rfl ?_
              refine s_aload (pc' := 118) dX6_tells_116 rfl lg4 rfl ?_
              refine s_iload_n (pc' := 119) dX6_tells_118 rfl lg2 ?_
              refine c_X6_firstOtherwise (pc' := 122) dX6_tells_119 rfl lkX6_196 (by omega) (Nat.le_of_ble_eq_true rfl) hj hS1 (hT.thf (fun q h3 h4 h5 => f1 q (by omega))) hw ha (hR.thf (fun q h3 h4 h5 => f1 q (by omega))) ?_
              intro m2 t2
              refine s_iret dX6_tells_122 rfl (vp_nar_int _) ?_
              (first | (have K2 := K m3 t3; simpa [e1] using K2) | (have K2 := K m2 (thf.tr (fun q h3 h4 h5 => f1 q (by omega)) t2); simpa [e1] using K2))
            · refine s_aload_n (pc' := 124) dX6_tells_123 rfl lg0 rfl ?_
              refine s_aload (pc' := 126) dX6_tells_124 rfl lg4 rfl ?_
              refine s_iload_n (pc' := 127) dX6_tells_126 rfl lg2 ?_
              refine s_iconst (pc' := 128) dX6_tells_127 rfl iconst_5 ?_
              refine c_X6_whichAreSo_5 (pc' := 131) dX6_tells_128 rfl lkX6_200 (by omega) (Nat.le_of_ble_eq_true rfl) hj hS hT hw ha hR ?_
              intro m3 t3
              refine s_iret dX6_tells_131 rfl (vp_nar_int _) ?_
              (first | (have K2 := K m3 t3; simpa [e1] using K2) | (have K2 := K m2 (thf.tr (fun q h3 h4 h5 => f1 q (by omega)) t2); simpa [e1] using K2))
            · refine s_aload_n (pc' := 133) dX6_tells_132 rfl lg0 rfl ?_
              refine s_aload (pc' := 135) dX6_tells_133 rfl lg4 rfl ?_
              refine s_iload_n (pc' := 136) dX6_tells_135 rfl lg2 ?_
              refine s_iconst (pc' := 137) dX6_tells_136 rfl iconst_1 ?_
              refine c_X6_whichAreSo_1 (pc' := 140) dX6_tells_137 rfl lkX6_200 (by omega) (Nat.le_of_ble_eq_true rfl) hj hS hT hw ha hR ?_
              intro m3 t3
              refine s_iret dX6_tells_140 rfl (vp_nar_int _) ?_
              (first | (have K2 := K m3 t3; simpa [e1] using K2) | (have K2 := K m2 (thf.tr (fun q h3 h4 h5 => f1 q (by omega)) t2); simpa [e1] using K2))
            · refine s_aload_n (pc' := 142) dX6_tells_141 rfl lg0 rfl ?_
              refine s_aload (pc' := 144) dX6_tells_142 rfl lg4 rfl ?_
              refine s_iload_n (pc' := 145) dX6_tells_144 rfl lg2 ?_
              refine c_X6_howManySharpsAreSo (pc' := 148) dX6_tells_145 rfl lkX6_204 (by omega) (Nat.le_of_ble_eq_true rfl) hj hS hT hw ha hR ?_
              intro m3 t3
              refine s_iret dX6_tells_148 rfl (vp_nar_int _) ?_
              (first | (have K2 := K m3 t3; simpa [e1] using K2) | (have K2 := K m2 (thf.tr (fun q h3 h4 h5 => f1 q (by omega)) t2); simpa [e1] using K2))
            · refine s_aload_n (pc' := 150) dX6_tells_149 rfl lg0 rfl ?_
              refine s_aload (pc' := 152) dX6_tells_150 rfl lg4 rfl ?_
              refine s_iload_n (pc' := 153) dX6_tells_152 rfl lg2 ?_
              refine c_X6_leastSharpThatIsSo (pc' := 156) dX6_tells_153 rfl lkX6_207 (by omega) (Nat.le_of_ble_eq_true rfl) hj hS hT hw ha hR ?_
              intro m3 t3
              refine s_iret dX6_tells_156 rfl (vp_nar_int _) ?_
              (first | (have K2 := K m3 t3; simpa [e1] using K2) | (have K2 := K m2 (thf.tr (fun q h3 h4 h5 => f1 q (by omega)) t2); simpa [e1] using K2))
            · refine s_aload_n (pc' := 158) dX6_tells_157 rfl lg0 rfl ?_
              refine s_aload (pc' := 160) dX6_tells_158 rfl lg4 rfl ?_
              refine s_iload_n (pc' := 161) dX6_tells_160 rfl lg2 ?_
              refine s_iconst (pc' := 162) dX6_tells_161 rfl iconst_3 ?_
              refine c_X6_whichAreSo_3 (pc' := 165) dX6_tells_162 rfl lkX6_200 (by omega) (Nat.le_of_ble_eq_true rfl) hj hS hT hw ha hR ?_
              intro m3 t3
              refine s_iret dX6_tells_165 rfl (vp_nar_int _) ?_
              (first | (have K2 := K m3 t3; simpa [e1] using K2) | (have K2 := K m2 (thf.tr (fun q h3 h4 h5 => f1 q (by omega)) t2); simpa [e1] using K2))
            · refine s_aload_n (pc' := 167) dX6_tells_166 rfl lg0 rfl ?_
              refine s_aload (pc' := 169) dX6_tells_167 rfl lg4 rfl ?_
              refine s_iload_n (pc' := 170) dX6_tells_169 rfl lg2 ?_
              refine c_X6_whichTextsAreSo (pc' := 173) dX6_tells_170 rfl lkX6_210 (by omega) (Nat.le_of_ble_eq_true rfl) hj hS hT ha hR ?_
              intro m3 t3
              refine s_iret dX6_tells_173 rfl (vp_nar_int _) ?_
              (first | (have K2 := K m3 t3; simpa [e1] using K2) | (have K2 := K m2 (thf.tr (fun q h3 h4 h5 => f1 q (by omega)) t2); simpa [e1] using K2))
            · refine s_aload_n (pc' := 175) dX6_tells_174 rfl lg0 rfl ?_
              refine s_aload (pc' := 177) dX6_tells_175 rfl lg4 rfl ?_
              refine c_X6_whichPiecesAreSo (pc' := 180) dX6_tells_177 rfl lkX6_213 (by omega) (Nat.le_of_ble_eq_true rfl) hj hS hT hw hR ?_
              intro m3 t3
              refine s_iret dX6_tells_180 rfl (vp_nar_int _) ?_
              (first | (have K2 := K m3 t3; simpa [e1_0, e1_1, e1_2, e1_3, e1_4, e1_5, e1_6] using K2) | (have K2 := K m2 (thf.tr (fun q h3 h4 h5 => f1 q (by omega)) t2); simpa [e1_0, e1_1, e1_2, e1_3, e1_4, e1_5, e1_6] using K2))
          · skip
            have q30 : 30 < sz j := by
              rcases Nat.lt_or_ge 30 (sz j) with q | q
              · exact q
              · exact absurd ((nI_leI (a := sz j) (b := 30) (by omega) (by omega)).mpr q) c4
            rw [if_pos q30] at K
            refine s_bipush (pc' := 59) dX6_tells_57 rfl bipush_m2 ?_
            refine s_iret dX6_tells_59 rfl (vp_nar_int _) ?_
            exact K mem thf.rf
      · skip
        rw [if_pos c3] at K
        refine s_bipush (pc' := 27) dX6_tells_25 rfl bipush_m2 ?_
        refine s_iret dX6_tells_27 rfl (vp_nar_int _) ?_
        exact K mem thf.rf
theorem c_X6_tells {z : Zz} {d kc ks : Nat} {mi : MI} {pc pc' : Nat} {L S : List Value} {Q : Option Value → Lay → Mem → Prop} {rf : Nat → Value} {tl : Lay} {mem : Mem}  {n w nt : Nat} {σ : Nat → Nat → Int32} {td s p what : Int32} {so : Nat → Int32} {sz : Nat → Nat} {it : Nat → Nat → Int32} {T : Nat → Nat → List Int32} {idx : Nat} (hd : decode mi.2.1 pc = .ok (.invokevirtual idx, 3)) (hp : pc + 3 = pc') (hlk : Cond.methodLink mi.1.cls idx yX6_tells ∈ wok) (hdd : 7 + 1 ≤ d) (hcat : (S.map (fun v => v.category)).sum ≤ 8) (hS : isS 10 mem σ n td (nI w)) (hT : isTT rf tl mem nt T) (hw : w < nt) (hRR : isRR mem so sz it) (K : ∀ mem', thf mem mem' → Sim z d kc ks mi pc' L (.int (tellR σ n td T w nt so sz it s p what) :: S) (LAY rf tl) mem' Q) : Sim z d kc ks mi pc L (.int what :: .int p :: .int s :: .ref 0 :: S) (LAY rf tl) mem Q :=
  s_invV (d2 := 7) hd hp okX6_tells hlk inX6_tells seX6_tells hdd (Nat.zero_add _) (Nat.zero_add _) rfl rfl ly0 rfl hcat (Nat.le_of_ble_eq_true rfl) (m_X6_tells (Nat.le_refl _) hS hT hw hRR K)

