/-! ===== leaves: Math, Integer, and the small statics ===== -/
def mxI (a b : Int32) : Int32 := if a < b then b else a
def mnI (a b : Int32) : Int32 := if b < a then b else a
def abI (a : Int32) : Int32 := if 0 ≤ a then a else -a
def rmI (a b : Int32) : Int32 := a - a / b * b
def fmI (a b : Int32) : Int32 := if 0 ≤ a ^^^ b then rmI a b else if rmI a b = 0 then rmI a b else rmI a b + b
set_option maxHeartbeats 4000000 in
theorem m_J9_max_7cf53 {z : Zz} {d : Nat} {Q : Option Value → Lay → Mem → Prop} {lay : Lay} {mem : Mem} {a b : Int32} (hdd : 0 ≤ d)  (K :  Q (some (.int (mxI a b))) lay mem) : Sim z d 0 0 mJ9_max_7cf53 0 [.int a, .int b] [] (lay) mem Q := by
  refine s_iload_n (pc' := 1) dJ9_max_7cf53_0 rfl lg0 ?_
  refine s_iload_n (pc' := 2) dJ9_max_7cf53_1 rfl lg1 ?_
  refine s_icmp_lt (pc' := 5) (tgt := 9) dJ9_max_7cf53_2 rfl (by decide) (fun c => ?_) (fun c => ?_)
  · skip
    refine s_iload_n (pc' := 10) dJ9_max_7cf53_9 rfl lg1 ?_
    refine s_iret dJ9_max_7cf53_10 rfl (vp_nar_int _) ?_
    rw [mxI, if_pos c] at K; exact K
  · skip
    refine s_iload_n (pc' := 6) dJ9_max_7cf53_5 rfl lg0 ?_
    refine s_goto (tgt := 10) dJ9_max_7cf53_6 (by decide) ?_
    refine s_iret dJ9_max_7cf53_10 rfl (vp_nar_int _) ?_
    rw [mxI, if_neg c] at K; exact K
theorem c_J9_max_7cf53 {z : Zz} {d kc ks : Nat} {mi : MI} {pc pc' : Nat} {L S : List Value} {Q : Option Value → Lay → Mem → Prop} {lay : Lay} {mem : Mem} {a b : Int32} {idx : Nat} (hd : decode mi.2.1 pc = .ok (.invokestatic idx, 3)) (hp : pc + 3 = pc') (hlk : Cond.methodLink mi.1.cls idx yJ9_max_7cf53 ∈ wok) (hdd : 0 + 1 ≤ d) (hcat : (S.map (fun v => v.category)).sum ≤ 8)  (K :  Sim z d kc ks mi pc' L (.int (mxI a b) :: S) lay mem Q) : Sim z d kc ks mi pc L (.int b :: .int a :: S) (lay) mem Q :=
  s_invS (d2 := 0) hd hp okJ9_max_7cf53 hlk stJ9_max_7cf53 hdd (Nat.zero_add _) (Nat.zero_add _) rfl rfl hcat (Nat.le_of_ble_eq_true rfl) (m_J9_max_7cf53 (Nat.le_refl _)  K)
set_option maxHeartbeats 4000000 in
theorem m_J9_min_7cf53 {z : Zz} {d : Nat} {Q : Option Value → Lay → Mem → Prop} {lay : Lay} {mem : Mem} {a b : Int32} (hdd : 0 ≤ d)  (K :  Q (some (.int (mnI a b))) lay mem) : Sim z d 0 0 mJ9_min_7cf53 0 [.int a, .int b] [] (lay) mem Q := by
  refine s_iload_n (pc' := 1) dJ9_min_7cf53_0 rfl lg0 ?_
  refine s_iload_n (pc' := 2) dJ9_min_7cf53_1 rfl lg1 ?_
  refine s_icmp_gt (pc' := 5) (tgt := 9) dJ9_min_7cf53_2 rfl (by decide) (fun c => ?_) (fun c => ?_)
  · skip
    refine s_iload_n (pc' := 10) dJ9_min_7cf53_9 rfl lg1 ?_
    refine s_iret dJ9_min_7cf53_10 rfl (vp_nar_int _) ?_
    rw [mnI, if_pos c] at K; exact K
  · skip
    refine s_iload_n (pc' := 6) dJ9_min_7cf53_5 rfl lg0 ?_
    refine s_goto (tgt := 10) dJ9_min_7cf53_6 (by decide) ?_
    refine s_iret dJ9_min_7cf53_10 rfl (vp_nar_int _) ?_
    rw [mnI, if_neg c] at K; exact K
theorem c_J9_min_7cf53 {z : Zz} {d kc ks : Nat} {mi : MI} {pc pc' : Nat} {L S : List Value} {Q : Option Value → Lay → Mem → Prop} {lay : Lay} {mem : Mem} {a b : Int32} {idx : Nat} (hd : decode mi.2.1 pc = .ok (.invokestatic idx, 3)) (hp : pc + 3 = pc') (hlk : Cond.methodLink mi.1.cls idx yJ9_min_7cf53 ∈ wok) (hdd : 0 + 1 ≤ d) (hcat : (S.map (fun v => v.category)).sum ≤ 8)  (K :  Sim z d kc ks mi pc' L (.int (mnI a b) :: S) lay mem Q) : Sim z d kc ks mi pc L (.int b :: .int a :: S) (lay) mem Q :=
  s_invS (d2 := 0) hd hp okJ9_min_7cf53 hlk stJ9_min_7cf53 hdd (Nat.zero_add _) (Nat.zero_add _) rfl rfl hcat (Nat.le_of_ble_eq_true rfl) (m_J9_min_7cf53 (Nat.le_refl _)  K)
set_option maxHeartbeats 4000000 in
theorem m_J9_abs_0f7a4 {z : Zz} {d : Nat} {Q : Option Value → Lay → Mem → Prop} {lay : Lay} {mem : Mem} {a : Int32} (hdd : 0 ≤ d)  (K :  Q (some (.int (abI a))) lay mem) : Sim z d 0 0 mJ9_abs_0f7a4 0 [.int a] [] (lay) mem Q := by
  refine s_iload_n (pc' := 1) dJ9_abs_0f7a4_0 rfl lg0 ?_
  refine s_if_ge (pc' := 4) (tgt := 9) dJ9_abs_0f7a4_1 rfl (by decide) (fun c => ?_) (fun c => ?_)
  · skip
    refine s_iload_n (pc' := 10) dJ9_abs_0f7a4_9 rfl lg0 ?_
    refine s_iret dJ9_abs_0f7a4_10 rfl (vp_nar_int _) ?_
    rw [abI, if_pos c] at K; exact K
  · skip
    refine s_iload_n (pc' := 5) dJ9_abs_0f7a4_4 rfl lg0 ?_
    refine s_ineg (pc' := 6) dJ9_abs_0f7a4_5 rfl ?_
    refine s_goto (tgt := 10) dJ9_abs_0f7a4_6 (by decide) ?_
    refine s_iret dJ9_abs_0f7a4_10 rfl (vp_nar_int _) ?_
    rw [abI, if_neg c] at K; exact K
theorem c_J9_abs_0f7a4 {z : Zz} {d kc ks : Nat} {mi : MI} {pc pc' : Nat} {L S : List Value} {Q : Option Value → Lay → Mem → Prop} {lay : Lay} {mem : Mem} {a : Int32} {idx : Nat} (hd : decode mi.2.1 pc = .ok (.invokestatic idx, 3)) (hp : pc + 3 = pc') (hlk : Cond.methodLink mi.1.cls idx yJ9_abs_0f7a4 ∈ wok) (hdd : 0 + 1 ≤ d) (hcat : (S.map (fun v => v.category)).sum ≤ 8)  (K :  Sim z d kc ks mi pc' L (.int (abI a) :: S) lay mem Q) : Sim z d kc ks mi pc L (.int a :: S) (lay) mem Q :=
  s_invS (d2 := 0) hd hp okJ9_abs_0f7a4 hlk stJ9_abs_0f7a4 hdd (Nat.zero_add _) (Nat.zero_add _) rfl rfl hcat (Nat.le_of_ble_eq_true rfl) (m_J9_abs_0f7a4 (Nat.le_refl _)  K)
set_option maxHeartbeats 4000000 in
theorem m_J9_floorMod_7cf53 {z : Zz} {d : Nat} {Q : Option Value → Lay → Mem → Prop} {lay : Lay} {mem : Mem} {a b : Int32} (hdd : 0 ≤ d) (hb : ¬ b = 0) (K :  Q (some (.int (fmI a b))) lay mem) : Sim z d 0 0 mJ9_floorMod_7cf53 0 [.int a, .int b, .float 0] [] (lay) mem Q := by
  refine s_iload_n (pc' := 1) dJ9_floorMod_7cf53_0 rfl lg0 ?_
  refine s_iload_n (pc' := 2) dJ9_floorMod_7cf53_1 rfl lg1 ?_
  refine s_irem (pc' := 3) dJ9_floorMod_7cf53_2 rfl hb ?_
  refine s_istore_n (pc' := 4) dJ9_floorMod_7cf53_3 rfl (Nat.le_of_ble_eq_true rfl) rfl ls2 ?_
  refine s_iload_n (pc' := 5) dJ9_floorMod_7cf53_4 rfl lg0 ?_
  refine s_iload_n (pc' := 6) dJ9_floorMod_7cf53_5 rfl lg1 ?_
  refine s_ixor (pc' := 7) dJ9_floorMod_7cf53_6 rfl ?_
  refine s_if_ge (pc' := 10) (tgt := 18) dJ9_floorMod_7cf53_7 rfl (by decide) (fun c => ?_) (fun c => ?_)
  · skip
    refine s_iload_n (pc' := 19) dJ9_floorMod_7cf53_18 rfl lg2 ?_
    refine s_iret dJ9_floorMod_7cf53_19 rfl (vp_nar_int _) ?_
    rw [fmI, if_pos c] at K; exact K
  · skip
    refine s_iload_n (pc' := 11) dJ9_floorMod_7cf53_10 rfl lg2 ?_
    refine s_if_eq (pc' := 14) (tgt := 18) dJ9_floorMod_7cf53_11 rfl (by decide) (fun c2 => ?_) (fun c2 => ?_)
    · skip
      refine s_iload_n (pc' := 19) dJ9_floorMod_7cf53_18 rfl lg2 ?_
      refine s_iret dJ9_floorMod_7cf53_19 rfl (vp_nar_int _) ?_
      rw [fmI, if_neg c, rmI, if_pos c2] at K; exact K
    · skip
      refine s_iload_n (pc' := 15) dJ9_floorMod_7cf53_14 rfl lg2 ?_
      refine s_iload_n (pc' := 16) dJ9_floorMod_7cf53_15 rfl lg1 ?_
      refine s_iadd (pc' := 17) dJ9_floorMod_7cf53_16 rfl ?_
      refine s_iret dJ9_floorMod_7cf53_17 rfl (vp_nar_int _) ?_
      rw [fmI, if_neg c, rmI, if_neg c2] at K; exact K
theorem c_J9_floorMod_7cf53 {z : Zz} {d kc ks : Nat} {mi : MI} {pc pc' : Nat} {L S : List Value} {Q : Option Value → Lay → Mem → Prop} {lay : Lay} {mem : Mem} {a b : Int32} {idx : Nat} (hd : decode mi.2.1 pc = .ok (.invokestatic idx, 3)) (hp : pc + 3 = pc') (hlk : Cond.methodLink mi.1.cls idx yJ9_floorMod_7cf53 ∈ wok) (hdd : 0 + 1 ≤ d) (hcat : (S.map (fun v => v.category)).sum ≤ 8) (hb : ¬ b = 0) (K :  Sim z d kc ks mi pc' L (.int (fmI a b) :: S) lay mem Q) : Sim z d kc ks mi pc L (.int b :: .int a :: S) (lay) mem Q :=
  s_invS (d2 := 0) hd hp okJ9_floorMod_7cf53 hlk stJ9_floorMod_7cf53 hdd (Nat.zero_add _) (Nat.zero_add _) rfl rfl hcat (Nat.le_of_ble_eq_true rfl) (m_J9_floorMod_7cf53 (Nat.le_refl _) hb K)
def inB (v lo hi : Int32) : Int32 := if v < lo then 0 else if hi < v then 0 else 1
def bdI (v lo hi : Int32) : Int32 := mxI lo (mnI hi v)
def apI (p q : Int32) : Int32 := mnI (abI (p - q)) (12 - abI (p - q))
set_option maxHeartbeats 4000000 in
theorem m_X6_isIn {z : Zz} {d : Nat} {Q : Option Value → Lay → Mem → Prop} {lay : Lay} {mem : Mem} {v lo hi : Int32} (hdd : 0 ≤ d)  (K :  Q (some (.int (inB v lo hi))) lay mem) : Sim z d 0 0 mX6_isIn 0 [.int v, .int lo, .int hi] [] (lay) mem Q := by
  refine s_iload_n (pc' := 1) dX6_isIn_0 rfl lg0 ?_
  refine s_iload_n (pc' := 2) dX6_isIn_1 rfl lg1 ?_
  refine s_icmp_lt (pc' := 5) (tgt := 14) dX6_isIn_2 rfl (by decide) (fun c1 => ?_) (fun c1 => ?_)
  · refine s_iconst (pc' := 15) dX6_isIn_14 rfl iconst_0 ?_
    refine s_iret dX6_isIn_15 rfl (by decide) ?_
    simpa [inB, c1] using K
  · refine s_iload_n (pc' := 6) dX6_isIn_5 rfl lg0 ?_
    refine s_iload_n (pc' := 7) dX6_isIn_6 rfl lg2 ?_
    refine s_icmp_gt (pc' := 10) (tgt := 14) dX6_isIn_7 rfl (by decide) (fun c2 => ?_) (fun c2 => ?_)
    · refine s_iconst (pc' := 15) dX6_isIn_14 rfl iconst_0 ?_
      refine s_iret dX6_isIn_15 rfl (by decide) ?_
      simpa [inB, c1, c2] using K
    · refine s_iconst (pc' := 11) dX6_isIn_10 rfl iconst_1 ?_
      refine s_goto (tgt := 15) dX6_isIn_11 (by decide) ?_
      refine s_iret dX6_isIn_15 rfl (by decide) ?_
      simpa [inB, c1, c2] using K
theorem c_X6_isIn {z : Zz} {d kc ks : Nat} {mi : MI} {pc pc' : Nat} {L S : List Value} {Q : Option Value → Lay → Mem → Prop} {lay : Lay} {mem : Mem} {v lo hi : Int32} {idx : Nat} (hd : decode mi.2.1 pc = .ok (.invokestatic idx, 3)) (hp : pc + 3 = pc') (hlk : Cond.methodLink mi.1.cls idx yX6_isIn ∈ wok) (hdd : 0 + 1 ≤ d) (hcat : (S.map (fun v => v.category)).sum ≤ 8)  (K :  Sim z d kc ks mi pc' L (.int (inB v lo hi) :: S) lay mem Q) : Sim z d kc ks mi pc L (.int hi :: .int lo :: .int v :: S) (lay) mem Q :=
  s_invS (d2 := 0) hd hp okX6_isIn hlk stX6_isIn hdd (Nat.zero_add _) (Nat.zero_add _) rfl rfl hcat (Nat.le_of_ble_eq_true rfl) (m_X6_isIn (Nat.le_refl _)  K)
theorem cN_X6_isIn {z : Zz} {d kc ks : Nat} {mi : MI} {pc pc' : Nat} {L S : List Value} {Q : Option Value → Lay → Mem → Prop} {lay : Lay} {mem : Mem} {v lo hi : Int32} {idx : Nat} (hd : decode mi.2.1 pc = .ok (.invokestatic idx, 3)) (hp : pc + 3 = pc') (hlk : Cond.methodLinkNest mi.1.cls idx yX6_isIn RX6 ∈ am_nws) (hdd : 0 + 1 ≤ d) (hcat : (S.map (fun v => v.category)).sum ≤ 8)  (K :  Sim z d kc ks mi pc' L (.int (inB v lo hi) :: S) lay mem Q) : Sim z d kc ks mi pc L (.int hi :: .int lo :: .int v :: S) (lay) mem Q :=
  s_invSN (d2 := 0) hd hp okX6_isIn hlk stX6_isIn hdd (Nat.zero_add _) (Nat.zero_add _) rfl rfl hcat (Nat.le_of_ble_eq_true rfl) (m_X6_isIn (Nat.le_refl _)  K)
set_option maxHeartbeats 4000000 in
theorem m_X6_bounded {z : Zz} {d : Nat} {Q : Option Value → Lay → Mem → Prop} {lay : Lay} {mem : Mem} {v lo hi : Int32} (hdd : 1 ≤ d)  (K :  Q (some (.int (bdI v lo hi))) lay mem) : Sim z d 0 0 mX6_bounded 0 [.int v, .int lo, .int hi] [] (lay) mem Q := by
  refine s_iload_n (pc' := 1) dX6_bounded_0 rfl lg1 ?_
  refine s_iload_n (pc' := 2) dX6_bounded_1 rfl lg2 ?_
  refine s_iload_n (pc' := 3) dX6_bounded_2 rfl lg0 ?_
  refine c_J9_min_7cf53 (pc' := 6) dX6_bounded_3 rfl lkX6_254 (by omega) (Nat.le_of_ble_eq_true rfl)  ?_
  refine c_J9_max_7cf53 (pc' := 9) dX6_bounded_6 rfl lkX6_259 (by omega) (Nat.le_of_ble_eq_true rfl)  ?_
  refine s_iret dX6_bounded_9 rfl (vp_nar_int _) ?_
  exact K
theorem c_X6_bounded {z : Zz} {d kc ks : Nat} {mi : MI} {pc pc' : Nat} {L S : List Value} {Q : Option Value → Lay → Mem → Prop} {lay : Lay} {mem : Mem} {v lo hi : Int32} {idx : Nat} (hd : decode mi.2.1 pc = .ok (.invokestatic idx, 3)) (hp : pc + 3 = pc') (hlk : Cond.methodLink mi.1.cls idx yX6_bounded ∈ wok) (hdd : 1 + 1 ≤ d) (hcat : (S.map (fun v => v.category)).sum ≤ 8)  (K :  Sim z d kc ks mi pc' L (.int (bdI v lo hi) :: S) lay mem Q) : Sim z d kc ks mi pc L (.int hi :: .int lo :: .int v :: S) (lay) mem Q :=
  s_invS (d2 := 1) hd hp okX6_bounded hlk stX6_bounded hdd (Nat.zero_add _) (Nat.zero_add _) rfl rfl hcat (Nat.le_of_ble_eq_true rfl) (m_X6_bounded (Nat.le_refl _)  K)
theorem cN_X6_bounded {z : Zz} {d kc ks : Nat} {mi : MI} {pc pc' : Nat} {L S : List Value} {Q : Option Value → Lay → Mem → Prop} {lay : Lay} {mem : Mem} {v lo hi : Int32} {idx : Nat} (hd : decode mi.2.1 pc = .ok (.invokestatic idx, 3)) (hp : pc + 3 = pc') (hlk : Cond.methodLinkNest mi.1.cls idx yX6_bounded RX6 ∈ am_nws) (hdd : 1 + 1 ≤ d) (hcat : (S.map (fun v => v.category)).sum ≤ 8)  (K :  Sim z d kc ks mi pc' L (.int (bdI v lo hi) :: S) lay mem Q) : Sim z d kc ks mi pc L (.int hi :: .int lo :: .int v :: S) (lay) mem Q :=
  s_invSN (d2 := 1) hd hp okX6_bounded hlk stX6_bounded hdd (Nat.zero_add _) (Nat.zero_add _) rfl rfl hcat (Nat.le_of_ble_eq_true rfl) (m_X6_bounded (Nat.le_refl _)  K)
set_option maxHeartbeats 4000000 in
theorem m_X6_apart {z : Zz} {d : Nat} {Q : Option Value → Lay → Mem → Prop} {lay : Lay} {mem : Mem} {v w : Int32} (hdd : 1 ≤ d)  (K :  Q (some (.int (apI v w))) lay mem) : Sim z d 0 0 mX6_apart 0 [.int v, .int w, .float 0] [] (lay) mem Q := by
  refine s_iload_n (pc' := 1) dX6_apart_0 rfl lg0 ?_
  refine s_iload_n (pc' := 2) dX6_apart_1 rfl lg1 ?_
  refine s_isub (pc' := 3) dX6_apart_2 rfl ?_
  refine c_J9_abs_0f7a4 (pc' := 6) dX6_apart_3 rfl lkX6_262 (by omega) (Nat.le_of_ble_eq_true rfl)  ?_
  refine s_istore_n (pc' := 7) dX6_apart_6 rfl (Nat.le_of_ble_eq_true rfl) rfl ls2 ?_
  refine s_iload_n (pc' := 8) dX6_apart_7 rfl lg2 ?_
  refine s_bipush (pc' := 10) dX6_apart_8 rfl bipush_12 ?_
  refine s_iload_n (pc' := 11) dX6_apart_10 rfl lg2 ?_
  refine s_isub (pc' := 12) dX6_apart_11 rfl ?_
  refine c_J9_min_7cf53 (pc' := 15) dX6_apart_12 rfl lkX6_254 (by omega) (Nat.le_of_ble_eq_true rfl)  ?_
  refine s_iret dX6_apart_15 rfl (vp_nar_int _) ?_
  exact K
theorem c_X6_apart {z : Zz} {d kc ks : Nat} {mi : MI} {pc pc' : Nat} {L S : List Value} {Q : Option Value → Lay → Mem → Prop} {lay : Lay} {mem : Mem} {v w : Int32} {idx : Nat} (hd : decode mi.2.1 pc = .ok (.invokestatic idx, 3)) (hp : pc + 3 = pc') (hlk : Cond.methodLink mi.1.cls idx yX6_apart ∈ wok) (hdd : 1 + 1 ≤ d) (hcat : (S.map (fun v => v.category)).sum ≤ 8)  (K :  Sim z d kc ks mi pc' L (.int (apI v w) :: S) lay mem Q) : Sim z d kc ks mi pc L (.int w :: .int v :: S) (lay) mem Q :=
  s_invS (d2 := 1) hd hp okX6_apart hlk stX6_apart hdd (Nat.zero_add _) (Nat.zero_add _) rfl rfl hcat (Nat.le_of_ble_eq_true rfl) (m_X6_apart (Nat.le_refl _)  K)
theorem cN_X6_apart {z : Zz} {d kc ks : Nat} {mi : MI} {pc pc' : Nat} {L S : List Value} {Q : Option Value → Lay → Mem → Prop} {lay : Lay} {mem : Mem} {v w : Int32} {idx : Nat} (hd : decode mi.2.1 pc = .ok (.invokestatic idx, 3)) (hp : pc + 3 = pc') (hlk : Cond.methodLinkNest mi.1.cls idx yX6_apart RX6 ∈ am_nws) (hdd : 1 + 1 ≤ d) (hcat : (S.map (fun v => v.category)).sum ≤ 8)  (K :  Sim z d kc ks mi pc' L (.int (apI v w) :: S) lay mem Q) : Sim z d kc ks mi pc L (.int w :: .int v :: S) (lay) mem Q :=
  s_invSN (d2 := 1) hd hp okX6_apart hlk stX6_apart hdd (Nat.zero_add _) (Nat.zero_add _) rfl rfl hcat (Nat.le_of_ble_eq_true rfl) (m_X6_apart (Nat.le_refl _)  K)
def shB (v : Int32) : Int32 := if v < 0 then 0 else if 4 ≤ v then 0 else 1
set_option maxHeartbeats 4000000 in
theorem m_X6_isSheet {z : Zz} {d : Nat} {Q : Option Value → Lay → Mem → Prop} {lay : Lay} {mem : Mem} {v : Int32} (hdd : 0 ≤ d)  (K :  Q (some (.int (shB v))) lay mem) : Sim z d 0 0 mX6_isSheet 0 [.int v] [] (lay) mem Q := by
  refine s_iload_n (pc' := 1) dX6_isSheet_0 rfl lg0 ?_
  refine s_if_lt (pc' := 4) (tgt := 13) dX6_isSheet_1 rfl (by decide) (fun c3 => ?_) (fun c3 => ?_)
  · refine s_iconst (pc' := 14) dX6_isSheet_13 rfl iconst_0 ?_
    refine s_iret dX6_isSheet_14 rfl (by decide) ?_
    simpa [shB, c3] using K
  · refine s_iload_n (pc' := 5) dX6_isSheet_4 rfl lg0 ?_
    refine s_iconst (pc' := 6) dX6_isSheet_5 rfl iconst_4 ?_
    refine s_icmp_ge (pc' := 9) (tgt := 13) dX6_isSheet_6 rfl (by decide) (fun c4 => ?_) (fun c4 => ?_)
    · refine s_iconst (pc' := 14) dX6_isSheet_13 rfl iconst_0 ?_
      refine s_iret dX6_isSheet_14 rfl (by decide) ?_
      simpa [shB, c3, c4] using K
    · refine s_iconst (pc' := 10) dX6_isSheet_9 rfl iconst_1 ?_
      refine s_goto (tgt := 14) dX6_isSheet_10 (by decide) ?_
      refine s_iret dX6_isSheet_14 rfl (by decide) ?_
      simpa [shB, c3, c4] using K
theorem c_X6_isSheet {z : Zz} {d kc ks : Nat} {mi : MI} {pc pc' : Nat} {L S : List Value} {Q : Option Value → Lay → Mem → Prop} {lay : Lay} {mem : Mem} {v : Int32} {idx : Nat} (hd : decode mi.2.1 pc = .ok (.invokestatic idx, 3)) (hp : pc + 3 = pc') (hlk : Cond.methodLink mi.1.cls idx yX6_isSheet ∈ wok) (hdd : 0 + 1 ≤ d) (hcat : (S.map (fun v => v.category)).sum ≤ 8)  (K :  Sim z d kc ks mi pc' L (.int (shB v) :: S) lay mem Q) : Sim z d kc ks mi pc L (.int v :: S) (lay) mem Q :=
  s_invS (d2 := 0) hd hp okX6_isSheet hlk stX6_isSheet hdd (Nat.zero_add _) (Nat.zero_add _) rfl rfl hcat (Nat.le_of_ble_eq_true rfl) (m_X6_isSheet (Nat.le_refl _)  K)
def pcB (v n : Int32) : Int32 := if v < 0 then 0 else if n ≤ v then 0 else 1
set_option maxHeartbeats 4000000 in
theorem m_X6_isPiece {z : Zz} {d : Nat} {Q : Option Value → Lay → Mem → Prop} {rf : Nat → Value} {tl : Lay} {mem : Mem}  {v : Int32} (hdd : 0 ≤ d)  (K :  Q (some (.int (pcB v (mem 10 8)))) (LAY rf tl) mem) : Sim z d 0 0 mX6_isPiece 0 [.ref 0, .int v] [] (LAY rf tl) mem Q := by
  refine s_iload_n (pc' := 1) dX6_isPiece_0 rfl lg1 ?_
  refine s_if_lt (pc' := 4) (tgt := 19) dX6_isPiece_1 rfl (by decide) (fun c5 => ?_) (fun c5 => ?_)
  · refine s_iconst (pc' := 20) dX6_isPiece_19 rfl iconst_0 ?_
    refine s_iret dX6_isPiece_20 rfl (by decide) ?_
    simpa [pcB, c5] using K
  · refine s_iload_n (pc' := 5) dX6_isPiece_4 rfl lg1 ?_
    refine s_aload_n (pc' := 6) dX6_isPiece_5 rfl lg0 rfl ?_
    refine s_getRv (pc' := 9) (v := .ref 10) dX6_isPiece_6 rfl flX6_28 ly0 (by decide) rfl rfl ?_
    refine s_getI (pc' := 12) dX6_isPiece_9 rfl flX6_189 ly10 (by decide) rfl ?_
    refine s_icmp_ge (pc' := 15) (tgt := 19) dX6_isPiece_12 rfl (by decide) (fun c6 => ?_) (fun c6 => ?_)
    · refine s_iconst (pc' := 20) dX6_isPiece_19 rfl iconst_0 ?_
      refine s_iret dX6_isPiece_20 rfl (by decide) ?_
      simpa [pcB, c5, c6] using K
    · refine s_iconst (pc' := 16) dX6_isPiece_15 rfl iconst_1 ?_
      refine s_goto (tgt := 20) dX6_isPiece_16 (by decide) ?_
      refine s_iret dX6_isPiece_20 rfl (by decide) ?_
      simpa [pcB, c5, c6] using K
theorem c_X6_isPiece {z : Zz} {d kc ks : Nat} {mi : MI} {pc pc' : Nat} {L S : List Value} {Q : Option Value → Lay → Mem → Prop} {rf : Nat → Value} {tl : Lay} {mem : Mem}  {v : Int32} {idx : Nat} (hd : decode mi.2.1 pc = .ok (.invokevirtual idx, 3)) (hp : pc + 3 = pc') (hlk : Cond.methodLink mi.1.cls idx yX6_isPiece ∈ wok) (hdd : 0 + 1 ≤ d) (hcat : (S.map (fun v => v.category)).sum ≤ 8)  (K :  Sim z d kc ks mi pc' L (.int (pcB v (mem 10 8)) :: S) (LAY rf tl) mem Q) : Sim z d kc ks mi pc L (.int v :: .ref 0 :: S) (LAY rf tl) mem Q :=
  s_invV (d2 := 0) hd hp okX6_isPiece hlk inX6_isPiece seX6_isPiece hdd (Nat.zero_add _) (Nat.zero_add _) rfl rfl ly0 rfl hcat (Nat.le_of_ble_eq_true rfl) (m_X6_isPiece (Nat.le_refl _)  K)
def twB (v w n : Int32) : Int32 := if pcB v n = 0 then 0 else if pcB w n = 0 then 0 else if v = w then 0 else 1
set_option maxHeartbeats 4000000 in
theorem m_X6_areTwo {z : Zz} {d : Nat} {Q : Option Value → Lay → Mem → Prop} {rf : Nat → Value} {tl : Lay} {mem : Mem}  {v w : Int32} (hdd : 1 ≤ d)  (K :  Q (some (.int (twB v w (mem 10 8)))) (LAY rf tl) mem) : Sim z d 0 0 mX6_areTwo 0 [.ref 0, .int v, .int w] [] (LAY rf tl) mem Q := by
  refine s_aload_n (pc' := 1) dX6_areTwo_0 rfl lg0 rfl ?_
  refine s_iload_n (pc' := 2) dX6_areTwo_1 rfl lg1 ?_
  refine c_X6_isPiece (pc' := 5) dX6_areTwo_2 rfl lkX6_60 (by omega) (Nat.le_of_ble_eq_true rfl)  ?_
  refine s_if_eq (pc' := 8) (tgt := 25) dX6_areTwo_5 rfl (by decide) (fun c7 => ?_) (fun c7 => ?_)
  · refine s_iconst (pc' := 26) dX6_areTwo_25 rfl iconst_0 ?_
    refine s_iret dX6_areTwo_26 rfl (by decide) ?_
    simpa [twB, c7] using K
  · refine s_aload_n (pc' := 9) dX6_areTwo_8 rfl lg0 rfl ?_
    refine s_iload_n (pc' := 10) dX6_areTwo_9 rfl lg2 ?_
    refine c_X6_isPiece (pc' := 13) dX6_areTwo_10 rfl lkX6_60 (by omega) (Nat.le_of_ble_eq_true rfl)  ?_
    refine s_if_eq (pc' := 16) (tgt := 25) dX6_areTwo_13 rfl (by decide) (fun c8 => ?_) (fun c8 => ?_)
    · refine s_iconst (pc' := 26) dX6_areTwo_25 rfl iconst_0 ?_
      refine s_iret dX6_areTwo_26 rfl (by decide) ?_
      simpa [twB, c7, c8] using K
    · refine s_iload_n (pc' := 17) dX6_areTwo_16 rfl lg1 ?_
      refine s_iload_n (pc' := 18) dX6_areTwo_17 rfl lg2 ?_
      refine s_icmp_eq (pc' := 21) (tgt := 25) dX6_areTwo_18 rfl (by decide) (fun c9 => ?_) (fun c9 => ?_)
      · refine s_iconst (pc' := 26) dX6_areTwo_25 rfl iconst_0 ?_
        refine s_iret dX6_areTwo_26 rfl (by decide) ?_
        simpa [twB, c7, c8, c9] using K
      · refine s_iconst (pc' := 22) dX6_areTwo_21 rfl iconst_1 ?_
        refine s_goto (tgt := 26) dX6_areTwo_22 (by decide) ?_
        refine s_iret dX6_areTwo_26 rfl (by decide) ?_
        simpa [twB, c7, c8, c9] using K
theorem c_X6_areTwo {z : Zz} {d kc ks : Nat} {mi : MI} {pc pc' : Nat} {L S : List Value} {Q : Option Value → Lay → Mem → Prop} {rf : Nat → Value} {tl : Lay} {mem : Mem}  {v w : Int32} {idx : Nat} (hd : decode mi.2.1 pc = .ok (.invokevirtual idx, 3)) (hp : pc + 3 = pc') (hlk : Cond.methodLink mi.1.cls idx yX6_areTwo ∈ wok) (hdd : 1 + 1 ≤ d) (hcat : (S.map (fun v => v.category)).sum ≤ 8)  (K :  Sim z d kc ks mi pc' L (.int (twB v w (mem 10 8)) :: S) (LAY rf tl) mem Q) : Sim z d kc ks mi pc L (.int w :: .int v :: .ref 0 :: S) (LAY rf tl) mem Q :=
  s_invV (d2 := 1) hd hp okX6_areTwo hlk inX6_areTwo seX6_areTwo hdd (Nat.zero_add _) (Nat.zero_add _) rfl rfl ly0 rfl hcat (Nat.le_of_ble_eq_true rfl) (m_X6_areTwo (Nat.le_refl _)  K)

