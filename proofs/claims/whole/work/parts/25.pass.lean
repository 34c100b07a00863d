/-! ===== Shore: which clash; a tide ===== -/
def uB (σ : Nat → Nat → Int32) (td : Int32) (P : Nat → List Int32) (p q : Nat) : Int32 := if clB σ td P p q = 0 then (if clB σ td P q p = 0 then 0 else 1) else 1
set_option maxHeartbeats 4000000 in
theorem m_X3_isApartByClash {z : Zz} {d : Nat} {Q : Option Value → Lay → Mem → Prop} {rf : Nat → Value} {tl : Lay} {mem : Mem}  {b n p q w nt : Nat} {σ : Nat → Nat → Int32} {td : Int32} {T : Nat → Nat → List Int32} (hdd : 5 ≤ d) (hb : ISh b) (hS : isS b mem σ n td (nI w)) (hpn : p < n) (hqn : q < n) (hT : isTT rf tl mem nt T) (hw : w < nt) (K : ∀ mem', scr mem mem' → Q (some (.int (uB σ td (T w) p q))) (LAY rf tl) mem') : Sim z d 0 0 mX3_isApartByClash 0 [.ref b, .int (nI p), .int (nI q)] [] (LAY rf tl) mem Q := by
  refine s_aload_n (pc' := 1) dX3_isApartByClash_0 rfl lg0 rfl ?_
  refine s_iload_n (pc' := 2) dX3_isApartByClash_1 rfl lg1 ?_
  refine s_iload_n (pc' := 3) dX3_isApartByClash_2 rfl lg2 ?_
  refine c_X3_isClashing (pc' := 6) dX3_isApartByClash_3 rfl lkX3_109 (by omega) (Nat.le_of_ble_eq_true rfl) hb hS hpn hqn hT hw (fun m1 s1 => ?_)
  refine s_if_ne (pc' := 9) (tgt := 18) dX3_isApartByClash_6 rfl (by decide) (fun cc => ?_) (fun cc => ?_)
  · skip
    have K2 := K m1 s1
    refine s_iconst (pc' := 19) dX3_isApartByClash_18 rfl iconst_1 ?_
    refine s_goto (tgt := 23) dX3_isApartByClash_19 (by decide) ?_
    refine s_iret dX3_isApartByClash_23 rfl (by decide) ?_
    (simpa [uB, cc] using K2)
  · skip
    refine s_aload_n (pc' := 10) dX3_isApartByClash_9 rfl lg0 rfl ?_
    refine s_iload_n (pc' := 11) dX3_isApartByClash_10 rfl lg2 ?_
    refine s_iload_n (pc' := 12) dX3_isApartByClash_11 rfl lg1 ?_
    refine c_X3_isClashing (pc' := 15) dX3_isApartByClash_12 rfl lkX3_109 (by omega) (Nat.le_of_ble_eq_true rfl) hb (hS.scr hb s1) hqn hpn (hT.scr s1) hw (fun m2 s2 => ?_)
    have K2 := K m2 (s1.tr s2)
    refine s_if_eq (pc' := 18) (tgt := 22) dX3_isApartByClash_15 rfl (by decide) (fun c1 => ?_) (fun c1 => ?_)
    · refine s_iconst (pc' := 23) dX3_isApartByClash_22 rfl iconst_0 ?_
      refine s_iret dX3_isApartByClash_23 rfl (by decide) ?_
      (simpa [uB, cc, c1] using K2)
    · refine s_iconst (pc' := 19) dX3_isApartByClash_18 rfl iconst_1 ?_
      refine s_goto (tgt := 23) dX3_isApartByClash_19 (by decide) ?_
      refine s_iret dX3_isApartByClash_23 rfl (by decide) ?_
      (simpa [uB, cc, c1] using K2)
theorem c_X3_isApartByClash {z : Zz} {d kc ks : Nat} {mi : MI} {pc pc' : Nat} {L S : List Value} {Q : Option Value → Lay → Mem → Prop} {rf : Nat → Value} {tl : Lay} {mem : Mem}  {b n p q w nt : Nat} {σ : Nat → Nat → Int32} {td : Int32} {T : Nat → Nat → List Int32} {idx : Nat} (hd : decode mi.2.1 pc = .ok (.invokevirtual idx, 3)) (hp : pc + 3 = pc') (hlk : Cond.methodLink mi.1.cls idx yX3_isApartByClash ∈ wok) (hdd : 5 + 1 ≤ d) (hcat : (S.map (fun v => v.category)).sum ≤ 8) (hb : ISh b) (hS : isS b mem σ n td (nI w)) (hpn : p < n) (hqn : q < n) (hT : isTT rf tl mem nt T) (hw : w < nt) (K : ∀ mem', scr mem mem' → Sim z d kc ks mi pc' L (.int (uB σ td (T w) p q) :: S) (LAY rf tl) mem' Q) : Sim z d kc ks mi pc L (.int (nI q) :: .int (nI p) :: .ref b :: S) (LAY rf tl) mem Q :=
  s_invV (d2 := 5) hd hp okX3_isApartByClash hlk inX3_isApartByClash seX3_isApartByClash hdd (Nat.zero_add _) (Nat.zero_add _) rfl rfl (lyS hb) rfl hcat (Nat.le_of_ble_eq_true rfl) (m_X3_isApartByClash (Nat.le_refl _) hb hS hpn hqn hT hw K)
set_option maxHeartbeats 4000000 in
theorem m_X3_whichClash {z : Zz} {d : Nat} {Q : Option Value → Lay → Mem → Prop} {rf : Nat → Value} {tl : Lay} {mem : Mem}  {b n p w nt : Nat} {σ : Nat → Nat → Int32} {td : Int32} {T : Nat → Nat → List Int32} (hdd : 5 ≤ d) (hb : ISh b) (hS : isS b mem σ n td (nI w)) (hpn : p < n) (hT : isTT rf tl mem nt T) (hw : w < nt) (K : ∀ mem', scr mem mem' → Q (some (.int (bo (fun i => !decide (i = p) && !decide (clB σ td (T w) p i = 0)) n))) (LAY rf tl) mem') : Sim z d 0 0 mX3_whichClash 0 [.ref b, .int (nI p), .float 0, .float 0] [] (LAY rf tl) mem Q := by
  have h8 := hS.2.1
  refine s_iconst (pc' := 1) dX3_whichClash_0 rfl iconst_0 ?_
  refine s_istore_n (pc' := 2) dX3_whichClash_1 rfl (Nat.le_of_ble_eq_true rfl) rfl ls2 ?_
  refine s_iconst (pc' := 3) dX3_whichClash_2 rfl iconst_0 ?_
  refine s_istore_n (pc' := 4) dX3_whichClash_3 rfl (Nat.le_of_ble_eq_true rfl) rfl ls3 ?_
  have loop : ∀ (k i : Nat) (a : Int32) (m : Mem), i + k = n → a = bo (fun i => !decide (i = p) && !decide (clB σ td (T w) p i = 0)) i → scr mem m → Sim z d 0 0 mX3_whichClash 4 [.ref b, .int (nI p), .int a, .int (nI i)] [] (LAY rf tl) m Q := by
    intro k
    induction k with
    | zero =>
      intro i a m hi ha hm
      have hn := (hS.scr hb hm).1
      refine s_iload_n (pc' := 5) dX3_whichClash_4 rfl lg3 ?_
      refine s_aload_n (pc' := 6) dX3_whichClash_5 rfl lg0 rfl ?_
      refine s_getI (pc' := 9) dX3_whichClash_6 rfl flX3_33 (lyS hb) (by decide) rfl ?_
      refine s_icmp_ge (pc' := 12) (tgt := 38) dX3_whichClash_9 rfl (by decide) (fun _ => ?_) (fun c9 => absurd (by rw [hn]; exact nI_le (by omega) (by omega)) c9)
      refine s_iload_n (pc' := 39) dX3_whichClash_38 rfl lg2 ?_
      refine s_iret dX3_whichClash_39 rfl (vp_nar_int _) ?_
      have : i = n := by omega
      rw [ha, this]; exact K m hm
    | succ k ih =>
      intro i a m hi ha hm
      have hSm := hS.scr hb hm
      have hn := hSm.1
      refine s_iload_n (pc' := 5) dX3_whichClash_4 rfl lg3 ?_
      refine s_aload_n (pc' := 6) dX3_whichClash_5 rfl lg0 rfl ?_
      refine s_getI (pc' := 9) dX3_whichClash_6 rfl flX3_33 (lyS hb) (by decide) rfl ?_
      refine s_icmp_ge (pc' := 12) (tgt := 38) dX3_whichClash_9 rfl (by decide) (fun c9 => absurd c9 (by rw [hn]; exact nI_ge (by omega) (by omega))) (fun _ => ?_)
      refine s_iload_n (pc' := 13) dX3_whichClash_12 rfl lg3 ?_
      refine s_iload_n (pc' := 14) dX3_whichClash_13 rfl lg1 ?_
      refine s_icmp_eq (pc' := 17) (tgt := 32) dX3_whichClash_14 rfl (by decide) (fun c1 => ?_) (fun c1 => ?_)
      · skip
        rw [nI_eqN (by omega) (by omega)] at c1
        refine s_iincN (pc' := 35) dX3_whichClash_32 rfl lg3 rfl ls3 ?_
        refine s_goto (tgt := 4) dX3_whichClash_35 (by decide) ?_
        exact ih (i + 1) _ m (by omega) (by simp [bo, ha, c1]) hm
      · skip
        rw [nI_eqN (by omega) (by omega)] at c1
        refine s_aload_n (pc' := 18) dX3_whichClash_17 rfl lg0 rfl ?_
        refine s_iload_n (pc' := 19) dX3_whichClash_18 rfl lg1 ?_
        refine s_iload_n (pc' := 20) dX3_whichClash_19 rfl lg3 ?_
        refine c_X3_isClashing (pc' := 23) dX3_whichClash_20 rfl lkX3_109 (by omega) (Nat.le_of_ble_eq_true rfl) hb hSm hpn (by omega) (hT.scr hm) hw (fun m1 s1 => ?_)
        refine s_if_eq (pc' := 26) (tgt := 32) dX3_whichClash_23 rfl (by decide) (fun c2 => ?_) (fun c2 => ?_)
        · refine s_iincN (pc' := 35) dX3_whichClash_32 rfl lg3 rfl ls3 ?_
          refine s_goto (tgt := 4) dX3_whichClash_35 (by decide) ?_
          exact ih (i + 1) _ m1 (by omega) (by simp [bo, ha, c1, c2]) (hm.tr s1)
        · refine s_iload_n (pc' := 27) dX3_whichClash_26 rfl lg2 ?_
          refine s_iconst (pc' := 28) dX3_whichClash_27 rfl iconst_1 ?_
          refine s_iload_n (pc' := 29) dX3_whichClash_28 rfl lg3 ?_
          refine s_ishl (pc' := 30) dX3_whichClash_29 rfl ?_
          refine s_ior (pc' := 31) dX3_whichClash_30 rfl ?_
          refine s_istore_n (pc' := 32) dX3_whichClash_31 rfl (Nat.le_of_ble_eq_true rfl) rfl ls2 ?_
          refine s_iincN (pc' := 35) dX3_whichClash_32 rfl lg3 rfl ls3 ?_
          refine s_goto (tgt := 4) dX3_whichClash_35 (by decide) ?_
          exact ih (i + 1) _ m1 (by omega) (by simp [bo, ha, c1, c2]) (hm.tr s1)
  exact loop n 0 0 mem (by omega) rfl scr.rf
theorem c_X3_whichClash {z : Zz} {d kc ks : Nat} {mi : MI} {pc pc' : Nat} {L S : List Value} {Q : Option Value → Lay → Mem → Prop} {rf : Nat → Value} {tl : Lay} {mem : Mem}  {b n p w nt : Nat} {σ : Nat → Nat → Int32} {td : Int32} {T : Nat → Nat → List Int32} {idx : Nat} (hd : decode mi.2.1 pc = .ok (.invokevirtual idx, 3)) (hp : pc + 3 = pc') (hlk : Cond.methodLink mi.1.cls idx yX3_whichClash ∈ wok) (hdd : 5 + 1 ≤ d) (hcat : (S.map (fun v => v.category)).sum ≤ 8) (hb : ISh b) (hS : isS b mem σ n td (nI w)) (hpn : p < n) (hT : isTT rf tl mem nt T) (hw : w < nt) (K : ∀ mem', scr mem mem' → Sim z d kc ks mi pc' L (.int (bo (fun i => !decide (i = p) && !decide (clB σ td (T w) p i = 0)) n) :: S) (LAY rf tl) mem' Q) : Sim z d kc ks mi pc L (.int (nI p) :: .ref b :: S) (LAY rf tl) mem Q :=
  s_invV (d2 := 5) hd hp okX3_whichClash hlk inX3_whichClash seX3_whichClash hdd (Nat.zero_add _) (Nat.zero_add _) rfl rfl (lyS hb) rfl hcat (Nat.le_of_ble_eq_true rfl) (m_X3_whichClash (Nat.le_refl _) hb hS hpn hT hw K)
def rs (f : Nat → Nat → Bool) (n : Nat) : Nat → Nat
  | 0 => 0
  | i + 1 => rs f n i + (ct (f i) n - ct (f i) (i + 1))
set_option maxHeartbeats 4000000 in
theorem m_X3_howManyApartByClash {z : Zz} {d : Nat} {Q : Option Value → Lay → Mem → Prop} {rf : Nat → Value} {tl : Lay} {mem : Mem}  {b n w nt : Nat} {σ : Nat → Nat → Int32} {td : Int32} {T : Nat → Nat → List Int32} (hdd : 6 ≤ d) (hb : ISh b) (hS : isS b mem σ n td (nI w)) (hT : isTT rf tl mem nt T) (hw : w < nt) (K : ∀ mem', scr mem mem' → Q (some (.int (nI (rs (fun i j => !decide (uB σ td (T w) i j = 0)) n n)))) (LAY rf tl) mem') : Sim z d 0 0 mX3_howManyApartByClash 0 [.ref b, .float 0, .float 0, .float 0] [] (LAY rf tl) mem Q := by
  have h8 := hS.2.1
  have inner : ∀ (i : Nat) (k j a s : Nat) (x : Value) (m : Mem), j + k = n → i < j → a + ct (fun j => !decide (uB σ td (T w) i j = 0)) (i + 1) = s + ct (fun j => !decide (uB σ td (T w) i j = 0)) j → scr mem m → (∀ a m, a + ct (fun j => !decide (uB σ td (T w) i j = 0)) (i + 1) = s + ct (fun j => !decide (uB σ td (T w) i j = 0)) n → scr mem m → Sim z d 0 0 mX3_howManyApartByClash 42 [.ref b, .int (nI a), .int (nI i), .int (nI n)] [] (LAY rf tl) m Q) → Sim z d 0 0 mX3_howManyApartByClash 16 [.ref b, .int (nI a), .int (nI i), .int (nI j)] [] (LAY rf tl) m Q := by
    intro i k
    induction k with
    | zero =>
      intro j a s x m hj hij ha hm KK
      have hn := (hS.scr hb hm).1
      refine s_iload_n (pc' := 17) dX3_howManyApartByClash_16 rfl lg3 ?_
      refine s_aload_n (pc' := 18) dX3_howManyApartByClash_17 rfl lg0 rfl ?_
      refine s_getI (pc' := 21) dX3_howManyApartByClash_18 rfl flX3_33 (lyS hb) (by decide) rfl ?_
      refine s_icmp_ge (pc' := 24) (tgt := 42) dX3_howManyApartByClash_21 rfl (by decide) (fun _ => ?_) (fun c9 => absurd (by rw [hn]; exact nI_le (by omega) (by omega)) c9)
      have : j = n := by omega
      subst this
      exact KK a m ha hm
    | succ k ih =>
      intro j a s x m hj hij ha hm KK
      have hSm := hS.scr hb hm
      have hn := hSm.1
      refine s_iload_n (pc' := 17) dX3_howManyApartByClash_16 rfl lg3 ?_
      refine s_aload_n (pc' := 18) dX3_howManyApartByClash_17 rfl lg0 rfl ?_
      refine s_getI (pc' := 21) dX3_howManyApartByClash_18 rfl flX3_33 (lyS hb) (by decide) rfl ?_
      refine s_icmp_ge (pc' := 24) (tgt := 42) dX3_howManyApartByClash_21 rfl (by decide) (fun c9 => absurd c9 (by rw [hn]; exact nI_ge (by omega) (by omega))) (fun _ => ?_)
      refine s_aload_n (pc' := 25) dX3_howManyApartByClash_24 rfl lg0 rfl ?_
      refine s_iload_n (pc' := 26) dX3_howManyApartByClash_25 rfl lg2 ?_
      refine s_iload_n (pc' := 27) dX3_howManyApartByClash_26 rfl lg3 ?_
      refine c_X3_isApartByClash (pc' := 30) dX3_howManyApartByClash_27 rfl lkX3_112 (by omega) (Nat.le_of_ble_eq_true rfl) hb hSm (by omega) (by omega) (hT.scr hm) hw (fun m1 s1 => ?_)
      refine s_if_eq (pc' := 33) (tgt := 36) dX3_howManyApartByClash_30 rfl (by decide) (fun c3 => ?_) (fun c3 => ?_)
      · refine s_iincN (pc' := 39) dX3_howManyApartByClash_36 rfl lg3 rfl ls3 ?_
        refine s_goto (tgt := 16) dX3_howManyApartByClash_39 (by decide) ?_
        exact ih (j + 1) _ s x m1 (by omega) (by omega) (by simp [ct, c3] at ha ⊢; omega) (hm.tr s1) KK
      · refine s_iincN (pc' := 36) dX3_howManyApartByClash_33 rfl lg1 rfl ls1 ?_
        refine s_iincN (pc' := 39) dX3_howManyApartByClash_36 rfl lg3 rfl ls3 ?_
        refine s_goto (tgt := 16) dX3_howManyApartByClash_39 (by decide) ?_
        exact ih (j + 1) _ s x m1 (by omega) (by omega) (by simp [ct, c3] at ha ⊢; omega) (hm.tr s1) KK
  refine s_iconst (pc' := 1) dX3_howManyApartByClash_0 rfl iconst_0 ?_
  refine s_istore_n (pc' := 2) dX3_howManyApartByClash_1 rfl (Nat.le_of_ble_eq_true rfl) rfl ls1 ?_
  refine s_iconst (pc' := 3) dX3_howManyApartByClash_2 rfl iconst_0 ?_
  refine s_istore_n (pc' := 4) dX3_howManyApartByClash_3 rfl (Nat.le_of_ble_eq_true rfl) rfl ls2 ?_
  have loop : ∀ (k i a : Nat) (x : Value) (m : Mem), i + k = n → a = rs (fun i j => !decide (uB σ td (T w) i j = 0)) n i → scr mem m → Sim z d 0 0 mX3_howManyApartByClash 4 [.ref b, .int (nI a), .int (nI i), x] [] (LAY rf tl) m Q := by
    intro k
    induction k with
    | zero =>
      intro i a x m hi ha hm
      have hn := (hS.scr hb hm).1
      refine s_iload_n (pc' := 5) dX3_howManyApartByClash_4 rfl lg2 ?_
      refine s_aload_n (pc' := 6) dX3_howManyApartByClash_5 rfl lg0 rfl ?_
      refine s_getI (pc' := 9) dX3_howManyApartByClash_6 rfl flX3_33 (lyS hb) (by decide) rfl ?_
      refine s_icmp_ge (pc' := 12) (tgt := 48) dX3_howManyApartByClash_9 rfl (by decide) (fun _ => ?_) (fun c9 => absurd (by rw [hn]; exact nI_le (by omega) (by omega)) c9)
      refine s_iload_n (pc' := 49) dX3_howManyApartByClash_48 rfl lg1 ?_
      refine s_iret dX3_howManyApartByClash_49 rfl (vp_nar_int _) ?_
      have : i = n := by omega
      rw [ha, this]; exact K m hm
    | succ k ih =>
      intro i a x m hi ha hm
      have hSm := hS.scr hb hm
      have hn := hSm.1
      refine s_iload_n (pc' := 5) dX3_howManyApartByClash_4 rfl lg2 ?_
      refine s_aload_n (pc' := 6) dX3_howManyApartByClash_5 rfl lg0 rfl ?_
      refine s_getI (pc' := 9) dX3_howManyApartByClash_6 rfl flX3_33 (lyS hb) (by decide) rfl ?_
      refine s_icmp_ge (pc' := 12) (tgt := 48) dX3_howManyApartByClash_9 rfl (by decide) (fun c9 => absurd c9 (by rw [hn]; exact nI_ge (by omega) (by omega))) (fun _ => ?_)
      refine s_iload_n (pc' := 13) dX3_howManyApartByClash_12 rfl lg2 ?_
      refine s_iconst (pc' := 14) dX3_howManyApartByClash_13 rfl iconst_1 ?_
      refine s_iadd (pc' := 15) dX3_howManyApartByClash_14 rfl ?_
      rw [nI_1]
      refine s_istore_n (pc' := 16) dX3_howManyApartByClash_15 rfl (Nat.le_of_ble_eq_true rfl) rfl ls3 ?_
      refine inner i (n - (i + 1)) (i + 1) a a .null m (by omega) (by omega) rfl hm (fun a2 m2 h2 hm2 => ?_)
      refine s_iincN (pc' := 45) dX3_howManyApartByClash_42 rfl lg2 rfl ls2 ?_
      refine s_goto (tgt := 4) dX3_howManyApartByClash_45 (by decide) ?_
      refine ih (i + 1) a2 _ m2 (by omega) ?_ hm2
      have := ct_mono (fun j => !decide (uB σ td (T w) i j = 0)) (show i + 1 ≤ n by omega)
      rw [rs, ← ha]
      omega
  exact loop n 0 0 _ mem (by omega) rfl scr.rf
theorem c_X3_howManyApartByClash {z : Zz} {d kc ks : Nat} {mi : MI} {pc pc' : Nat} {L S : List Value} {Q : Option Value → Lay → Mem → Prop} {rf : Nat → Value} {tl : Lay} {mem : Mem}  {b n w nt : Nat} {σ : Nat → Nat → Int32} {td : Int32} {T : Nat → Nat → List Int32} {idx : Nat} (hd : decode mi.2.1 pc = .ok (.invokevirtual idx, 3)) (hp : pc + 3 = pc') (hlk : Cond.methodLink mi.1.cls idx yX3_howManyApartByClash ∈ wok) (hdd : 6 + 1 ≤ d) (hcat : (S.map (fun v => v.category)).sum ≤ 8) (hb : ISh b) (hS : isS b mem σ n td (nI w)) (hT : isTT rf tl mem nt T) (hw : w < nt) (K : ∀ mem', scr mem mem' → Sim z d kc ks mi pc' L (.int (nI (rs (fun i j => !decide (uB σ td (T w) i j = 0)) n n)) :: S) (LAY rf tl) mem' Q) : Sim z d kc ks mi pc L (.ref b :: S) (LAY rf tl) mem Q :=
  s_invV (d2 := 6) hd hp okX3_howManyApartByClash hlk inX3_howManyApartByClash seX3_howManyApartByClash hdd (Nat.zero_add _) (Nat.zero_add _) rfl rfl (lyS hb) rfl hcat (Nat.le_of_ble_eq_true rfl) (m_X3_howManyApartByClash (Nat.le_refl _) hb hS hT hw K)
def wrn (σ : Nat → Nat → Int32) (n : Nat) (td : Int32) (P : Nat → List Int32) (i : Nat) : Int32 := if σ 2 i = 0 then 0 else wears σ n td P i
/-- the shore behind a tide -/
def pas (σ : Nat → Nat → Int32) (n : Nat) (td : Int32) (P : Nat → List Int32) (w i : Nat) : Int32 := if w = 2 then mxI 0 (σ 2 i - wrn σ n td P i) else if w = 3 then fmI (σ 3 i + carr σ td P i) 12 else σ w i
def frm (b : Nat) (mem mem' : Mem) : Prop := ∀ j, j ≠ 3 → j ≠ 4 → (j < b ∨ b + 7 < j) → mem' j = mem j
theorem ish_lt {b : Nat} (hb : ISh b) : 10 ≤ b ∧ b ≤ 26 := by rcases hb with rfl | rfl | rfl <;> omega
set_option maxHeartbeats 4000000 in
theorem m_X3_passes {z : Zz} {d : Nat} {Q : Option Value → Lay → Mem → Prop} {rf : Nat → Value} {tl : Lay} {mem : Mem}  {b n w nt : Nat} {σ : Nat → Nat → Int32} {td : Int32} {T : Nat → Nat → List Int32} (hdd : 3 ≤ d) (hb : ISh b) (hS : isS b mem σ n td (nI w)) (hT : isTT rf tl mem nt T) (hw : w < nt) (K : ∀ mem', isS b mem' (pas σ n td (T w)) n (td + 1) (nI w) → frm b mem mem' → Q none (LAY rf tl) mem') : Sim z d 0 0 mX3_passes 0 [.ref b, .float 0] [] (LAY rf tl) mem Q := by
  have h8 := hS.2.1
  have hbl := ish_lt hb
  have second : ∀ (k i : Nat) (m1 m : Mem), i + k = n → isS b m1 σ n td (nI w) → (∀ k, k < n → m1 (b + 6) k = wrn σ n td (T w) k ∧ m1 (b + 7) k = carr σ td (T w) k) → frm b mem m1 → (∀ j, j ≠ b + 2 → j ≠ b + 3 → m j = m1 j) → (∀ k, k < i → m (b + 2) k = pas σ n td (T w) 2 k ∧ m (b + 3) k = pas σ n td (T w) 3 k) → (∀ k, i ≤ k → m (b + 2) k = m1 (b + 2) k ∧ m (b + 3) k = m1 (b + 3) k) → Sim z d 0 0 mX3_passes 53 [.ref b, .int (nI i)] [] (LAY rf tl) m Q := by
    intro k
    induction k with
    | zero =>
      intro i m1 m hi hS1 hwc hfr hm hlo hhi
      have hn : m b 8 = nI n := by rw [hm b (by omega) (by omega)]; exact hS1.1
      refine s_iload_n (pc' := 54) dX3_passes_53 rfl lg1 ?_
      refine s_aload_n (pc' := 55) dX3_passes_54 rfl lg0 rfl ?_
      refine s_getI (pc' := 58) dX3_passes_55 rfl flX3_33 (lyS hb) (by decide) rfl ?_
      refine s_icmp_ge (pc' := 61) (tgt := 114) dX3_passes_58 rfl (by decide) (fun _ => ?_) (fun c9 => absurd (by rw [hn]; exact nI_le (by omega) (by omega)) c9)
      refine s_aload_n (pc' := 115) dX3_passes_114 rfl lg0 rfl ?_
      refine s_dup (pc' := 116) dX3_passes_115 rfl rfl ?_
      refine s_getI (pc' := 119) dX3_passes_116 rfl flX3_37 (lyS hb) (by decide) rfl ?_
      refine s_iconst (pc' := 120) dX3_passes_119 rfl iconst_1 ?_
      refine s_iadd (pc' := 121) dX3_passes_120 rfl ?_
      refine s_putI (pc' := 124) (ty := .int) dX3_passes_121 rfl flX3_37 fw3_9 pdI rfl rfl (lyS hb) (by decide) rfl ?_
      refine s_vret dX3_passes_124 rfl ?_
      obtain ⟨a1, a2, a3, a4, a5⟩ := hS1
      refine K _ ⟨?_, h8, ?_, ?_, fun k hk => ?_⟩ (fun j h3 h4 hj => ?_)
      · simp [am_up, upd, hn]
      · simp [am_up, upd, hm b (by omega) (by omega), a3]
      · simp [am_up, upd, hm b (by omega) (by omega), a4]
      · obtain ⟨f0, f1, f2, f3, f4⟩ := a5 k hk
        obtain ⟨g2, g3⟩ := hlo k (by omega)
        refine ⟨?_, ?_, ?_, ?_, ?_⟩
        · simp [am_up, hm (b + 5) (by omega) (by omega), f0, pas]
        · simp [am_up, hm (b + 1) (by omega) (by omega), f1, pas]
        · simp [am_up, g2]
        · simp [am_up, g3]
        · simp [am_up, hm (b + 4) (by omega) (by omega), f4, pas]
      · rw [show am_up m b 9 (m b 9 + 1) j = m j from if_neg (by omega), hm j (by omega) (by omega)]
        exact hfr j h3 h4 hj
    | succ k ih =>
      intro i m1 m hi hS1 hwc hfr hm hlo hhi
      have hn : m b 8 = nI n := by rw [hm b (by omega) (by omega)]; exact hS1.1
      obtain ⟨f0, f1, f2, f3, f4⟩ := hS1.2.2.2.2 i (by omega)
      obtain ⟨w6, w7⟩ := hwc i (by omega)
      have r2 : m (b + 2) i = σ 2 i := by rw [(hhi i (Nat.le_refl _)).1, f2]
      have r3 : m (b + 3) i = σ 3 i := by rw [(hhi i (Nat.le_refl _)).2, f3]
      refine s_iload_n (pc' := 54) dX3_passes_53 rfl lg1 ?_
      refine s_aload_n (pc' := 55) dX3_passes_54 rfl lg0 rfl ?_
      refine s_getI (pc' := 58) dX3_passes_55 rfl flX3_33 (lyS hb) (by decide) rfl ?_
      refine s_icmp_ge (pc' := 61) (tgt := 114) dX3_passes_58 rfl (by decide) (fun c9 => absurd c9 (by rw [hn]; exact nI_ge (by omega) (by omega))) (fun _ => ?_)
      refine s_aload_n (pc' := 62) dX3_passes_61 rfl lg0 rfl ?_
      refine s_getRv (pc' := 65) (v := .ref (b + 2)) dX3_passes_62 rfl flX3_15 (lyS hb) (by decide) rfl rfl ?_
      refine s_iload_n (pc' := 66) dX3_passes_65 rfl lg1 ?_
      refine s_iconst (pc' := 67) dX3_passes_66 rfl iconst_0 ?_
      refine s_aload_n (pc' := 68) dX3_passes_67 rfl lg0 rfl ?_
      refine s_getRv (pc' := 71) (v := .ref (b + 2)) dX3_passes_68 rfl flX3_15 (lyS hb) (by decide) rfl rfl ?_
      refine s_iload_n (pc' := 72) dX3_passes_71 rfl lg1 ?_
      refine s_ialdNv (pc' := 73) (v := σ 2 i) dX3_passes_72 rfl (lyS2 hb) (by omega) (by decide) r2 ?_
      refine s_aload_n (pc' := 74) dX3_passes_73 rfl lg0 rfl ?_
      refine s_getRv (pc' := 77) (v := .ref (b + 6)) dX3_passes_74 rfl flX3_27 (lyS hb) (by decide) rfl rfl ?_
      refine s_iload_n (pc' := 78) dX3_passes_77 rfl lg1 ?_
      refine s_ialdNv (pc' := 79) (v := wrn σ n td (T w) i) dX3_passes_78 rfl (lyS6 hb) (by omega) (by decide) (by rw [hm _ (by omega) (by omega)]; exact w6) ?_
      refine s_isub (pc' := 80) dX3_passes_79 rfl ?_
      refine c_J9_max_7cf53 (pc' := 83) dX3_passes_80 rfl lkX3_67 (by omega) (Nat.le_of_ble_eq_true rfl)  ?_
      refine s_iastN (pc' := 84) dX3_passes_83 rfl (lyS2 hb) (by omega) (by decide) ?_
      refine s_aload_n (pc' := 85) dX3_passes_84 rfl lg0 rfl ?_
      refine s_getRv (pc' := 88) (v := .ref (b + 3)) dX3_passes_85 rfl flX3_18 (lyS hb) (by decide) rfl rfl ?_
      refine s_iload_n (pc' := 89) dX3_passes_88 rfl lg1 ?_
      refine s_aload_n (pc' := 90) dX3_passes_89 rfl lg0 rfl ?_
      refine s_getRv (pc' := 93) (v := .ref (b + 3)) dX3_passes_90 rfl flX3_18 (lyS hb) (by decide) rfl rfl ?_
      refine s_iload_n (pc' := 94) dX3_passes_93 rfl lg1 ?_
      refine s_ialdNv (pc' := 95) (v := σ 3 i) dX3_passes_94 rfl (lyS3 hb) (by omega) (by decide) (by simp [am_up, r3]) ?_
      refine s_aload_n (pc' := 96) dX3_passes_95 rfl lg0 rfl ?_
      refine s_getRv (pc' := 99) (v := .ref (b + 7)) dX3_passes_96 rfl flX3_30 (lyS hb) (by decide) rfl rfl ?_
      refine s_iload_n (pc' := 100) dX3_passes_99 rfl lg1 ?_
      refine s_ialdNv (pc' := 101) (v := carr σ td (T w) i) dX3_passes_100 rfl (lyS7 hb) (by omega) (by decide) (by simp [am_up]; rw [hm _ (by omega) (by omega)]; exact w7) ?_
      refine s_iadd (pc' := 102) dX3_passes_101 rfl ?_
      refine s_bipush (pc' := 104) dX3_passes_102 rfl bipush_12 ?_
      refine c_J9_floorMod_7cf53 (pc' := 107) dX3_passes_104 rfl lkX3_73 (by omega) (Nat.le_of_ble_eq_true rfl) (by decide) ?_
      refine s_iastN (pc' := 108) dX3_passes_107 rfl (lyS3 hb) (by omega) (by decide) ?_
      refine s_iincN (pc' := 111) dX3_passes_108 rfl lg1 rfl ls1 ?_
      refine s_goto (tgt := 53) dX3_passes_111 (by decide) ?_
      refine ih (i + 1) m1 _ (by omega) hS1 hwc hfr (fun j h2 h3 => ?_) (fun k hk => ?_) (fun k hk => ?_)
      · simp [am_up, h2, h3, hm j h2 h3]
      · by_cases hki : k = i
        · subst hki
          simp [am_up, upd, pas]
        · obtain ⟨g2, g3⟩ := hlo k (by omega)
          simp [am_up, upd, hki, g2, g3]
      · obtain ⟨g2, g3⟩ := hhi k (by omega)
        simp [am_up, upd, show ¬ k = i by omega, g2, g3]
  have first : ∀ (k i : Nat) (m : Mem), i + k = n → (∀ j, j ≠ 3 → j ≠ 4 → j ≠ b + 6 → j ≠ b + 7 → m j = mem j) → (∀ k, k < i → m (b + 6) k = wrn σ n td (T w) k ∧ m (b + 7) k = carr σ td (T w) k) → Sim z d 0 0 mX3_passes 2 [.ref b, .int (nI i)] [] (LAY rf tl) m Q := by
    intro k
    induction k with
    | zero =>
      intro i m hi hm hlo
      have hSm : isS b m σ n td (nI w) := hS.kept (fun j h1 h2 => hm j (by omega) (by omega) (by omega) (by omega))
      have hn := hSm.1
      refine s_iload_n (pc' := 3) dX3_passes_2 rfl lg1 ?_
      refine s_aload_n (pc' := 4) dX3_passes_3 rfl lg0 rfl ?_
      refine s_getI (pc' := 7) dX3_passes_4 rfl flX3_33 (lyS hb) (by decide) rfl ?_
      refine s_icmp_ge (pc' := 10) (tgt := 51) dX3_passes_7 rfl (by decide) (fun _ => ?_) (fun c9 => absurd (by rw [hn]; exact nI_le (by omega) (by omega)) c9)
      refine s_iconst (pc' := 52) dX3_passes_51 rfl iconst_0 ?_
      refine s_istore_n (pc' := 53) dX3_passes_52 rfl (Nat.le_of_ble_eq_true rfl) rfl ls1 ?_
      refine second n 0 m m (by omega) hSm (fun k hk => hlo k (by omega)) (fun j h3 h4 hj => hm j h3 h4 (by omega) (by omega)) (fun _ _ _ => rfl) (fun k hk => absurd hk (Nat.not_lt_zero k)) (fun k _ => ⟨rfl, rfl⟩)
    | succ k ih =>
      intro i m hi hm hlo
      have hSm : isS b m σ n td (nI w) := hS.kept (fun j h1 h2 => hm j (by omega) (by omega) (by omega) (by omega))
      have hTm : isTT rf tl m nt T := hT.kept (fun j hj => hm j (by omega) (by omega) (by omega) (by omega))
      have hn := hSm.1
      obtain ⟨f0, f1, f2, f3, f4⟩ := hSm.2.2.2.2 i (by omega)
      have rest : ∀ m1 : Mem, scr m m1 → Sim z d 0 0 mX3_passes 33 [.ref b, .int (nI i)] [.int (wrn σ n td (T w) i), .int (nI i), .ref (b + 6)] (LAY rf tl) m1 Q := by
        intro m1 s1
        refine s_iastN (pc' := 34) dX3_passes_33 rfl (lyS6 hb) (by omega) (by decide) ?_
        refine s_aload_n (pc' := 35) dX3_passes_34 rfl lg0 rfl ?_
        refine s_getRv (pc' := 38) (v := .ref (b + 7)) dX3_passes_35 rfl flX3_30 (lyS hb) (by decide) rfl rfl ?_
        refine s_iload_n (pc' := 39) dX3_passes_38 rfl lg1 ?_
        refine s_aload_n (pc' := 40) dX3_passes_39 rfl lg0 rfl ?_
        refine s_iload_n (pc' := 41) dX3_passes_40 rfl lg1 ?_
        have s2 : ∀ j, j ≠ 3 → j ≠ 4 → j ≠ b + 6 → am_up m1 (b + 6) i (wrn σ n td (T w) i) j = m j := fun j h3 h4 h6 => by simp [am_up, h6]; exact s1 j h3 h4
        have hS2 : isS b (am_up m1 (b + 6) i (wrn σ n td (T w) i)) σ n td (nI w) := hSm.kept (fun j h1 h2 => s2 j (by omega) (by omega) (by omega))
        have hT2 : isTT rf tl (am_up m1 (b + 6) i (wrn σ n td (T w) i)) nt T := hTm.kept (fun j hj => s2 j (by omega) (by omega) (by omega))
        refine c_X3_carriedOn (pc' := 44) dX3_passes_41 rfl lkX3_64 (by omega) (Nat.le_of_ble_eq_true rfl) hb hS2 (by omega) hT2 hw (fun m2 s3 => ?_)
        refine s_iastN (pc' := 45) dX3_passes_44 rfl (lyS7 hb) (by omega) (by decide) ?_
        refine s_iincN (pc' := 48) dX3_passes_45 rfl lg1 rfl ls1 ?_
        refine s_goto (tgt := 2) dX3_passes_48 (by decide) ?_
        refine ih (i + 1) _ (by omega) (fun j h3 h4 h6 h7 => ?_) (fun k hk => ?_)
        · simp [am_up, h7]
          rw [s3 j h3 h4, s2 j h3 h4 h6, hm j h3 h4 h6 h7]
        · have e6 : m2 (b + 6) = am_up m1 (b + 6) i (wrn σ n td (T w) i) (b + 6) := s3 _ (by omega) (by omega)
          have e7 : m2 (b + 7) = m (b + 7) := by rw [s3 _ (by omega) (by omega), s2 _ (by omega) (by omega) (by omega)]
          have e8 : m1 (b + 6) = m (b + 6) := s1 _ (by omega) (by omega)
          by_cases hki : k = i
          · subst hki
            simp [am_up, upd, e6]
          · obtain ⟨g2, g3⟩ := hlo k (by omega)
            simp [am_up, upd, hki, e6, e7, e8, g2, g3]
      refine s_iload_n (pc' := 3) dX3_passes_2 rfl lg1 ?_
      refine s_aload_n (pc' := 4) dX3_passes_3 rfl lg0 rfl ?_
      refine s_getI (pc' := 7) dX3_passes_4 rfl flX3_33 (lyS hb) (by decide) rfl ?_
      refine s_icmp_ge (pc' := 10) (tgt := 51) dX3_passes_7 rfl (by decide) (fun c9 => absurd c9 (by rw [hn]; exact nI_ge (by omega) (by omega))) (fun _ => ?_)
      refine s_aload_n (pc' := 11) dX3_passes_10 rfl lg0 rfl ?_
      refine s_getRv (pc' := 14) (v := .ref (b + 6)) dX3_passes_11 rfl flX3_27 (lyS hb) (by decide) rfl rfl ?_
      refine s_iload_n (pc' := 15) dX3_passes_14 rfl lg1 ?_
      refine s_aload_n (pc' := 16) dX3_passes_15 rfl lg0 rfl ?_
      refine s_getRv (pc' := 19) (v := .ref (b + 2)) dX3_passes_16 rfl flX3_15 (lyS hb) (by decide) rfl rfl ?_
      refine s_iload_n (pc' := 20) dX3_passes_19 rfl lg1 ?_
      refine s_ialdNv (pc' := 21) (v := σ 2 i) dX3_passes_20 rfl (lyS2 hb) (by omega) (by decide) f2 ?_
      refine s_if_ne (pc' := 24) (tgt := 28) dX3_passes_21 rfl (by decide) (fun c1 => ?_) (fun c1 => ?_)
      · skip
        refine s_aload_n (pc' := 29) dX3_passes_28 rfl lg0 rfl ?_
        refine s_iload_n (pc' := 30) dX3_passes_29 rfl lg1 ?_
        refine c_X3_wornOff (pc' := 33) dX3_passes_30 rfl lkX3_60 (by omega) (Nat.le_of_ble_eq_true rfl) hb hSm (by omega) hTm hw (fun m1 s1 => ?_)
        have := rest m1 s1
        rw [wrn, if_neg c1] at this
        exact this
      · skip
        refine s_iconst (pc' := 25) dX3_passes_24 rfl iconst_0 ?_
        refine s_goto (tgt := 33) dX3_passes_25 (by decide) ?_
        have := rest m scr.rf
        rw [wrn, if_pos c1] at this
        exact this
  refine s_iconst (pc' := 1) dX3_passes_0 rfl iconst_0 ?_
  refine s_istore_n (pc' := 2) dX3_passes_1 rfl (Nat.le_of_ble_eq_true rfl) rfl ls1 ?_
  exact first n 0 mem (by omega) (fun _ _ _ _ _ => rfl) (fun k hk => absurd hk (Nat.not_lt_zero k))
theorem c_X3_passes {z : Zz} {d kc ks : Nat} {mi : MI} {pc pc' : Nat} {L S : List Value} {Q : Option Value → Lay → Mem → Prop} {rf : Nat → Value} {tl : Lay} {mem : Mem}  {b n w nt : Nat} {σ : Nat → Nat → Int32} {td : Int32} {T : Nat → Nat → List Int32} {idx : Nat} (hd : decode mi.2.1 pc = .ok (.invokevirtual idx, 3)) (hp : pc + 3 = pc') (hlk : Cond.methodLink mi.1.cls idx yX3_passes ∈ wok) (hdd : 3 + 1 ≤ d) (hcat : (S.map (fun v => v.category)).sum ≤ 8) (hb : ISh b) (hS : isS b mem σ n td (nI w)) (hT : isTT rf tl mem nt T) (hw : w < nt) (K : ∀ mem', isS b mem' (pas σ n td (T w)) n (td + 1) (nI w) → frm b mem mem' → Sim z d kc ks mi pc' L S (LAY rf tl) mem' Q) : Sim z d kc ks mi pc L (.ref b :: S) (LAY rf tl) mem Q :=
  s_invV (d2 := 3) hd hp okX3_passes hlk inX3_passes seX3_passes hdd (Nat.zero_add _) (Nat.zero_add _) rfl rfl (lyS hb) rfl hcat (Nat.le_of_ble_eq_true rfl) (m_X3_passes (Nat.le_refl _) hb hS hT hw K)

