/-! ===== Shore: places, farthest; the first calls ===== -/
def usI (x s : Int32) : Int32 := (x.toUInt32 >>> (s.toUInt32 &&& Int32.toUInt32 31)).toInt32
def bc1 (x : Int32) : Int32 := x - (usI x 1 &&& 1431655765)
def bc2 (x : Int32) : Int32 := (x &&& 858993459) + (usI x 2 &&& 858993459)
def bc3 (x : Int32) : Int32 := (x + usI x 4) &&& 252645135
def bc4 (x : Int32) : Int32 := x + usI x 8
def bc5 (x : Int32) : Int32 := x + usI x 16
def bcI (x : Int32) : Int32 := bc5 (bc4 (bc3 (bc2 (bc1 x)))) &&& 63
set_option maxHeartbeats 4000000 in
theorem m_J6_bitCount_0f7a4 {z : Zz} {d : Nat} {Q : Option Value → Lay → Mem → Prop} {lay : Lay} {mem : Mem} {x : Int32} (hdd : 0 ≤ d)  (K :  Q (some (.int (bcI x))) lay mem) : Sim z d 0 0 mJ6_bitCount_0f7a4 0 [.int x] [] (lay) mem Q := by
  refine s_iload_n (pc' := 1) dJ6_bitCount_0f7a4_0 rfl lg0 ?_
  refine s_iload_n (pc' := 2) dJ6_bitCount_0f7a4_1 rfl lg0 ?_
  refine s_iconst (pc' := 3) dJ6_bitCount_0f7a4_2 rfl iconst_1 ?_
  refine s_iushr (pc' := 4) dJ6_bitCount_0f7a4_3 rfl ?_
  refine s_ldcw (pc' := 7) dJ6_bitCount_0f7a4_4 rfl kcJ6_265 ?_
  refine s_iand (pc' := 8) dJ6_bitCount_0f7a4_7 rfl ?_
  refine s_isub (pc' := 9) dJ6_bitCount_0f7a4_8 rfl ?_
  refine s_istore_n (pc' := 10) dJ6_bitCount_0f7a4_9 rfl (Nat.le_of_ble_eq_true rfl) rfl ls0 ?_
  refine s_iload_n (pc' := 11) dJ6_bitCount_0f7a4_10 rfl lg0 ?_
  refine s_ldcw (pc' := 14) dJ6_bitCount_0f7a4_11 rfl kcJ6_266 ?_
  refine s_iand (pc' := 15) dJ6_bitCount_0f7a4_14 rfl ?_
  refine s_iload_n (pc' := 16) dJ6_bitCount_0f7a4_15 rfl lg0 ?_
  refine s_iconst (pc' := 17) dJ6_bitCount_0f7a4_16 rfl iconst_2 ?_
  refine s_iushr (pc' := 18) dJ6_bitCount_0f7a4_17 rfl ?_
  refine s_ldcw (pc' := 21) dJ6_bitCount_0f7a4_18 rfl kcJ6_266 ?_
  refine s_iand (pc' := 22) dJ6_bitCount_0f7a4_21 rfl ?_
  refine s_iadd (pc' := 23) dJ6_bitCount_0f7a4_22 rfl ?_
  refine s_istore_n (pc' := 24) dJ6_bitCount_0f7a4_23 rfl (Nat.le_of_ble_eq_true rfl) rfl ls0 ?_
  refine s_iload_n (pc' := 25) dJ6_bitCount_0f7a4_24 rfl lg0 ?_
  refine s_iload_n (pc' := 26) dJ6_bitCount_0f7a4_25 rfl lg0 ?_
  refine s_iconst (pc' := 27) dJ6_bitCount_0f7a4_26 rfl iconst_4 ?_
  refine s_iushr (pc' := 28) dJ6_bitCount_0f7a4_27 rfl ?_
  refine s_iadd (pc' := 29) dJ6_bitCount_0f7a4_28 rfl ?_
  refine s_ldcw (pc' := 32) dJ6_bitCount_0f7a4_29 rfl kcJ6_267 ?_
  refine s_iand (pc' := 33) dJ6_bitCount_0f7a4_32 rfl ?_
  refine s_istore_n (pc' := 34) dJ6_bitCount_0f7a4_33 rfl (Nat.le_of_ble_eq_true rfl) rfl ls0 ?_
  refine s_iload_n (pc' := 35) dJ6_bitCount_0f7a4_34 rfl lg0 ?_
  refine s_iload_n (pc' := 36) dJ6_bitCount_0f7a4_35 rfl lg0 ?_
  refine s_bipush (pc' := 38) dJ6_bitCount_0f7a4_36 rfl bipush_8 ?_
  refine s_iushr (pc' := 39) dJ6_bitCount_0f7a4_38 rfl ?_
  refine s_iadd (pc' := 40) dJ6_bitCount_0f7a4_39 rfl ?_
  refine s_istore_n (pc' := 41) dJ6_bitCount_0f7a4_40 rfl (Nat.le_of_ble_eq_true rfl) rfl ls0 ?_
  refine s_iload_n (pc' := 42) dJ6_bitCount_0f7a4_41 rfl lg0 ?_
  refine s_iload_n (pc' := 43) dJ6_bitCount_0f7a4_42 rfl lg0 ?_
  refine s_bipush (pc' := 45) dJ6_bitCount_0f7a4_43 rfl bipush_16 ?_
  refine s_iushr (pc' := 46) dJ6_bitCount_0f7a4_45 rfl ?_
  refine s_iadd (pc' := 47) dJ6_bitCount_0f7a4_46 rfl ?_
  refine s_istore_n (pc' := 48) dJ6_bitCount_0f7a4_47 rfl (Nat.le_of_ble_eq_true rfl) rfl ls0 ?_
  refine s_iload_n (pc' := 49) dJ6_bitCount_0f7a4_48 rfl lg0 ?_
  refine s_bipush (pc' := 51) dJ6_bitCount_0f7a4_49 rfl bipush_63 ?_
  refine s_iand (pc' := 52) dJ6_bitCount_0f7a4_51 rfl ?_
  refine s_iret dJ6_bitCount_0f7a4_52 rfl (vp_nar_int _) ?_
  exact K
theorem c_J6_bitCount_0f7a4 {z : Zz} {d kc ks : Nat} {mi : MI} {pc pc' : Nat} {L S : List Value} {Q : Option Value → Lay → Mem → Prop} {lay : Lay} {mem : Mem} {x : Int32} {idx : Nat} (hd : decode mi.2.1 pc = .ok (.invokestatic idx, 3)) (hp : pc + 3 = pc') (hlk : Cond.methodLink mi.1.cls idx yJ6_bitCount_0f7a4 ∈ wok) (hdd : 0 + 1 ≤ d) (hcat : (S.map (fun v => v.category)).sum ≤ 8)  (K :  Sim z d kc ks mi pc' L (.int (bcI x) :: S) lay mem Q) : Sim z d kc ks mi pc L (.int x :: S) (lay) mem Q :=
  s_invS (d2 := 0) hd hp okJ6_bitCount_0f7a4 hlk stJ6_bitCount_0f7a4 hdd (Nat.zero_add _) (Nat.zero_add _) rfl rfl hcat (Nat.le_of_ble_eq_true rfl) (m_J6_bitCount_0f7a4 (Nat.le_refl _)  K)
def po (f : Nat → Int32) : Nat → Int32
  | 0 => 0
  | k + 1 => po f k ||| ((1 : Int32) <<< (f k &&& 31))
set_option maxHeartbeats 4000000 in
theorem m_X3_howManyPlaces {z : Zz} {d : Nat} {Q : Option Value → Lay → Mem → Prop} {rf : Nat → Value} {tl : Lay} {mem : Mem}  {b n : Nat} (hdd : 1 ≤ d) (hb : ISh b) (hn : mem b 8 = nI n) (h8 : n ≤ 8) (K :  Q (some (.int (bcI (po (mem (b + 3)) n)))) (LAY rf tl) mem) : Sim z d 0 0 mX3_howManyPlaces 0 [.ref b, .float 0, .float 0] [] (LAY rf tl) mem Q := by
  refine s_iconst (pc' := 1) dX3_howManyPlaces_0 rfl iconst_0 ?_
  refine s_istore_n (pc' := 2) dX3_howManyPlaces_1 rfl (Nat.le_of_ble_eq_true rfl) rfl ls1 ?_
  refine s_iconst (pc' := 3) dX3_howManyPlaces_2 rfl iconst_0 ?_
  refine s_istore_n (pc' := 4) dX3_howManyPlaces_3 rfl (Nat.le_of_ble_eq_true rfl) rfl ls2 ?_
  have loop : ∀ (k i : Nat), i + k = n → Sim z d 0 0 mX3_howManyPlaces 4 [.ref b, .int (po (mem (b + 3)) i), .int (nI i)] [] (LAY rf tl) mem Q := by
    intro k
    induction k with
    | zero =>
      intro i hi
      refine s_iload_n (pc' := 5) dX3_howManyPlaces_4 rfl lg2 ?_
      refine s_aload_n (pc' := 6) dX3_howManyPlaces_5 rfl lg0 rfl ?_
      refine s_getI (pc' := 9) dX3_howManyPlaces_6 rfl flX3_33 (lyS hb) (by decide) rfl ?_
      refine s_icmp_ge (pc' := 12) (tgt := 29) dX3_howManyPlaces_9 rfl (by decide) (fun _ => ?_) (fun c9 => absurd (by rw [hn]; exact nI_le (by omega) (by omega)) c9)
      refine s_iload_n (pc' := 30) dX3_howManyPlaces_29 rfl lg1 ?_
      refine c_J6_bitCount_0f7a4 (pc' := 33) dX3_howManyPlaces_30 rfl lkX3_115 (by omega) (Nat.le_of_ble_eq_true rfl)  ?_
      refine s_iret dX3_howManyPlaces_33 rfl (vp_nar_int _) ?_
      have : i = n := by omega
      rw [this]; exact K
    | succ k ih =>
      intro i hi
      refine s_iload_n (pc' := 5) dX3_howManyPlaces_4 rfl lg2 ?_
      refine s_aload_n (pc' := 6) dX3_howManyPlaces_5 rfl lg0 rfl ?_
      refine s_getI (pc' := 9) dX3_howManyPlaces_6 rfl flX3_33 (lyS hb) (by decide) rfl ?_
      refine s_icmp_ge (pc' := 12) (tgt := 29) dX3_howManyPlaces_9 rfl (by decide) (fun c9 => absurd c9 (by rw [hn]; exact nI_ge (by omega) (by omega))) (fun _ => ?_)
      refine s_iload_n (pc' := 13) dX3_howManyPlaces_12 rfl lg1 ?_
      refine s_iconst (pc' := 14) dX3_howManyPlaces_13 rfl iconst_1 ?_
      refine s_aload_n (pc' := 15) dX3_howManyPlaces_14 rfl lg0 rfl ?_
      refine s_getRv (pc' := 18) (v := .ref (b + 3)) dX3_howManyPlaces_15 rfl flX3_18 (lyS hb) (by decide) rfl rfl ?_
      refine s_iload_n (pc' := 19) dX3_howManyPlaces_18 rfl lg2 ?_
      refine s_ialdN (pc' := 20) dX3_howManyPlaces_19 rfl (lyS3 hb) (by omega) (by decide) ?_
      refine s_ishl (pc' := 21) dX3_howManyPlaces_20 rfl ?_
      refine s_ior (pc' := 22) dX3_howManyPlaces_21 rfl ?_
      refine s_istore_n (pc' := 23) dX3_howManyPlaces_22 rfl (Nat.le_of_ble_eq_true rfl) rfl ls1 ?_
      refine s_iincN (pc' := 26) dX3_howManyPlaces_23 rfl lg2 rfl ls2 ?_
      refine s_goto (tgt := 4) dX3_howManyPlaces_26 (by decide) ?_
      exact ih (i + 1) (by omega)
  exact loop n 0 (by omega)
theorem c_X3_howManyPlaces {z : Zz} {d kc ks : Nat} {mi : MI} {pc pc' : Nat} {L S : List Value} {Q : Option Value → Lay → Mem → Prop} {rf : Nat → Value} {tl : Lay} {mem : Mem}  {b n : Nat} {idx : Nat} (hd : decode mi.2.1 pc = .ok (.invokevirtual idx, 3)) (hp : pc + 3 = pc') (hlk : Cond.methodLink mi.1.cls idx yX3_howManyPlaces ∈ wok) (hdd : 1 + 1 ≤ d) (hcat : (S.map (fun v => v.category)).sum ≤ 8) (hb : ISh b) (hn : mem b 8 = nI n) (h8 : n ≤ 8) (K :  Sim z d kc ks mi pc' L (.int (bcI (po (mem (b + 3)) n)) :: S) (LAY rf tl) mem Q) : Sim z d kc ks mi pc L (.ref b :: S) (LAY rf tl) mem Q :=
  s_invV (d2 := 1) hd hp okX3_howManyPlaces hlk inX3_howManyPlaces seX3_howManyPlaces hdd (Nat.zero_add _) (Nat.zero_add _) rfl rfl (lyS hb) rfl hcat (Nat.le_of_ble_eq_true rfl) (m_X3_howManyPlaces (Nat.le_refl _) hb hn h8 K)
def sA (f : Nat → Int32) (n i : Nat) : Int32 := suI (fun j => apI (f i) (f j)) n
def fo (f : Nat → Int32) (n : Nat) : Nat → Int32 × Int32
  | 0 => (-1, -1)
  | i + 1 => if sA f n i ≤ (fo f n i).2 then fo f n i else (nI i, sA f n i)
theorem fo_succ {f : Nat → Int32} {n i : Nat} : fo f n (i + 1) = if sA f n i ≤ (fo f n i).2 then fo f n i else (nI i, sA f n i) := rfl
theorem suI_succ {f : Nat → Int32} {k : Nat} : suI f (k + 1) = suI f k + f k := rfl
set_option maxHeartbeats 4000000 in
theorem m_X3_farthestOut {z : Zz} {d : Nat} {Q : Option Value → Lay → Mem → Prop} {rf : Nat → Value} {tl : Lay} {mem : Mem}  {b n : Nat} (hdd : 2 ≤ d) (hb : ISh b) (hn : mem b 8 = nI n) (h8 : n ≤ 8) (K :  Q (some (.int (fo (mem (b + 3)) n n).1)) (LAY rf tl) mem) : Sim z d 0 0 mX3_farthestOut 0 [.ref b, .float 0, .float 0, .float 0, .float 0, .float 0] [] (LAY rf tl) mem Q := by
  have inner : ∀ (i : Nat) (x y : Int32) (k j : Nat) (s : Int32), i < n → j + k = n → s = suI (fun j => apI (mem (b + 3) i) (mem (b + 3) j)) j → Sim z d 0 0 mX3_farthestOut 56 [.ref b, .int x, .int y, .int (nI i), .int (sA (mem (b + 3)) n i), .int (nI n)] [] (LAY rf tl) mem Q → Sim z d 0 0 mX3_farthestOut 20 [.ref b, .int x, .int y, .int (nI i), .int s, .int (nI j)] [] (LAY rf tl) mem Q := by
    intro i x y k
    induction k with
    | zero =>
      intro j s hi hj hs KK
      refine s_iload (pc' := 22) dX3_farthestOut_20 rfl lg5 ?_
      refine s_aload_n (pc' := 23) dX3_farthestOut_22 rfl lg0 rfl ?_
      refine s_getI (pc' := 26) dX3_farthestOut_23 rfl flX3_33 (lyS hb) (by decide) rfl ?_
      refine s_icmp_ge (pc' := 29) (tgt := 56) dX3_farthestOut_26 rfl (by decide) (fun _ => ?_) (fun c9 => absurd (by rw [hn]; exact nI_le (by omega) (by omega)) c9)
      have : j = n := by omega
      subst this
      rw [hs]; exact KK
    | succ k ih =>
      intro j s hi hj hs KK
      refine s_iload (pc' := 22) dX3_farthestOut_20 rfl lg5 ?_
      refine s_aload_n (pc' := 23) dX3_farthestOut_22 rfl lg0 rfl ?_
      refine s_getI (pc' := 26) dX3_farthestOut_23 rfl flX3_33 (lyS hb) (by decide) rfl ?_
      refine s_icmp_ge (pc' := 29) (tgt := 56) dX3_farthestOut_26 rfl (by decide) (fun c9 => absurd c9 (by rw [hn]; exact nI_ge (by omega) (by omega))) (fun _ => ?_)
      refine s_iload (pc' := 31) dX3_farthestOut_29 rfl lg4 ?_
      refine s_aload_n (pc' := 32) dX3_farthestOut_31 rfl lg0 rfl ?_
      refine s_getRv (pc' := 35) (v := .ref (b + 3)) dX3_farthestOut_32 rfl flX3_18 (lyS hb) (by decide) rfl rfl ?_
      refine s_iload_n (pc' := 36) dX3_farthestOut_35 rfl lg3 ?_
      refine s_ialdN (pc' := 37) dX3_farthestOut_36 rfl (lyS3 hb) (by omega) (by decide) ?_
      refine s_aload_n (pc' := 38) dX3_farthestOut_37 rfl lg0 rfl ?_
      refine s_getRv (pc' := 41) (v := .ref (b + 3)) dX3_farthestOut_38 rfl flX3_18 (lyS hb) (by decide) rfl rfl ?_
      refine s_iload (pc' := 43) dX3_farthestOut_41 rfl lg5 ?_
      refine s_ialdN (pc' := 44) dX3_farthestOut_43 rfl (lyS3 hb) (by omega) (by decide) ?_
      refine cN_X6_apart (pc' := 47) dX3_farthestOut_44 rfl (by decide) (by omega) (Nat.le_of_ble_eq_true rfl)  ?_
      refine s_iadd (pc' := 48) dX3_farthestOut_47 rfl ?_
      refine s_istore (pc' := 50) dX3_farthestOut_48 rfl (Nat.le_of_ble_eq_true rfl) rfl ls4 ?_
      refine s_iincN (pc' := 53) dX3_farthestOut_50 rfl lg5 rfl ls5 ?_
      refine s_goto (tgt := 20) dX3_farthestOut_53 (by decide) ?_
      exact ih (j + 1) _ hi (by omega) (by rw [suI_succ, hs]) KK
  refine s_iconst (pc' := 1) dX3_farthestOut_0 rfl iconst_m1 ?_
  refine s_istore_n (pc' := 2) dX3_farthestOut_1 rfl (Nat.le_of_ble_eq_true rfl) rfl ls1 ?_
  refine s_iconst (pc' := 3) dX3_farthestOut_2 rfl iconst_m1 ?_
  refine s_istore_n (pc' := 4) dX3_farthestOut_3 rfl (Nat.le_of_ble_eq_true rfl) rfl ls2 ?_
  refine s_iconst (pc' := 5) dX3_farthestOut_4 rfl iconst_0 ?_
  refine s_istore_n (pc' := 6) dX3_farthestOut_5 rfl (Nat.le_of_ble_eq_true rfl) rfl ls3 ?_
  have loop : ∀ (k i : Nat) (x y : Int32) (v4 v5 : Value), i + k = n → (x, y) = fo (mem (b + 3)) n i → Sim z d 0 0 mX3_farthestOut 6 [.ref b, .int x, .int y, .int (nI i), v4, v5] [] (LAY rf tl) mem Q := by
    intro k
    induction k with
    | zero =>
      intro i x y v4 v5 hi hxy
      refine s_iload_n (pc' := 7) dX3_farthestOut_6 rfl lg3 ?_
      refine s_aload_n (pc' := 8) dX3_farthestOut_7 rfl lg0 rfl ?_
      refine s_getI (pc' := 11) dX3_farthestOut_8 rfl flX3_33 (lyS hb) (by decide) rfl ?_
      refine s_icmp_ge (pc' := 14) (tgt := 73) dX3_farthestOut_11 rfl (by decide) (fun _ => ?_) (fun c9 => absurd (by rw [hn]; exact nI_le (by omega) (by omega)) c9)
      refine s_iload_n (pc' := 74) dX3_farthestOut_73 rfl lg1 ?_
      refine s_iret dX3_farthestOut_74 rfl (vp_nar_int _) ?_
      have : i = n := by omega
      rw [this] at hxy
      rw [← hxy] at K
      exact K
    | succ k ih =>
      intro i x y v4 v5 hi hxy
      refine s_iload_n (pc' := 7) dX3_farthestOut_6 rfl lg3 ?_
      refine s_aload_n (pc' := 8) dX3_farthestOut_7 rfl lg0 rfl ?_
      refine s_getI (pc' := 11) dX3_farthestOut_8 rfl flX3_33 (lyS hb) (by decide) rfl ?_
      refine s_icmp_ge (pc' := 14) (tgt := 73) dX3_farthestOut_11 rfl (by decide) (fun c9 => absurd c9 (by rw [hn]; exact nI_ge (by omega) (by omega))) (fun _ => ?_)
      refine s_iconst (pc' := 15) dX3_farthestOut_14 rfl iconst_0 ?_
      refine s_istore (pc' := 17) dX3_farthestOut_15 rfl (Nat.le_of_ble_eq_true rfl) rfl ls4 ?_
      refine s_iconst (pc' := 18) dX3_farthestOut_17 rfl iconst_0 ?_
      refine s_istore (pc' := 20) dX3_farthestOut_18 rfl (Nat.le_of_ble_eq_true rfl) rfl ls5 ?_
      refine inner i x y n 0 0 (by omega) (by omega) rfl ?_
      refine s_iload (pc' := 58) dX3_farthestOut_56 rfl lg4 ?_
      refine s_iload_n (pc' := 59) dX3_farthestOut_58 rfl lg2 ?_
      refine s_icmp_le (pc' := 62) (tgt := 67) dX3_farthestOut_59 rfl (by decide) (fun c1 => ?_) (fun c1 => ?_)
      · skip
        refine s_iincN (pc' := 70) dX3_farthestOut_67 rfl lg3 rfl ls3 ?_
        refine s_goto (tgt := 6) dX3_farthestOut_70 (by decide) ?_
        refine ih (i + 1) x y _ _ (by omega) ?_
        rw [fo_succ, ← hxy, if_pos c1]
      · skip
        refine s_iload_n (pc' := 63) dX3_farthestOut_62 rfl lg3 ?_
        refine s_istore_n (pc' := 64) dX3_farthestOut_63 rfl (Nat.le_of_ble_eq_true rfl) rfl ls1 ?_
        refine s_iload (pc' := 66) dX3_farthestOut_64 rfl lg4 ?_
        refine s_istore_n (pc' := 67) dX3_farthestOut_66 rfl (Nat.le_of_ble_eq_true rfl) rfl ls2 ?_
        refine s_iincN (pc' := 70) dX3_farthestOut_67 rfl lg3 rfl ls3 ?_
        refine s_goto (tgt := 6) dX3_farthestOut_70 (by decide) ?_
        refine ih (i + 1) _ _ _ _ (by omega) ?_
        rw [fo_succ, ← hxy, if_neg c1]
  exact loop n 0 _ _ _ _ (by omega) rfl
theorem c_X3_farthestOut {z : Zz} {d kc ks : Nat} {mi : MI} {pc pc' : Nat} {L S : List Value} {Q : Option Value → Lay → Mem → Prop} {rf : Nat → Value} {tl : Lay} {mem : Mem}  {b n : Nat} {idx : Nat} (hd : decode mi.2.1 pc = .ok (.invokevirtual idx, 3)) (hp : pc + 3 = pc') (hlk : Cond.methodLink mi.1.cls idx yX3_farthestOut ∈ wok) (hdd : 2 + 1 ≤ d) (hcat : (S.map (fun v => v.category)).sum ≤ 8) (hb : ISh b) (hn : mem b 8 = nI n) (h8 : n ≤ 8) (K :  Sim z d kc ks mi pc' L (.int (fo (mem (b + 3)) n n).1 :: S) (LAY rf tl) mem Q) : Sim z d kc ks mi pc L (.ref b :: S) (LAY rf tl) mem Q :=
  s_invV (d2 := 2) hd hp okX3_farthestOut hlk inX3_farthestOut seX3_farthestOut hdd (Nat.zero_add _) (Nat.zero_add _) rfl rfl (lyS hb) rfl hcat (Nat.le_of_ble_eq_true rfl) (m_X3_farthestOut (Nat.le_refl _) hb hn h8 K)
def ix (p : Int32) : Nat := p.toNatClampNeg
theorem ix_nI {k : Nat} (h : k < 100000) : ix (nI k) = k := nI_clamp (by omega)
theorem pc_or (p : Int32) {n : Nat} (hn : n ≤ 1000) : pcB p (nI n) = 0 ∨ ∃ k, k < n ∧ p = nI k ∧ pcB p (nI n) = 1 := by
  unfold pcB
  by_cases h1 : p < 0
  · left; rw [if_pos h1]
  · by_cases h2 : nI n ≤ p
    · left; rw [if_neg h1, if_pos h2]
    · right
      obtain ⟨j, hj, rfl⟩ := nI_of h1
      refine ⟨j, ?_, rfl, by rw [if_neg h1, if_neg h2]⟩
      rcases Nat.lt_or_ge j n with q | q
      · exact q
      · exact absurd (nI_le q hj) h2
theorem in_or (v : Int32) {lo hi : Int32} (hlo : lo = 0) {m : Nat} (hm : hi = nI m) (hm2 : m ≤ 100000) : inB v lo hi = 0 ∨ ∃ k, k ≤ m ∧ v = nI k ∧ inB v lo hi = 1 := by
  subst hlo
  subst hm
  unfold inB
  by_cases h1 : v < 0
  · left; rw [if_pos h1]
  · by_cases h2 : nI m < v
    · left; rw [if_neg h1, if_pos h2]
    · right
      obtain ⟨j, hj, rfl⟩ := nI_of h1
      refine ⟨j, ?_, rfl, by rw [if_neg h1, if_neg h2]⟩
      rcases Nat.lt_or_ge m j with q | q
      · exact absurd (nI_lt q hj) h2
      · exact q
set_option maxHeartbeats 4000000 in
theorem m_X6_carried {z : Zz} {d : Nat} {Q : Option Value → Lay → Mem → Prop} {rf : Nat → Value} {tl : Lay} {mem : Mem}  {n w nt : Nat} {σ : Nat → Nat → Int32} {td p : Int32} {T : Nat → Nat → List Int32} (hdd : 3 ≤ d) (hS : isS 10 mem σ n td (nI w)) (hT : isTT rf tl mem nt T) (hw : w < nt) (K : ∀ mem', scr mem mem' → Q (some (.int (if pcB p (nI n) = 0 then -1000 else carr σ td (T w) (ix p)))) (LAY rf tl) mem') : Sim z d 0 0 mX6_carried 0 [.ref 0, .int p] [] (LAY rf tl) mem Q := by
  have h8 := hS.2.1
  have hn := hS.1
  refine s_aload_n (pc' := 1) dX6_carried_0 rfl lg0 rfl ?_
  refine s_iload_n (pc' := 2) dX6_carried_1 rfl lg1 ?_
  refine c_X6_isPiece (pc' := 5) dX6_carried_2 rfl lkX6_60 (by omega) (Nat.le_of_ble_eq_true rfl)  ?_
  rw [hn]
  refine s_if_eq (pc' := 8) (tgt := 19) dX6_carried_5 rfl (by decide) (fun c1 => ?_) (fun c1 => ?_)
  · skip
    rw [if_pos c1] at K
    refine s_sipush (pc' := 22) dX6_carried_19 rfl sipush_m1000 ?_
    refine s_iret dX6_carried_22 rfl (vp_nar_int _) ?_
    exact K mem scr.rf
  · skip
    rw [if_neg c1] at K
    rcases pc_or p (n := n) (by omega) with q | ⟨k, hk, rfl, q⟩
    · exact absurd q c1
    rw [ix_nI (by omega)] at K
    refine s_aload_n (pc' := 9) dX6_carried_8 rfl lg0 rfl ?_
    refine s_getRv (pc' := 12) (v := .ref 10) dX6_carried_9 rfl flX6_28 ly0 (by decide) rfl rfl ?_
    refine s_iload_n (pc' := 13) dX6_carried_12 rfl lg1 ?_
    refine c_X3_carriedOn (b := 10) (pc' := 16) dX6_carried_13 rfl lkX6_90 (by omega) (Nat.le_of_ble_eq_true rfl) (Or.inl rfl) hS hk hT hw (fun m1 s1 => ?_)
    refine s_goto (tgt := 22) dX6_carried_16 (by decide) ?_
    refine s_iret dX6_carried_22 rfl (vp_nar_int _) ?_
    exact K m1 s1
theorem c_X6_carried {z : Zz} {d kc ks : Nat} {mi : MI} {pc pc' : Nat} {L S : List Value} {Q : Option Value → Lay → Mem → Prop} {rf : Nat → Value} {tl : Lay} {mem : Mem}  {n w nt : Nat} {σ : Nat → Nat → Int32} {td p : Int32} {T : Nat → Nat → List Int32} {idx : Nat} (hd : decode mi.2.1 pc = .ok (.invokevirtual idx, 3)) (hp : pc + 3 = pc') (hlk : Cond.methodLink mi.1.cls idx yX6_carried ∈ wok) (hdd : 3 + 1 ≤ d) (hcat : (S.map (fun v => v.category)).sum ≤ 8) (hS : isS 10 mem σ n td (nI w)) (hT : isTT rf tl mem nt T) (hw : w < nt) (K : ∀ mem', scr mem mem' → Sim z d kc ks mi pc' L (.int (if pcB p (nI n) = 0 then -1000 else carr σ td (T w) (ix p)) :: S) (LAY rf tl) mem' Q) : Sim z d kc ks mi pc L (.int p :: .ref 0 :: S) (LAY rf tl) mem Q :=
  s_invV (d2 := 3) hd hp okX6_carried hlk inX6_carried seX6_carried hdd (Nat.zero_add _) (Nat.zero_add _) rfl rfl ly0 rfl hcat (Nat.le_of_ble_eq_true rfl) (m_X6_carried (Nat.le_refl _) hS hT hw K)
set_option maxHeartbeats 4000000 in
theorem m_X1_takes {z : Zz} {d : Nat} {Q : Option Value → Lay → Mem → Prop} {rf : Nat → Value} {tl : Lay} {mem : Mem}  {tn : Nat} {x : Int32} (hdd : 0 ≤ d) (htn : mem 7 1 = nI tn) (h160 : tn ≤ 160) (K :  Q (some (.int (if tn < 160 then 1 else 0))) (LAY rf tl) (if tn < 160 then am_up (am_up mem 8 tn x) 7 1 (nI (tn + 1)) else mem)) : Sim z d 0 0 mX1_takes 0 [.ref 7, .int x] [] (LAY rf tl) mem Q := by
  refine s_aload_n (pc' := 1) dX1_takes_0 rfl lg0 rfl ?_
  refine s_getIv (pc' := 4) (v := nI tn) dX1_takes_1 rfl flX1_15 ly7 (by decide) rfl htn ?_
  refine s_sipush (pc' := 7) dX1_takes_4 rfl sipush_160 ?_
  have hlt : (nI tn < 160) = (tn < 160) := propext (nI_ltI (a := tn) (b := 160) (by omega) (by omega))
  refine s_icmp_lt (pc' := 10) (tgt := 12) dX1_takes_7 rfl (by decide) (fun c1 => ?_) (fun c1 => ?_)
  · skip
    rw [hlt] at c1
    rw [if_pos c1, if_pos c1] at K
    refine s_aload_n (pc' := 13) dX1_takes_12 rfl lg0 rfl ?_
    refine s_getRv (pc' := 16) (v := .ref 8) dX1_takes_13 rfl flX1_9 ly7 (by decide) rfl rfl ?_
    refine s_aload_n (pc' := 17) dX1_takes_16 rfl lg0 rfl ?_
    refine s_getIv (pc' := 20) (v := nI tn) dX1_takes_17 rfl flX1_15 ly7 (by decide) rfl htn ?_
    refine s_iload_n (pc' := 21) dX1_takes_20 rfl lg1 ?_
    refine s_iastN (pc' := 22) dX1_takes_21 rfl ly8 (by omega) (by decide) ?_
    refine s_aload_n (pc' := 23) dX1_takes_22 rfl lg0 rfl ?_
    refine s_dup (pc' := 24) dX1_takes_23 rfl rfl ?_
    refine s_getIv (pc' := 27) (v := nI tn) dX1_takes_24 rfl flX1_15 ly7 (by decide) rfl (by simp [am_up, htn]) ?_
    refine s_iconst (pc' := 28) dX1_takes_27 rfl iconst_1 ?_
    refine s_iadd (pc' := 29) dX1_takes_28 rfl ?_
    rw [nI_1]
    refine s_putI (pc' := 32) (ty := .int) dX1_takes_29 rfl flX1_15 fw1_1 pdI rfl rfl ly7 (by decide) rfl ?_
    refine s_iconst (pc' := 33) dX1_takes_32 rfl iconst_1 ?_
    refine s_iret dX1_takes_33 rfl (by decide) ?_
    exact K
  · skip
    rw [hlt] at c1
    rw [if_neg c1, if_neg c1] at K
    refine s_iconst (pc' := 11) dX1_takes_10 rfl iconst_0 ?_
    refine s_iret dX1_takes_11 rfl (by decide) ?_
    exact K
theorem c_X1_takes {z : Zz} {d kc ks : Nat} {mi : MI} {pc pc' : Nat} {L S : List Value} {Q : Option Value → Lay → Mem → Prop} {rf : Nat → Value} {tl : Lay} {mem : Mem}  {tn : Nat} {x : Int32} {idx : Nat} (hd : decode mi.2.1 pc = .ok (.invokevirtual idx, 3)) (hp : pc + 3 = pc') (hlk : Cond.methodLink mi.1.cls idx yX1_takes ∈ wok) (hdd : 0 + 1 ≤ d) (hcat : (S.map (fun v => v.category)).sum ≤ 8) (htn : mem 7 1 = nI tn) (h160 : tn ≤ 160) (K :  Sim z d kc ks mi pc' L (.int (if tn < 160 then 1 else 0) :: S) (LAY rf tl) (if tn < 160 then am_up (am_up mem 8 tn x) 7 1 (nI (tn + 1)) else mem) Q) : Sim z d kc ks mi pc L (.int x :: .ref 7 :: S) (LAY rf tl) mem Q :=
  s_invV (d2 := 0) hd hp okX1_takes hlk inX1_takes seX1_takes hdd (Nat.zero_add _) (Nat.zero_add _) rfl rfl ly7 rfl hcat (Nat.le_of_ble_eq_true rfl) (m_X1_takes (Nat.le_refl _) htn h160 K)
set_option maxHeartbeats 4000000 in
theorem m_X6_feed {z : Zz} {d : Nat} {Q : Option Value → Lay → Mem → Prop} {rf : Nat → Value} {tl : Lay} {mem : Mem}  {tn : Nat} {x : Int32} (hdd : 1 ≤ d) (htn : mem 7 1 = nI tn) (h160 : tn ≤ 160) (K :  Q (some (.int (if inB x 0 255 = 0 then -2 else if tn < 160 then nI (tn + 1) else -4))) (LAY rf tl) (if inB x 0 255 = 0 then mem else if tn < 160 then am_up (am_up mem 8 tn x) 7 1 (nI (tn + 1)) else mem)) : Sim z d 0 0 mX6_feed 0 [.ref 0, .int x] [] (LAY rf tl) mem Q := by
  refine s_iload_n (pc' := 1) dX6_feed_0 rfl lg1 ?_
  refine s_iconst (pc' := 2) dX6_feed_1 rfl iconst_0 ?_
  refine s_sipush (pc' := 5) dX6_feed_2 rfl sipush_255 ?_
  refine c_X6_isIn  (pc' := 8) dX6_feed_5 rfl lkX6_56 (by omega) (Nat.le_of_ble_eq_true rfl) ?_
  refine s_if_ne (pc' := 11) (tgt := 14) dX6_feed_8 rfl (by decide) (fun c1 => ?_) (fun c1 => ?_)
  · skip
    rw [if_neg c1, if_neg c1] at K
    refine s_aload_n (pc' := 15) dX6_feed_14 rfl lg0 rfl ?_
    refine s_getRv (pc' := 18) (v := .ref 7) dX6_feed_15 rfl flX6_19 ly0 (by decide) rfl rfl ?_
    refine s_iload_n (pc' := 19) dX6_feed_18 rfl lg1 ?_
    refine c_X1_takes  (pc' := 22) dX6_feed_19 rfl lkX6_93 (by omega) (Nat.le_of_ble_eq_true rfl) htn h160 ?_
    by_cases h : tn < 160
    · rw [if_pos h, if_pos h] at K
      rw [if_pos h, if_pos h]
      refine s_if_eq (pc' := 25) (tgt := 35) dX6_feed_22 rfl (by decide) (fun c9 => absurd c9 (by decide)) (fun _ => ?_)
      refine s_aload_n (pc' := 26) dX6_feed_25 rfl lg0 rfl ?_
      refine s_getRv (pc' := 29) (v := .ref 7) dX6_feed_26 rfl flX6_19 ly0 (by decide) rfl rfl ?_
      refine s_getIv (pc' := 32) (v := nI (tn + 1)) dX6_feed_29 rfl flX6_96 ly7 (by decide) rfl (by simp [am_up, upd]) ?_
      refine s_goto (tgt := 37) dX6_feed_32 (by decide) ?_
      refine s_iret dX6_feed_37 rfl (vp_nar_int _) ?_
      exact K
    · rw [if_neg h, if_neg h] at K
      rw [if_neg h, if_neg h]
      refine s_if_eq (pc' := 25) (tgt := 35) dX6_feed_22 rfl (by decide) (fun _ => ?_) (fun c9 => absurd (by decide) c9)
      refine s_bipush (pc' := 37) dX6_feed_35 rfl bipush_m4 ?_
      refine s_iret dX6_feed_37 rfl (vp_nar_int _) ?_
      exact K
  · skip
    rw [if_pos c1, if_pos c1] at K
    refine s_bipush (pc' := 13) dX6_feed_11 rfl bipush_m2 ?_
    refine s_iret dX6_feed_13 rfl (vp_nar_int _) ?_
    exact K
theorem c_X6_feed {z : Zz} {d kc ks : Nat} {mi : MI} {pc pc' : Nat} {L S : List Value} {Q : Option Value → Lay → Mem → Prop} {rf : Nat → Value} {tl : Lay} {mem : Mem}  {tn : Nat} {x : Int32} {idx : Nat} (hd : decode mi.2.1 pc = .ok (.invokevirtual idx, 3)) (hp : pc + 3 = pc') (hlk : Cond.methodLink mi.1.cls idx yX6_feed ∈ wok) (hdd : 1 + 1 ≤ d) (hcat : (S.map (fun v => v.category)).sum ≤ 8) (htn : mem 7 1 = nI tn) (h160 : tn ≤ 160) (K :  Sim z d kc ks mi pc' L (.int (if inB x 0 255 = 0 then -2 else if tn < 160 then nI (tn + 1) else -4) :: S) (LAY rf tl) (if inB x 0 255 = 0 then mem else if tn < 160 then am_up (am_up mem 8 tn x) 7 1 (nI (tn + 1)) else mem) Q) : Sim z d kc ks mi pc L (.int x :: .ref 0 :: S) (LAY rf tl) mem Q :=
  s_invV (d2 := 1) hd hp okX6_feed hlk inX6_feed seX6_feed hdd (Nat.zero_add _) (Nat.zero_add _) rfl rfl ly0 rfl hcat (Nat.le_of_ble_eq_true rfl) (m_X6_feed (Nat.le_refl _) htn h160 K)
set_option maxHeartbeats 4000000 in
theorem m_X6_force {z : Zz} {d : Nat} {Q : Option Value → Lay → Mem → Prop} {rf : Nat → Value} {tl : Lay} {mem : Mem}  {n w nt : Nat} {σ : Nat → Nat → Int32} {td x : Int32} {T : Nat → Nat → List Int32} (hdd : 1 ≤ d) (hS : isS 10 mem σ n td (nI w)) (hT : isTT rf tl mem nt T) (K :  Q (some (.int (if inB x 0 (nI (nt - 1)) = 0 then -2 else nI w))) (LAY rf tl) (if inB x 0 (nI (nt - 1)) = 0 then mem else am_up mem 10 10 x)) : Sim z d 0 0 mX6_force 0 [.ref 0, .int x, .float 0] [] (LAY rf tl) mem Q := by
  have e1 : nI nt - 1 = nI (nt - 1) := by
    have := nI_pred (nt - 1)
    rw [show nt - 1 + 1 = nt by have := hT.2.1; omega] at this
    exact this
  refine s_iload_n (pc' := 1) dX6_force_0 rfl lg1 ?_
  refine s_iconst (pc' := 2) dX6_force_1 rfl iconst_0 ?_
  refine s_aload_n (pc' := 3) dX6_force_2 rfl lg0 rfl ?_
  refine s_getRv (pc' := 6) (v := .ref 1) dX6_force_3 rfl flX6_10 ly0 (by decide) rfl rfl ?_
  refine s_getIv (pc' := 9) (v := nI nt) dX6_force_6 rfl flX6_99 ly1 (by decide) rfl hT.1 ?_
  refine s_iconst (pc' := 10) dX6_force_9 rfl iconst_1 ?_
  refine s_isub (pc' := 11) dX6_force_10 rfl ?_
  rw [e1]
  refine c_X6_isIn  (pc' := 14) dX6_force_11 rfl lkX6_56 (by omega) (Nat.le_of_ble_eq_true rfl) ?_
  refine s_if_ne (pc' := 17) (tgt := 20) dX6_force_14 rfl (by decide) (fun c1 => ?_) (fun c1 => ?_)
  · skip
    rw [if_neg c1, if_neg c1] at K
    refine s_aload_n (pc' := 21) dX6_force_20 rfl lg0 rfl ?_
    refine s_getRv (pc' := 24) (v := .ref 10) dX6_force_21 rfl flX6_28 ly0 (by decide) rfl rfl ?_
    refine s_getIv (pc' := 27) (v := nI w) dX6_force_24 rfl flX6_110 ly10 (by decide) rfl hS.2.2.2.1 ?_
    refine s_istore_n (pc' := 28) dX6_force_27 rfl (Nat.le_of_ble_eq_true rfl) rfl ls2 ?_
    refine s_aload_n (pc' := 29) dX6_force_28 rfl lg0 rfl ?_
    refine s_getRv (pc' := 32) (v := .ref 10) dX6_force_29 rfl flX6_28 ly0 (by decide) rfl rfl ?_
    refine s_iload_n (pc' := 33) dX6_force_32 rfl lg1 ?_
    refine s_putI (pc' := 36) (ty := .int) dX6_force_33 rfl flX6_110 fw3_10 pdI rfl rfl ly10 (by decide) rfl ?_
    refine s_iload_n (pc' := 37) dX6_force_36 rfl lg2 ?_
    refine s_iret dX6_force_37 rfl (vp_nar_int _) ?_
    exact K
  · skip
    rw [if_pos c1, if_pos c1] at K
    refine s_bipush (pc' := 19) dX6_force_17 rfl bipush_m2 ?_
    refine s_iret dX6_force_19 rfl (vp_nar_int _) ?_
    exact K
theorem c_X6_force {z : Zz} {d kc ks : Nat} {mi : MI} {pc pc' : Nat} {L S : List Value} {Q : Option Value → Lay → Mem → Prop} {rf : Nat → Value} {tl : Lay} {mem : Mem}  {n w nt : Nat} {σ : Nat → Nat → Int32} {td x : Int32} {T : Nat → Nat → List Int32} {idx : Nat} (hd : decode mi.2.1 pc = .ok (.invokevirtual idx, 3)) (hp : pc + 3 = pc') (hlk : Cond.methodLink mi.1.cls idx yX6_force ∈ wok) (hdd : 1 + 1 ≤ d) (hcat : (S.map (fun v => v.category)).sum ≤ 8) (hS : isS 10 mem σ n td (nI w)) (hT : isTT rf tl mem nt T) (K :  Sim z d kc ks mi pc' L (.int (if inB x 0 (nI (nt - 1)) = 0 then -2 else nI w) :: S) (LAY rf tl) (if inB x 0 (nI (nt - 1)) = 0 then mem else am_up mem 10 10 x) Q) : Sim z d kc ks mi pc L (.int x :: .ref 0 :: S) (LAY rf tl) mem Q :=
  s_invV (d2 := 1) hd hp okX6_force hlk inX6_force seX6_force hdd (Nat.zero_add _) (Nat.zero_add _) rfl rfl ly0 rfl hcat (Nat.le_of_ble_eq_true rfl) (m_X6_force (Nat.le_refl _) hS hT K)
set_option maxHeartbeats 4000000 in
theorem m_X6_tide {z : Zz} {d : Nat} {Q : Option Value → Lay → Mem → Prop} {rf : Nat → Value} {tl : Lay} {mem : Mem}  {n w nt : Nat} {σ : Nat → Nat → Int32} {td : Int32} {T : Nat → Nat → List Int32} (hdd : 4 ≤ d) (hS : isS 10 mem σ n td (nI w)) (hT : isTT rf tl mem nt T) (hw : w < nt) (K : ∀ mem', (if td < 999 then isS 10 mem' (pas σ n td (T w)) n (td + 1) (nI w) ∧ frm 10 mem mem' else mem' = mem) → Q (some (.int (if td < 999 then nI (ct (fun i => decide (pas σ n td (T w) 2 i = 0)) n) else -3))) (LAY rf tl) mem') : Sim z d 0 0 mX6_tide 0 [.ref 0] [] (LAY rf tl) mem Q := by
  refine s_aload_n (pc' := 1) dX6_tide_0 rfl lg0 rfl ?_
  refine s_getRv (pc' := 4) (v := .ref 10) dX6_tide_1 rfl flX6_28 ly0 (by decide) rfl rfl ?_
  refine s_getIv (pc' := 7) (v := td) dX6_tide_4 rfl flX6_68 ly10 (by decide) rfl hS.2.2.1 ?_
  refine s_sipush (pc' := 10) dX6_tide_7 rfl sipush_999 ?_
  refine s_icmp_lt (pc' := 13) (tgt := 16) dX6_tide_10 rfl (by decide) (fun c1 => ?_) (fun c1 => ?_)
  · skip
    simp only [if_pos c1] at K
    refine s_aload_n (pc' := 17) dX6_tide_16 rfl lg0 rfl ?_
    refine s_getRv (pc' := 20) (v := .ref 10) dX6_tide_17 rfl flX6_28 ly0 (by decide) rfl rfl ?_
    refine c_X3_passes (b := 10) (pc' := 23) dX6_tide_20 rfl lkX6_113 (by omega) (Nat.le_of_ble_eq_true rfl) (Or.inl rfl) hS hT hw (fun m1 h1 h2 => ?_)
    refine s_aload_n (pc' := 24) dX6_tide_23 rfl lg0 rfl ?_
    refine s_getRv (pc' := 27) (v := .ref 10) dX6_tide_24 rfl flX6_28 ly0 (by decide) rfl rfl ?_
    refine c_X3_howManyRound (b := 10) (pc' := 30) dX6_tide_27 rfl lkX6_116 (by omega) (Nat.le_of_ble_eq_true rfl) (Or.inl rfl) h1.1 h1.2.1 ?_
    refine s_iret dX6_tide_30 rfl (vp_nar_int _) ?_
    rw [ct_cong (q := fun i => decide (pas σ n td (T w) 2 i = 0)) (fun k hk => by rw [(h1.2.2.2.2 k hk).2.2.1])]
    exact K m1 ⟨h1, h2⟩
  · skip
    simp only [if_neg c1] at K
    refine s_bipush (pc' := 15) dX6_tide_13 rfl bipush_m3 ?_
    refine s_iret dX6_tide_15 rfl (vp_nar_int _) ?_
    exact K mem rfl
theorem c_X6_tide {z : Zz} {d kc ks : Nat} {mi : MI} {pc pc' : Nat} {L S : List Value} {Q : Option Value → Lay → Mem → Prop} {rf : Nat → Value} {tl : Lay} {mem : Mem}  {n w nt : Nat} {σ : Nat → Nat → Int32} {td : Int32} {T : Nat → Nat → List Int32} {idx : Nat} (hd : decode mi.2.1 pc = .ok (.invokevirtual idx, 3)) (hp : pc + 3 = pc') (hlk : Cond.methodLink mi.1.cls idx yX6_tide ∈ wok) (hdd : 4 + 1 ≤ d) (hcat : (S.map (fun v => v.category)).sum ≤ 8) (hS : isS 10 mem σ n td (nI w)) (hT : isTT rf tl mem nt T) (hw : w < nt) (K : ∀ mem', (if td < 999 then isS 10 mem' (pas σ n td (T w)) n (td + 1) (nI w) ∧ frm 10 mem mem' else mem' = mem) → Sim z d kc ks mi pc' L (.int (if td < 999 then nI (ct (fun i => decide (pas σ n td (T w) 2 i = 0)) n) else -3) :: S) (LAY rf tl) mem' Q) : Sim z d kc ks mi pc L (.ref 0 :: S) (LAY rf tl) mem Q :=
  s_invV (d2 := 4) hd hp okX6_tide hlk inX6_tide seX6_tide hdd (Nat.zero_add _) (Nat.zero_add _) rfl rfl ly0 rfl hcat (Nat.le_of_ble_eq_true rfl) (m_X6_tide (Nat.le_refl _) hS hT hw K)

