/-! ===== twos ===== -/
def b1I (k : Nat) : Int32 := (1 : Int32) <<< (nI k &&& 31)
def woB (σ : Nat → Nat → Int32) (p q : Nat) (x : Int32) : Bool := !decide (σ 4 p = σ 4 q) && decide (σ 1 p = σ 1 q) && !decide (x < apI (σ 3 p) (σ 3 q))
def mtl (g : Nat → Bool) (h : Nat → Int32) (m0 : Int32) : Nat → Int32
  | 0 => m0
  | i + 1 => if g i then mxI (mtl g h m0 i) (1 + h i) else mtl g h m0 i
def mtw (σ : Nat → Nat → Int32) (n : Nat) (x : Int32) : Nat → Nat → Int32 → Int32
  | 0, _, _ => 0
  | k + 1, p, u => if σ 4 p = 0 then mtl (fun o => decide (u &&& b1I o = 0) && woB σ p o x) (fun o => mtw σ n x k (p + 1) (u ||| b1I o)) (mtw σ n x k (p + 1) u) n else mtw σ n x k (p + 1) u
theorem mtw_0 {σ : Nat → Nat → Int32} {n : Nat} {x : Int32} {p : Nat} {u : Int32} : mtw σ n x 0 p u = 0 := rfl
theorem mtw_s {σ : Nat → Nat → Int32} {n : Nat} {x : Int32} {k p : Nat} {u : Int32} : mtw σ n x (k + 1) p u = if σ 4 p = 0 then mtl (fun o => decide (u &&& b1I o = 0) && woB σ p o x) (fun o => mtw σ n x k (p + 1) (u ||| b1I o)) (mtw σ n x k (p + 1) u) n else mtw σ n x k (p + 1) u := rfl
theorem mtl_t {g : Nat → Bool} {h : Nat → Int32} {m0 : Int32} {i : Nat} (hg : g i = true) : mtl g h m0 (i + 1) = mxI (mtl g h m0 i) (1 + h i) := by rw [mtl, if_pos hg]
theorem mtl_f {g : Nat → Bool} {h : Nat → Int32} {m0 : Int32} {i : Nat} (hg : g i = false) : mtl g h m0 (i + 1) = mtl g h m0 i := by rw [mtl, hg, if_neg Bool.false_ne_true]
set_option maxHeartbeats 4000000 in
theorem mt_all {z : Zz} {rf : Nat → Value} {tl : Lay} {n : Nat} {σ : Nat → Nat → Int32} {td ru x : Int32} {mem : Mem} (hS : isS 10 mem σ n td ru) : ∀ (k p d : Nat) (u : Int32) (Q : Option Value → Lay → Mem → Prop), p + k = n → k + 3 ≤ d → Q (some (.int (mtw σ n x k p u))) (LAY rf tl) mem → Sim z d 0 0 mX6_mostTwos 0 [.ref 10, .int x, .int (nI p), .int u, .float 0, .float 0] [] (LAY rf tl) mem Q := by
  have hn := hS.1
  have h8 := hS.2.1
  intro k
  induction k with
  | zero =>
    intro p d u Q hp hd K
    rw [mtw_0] at K
    refine s_iload_n (pc' := 1) dX6_mostTwos_0 rfl lg2 ?_
    refine s_aload_n (pc' := 2) dX6_mostTwos_1 rfl lg0 rfl ?_
    refine s_getI (pc' := 5) dX6_mostTwos_2 rfl flX6_189 ly10 (by decide) rfl ?_
    refine s_icmp_lt (pc' := 8) (tgt := 10) dX6_mostTwos_5 rfl (by decide) (fun c9 => absurd c9 (by rw [hn]; exact nI_nlt (by omega) (by omega))) (fun _ => ?_)
    refine s_iconst (pc' := 9) dX6_mostTwos_8 rfl iconst_0 ?_
    refine s_iret dX6_mostTwos_9 rfl (vp_nar_int _) ?_
    exact K
  | succ k ih =>
    intro p d u Q hp hd K
    rw [mtw_s] at K
    refine s_iload_n (pc' := 1) dX6_mostTwos_0 rfl lg2 ?_
    refine s_aload_n (pc' := 2) dX6_mostTwos_1 rfl lg0 rfl ?_
    refine s_getI (pc' := 5) dX6_mostTwos_2 rfl flX6_189 ly10 (by decide) rfl ?_
    refine s_icmp_lt (pc' := 8) (tgt := 10) dX6_mostTwos_5 rfl (by decide) (fun _ => ?_) (fun c9 => absurd (by rw [hn]; exact nI_lt (by omega) (by omega)) c9)
    refine s_aload_n (pc' := 11) dX6_mostTwos_10 rfl lg0 rfl ?_
    refine s_iload_n (pc' := 12) dX6_mostTwos_11 rfl lg1 ?_
    refine s_iload_n (pc' := 13) dX6_mostTwos_12 rfl lg2 ?_
    refine s_iconst (pc' := 14) dX6_mostTwos_13 rfl iconst_1 ?_
    refine s_iadd (pc' := 15) dX6_mostTwos_14 rfl ?_
    refine s_iload_n (pc' := 16) dX6_mostTwos_15 rfl lg3 ?_
    rw [nI_1]
    refine s_invS (d2 := d - 1) (pc' := 19) dX6_mostTwos_16 rfl okX6_mostTwos lkX6_181 stX6_mostTwos (by omega) (Nat.zero_add _) (Nat.zero_add _) rfl rfl (Nat.le_of_ble_eq_true rfl) (Nat.le_of_ble_eq_true rfl) (ih (p + 1) (d - 1) u _ (by omega) (by omega) ?_)
    refine s_istore (pc' := 21) dX6_mostTwos_19 rfl (Nat.le_of_ble_eq_true rfl) rfl ls4 ?_
    refine s_aload_n (pc' := 22) dX6_mostTwos_21 rfl lg0 rfl ?_
    refine s_getRv (pc' := 25) (v := .ref 14) dX6_mostTwos_22 rfl flX6_266 ly10 (by decide) rfl rfl ?_
    refine s_iload_n (pc' := 26) dX6_mostTwos_25 rfl lg2 ?_
    refine s_ialdNv (pc' := 27) (v := σ 4 p) dX6_mostTwos_26 rfl ly14 (by omega) (by decide) (hS.2.2.2.2 p (by omega)).2.2.2.2 ?_
    refine s_if_eq (pc' := 30) (tgt := 33) dX6_mostTwos_27 rfl (by decide) (fun c1 => ?_) (fun c1 => ?_)
    · skip
      rw [if_pos c1] at K
      refine s_iconst (pc' := 34) dX6_mostTwos_33 rfl iconst_0 ?_
      refine s_istore (pc' := 36) dX6_mostTwos_34 rfl (Nat.le_of_ble_eq_true rfl) rfl ls5 ?_
      have loop : ∀ (m i : Nat), i + m = n → Sim z d 0 0 mX6_mostTwos 36 [.ref 10, .int x, .int (nI p), .int u, .int (mtl (fun o => decide (u &&& b1I o = 0) && woB σ p o x) (fun o => mtw σ n x k (p + 1) (u ||| b1I o)) (mtw σ n x k (p + 1) u) i), .int (nI i)] [] (LAY rf tl) mem Q := by
        intro m
        induction m with
        | zero =>
          intro i hi
          have : i = n := by omega
          subst this
          refine s_iload (pc' := 38) dX6_mostTwos_36 rfl lg5 ?_
          refine s_aload_n (pc' := 39) dX6_mostTwos_38 rfl lg0 rfl ?_
          refine s_getI (pc' := 42) dX6_mostTwos_39 rfl flX6_189 ly10 (by decide) rfl ?_
          refine s_icmp_ge (pc' := 45) (tgt := 94) dX6_mostTwos_42 rfl (by decide) (fun _ => ?_) (fun c9 => absurd (by rw [hn]; exact nI_le (by omega) (by omega)) c9)
          refine s_iload (pc' := 96) dX6_mostTwos_94 rfl lg4 ?_
          refine s_iret dX6_mostTwos_96 rfl (vp_nar_int _) ?_
          exact K
        | succ m ihm =>
          intro i hi
          have hm := ihm (i + 1) (by omega)
          obtain ⟨-, e1, -, e3, e4⟩ := hS.2.2.2.2 p (by omega)
          obtain ⟨-, f1, -, f3, f4⟩ := hS.2.2.2.2 i (by omega)
          refine s_iload (pc' := 38) dX6_mostTwos_36 rfl lg5 ?_
          refine s_aload_n (pc' := 39) dX6_mostTwos_38 rfl lg0 rfl ?_
          refine s_getI (pc' := 42) dX6_mostTwos_39 rfl flX6_189 ly10 (by decide) rfl ?_
          refine s_icmp_ge (pc' := 45) (tgt := 94) dX6_mostTwos_42 rfl (by decide) (fun c9 => absurd c9 (by rw [hn]; exact nI_ge (by omega) (by omega))) (fun _ => ?_)
          refine s_iload_n (pc' := 46) dX6_mostTwos_45 rfl lg3 ?_
          refine s_iconst (pc' := 47) dX6_mostTwos_46 rfl iconst_1 ?_
          refine s_iload (pc' := 49) dX6_mostTwos_47 rfl lg5 ?_
          refine s_ishl (pc' := 50) dX6_mostTwos_49 rfl ?_
          refine s_iand (pc' := 51) dX6_mostTwos_50 rfl ?_
          refine s_if_ne (pc' := 54) (tgt := 88) dX6_mostTwos_51 rfl (by decide) (fun c2 => ?_) (fun c2 => ?_)
          · skip
            rw [mtl_f (by show (decide (u &&& b1I i = 0) && _) = false; rw [decide_eq_false (show ¬ u &&& b1I i = 0 from c2)]; rfl)] at hm
            refine s_iincN (pc' := 91) dX6_mostTwos_88 rfl lg5 rfl ls5 ?_
            refine s_goto (tgt := 36) dX6_mostTwos_91 (by decide) ?_
            exact hm
          · skip
            refine s_aload_n (pc' := 55) dX6_mostTwos_54 rfl lg0 rfl ?_
            refine s_iload_n (pc' := 56) dX6_mostTwos_55 rfl lg2 ?_
            refine s_iload (pc' := 58) dX6_mostTwos_56 rfl lg5 ?_
            refine s_iload_n (pc' := 59) dX6_mostTwos_58 rfl lg1 ?_
            refine c_X3_wereOne (b := 10) (n := n) (pc' := 62) dX6_mostTwos_59 rfl lkX6_269 (by omega) (Nat.le_of_ble_eq_true rfl) (Or.inl rfl) h8 (by omega) (by omega) ?_
            rw [e1, e3, e4, f1, f3, f4]
            by_cases hw : woB σ p i x = true
            · have ew : (if σ 4 p = σ 4 i then (0 : Int32) else if σ 1 p = σ 1 i then if x < apI (σ 3 p) (σ 3 i) then 0 else 1 else 0) = 1 := by
                unfold woB at hw
                simp only [Bool.and_eq_true, Bool.not_eq_true', decide_eq_true_eq, decide_eq_false_iff_not] at hw
                rw [if_neg hw.1.1, if_pos hw.1.2, if_neg hw.2]
              rw [ew]
              rw [mtl_t (by show (decide (u &&& b1I i = 0) && _) = true; rw [decide_eq_true (show u &&& b1I i = 0 from c2), hw]; rfl)] at hm
              refine s_if_eq (pc' := 65) (tgt := 88) dX6_mostTwos_62 rfl (by decide) (fun c9 => absurd c9 (by decide)) (fun _ => ?_)
              refine s_iload (pc' := 67) dX6_mostTwos_65 rfl lg4 ?_
              refine s_iconst (pc' := 68) dX6_mostTwos_67 rfl iconst_1 ?_
              refine s_aload_n (pc' := 69) dX6_mostTwos_68 rfl lg0 rfl ?_
              refine s_iload_n (pc' := 70) dX6_mostTwos_69 rfl lg1 ?_
              refine s_iload_n (pc' := 71) dX6_mostTwos_70 rfl lg2 ?_
              refine s_iconst (pc' := 72) dX6_mostTwos_71 rfl iconst_1 ?_
              refine s_iadd (pc' := 73) dX6_mostTwos_72 rfl ?_
              refine s_iload_n (pc' := 74) dX6_mostTwos_73 rfl lg3 ?_
              refine s_iconst (pc' := 75) dX6_mostTwos_74 rfl iconst_1 ?_
              refine s_iload (pc' := 77) dX6_mostTwos_75 rfl lg5 ?_
              refine s_ishl (pc' := 78) dX6_mostTwos_77 rfl ?_
              refine s_ior (pc' := 79) dX6_mostTwos_78 rfl ?_
              rw [nI_1]
              refine s_invS (d2 := d - 1) (pc' := 82) dX6_mostTwos_79 rfl okX6_mostTwos lkX6_181 stX6_mostTwos (by omega) (Nat.zero_add _) (Nat.zero_add _) rfl rfl (Nat.le_of_ble_eq_true rfl) (Nat.le_of_ble_eq_true rfl) (ih (p + 1) (d - 1) (u ||| b1I i) _ (by omega) (by omega) ?_)
              refine s_iadd (pc' := 83) dX6_mostTwos_82 rfl ?_
              refine c_J9_max_7cf53 (pc' := 86) dX6_mostTwos_83 rfl lkX6_259 (by omega) (Nat.le_of_ble_eq_true rfl)  ?_
              refine s_istore (pc' := 88) dX6_mostTwos_86 rfl (Nat.le_of_ble_eq_true rfl) rfl ls4 ?_
              refine s_iincN (pc' := 91) dX6_mostTwos_88 rfl lg5 rfl ls5 ?_
              refine s_goto (tgt := 36) dX6_mostTwos_91 (by decide) ?_
              exact hm
            · have ew : (if σ 4 p = σ 4 i then (0 : Int32) else if σ 1 p = σ 1 i then if x < apI (σ 3 p) (σ 3 i) then 0 else 1 else 0) = 0 := by
                by_cases q1 : σ 4 p = σ 4 i
                · rw [if_pos q1]
                · rw [if_neg q1]
                  by_cases q2 : σ 1 p = σ 1 i
                  · rw [if_pos q2]
                    by_cases q3 : x < apI (σ 3 p) (σ 3 i)
                    · rw [if_pos q3]
                    · exact absurd (by unfold woB; rw [decide_eq_false q1, decide_eq_true q2, decide_eq_false q3]; rfl) hw
                  · rw [if_neg q2]
              rw [ew]
              rw [mtl_f (by show (_ && woB σ p i x) = false; rw [Bool.eq_false_iff.mpr hw, Bool.and_false])] at hm
              refine s_if_eq (pc' := 65) (tgt := 88) dX6_mostTwos_62 rfl (by decide) (fun _ => ?_) (fun c9 => absurd (by decide) c9)
              refine s_iincN (pc' := 91) dX6_mostTwos_88 rfl lg5 rfl ls5 ?_
              refine s_goto (tgt := 36) dX6_mostTwos_91 (by decide) ?_
              exact hm
      exact loop n 0 (by omega)
    · skip
      rw [if_neg c1] at K
      refine s_iload (pc' := 32) dX6_mostTwos_30 rfl lg4 ?_
      refine s_iret dX6_mostTwos_32 rfl (vp_nar_int _) ?_
      exact K
def twoR (σ : Nat → Nat → Int32) (n : Nat) (x : Int32) : Int32 := if inB x 0 6 = 0 then -2 else mtw σ n x n 0 0
set_option maxHeartbeats 4000000 in
theorem m_X6_twos {z : Zz} {d : Nat} {Q : Option Value → Lay → Mem → Prop} {rf : Nat → Value} {tl : Lay} {mem : Mem}  {n : Nat} {σ : Nat → Nat → Int32} {td ru x : Int32} (hdd : 12 ≤ d) (hS : isS 10 mem σ n td ru) (K :  Q (some (.int (twoR σ n x))) (LAY rf tl) mem) : Sim z d 0 0 mX6_twos 0 [.ref 0, .int x] [] (LAY rf tl) mem Q := by
  have h8 := hS.2.1
  unfold twoR at K
  refine s_iload_n (pc' := 1) dX6_twos_0 rfl lg1 ?_
  refine s_iconst (pc' := 2) dX6_twos_1 rfl iconst_0 ?_
  refine s_bipush (pc' := 4) dX6_twos_2 rfl bipush_6 ?_
  refine c_X6_isIn  (pc' := 7) dX6_twos_4 rfl lkX6_56 (by omega) (Nat.le_of_ble_eq_true rfl) ?_
  refine s_if_ne (pc' := 10) (tgt := 13) dX6_twos_7 rfl (by decide) (fun c1 => ?_) (fun c1 => ?_)
  · skip
    rw [if_neg c1] at K
    refine s_aload_n (pc' := 14) dX6_twos_13 rfl lg0 rfl ?_
    refine s_getRv (pc' := 17) (v := .ref 10) dX6_twos_14 rfl flX6_28 ly0 (by decide) rfl rfl ?_
    refine s_iload_n (pc' := 18) dX6_twos_17 rfl lg1 ?_
    refine s_iconst (pc' := 19) dX6_twos_18 rfl iconst_0 ?_
    refine s_iconst (pc' := 20) dX6_twos_19 rfl iconst_0 ?_
    refine s_invS (d2 := d - 1) (pc' := 23) dX6_twos_20 rfl okX6_mostTwos lkX6_181 stX6_mostTwos (by omega) (Nat.zero_add _) (Nat.zero_add _) rfl rfl (Nat.le_of_ble_eq_true rfl) (Nat.le_of_ble_eq_true rfl) (mt_all hS n 0 (d - 1) 0 _ (by omega) (by omega) ?_)
    refine s_iret dX6_twos_23 rfl (vp_nar_int _) ?_
    exact K
  · skip
    rw [if_pos c1] at K
    refine s_bipush (pc' := 12) dX6_twos_10 rfl bipush_m2 ?_
    refine s_iret dX6_twos_12 rfl (vp_nar_int _) ?_
    exact K
theorem c_X6_twos {z : Zz} {d kc ks : Nat} {mi : MI} {pc pc' : Nat} {L S : List Value} {Q : Option Value → Lay → Mem → Prop} {rf : Nat → Value} {tl : Lay} {mem : Mem}  {n : Nat} {σ : Nat → Nat → Int32} {td ru x : Int32} {idx : Nat} (hd : decode mi.2.1 pc = .ok (.invokevirtual idx, 3)) (hp : pc + 3 = pc') (hlk : Cond.methodLink mi.1.cls idx yX6_twos ∈ wok) (hdd : 12 + 1 ≤ d) (hcat : (S.map (fun v => v.category)).sum ≤ 8) (hS : isS 10 mem σ n td ru) (K :  Sim z d kc ks mi pc' L (.int (twoR σ n x) :: S) (LAY rf tl) mem Q) : Sim z d kc ks mi pc L (.int x :: .ref 0 :: S) (LAY rf tl) mem Q :=
  s_invV (d2 := 12) hd hp okX6_twos hlk inX6_twos seX6_twos hdd (Nat.zero_add _) (Nat.zero_add _) rfl rfl ly0 rfl hcat (Nat.le_of_ble_eq_true rfl) (m_X6_twos (Nat.le_refl _) hS K)

