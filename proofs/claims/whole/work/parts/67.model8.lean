/-! ===== the Model: sheets, walk ===== -/
def isMR (mem : Mem) (so : Nat → Int32) (sz : Nat → Nat) (it : Nat → Nat → Int32) : Prop := ∀ j, j < 4 → mem 61 j = so j ∧ mem 62 j = nI (sz j) ∧ sz j ≤ 40 ∧ ∀ k, k < sz j → mem 63 (40 * j + k) = it j k
theorem mI40 {j i : Nat} : 40 * nI j + nI i = nI (40 * j + i) := by
  rw [show (40 : Int32) * nI j = nI (40 * j) from (Int32.ofNat_mul 40 j).symm, nI_add]
set_option maxHeartbeats 4000000 in
theorem m_X7_walk {z : Zz} {d : Nat} {Q : Option Value → Lay → Mem → Prop} {rf : Nat → Value} {tl : Lay} {mem : Mem}  {n : Nat} {σ : Nat → Nat → Int32} {td ru s : Int32} {so : Nat → Int32} {sz : Nat → Nat} {it : Nat → Nat → Int32} (hdd : 2 ≤ d) (hM : isM 48 mem σ n td ru) (hR : isMR mem so sz it) (K :  Q (some (.int (walR σ n so sz it s))) (LAY rf tl) mem) : Sim z d 0 0 mX7_walk 0 [.ref 47, .int s, .float 0, .float 0, .float 0, .float 0] [] (LAY rf tl) mem Q := by
  unfold walR at K
  refine s_iload_n (pc' := 1) dX7_walk_0 rfl lg1 ?_
  refine c_X7_isSheet  (pc' := 4) dX7_walk_1 rfl lkX7_245 (by omega) (Nat.le_of_ble_eq_true rfl) ?_
  refine s_if_ne (pc' := 7) (tgt := 10) dX7_walk_4 rfl (by decide) (fun c1 => ?_) (fun c1 => ?_)
  · skip
    rcases sh_or s with h | ⟨j, hj, rfl, -⟩
    · exact absurd h c1
    obtain ⟨r1, r2, r3, r4⟩ := hR j hj
    rw [if_neg c1, ix_nI (by omega)] at K
    refine s_aload_n (pc' := 11) dX7_walk_10 rfl lg0 rfl ?_
    refine s_getRv (pc' := 14) (v := .ref 61) dX7_walk_11 rfl flX7_58 ly47 (by decide) rfl rfl ?_
    refine s_iload_n (pc' := 15) dX7_walk_14 rfl lg1 ?_
    refine s_ialdNv (pc' := 16) (v := so j) dX7_walk_15 rfl ly61 (by omega) (by decide) r1 ?_
    refine s_iconst (pc' := 17) dX7_walk_16 rfl iconst_m1 ?_
    refine s_icmp_ne (pc' := 20) (tgt := 23) dX7_walk_17 rfl (by decide) (fun c2 => ?_) (fun c2 => ?_)
    · skip
      rw [if_neg c2] at K
      refine s_iconst (pc' := 24) dX7_walk_23 rfl iconst_0 ?_
      refine s_istore_n (pc' := 25) dX7_walk_24 rfl (Nat.le_of_ble_eq_true rfl) rfl ls2 ?_
      refine s_iconst (pc' := 26) dX7_walk_25 rfl iconst_1 ?_
      refine s_istore_n (pc' := 27) dX7_walk_26 rfl (Nat.le_of_ble_eq_true rfl) rfl ls3 ?_
      refine s_iconst (pc' := 28) dX7_walk_27 rfl iconst_0 ?_
      refine s_istore (pc' := 30) dX7_walk_28 rfl (Nat.le_of_ble_eq_true rfl) rfl ls4 ?_
      have loop : ∀ (k i : Nat) (x : Value), i + k = sz j → Sim z d 0 0 mX7_walk 30 [.ref 47, .int (nI j), .int (nI (ct (fun k => hurB σ n (it j k)) i)), .int (if ct (fun k => decide (inB (it j k) 0 11 = 0)) i = 0 then 1 else 0), .int (nI i), x] [] (LAY rf tl) mem Q := by
        intro k
        induction k with
        | zero =>
          intro i x hi
          have : i = sz j := by omega
          subst this
          refine s_iload (pc' := 32) dX7_walk_30 rfl lg4 ?_
          refine s_aload_n (pc' := 33) dX7_walk_32 rfl lg0 rfl ?_
          refine s_getRv (pc' := 36) (v := .ref 62) dX7_walk_33 rfl flX7_61 ly47 (by decide) rfl rfl ?_
          refine s_iload_n (pc' := 37) dX7_walk_36 rfl lg1 ?_
          refine s_ialdNv (pc' := 38) (v := nI (sz j)) dX7_walk_37 rfl ly62 (by omega) (by decide) r2 ?_
          refine s_icmp_ge (pc' := 41) (tgt := 99) dX7_walk_38 rfl (by decide) (fun _ => ?_) (fun c9 => absurd (nI_le (Nat.le_refl _) (by omega)) c9)
          by_cases hc : ct (fun k => decide (inB (it j k) 0 11 = 0)) (sz j) = 0
          · rw [if_pos hc] at K ⊢
            refine s_iload_n (pc' := 100) dX7_walk_99 rfl lg3 ?_
            refine s_if_eq (pc' := 103) (tgt := 107) dX7_walk_100 rfl (by decide) (fun c9 => absurd c9 (by decide)) (fun _ => ?_)
            refine s_iload_n (pc' := 104) dX7_walk_103 rfl lg2 ?_
            refine s_goto (tgt := 109) dX7_walk_104 (by decide) ?_
            refine s_iret dX7_walk_109 rfl (vp_nar_int _) ?_
            exact K
          · rw [if_neg hc] at K ⊢
            refine s_iload_n (pc' := 100) dX7_walk_99 rfl lg3 ?_
            refine s_if_eq (pc' := 103) (tgt := 107) dX7_walk_100 rfl (by decide) (fun _ => ?_) (fun c9 => absurd (by decide) c9)
            refine s_bipush (pc' := 109) dX7_walk_107 rfl bipush_m2 ?_
            refine s_iret dX7_walk_109 rfl (vp_nar_int _) ?_
            exact K
        | succ k ih =>
          intro i x hi
          have h1 := ih (i + 1) (.int (it j i)) (by omega)
          rw [ct, ct] at h1
          have t76 : ∀ b : Int32, b = (if ct (fun k => decide (inB (it j k) 0 11 = 0)) i + (if decide (inB (it j i) 0 11 = 0) then 1 else 0) = 0 then 1 else 0) → Sim z d 0 0 mX7_walk 75 [.ref 47, .int (nI j), .int (nI (ct (fun k => hurB σ n (it j k)) i)), .int (if ct (fun k => decide (inB (it j k) 0 11 = 0)) i = 0 then 1 else 0), .int (nI i), .int (it j i)] [.int b] (LAY rf tl) mem Q := by
            intro b hb
            rw [← hb] at h1
            refine s_istore_n (pc' := 76) dX7_walk_75 rfl (Nat.le_of_ble_eq_true rfl) rfl ls3 ?_
            refine s_iload_n (pc' := 77) dX7_walk_76 rfl lg2 ?_
            refine s_aload_n (pc' := 78) dX7_walk_77 rfl lg0 rfl ?_
            refine s_iload (pc' := 80) dX7_walk_78 rfl lg5 ?_
            refine c_X7_hurts  (pc' := 83) dX7_walk_80 rfl lkX7_248 (by omega) (Nat.le_of_ble_eq_true rfl) hM ?_
            cases hh : hurB σ n (it j i) with
            | true =>
              rw [hh, if_pos rfl] at h1
              refine s_if_eq (pc' := 86) (tgt := 90) dX7_walk_83 rfl (by decide) (fun c9 => absurd c9 (by decide)) (fun _ => ?_)
              refine s_iconst (pc' := 87) dX7_walk_86 rfl iconst_1 ?_
              refine s_goto (tgt := 91) dX7_walk_87 (by decide) ?_
              refine s_iadd (pc' := 92) dX7_walk_91 rfl ?_
              rw [nI_1]
              refine s_istore_n (pc' := 93) dX7_walk_92 rfl (Nat.le_of_ble_eq_true rfl) rfl ls2 ?_
              refine s_iincN (pc' := 96) dX7_walk_93 rfl lg4 rfl ls4 ?_
              refine s_goto (tgt := 30) dX7_walk_96 (by decide) ?_
              exact h1
            | false =>
              rw [hh, if_neg Bool.false_ne_true] at h1
              refine s_if_eq (pc' := 86) (tgt := 90) dX7_walk_83 rfl (by decide) (fun _ => ?_) (fun c9 => absurd (by decide) c9)
              refine s_iconst (pc' := 91) dX7_walk_90 rfl iconst_0 ?_
              refine s_iadd (pc' := 92) dX7_walk_91 rfl ?_
              rw [show nI (ct (fun k => hurB σ n (it j k)) i) + 0 = nI (ct (fun k => hurB σ n (it j k)) i + 0) from nI_add _ 0]
              refine s_istore_n (pc' := 93) dX7_walk_92 rfl (Nat.le_of_ble_eq_true rfl) rfl ls2 ?_
              refine s_iincN (pc' := 96) dX7_walk_93 rfl lg4 rfl ls4 ?_
              refine s_goto (tgt := 30) dX7_walk_96 (by decide) ?_
              exact h1
          refine s_iload (pc' := 32) dX7_walk_30 rfl lg4 ?_
          refine s_aload_n (pc' := 33) dX7_walk_32 rfl lg0 rfl ?_
          refine s_getRv (pc' := 36) (v := .ref 62) dX7_walk_33 rfl flX7_61 ly47 (by decide) rfl rfl ?_
          refine s_iload_n (pc' := 37) dX7_walk_36 rfl lg1 ?_
          refine s_ialdNv (pc' := 38) (v := nI (sz j)) dX7_walk_37 rfl ly62 (by omega) (by decide) r2 ?_
          refine s_icmp_ge (pc' := 41) (tgt := 99) dX7_walk_38 rfl (by decide) (fun c9 => absurd c9 (nI_ge (by omega) (by omega))) (fun _ => ?_)
          refine s_aload_n (pc' := 42) dX7_walk_41 rfl lg0 rfl ?_
          refine s_getRv (pc' := 45) (v := .ref 63) dX7_walk_42 rfl flX7_64 ly47 (by decide) rfl rfl ?_
          refine s_bipush (pc' := 47) dX7_walk_45 rfl bipush_40 ?_
          refine s_iload_n (pc' := 48) dX7_walk_47 rfl lg1 ?_
          refine s_imul (pc' := 49) dX7_walk_48 rfl ?_
          refine s_iload (pc' := 51) dX7_walk_49 rfl lg4 ?_
          refine s_iadd (pc' := 52) dX7_walk_51 rfl ?_
          rw [mI40]
          refine s_ialdNv (pc' := 53) (v := it j i) dX7_walk_52 rfl ly63 (by omega) (by decide) (r4 i (by omega)) ?_
          refine s_istore (pc' := 55) dX7_walk_53 rfl (Nat.le_of_ble_eq_true rfl) rfl ls5 ?_
          refine s_iload_n (pc' := 56) dX7_walk_55 rfl lg3 ?_
          by_cases hc : ct (fun k => decide (inB (it j k) 0 11 = 0)) i = 0
          · rw [if_pos hc] at t76 ⊢
            refine s_if_eq (pc' := 59) (tgt := 74) dX7_walk_56 rfl (by decide) (fun c9 => absurd c9 (by decide)) (fun _ => ?_)
            refine s_iload (pc' := 61) dX7_walk_59 rfl lg5 ?_
            refine s_iconst (pc' := 62) dX7_walk_61 rfl iconst_0 ?_
            refine s_bipush (pc' := 64) dX7_walk_62 rfl bipush_11 ?_
            refine c_X7_isIn  (pc' := 67) dX7_walk_64 rfl lkX7_86 (by omega) (Nat.le_of_ble_eq_true rfl) ?_
            refine s_if_eq (pc' := 70) (tgt := 74) dX7_walk_67 rfl (by decide) (fun c3 => ?_) (fun c3 => ?_)
            · skip
              refine s_iconst (pc' := 75) dX7_walk_74 rfl iconst_0 ?_
              exact t76 0 (by rw [decide_eq_true c3, if_pos rfl, if_neg (by omega)])
            · skip
              refine s_iconst (pc' := 71) dX7_walk_70 rfl iconst_1 ?_
              refine s_goto (tgt := 75) dX7_walk_71 (by decide) ?_
              exact t76 1 (by rw [decide_eq_false c3, if_neg Bool.false_ne_true, hc, if_pos rfl])
          · rw [if_neg hc] at t76 ⊢
            refine s_if_eq (pc' := 59) (tgt := 74) dX7_walk_56 rfl (by decide) (fun _ => ?_) (fun c9 => absurd (by decide) c9)
            refine s_iconst (pc' := 75) dX7_walk_74 rfl iconst_0 ?_
            exact t76 0 (by rw [if_neg (by omega)])
      exact loop (sz j) 0 _ (by omega)
    · skip
      rw [if_pos c2] at K
      refine s_bipush (pc' := 22) dX7_walk_20 rfl bipush_m11 ?_
      refine s_iret dX7_walk_22 rfl (vp_nar_int _) ?_
      exact K
  · skip
    rw [if_pos c1] at K
    refine s_bipush (pc' := 9) dX7_walk_7 rfl bipush_m2 ?_
    refine s_iret dX7_walk_9 rfl (vp_nar_int _) ?_
    exact K
theorem c_X7_walk {z : Zz} {d kc ks : Nat} {mi : MI} {pc pc' : Nat} {L S : List Value} {Q : Option Value → Lay → Mem → Prop} {rf : Nat → Value} {tl : Lay} {mem : Mem}  {n : Nat} {σ : Nat → Nat → Int32} {td ru s : Int32} {so : Nat → Int32} {sz : Nat → Nat} {it : Nat → Nat → Int32} {idx : Nat} (hd : decode mi.2.1 pc = .ok (.invokevirtual idx, 3)) (hp : pc + 3 = pc') (hlk : Cond.methodLink mi.1.cls idx yX7_walk ∈ wok) (hdd : 2 + 1 ≤ d) (hcat : (S.map (fun v => v.category)).sum ≤ 8) (hM : isM 48 mem σ n td ru) (hR : isMR mem so sz it) (K :  Sim z d kc ks mi pc' L (.int (walR σ n so sz it s) :: S) (LAY rf tl) mem Q) : Sim z d kc ks mi pc L (.int s :: .ref 47 :: S) (LAY rf tl) mem Q :=
  s_invV (d2 := 2) hd hp okX7_walk hlk inX7_walk seX7_walk hdd (Nat.zero_add _) (Nat.zero_add _) rfl rfl ly47 rfl hcat (Nat.le_of_ble_eq_true rfl) (m_X7_walk (Nat.le_refl _) hM hR K)

