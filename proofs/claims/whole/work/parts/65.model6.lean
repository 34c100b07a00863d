/-! ===== the Model: place, set ===== -/
set_option maxHeartbeats 4000000 in
theorem m_X7_place_0 {z : Zz} {d : Nat} {Q : Option Value → Lay → Mem → Prop} {rf : Nat → Value} {tl : Lay} {mem : Mem}  {o : Int32} (hdd : 0 ≤ d)  (K :  Q (some (.int 41)) (LAY rf tl) mem) : Sim z d 0 0 mX7_place 0 [.ref 47, .int 0, .int o] [] (LAY rf tl) mem Q := by
  refine s_iload_n (pc' := 1) dX7_place_0 rfl lg1 ?_
  refine s_if_ne (pc' := 4) (tgt := 9) dX7_place_1 rfl (by decide) (fun c9 => absurd (by decide) c9) (fun _ => ?_)
  refine s_bipush (pc' := 6) dX7_place_4 rfl bipush_41 ?_
  refine s_goto (tgt := 26) dX7_place_6 (by decide) ?_
  refine s_iret dX7_place_26 rfl (vp_nar_int _) ?_
  exact K
theorem c_X7_place_0 {z : Zz} {d kc ks : Nat} {mi : MI} {pc pc' : Nat} {L S : List Value} {Q : Option Value → Lay → Mem → Prop} {rf : Nat → Value} {tl : Lay} {mem : Mem}  {o : Int32} {idx : Nat} (hd : decode mi.2.1 pc = .ok (.invokevirtual idx, 3)) (hp : pc + 3 = pc') (hlk : Cond.methodLink mi.1.cls idx yX7_place ∈ wok) (hdd : 0 + 1 ≤ d) (hcat : (S.map (fun v => v.category)).sum ≤ 8)  (K :  Sim z d kc ks mi pc' L (.int 41 :: S) (LAY rf tl) mem Q) : Sim z d kc ks mi pc L (.int o :: .int 0 :: .ref 47 :: S) (LAY rf tl) mem Q :=
  s_invV (d2 := 0) hd hp okX7_place hlk inX7_place seX7_place hdd (Nat.zero_add _) (Nat.zero_add _) rfl rfl ly47 rfl hcat (Nat.le_of_ble_eq_true rfl) (m_X7_place_0 (Nat.le_refl _)  K)
set_option maxHeartbeats 4000000 in
theorem m_X7_place_s {z : Zz} {d : Nat} {Q : Option Value → Lay → Mem → Prop} {rf : Nat → Value} {tl : Lay} {mem : Mem}  {n w : Nat} {o : Int32} (hdd : 2 ≤ d) (hn : mem 48 40 = nI n) (h8 : n ≤ 8) (hw : 1 ≤ w) (hw5 : w < 1000) (K :  Q (some (.int (if pcB o (nI n) = 0 then -1 else nI (5 * ix o + w)))) (LAY rf tl) mem) : Sim z d 0 0 mX7_place 0 [.ref 47, .int (nI w), .int o] [] (LAY rf tl) mem Q := by
  refine s_iload_n (pc' := 1) dX7_place_0 rfl lg1 ?_
  refine s_if_ne (pc' := 4) (tgt := 9) dX7_place_1 rfl (by decide) (fun _ => ?_) (fun c9 => absurd c9 (nI_ne0 (by omega) (by omega)))
  refine s_aload_n (pc' := 10) dX7_place_9 rfl lg0 rfl ?_
  refine s_iload_n (pc' := 11) dX7_place_10 rfl lg2 ?_
  refine c_X7_isPiece  (pc' := 14) dX7_place_11 rfl lkX7_94 (by omega) (Nat.le_of_ble_eq_true rfl) hn h8 ?_
  refine s_if_eq (pc' := 17) (tgt := 25) dX7_place_14 rfl (by decide) (fun c1 => ?_) (fun c1 => ?_)
  · skip
    rw [if_pos c1] at K
    refine s_iconst (pc' := 26) dX7_place_25 rfl iconst_m1 ?_
    refine s_iret dX7_place_26 rfl (vp_nar_int _) ?_
    exact K
  · skip
    rcases pc_or o (n := n) (by omega) with q | ⟨a, ha, rfl, -⟩
    · exact absurd q c1
    rw [if_neg c1, ix_nI (by omega)] at K
    refine s_iconst (pc' := 18) dX7_place_17 rfl iconst_5 ?_
    refine s_iload_n (pc' := 19) dX7_place_18 rfl lg2 ?_
    refine s_imul (pc' := 20) dX7_place_19 rfl ?_
    refine s_iload_n (pc' := 21) dX7_place_20 rfl lg1 ?_
    refine s_iadd (pc' := 22) dX7_place_21 rfl ?_
    rw [mI5 rfl]
    refine s_goto (tgt := 26) dX7_place_22 (by decide) ?_
    refine s_iret dX7_place_26 rfl (vp_nar_int _) ?_
    exact K
theorem c_X7_place_s {z : Zz} {d kc ks : Nat} {mi : MI} {pc pc' : Nat} {L S : List Value} {Q : Option Value → Lay → Mem → Prop} {rf : Nat → Value} {tl : Lay} {mem : Mem}  {n w : Nat} {o : Int32} {idx : Nat} (hd : decode mi.2.1 pc = .ok (.invokevirtual idx, 3)) (hp : pc + 3 = pc') (hlk : Cond.methodLink mi.1.cls idx yX7_place ∈ wok) (hdd : 2 + 1 ≤ d) (hcat : (S.map (fun v => v.category)).sum ≤ 8) (hn : mem 48 40 = nI n) (h8 : n ≤ 8) (hw : 1 ≤ w) (hw5 : w < 1000) (K :  Sim z d kc ks mi pc' L (.int (if pcB o (nI n) = 0 then -1 else nI (5 * ix o + w)) :: S) (LAY rf tl) mem Q) : Sim z d kc ks mi pc L (.int o :: .int (nI w) :: .ref 47 :: S) (LAY rf tl) mem Q :=
  s_invV (d2 := 2) hd hp okX7_place hlk inX7_place seX7_place hdd (Nat.zero_add _) (Nat.zero_add _) rfl rfl ly47 rfl hcat (Nat.le_of_ble_eq_true rfl) (m_X7_place_s (Nat.le_refl _) hn h8 hw hw5 K)

