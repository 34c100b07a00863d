/-! ===== the Model: hurts, isTwo, isSheet ===== -/
set_option maxHeartbeats 4000000 in
theorem m_X7_isSheet {z : Zz} {d : Nat} {Q : Option Value → Lay → Mem → Prop} {lay : Lay} {mem : Mem} {v : Int32} (hdd : 1 ≤ d)  (K :  Q (some (.int (shB v))) lay mem) : Sim z d 0 0 mX7_isSheet 0 [.int v] [] (lay) mem Q := by
  refine s_iload_n (pc' := 1) dX7_isSheet_0 rfl lg0 ?_
  refine s_iconst (pc' := 2) dX7_isSheet_1 rfl iconst_0 ?_
  refine s_iconst (pc' := 3) dX7_isSheet_2 rfl iconst_3 ?_
  refine c_X7_isIn  (pc' := 6) dX7_isSheet_3 rfl lkX7_86 (by omega) (Nat.le_of_ble_eq_true rfl) ?_
  have e : inB v 0 3 = shB v := by
    unfold inB shB
    by_cases h1 : v < 0
    · rw [if_pos h1, if_pos h1]
    · rw [if_neg h1, if_neg h1]
      obtain ⟨j, hj, rfl⟩ := nI_of h1
      have p1 : (3 < nI j) = (3 < j) := propext (nI_ltI (a := 3) (by omega) hj)
      have p2 : (4 ≤ nI j) = (4 ≤ j) := propext (nI_leI (a := 4) (by omega) hj)
      rcases Nat.lt_or_ge 3 j with q | q
      · rw [if_pos (by rw [p1]; exact q), if_pos (by rw [p2]; exact q)]
      · rw [if_neg (by rw [p1]; omega), if_neg (by rw [p2]; omega)]
  rw [e]
  refine s_iret dX7_isSheet_6 rfl ?_ K
  unfold shB
  split
  · decide
  · split <;> decide
theorem c_X7_isSheet {z : Zz} {d kc ks : Nat} {mi : MI} {pc pc' : Nat} {L S : List Value} {Q : Option Value → Lay → Mem → Prop} {lay : Lay} {mem : Mem} {v : Int32} {idx : Nat} (hd : decode mi.2.1 pc = .ok (.invokestatic idx, 3)) (hp : pc + 3 = pc') (hlk : Cond.methodLink mi.1.cls idx yX7_isSheet ∈ wok) (hdd : 1 + 1 ≤ d) (hcat : (S.map (fun v => v.category)).sum ≤ 8)  (K :  Sim z d kc ks mi pc' L (.int (shB v) :: S) lay mem Q) : Sim z d kc ks mi pc L (.int v :: S) (lay) mem Q :=
  s_invS (d2 := 1) hd hp okX7_isSheet hlk stX7_isSheet hdd (Nat.zero_add _) (Nat.zero_add _) rfl rfl hcat (Nat.le_of_ble_eq_true rfl) (m_X7_isSheet (Nat.le_refl _)  K)

