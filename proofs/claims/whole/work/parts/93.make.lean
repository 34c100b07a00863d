/-! ===== the makings ===== -/
theorem nwE {m : Mem} {i : Nat} : am_nw m i i = fun _ => 0 := if_pos rfl
theorem nwN {m : Mem} {i j : Nat} (h : j ≠ i) : am_nw m i j = m j := if_neg h
theorem ap_get {l0 X : Lay} {t m : Nat} (ht : l0.length = t) : (l0 ++ X)[t + m]? = X[m]? := by
  rw [← ht, List.getElem?_append_right (by omega), Nat.add_sub_cancel_left]
theorem ap_set {l0 X : Lay} {t m : Nat} {c : Nat × Nat × (Nat → Value)} (ht : l0.length = t) : (l0 ++ X).set (t + m) c = l0 ++ X.set m c := by
  rw [← ht, List.set_append_right _ _ (by omega), Nat.add_sub_cancel_left]
theorem ap_len {l0 X : Lay} {t m : Nat} (ht : l0.length = t) (hX : X.length = m) : (l0 ++ X).length = t + m := by rw [List.length_append, ht, hX]
section NW
variable {z : Zz} {d kc ks : Nat} {mi : MI} {pc pc' : Nat} {L S : List Value} {lay : Lay} {mem : Mem} {Q : Option Value → Lay → Mem → Prop}
theorem s_newaN {tg N nn : Nat} {n : Int32} {at' : ArrayType} {lay' : Lay} (hd : decode mi.2.1 pc = .ok (.newarray at', 2)) (hp : pc + 2 = pc') (hwk : Cond.arrayClass (newarray.typeOf at') ∈ wok) (htg : 8 ≤ tg ∧ tg < 11) (hty : newarray.typeOf at' = am_aty tg) (hn : ¬ n < 0) (hN : n.toNatClampNeg = N) (hb : N ≤ 1000) (hl : lay.length = nn) (ha : lay ++ [(tg, N, NUL)] = lay') (K : Sim z d kc ks mi pc' L (.ref nn :: S) lay' (am_nw mem nn) Q) : Sim z d (1 + kc) (N + ks) mi pc L (.int n :: S) lay mem Q := s_newa hd hp hwk htg hty hn hN hb (by rw [hl, show lay ++ [(tg, N, fun _ => Value.null)] = lay' from ha]; exact K)
theorem s_newqN {tg N idx nn : Nat} {n : Int32} {C : String} {lay' : Lay} (hd : decode mi.2.1 pc = .ok (.anewarray idx, 3)) (hp : pc + 3 = pc') (hwk : Cond.classLink mi.1.cls idx C ∈ wok) (htg : 11 ≤ tg) (hC : C = am_acl tg) (hn : ¬ n < 0) (hN : n.toNatClampNeg = N) (hb : N ≤ 1000) (hl : lay.length = nn) (ha : lay ++ [(tg, N, NUL)] = lay') (K : Sim z d kc ks mi pc' L (.ref nn :: S) lay' (am_nw mem nn) Q) : Sim z d (1 + kc) (N + ks) mi pc L (.int n :: S) lay mem Q := s_newq hd hp hwk htg hC hn hN hb (by rw [hl, show lay ++ [(tg, N, fun _ => Value.null)] = lay' from ha]; exact K)
theorem s_newN {idx ci N nn : Nat} {lay' : Lay} (hd : decode mi.2.1 pc = .ok (.new idx, 3)) (hp : pc + 3 = pc') (hn : am_nk mi.1.cls idx ci N) (hl : lay.length = nn) (ha : lay ++ [(ci, N, NUL)] = lay') (K : Sim z d kc ks mi pc' L (.ref nn :: S) lay' (am_nw mem nn) Q) : Sim z d (1 + kc) (N + ks) mi pc L S lay mem Q := s_new hd hp hn (by rw [hl, show lay ++ [(ci, N, fun _ => Value.null)] = lay' from ha]; exact K)
theorem s_putRN {idx ci k n id : Nat} {rf : Nat → Value} {v : Value} {ds : String} {ty : FieldType} {lay' : Lay} (hd : decode mi.2.1 pc = .ok (.putfield idx, 3)) (hp : pc + 3 = pc') (hf : am_fl mi.1.cls idx ci k) (hfw : am_fw ci k true ds) (hty : parseFieldDescriptor ds = some ty) (hrt : (∃ n, ty = .object n) ∨ ∃ t, ty = .array t) (hin : mi.1.name = "<init>") (hown : ∃ T N, classes[ci]? = some (mi.1.cls, T, N)) (hv : am_isA v = true) (hc : lay[id]? = some (ci, n, rf)) (hk : k < n) (hr : am_isR ci k = true) (hs : lay.set id (ci, n, va_up rf k v) = lay') (K : Sim z d kc ks mi pc' L S lay' mem Q) : Sim z d kc ks mi pc L (v :: .ref id :: S) lay mem Q := s_putR hd hp hf hfw hty hrt hin hown hv hc hk hr (by rw [hs]; exact K)
theorem s_aastN {tg n id id2 ci2 n2 i : Nat} {rf rf2 : Nat → Value} {q2 : vw_C} {x : Int32} {lay' : Lay} (hd : decode mi.2.1 pc = .ok (.aastore, 1)) (hp : pc + 1 = pc') (hc : lay[id]? = some (tg, n, rf)) (htg : 11 ≤ tg) (hin : vp_in x n) (hc2 : lay[id2]? = some (ci2, n2, rf2)) (hq2 : classes[ci2]? = some q2) (hcl : q2.1 = am_acl tg) (hi : x.toNatClampNeg = i) (hs : lay.set id (tg, n, va_up rf i (.ref id2)) = lay') (K : Sim z d kc ks mi pc' L S lay' mem Q) : Sim z d kc ks mi pc L (.ref id2 :: .int x :: .ref id :: S) lay mem Q := s_aast hd hp hc htg hin hc2 hq2 hcl (by rw [hi, hs]; exact K)
end NW
set_option maxHeartbeats 4000000 in
theorem m_X2_init {z : Zz} {d : Nat} {Q : Option Value → Lay → Mem → Prop} {l0 : Lay} {mem : Mem} {t : Nat} (hdd : 1 ≤ d) (ht : l0.length = t)  (K : ∀ mem', (∀ j, j < t → mem' j = mem j) → (mem' t 1 = -1) → (mem' t 2 = 0) → Q none (l0 ++ [(2, 3, va_up (NUL) 0 (.ref (t + 1))), (8, 40, NUL)]) mem') : Sim z d 1 40 mX2_init 0 [.ref t] [] (l0 ++ [(2, 3, NUL)]) mem Q := by
  refine s_aload_n (pc' := 1) dX2_init_0 rfl lg0 rfl ?_
  refine s_objInit (pc' := 4) dX2_init_1 rfl lkX2_3 oiI oiC (by omega) (Nat.le_of_ble_eq_true rfl) ?_
  refine s_aload_n (pc' := 5) dX2_init_4 rfl lg0 rfl ?_
  refine s_bipush (pc' := 7) dX2_init_5 rfl bipush_40 ?_
  refine s_newaN (kc := 0) (ks := 0) (tg := 8) (N := 40) (nn := t + 1) (lay' := (l0 ++ [(2, 3, NUL), (8, 40, NUL)])) (pc' := 9) dX2_init_7 rfl acI (by decide) rfl (by decide) (by decide) (by decide) (ap_len ht rfl) (by rw [List.append_assoc]; rfl) ?_
  refine s_putRN (id := t + 0) (lay' := (l0 ++ [(2, 3, va_up (NUL) 0 (.ref (t + 1))), (8, 40, NUL)])) (pc' := 12) dX2_init_9 rfl flX2_9 fw2_0 pf_7 (Or.inr ⟨_, rfl⟩) rfl ⟨_, _, rfl⟩ rfl (ap_get (m := 0) ht) (by decide) rfl (ap_set (m := 0) ht) ?_
  refine s_aload_n (pc' := 13) dX2_init_12 rfl lg0 rfl ?_
  refine s_iconst (pc' := 14) dX2_init_13 rfl iconst_m1 ?_
  refine s_putI (id := t + 0) (ty := .int) (pc' := 17) dX2_init_14 rfl flX2_15 fw2_1 pdI rfl rfl (ap_get (m := 0) ht) (by decide) rfl ?_
  refine s_aload_n (pc' := 18) dX2_init_17 rfl lg0 rfl ?_
  refine s_iconst (pc' := 19) dX2_init_18 rfl iconst_0 ?_
  refine s_putI (id := t + 0) (ty := .int) (pc' := 22) dX2_init_19 rfl flX2_19 fw2_2 pdI rfl rfl (ap_get (m := 0) ht) (by decide) rfl ?_
  refine s_vret dX2_init_22 rfl ?_
  refine K _ (fun j hj => ?_) ?_ ?_
  · simp (disch := omega) only [upN, nwN]
  · simp (disch := omega) only [Nat.add_zero, upE, upN, nwE, nwN, udE, udN]
  · simp (disch := omega) only [Nat.add_zero, upE, upN, nwE, nwN, udE, udN]
set_option maxHeartbeats 4000000 in
theorem m_X0_init {z : Zz} {d : Nat} {Q : Option Value → Lay → Mem → Prop} {l0 : Lay} {mem : Mem} {t : Nat} (hdd : 1 ≤ d) (ht : l0.length = t)  (K : ∀ mem', (∀ j, j < t → mem' j = mem j) → Q none (l0 ++ [(0, 4, va_up (va_up (va_up (NUL) 0 (.ref (t + 1))) 1 (.ref (t + 2))) 2 (.ref (t + 3))), (8, 8, NUL), (8, 8, NUL), (8, 8, NUL)]) mem') : Sim z d 3 24 mX0_init 0 [.ref t] [] (l0 ++ [(0, 4, NUL)]) mem Q := by
  refine s_aload_n (pc' := 1) dX0_init_0 rfl lg0 rfl ?_
  refine s_objInit (pc' := 4) dX0_init_1 rfl lkX0_3 oiI oiC (by omega) (Nat.le_of_ble_eq_true rfl) ?_
  refine s_aload_n (pc' := 5) dX0_init_4 rfl lg0 rfl ?_
  refine s_bipush (pc' := 7) dX0_init_5 rfl bipush_8 ?_
  refine s_newaN (kc := 2) (ks := 16) (tg := 8) (N := 8) (nn := t + 1) (lay' := (l0 ++ [(0, 4, NUL), (8, 8, NUL)])) (pc' := 9) dX0_init_7 rfl acI (by decide) rfl (by decide) (by decide) (by decide) (ap_len ht rfl) (by rw [List.append_assoc]; rfl) ?_
  refine s_putRN (id := t + 0) (lay' := (l0 ++ [(0, 4, va_up (NUL) 0 (.ref (t + 1))), (8, 8, NUL)])) (pc' := 12) dX0_init_9 rfl flX0_9 fw0_0 pf_7 (Or.inr ⟨_, rfl⟩) rfl ⟨_, _, rfl⟩ rfl (ap_get (m := 0) ht) (by decide) rfl (ap_set (m := 0) ht) ?_
  refine s_aload_n (pc' := 13) dX0_init_12 rfl lg0 rfl ?_
  refine s_bipush (pc' := 15) dX0_init_13 rfl bipush_8 ?_
  refine s_newaN (kc := 1) (ks := 8) (tg := 8) (N := 8) (nn := t + 2) (lay' := (l0 ++ [(0, 4, va_up (NUL) 0 (.ref (t + 1))), (8, 8, NUL), (8, 8, NUL)])) (pc' := 17) dX0_init_15 rfl acI (by decide) rfl (by decide) (by decide) (by decide) (ap_len ht rfl) (by rw [List.append_assoc]; rfl) ?_
  refine s_putRN (id := t + 0) (lay' := (l0 ++ [(0, 4, va_up (va_up (NUL) 0 (.ref (t + 1))) 1 (.ref (t + 2))), (8, 8, NUL), (8, 8, NUL)])) (pc' := 20) dX0_init_17 rfl flX0_15 fw0_1 pf_7 (Or.inr ⟨_, rfl⟩) rfl ⟨_, _, rfl⟩ rfl (ap_get (m := 0) ht) (by decide) rfl (ap_set (m := 0) ht) ?_
  refine s_aload_n (pc' := 21) dX0_init_20 rfl lg0 rfl ?_
  refine s_bipush (pc' := 23) dX0_init_21 rfl bipush_8 ?_
  refine s_newaN (kc := 0) (ks := 0) (tg := 8) (N := 8) (nn := t + 3) (lay' := (l0 ++ [(0, 4, va_up (va_up (NUL) 0 (.ref (t + 1))) 1 (.ref (t + 2))), (8, 8, NUL), (8, 8, NUL), (8, 8, NUL)])) (pc' := 25) dX0_init_23 rfl acI (by decide) rfl (by decide) (by decide) (by decide) (ap_len ht rfl) (by rw [List.append_assoc]; rfl) ?_
  refine s_putRN (id := t + 0) (lay' := (l0 ++ [(0, 4, va_up (va_up (va_up (NUL) 0 (.ref (t + 1))) 1 (.ref (t + 2))) 2 (.ref (t + 3))), (8, 8, NUL), (8, 8, NUL), (8, 8, NUL)])) (pc' := 28) dX0_init_25 rfl flX0_18 fw0_2 pf_7 (Or.inr ⟨_, rfl⟩) rfl ⟨_, _, rfl⟩ rfl (ap_get (m := 0) ht) (by decide) rfl (ap_set (m := 0) ht) ?_
  refine s_aload_n (pc' := 29) dX0_init_28 rfl lg0 rfl ?_
  refine s_iconst (pc' := 30) dX0_init_29 rfl iconst_0 ?_
  refine s_putI (id := t + 0) (ty := .int) (pc' := 33) dX0_init_30 rfl flX0_21 fw0_3 pdI rfl rfl (ap_get (m := 0) ht) (by decide) rfl ?_
  refine s_vret dX0_init_33 rfl ?_
  refine K _ (fun j hj => ?_) 
  · simp (disch := omega) only [upN, nwN]
set_option maxHeartbeats 4000000 in
theorem m_X3_init {z : Zz} {d : Nat} {Q : Option Value → Lay → Mem → Prop} {l0 : Lay} {mem : Mem} {t : Nat} (hdd : 1 ≤ d) (ht : l0.length = t)  (K : ∀ mem', (∀ j, j < t → mem' j = mem j) → (mem' t 8 = 0) → (mem' t 9 = 0) → (mem' t 10 = 0) → Q none (l0 ++ [(3, 11, va_up (va_up (va_up (va_up (va_up (va_up (va_up (va_up (NUL) 1 (.ref (t + 1))) 2 (.ref (t + 2))) 3 (.ref (t + 3))) 4 (.ref (t + 4))) 5 (.ref (t + 5))) 6 (.ref (t + 6))) 7 (.ref (t + 7))) 0 (.ref 1)), (8, 8, NUL), (8, 8, NUL), (8, 8, NUL), (8, 8, NUL), (8, 8, NUL), (8, 8, NUL), (8, 8, NUL)]) mem') : Sim z d 7 56 mX3_init 0 [.ref t, .ref 1] [] (l0 ++ [(3, 11, NUL)]) mem Q := by
  refine s_aload_n (pc' := 1) dX3_init_0 rfl lg0 rfl ?_
  refine s_objInit (pc' := 4) dX3_init_1 rfl lkX3_3 oiI oiC (by omega) (Nat.le_of_ble_eq_true rfl) ?_
  refine s_aload_n (pc' := 5) dX3_init_4 rfl lg0 rfl ?_
  refine s_bipush (pc' := 7) dX3_init_5 rfl bipush_8 ?_
  refine s_newaN (kc := 6) (ks := 48) (tg := 8) (N := 8) (nn := t + 1) (lay' := (l0 ++ [(3, 11, NUL), (8, 8, NUL)])) (pc' := 9) dX3_init_7 rfl acI (by decide) rfl (by decide) (by decide) (by decide) (ap_len ht rfl) (by rw [List.append_assoc]; rfl) ?_
  refine s_putRN (id := t + 0) (lay' := (l0 ++ [(3, 11, va_up (NUL) 1 (.ref (t + 1))), (8, 8, NUL)])) (pc' := 12) dX3_init_9 rfl flX3_9 fw3_1 pf_7 (Or.inr ⟨_, rfl⟩) rfl ⟨_, _, rfl⟩ rfl (ap_get (m := 0) ht) (by decide) rfl (ap_set (m := 0) ht) ?_
  refine s_aload_n (pc' := 13) dX3_init_12 rfl lg0 rfl ?_
  refine s_bipush (pc' := 15) dX3_init_13 rfl bipush_8 ?_
  refine s_newaN (kc := 5) (ks := 40) (tg := 8) (N := 8) (nn := t + 2) (lay' := (l0 ++ [(3, 11, va_up (NUL) 1 (.ref (t + 1))), (8, 8, NUL), (8, 8, NUL)])) (pc' := 17) dX3_init_15 rfl acI (by decide) rfl (by decide) (by decide) (by decide) (ap_len ht rfl) (by rw [List.append_assoc]; rfl) ?_
  refine s_putRN (id := t + 0) (lay' := (l0 ++ [(3, 11, va_up (va_up (NUL) 1 (.ref (t + 1))) 2 (.ref (t + 2))), (8, 8, NUL), (8, 8, NUL)])) (pc' := 20) dX3_init_17 rfl flX3_15 fw3_2 pf_7 (Or.inr ⟨_, rfl⟩) rfl ⟨_, _, rfl⟩ rfl (ap_get (m := 0) ht) (by decide) rfl (ap_set (m := 0) ht) ?_
  refine s_aload_n (pc' := 21) dX3_init_20 rfl lg0 rfl ?_
  refine s_bipush (pc' := 23) dX3_init_21 rfl bipush_8 ?_
  refine s_newaN (kc := 4) (ks := 32) (tg := 8) (N := 8) (nn := t + 3) (lay' := (l0 ++ [(3, 11, va_up (va_up (NUL) 1 (.ref (t + 1))) 2 (.ref (t + 2))), (8, 8, NUL), (8, 8, NUL), (8, 8, NUL)])) (pc' := 25) dX3_init_23 rfl acI (by decide) rfl (by decide) (by decide) (by decide) (ap_len ht rfl) (by rw [List.append_assoc]; rfl) ?_
  refine s_putRN (id := t + 0) (lay' := (l0 ++ [(3, 11, va_up (va_up (va_up (NUL) 1 (.ref (t + 1))) 2 (.ref (t + 2))) 3 (.ref (t + 3))), (8, 8, NUL), (8, 8, NUL), (8, 8, NUL)])) (pc' := 28) dX3_init_25 rfl flX3_18 fw3_3 pf_7 (Or.inr ⟨_, rfl⟩) rfl ⟨_, _, rfl⟩ rfl (ap_get (m := 0) ht) (by decide) rfl (ap_set (m := 0) ht) ?_
  refine s_aload_n (pc' := 29) dX3_init_28 rfl lg0 rfl ?_
  refine s_bipush (pc' := 31) dX3_init_29 rfl bipush_8 ?_
  refine s_newaN (kc := 3) (ks := 24) (tg := 8) (N := 8) (nn := t + 4) (lay' := (l0 ++ [(3, 11, va_up (va_up (va_up (NUL) 1 (.ref (t + 1))) 2 (.ref (t + 2))) 3 (.ref (t + 3))), (8, 8, NUL), (8, 8, NUL), (8, 8, NUL), (8, 8, NUL)])) (pc' := 33) dX3_init_31 rfl acI (by decide) rfl (by decide) (by decide) (by decide) (ap_len ht rfl) (by rw [List.append_assoc]; rfl) ?_
  refine s_putRN (id := t + 0) (lay' := (l0 ++ [(3, 11, va_up (va_up (va_up (va_up (NUL) 1 (.ref (t + 1))) 2 (.ref (t + 2))) 3 (.ref (t + 3))) 4 (.ref (t + 4))), (8, 8, NUL), (8, 8, NUL), (8, 8, NUL), (8, 8, NUL)])) (pc' := 36) dX3_init_33 rfl flX3_21 fw3_4 pf_7 (Or.inr ⟨_, rfl⟩) rfl ⟨_, _, rfl⟩ rfl (ap_get (m := 0) ht) (by decide) rfl (ap_set (m := 0) ht) ?_
  refine s_aload_n (pc' := 37) dX3_init_36 rfl lg0 rfl ?_
  refine s_bipush (pc' := 39) dX3_init_37 rfl bipush_8 ?_
  refine s_newaN (kc := 2) (ks := 16) (tg := 8) (N := 8) (nn := t + 5) (lay' := (l0 ++ [(3, 11, va_up (va_up (va_up (va_up (NUL) 1 (.ref (t + 1))) 2 (.ref (t + 2))) 3 (.ref (t + 3))) 4 (.ref (t + 4))), (8, 8, NUL), (8, 8, NUL), (8, 8, NUL), (8, 8, NUL), (8, 8, NUL)])) (pc' := 41) dX3_init_39 rfl acI (by decide) rfl (by decide) (by decide) (by decide) (ap_len ht rfl) (by rw [List.append_assoc]; rfl) ?_
  refine s_putRN (id := t + 0) (lay' := (l0 ++ [(3, 11, va_up (va_up (va_up (va_up (va_up (NUL) 1 (.ref (t + 1))) 2 (.ref (t + 2))) 3 (.ref (t + 3))) 4 (.ref (t + 4))) 5 (.ref (t + 5))), (8, 8, NUL), (8, 8, NUL), (8, 8, NUL), (8, 8, NUL), (8, 8, NUL)])) (pc' := 44) dX3_init_41 rfl flX3_24 fw3_5 pf_7 (Or.inr ⟨_, rfl⟩) rfl ⟨_, _, rfl⟩ rfl (ap_get (m := 0) ht) (by decide) rfl (ap_set (m := 0) ht) ?_
  refine s_aload_n (pc' := 45) dX3_init_44 rfl lg0 rfl ?_
  refine s_bipush (pc' := 47) dX3_init_45 rfl bipush_8 ?_
  refine s_newaN (kc := 1) (ks := 8) (tg := 8) (N := 8) (nn := t + 6) (lay' := (l0 ++ [(3, 11, va_up (va_up (va_up (va_up (va_up (NUL) 1 (.ref (t + 1))) 2 (.ref (t + 2))) 3 (.ref (t + 3))) 4 (.ref (t + 4))) 5 (.ref (t + 5))), (8, 8, NUL), (8, 8, NUL), (8, 8, NUL), (8, 8, NUL), (8, 8, NUL), (8, 8, NUL)])) (pc' := 49) dX3_init_47 rfl acI (by decide) rfl (by decide) (by decide) (by decide) (ap_len ht rfl) (by rw [List.append_assoc]; rfl) ?_
  refine s_putRN (id := t + 0) (lay' := (l0 ++ [(3, 11, va_up (va_up (va_up (va_up (va_up (va_up (NUL) 1 (.ref (t + 1))) 2 (.ref (t + 2))) 3 (.ref (t + 3))) 4 (.ref (t + 4))) 5 (.ref (t + 5))) 6 (.ref (t + 6))), (8, 8, NUL), (8, 8, NUL), (8, 8, NUL), (8, 8, NUL), (8, 8, NUL), (8, 8, NUL)])) (pc' := 52) dX3_init_49 rfl flX3_27 fw3_6 pf_7 (Or.inr ⟨_, rfl⟩) rfl ⟨_, _, rfl⟩ rfl (ap_get (m := 0) ht) (by decide) rfl (ap_set (m := 0) ht) ?_
  refine s_aload_n (pc' := 53) dX3_init_52 rfl lg0 rfl ?_
  refine s_bipush (pc' := 55) dX3_init_53 rfl bipush_8 ?_
  refine s_newaN (kc := 0) (ks := 0) (tg := 8) (N := 8) (nn := t + 7) (lay' := (l0 ++ [(3, 11, va_up (va_up (va_up (va_up (va_up (va_up (NUL) 1 (.ref (t + 1))) 2 (.ref (t + 2))) 3 (.ref (t + 3))) 4 (.ref (t + 4))) 5 (.ref (t + 5))) 6 (.ref (t + 6))), (8, 8, NUL), (8, 8, NUL), (8, 8, NUL), (8, 8, NUL), (8, 8, NUL), (8, 8, NUL), (8, 8, NUL)])) (pc' := 57) dX3_init_55 rfl acI (by decide) rfl (by decide) (by decide) (by decide) (ap_len ht rfl) (by rw [List.append_assoc]; rfl) ?_
  refine s_putRN (id := t + 0) (lay' := (l0 ++ [(3, 11, va_up (va_up (va_up (va_up (va_up (va_up (va_up (NUL) 1 (.ref (t + 1))) 2 (.ref (t + 2))) 3 (.ref (t + 3))) 4 (.ref (t + 4))) 5 (.ref (t + 5))) 6 (.ref (t + 6))) 7 (.ref (t + 7))), (8, 8, NUL), (8, 8, NUL), (8, 8, NUL), (8, 8, NUL), (8, 8, NUL), (8, 8, NUL), (8, 8, NUL)])) (pc' := 60) dX3_init_57 rfl flX3_30 fw3_7 pf_7 (Or.inr ⟨_, rfl⟩) rfl ⟨_, _, rfl⟩ rfl (ap_get (m := 0) ht) (by decide) rfl (ap_set (m := 0) ht) ?_
  refine s_aload_n (pc' := 61) dX3_init_60 rfl lg0 rfl ?_
  refine s_iconst (pc' := 62) dX3_init_61 rfl iconst_0 ?_
  refine s_putI (id := t + 0) (ty := .int) (pc' := 65) dX3_init_62 rfl flX3_33 fw3_8 pdI rfl rfl (ap_get (m := 0) ht) (by decide) rfl ?_
  refine s_aload_n (pc' := 66) dX3_init_65 rfl lg0 rfl ?_
  refine s_iconst (pc' := 67) dX3_init_66 rfl iconst_0 ?_
  refine s_putI (id := t + 0) (ty := .int) (pc' := 70) dX3_init_67 rfl flX3_37 fw3_9 pdI rfl rfl (ap_get (m := 0) ht) (by decide) rfl ?_
  refine s_aload_n (pc' := 71) dX3_init_70 rfl lg0 rfl ?_
  refine s_iconst (pc' := 72) dX3_init_71 rfl iconst_0 ?_
  refine s_putI (id := t + 0) (ty := .int) (pc' := 75) dX3_init_72 rfl flX3_40 fw3_10 pdI rfl rfl (ap_get (m := 0) ht) (by decide) rfl ?_
  refine s_aload_n (pc' := 76) dX3_init_75 rfl lg0 rfl ?_
  refine s_aload_n (pc' := 77) dX3_init_76 rfl lg1 rfl ?_
  refine s_putRN (id := t + 0) (lay' := (l0 ++ [(3, 11, va_up (va_up (va_up (va_up (va_up (va_up (va_up (va_up (NUL) 1 (.ref (t + 1))) 2 (.ref (t + 2))) 3 (.ref (t + 3))) 4 (.ref (t + 4))) 5 (.ref (t + 5))) 6 (.ref (t + 6))) 7 (.ref (t + 7))) 0 (.ref 1)), (8, 8, NUL), (8, 8, NUL), (8, 8, NUL), (8, 8, NUL), (8, 8, NUL), (8, 8, NUL), (8, 8, NUL)])) (pc' := 80) dX3_init_77 rfl flX3_43 fw3_0 pf_4 (Or.inl ⟨_, rfl⟩) rfl ⟨_, _, rfl⟩ rfl (ap_get (m := 0) ht) (by decide) rfl (ap_set (m := 0) ht) ?_
  refine s_vret dX3_init_80 rfl ?_
  refine K _ (fun j hj => ?_) ?_ ?_ ?_
  · simp (disch := omega) only [upN, nwN]
  · simp (disch := omega) only [Nat.add_zero, upE, upN, nwE, nwN, udE, udN]
  · simp (disch := omega) only [Nat.add_zero, upE, upN, nwE, nwN, udE, udN]
  · simp (disch := omega) only [Nat.add_zero, upE, upN, nwE, nwN, udE, udN]
set_option maxHeartbeats 4000000 in
theorem m_X1_init {z : Zz} {d : Nat} {Q : Option Value → Lay → Mem → Prop} {l0 : Lay} {mem : Mem} {t : Nat} (hdd : 1 ≤ d) (ht : l0.length = t)  (K : ∀ mem', (∀ j, j < t → mem' j = mem j) → (mem' t 1 = 0) → Q none (l0 ++ [(1, 9, va_up (va_up (NUL) 0 (.ref (t + 1))) 3 (.ref (t + 2))), (8, 160, NUL), (8, 160, NUL)]) mem') : Sim z d 2 320 mX1_init 0 [.ref t] [] (l0 ++ [(1, 9, NUL)]) mem Q := by
  refine s_aload_n (pc' := 1) dX1_init_0 rfl lg0 rfl ?_
  refine s_objInit (pc' := 4) dX1_init_1 rfl lkX1_3 oiI oiC (by omega) (Nat.le_of_ble_eq_true rfl) ?_
  refine s_aload_n (pc' := 5) dX1_init_4 rfl lg0 rfl ?_
  refine s_sipush (pc' := 8) dX1_init_5 rfl sipush_160 ?_
  refine s_newaN (kc := 1) (ks := 160) (tg := 8) (N := 160) (nn := t + 1) (lay' := (l0 ++ [(1, 9, NUL), (8, 160, NUL)])) (pc' := 10) dX1_init_8 rfl acI (by decide) rfl (by decide) (by decide) (by decide) (ap_len ht rfl) (by rw [List.append_assoc]; rfl) ?_
  refine s_putRN (id := t + 0) (lay' := (l0 ++ [(1, 9, va_up (NUL) 0 (.ref (t + 1))), (8, 160, NUL)])) (pc' := 13) dX1_init_10 rfl flX1_9 fw1_0 pf_7 (Or.inr ⟨_, rfl⟩) rfl ⟨_, _, rfl⟩ rfl (ap_get (m := 0) ht) (by decide) rfl (ap_set (m := 0) ht) ?_
  refine s_aload_n (pc' := 14) dX1_init_13 rfl lg0 rfl ?_
  refine s_iconst (pc' := 15) dX1_init_14 rfl iconst_0 ?_
  refine s_putI (id := t + 0) (ty := .int) (pc' := 18) dX1_init_15 rfl flX1_15 fw1_1 pdI rfl rfl (ap_get (m := 0) ht) (by decide) rfl ?_
  refine s_aload_n (pc' := 19) dX1_init_18 rfl lg0 rfl ?_
  refine s_iconst (pc' := 20) dX1_init_19 rfl iconst_m1 ?_
  refine s_putI (id := t + 0) (ty := .int) (pc' := 23) dX1_init_20 rfl flX1_19 fw1_2 pdI rfl rfl (ap_get (m := 0) ht) (by decide) rfl ?_
  refine s_aload_n (pc' := 24) dX1_init_23 rfl lg0 rfl ?_
  refine s_sipush (pc' := 27) dX1_init_24 rfl sipush_160 ?_
  refine s_newaN (kc := 0) (ks := 0) (tg := 8) (N := 160) (nn := t + 2) (lay' := (l0 ++ [(1, 9, va_up (NUL) 0 (.ref (t + 1))), (8, 160, NUL), (8, 160, NUL)])) (pc' := 29) dX1_init_27 rfl acI (by decide) rfl (by decide) (by decide) (by decide) (ap_len ht rfl) (by rw [List.append_assoc]; rfl) ?_
  refine s_putRN (id := t + 0) (lay' := (l0 ++ [(1, 9, va_up (va_up (NUL) 0 (.ref (t + 1))) 3 (.ref (t + 2))), (8, 160, NUL), (8, 160, NUL)])) (pc' := 32) dX1_init_29 rfl flX1_22 fw1_3 pf_7 (Or.inr ⟨_, rfl⟩) rfl ⟨_, _, rfl⟩ rfl (ap_get (m := 0) ht) (by decide) rfl (ap_set (m := 0) ht) ?_
  refine s_aload_n (pc' := 33) dX1_init_32 rfl lg0 rfl ?_
  refine s_iconst (pc' := 34) dX1_init_33 rfl iconst_0 ?_
  refine s_putI (id := t + 0) (ty := .int) (pc' := 37) dX1_init_34 rfl flX1_25 fw1_4 pdI rfl rfl (ap_get (m := 0) ht) (by decide) rfl ?_
  refine s_aload_n (pc' := 38) dX1_init_37 rfl lg0 rfl ?_
  refine s_iconst (pc' := 39) dX1_init_38 rfl iconst_0 ?_
  refine s_putI (id := t + 0) (ty := .int) (pc' := 42) dX1_init_39 rfl flX1_28 fw1_5 pdI rfl rfl (ap_get (m := 0) ht) (by decide) rfl ?_
  refine s_aload_n (pc' := 43) dX1_init_42 rfl lg0 rfl ?_
  refine s_iconst (pc' := 44) dX1_init_43 rfl iconst_0 ?_
  refine s_putI (id := t + 0) (ty := .int) (pc' := 47) dX1_init_44 rfl flX1_31 fw1_6 pdI rfl rfl (ap_get (m := 0) ht) (by decide) rfl ?_
  refine s_aload_n (pc' := 48) dX1_init_47 rfl lg0 rfl ?_
  refine s_bipush (pc' := 50) dX1_init_48 rfl bipush_21 ?_
  refine s_putI (id := t + 0) (ty := .int) (pc' := 53) dX1_init_50 rfl flX1_34 fw1_7 pdI rfl rfl (ap_get (m := 0) ht) (by decide) rfl ?_
  refine s_aload_n (pc' := 54) dX1_init_53 rfl lg0 rfl ?_
  refine s_iconst (pc' := 55) dX1_init_54 rfl iconst_0 ?_
  refine s_putI (id := t + 0) (ty := .int) (pc' := 58) dX1_init_55 rfl flX1_37 fw1_8 pdI rfl rfl (ap_get (m := 0) ht) (by decide) rfl ?_
  refine s_vret dX1_init_58 rfl ?_
  refine K _ (fun j hj => ?_) ?_
  · simp (disch := omega) only [upN, nwN]
  · simp (disch := omega) only [Nat.add_zero, upE, upN, nwE, nwN, udE, udN]
set_option maxHeartbeats 4000000 in
theorem m_X5_init {z : Zz} {d : Nat} {Q : Option Value → Lay → Mem → Prop} {l0 : Lay} {mem : Mem} {t : Nat} (hdd : 2 ≤ d) (ht : l0.length = t)  (K : ∀ mem', (∀ j, j < t → mem' j = mem j) → (mem' t 3 = 1) → (mem' (t + 4) 1 = 1) → (mem' (t + 4) 2 = 2) → (mem' (t + 5) 0 = 2) → (mem' (t + 5) 1 = 1) → (mem' (t + 5) 2 = 1) → Q none (l0 ++ [(5, 4, va_up (va_up (va_up (NUL) 0 (.ref (t + 1))) 1 (.ref (t + 2))) 2 (.ref (t + 3))), (13, 6, va_up (NUL) 0 (.ref (t + 4))), (8, 6, NUL), (8, 160, NUL), (4, 3, va_up (NUL) 0 (.ref (t + 5))), (8, 3, NUL)]) mem') : Sim z d 5 178 mX5_init 0 [.ref t] [] (l0 ++ [(5, 4, NUL)]) mem Q := by
  refine s_aload_n (pc' := 1) dX5_init_0 rfl lg0 rfl ?_
  refine s_objInit (pc' := 4) dX5_init_1 rfl lkX5_3 oiI oiC (by omega) (Nat.le_of_ble_eq_true rfl) ?_
  refine s_aload_n (pc' := 5) dX5_init_4 rfl lg0 rfl ?_
  refine s_bipush (pc' := 7) dX5_init_5 rfl bipush_6 ?_
  refine s_newqN (kc := 4) (ks := 172) (tg := 13) (N := 6) (nn := t + 1) (lay' := (l0 ++ [(5, 4, NUL), (13, 6, NUL)])) (pc' := 10) dX5_init_7 rfl cqX5 (by decide) rfl (by decide) (by decide) (by decide) (ap_len ht rfl) (by rw [List.append_assoc]; rfl) ?_
  refine s_putRN (id := t + 0) (lay' := (l0 ++ [(5, 4, va_up (NUL) 0 (.ref (t + 1))), (13, 6, NUL)])) (pc' := 13) dX5_init_10 rfl flX5_11 fw5_0 pf_9 (Or.inr ⟨_, rfl⟩) rfl ⟨_, _, rfl⟩ rfl (ap_get (m := 0) ht) (by decide) rfl (ap_set (m := 0) ht) ?_
  refine s_aload_n (pc' := 14) dX5_init_13 rfl lg0 rfl ?_
  refine s_bipush (pc' := 16) dX5_init_14 rfl bipush_6 ?_
  refine s_newaN (kc := 3) (ks := 166) (tg := 8) (N := 6) (nn := t + 2) (lay' := (l0 ++ [(5, 4, va_up (NUL) 0 (.ref (t + 1))), (13, 6, NUL), (8, 6, NUL)])) (pc' := 18) dX5_init_16 rfl acI (by decide) rfl (by decide) (by decide) (by decide) (ap_len ht rfl) (by rw [List.append_assoc]; rfl) ?_
  refine s_putRN (id := t + 0) (lay' := (l0 ++ [(5, 4, va_up (va_up (NUL) 0 (.ref (t + 1))) 1 (.ref (t + 2))), (13, 6, NUL), (8, 6, NUL)])) (pc' := 21) dX5_init_18 rfl flX5_17 fw5_1 pf_7 (Or.inr ⟨_, rfl⟩) rfl ⟨_, _, rfl⟩ rfl (ap_get (m := 0) ht) (by decide) rfl (ap_set (m := 0) ht) ?_
  refine s_aload_n (pc' := 22) dX5_init_21 rfl lg0 rfl ?_
  refine s_sipush (pc' := 25) dX5_init_22 rfl sipush_160 ?_
  refine s_newaN (kc := 2) (ks := 6) (tg := 8) (N := 160) (nn := t + 3) (lay' := (l0 ++ [(5, 4, va_up (va_up (NUL) 0 (.ref (t + 1))) 1 (.ref (t + 2))), (13, 6, NUL), (8, 6, NUL), (8, 160, NUL)])) (pc' := 27) dX5_init_25 rfl acI (by decide) rfl (by decide) (by decide) (by decide) (ap_len ht rfl) (by rw [List.append_assoc]; rfl) ?_
  refine s_putRN (id := t + 0) (lay' := (l0 ++ [(5, 4, va_up (va_up (va_up (NUL) 0 (.ref (t + 1))) 1 (.ref (t + 2))) 2 (.ref (t + 3))), (13, 6, NUL), (8, 6, NUL), (8, 160, NUL)])) (pc' := 30) dX5_init_27 rfl flX5_21 fw5_2 pf_7 (Or.inr ⟨_, rfl⟩) rfl ⟨_, _, rfl⟩ rfl (ap_get (m := 0) ht) (by decide) rfl (ap_set (m := 0) ht) ?_
  refine s_aload_n (pc' := 31) dX5_init_30 rfl lg0 rfl ?_
  refine s_iconst (pc' := 32) dX5_init_31 rfl iconst_1 ?_
  refine s_putI (id := t + 0) (ty := .int) (pc' := 35) dX5_init_32 rfl flX5_24 fw5_3 pdI rfl rfl (ap_get (m := 0) ht) (by decide) rfl ?_
  refine s_aload_n (pc' := 36) dX5_init_35 rfl lg0 rfl ?_
  refine s_getRv (id := t + 0) (v := .ref (t + 1)) (pc' := 39) dX5_init_36 rfl flX5_11 (ap_get (m := 0) ht) (by decide) rfl rfl ?_
  refine s_iconst (pc' := 40) dX5_init_39 rfl iconst_0 ?_
  refine s_newN (kc := 1) (ks := 3) (nn := t + 4) (lay' := (l0 ++ [(5, 4, va_up (va_up (va_up (NUL) 0 (.ref (t + 1))) 1 (.ref (t + 2))) 2 (.ref (t + 3))), (13, 6, NUL), (8, 6, NUL), (8, 160, NUL), (4, 3, NUL)])) (pc' := 43) dX5_init_40 rfl nkX5_9 (ap_len ht rfl) (by rw [List.append_assoc]; rfl) ?_
  refine s_dup (pc' := 44) dX5_init_43 rfl rfl ?_
  refine s_iconst (pc' := 45) dX5_init_44 rfl iconst_3 ?_
  refine s_newaN (kc := 0) (ks := 0) (tg := 8) (N := 3) (nn := t + 5) (lay' := (l0 ++ [(5, 4, va_up (va_up (va_up (NUL) 0 (.ref (t + 1))) 1 (.ref (t + 2))) 2 (.ref (t + 3))), (13, 6, NUL), (8, 6, NUL), (8, 160, NUL), (4, 3, NUL), (8, 3, NUL)])) (pc' := 47) dX5_init_45 rfl acI (by decide) rfl (by decide) (by decide) (by decide) (ap_len ht rfl) (by rw [List.append_assoc]; rfl) ?_
  refine s_dup (pc' := 48) dX5_init_47 rfl rfl ?_
  refine s_iconst (pc' := 49) dX5_init_48 rfl iconst_0 ?_
  refine s_iconst (pc' := 50) dX5_init_49 rfl iconst_2 ?_
  refine s_iastN (id := t + 5) (k := 0) (pc' := 51) dX5_init_50 rfl (ap_get (m := 5) ht) (by decide) (by decide) ?_
  refine s_dup (pc' := 52) dX5_init_51 rfl rfl ?_
  refine s_iconst (pc' := 53) dX5_init_52 rfl iconst_1 ?_
  refine s_iconst (pc' := 54) dX5_init_53 rfl iconst_1 ?_
  refine s_iastN (id := t + 5) (k := 1) (pc' := 55) dX5_init_54 rfl (ap_get (m := 5) ht) (by decide) (by decide) ?_
  refine s_dup (pc' := 56) dX5_init_55 rfl rfl ?_
  refine s_iconst (pc' := 57) dX5_init_56 rfl iconst_2 ?_
  refine s_iconst (pc' := 58) dX5_init_57 rfl iconst_1 ?_
  refine s_iastN (id := t + 5) (k := 2) (pc' := 59) dX5_init_58 rfl (ap_get (m := 5) ht) (by decide) (by decide) ?_
  refine s_iconst (pc' := 60) dX5_init_59 rfl iconst_1 ?_
  refine s_iconst (pc' := 61) dX5_init_60 rfl iconst_2 ?_
  refine s_invI (kc1 := 0) (ks1 := 0) (kc := 0) (ks := 0) (d2 := d - 1) (pc' := 64) dX5_init_61 rfl okX4_init rfl rfl lkX5_28 inX4_init (by omega) rfl rfl rfl rfl (Nat.le_of_ble_eq_true rfl) (Nat.le_of_ble_eq_true rfl) (m_X4_init (t := t + 4) (a := t + 5) (x := 1) (y := 2) (by omega) (ap_get (m := 4) ht) ?_)
  rw [ap_set (m := 4) ht]
  show Sim _ _ _ _ _ _ _ _ (l0 ++ [(5, 4, va_up (va_up (va_up (NUL) 0 (.ref (t + 1))) 1 (.ref (t + 2))) 2 (.ref (t + 3))), (13, 6, NUL), (8, 6, NUL), (8, 160, NUL), (4, 3, va_up (NUL) 0 (.ref (t + 5))), (8, 3, NUL)]) _ _
  refine s_aastN (id := t + 1) (id2 := t + 4) (i := 0) (lay' := (l0 ++ [(5, 4, va_up (va_up (va_up (NUL) 0 (.ref (t + 1))) 1 (.ref (t + 2))) 2 (.ref (t + 3))), (13, 6, va_up (NUL) 0 (.ref (t + 4))), (8, 6, NUL), (8, 160, NUL), (4, 3, va_up (NUL) 0 (.ref (t + 5))), (8, 3, NUL)])) (pc' := 65) dX5_init_64 rfl (ap_get (m := 1) ht) (by decide) (by unfold vp_in; decide) (ap_get (m := 4) ht) rfl rfl (by decide) (ap_set (m := 1) ht) ?_
  refine s_vret dX5_init_65 rfl ?_
  refine K _ (fun j hj => ?_) ?_ ?_ ?_ ?_ ?_ ?_
  · simp (disch := omega) only [upN, nwN]
  · simp (disch := omega) only [Nat.add_zero, upE, upN, nwE, nwN, udE, udN]
  · simp (disch := omega) only [Nat.add_zero, upE, upN, nwE, nwN, udE, udN]
  · simp (disch := omega) only [Nat.add_zero, upE, upN, nwE, nwN, udE, udN]
  · simp (disch := omega) only [Nat.add_zero, upE, upN, nwE, nwN, udE, udN]
  · simp (disch := omega) only [Nat.add_zero, upE, upN, nwE, nwN, udE, udN]
  · simp (disch := omega) only [Nat.add_zero, upE, upN, nwE, nwN, udE, udN]
