/-! ===== a new text ===== -/
theorem set_get {lay : Lay} {t : Nat} {c c0 : Nat × Nat × (Nat → Value)} (h : lay[t]? = some c0) : (lay.set t c)[t]? = some c := List.getElem?_set_self (List.getElem?_eq_some_iff.mp h).1
set_option maxHeartbeats 4000000 in
theorem m_X4_init {z : Zz} {d : Nat} {Q : Option Value → Lay → Mem → Prop} {lay : Lay} {mem : Mem} {t a : Nat} {x y : Int32} {r0 : Nat → Value} (hdd : 1 ≤ d) (ht : lay[t]? = some (4, 3, r0)) (K : Q none (lay.set t (4, 3, va_up r0 0 (.ref a))) (am_up (am_up mem t 1 x) t 2 y)) : Sim z d 0 0 mX4_init 0 [.ref t, .ref a, .int x, .int y] [] lay mem Q := by
  have hN0 := set_get (c := (4, 3, va_up r0 0 (.ref a))) ht
  refine s_aload_n (pc' := 1) dX4_init_0 rfl lg0 rfl ?_
  refine s_objInit (pc' := 4) dX4_init_1 rfl lkX4_3 oiI oiC hdd (Nat.le_of_ble_eq_true rfl) ?_
  refine s_aload_n (pc' := 5) dX4_init_4 rfl lg0 rfl ?_
  refine s_aload_n (pc' := 6) dX4_init_5 rfl lg1 rfl ?_
  refine s_putR (pc' := 9) (ty := .array .int) dX4_init_6 rfl flX4_9 fw4_0 (by decide +kernel) (Or.inr ⟨_, rfl⟩) rfl ⟨_, _, rfl⟩ rfl ht (by decide) rfl ?_
  refine s_aload_n (pc' := 10) dX4_init_9 rfl lg0 rfl ?_
  refine s_iload_n (pc' := 11) dX4_init_10 rfl lg2 ?_
  refine s_putIF (pc' := 14) dX4_init_11 rfl flX4_15 fw4_1 rfl ⟨_, _, rfl⟩ hN0 (by decide) rfl ?_
  refine s_aload_n (pc' := 15) dX4_init_14 rfl lg0 rfl ?_
  refine s_iload_n (pc' := 16) dX4_init_15 rfl lg3 ?_
  refine s_putIF (pc' := 19) dX4_init_16 rfl flX4_19 fw4_2 rfl ⟨_, _, rfl⟩ hN0 (by decide) rfl ?_
  refine s_vret dX4_init_19 rfl ?_
  exact K
set_option maxHeartbeats 4000000 in
theorem m_copyOf {z : Zz} {d : Nat} {Q : Option Value → Lay → Mem → Prop} {lay : Lay} {mem : Mem} {k : Nat} {r9 : Nat → Value} (hdd : 2 ≤ d) (hk : k < 160) (h9 : lay[9]? = some (8, 160, r9)) (K : ∀ mem', (∀ j, j ≠ lay.length → mem' j = mem j) → (∀ q, q < k → mem' lay.length q = mem 9 q) → Q (some (.ref lay.length)) (lay ++ [(8, k, fun _ => .null)]) mem') : Sim z d 1 k mJ7_copyOf_59c91 0 [.ref 9, .int (nI k), .float 0] [] lay mem Q := by
  have h9l : 9 < lay.length := (List.getElem?_eq_some_iff.mp h9).1
  refine s_iload_n (pc' := 1) dJ7_copyOf_59c91_0 rfl lg1 ?_
  refine s_aload_n (pc' := 2) dJ7_copyOf_59c91_1 rfl lg0 rfl ?_
  refine s_alen (pc' := 3) dJ7_copyOf_59c91_2 rfl h9 (by decide) ?_
  refine s_icmp_ne (pc' := 6) (tgt := 14) dJ7_copyOf_59c91_3 rfl (by decide) (fun _ => ?_) (fun c9 => absurd c9 (fun q => absurd ((nI_eq (a := k) (b := 160) (by omega) (by omega)).mp q) (by omega)))
  refine s_iload_n (pc' := 15) dJ7_copyOf_59c91_14 rfl lg1 ?_
  refine s_newa (kc := 0) (ks := 0) (tg := 8) (N := k) (pc' := 17) dJ7_copyOf_59c91_15 rfl acI (by decide) rfl (nI_pos (by omega)) (nI_clamp (by omega)) (by omega) ?_
  have hN1 : (lay ++ [(8, k, fun _ => .null)])[lay.length]? = some (8, k, fun _ => Value.null) := by rw [List.getElem?_append_right (Nat.le_refl _), Nat.sub_self]; rfl
  have h9 : (lay ++ [(8, k, fun _ => .null)])[9]? = some (8, 160, r9) := by rw [List.getElem?_append_left h9l]; exact h9
  refine s_astore_n (pc' := 18) dJ7_copyOf_59c91_17 rfl rfl (Nat.le_of_ble_eq_true rfl) rfl ls2 ?_
  refine s_aload_n (pc' := 19) dJ7_copyOf_59c91_18 rfl lg0 rfl ?_
  refine s_iconst (pc' := 20) dJ7_copyOf_59c91_19 rfl iconst_0 ?_
  refine s_aload_n (pc' := 21) dJ7_copyOf_59c91_20 rfl lg2 rfl ?_
  refine s_iconst (pc' := 22) dJ7_copyOf_59c91_21 rfl iconst_0 ?_
  refine s_aload_n (pc' := 23) dJ7_copyOf_59c91_22 rfl lg0 rfl ?_
  refine s_alen (pc' := 24) dJ7_copyOf_59c91_23 rfl h9 (by decide) ?_
  refine s_iload_n (pc' := 25) dJ7_copyOf_59c91_24 rfl lg1 ?_
  refine c_J9_min_7cf53  (pc' := 28) dJ7_copyOf_59c91_25 rfl lkJ7_304 (by omega) (Nat.le_of_ble_eq_true rfl) ?_
  rw [show mnI (nI 160) (nI k) = nI k from by rw [mn_nI (by omega) (by omega), Nat.min_eq_right (by omega)]]
  refine s_acopy0 (pc' := 31) dJ7_copyOf_59c91_28 rfl lkJ7_150 kAC1 kAC2 kAC3 h9 hN1 rfl ⟨by omega, by omega, by omega⟩ (by omega) (Nat.le_of_ble_eq_true rfl) ?_
  refine s_aload_n (pc' := 32) dJ7_copyOf_59c91_31 rfl lg2 rfl ?_
  refine s_aret dJ7_copyOf_59c91_32 rfl (Or.inr ⟨_, rfl⟩) rfl ?_
  refine K _ (fun j hj => ?_) (fun q hq => ?_)
  · skip
    show am_cp _ _ _ _ _ _ j = _
    rw [show am_cp (am_nw mem lay.length) 9 lay.length 0 0 k j = am_nw mem lay.length j from if_neg hj]
    exact if_neg hj
  · rw [show am_cp (am_nw mem lay.length) 9 lay.length 0 0 k lay.length = va_cpy (am_nw mem lay.length 9) (am_nw mem lay.length lay.length) 0 0 k from if_pos rfl]
    unfold va_cpy
    rw [if_pos ⟨Nat.zero_le q, by omega⟩, Nat.sub_zero, Nat.zero_add, show am_nw mem lay.length 9 = mem 9 from if_neg (by omega)]

