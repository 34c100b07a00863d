/-! ===== the Model: text ===== -/
def txR (tp : Nat → Nat) (sz nt : Nat) : Int32 := if nt < 6 then (if (rs4 tp sz).2.2 = -1 then nI nt else -100 - (rs4 tp sz).2.2) else -4
def txT (tp : Nat → Nat) (sz nt : Nat) (T : Nat → Nat → List Int32) : Nat → Nat → List Int32 := if nt < 6 ∧ (rs4 tp sz).2.2 = -1 then (fun w => if w = nt then txP tp sz else T w) else T
def txN (tp : Nat → Nat) (sz nt : Nat) : Nat := if nt < 6 ∧ (rs4 tp sz).2.2 = -1 then nt + 1 else nt
def txZ (sz nt : Nat) : Nat := if nt < 6 then 0 else sz
theorem tx_ends {tp : Nat → Nat} {sz : Nat} (hsz : sz ≤ 160) (h : (rs4 tp sz).2.2 = -1) : (∀ i, i < 3 → (rsF tp sz (i + 1)).2.1.length = eOf (txP tp sz) i) ∧ (rsF tp sz 3).2.1 = txP tp sz 0 ++ (txP tp sz 1 ++ txP tp sz 2) ∧ (txP tp sz 0).length + (txP tp sz 1).length + (txP tp sz 2).length ≤ 160 := by
  obtain ⟨t1, t2, t3⟩ := tx_ok hsz h
  have hl := (rs4_len hsz h).1
  obtain ⟨e1, e2, e3⟩ := rsF_123 (tp := tp) (sz := sz)
  have t0 : txP tp sz 0 = (rs1 tp sz).2.1 := by unfold txP; rw [if_pos rfl]
  rw [t3, List.length_append, List.length_append] at hl
  refine ⟨fun i hi => ?_, by rw [e3]; exact t3, by omega⟩
  have : i = 0 ∨ i = 1 ∨ i = 2 := by omega
  rcases this with rfl | rfl | rfl
  · rw [show 0 + 1 = 1 from rfl, e1, eOf, sOf, if_pos rfl, t0, Nat.zero_add]
  · rw [show 1 + 1 = 2 from rfl, e2, t2, eOf, sOf, if_neg (by decide), if_pos rfl]
  · rw [show 2 + 1 = 3 from rfl, e3, t3, List.length_append, List.length_append, eOf, sOf, if_neg (by decide), if_neg (by decide), Nat.add_assoc]
set_option maxHeartbeats 4000000 in
theorem m_X7_text {z : Zz} {d : Nat} {Q : Option Value → Lay → Mem → Prop} {rf : Nat → Value} {tl : Lay} {mem : Mem}  {sz nt : Nat} {tp : Nat → Nat} {T : Nat → Nat → List Int32} (hdd : 6 ≤ d) (hT : isTM mem nt T) (h5 : mem 47 5 = nI sz) (hsz : sz ≤ 160) (ht : ∀ i, i < sz → mem 51 i = nI (tp i)) (h256 : ∀ i, i < sz → tp i < 256) (hnm : ∀ k, k < 84 → mem 54 k = nI (NM k)) (K : ∀ mem', isTM mem' (txN tp sz nt) (txT tp sz nt T) → mem' 47 5 = nI (txZ sz nt) → mem' 47 3 = mem 47 3 → (∀ j, j ≠ 47 → j ≠ 52 → j ≠ 53 → j ≠ 55 → mem' j = mem j) → Q (some (.int (txR tp sz nt))) (LAY rf tl) mem') : Sim z d 0 0 mX7_text 0 [.ref 47, .float 0] [] (LAY rf tl) mem Q := by
  obtain ⟨hnt, hn1, hn6, hTw⟩ := id hT
  unfold txR txT txN txZ at K
  refine s_aload_n (pc' := 1) dX7_text_0 rfl lg0 rfl ?_
  refine s_getIv (pc' := 4) (v := nI nt) dX7_text_1 rfl flX7_32 ly47 (by decide) rfl hnt ?_
  refine s_bipush (pc' := 6) dX7_text_4 rfl bipush_6 ?_
  rcases Nat.lt_or_ge nt 6 with q6 | q6
  · rw [if_pos q6, if_pos q6] at K
    refine s_icmp_ne (pc' := 9) (tgt := 12) dX7_text_6 rfl (by decide) (fun _ => ?_) (fun c9 => absurd c9 (fun h => by have := (nI_eq (a := nt) (b := 6) (by omega) (by omega)).mp h; omega))
    refine s_aload_n (pc' := 13) dX7_text_12 rfl lg0 rfl ?_
    refine s_iconst (pc' := 14) dX7_text_13 rfl iconst_0 ?_
    refine s_putI (pc' := 17) (ty := .int) dX7_text_14 rfl flX7_130 fw7_6 pdI rfl rfl ly47 (by decide) rfl ?_
    refine s_aload_n (pc' := 18) dX7_text_17 rfl lg0 rfl ?_
    refine s_iconst (pc' := 19) dX7_text_18 rfl iconst_0 ?_
    refine s_putI (pc' := 22) (ty := .int) dX7_text_19 rfl flX7_158 fw7_9 pdI rfl rfl ly47 (by decide) rfl ?_
    refine s_aload_n (pc' := 23) dX7_text_22 rfl lg0 rfl ?_
    refine s_iconst (pc' := 24) dX7_text_23 rfl iconst_0 ?_
    refine s_putI (pc' := 27) (ty := .int) dX7_text_24 rfl flX7_142 fw7_13 pdI rfl rfl ly47 (by decide) rfl ?_
    refine s_aload_n (pc' := 28) dX7_text_27 rfl lg0 rfl ?_
    have hf0 : tff nt mem (am_up (am_up (am_up mem 47 6 0) 47 9 0) 47 13 0) := ⟨fun j q1 _ _ _ => by rw [upN q1, upN q1, upN q1], fun k q1 q2 q3 q4 q5 q6 => by rw [upE, udN q5, upE, udN q4, upE, udN q1], fun k _ => by rw [upN (by decide), upN (by decide), upN (by decide)], fun k _ => by rw [upN (by decide), upN (by decide), upN (by decide)]⟩
    refine c_X7_isText  (pc' := 31) dX7_text_28 rfl lkX7_189 (by omega) (Nat.le_of_ble_eq_true rfl) ⟨by rw [upE, udN (by decide), upE, udN (by decide), upE, udN (by decide)]; exact h5, by rw [upE, udN (by decide), upE, udN (by decide), upE, udN (by decide)]; exact hnt, fun i hi => by rw [upN (by decide), upN (by decide), upN (by decide)]; exact ht i hi, fun i hi => by rw [upN (by decide), upN (by decide), upN (by decide)]; exact hnm i hi⟩ (by rw [upE, udN (by decide), upE, udN (by decide), upE, udE]; rfl) (by rw [upE, udN (by decide), upE, udE]) (by rw [upE, udE]; rfl) hsz h256 q6 (fun b m1 g1 g2 => ?_)
    have hfr := hf0.tr g2
    have hends := tx_ends (tp := tp) hsz
    have hwk := fun h => (tx_ok (tp := tp) (sz := sz) hsz h).1
    unfold tEnd at g1
    generalize (rs4 tp sz).2.2 = f at K g1 hends hwk
    have hkp : ∀ x y, am_up (am_up m1 47 5 x) 47 12 y 47 3 = mem 47 3 := fun x y => by rw [upE, udN (by decide), upE, udN (by decide)]; exact hfr.2.1 3 (by decide) (by decide) (by decide) (by decide) (by decide) (by decide)
    cases b with
    | false =>
      rw [if_neg Bool.false_ne_true] at g1
      rw [if_neg (fun h => g1.1 h.2), if_neg (fun h => g1.1 h.2), if_neg g1.1] at K
      refine s_istore_n (pc' := 32) dX7_text_31 rfl (Nat.le_of_ble_eq_true rfl) rfl ls1 ?_
      refine s_aload_n (pc' := 33) dX7_text_32 rfl lg0 rfl ?_
      refine s_iconst (pc' := 34) dX7_text_33 rfl iconst_0 ?_
      refine s_putI (pc' := 37) (ty := .int) dX7_text_34 rfl flX7_127 fw7_5 pdI rfl rfl ly47 (by decide) rfl ?_
      refine s_iload_n (pc' := 38) dX7_text_37 rfl lg1 ?_
      refine s_if_ne (pc' := 41) (tgt := 49) dX7_text_38 rfl (by decide) (fun c9 => absurd (by decide) c9) (fun _ => ?_)
      refine s_bipush (pc' := 43) dX7_text_41 rfl bipush_m100 ?_
      refine s_aload_n (pc' := 44) dX7_text_43 rfl lg0 rfl ?_
      refine s_getIv (pc' := 47) (v := f) dX7_text_44 rfl flX7_133 ly47 (by decide) rfl (by rw [upE, udN (by decide)]; exact g1.2) ?_
      refine s_isub (pc' := 48) dX7_text_47 rfl ?_
      refine s_iret dX7_text_48 rfl (vp_nar_int _) ?_
      refine K _ ⟨?_, hn1, hn6, fun w hw => ?_⟩ (by rw [upE, udE]; rfl) (by rw [upE, udN (by decide)]; exact hfr.2.1 3 (by decide) (by decide) (by decide) (by decide) (by decide) (by decide)) (fun j q1 q2 q3 q4 => by rw [upN q1]; exact hfr.1 j q1 q2 q3 q4)
      · rw [upE, udN (by decide), hfr.2.1 12 (by decide) (by decide) (by decide) (by decide) (by decide) (by decide)]; exact hnt
      · obtain ⟨a1, a2, a3, a4⟩ := hTw w hw
        refine ⟨fun p hp => by rw [upN (by decide), hfr.2.2.2 _ (by omega)]; exact a1 p hp, a2, a3, fun p hp k hk => ?_⟩
        have hel := e_le (P := T w) hp
        unfold eOf at hel
        rw [upN (by decide), hfr.2.2.1 _ (by omega)]
        exact a4 p hp k hk
    | true =>
      rw [if_pos rfl] at g1
      obtain ⟨x1, x2, x3⟩ := g1
      rw [if_pos ⟨q6, x1⟩, if_pos ⟨q6, x1⟩, if_pos x1] at K
      obtain ⟨y1, y2, y3⟩ := hends x1
      have y4 := hwk x1
      rw [y2] at x2
      have e12 : m1 47 12 = nI nt := by rw [hfr.2.1 12 (by decide) (by decide) (by decide) (by decide) (by decide) (by decide)]; exact hnt
      refine s_istore_n (pc' := 32) dX7_text_31 rfl (Nat.le_of_ble_eq_true rfl) rfl ls1 ?_
      refine s_aload_n (pc' := 33) dX7_text_32 rfl lg0 rfl ?_
      refine s_iconst (pc' := 34) dX7_text_33 rfl iconst_0 ?_
      refine s_putI (pc' := 37) (ty := .int) dX7_text_34 rfl flX7_127 fw7_5 pdI rfl rfl ly47 (by decide) rfl ?_
      refine s_iload_n (pc' := 38) dX7_text_37 rfl lg1 ?_
      refine s_if_ne (pc' := 41) (tgt := 49) dX7_text_38 rfl (by decide) (fun _ => ?_) (fun c9 => absurd c9 (by decide))
      refine s_aload_n (pc' := 50) dX7_text_49 rfl lg0 rfl ?_
      refine s_dup (pc' := 51) dX7_text_50 rfl rfl ?_
      refine s_getIv (pc' := 54) (v := nI nt) dX7_text_51 rfl flX7_32 ly47 (by decide) rfl (by rw [upE, udN (by decide)]; exact e12) ?_
      refine s_iconst (pc' := 55) dX7_text_54 rfl iconst_1 ?_
      refine s_iadd (pc' := 56) dX7_text_55 rfl ?_
      rw [nI_1]
      refine s_putI (pc' := 59) (ty := .int) dX7_text_56 rfl flX7_32 fw7_12 pdI rfl rfl ly47 (by decide) rfl ?_
      refine s_aload_n (pc' := 60) dX7_text_59 rfl lg0 rfl ?_
      refine s_getIv (pc' := 63) (v := nI (nt + 1)) dX7_text_60 rfl flX7_32 ly47 (by decide) rfl (by rw [upE, udE]) ?_
      refine s_iconst (pc' := 64) dX7_text_63 rfl iconst_1 ?_
      refine s_isub (pc' := 65) dX7_text_64 rfl ?_
      rw [nI_pred]
      refine s_iret dX7_text_65 rfl (vp_nar_int _) ?_
      refine K _ ⟨by rw [upE, udE], by omega, by omega, fun w hw => ?_⟩ (by rw [upE, udN (by decide), upE, udE]; rfl) (hkp _ _) (fun j q1 q2 q3 q4 => by rw [upN q1, upN q1]; exact hfr.1 j q1 q2 q3 q4)
      by_cases hwn : w = nt
      · rw [show (fun w => if w = nt then txP tp sz else T w) w = txP tp sz from if_pos hwn, hwn]
        refine ⟨fun p hp => by rw [upN (by decide), upN (by decide), x3 p hp, y1 p hp], fun p hp => y4 p hp 0, y3, fun p hp k hk => ?_⟩
        have hel := e_le (P := txP tp sz) hp
        unfold eOf at hel
        rw [upN (by decide), upN (by decide), x2 _ (by rw [List.length_append, List.length_append]; omega), P_at hp hk]
      · rw [show (fun w => if w = nt then txP tp sz else T w) w = T w from if_neg hwn]
        obtain ⟨a1, a2, a3, a4⟩ := hTw w (by omega)
        refine ⟨fun p hp => by rw [upN (by decide), upN (by decide), hfr.2.2.2 _ (by omega)]; exact a1 p hp, a2, a3, fun p hp k hk => ?_⟩
        have hel := e_le (P := T w) hp
        unfold eOf at hel
        rw [upN (by decide), upN (by decide), hfr.2.2.1 _ (by omega)]
        exact a4 p hp k hk
  · rw [if_neg (by omega), if_neg (by omega), if_neg (by omega), if_neg (by omega)] at K
    have : nt = 6 := by omega
    subst this
    refine s_icmp_ne (pc' := 9) (tgt := 12) dX7_text_6 rfl (by decide) (fun c9 => absurd (by decide) c9) (fun _ => ?_)
    refine s_bipush (pc' := 11) dX7_text_9 rfl bipush_m4 ?_
    refine s_iret dX7_text_11 rfl (vp_nar_int _) ?_
    exact K mem hT h5 rfl (fun _ _ _ _ _ => rfl)
theorem c_X7_text {z : Zz} {d kc ks : Nat} {mi : MI} {pc pc' : Nat} {L S : List Value} {Q : Option Value → Lay → Mem → Prop} {rf : Nat → Value} {tl : Lay} {mem : Mem}  {sz nt : Nat} {tp : Nat → Nat} {T : Nat → Nat → List Int32} {idx : Nat} (hd : decode mi.2.1 pc = .ok (.invokevirtual idx, 3)) (hp : pc + 3 = pc') (hlk : Cond.methodLink mi.1.cls idx yX7_text ∈ wok) (hdd : 6 + 1 ≤ d) (hcat : (S.map (fun v => v.category)).sum ≤ 8) (hT : isTM mem nt T) (h5 : mem 47 5 = nI sz) (hsz : sz ≤ 160) (ht : ∀ i, i < sz → mem 51 i = nI (tp i)) (h256 : ∀ i, i < sz → tp i < 256) (hnm : ∀ k, k < 84 → mem 54 k = nI (NM k)) (K : ∀ mem', isTM mem' (txN tp sz nt) (txT tp sz nt T) → mem' 47 5 = nI (txZ sz nt) → mem' 47 3 = mem 47 3 → (∀ j, j ≠ 47 → j ≠ 52 → j ≠ 53 → j ≠ 55 → mem' j = mem j) → Sim z d kc ks mi pc' L (.int (txR tp sz nt) :: S) (LAY rf tl) mem' Q) : Sim z d kc ks mi pc L (.ref 47 :: S) (LAY rf tl) mem Q :=
  s_invV (d2 := 6) hd hp okX7_text hlk inX7_text seX7_text hdd (Nat.zero_add _) (Nat.zero_add _) rfl rfl ly47 rfl hcat (Nat.le_of_ble_eq_true rfl) (m_X7_text (Nat.le_refl _) hT h5 hsz ht h256 hnm K)

