/-! ===== film, drawn, chance, mean, image, back, count, can ===== -/
def filmF (σ : Nat → Nat → Int32) (n : Nat) (td : Int32) (P : Nat → List Int32) (s p m : Int32) (mem mem' : Mem) : Prop :=
  if shB s = 0 ∨ pcB p (nI n) = 0 ∨ inB m 0 30 = 0 then mem' = mem
  else isR mem' (ix s) 0 (ix m) (fun k => (sg n P σ td k 2 (ix p)).toInt8.toInt32) ∧ ∀ q, q ≠ 3 → q ≠ 4 → (q < 18 ∨ 25 < q) → q ≠ 39 + 2 * ix s → q ≠ 40 + 2 * ix s → mem' q = mem q
def filmR (n : Nat) (s p m : Int32) : Int32 := if shB s = 0 ∨ pcB p (nI n) = 0 ∨ inB m 0 30 = 0 then -2 else m
set_option maxHeartbeats 4000000 in
theorem m_X6_film {z : Zz} {d : Nat} {Q : Option Value → Lay → Mem → Prop} {rf : Nat → Value} {tl : Lay} {mem : Mem}  {n w nt : Nat} {σ : Nat → Nat → Int32} {td s p m : Int32} {T : Nat → Nat → List Int32} (hdd : 4 ≤ d) (hS : isS 10 mem σ n td (nI w)) (hT : isTT rf tl mem nt T) (hw : w < nt) (K : ∀ mem', filmF σ n td (T w) s p m mem mem' → Q (some (.int (filmR n s p m))) (LAY rf tl) mem') : Sim z d 0 0 mX6_film 0 [.ref 0, .int s, .int p, .int m, .float 0, .float 0] [] (LAY rf tl) mem Q := by
  have h8 := hS.2.1
  have hn := hS.1
  have tail : ¬ shB s = 0 → ¬ pcB p (nI n) = 0 → ¬ inB m 0 30 = 0 → Sim z d 0 0 mX6_film 28 [.ref 0, .int s, .int p, .int m, .float 0, .float 0] [] (LAY rf tl) mem Q := by
    intro c1 c2 c3
    have hbad : ¬ (shB s = 0 ∨ pcB p (nI n) = 0 ∨ inB m 0 30 = 0) := fun h => h.elim c1 (fun h => h.elim c2 c3)
    unfold filmF filmR at K
    simp only [if_neg hbad] at K
    rcases sh_or s with h | ⟨j, hj, rfl, -⟩
    · exact absurd h c1
    rcases pc_or p (n := n) (by omega) with h | ⟨a, ha, rfl, -⟩
    · exact absurd h c2
    rcases in_or m (lo := 0) (hi := 30) rfl (m := 30) rfl (by omega) with h | ⟨c, hc, rfl, -⟩
    · exact absurd h c3
    rw [ix_nI (by omega), ix_nI (by omega), ix_nI (by omega)] at K
    refine s_aload_n (pc' := 29) dX6_film_28 rfl lg0 rfl ?_
    refine s_getRv (pc' := 32) (v := .ref 38) dX6_film_29 rfl flX6_47 ly0 (by decide) rfl rfl ?_
    refine s_iload_n (pc' := 33) dX6_film_32 rfl lg1 ?_
    refine s_aaldv (pc' := 34) (v := .ref (39 + 2 * j)) dX6_film_33 rfl ly38 (by decide) (am_in (by omega) (by decide)) (by rw [am_cl (n := 4) hj (by decide)]; exact R38_at hj) ?_
    refine s_astore (pc' := 36) dX6_film_34 rfl rfl (Nat.le_of_ble_eq_true rfl) rfl ls4 ?_
    refine s_aload (pc' := 38) dX6_film_36 rfl lg4 rfl ?_
    refine s_iconst (pc' := 39) dX6_film_38 rfl iconst_0 ?_
    refine s_iload_n (pc' := 40) dX6_film_39 rfl lg3 ?_
    refine c_X2_becomes  (pc' := 43) dX6_film_40 rfl lkX6_217 (by omega) (Nat.le_of_ble_eq_true rfl) hj (fun m1 r1 r2 r3 r4 => ?_)
    have hS1 : isS 10 m1 σ n td (nI w) := hS.kept (fun q h1 h2 => r1 q (by omega) (by omega))
    have hT1 : isTT rf tl m1 nt T := hT.kept (fun q hq => r1 q (by omega) (by omega))
    refine s_aload_n (pc' := 44) dX6_film_43 rfl lg0 rfl ?_
    refine s_getRv (pc' := 47) (v := .ref 18) dX6_film_44 rfl flX6_32 ly0 (by decide) rfl rfl ?_
    refine s_aload_n (pc' := 48) dX6_film_47 rfl lg0 rfl ?_
    refine s_getRv (pc' := 51) (v := .ref 10) dX6_film_48 rfl flX6_28 ly0 (by decide) rfl rfl ?_
    refine c_X3_becomes_18_10  (pc' := 54) dX6_film_51 rfl lkX6_120 (by omega) (Nat.le_of_ble_eq_true rfl) hS1 (fun m2 hS2 f2 => ?_)
    refine s_iconst (pc' := 55) dX6_film_54 rfl iconst_0 ?_
    refine s_istore (pc' := 57) dX6_film_55 rfl (Nat.le_of_ble_eq_true rfl) rfl ls5 ?_
    have loop : ∀ (k i : Nat) (mm : Mem), i + k = c → isS 18 mm (sg n (T w) σ td i) n (td + nI i) (nI w) → (∀ q, q ≠ 3 → q ≠ 4 → (q < 18 ∨ 25 < q) → q ≠ 40 + 2 * j → mm q = m1 q) → (∀ k, k < i → mm (40 + 2 * j) k = (sg n (T w) σ td k 2 a).toInt8.toInt32) → Sim z d 0 0 mX6_film 57 [.ref 0, .int (nI j), .int (nI a), .int (nI c), .ref (39 + 2 * j), .int (nI i)] [] (LAY rf tl) mm Q := by
      intro k
      induction k with
      | zero =>
        intro i mm hi hSm hm hit
        have : i = c := by omega
        subst this
        refine s_iload (pc' := 59) dX6_film_57 rfl lg5 ?_
        refine s_iload_n (pc' := 60) dX6_film_59 rfl lg3 ?_
        refine s_icmp_ge (pc' := 63) (tgt := 92) dX6_film_60 rfl (by decide) (fun _ => ?_) (fun c9 => absurd (nI_le (Nat.le_refl _) (by omega)) c9)
        refine s_iload_n (pc' := 93) dX6_film_92 rfl lg3 ?_
        refine s_iret dX6_film_93 rfl (vp_nar_int _) ?_
        have e1 : mm (39 + 2 * j) = m1 (39 + 2 * j) := hm _ (by omega) (by omega) (by omega) (by omega)
        refine K mm ⟨⟨by rw [e1]; exact r2, by rw [e1]; exact r3, by omega, hit⟩, fun q h1 h2 h3 h4 h5 => ?_⟩
        rw [hm q h1 h2 h3 h5, r1 q h4 h5]
      | succ k ih =>
        intro i mm hi hSm hm hit
        have ea := (hSm.2.2.2.2 a ha).2.2.1
        have e1 : mm (39 + 2 * j) = m1 (39 + 2 * j) := hm _ (by omega) (by omega) (by omega) (by omega)
        refine s_iload (pc' := 59) dX6_film_57 rfl lg5 ?_
        refine s_iload_n (pc' := 60) dX6_film_59 rfl lg3 ?_
        refine s_icmp_ge (pc' := 63) (tgt := 92) dX6_film_60 rfl (by decide) (fun c9 => absurd c9 (nI_ge (by omega) (by omega))) (fun _ => ?_)
        refine s_aload (pc' := 65) dX6_film_63 rfl lg4 rfl ?_
        refine s_iload (pc' := 67) dX6_film_65 rfl lg5 ?_
        refine s_aload_n (pc' := 68) dX6_film_67 rfl lg0 rfl ?_
        refine s_getRv (pc' := 71) (v := .ref 18) dX6_film_68 rfl flX6_32 ly0 (by decide) rfl rfl ?_
        refine s_getRv (pc' := 74) (v := .ref 20) dX6_film_71 rfl flX6_124 ly18 (by decide) rfl rfl ?_
        refine s_iload_n (pc' := 75) dX6_film_74 rfl lg2 ?_
        refine s_ialdNv (pc' := 76) (v := sg n (T w) σ td i 2 a) dX6_film_75 rfl ly20 (by omega) (by decide) ea ?_
        refine c_X2_puts  (pc' := 79) dX6_film_76 rfl lkX6_220 (by omega) (Nat.le_of_ble_eq_true rfl) hj (by omega) ?_
        have e3 : cutI (mm (39 + 2 * j) 1) (sg n (T w) σ td i 2 a) = (sg n (T w) σ td i 2 a).toInt8.toInt32 := by rw [e1, r2]; rfl
        rw [e3]
        have g1 : ∀ q, q ≠ 40 + 2 * j → am_up mm (40 + 2 * j) i (sg n (T w) σ td i 2 a).toInt8.toInt32 q = mm q := fun q hq => if_neg hq
        refine s_aload_n (pc' := 80) dX6_film_79 rfl lg0 rfl ?_
        refine s_getRv (pc' := 83) (v := .ref 18) dX6_film_80 rfl flX6_32 ly0 (by decide) rfl rfl ?_
        refine c_X3_passes (b := 18) (pc' := 86) dX6_film_83 rfl lkX6_113 (by omega) (Nat.le_of_ble_eq_true rfl) (Or.inr (Or.inl rfl)) (hSm.kept (fun q h1 h2 => g1 q (by omega))) (hT1.kept (fun q hq => by rw [g1 q (by omega)]; exact hm q (by omega) (by omega) (by omega) (by omega))) hw (fun m4 h4 f4 => ?_)
        refine s_iincN (pc' := 89) dX6_film_86 rfl lg5 rfl ls5 ?_
        refine s_goto (tgt := 57) dX6_film_89 (by decide) ?_
        refine ih (i + 1) m4 (by omega) (by rw [sg_succ, ← td_succ]; exact h4) (fun q h1 h2 h3 h5 => ?_) (fun k hk => ?_)
        · rw [f4 q h1 h2 (by omega), g1 q h5, hm q h1 h2 h3 h5]
        · rw [f4 (40 + 2 * j) (by omega) (by omega) (by omega)]
          by_cases hki : k = i
          · subst hki; simp [am_up, upd]
          · simp [am_up, upd, hki]; exact hit k (by omega)
    exact loop c 0 m2 (by omega) (by rw [td_0]; exact hS2) (fun q h1 h2 h3 h4 => f2 q (by omega)) (fun k hk => absurd hk (Nat.not_lt_zero k))
  refine s_iload_n (pc' := 1) dX6_film_0 rfl lg1 ?_
  refine c_X6_isSheet  (pc' := 4) dX6_film_1 rfl lkX6_146 (by omega) (Nat.le_of_ble_eq_true rfl) ?_
  refine s_if_eq (pc' := 7) (tgt := 25) dX6_film_4 rfl (by decide) (fun c1 => ?_) (fun c1 => ?_)
  · skip
    have K2 := K mem (by unfold filmF; rw [if_pos (Or.inl c1)])
    rw [filmR, if_pos (Or.inl c1)] at K2
    refine s_bipush (pc' := 27) dX6_film_25 rfl bipush_m2 ?_
    refine s_iret dX6_film_27 rfl (vp_nar_int _) ?_
    exact K2
  · skip
    refine s_aload_n (pc' := 8) dX6_film_7 rfl lg0 rfl ?_
    refine s_iload_n (pc' := 9) dX6_film_8 rfl lg2 ?_
    refine c_X6_isPiece  (pc' := 12) dX6_film_9 rfl lkX6_60 (by omega) (Nat.le_of_ble_eq_true rfl) ?_
    rw [hn]
    refine s_if_eq (pc' := 15) (tgt := 25) dX6_film_12 rfl (by decide) (fun c2 => ?_) (fun c2 => ?_)
    · skip
      have K2 := K mem (by unfold filmF; rw [if_pos (Or.inr (Or.inl c2))])
      rw [filmR, if_pos (Or.inr (Or.inl c2))] at K2
      refine s_bipush (pc' := 27) dX6_film_25 rfl bipush_m2 ?_
      refine s_iret dX6_film_27 rfl (vp_nar_int _) ?_
      exact K2
    · skip
      refine s_iload_n (pc' := 16) dX6_film_15 rfl lg3 ?_
      refine s_iconst (pc' := 17) dX6_film_16 rfl iconst_0 ?_
      refine s_bipush (pc' := 19) dX6_film_17 rfl bipush_30 ?_
      refine c_X6_isIn  (pc' := 22) dX6_film_19 rfl lkX6_56 (by omega) (Nat.le_of_ble_eq_true rfl) ?_
      refine s_if_ne (pc' := 25) (tgt := 28) dX6_film_22 rfl (by decide) (fun c3 => ?_) (fun c3 => ?_)
      · exact tail c1 c2 c3
      · skip
        have K2 := K mem (by unfold filmF; rw [if_pos (Or.inr (Or.inr c3))])
        rw [filmR, if_pos (Or.inr (Or.inr c3))] at K2
        refine s_bipush (pc' := 27) dX6_film_25 rfl bipush_m2 ?_
        refine s_iret dX6_film_27 rfl (vp_nar_int _) ?_
        exact K2
theorem c_X6_film {z : Zz} {d kc ks : Nat} {mi : MI} {pc pc' : Nat} {L S : List Value} {Q : Option Value → Lay → Mem → Prop} {rf : Nat → Value} {tl : Lay} {mem : Mem}  {n w nt : Nat} {σ : Nat → Nat → Int32} {td s p m : Int32} {T : Nat → Nat → List Int32} {idx : Nat} (hd : decode mi.2.1 pc = .ok (.invokevirtual idx, 3)) (hp : pc + 3 = pc') (hlk : Cond.methodLink mi.1.cls idx yX6_film ∈ wok) (hdd : 4 + 1 ≤ d) (hcat : (S.map (fun v => v.category)).sum ≤ 8) (hS : isS 10 mem σ n td (nI w)) (hT : isTT rf tl mem nt T) (hw : w < nt) (K : ∀ mem', filmF σ n td (T w) s p m mem mem' → Sim z d kc ks mi pc' L (.int (filmR n s p m) :: S) (LAY rf tl) mem' Q) : Sim z d kc ks mi pc L (.int m :: .int p :: .int s :: .ref 0 :: S) (LAY rf tl) mem Q :=
  s_invV (d2 := 4) hd hp okX6_film hlk inX6_film seX6_film hdd (Nat.zero_add _) (Nat.zero_add _) rfl rfl ly0 rfl hcat (Nat.le_of_ble_eq_true rfl) (m_X6_film (Nat.le_refl _) hS hT hw K)
def zz (seed : Int32) : Nat → Int32
  | 0 => seed
  | k + 1 => zz seed k * 1103515245 + 12345
def sk (z : Int32) : Nat := z.toBitVec.toNat / 512 % 16
theorem us_nI (z : Int32) : usI z 9 = nI (z.toBitVec.toNat / 512) := by
  have h1 := pk_ushr z 9 9 (by decide)
  apply Int32.toBitVec_inj.mp
  apply BitVec.eq_of_toNat_eq
  have h2 : z.toBitVec.toNat < 4294967296 := z.toBitVec.isLt
  rw [pk_tn (show z.toBitVec.toNat / 512 < 2 ^ 32 by omega)]
  exact h1
theorem rm_sk (z : Int32) : usI z 9 - usI z 9 / 16 * 16 = nI (sk z) := by
  have h2 : z.toBitVec.toNat < 4294967296 := z.toBitVec.isLt
  rw [us_nI]
  exact pk_rem (a := z.toBitVec.toNat / 512) (d := 16) (by omega) (by decide) (by decide)
def strk (σ : Nat → Nat → Int32) (n : Nat) (z : Int32) : Nat → Nat → Int32 := if sk z < n then u2 σ 2 (sk z) 99 else σ
def dg (n : Nat) (P : Nat → List Int32) (σ : Nat → Nat → Int32) (td seed : Int32) : Nat → Nat → Nat → Int32
  | 0 => σ
  | k + 1 => pas (strk (dg n P σ td seed k) n (zz seed (k + 1))) n (td + nI k) P
theorem dg_succ {n : Nat} {P : Nat → List Int32} {σ : Nat → Nat → Int32} {td seed : Int32} {k : Nat} : dg n P σ td seed (k + 1) = pas (strk (dg n P σ td seed k) n (zz seed (k + 1))) n (td + nI k) P := rfl
theorem zz_succ {seed : Int32} {k : Nat} : zz seed (k + 1) = zz seed k * 1103515245 + 12345 := rfl
set_option maxHeartbeats 4000000 in
theorem m_X6_howManyRoundBySeed {z : Zz} {d : Nat} {Q : Option Value → Lay → Mem → Prop} {rf : Nat → Value} {tl : Lay} {mem : Mem}  {n w nt c : Nat} {σ : Nat → Nat → Int32} {td seed : Int32} {T : Nat → Nat → List Int32} (hdd : 4 ≤ d) (hS : isS 10 mem σ n td (nI w)) (hT : isTT rf tl mem nt T) (hw : w < nt) (hc : c ≤ 1000) (K : ∀ mem', thf mem mem' → Q (some (.int (nI (rou (dg n (T w) σ td seed c) n)))) (LAY rf tl) mem') : Sim z d 0 0 mX6_howManyRoundBySeed 0 [.ref 0, .int seed, .int (nI c), .float 0, .float 0, .float 0] [] (LAY rf tl) mem Q := by
  have h8 := hS.2.1
  refine s_aload_n (pc' := 1) dX6_howManyRoundBySeed_0 rfl lg0 rfl ?_
  refine s_getRv (pc' := 4) (v := .ref 18) dX6_howManyRoundBySeed_1 rfl flX6_32 ly0 (by decide) rfl rfl ?_
  refine s_aload_n (pc' := 5) dX6_howManyRoundBySeed_4 rfl lg0 rfl ?_
  refine s_getRv (pc' := 8) (v := .ref 10) dX6_howManyRoundBySeed_5 rfl flX6_28 ly0 (by decide) rfl rfl ?_
  refine c_X3_becomes_18_10  (pc' := 11) dX6_howManyRoundBySeed_8 rfl lkX6_120 (by omega) (Nat.le_of_ble_eq_true rfl) hS (fun m1 hS1 f1 => ?_)
  have t1 : thf mem m1 := fun j h3 h4 h5 => f1 j (by omega)
  refine s_iload_n (pc' := 12) dX6_howManyRoundBySeed_11 rfl lg1 ?_
  refine s_istore_n (pc' := 13) dX6_howManyRoundBySeed_12 rfl (Nat.le_of_ble_eq_true rfl) rfl ls3 ?_
  refine s_iconst (pc' := 14) dX6_howManyRoundBySeed_13 rfl iconst_0 ?_
  refine s_istore (pc' := 16) dX6_howManyRoundBySeed_14 rfl (Nat.le_of_ble_eq_true rfl) rfl ls4 ?_
  have loop : ∀ (k i : Nat) (m : Mem) (v5 : Value), i + k = c → isS 18 m (dg n (T w) σ td seed i) n (td + nI i) (nI w) → thf mem m → Sim z d 0 0 mX6_howManyRoundBySeed 16 [.ref 0, .int seed, .int (nI c), .int (zz seed i), .int (nI i), v5] [] (LAY rf tl) m Q := by
    intro k
    induction k with
    | zero =>
      intro i m v5 hi hSm hm
      have hic : i = c := by omega
      subst hic
      refine s_iload (pc' := 18) dX6_howManyRoundBySeed_16 rfl lg4 ?_
      refine s_iload_n (pc' := 19) dX6_howManyRoundBySeed_18 rfl lg2 ?_
      refine s_icmp_ge (pc' := 22) (tgt := 78) dX6_howManyRoundBySeed_19 rfl (by decide) (fun _ => ?_) (fun c9 => absurd (nI_le (Nat.le_refl _) (by omega)) c9)
      refine s_aload_n (pc' := 79) dX6_howManyRoundBySeed_78 rfl lg0 rfl ?_
      refine s_getRv (pc' := 82) (v := .ref 18) dX6_howManyRoundBySeed_79 rfl flX6_32 ly0 (by decide) rfl rfl ?_
      refine c_X3_howManyRound (b := 18) (pc' := 85) dX6_howManyRoundBySeed_82 rfl lkX6_116 (by omega) (Nat.le_of_ble_eq_true rfl) (Or.inr (Or.inl rfl)) hSm.1 hSm.2.1 ?_
      rw [rou_of hSm]
      refine s_iret dX6_howManyRoundBySeed_85 rfl (vp_nar_int _) ?_
      exact K m hm
    | succ k ih =>
      intro i m v5 hi hSm hm
      have rest : ∀ m2 : Mem, isS 18 m2 (strk (dg n (T w) σ td seed i) n (zz seed (i + 1))) n (td + nI i) (nI w) → thf mem m2 → ∀ v, Sim z d 0 0 mX6_howManyRoundBySeed 65 [.ref 0, .int seed, .int (nI c), .int (zz seed (i + 1)), .int (nI i), v] [] (LAY rf tl) m2 Q := by
        intro m2 hS2 t2 v
        refine s_aload_n (pc' := 66) dX6_howManyRoundBySeed_65 rfl lg0 rfl ?_
        refine s_getRv (pc' := 69) (v := .ref 18) dX6_howManyRoundBySeed_66 rfl flX6_32 ly0 (by decide) rfl rfl ?_
        refine c_X3_passes (b := 18) (pc' := 72) dX6_howManyRoundBySeed_69 rfl lkX6_113 (by omega) (Nat.le_of_ble_eq_true rfl) (Or.inr (Or.inl rfl)) hS2 (hT.thf t2) hw (fun m3 h3 f3 => ?_)
        refine s_iincN (pc' := 75) dX6_howManyRoundBySeed_72 rfl lg4 rfl ls4 ?_
        refine s_goto (tgt := 16) dX6_howManyRoundBySeed_75 (by decide) ?_
        exact ih (i + 1) m3 _ (by omega) (by rw [dg_succ, ← td_succ]; exact h3) (t2.tr (thf.of_frm f3))
      refine s_iload (pc' := 18) dX6_howManyRoundBySeed_16 rfl lg4 ?_
      refine s_iload_n (pc' := 19) dX6_howManyRoundBySeed_18 rfl lg2 ?_
      refine s_icmp_ge (pc' := 22) (tgt := 78) dX6_howManyRoundBySeed_19 rfl (by decide) (fun c9 => absurd c9 (nI_ge (by omega) (by omega))) (fun _ => ?_)
      refine s_iload_n (pc' := 23) dX6_howManyRoundBySeed_22 rfl lg3 ?_
      refine s_ldcw (pc' := 26) dX6_howManyRoundBySeed_23 rfl kcX6_265 ?_
      refine s_imul (pc' := 27) dX6_howManyRoundBySeed_26 rfl ?_
      refine s_sipush (pc' := 30) dX6_howManyRoundBySeed_27 rfl sipush_12345 ?_
      refine s_iadd (pc' := 31) dX6_howManyRoundBySeed_30 rfl ?_
      rw [← zz_succ]
      refine s_istore_n (pc' := 32) dX6_howManyRoundBySeed_31 rfl (Nat.le_of_ble_eq_true rfl) rfl ls3 ?_
      refine s_iload_n (pc' := 33) dX6_howManyRoundBySeed_32 rfl lg3 ?_
      refine s_bipush (pc' := 35) dX6_howManyRoundBySeed_33 rfl bipush_9 ?_
      refine s_iushr (pc' := 36) dX6_howManyRoundBySeed_35 rfl ?_
      refine s_bipush (pc' := 38) dX6_howManyRoundBySeed_36 rfl bipush_16 ?_
      refine s_irem (pc' := 39) dX6_howManyRoundBySeed_38 rfl (by decide) ?_
      rw [show ((zz seed (i + 1)).toUInt32 >>> ((9 : Int32).toUInt32 &&& Int32.toUInt32 31)).toInt32 = usI (zz seed (i + 1)) 9 from rfl, rm_sk]
      refine s_istore (pc' := 41) dX6_howManyRoundBySeed_39 rfl (Nat.le_of_ble_eq_true rfl) rfl ls5 ?_
      refine s_iload (pc' := 43) dX6_howManyRoundBySeed_41 rfl lg5 ?_
      refine s_aload_n (pc' := 44) dX6_howManyRoundBySeed_43 rfl lg0 rfl ?_
      refine s_getRv (pc' := 47) (v := .ref 18) dX6_howManyRoundBySeed_44 rfl flX6_32 ly0 (by decide) rfl rfl ?_
      refine s_getIv (pc' := 50) (v := nI n) dX6_howManyRoundBySeed_47 rfl flX6_189 ly18 (by decide) rfl hSm.1 ?_
      have hsk : sk (zz seed (i + 1)) < 16 := Nat.mod_lt _ (by decide)
      refine s_icmp_ge (pc' := 53) (tgt := 65) dX6_howManyRoundBySeed_50 rfl (by decide) (fun c1 => ?_) (fun c1 => ?_)
      · have q := (nI_leI (a := n) (b := sk (zz seed (i + 1))) (by omega) (by omega)).mp c1
        have e : strk (dg n (T w) σ td seed i) n (zz seed (i + 1)) = dg n (T w) σ td seed i := if_neg (by omega)
        exact rest m (by rw [e]; exact hSm) hm _
      · skip
        have q : sk (zz seed (i + 1)) < n := by
          rcases Nat.lt_or_ge (sk (zz seed (i + 1))) n with q | q
          · exact q
          · exact absurd (nI_le q (by omega)) c1
        have e : strk (dg n (T w) σ td seed i) n (zz seed (i + 1)) = u2 (dg n (T w) σ td seed i) 2 (sk (zz seed (i + 1))) 99 := if_pos q
        refine s_aload_n (pc' := 54) dX6_howManyRoundBySeed_53 rfl lg0 rfl ?_
        refine s_getRv (pc' := 57) (v := .ref 18) dX6_howManyRoundBySeed_54 rfl flX6_32 ly0 (by decide) rfl rfl ?_
        refine s_getRv (pc' := 60) (v := .ref 20) dX6_howManyRoundBySeed_57 rfl flX6_124 ly18 (by decide) rfl rfl ?_
        refine s_iload (pc' := 62) dX6_howManyRoundBySeed_60 rfl lg5 ?_
        refine s_bipush (pc' := 64) dX6_howManyRoundBySeed_62 rfl bipush_99 ?_
        refine s_iastN (pc' := 65) dX6_howManyRoundBySeed_64 rfl ly20 (by omega) (by decide) ?_
        exact rest _ (by rw [e]; exact hSm.up (w := 2) (by decide)) (hm.tr (fun q h3 h4 h5 => if_neg (by omega))) _
  exact loop c 0 m1 _ (by omega) (by rw [td_0]; exact hS1) t1
theorem c_X6_howManyRoundBySeed {z : Zz} {d kc ks : Nat} {mi : MI} {pc pc' : Nat} {L S : List Value} {Q : Option Value → Lay → Mem → Prop} {rf : Nat → Value} {tl : Lay} {mem : Mem}  {n w nt c : Nat} {σ : Nat → Nat → Int32} {td seed : Int32} {T : Nat → Nat → List Int32} {idx : Nat} (hd : decode mi.2.1 pc = .ok (.invokevirtual idx, 3)) (hp : pc + 3 = pc') (hlk : Cond.methodLink mi.1.cls idx yX6_howManyRoundBySeed ∈ wok) (hdd : 4 + 1 ≤ d) (hcat : (S.map (fun v => v.category)).sum ≤ 8) (hS : isS 10 mem σ n td (nI w)) (hT : isTT rf tl mem nt T) (hw : w < nt) (hc : c ≤ 1000) (K : ∀ mem', thf mem mem' → Sim z d kc ks mi pc' L (.int (nI (rou (dg n (T w) σ td seed c) n)) :: S) (LAY rf tl) mem' Q) : Sim z d kc ks mi pc L (.int (nI c) :: .int seed :: .ref 0 :: S) (LAY rf tl) mem Q :=
  s_invV (d2 := 4) hd hp okX6_howManyRoundBySeed hlk inX6_howManyRoundBySeed seX6_howManyRoundBySeed hdd (Nat.zero_add _) (Nat.zero_add _) rfl rfl ly0 rfl hcat (Nat.le_of_ble_eq_true rfl) (m_X6_howManyRoundBySeed (Nat.le_refl _) hS hT hw hc K)
set_option maxHeartbeats 4000000 in
theorem m_X6_drawn {z : Zz} {d : Nat} {Q : Option Value → Lay → Mem → Prop} {rf : Nat → Value} {tl : Lay} {mem : Mem}  {n w nt : Nat} {σ : Nat → Nat → Int32} {td seed m : Int32} {T : Nat → Nat → List Int32} (hdd : 5 ≤ d) (hS : isS 10 mem σ n td (nI w)) (hT : isTT rf tl mem nt T) (hw : w < nt) (K : ∀ mem', thf mem mem' → Q (some (.int (if inB m 0 40 = 0 then -2 else nI (rou (dg n (T w) σ td seed (ix m)) n)))) (LAY rf tl) mem') : Sim z d 0 0 mX6_drawn 0 [.ref 0, .int seed, .int m] [] (LAY rf tl) mem Q := by
  refine s_iload_n (pc' := 1) dX6_drawn_0 rfl lg2 ?_
  refine s_iconst (pc' := 2) dX6_drawn_1 rfl iconst_0 ?_
  refine s_bipush (pc' := 4) dX6_drawn_2 rfl bipush_40 ?_
  refine c_X6_isIn  (pc' := 7) dX6_drawn_4 rfl lkX6_56 (by omega) (Nat.le_of_ble_eq_true rfl) ?_
  refine s_if_ne (pc' := 10) (tgt := 13) dX6_drawn_7 rfl (by decide) (fun c1 => ?_) (fun c1 => ?_)
  · skip
    rw [if_neg c1] at K
    rcases in_or m (lo := 0) (hi := 40) rfl (m := 40) rfl (by omega) with h | ⟨c, hc, rfl, -⟩
    · exact absurd h c1
    rw [ix_nI (by omega)] at K
    refine s_aload_n (pc' := 14) dX6_drawn_13 rfl lg0 rfl ?_
    refine s_iload_n (pc' := 15) dX6_drawn_14 rfl lg1 ?_
    refine s_iload_n (pc' := 16) dX6_drawn_15 rfl lg2 ?_
    refine c_X6_howManyRoundBySeed  (pc' := 19) dX6_drawn_16 rfl lkX6_223 (by omega) (Nat.le_of_ble_eq_true rfl) hS hT hw (by omega) (fun m2 t2 => ?_)
    refine s_iret dX6_drawn_19 rfl (vp_nar_int _) ?_
    exact K m2 t2
  · skip
    rw [if_pos c1] at K
    refine s_bipush (pc' := 12) dX6_drawn_10 rfl bipush_m2 ?_
    refine s_iret dX6_drawn_12 rfl (vp_nar_int _) ?_
    exact K mem thf.rf
theorem c_X6_drawn {z : Zz} {d kc ks : Nat} {mi : MI} {pc pc' : Nat} {L S : List Value} {Q : Option Value → Lay → Mem → Prop} {rf : Nat → Value} {tl : Lay} {mem : Mem}  {n w nt : Nat} {σ : Nat → Nat → Int32} {td seed m : Int32} {T : Nat → Nat → List Int32} {idx : Nat} (hd : decode mi.2.1 pc = .ok (.invokevirtual idx, 3)) (hp : pc + 3 = pc') (hlk : Cond.methodLink mi.1.cls idx yX6_drawn ∈ wok) (hdd : 5 + 1 ≤ d) (hcat : (S.map (fun v => v.category)).sum ≤ 8) (hS : isS 10 mem σ n td (nI w)) (hT : isTT rf tl mem nt T) (hw : w < nt) (K : ∀ mem', thf mem mem' → Sim z d kc ks mi pc' L (.int (if inB m 0 40 = 0 then -2 else nI (rou (dg n (T w) σ td seed (ix m)) n)) :: S) (LAY rf tl) mem' Q) : Sim z d kc ks mi pc L (.int m :: .int seed :: .ref 0 :: S) (LAY rf tl) mem Q :=
  s_invV (d2 := 5) hd hp okX6_drawn hlk inX6_drawn seX6_drawn hdd (Nat.zero_add _) (Nat.zero_add _) rfl rfl ly0 rfl hcat (Nat.le_of_ble_eq_true rfl) (m_X6_drawn (Nat.le_refl _) hS hT hw K)

