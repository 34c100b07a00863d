/-! ===== the Model: a part of a text told ===== -/
def isTM (mem : Mem) (nt : Nat) (T : Nat → Nat → List Int32) : Prop := mem 47 12 = nI nt ∧ 1 ≤ nt ∧ nt ≤ 6 ∧ ∀ w, w < nt → (∀ p, p < 3 → mem 53 (3 * w + p) = nI (eOf (T w) p)) ∧ (∀ p, p < 3 → wk (T w p) 0 = some 1) ∧ (T w 0).length + (T w 1).length + (T w 2).length ≤ 160 ∧ ∀ p, p < 3 → ∀ k, k < (T w p).length → mem 52 (160 * w + (sOf (T w) p + k)) = toM ((T w p).getD k 0)
theorem isTM.kept {mem mem' : Mem} {nt : Nat} {T : Nat → Nat → List Int32} (h : isTM mem nt T) (h47 : mem' 47 12 = mem 47 12) (h52 : mem' 52 = mem 52) (h53 : mem' 53 = mem 53) : isTM mem' nt T := by
  unfold isTM at h ⊢
  rw [h47, h52, h53]; exact h
theorem mI3 {w p : Nat} : 3 * nI w + nI p = nI (3 * w + p) := by
  rw [show (3 : Int32) * nI w = nI (3 * w) from (Int32.ofNat_mul 3 w).symm, nI_add]
theorem mI160 {w p : Nat} : 160 * nI w + nI p = nI (160 * w + p) := by
  rw [show (160 : Int32) * nI w = nI (160 * w) from (Int32.ofNat_mul 160 w).symm, nI_add]
theorem m1c_int (c : Int32) : (-1 - c).toInt = -1 - c.toInt := by
  have h1 := c.toInt_lt
  have h2 := c.le_toInt
  rw [Int32.toInt_sub, show (-1 : Int32).toInt = -1 from by decide]
  rw [Int.bmod_eq_of_le]
  · omega
  · omega
theorem num_nn {c : Int32} (h : ¬ 0 ≤ -1 - c) : ¬ c < 0 := by
  rw [Int32.le_iff_toInt_le, m1c_int, show (0 : Int32).toInt = 0 from by decide] at h
  rw [Int32.lt_iff_toInt_lt, show (0 : Int32).toInt = 0 from by decide]
  omega
theorem toM_num {c : Int32} (h : ¬ 0 ≤ -1 - c) : toM c = c := by unfold toM; rw [if_neg h]
theorem toM_nam {c : Int32} (h : 0 ≤ -1 - c) (h2 : ¬ 6 ≤ -1 - c) : ∃ k, k < 6 ∧ (-1 - c).toNatClampNeg = k ∧ toM c = -10 - nI k := by
  have h3 := vp6 h h2
  obtain ⟨j, hj, ej⟩ := nI_of (x := -1 - c) (by
    rw [Int32.le_iff_toInt_le] at h
    rw [Int32.lt_iff_toInt_lt]; omega)
  refine ⟨j, ?_, ?_, ?_⟩
  · rw [ej] at h2
    rcases Nat.lt_or_ge j 6 with q | q
    · exact q
    · exact absurd ((nI_leI (a := 6) (b := j) (by omega) hj).mpr q) h2
  · rw [ej]; exact nI_clamp hj
  · unfold toM; rw [if_pos h, if_neg h2, ej]
theorem toM_un {c : Int32} (h : 0 ≤ -1 - c) (h2 : 6 ≤ -1 - c) : (-1 - c = 11 → toM c = -22) ∧ (-1 - c = 23 → toM c = -28) := by
  constructor
  · intro e
    unfold toM; rw [if_pos h, if_pos h2, e]; decide
  · intro e
    unfold toM; rw [if_pos h, if_pos h2, e]; decide
theorem toM_bin {c : Int32} (h : 0 ≤ -1 - c) (h2 : 6 ≤ -1 - c) (h3 : ¬ (-1 - c = 11 ∨ -1 - c = 23)) : toM c < 0 ∧ toM c ≤ -20 ∧ (¬ toM c = -22) ∧ (¬ toM c = -28) ∧ ∀ x y, dmI (toM c) x y = jnI (-1 - c) x y := by
  have e : toM c = if -1 - c = 9 then -20 else if -1 - c = 10 then -21 else if -1 - c = 11 then -22 else if -1 - c = 18 then -23 else if -1 - c = 19 then -24 else if -1 - c = 15 then -25 else if -1 - c = 16 then -26 else if -1 - c = 23 then -28 else -27 := by
    unfold toM; rw [if_pos h, if_pos h2]
  have hd : ∀ x y, dmI (toM c) x y = jnI (-1 - c) x y := fun x y => by
    rw [e]; exact dm_jn (fun q => h3 (Or.inl q)) (fun q => h3 (Or.inr q))
  have hv : toM c = -20 ∨ toM c = -21 ∨ toM c = -23 ∨ toM c = -24 ∨ toM c = -25 ∨ toM c = -26 ∨ toM c = -27 := by
    rw [e, if_neg (fun q => h3 (Or.inl q)), if_neg (fun q => h3 (Or.inr q))]
    generalize -1 - c = t
    by_cases q1 : t = 9
    · rw [if_pos q1]; exact Or.inl rfl
    rw [if_neg q1]
    by_cases q2 : t = 10
    · rw [if_pos q2]; exact Or.inr (Or.inl rfl)
    rw [if_neg q2]
    by_cases q3 : t = 18
    · rw [if_pos q3]; exact Or.inr (Or.inr (Or.inl rfl))
    rw [if_neg q3]
    by_cases q4 : t = 19
    · rw [if_pos q4]; exact Or.inr (Or.inr (Or.inr (Or.inl rfl)))
    rw [if_neg q4]
    by_cases q5 : t = 15
    · rw [if_pos q5]; exact Or.inr (Or.inr (Or.inr (Or.inr (Or.inl rfl))))
    rw [if_neg q5]
    by_cases q6 : t = 16
    · rw [if_pos q6]; exact Or.inr (Or.inr (Or.inr (Or.inr (Or.inr (Or.inl rfl)))))
    rw [if_neg q6]; exact Or.inr (Or.inr (Or.inr (Or.inr (Or.inr (Or.inr rfl)))))
  refine ⟨?_, ?_, ?_, ?_, hd⟩ <;> (rcases hv with q | q | q | q | q | q | q <;> rw [q] <;> decide)
theorem sO_p {P : Nat → List Int32} {p : Nat} (hp : p < 2) : sOf P (p + 1) = eOf P p := by
  have : p = 0 ∨ p = 1 := by omega
  rcases this with rfl | rfl <;> simp [sOf, eOf]
set_option maxHeartbeats 4000000 in
theorem m_X7_tell {z : Zz} {d : Nat} {Q : Option Value → Lay → Mem → Prop} {rf : Nat → Value} {tl : Lay} {mem : Mem}  {n i w p nt : Nat} {σ : Nat → Nat → Int32} {td o : Int32} {T : Nat → Nat → List Int32} {v : Nat → Int32} (hdd : 2 ≤ d) (hM : isM 48 mem σ n td (nI w)) (hi : i < n) (hT : isTM mem nt T) (hw : w < nt) (hp3 : p < 3) (ho : (o = -1 ∧ v = vA σ td i) ∨ ∃ q, q < n ∧ o = nI q ∧ v = vB σ td i q) (K : ∀ mem', (∀ j, j ≠ 56 → mem' j = mem j) → Q (some (.int (tv v (T w p)))) (LAY rf tl) mem') : Sim z d 0 0 mX7_tell 0 [.ref 47, .int (nI p), .int (nI i), .int o, .float 0, .float 0, .float 0, .float 0, .float 0, .float 0] [] (LAY rf tl) mem Q := by
  have h8 := hM.2.1
  obtain ⟨ht1, ht2, ht3, ht4⟩ := hT
  obtain ⟨hends, hwk, hlen, hcode⟩ := ht4 w hw
  have hel : eOf (T w) p ≤ (T w 0).length + (T w 1).length + (T w 2).length := e_le hp3
  have loop : ∀ (cs : List Int32) (k : Nat) (st : List Int32) (m1 : Mem) (s0 : Nat) (x8 x9 : Value), (∀ j, j < cs.length → mem 52 (160 * w + (k + j)) = toM (cs.getD j 0)) → k + cs.length = eOf (T w) p → wk cs st.length = some 1 → (∀ j, j ≠ 56 → m1 j = mem j) → stk m1 56 st → st.length ≤ k → ev v cs st = ev v (T w p) [] → Sim z d 0 0 mX7_tell 39 [.ref 47, .int (nI p), .int (nI i), .int o, .int (nI w), .int (nI s0), .int (nI st.length), .int (nI k), x8, x9] [] (LAY rf tl) m1 Q := by
    intro cs
    induction cs with
    | nil =>
      intro k st m1 s0 x8 x9 hc hk hw1 hm hst hsl hev
      simp only [List.length_nil, Nat.add_zero] at hk
      refine s_iload (pc' := 41) dX7_tell_39 rfl lg7 ?_
      refine s_aload_n (pc' := 42) dX7_tell_41 rfl lg0 rfl ?_
      refine s_getRv (pc' := 45) (v := .ref 53) dX7_tell_42 rfl flX7_25 ly47 (by decide) rfl rfl ?_
      refine s_iconst (pc' := 46) dX7_tell_45 rfl iconst_3 ?_
      refine s_iload (pc' := 48) dX7_tell_46 rfl lg4 ?_
      refine s_imul (pc' := 49) dX7_tell_48 rfl ?_
      refine s_iload_n (pc' := 50) dX7_tell_49 rfl lg1 ?_
      refine s_iadd (pc' := 51) dX7_tell_50 rfl ?_
      rw [mI3]
      refine s_ialdNv (pc' := 52) (v := nI (eOf (T w) p)) dX7_tell_51 rfl ly53 (by omega) (by decide) (by rw [hm 53 (by decide)]; exact hends p hp3) ?_
      refine s_icmp_ge (pc' := 55) (tgt := 324) dX7_tell_52 rfl (by decide) (fun _ => ?_) (fun c9 => absurd (by rw [hk]; exact nI_le (Nat.le_refl _) (by omega)) c9)
      have h1 : st.length = 1 := by rw [wk_nil] at hw1; exact Option.some.inj hw1
      obtain ⟨x, rfl⟩ := st1_of h1
      have h2 : m1 56 0 = x := stk_hd (st := []) hst
      refine s_aload_n (pc' := 325) dX7_tell_324 rfl lg0 rfl ?_
      refine s_getRv (pc' := 328) (v := .ref 56) dX7_tell_325 rfl flX7_43 ly47 (by decide) rfl rfl ?_
      refine s_iconst (pc' := 329) dX7_tell_328 rfl iconst_0 ?_
      refine s_ialdNv (pc' := 330) (k := 0) (v := x) dX7_tell_329 rfl ly56 (by decide) (by decide) h2 ?_
      refine s_iret dX7_tell_330 rfl (vp_nar_int _) ?_
      have h3 : tv v (T w p) = x := by
        unfold tv
        rw [← hev]
        rfl
      rw [h3] at K
      exact K m1 hm
    | cons c cs ih =>
      intro k st m1 s0 x8 x9 hc hk hw1 hm hst hsl hev
      simp only [List.length_cons] at hk
      rw [ev_cons] at hev
      have hM1 : isM 48 m1 σ n td (nI w) := hM.cp (fun q _ => by rw [hm 48 (by decide)])
      have hc0 : m1 52 (160 * w + k) = toM c := by
        have := hc 0 (by simp)
        rw [hm 52 (by decide)]
        simpa using this
      have hcn : ∀ j, j < cs.length → mem 52 (160 * w + (k + 1 + j)) = toM (cs.getD j 0) := by
        intro j hj
        have := hc (j + 1) (by simp; omega)
        rw [show k + 1 + j = k + (j + 1) by omega, this]
        simp
      obtain ⟨k', hk1, hk2⟩ : ∃ k', wk1 c st.length = some k' ∧ wk cs k' = some 1 := by
        rw [wk_cons] at hw1
        exact Option.bind_eq_some_iff.mp hw1
      have hkl := wk1_le hk1
      have htl := tk1_len (v := v) hk1
      have hup : ∀ (q : Nat) (x : Int32), ∀ j, j ≠ 56 → am_up m1 56 q x j = mem j := fun q x j hj => by
        rw [upN hj]; exact hm j hj
      have go : ∀ (m2 : Mem) (x x' : Value) (q : Nat), (tk1 v c st).length = q → (∀ j, j ≠ 56 → m2 j = mem j) → stk m2 56 (tk1 v c st) → Sim z d 0 0 mX7_tell 318 [.ref 47, .int (nI p), .int (nI i), .int o, .int (nI w), .int (nI s0), .int (nI q), .int (nI k), x, x'] [] (LAY rf tl) m2 Q := fun m2 x x' q hq h1 h2 => by
        have := ih (k + 1) (tk1 v c st) m2 s0 x x' hcn (by omega) (by rw [htl]; exact hk2) h1 h2 (by omega) hev
        rw [hq] at this
        refine s_iincN (pc' := 321) dX7_tell_318 rfl lg7 rfl ls7 ?_
        refine s_goto (tgt := 39) dX7_tell_321 (by decide) ?_
        exact this
      refine s_iload (pc' := 41) dX7_tell_39 rfl lg7 ?_
      refine s_aload_n (pc' := 42) dX7_tell_41 rfl lg0 rfl ?_
      refine s_getRv (pc' := 45) (v := .ref 53) dX7_tell_42 rfl flX7_25 ly47 (by decide) rfl rfl ?_
      refine s_iconst (pc' := 46) dX7_tell_45 rfl iconst_3 ?_
      refine s_iload (pc' := 48) dX7_tell_46 rfl lg4 ?_
      refine s_imul (pc' := 49) dX7_tell_48 rfl ?_
      refine s_iload_n (pc' := 50) dX7_tell_49 rfl lg1 ?_
      refine s_iadd (pc' := 51) dX7_tell_50 rfl ?_
      rw [mI3]
      refine s_ialdNv (pc' := 52) (v := nI (eOf (T w) p)) dX7_tell_51 rfl ly53 (by omega) (by decide) (by rw [hm 53 (by decide)]; exact hends p hp3) ?_
      refine s_icmp_ge (pc' := 55) (tgt := 324) dX7_tell_52 rfl (by decide) (fun c9 => absurd c9 (nI_ge (by omega) (by omega))) (fun _ => ?_)
      refine s_aload_n (pc' := 56) dX7_tell_55 rfl lg0 rfl ?_
      refine s_getRv (pc' := 59) (v := .ref 52) dX7_tell_56 rfl flX7_22 ly47 (by decide) rfl rfl ?_
      refine s_sipush (pc' := 62) dX7_tell_59 rfl sipush_160 ?_
      refine s_iload (pc' := 64) dX7_tell_62 rfl lg4 ?_
      refine s_imul (pc' := 65) dX7_tell_64 rfl ?_
      refine s_iload (pc' := 67) dX7_tell_65 rfl lg7 ?_
      refine s_iadd (pc' := 68) dX7_tell_67 rfl ?_
      rw [mI160]
      refine s_ialdNv (pc' := 69) (v := toM c) dX7_tell_68 rfl ly52 (by omega) (by decide) hc0 ?_
      refine s_istore (pc' := 71) dX7_tell_69 rfl (Nat.le_of_ble_eq_true rfl) rfl ls8 ?_
      refine s_iload (pc' := 73) dX7_tell_71 rfl lg8 ?_
      by_cases c1 : 0 ≤ -1 - c
      · by_cases c2 : 6 ≤ -1 - c
        · by_cases hu : -1 - c = 11 ∨ -1 - c = 23
          · have hst1 : 1 ≤ st.length := by
              unfold wk1 at hk1
              rw [if_pos c1, if_pos c2, if_pos hu] at hk1
              split at hk1
              · assumption
              · cases hk1
            obtain ⟨x, s, rfl⟩ := st3_of hst1
            have e1 : tk1 v c (x :: s) = alI (-1 - c) x :: s := tk1_un c1 c2 hu
            rw [e1] at go
            simp only [List.length_cons] at go hsl ⊢
            rcases hu with hu | hu
            · rw [(toM_un c1 c2).1 hu]
              rw [hu] at go
              refine s_if_lt (pc' := 76) (tgt := 91) dX7_tell_73 rfl (by decide) (fun _ => ?_) (fun c9 => absurd (by decide) c9)
              refine s_iload (pc' := 93) dX7_tell_91 rfl lg8 ?_
              refine s_bipush (pc' := 95) dX7_tell_93 rfl bipush_m20 ?_
              refine s_icmp_le (pc' := 98) (tgt := 217) dX7_tell_95 rfl (by decide) (fun _ => ?_) (fun c9 => absurd (by decide) c9)
              refine s_iload (pc' := 219) dX7_tell_217 rfl lg8 ?_
              refine s_bipush (pc' := 221) dX7_tell_219 rfl bipush_m22 ?_
              refine s_icmp_ne (pc' := 224) (tgt := 256) dX7_tell_221 rfl (by decide) (fun c9 => absurd (rfl) c9) (fun _ => ?_)
              refine s_aload_n (pc' := 225) dX7_tell_224 rfl lg0 rfl ?_
              refine s_getRv (pc' := 228) (v := .ref 56) dX7_tell_225 rfl flX7_43 ly47 (by decide) rfl rfl ?_
              refine s_iload (pc' := 230) dX7_tell_228 rfl lg6 ?_
              refine s_iconst (pc' := 231) dX7_tell_230 rfl iconst_1 ?_
              refine s_isub (pc' := 232) dX7_tell_231 rfl ?_
              rw [nI_pred]
              refine s_aload_n (pc' := 233) dX7_tell_232 rfl lg0 rfl ?_
              refine s_getRv (pc' := 236) (v := .ref 56) dX7_tell_233 rfl flX7_43 ly47 (by decide) rfl rfl ?_
              refine s_iload (pc' := 238) dX7_tell_236 rfl lg6 ?_
              refine s_iconst (pc' := 239) dX7_tell_238 rfl iconst_1 ?_
              refine s_isub (pc' := 240) dX7_tell_239 rfl ?_
              rw [nI_pred]
              refine s_ialdNv (pc' := 241) (v := x) dX7_tell_240 rfl ly56 (by omega) (by decide) (stk_hd hst) ?_
              refine s_if_ne (pc' := 244) (tgt := 248) dX7_tell_241 rfl (by decide) (fun c3 => ?_) (fun c3 => ?_)
              · skip
                refine s_iconst (pc' := 249) dX7_tell_248 rfl iconst_0 ?_
                refine c_X7_yes (pc' := 252) dX7_tell_249 rfl lkX7_192 (by omega) (Nat.le_of_ble_eq_true rfl)  ?_
                refine s_iastN (pc' := 253) dX7_tell_252 rfl ly56 (by omega) (by decide) ?_
                refine s_goto (tgt := 318) dX7_tell_253 (by decide) ?_
                refine go _ _ _ _ rfl (hup _ _) ?_
                rw [if_pos rfl, alI, if_neg (by decide), if_neg c3]
                exact stk_top hst
              · skip
                refine s_iconst (pc' := 245) dX7_tell_244 rfl iconst_1 ?_
                refine s_goto (tgt := 249) dX7_tell_245 (by decide) ?_
                refine c_X7_yes (pc' := 252) dX7_tell_249 rfl lkX7_192 (by omega) (Nat.le_of_ble_eq_true rfl)  ?_
                refine s_iastN (pc' := 253) dX7_tell_252 rfl ly56 (by omega) (by decide) ?_
                refine s_goto (tgt := 318) dX7_tell_253 (by decide) ?_
                refine go _ _ _ _ rfl (hup _ _) ?_
                rw [if_neg (by decide), alI, if_neg (by decide), if_pos c3]
                exact stk_top hst
            · rw [(toM_un c1 c2).2 hu]
              rw [hu] at go
              refine s_if_lt (pc' := 76) (tgt := 91) dX7_tell_73 rfl (by decide) (fun _ => ?_) (fun c9 => absurd (by decide) c9)
              refine s_iload (pc' := 93) dX7_tell_91 rfl lg8 ?_
              refine s_bipush (pc' := 95) dX7_tell_93 rfl bipush_m20 ?_
              refine s_icmp_le (pc' := 98) (tgt := 217) dX7_tell_95 rfl (by decide) (fun _ => ?_) (fun c9 => absurd (by decide) c9)
              refine s_iload (pc' := 219) dX7_tell_217 rfl lg8 ?_
              refine s_bipush (pc' := 221) dX7_tell_219 rfl bipush_m22 ?_
              refine s_icmp_ne (pc' := 224) (tgt := 256) dX7_tell_221 rfl (by decide) (fun _ => ?_) (fun c9 => absurd c9 (by decide))
              refine s_iload (pc' := 258) dX7_tell_256 rfl lg8 ?_
              refine s_bipush (pc' := 260) dX7_tell_258 rfl bipush_m28 ?_
              refine s_icmp_ne (pc' := 263) (tgt := 285) dX7_tell_260 rfl (by decide) (fun c9 => absurd (rfl) c9) (fun _ => ?_)
              refine s_aload_n (pc' := 264) dX7_tell_263 rfl lg0 rfl ?_
              refine s_getRv (pc' := 267) (v := .ref 56) dX7_tell_264 rfl flX7_43 ly47 (by decide) rfl rfl ?_
              refine s_iload (pc' := 269) dX7_tell_267 rfl lg6 ?_
              refine s_iconst (pc' := 270) dX7_tell_269 rfl iconst_1 ?_
              refine s_isub (pc' := 271) dX7_tell_270 rfl ?_
              rw [nI_pred]
              refine s_aload_n (pc' := 272) dX7_tell_271 rfl lg0 rfl ?_
              refine s_getRv (pc' := 275) (v := .ref 56) dX7_tell_272 rfl flX7_43 ly47 (by decide) rfl rfl ?_
              refine s_iload (pc' := 277) dX7_tell_275 rfl lg6 ?_
              refine s_iconst (pc' := 278) dX7_tell_277 rfl iconst_1 ?_
              refine s_isub (pc' := 279) dX7_tell_278 rfl ?_
              rw [nI_pred]
              refine s_ialdNv (pc' := 280) (v := x) dX7_tell_279 rfl ly56 (by omega) (by decide) (stk_hd hst) ?_
              refine s_ineg (pc' := 281) dX7_tell_280 rfl ?_
              refine s_iastN (pc' := 282) dX7_tell_281 rfl ly56 (by omega) (by decide) ?_
              refine s_goto (tgt := 318) dX7_tell_282 (by decide) ?_
              refine go _ _ _ _ rfl (hup _ _) ?_
              rw [alI, if_pos rfl]
              exact stk_top hst
          · have hst2 : 2 ≤ st.length := by
              unfold wk1 at hk1
              rw [if_pos c1, if_pos c2, if_neg hu] at hk1
              split at hk1
              · assumption
              · cases hk1
            obtain ⟨y, x, s, rfl⟩ := st2_of hst2
            obtain ⟨t1, t2, t3, t4, t5⟩ := toM_bin c1 c2 hu
            have e1 : tk1 v c (y :: x :: s) = jnI (-1 - c) x y :: s := tk1_bin c1 c2 hu
            rw [e1, ← t5] at go
            simp only [List.length_cons] at go hsl ⊢
            refine s_if_lt (pc' := 76) (tgt := 91) dX7_tell_73 rfl (by decide) (fun _ => ?_) (fun c9 => absurd (t1) c9)
            refine s_iload (pc' := 93) dX7_tell_91 rfl lg8 ?_
            refine s_bipush (pc' := 95) dX7_tell_93 rfl bipush_m20 ?_
            refine s_icmp_le (pc' := 98) (tgt := 217) dX7_tell_95 rfl (by decide) (fun _ => ?_) (fun c9 => absurd (t2) c9)
            refine s_iload (pc' := 219) dX7_tell_217 rfl lg8 ?_
            refine s_bipush (pc' := 221) dX7_tell_219 rfl bipush_m22 ?_
            refine s_icmp_ne (pc' := 224) (tgt := 256) dX7_tell_221 rfl (by decide) (fun _ => ?_) (fun c9 => absurd c9 (t3))
            refine s_iload (pc' := 258) dX7_tell_256 rfl lg8 ?_
            refine s_bipush (pc' := 260) dX7_tell_258 rfl bipush_m28 ?_
            refine s_icmp_ne (pc' := 263) (tgt := 285) dX7_tell_260 rfl (by decide) (fun _ => ?_) (fun c9 => absurd c9 (t4))
            refine s_iincM (pc' := 288) dX7_tell_285 rfl lg6 rfl ls6 ?_
            refine s_aload_n (pc' := 289) dX7_tell_288 rfl lg0 rfl ?_
            refine s_getRv (pc' := 292) (v := .ref 56) dX7_tell_289 rfl flX7_43 ly47 (by decide) rfl rfl ?_
            refine s_iload (pc' := 294) dX7_tell_292 rfl lg6 ?_
            refine s_iconst (pc' := 295) dX7_tell_294 rfl iconst_1 ?_
            refine s_isub (pc' := 296) dX7_tell_295 rfl ?_
            rw [nI_pred]
            refine s_iload (pc' := 298) dX7_tell_296 rfl lg8 ?_
            refine s_aload_n (pc' := 299) dX7_tell_298 rfl lg0 rfl ?_
            refine s_getRv (pc' := 302) (v := .ref 56) dX7_tell_299 rfl flX7_43 ly47 (by decide) rfl rfl ?_
            refine s_iload (pc' := 304) dX7_tell_302 rfl lg6 ?_
            refine s_iconst (pc' := 305) dX7_tell_304 rfl iconst_1 ?_
            refine s_isub (pc' := 306) dX7_tell_305 rfl ?_
            rw [nI_pred]
            refine s_ialdNv (pc' := 307) (v := x) dX7_tell_306 rfl ly56 (by omega) (by decide) (stk_hd (stk_pop hst)) ?_
            refine s_aload_n (pc' := 308) dX7_tell_307 rfl lg0 rfl ?_
            refine s_getRv (pc' := 311) (v := .ref 56) dX7_tell_308 rfl flX7_43 ly47 (by decide) rfl rfl ?_
            refine s_iload (pc' := 313) dX7_tell_311 rfl lg6 ?_
            refine s_ialdNv (pc' := 314) (v := y) dX7_tell_313 rfl ly56 (by omega) (by decide) (stk_hd hst) ?_
            refine c_X7_deed (pc' := 317) dX7_tell_314 rfl lkX7_199 (by omega) (Nat.le_of_ble_eq_true rfl)  ?_
            refine s_iastN (pc' := 318) dX7_tell_317 rfl ly56 (by omega) (by decide) ?_
            exact go _ _ _ _ rfl (hup _ _) (stk_top (stk_pop hst))
        · obtain ⟨k6, hk6, ek6, etm⟩ := toM_nam c1 c2
          have e1 : tk1 v c st = v k6 :: st := by rw [tk1_nam c1 c2, ek6]
          rw [e1] at go
          simp only [List.length_cons] at go
          have fin : ∀ (x : Int32) (x8 x9 : Value), v k6 = x → Sim z d 0 0 mX7_tell 210 [.ref 47, .int (nI p), .int (nI i), .int o, .int (nI w), .int (nI s0), .int (nI st.length), .int (nI k), x8, x9] [.int x, .int (nI st.length), .ref 56] (LAY rf tl) m1 Q := by
            intro x x8 x9 hx
            rw [hx] at go
            refine s_iastN (pc' := 211) dX7_tell_210 rfl ly56 (by omega) (by decide) ?_
            refine s_iincN (pc' := 214) dX7_tell_211 rfl lg6 rfl ls6 ?_
            refine s_goto (tgt := 318) dX7_tell_214 (by decide) ?_
            exact go _ _ _ _ rfl (hup _ _) (stk_push hst)
          rcases lt6 hk6 with rfl | rfl | rfl | rfl | rfl | rfl
          · rw [show toM c = -10 from by rw [etm]; decide]
            refine s_if_lt (pc' := 76) (tgt := 91) dX7_tell_73 rfl (by decide) (fun _ => ?_) (fun c9 => absurd (by decide) c9)
            refine s_iload (pc' := 93) dX7_tell_91 rfl lg8 ?_
            refine s_bipush (pc' := 95) dX7_tell_93 rfl bipush_m20 ?_
            refine s_icmp_le (pc' := 98) (tgt := 217) dX7_tell_95 rfl (by decide) (fun c9 => absurd c9 (by decide)) (fun _ => ?_)
            refine s_bipush (pc' := 100) dX7_tell_98 rfl bipush_m10 ?_
            refine s_iload (pc' := 102) dX7_tell_100 rfl lg8 ?_
            refine s_isub (pc' := 103) dX7_tell_102 rfl ?_
            refine s_istore (pc' := 105) dX7_tell_103 rfl (Nat.le_of_ble_eq_true rfl) rfl ls9 ?_
            refine s_aload_n (pc' := 106) dX7_tell_105 rfl lg0 rfl ?_
            refine s_getRv (pc' := 109) (v := .ref 56) dX7_tell_106 rfl flX7_43 ly47 (by decide) rfl rfl ?_
            refine s_iload (pc' := 111) dX7_tell_109 rfl lg6 ?_
            refine s_iload (pc' := 113) dX7_tell_111 rfl lg9 ?_
            refine s_if_ne (pc' := 116) (tgt := 125) dX7_tell_113 rfl (by decide) (fun c9 => absurd (by decide) c9) (fun _ => ?_)
            refine s_aload_n (pc' := 117) dX7_tell_116 rfl lg0 rfl ?_
            refine s_iload_n (pc' := 118) dX7_tell_117 rfl lg2 ?_
            refine s_iconst (pc' := 119) dX7_tell_118 rfl iconst_2 ?_
            refine c_X7_of_2  (pc' := 122) dX7_tell_119 rfl lkX7_108 (by omega) (Nat.le_of_ble_eq_true rfl) hM1 hi ?_
            refine s_goto (tgt := 210) dX7_tell_122 (by decide) ?_
            exact fin _ _ _ (by rcases ho with ⟨-, rfl⟩ | ⟨q, -, -, rfl⟩ <;> rfl)
          · rw [show toM c = -11 from by rw [etm]; decide]
            refine s_if_lt (pc' := 76) (tgt := 91) dX7_tell_73 rfl (by decide) (fun _ => ?_) (fun c9 => absurd (by decide) c9)
            refine s_iload (pc' := 93) dX7_tell_91 rfl lg8 ?_
            refine s_bipush (pc' := 95) dX7_tell_93 rfl bipush_m20 ?_
            refine s_icmp_le (pc' := 98) (tgt := 217) dX7_tell_95 rfl (by decide) (fun c9 => absurd c9 (by decide)) (fun _ => ?_)
            refine s_bipush (pc' := 100) dX7_tell_98 rfl bipush_m10 ?_
            refine s_iload (pc' := 102) dX7_tell_100 rfl lg8 ?_
            refine s_isub (pc' := 103) dX7_tell_102 rfl ?_
            refine s_istore (pc' := 105) dX7_tell_103 rfl (Nat.le_of_ble_eq_true rfl) rfl ls9 ?_
            refine s_aload_n (pc' := 106) dX7_tell_105 rfl lg0 rfl ?_
            refine s_getRv (pc' := 109) (v := .ref 56) dX7_tell_106 rfl flX7_43 ly47 (by decide) rfl rfl ?_
            refine s_iload (pc' := 111) dX7_tell_109 rfl lg6 ?_
            refine s_iload (pc' := 113) dX7_tell_111 rfl lg9 ?_
            refine s_if_ne (pc' := 116) (tgt := 125) dX7_tell_113 rfl (by decide) (fun _ => ?_) (fun c9 => absurd c9 (by decide))
            refine s_iload (pc' := 127) dX7_tell_125 rfl lg9 ?_
            refine s_iconst (pc' := 128) dX7_tell_127 rfl iconst_3 ?_
            refine s_icmp_ne (pc' := 131) (tgt := 140) dX7_tell_128 rfl (by decide) (fun _ => ?_) (fun c9 => absurd c9 (by decide))
            refine s_iload (pc' := 142) dX7_tell_140 rfl lg9 ?_
            refine s_iconst (pc' := 143) dX7_tell_142 rfl iconst_4 ?_
            refine s_icmp_ne (pc' := 146) (tgt := 156) dX7_tell_143 rfl (by decide) (fun _ => ?_) (fun c9 => absurd c9 (by decide))
            refine s_iload (pc' := 158) dX7_tell_156 rfl lg9 ?_
            refine s_iconst (pc' := 159) dX7_tell_158 rfl iconst_5 ?_
            refine s_icmp_ne (pc' := 162) (tgt := 171) dX7_tell_159 rfl (by decide) (fun _ => ?_) (fun c9 => absurd c9 (by decide))
            refine s_iload_n (pc' := 172) dX7_tell_171 rfl lg3 ?_
            refine s_iconst (pc' := 173) dX7_tell_172 rfl iconst_m1 ?_
            rcases ho with ⟨ho, hv⟩ | ⟨q, hq, ho, hv⟩
            · rw [ho]
              refine s_icmp_ne (pc' := 176) (tgt := 180) dX7_tell_173 rfl (by decide) (fun c9 => absurd (rfl) c9) (fun _ => ?_)
              refine s_iconst (pc' := 177) dX7_tell_176 rfl iconst_0 ?_
              refine s_goto (tgt := 210) dX7_tell_177 (by decide) ?_
              have := fin 0 (.int (-11)) (.int (-10 - -11)) (by rw [hv]; rfl)
              rw [ho] at this
              exact this
            · rw [ho]
              refine s_icmp_ne (pc' := 176) (tgt := 180) dX7_tell_173 rfl (by decide) (fun _ => ?_) (fun c9 => absurd c9 (nI_m1 (by omega)))
              refine s_iload (pc' := 182) dX7_tell_180 rfl lg9 ?_
              refine s_iconst (pc' := 183) dX7_tell_182 rfl iconst_1 ?_
              refine s_icmp_ne (pc' := 186) (tgt := 195) dX7_tell_183 rfl (by decide) (fun c9 => absurd (by decide) c9) (fun _ => ?_)
              refine s_aload_n (pc' := 187) dX7_tell_186 rfl lg0 rfl ?_
              refine s_iload_n (pc' := 188) dX7_tell_187 rfl lg3 ?_
              refine s_iconst (pc' := 189) dX7_tell_188 rfl iconst_2 ?_
              refine c_X7_of_2  (pc' := 192) dX7_tell_189 rfl lkX7_108 (by omega) (Nat.le_of_ble_eq_true rfl) hM1 hq ?_
              refine s_goto (tgt := 210) dX7_tell_192 (by decide) ?_
              have := fin (σ 2 q) (.int (-11)) (.int (-10 - -11)) (by rw [hv]; rfl)
              rw [ho] at this
              exact this
          · rw [show toM c = -12 from by rw [etm]; decide]
            refine s_if_lt (pc' := 76) (tgt := 91) dX7_tell_73 rfl (by decide) (fun _ => ?_) (fun c9 => absurd (by decide) c9)
            refine s_iload (pc' := 93) dX7_tell_91 rfl lg8 ?_
            refine s_bipush (pc' := 95) dX7_tell_93 rfl bipush_m20 ?_
            refine s_icmp_le (pc' := 98) (tgt := 217) dX7_tell_95 rfl (by decide) (fun c9 => absurd c9 (by decide)) (fun _ => ?_)
            refine s_bipush (pc' := 100) dX7_tell_98 rfl bipush_m10 ?_
            refine s_iload (pc' := 102) dX7_tell_100 rfl lg8 ?_
            refine s_isub (pc' := 103) dX7_tell_102 rfl ?_
            refine s_istore (pc' := 105) dX7_tell_103 rfl (Nat.le_of_ble_eq_true rfl) rfl ls9 ?_
            refine s_aload_n (pc' := 106) dX7_tell_105 rfl lg0 rfl ?_
            refine s_getRv (pc' := 109) (v := .ref 56) dX7_tell_106 rfl flX7_43 ly47 (by decide) rfl rfl ?_
            refine s_iload (pc' := 111) dX7_tell_109 rfl lg6 ?_
            refine s_iload (pc' := 113) dX7_tell_111 rfl lg9 ?_
            refine s_if_ne (pc' := 116) (tgt := 125) dX7_tell_113 rfl (by decide) (fun _ => ?_) (fun c9 => absurd c9 (by decide))
            refine s_iload (pc' := 127) dX7_tell_125 rfl lg9 ?_
            refine s_iconst (pc' := 128) dX7_tell_127 rfl iconst_3 ?_
            refine s_icmp_ne (pc' := 131) (tgt := 140) dX7_tell_128 rfl (by decide) (fun _ => ?_) (fun c9 => absurd c9 (by decide))
            refine s_iload (pc' := 142) dX7_tell_140 rfl lg9 ?_
            refine s_iconst (pc' := 143) dX7_tell_142 rfl iconst_4 ?_
            refine s_icmp_ne (pc' := 146) (tgt := 156) dX7_tell_143 rfl (by decide) (fun _ => ?_) (fun c9 => absurd c9 (by decide))
            refine s_iload (pc' := 158) dX7_tell_156 rfl lg9 ?_
            refine s_iconst (pc' := 159) dX7_tell_158 rfl iconst_5 ?_
            refine s_icmp_ne (pc' := 162) (tgt := 171) dX7_tell_159 rfl (by decide) (fun _ => ?_) (fun c9 => absurd c9 (by decide))
            refine s_iload_n (pc' := 172) dX7_tell_171 rfl lg3 ?_
            refine s_iconst (pc' := 173) dX7_tell_172 rfl iconst_m1 ?_
            rcases ho with ⟨ho, hv⟩ | ⟨q, hq, ho, hv⟩
            · rw [ho]
              refine s_icmp_ne (pc' := 176) (tgt := 180) dX7_tell_173 rfl (by decide) (fun c9 => absurd (rfl) c9) (fun _ => ?_)
              refine s_iconst (pc' := 177) dX7_tell_176 rfl iconst_0 ?_
              refine s_goto (tgt := 210) dX7_tell_177 (by decide) ?_
              have := fin 0 (.int (-12)) (.int (-10 - -12)) (by rw [hv]; rfl)
              rw [ho] at this
              exact this
            · rw [ho]
              refine s_icmp_ne (pc' := 176) (tgt := 180) dX7_tell_173 rfl (by decide) (fun _ => ?_) (fun c9 => absurd c9 (nI_m1 (by omega)))
              refine s_iload (pc' := 182) dX7_tell_180 rfl lg9 ?_
              refine s_iconst (pc' := 183) dX7_tell_182 rfl iconst_1 ?_
              refine s_icmp_ne (pc' := 186) (tgt := 195) dX7_tell_183 rfl (by decide) (fun _ => ?_) (fun c9 => absurd c9 (by decide))
              refine s_aload_n (pc' := 196) dX7_tell_195 rfl lg0 rfl ?_
              refine s_iload_n (pc' := 197) dX7_tell_196 rfl lg2 ?_
              refine s_iconst (pc' := 198) dX7_tell_197 rfl iconst_3 ?_
              refine c_X7_of_3  (pc' := 201) dX7_tell_198 rfl lkX7_108 (by omega) (Nat.le_of_ble_eq_true rfl) hM1 hi ?_
              refine s_aload_n (pc' := 202) dX7_tell_201 rfl lg0 rfl ?_
              refine s_iload_n (pc' := 203) dX7_tell_202 rfl lg3 ?_
              refine s_iconst (pc' := 204) dX7_tell_203 rfl iconst_3 ?_
              refine c_X7_of_3  (pc' := 207) dX7_tell_204 rfl lkX7_108 (by omega) (Nat.le_of_ble_eq_true rfl) hM1 hq ?_
              refine c_X7_apart (pc' := 210) dX7_tell_207 rfl lkX7_196 (by omega) (Nat.le_of_ble_eq_true rfl)  ?_
              have := fin (apI (σ 3 i) (σ 3 q)) (.int (-12)) (.int (-10 - -12)) (by rw [hv]; unfold vB; rw [if_neg (by decide), if_neg (by decide), if_pos rfl])
              rw [ho] at this
              exact this
          · rw [show toM c = -13 from by rw [etm]; decide]
            refine s_if_lt (pc' := 76) (tgt := 91) dX7_tell_73 rfl (by decide) (fun _ => ?_) (fun c9 => absurd (by decide) c9)
            refine s_iload (pc' := 93) dX7_tell_91 rfl lg8 ?_
            refine s_bipush (pc' := 95) dX7_tell_93 rfl bipush_m20 ?_
            refine s_icmp_le (pc' := 98) (tgt := 217) dX7_tell_95 rfl (by decide) (fun c9 => absurd c9 (by decide)) (fun _ => ?_)
            refine s_bipush (pc' := 100) dX7_tell_98 rfl bipush_m10 ?_
            refine s_iload (pc' := 102) dX7_tell_100 rfl lg8 ?_
            refine s_isub (pc' := 103) dX7_tell_102 rfl ?_
            refine s_istore (pc' := 105) dX7_tell_103 rfl (Nat.le_of_ble_eq_true rfl) rfl ls9 ?_
            refine s_aload_n (pc' := 106) dX7_tell_105 rfl lg0 rfl ?_
            refine s_getRv (pc' := 109) (v := .ref 56) dX7_tell_106 rfl flX7_43 ly47 (by decide) rfl rfl ?_
            refine s_iload (pc' := 111) dX7_tell_109 rfl lg6 ?_
            refine s_iload (pc' := 113) dX7_tell_111 rfl lg9 ?_
            refine s_if_ne (pc' := 116) (tgt := 125) dX7_tell_113 rfl (by decide) (fun _ => ?_) (fun c9 => absurd c9 (by decide))
            refine s_iload (pc' := 127) dX7_tell_125 rfl lg9 ?_
            refine s_iconst (pc' := 128) dX7_tell_127 rfl iconst_3 ?_
            refine s_icmp_ne (pc' := 131) (tgt := 140) dX7_tell_128 rfl (by decide) (fun c9 => absurd (by decide) c9) (fun _ => ?_)
            refine s_aload_n (pc' := 132) dX7_tell_131 rfl lg0 rfl ?_
            refine s_iload_n (pc' := 133) dX7_tell_132 rfl lg2 ?_
            refine s_iconst (pc' := 134) dX7_tell_133 rfl iconst_1 ?_
            refine c_X7_of_1  (pc' := 137) dX7_tell_134 rfl lkX7_108 (by omega) (Nat.le_of_ble_eq_true rfl) hM1 hi ?_
            refine s_goto (tgt := 210) dX7_tell_137 (by decide) ?_
            exact fin _ _ _ (by rcases ho with ⟨-, rfl⟩ | ⟨q, -, -, rfl⟩ <;> rfl)
          · rw [show toM c = -14 from by rw [etm]; decide]
            refine s_if_lt (pc' := 76) (tgt := 91) dX7_tell_73 rfl (by decide) (fun _ => ?_) (fun c9 => absurd (by decide) c9)
            refine s_iload (pc' := 93) dX7_tell_91 rfl lg8 ?_
            refine s_bipush (pc' := 95) dX7_tell_93 rfl bipush_m20 ?_
            refine s_icmp_le (pc' := 98) (tgt := 217) dX7_tell_95 rfl (by decide) (fun c9 => absurd c9 (by decide)) (fun _ => ?_)
            refine s_bipush (pc' := 100) dX7_tell_98 rfl bipush_m10 ?_
            refine s_iload (pc' := 102) dX7_tell_100 rfl lg8 ?_
            refine s_isub (pc' := 103) dX7_tell_102 rfl ?_
            refine s_istore (pc' := 105) dX7_tell_103 rfl (Nat.le_of_ble_eq_true rfl) rfl ls9 ?_
            refine s_aload_n (pc' := 106) dX7_tell_105 rfl lg0 rfl ?_
            refine s_getRv (pc' := 109) (v := .ref 56) dX7_tell_106 rfl flX7_43 ly47 (by decide) rfl rfl ?_
            refine s_iload (pc' := 111) dX7_tell_109 rfl lg6 ?_
            refine s_iload (pc' := 113) dX7_tell_111 rfl lg9 ?_
            refine s_if_ne (pc' := 116) (tgt := 125) dX7_tell_113 rfl (by decide) (fun _ => ?_) (fun c9 => absurd c9 (by decide))
            refine s_iload (pc' := 127) dX7_tell_125 rfl lg9 ?_
            refine s_iconst (pc' := 128) dX7_tell_127 rfl iconst_3 ?_
            refine s_icmp_ne (pc' := 131) (tgt := 140) dX7_tell_128 rfl (by decide) (fun _ => ?_) (fun c9 => absurd c9 (by decide))
            refine s_iload (pc' := 142) dX7_tell_140 rfl lg9 ?_
            refine s_iconst (pc' := 143) dX7_tell_142 rfl iconst_4 ?_
            refine s_icmp_ne (pc' := 146) (tgt := 156) dX7_tell_143 rfl (by decide) (fun c9 => absurd (by decide) c9) (fun _ => ?_)
            refine s_aload_n (pc' := 147) dX7_tell_146 rfl lg0 rfl ?_
            refine s_getRv (pc' := 150) (v := .ref 48) dX7_tell_147 rfl flX7_7 ly47 (by decide) rfl rfl ?_
            refine s_bipush (pc' := 152) dX7_tell_150 rfl bipush_41 ?_
            refine s_ialdNv (pc' := 153) (k := 41) (v := td) dX7_tell_152 rfl ly48 (by decide) (by decide) hM1.2.2.1 ?_
            refine s_goto (tgt := 210) dX7_tell_153 (by decide) ?_
            exact fin _ _ _ (by rcases ho with ⟨-, rfl⟩ | ⟨q, -, -, rfl⟩ <;> rfl)
          · rw [show toM c = -15 from by rw [etm]; decide]
            refine s_if_lt (pc' := 76) (tgt := 91) dX7_tell_73 rfl (by decide) (fun _ => ?_) (fun c9 => absurd (by decide) c9)
            refine s_iload (pc' := 93) dX7_tell_91 rfl lg8 ?_
            refine s_bipush (pc' := 95) dX7_tell_93 rfl bipush_m20 ?_
            refine s_icmp_le (pc' := 98) (tgt := 217) dX7_tell_95 rfl (by decide) (fun c9 => absurd c9 (by decide)) (fun _ => ?_)
            refine s_bipush (pc' := 100) dX7_tell_98 rfl bipush_m10 ?_
            refine s_iload (pc' := 102) dX7_tell_100 rfl lg8 ?_
            refine s_isub (pc' := 103) dX7_tell_102 rfl ?_
            refine s_istore (pc' := 105) dX7_tell_103 rfl (Nat.le_of_ble_eq_true rfl) rfl ls9 ?_
            refine s_aload_n (pc' := 106) dX7_tell_105 rfl lg0 rfl ?_
            refine s_getRv (pc' := 109) (v := .ref 56) dX7_tell_106 rfl flX7_43 ly47 (by decide) rfl rfl ?_
            refine s_iload (pc' := 111) dX7_tell_109 rfl lg6 ?_
            refine s_iload (pc' := 113) dX7_tell_111 rfl lg9 ?_
            refine s_if_ne (pc' := 116) (tgt := 125) dX7_tell_113 rfl (by decide) (fun _ => ?_) (fun c9 => absurd c9 (by decide))
            refine s_iload (pc' := 127) dX7_tell_125 rfl lg9 ?_
            refine s_iconst (pc' := 128) dX7_tell_127 rfl iconst_3 ?_
            refine s_icmp_ne (pc' := 131) (tgt := 140) dX7_tell_128 rfl (by decide) (fun _ => ?_) (fun c9 => absurd c9 (by decide))
            refine s_iload (pc' := 142) dX7_tell_140 rfl lg9 ?_
            refine s_iconst (pc' := 143) dX7_tell_142 rfl iconst_4 ?_
            refine s_icmp_ne (pc' := 146) (tgt := 156) dX7_tell_143 rfl (by decide) (fun _ => ?_) (fun c9 => absurd c9 (by decide))
            refine s_iload (pc' := 158) dX7_tell_156 rfl lg9 ?_
            refine s_iconst (pc' := 159) dX7_tell_158 rfl iconst_5 ?_
            refine s_icmp_ne (pc' := 162) (tgt := 171) dX7_tell_159 rfl (by decide) (fun c9 => absurd (by decide) c9) (fun _ => ?_)
            refine s_aload_n (pc' := 163) dX7_tell_162 rfl lg0 rfl ?_
            refine s_iload_n (pc' := 164) dX7_tell_163 rfl lg2 ?_
            refine s_iconst (pc' := 165) dX7_tell_164 rfl iconst_3 ?_
            refine c_X7_of_3  (pc' := 168) dX7_tell_165 rfl lkX7_108 (by omega) (Nat.le_of_ble_eq_true rfl) hM1 hi ?_
            refine s_goto (tgt := 210) dX7_tell_168 (by decide) ?_
            exact fin _ _ _ (by rcases ho with ⟨-, rfl⟩ | ⟨q, -, -, rfl⟩ <;> rfl)
      · have e1 : tk1 v c st = c :: st := tk1_num c1
        rw [e1] at go
        simp only [List.length_cons] at go
        rw [toM_num c1]
        refine s_if_lt (pc' := 76) (tgt := 91) dX7_tell_73 rfl (by decide) (fun c9 => absurd c9 (num_nn c1)) (fun _ => ?_)
        refine s_aload_n (pc' := 77) dX7_tell_76 rfl lg0 rfl ?_
        refine s_getRv (pc' := 80) (v := .ref 56) dX7_tell_77 rfl flX7_43 ly47 (by decide) rfl rfl ?_
        refine s_iload (pc' := 82) dX7_tell_80 rfl lg6 ?_
        refine s_iload (pc' := 84) dX7_tell_82 rfl lg8 ?_
        refine s_iastN (pc' := 85) dX7_tell_84 rfl ly56 (by omega) (by decide) ?_
        refine s_iincN (pc' := 88) dX7_tell_85 rfl lg6 rfl ls6 ?_
        refine s_goto (tgt := 318) dX7_tell_88 (by decide) ?_
        exact go _ _ _ _ rfl (hup _ _) (stk_push hst)
  have start : ∀ s0 : Nat, s0 = sOf (T w) p → Sim z d 0 0 mX7_tell 39 [.ref 47, .int (nI p), .int (nI i), .int o, .int (nI w), .int (nI s0), .int (nI 0), .int (nI s0), .float 0, .float 0] [] (LAY rf tl) mem Q := by
    intro s0 hs
    refine loop (T w p) s0 [] mem s0 _ _ (fun j hj => ?_) (by rw [hs]; rfl) (hwk p hp3) (fun _ _ => rfl) stk_nil (Nat.zero_le _) rfl
    rw [hs]; exact hcode p hp3 j hj
  clear loop
  refine s_aload_n (pc' := 1) dX7_tell_0 rfl lg0 rfl ?_
  refine s_getRv (pc' := 4) (v := .ref 48) dX7_tell_1 rfl flX7_7 ly47 (by decide) rfl rfl ?_
  refine s_bipush (pc' := 6) dX7_tell_4 rfl bipush_42 ?_
  refine s_ialdNv (pc' := 7) (k := 42) (v := nI w) dX7_tell_6 rfl ly48 (by decide) (by decide) hM.2.2.2.1 ?_
  refine s_istore (pc' := 9) dX7_tell_7 rfl (Nat.le_of_ble_eq_true rfl) rfl ls4 ?_
  refine s_iload_n (pc' := 10) dX7_tell_9 rfl lg1 ?_
  cases p with
  | zero =>
    refine s_if_ne (pc' := 13) (tgt := 17) dX7_tell_10 rfl (by decide) (fun c9 => absurd (nI_0) c9) (fun _ => ?_)
    refine s_iconst (pc' := 14) dX7_tell_13 rfl iconst_0 ?_
    refine s_goto (tgt := 30) dX7_tell_14 (by decide) ?_
    refine s_istore (pc' := 32) dX7_tell_30 rfl (Nat.le_of_ble_eq_true rfl) rfl ls5 ?_
    refine s_iconst (pc' := 33) dX7_tell_32 rfl iconst_0 ?_
    refine s_istore (pc' := 35) dX7_tell_33 rfl (Nat.le_of_ble_eq_true rfl) rfl ls6 ?_
    refine s_iload (pc' := 37) dX7_tell_35 rfl lg5 ?_
    refine s_istore (pc' := 39) dX7_tell_37 rfl (Nat.le_of_ble_eq_true rfl) rfl ls7 ?_
    exact start 0 rfl
  | succ p =>
    refine s_if_ne (pc' := 13) (tgt := 17) dX7_tell_10 rfl (by decide) (fun _ => ?_) (fun c9 => absurd c9 (nI_ne0 (by omega) (by omega)))
    refine s_aload_n (pc' := 18) dX7_tell_17 rfl lg0 rfl ?_
    refine s_getRv (pc' := 21) (v := .ref 53) dX7_tell_18 rfl flX7_25 ly47 (by decide) rfl rfl ?_
    refine s_iconst (pc' := 22) dX7_tell_21 rfl iconst_3 ?_
    refine s_iload (pc' := 24) dX7_tell_22 rfl lg4 ?_
    refine s_imul (pc' := 25) dX7_tell_24 rfl ?_
    refine s_iload_n (pc' := 26) dX7_tell_25 rfl lg1 ?_
    refine s_iadd (pc' := 27) dX7_tell_26 rfl ?_
    refine s_iconst (pc' := 28) dX7_tell_27 rfl iconst_1 ?_
    refine s_isub (pc' := 29) dX7_tell_28 rfl ?_
    rw [show 3 * nI w + nI (p + 1) - 1 = nI (3 * w + p) from by rw [mI3, ← Nat.add_assoc, nI_pred]]
    refine s_ialdNv (pc' := 30) (v := nI (eOf (T w) p)) dX7_tell_29 rfl ly53 (by omega) (by decide) (hends p (by omega)) ?_
    refine s_istore (pc' := 32) dX7_tell_30 rfl (Nat.le_of_ble_eq_true rfl) rfl ls5 ?_
    refine s_iconst (pc' := 33) dX7_tell_32 rfl iconst_0 ?_
    refine s_istore (pc' := 35) dX7_tell_33 rfl (Nat.le_of_ble_eq_true rfl) rfl ls6 ?_
    refine s_iload (pc' := 37) dX7_tell_35 rfl lg5 ?_
    refine s_istore (pc' := 39) dX7_tell_37 rfl (Nat.le_of_ble_eq_true rfl) rfl ls7 ?_
    exact start (eOf (T w) p) (sO_p (by omega)).symm
theorem c_X7_tell {z : Zz} {d kc ks : Nat} {mi : MI} {pc pc' : Nat} {L S : List Value} {Q : Option Value → Lay → Mem → Prop} {rf : Nat → Value} {tl : Lay} {mem : Mem}  {n i w p nt : Nat} {σ : Nat → Nat → Int32} {td o : Int32} {T : Nat → Nat → List Int32} {v : Nat → Int32} {idx : Nat} (hd : decode mi.2.1 pc = .ok (.invokevirtual idx, 3)) (hp : pc + 3 = pc') (hlk : Cond.methodLink mi.1.cls idx yX7_tell ∈ wok) (hdd : 2 + 1 ≤ d) (hcat : (S.map (fun v => v.category)).sum ≤ 8) (hM : isM 48 mem σ n td (nI w)) (hi : i < n) (hT : isTM mem nt T) (hw : w < nt) (hp3 : p < 3) (ho : (o = -1 ∧ v = vA σ td i) ∨ ∃ q, q < n ∧ o = nI q ∧ v = vB σ td i q) (K : ∀ mem', (∀ j, j ≠ 56 → mem' j = mem j) → Sim z d kc ks mi pc' L (.int (tv v (T w p)) :: S) (LAY rf tl) mem' Q) : Sim z d kc ks mi pc L (.int o :: .int (nI i) :: .int (nI p) :: .ref 47 :: S) (LAY rf tl) mem Q :=
  s_invV (d2 := 2) hd hp okX7_tell hlk inX7_tell seX7_tell hdd (Nat.zero_add _) (Nat.zero_add _) rfl rfl ly47 rfl hcat (Nat.le_of_ble_eq_true rfl) (m_X7_tell (Nat.le_refl _) hM hi hT hw hp3 ho K)

