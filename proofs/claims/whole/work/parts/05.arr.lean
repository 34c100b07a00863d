/-! ===== arrays, new things, what is given ===== -/
section AR
variable {z : Zz} {d kc ks : Nat} {mi : MI} {pc pc' : Nat} {L S : List Value} {lay : Lay} {mem : Mem} {Q : Option Value → Lay → Mem → Prop}
theorem am_in {k n : Nat} (h : k < n) (hn : n ≤ 2147483648) : vp_in (nI k) n := by
  unfold vp_in
  rw [nI_clamp (by omega)]
  exact fun q => q.elim (nI_pos (by omega)) (by omega)
theorem am_cl {k n : Nat} (h : k < n) (hn : n ≤ 2147483648) : (nI k).toNatClampNeg = k := nI_clamp (by omega)
theorem s_iald {n id : Nat} {rf : Nat → Value} {i : Int32} (hd : decode mi.2.1 pc = .ok (.iaload, 1)) (hp : pc + 1 = pc') (hc : lay[id]? = some (8, n, rf)) (hin : vp_in i n) (K : Sim z d kc ks mi pc' L (.int (mem id i.toNatClampNeg) :: S) lay mem Q) : Sim z d kc ks mi pc L (.int i :: .ref id :: S) lay mem Q := by
  intro p e R s m args below meth c D A rv H locs cells slots ls st ws X F hc1 hs h hL hS kk
  subst hp
  obtain ⟨a, cA, hw, h1, h2⟩ := am_arr h (by decide) hc
  obtain ⟨w0, st0, rfl, v0, hT⟩ := am_s.cons hS
  obtain rfl : w0 = .int i := v0
  obtain ⟨w1, st1, rfl, v1, hT1⟩ := am_s.cons hT
  obtain ⟨a2, e2, hw2, rfl⟩ := v1
  cases hw.symm.trans hw2
  exact va_iald F.1 F.2.1 (am_K1 F.2.2.2.2.2.2.2.2.2.2.1 h1 h2) h.1 id 0 hw rfl hin hd (K p e R s m args below meth c D A rv H locs cells slots ls _ ws X F hc1 hs h hL ⟨rfl, hT1⟩ kk)
theorem s_ialdN {n id k : Nat} {rf : Nat → Value} (hd : decode mi.2.1 pc = .ok (.iaload, 1)) (hp : pc + 1 = pc') (hc : lay[id]? = some (8, n, rf)) (hk : k < n) (hn : n ≤ 2147483648) (K : Sim z d kc ks mi pc' L (.int (mem id k) :: S) lay mem Q) : Sim z d kc ks mi pc L (.int (nI k) :: .ref id :: S) lay mem Q :=
  s_iald hd hp hc (am_in hk hn) (by rw [am_cl hk hn]; exact K)
theorem s_cald {n id : Nat} {rf : Nat → Value} {i : Int32} (hd : decode mi.2.1 pc = .ok (.caload, 1)) (hp : pc + 1 = pc') (hc : lay[id]? = some (9, n, rf)) (hin : vp_in i n) (K : Sim z d kc ks mi pc' L (.int (mem id i.toNatClampNeg) :: S) lay mem Q) : Sim z d kc ks mi pc L (.int i :: .ref id :: S) lay mem Q := by
  intro p e R s m args below meth c D A rv H locs cells slots ls st ws X F hc1 hs h hL hS kk
  subst hp
  obtain ⟨a, cA, hw, h1, h2⟩ := am_arr h (by decide) hc
  obtain ⟨w0, st0, rfl, v0, hT⟩ := am_s.cons hS
  obtain rfl : w0 = .int i := v0
  obtain ⟨w1, st1, rfl, v1, hT1⟩ := am_s.cons hT
  obtain ⟨a2, e2, hw2, rfl⟩ := v1
  cases hw.symm.trans hw2
  exact va_cald F.1 F.2.1 (am_K1 F.2.2.2.2.2.2.2.2.2.2.1 h1 h2) h.1 id 0 hw rfl hin hd (K p e R s m args below meth c D A rv H locs cells slots ls _ ws X F hc1 hs h hL ⟨rfl, hT1⟩ kk)
theorem s_caldN {n id k : Nat} {rf : Nat → Value} (hd : decode mi.2.1 pc = .ok (.caload, 1)) (hp : pc + 1 = pc') (hc : lay[id]? = some (9, n, rf)) (hk : k < n) (hn : n ≤ 2147483648) (K : Sim z d kc ks mi pc' L (.int (mem id k) :: S) lay mem Q) : Sim z d kc ks mi pc L (.int (nI k) :: .ref id :: S) lay mem Q :=
  s_cald hd hp hc (am_in hk hn) (by rw [am_cl hk hn]; exact K)
theorem s_zald {n id : Nat} {rf : Nat → Value} {i : Int32} (hd : decode mi.2.1 pc = .ok (.baload, 1)) (hp : pc + 1 = pc') (hc : lay[id]? = some (10, n, rf)) (hin : vp_in i n) (K : Sim z d kc ks mi pc' L (.int (mem id i.toNatClampNeg) :: S) lay mem Q) : Sim z d kc ks mi pc L (.int i :: .ref id :: S) lay mem Q := by
  intro p e R s m args below meth c D A rv H locs cells slots ls st ws X F hc1 hs h hL hS kk
  subst hp
  obtain ⟨a, cA, hw, h1, h2⟩ := am_arr h (by decide) hc
  obtain ⟨w0, st0, rfl, v0, hT⟩ := am_s.cons hS
  obtain rfl : w0 = .int i := v0
  obtain ⟨w1, st1, rfl, v1, hT1⟩ := am_s.cons hT
  obtain ⟨a2, e2, hw2, rfl⟩ := v1
  cases hw.symm.trans hw2
  exact va_zald F.1 F.2.1 (am_K1 F.2.2.2.2.2.2.2.2.2.2.1 h1 h2) h.1 id 0 hw rfl hin hd (K p e R s m args below meth c D A rv H locs cells slots ls _ ws X F hc1 hs h hL ⟨rfl, hT1⟩ kk)
theorem s_zaldN {n id k : Nat} {rf : Nat → Value} (hd : decode mi.2.1 pc = .ok (.baload, 1)) (hp : pc + 1 = pc') (hc : lay[id]? = some (10, n, rf)) (hk : k < n) (hn : n ≤ 2147483648) (K : Sim z d kc ks mi pc' L (.int (mem id k) :: S) lay mem Q) : Sim z d kc ks mi pc L (.int (nI k) :: .ref id :: S) lay mem Q :=
  s_zald hd hp hc (am_in hk hn) (by rw [am_cl hk hn]; exact K)
theorem s_iast {n id : Nat} {rf : Nat → Value} {i x : Int32} (hd : decode mi.2.1 pc = .ok (.iastore, 1)) (hp : pc + 1 = pc') (hc : lay[id]? = some (8, n, rf)) (hin : vp_in i n) (K : Sim z d kc ks mi pc' L S lay (am_up mem id i.toNatClampNeg x) Q) : Sim z d kc ks mi pc L (.int x :: .int i :: .ref id :: S) lay mem Q := by
  intro p e R s m args below meth c D A rv H locs cells slots ls st ws X F hc1 hs h hL hS kk
  subst hp
  obtain ⟨a, cA, hw, h1, h2⟩ := am_arr h (by decide) hc
  obtain ⟨wx, stx, rfl, vx, hTx⟩ := am_s.cons hS
  obtain rfl : wx = .int x := vx
  obtain ⟨w0, st0, rfl, v0, hT⟩ := am_s.cons hTx
  obtain rfl : w0 = .int i := v0
  obtain ⟨w1, st1, rfl, v1, hT1⟩ := am_s.cons hT
  obtain ⟨a2, e2, hw2, rfl⟩ := v1
  cases hw.symm.trans hw2
  refine va_iast F.1 F.2.1 (am_K1 F.2.2.2.2.2.2.2.2.2.2.1 h1 h2) h.1 h.2.1 h.2.2.1 id 0 hw rfl hin hd (fun H1 locs1 hP hD hS1 => ?_)
  have hx := am_ex.set (e' := .inl (cA, n, .inl (upd (mem id) i.toNatClampNeg x))) hw
  have hm : am_m s rv (ws.set id (a, .inl (cA, n, .inl (upd (mem id) i.toNatClampNeg x)))) lay (am_up mem id i.toNatClampNeg x) := by
    refine h.2.2.2.set hc hw (c' := (8, n, rf)) (am_set_self hc).symm (fun j hj => if_neg hj) ?_
    unfold am_e
    rw [if_neg (show ¬ 8 < 8 by decide), if_pos (show 8 < 11 by decide)]
    refine ⟨cA, ?_, h1, h2⟩
    rw [show am_up mem id i.toNatClampNeg x id = upd (mem id) i.toNatClampNeg x from if_pos rfl]
  exact K p e R s m args below meth c D A rv H1 locs1 cells slots ls _ _ X F hc1 hs ⟨hP, hD, hS1, hm⟩ (hL.mono hx) (hT1.mono hx) (fun r lay' mem' H' locs' ws' pc' ls' rw q1 q2 q3 q4 q5 => kk r lay' mem' H' locs' ws' pc' ls' rw q1 q2 (hx.tr q3) q4 q5)
theorem s_iastN {n id k : Nat} {rf : Nat → Value} {x : Int32} (hd : decode mi.2.1 pc = .ok (.iastore, 1)) (hp : pc + 1 = pc') (hc : lay[id]? = some (8, n, rf)) (hk : k < n) (hn : n ≤ 2147483648) (K : Sim z d kc ks mi pc' L S lay (am_up mem id k x) Q) : Sim z d kc ks mi pc L (.int x :: .int (nI k) :: .ref id :: S) lay mem Q :=
  s_iast hd hp hc (am_in hk hn) (by rw [am_cl hk hn]; exact K)
theorem s_cast {n id : Nat} {rf : Nat → Value} {i x : Int32} (hd : decode mi.2.1 pc = .ok (.castore, 1)) (hp : pc + 1 = pc') (hc : lay[id]? = some (9, n, rf)) (hin : vp_in i n) (K : Sim z d kc ks mi pc' L S lay (am_up mem id i.toNatClampNeg (vp_nar .char x)) Q) : Sim z d kc ks mi pc L (.int x :: .int i :: .ref id :: S) lay mem Q := by
  intro p e R s m args below meth c D A rv H locs cells slots ls st ws X F hc1 hs h hL hS kk
  subst hp
  obtain ⟨a, cA, hw, h1, h2⟩ := am_arr h (by decide) hc
  obtain ⟨wx, stx, rfl, vx, hTx⟩ := am_s.cons hS
  obtain rfl : wx = .int x := vx
  obtain ⟨w0, st0, rfl, v0, hT⟩ := am_s.cons hTx
  obtain rfl : w0 = .int i := v0
  obtain ⟨w1, st1, rfl, v1, hT1⟩ := am_s.cons hT
  obtain ⟨a2, e2, hw2, rfl⟩ := v1
  cases hw.symm.trans hw2
  refine va_cast F.1 F.2.1 (am_K1 F.2.2.2.2.2.2.2.2.2.2.1 h1 h2) h.1 h.2.1 h.2.2.1 id 0 hw rfl hin hd (fun H1 locs1 hP hD hS1 => ?_)
  have hx := am_ex.set (e' := .inl (cA, n, .inl (upd (mem id) i.toNatClampNeg (vp_nar .char x)))) hw
  have hm : am_m s rv (ws.set id (a, .inl (cA, n, .inl (upd (mem id) i.toNatClampNeg (vp_nar .char x))))) lay (am_up mem id i.toNatClampNeg (vp_nar .char x)) := by
    refine h.2.2.2.set hc hw (c' := (9, n, rf)) (am_set_self hc).symm (fun j hj => if_neg hj) ?_
    unfold am_e
    rw [if_neg (show ¬ 9 < 8 by decide), if_pos (show 9 < 11 by decide)]
    refine ⟨cA, ?_, h1, h2⟩
    rw [show am_up mem id i.toNatClampNeg (vp_nar .char x) id = upd (mem id) i.toNatClampNeg (vp_nar .char x) from if_pos rfl]
  exact K p e R s m args below meth c D A rv H1 locs1 cells slots ls _ _ X F hc1 hs ⟨hP, hD, hS1, hm⟩ (hL.mono hx) (hT1.mono hx) (fun r lay' mem' H' locs' ws' pc' ls' rw q1 q2 q3 q4 q5 => kk r lay' mem' H' locs' ws' pc' ls' rw q1 q2 (hx.tr q3) q4 q5)
theorem s_castN {n id k : Nat} {rf : Nat → Value} {x : Int32} (hd : decode mi.2.1 pc = .ok (.castore, 1)) (hp : pc + 1 = pc') (hc : lay[id]? = some (9, n, rf)) (hk : k < n) (hn : n ≤ 2147483648) (K : Sim z d kc ks mi pc' L S lay (am_up mem id k (vp_nar .char x)) Q) : Sim z d kc ks mi pc L (.int x :: .int (nI k) :: .ref id :: S) lay mem Q :=
  s_cast hd hp hc (am_in hk hn) (by rw [am_cl hk hn]; exact K)
theorem s_zast {n id : Nat} {rf : Nat → Value} {i x : Int32} (hd : decode mi.2.1 pc = .ok (.bastore, 1)) (hp : pc + 1 = pc') (hc : lay[id]? = some (10, n, rf)) (hin : vp_in i n) (K : Sim z d kc ks mi pc' L S lay (am_up mem id i.toNatClampNeg (vp_nar .boolean x)) Q) : Sim z d kc ks mi pc L (.int x :: .int i :: .ref id :: S) lay mem Q := by
  intro p e R s m args below meth c D A rv H locs cells slots ls st ws X F hc1 hs h hL hS kk
  subst hp
  obtain ⟨a, cA, hw, h1, h2⟩ := am_arr h (by decide) hc
  obtain ⟨wx, stx, rfl, vx, hTx⟩ := am_s.cons hS
  obtain rfl : wx = .int x := vx
  obtain ⟨w0, st0, rfl, v0, hT⟩ := am_s.cons hTx
  obtain rfl : w0 = .int i := v0
  obtain ⟨w1, st1, rfl, v1, hT1⟩ := am_s.cons hT
  obtain ⟨a2, e2, hw2, rfl⟩ := v1
  cases hw.symm.trans hw2
  refine va_zast F.1 F.2.1 (am_K1 F.2.2.2.2.2.2.2.2.2.2.1 h1 h2) h.1 h.2.1 h.2.2.1 id 0 hw rfl hin hd (fun H1 locs1 hP hD hS1 => ?_)
  have hx := am_ex.set (e' := .inl (cA, n, .inl (upd (mem id) i.toNatClampNeg (vp_nar .boolean x)))) hw
  have hm : am_m s rv (ws.set id (a, .inl (cA, n, .inl (upd (mem id) i.toNatClampNeg (vp_nar .boolean x))))) lay (am_up mem id i.toNatClampNeg (vp_nar .boolean x)) := by
    refine h.2.2.2.set hc hw (c' := (10, n, rf)) (am_set_self hc).symm (fun j hj => if_neg hj) ?_
    unfold am_e
    rw [if_neg (show ¬ 10 < 8 by decide), if_pos (show 10 < 11 by decide)]
    refine ⟨cA, ?_, h1, h2⟩
    rw [show am_up mem id i.toNatClampNeg (vp_nar .boolean x) id = upd (mem id) i.toNatClampNeg (vp_nar .boolean x) from if_pos rfl]
  exact K p e R s m args below meth c D A rv H1 locs1 cells slots ls _ _ X F hc1 hs ⟨hP, hD, hS1, hm⟩ (hL.mono hx) (hT1.mono hx) (fun r lay' mem' H' locs' ws' pc' ls' rw q1 q2 q3 q4 q5 => kk r lay' mem' H' locs' ws' pc' ls' rw q1 q2 (hx.tr q3) q4 q5)
theorem s_zastN {n id k : Nat} {rf : Nat → Value} {x : Int32} (hd : decode mi.2.1 pc = .ok (.bastore, 1)) (hp : pc + 1 = pc') (hc : lay[id]? = some (10, n, rf)) (hk : k < n) (hn : n ≤ 2147483648) (K : Sim z d kc ks mi pc' L S lay (am_up mem id k (vp_nar .boolean x)) Q) : Sim z d kc ks mi pc L (.int x :: .int (nI k) :: .ref id :: S) lay mem Q :=
  s_zast hd hp hc (am_in hk hn) (by rw [am_cl hk hn]; exact K)
theorem s_alen {tg n id : Nat} {rf : Nat → Value} (hd : decode mi.2.1 pc = .ok (.arraylength, 1)) (hp : pc + 1 = pc') (hc : lay[id]? = some (tg, n, rf)) (htg : 8 ≤ tg ∧ tg < 11) (K : Sim z d kc ks mi pc' L (.int (nI n) :: S) lay mem Q) : Sim z d kc ks mi pc L (.ref id :: S) lay mem Q := by
  intro p e R s m args below meth c D A rv H locs cells slots ls st ws X F hc1 hs h hL hS kk
  subst hp
  obtain ⟨a, cA, hw, h1, h2⟩ := am_arr h htg hc
  obtain ⟨w1, st1, rfl, v1, hT1⟩ := am_s.cons hS
  obtain ⟨a2, e2, hw2, rfl⟩ := v1
  cases hw.symm.trans hw2
  exact va_alen F.1 F.2.1 (am_K1 F.2.2.2.2.2.2.2.2.2.2.1 h1 h2) h.1 id 0 hw rfl rfl hd (K p e R s m args below meth c D A rv H locs cells slots ls _ ws X F hc1 hs h hL ⟨rfl, hT1⟩ kk)
theorem s_aald {tg n id : Nat} {rf : Nat → Value} {i : Int32} (hd : decode mi.2.1 pc = .ok (.aaload, 1)) (hp : pc + 1 = pc') (hc : lay[id]? = some (tg, n, rf)) (htg : 11 ≤ tg) (hin : vp_in i n) (K : Sim z d kc ks mi pc' L (rf i.toNatClampNeg :: S) lay mem Q) : Sim z d kc ks mi pc L (.int i :: .ref id :: S) lay mem Q := by
  intro p e R s m args below meth c D A rv H locs cells slots ls st ws X F hc1 hs h hL hS kk
  subst hp
  obtain ⟨a, cA, g, hw, h1, h2, h3⟩ := am_arq h htg hc
  obtain ⟨w0, st0, rfl, v0, hT⟩ := am_s.cons hS
  obtain rfl : w0 = .int i := v0
  obtain ⟨w1, st1, rfl, v1, hT1⟩ := am_s.cons hT
  obtain ⟨a2, e2, hw2, rfl⟩ := v1
  cases hw.symm.trans hw2
  have hlt : i.toNatClampNeg < n := by
    unfold vp_in at hin
    omega
  exact va_aldq F.1 F.2.1 (am_K1 F.2.2.2.2.2.2.2.2.2.2.1 h1 h2) h.1 id 0 hw rfl hin hd (K p e R s m args below meth c D A rv H locs cells slots ls _ ws X F hc1 hs h hL ⟨h3 _ hlt, hT1⟩ kk)
theorem s_aast {tg n id id2 ci2 n2 : Nat} {rf rf2 : Nat → Value} {q2 : vw_C} {i : Int32} (hd : decode mi.2.1 pc = .ok (.aastore, 1)) (hp : pc + 1 = pc') (hc : lay[id]? = some (tg, n, rf)) (htg : 11 ≤ tg) (hin : vp_in i n) (hc2 : lay[id2]? = some (ci2, n2, rf2)) (hq2 : classes[ci2]? = some q2) (hcl : q2.1 = am_acl tg) (K : Sim z d kc ks mi pc' L S (lay.set id (tg, n, va_up rf i.toNatClampNeg (.ref id2))) mem Q) : Sim z d kc ks mi pc L (.ref id2 :: .int i :: .ref id :: S) lay mem Q := by
  intro p e R s m args below meth c D A rv H locs cells slots ls st ws X F hc1 hs h hL hS kk
  subst hp
  obtain ⟨a, cA, g, hw, h1, h2, h3⟩ := am_arq h htg hc
  obtain ⟨b, fs, hwb, -, -⟩ := am_obj h hq2 hc2
  obtain ⟨wb, stb, rfl, vb, hTb⟩ := am_s.cons hS
  obtain ⟨b2, eb2, hwb2, rfl⟩ := vb
  cases hwb.symm.trans hwb2
  obtain ⟨w0, st0, rfl, v0, hT⟩ := am_s.cons hTb
  obtain rfl : w0 = .int i := v0
  obtain ⟨w1, st1, rfl, v1, hT1⟩ := am_s.cons hT
  obtain ⟨a2, e2, hw2, rfl⟩ := v1
  cases hw.symm.trans hw2
  refine va_astq F.1 F.2.1 (am_K1 F.2.2.2.2.2.2.2.2.2.2.1 h1 h2) h.1 h.2.1 h.2.2.1 id 0 id2 ci2 hw (by rw [hcl]; rfl) hwb hq2 hin hd (fun H1 locs1 hP hD hS1 => ?_)
  have hx := am_ex.set (e' := .inl (cA, n, .inr (.inr (.inr (.inr (va_up g i.toNatClampNeg (some b))))))) hw
  have hm : am_m s rv (ws.set id (a, .inl (cA, n, .inr (.inr (.inr (.inr (va_up g i.toNatClampNeg (some b)))))))) (lay.set id (tg, n, va_up rf i.toNatClampNeg (.ref id2))) mem := by
    refine h.2.2.2.set hc hw rfl (fun _ _ => rfl) ?_
    unfold am_e
    rw [if_neg (show ¬ tg < 8 by omega), if_neg (show ¬ tg < 11 by omega)]
    refine ⟨cA, _, rfl, h1, h2, fun j hj => ?_⟩
    by_cases hji : j = i.toNatClampNeg
    · subst hji
      show am_v _ _ (va_up rf _ _ _) (va_rf (va_up g _ _ _))
      rw [show va_up rf i.toNatClampNeg (.ref id2) i.toNatClampNeg = .ref id2 from if_pos rfl, show va_up g i.toNatClampNeg (some b) i.toNatClampNeg = some b from if_pos rfl]
      obtain ⟨e', he'⟩ := hx id2 b _ hwb
      exact ⟨b, e', he', rfl⟩
    · show am_v _ _ (va_up rf _ _ _) (va_rf (va_up g _ _ _))
      rw [show va_up rf i.toNatClampNeg (.ref id2) j = rf j from if_neg hji, show va_up g i.toNatClampNeg (some b) j = g j from if_neg hji]
      exact (h3 j hj).mono hx
  exact K p e R s m args below meth c D A rv H1 locs1 cells slots ls _ _ X F hc1 hs ⟨hP, hD, hS1, hm⟩ (hL.mono hx) (hT1.mono hx) (fun r lay' mem' H' locs' ws' pc' ls' rw q1 q2 q3 q4 q5 => kk r lay' mem' H' locs' ws' pc' ls' rw q1 q2 (hx.tr q3) q4 q5)
theorem s_newa {tg N : Nat} {n : Int32} {at' : ArrayType} (hd : decode mi.2.1 pc = .ok (.newarray at', 2)) (hp : pc + 2 = pc') (hwk : Cond.arrayClass (newarray.typeOf at') ∈ wok) (htg : 8 ≤ tg ∧ tg < 11) (hty : newarray.typeOf at' = am_aty tg) (hn : ¬ n < 0) (hN : n.toNatClampNeg = N) (hb : N ≤ 1000) (K : Sim z d kc ks mi pc' L (.ref lay.length :: S) (lay ++ [(tg, N, fun _ => .null)]) (am_nw mem lay.length) Q) : Sim z d (1 + kc) (N + ks) mi pc L (.int n :: S) lay mem Q := by
  intro p e R s m args below meth c D A rv H locs cells slots ls st ws X F hc1 hs h hL hS kk
  subst hp
  obtain ⟨w0, st0, rfl, v0, hT⟩ := am_s.cons hS
  obtain rfl : w0 = .int n := v0
  have hdef : defaultValue (am_aty tg) = .int 0 := by
    obtain ⟨t1, t2⟩ := htg
    have : tg = 8 ∨ tg = 9 ∨ tg = 10 := by omega
    rcases this with rfl | rfl | rfl <;> rfl
  have hby : componentBytes (am_aty tg) ≤ 8 := by
    obtain ⟨t1, t2⟩ := htg
    have : tg = 8 ∨ tg = 9 ∨ tg = 10 := by omega
    rcases this with rfl | rfl | rfl <;> decide
  refine va_newa F.1 F.2.1 (F.2.2.2.2.2.1 _ hwk) hty F.2.2.2.2.2.2.2.2.2.2.1 h.1 h.2.1 h.2.2.1 F.2.2.2.2.2.2.2.2.2.2.2.1 (a0 := (N, .inl (fun _ => 0))) (fun cA => by rw [hdef]; rfl) hn hN (Nat.le_trans (Nat.mul_le_mul hb hby) (by decide)) (by omega) (by omega) hd (fun q cA H1 hK1 hP hD hS1 => ?_)
  have hx : am_ex ws (ws ++ [(q, .inl (cA, N, .inl (fun _ => 0)))]) := am_ex.push
  have hm : am_m s rv (ws ++ [(q, .inl (cA, N, .inl (fun _ => 0)))]) (lay ++ [(tg, N, fun _ => .null)]) (am_nw mem lay.length) := by
    refine h.2.2.2.push (fun j hj => if_neg hj) ?_
    unfold am_e
    rw [if_neg (show ¬ tg < 8 by omega), if_pos htg.2]
    refine ⟨cA, ?_, (hK1.2 0 (cA, am_aty tg) rfl).1, (hK1.2 0 (cA, am_aty tg) rfl).2⟩
    rw [show am_nw mem lay.length lay.length = fun _ => 0 from if_pos rfl]
  have hk := K p e R s m args below meth c D A rv H1 locs (cells + 1) (slots + N) ls (.ref q :: st0) _ X F (by omega) (by omega) ⟨hP, hD, hS1, hm⟩ (hL.mono hx) ⟨⟨q, _, by rw [List.getElem?_append_right (by rw [h.2.2.2.1]; exact Nat.le_refl _), h.2.2.2.1, Nat.sub_self]; rfl, rfl⟩, hT.mono hx⟩
  refine hk (fun r lay' mem' H' locs' ws' pc' ls' rw q1 q2 q3 q4 q5 => ?_)
  have := kk r lay' mem' H' locs' ws' pc' ls' rw q1 q2 (hx.tr q3) q4 q5
  rw [show cells + 1 + kc = cells + (1 + kc) by omega, show slots + N + ks = slots + (N + ks) by omega]
  exact this
theorem s_newq {tg N idx : Nat} {n : Int32} {C : String} (hd : decode mi.2.1 pc = .ok (.anewarray idx, 3)) (hp : pc + 3 = pc') (hwk : Cond.classLink mi.1.cls idx C ∈ wok) (htg : 11 ≤ tg) (hC : C = am_acl tg) (hn : ¬ n < 0) (hN : n.toNatClampNeg = N) (hb : N ≤ 1000) (K : Sim z d kc ks mi pc' L (.ref lay.length :: S) (lay ++ [(tg, N, fun _ => .null)]) (am_nw mem lay.length) Q) : Sim z d (1 + kc) (N + ks) mi pc L (.int n :: S) lay mem Q := by
  intro p e R s m args below meth c D A rv H locs cells slots ls st ws X F hc1 hs h hL hS kk
  subst hp
  subst hC
  obtain ⟨w0, st0, rfl, v0, hT⟩ := am_s.cons hS
  obtain rfl : w0 = .int n := v0
  have hao : va_AO (am_acl tg) s := by
    obtain ⟨-, -, -, -, -, -, -, g2, g3⟩ := F.2.2.2.2.2.2.2.2.2.2.2.2
    unfold am_acl
    split
    · exact g2
    · exact g3
  refine va_newq F.1 F.2.1 F.2.2.2.2.1 (F.2.2.2.2.2.1 _ hwk) hao F.2.2.2.2.2.2.2.2.2.2.1 h.1 h.2.1 h.2.2.1 F.2.2.2.2.2.2.2.2.2.2.2.1 hn hN (by omega) (by omega) (by omega) hd (fun q cA H1 hK1 hP hD hS1 => ?_)
  have hx : am_ex ws (ws ++ [(q, .inl (cA, N, .inr (.inr (.inr (.inr (fun _ => none))))))]) := am_ex.push
  have hm : am_m s rv (ws ++ [(q, .inl (cA, N, .inr (.inr (.inr (.inr (fun _ => none))))))]) (lay ++ [(tg, N, fun _ => .null)]) (am_nw mem lay.length) := by
    refine h.2.2.2.push (fun j hj => if_neg hj) ?_
    unfold am_e
    rw [if_neg (show ¬ tg < 8 by omega), if_neg (show ¬ tg < 11 by omega)]
    exact ⟨cA, _, rfl, (hK1.2 0 (cA, .object (am_acl tg)) rfl).1, (hK1.2 0 (cA, .object (am_acl tg)) rfl).2, fun j hj => rfl⟩
  have hk := K p e R s m args below meth c D A rv H1 locs (cells + 1) (slots + N) ls (.ref q :: st0) _ X F (by omega) (by omega) ⟨hP, hD, hS1, hm⟩ (hL.mono hx) ⟨⟨q, _, by rw [List.getElem?_append_right (by rw [h.2.2.2.1]; exact Nat.le_refl _), h.2.2.2.1, Nat.sub_self]; rfl, rfl⟩, hT.mono hx⟩
  refine hk (fun r lay' mem' H' locs' ws' pc' ls' rw q1 q2 q3 q4 q5 => ?_)
  have := kk r lay' mem' H' locs' ws' pc' ls' rw q1 q2 (hx.tr q3) q4 q5
  rw [show cells + 1 + kc = cells + (1 + kc) by omega, show slots + N + ks = slots + (N + ks) by omega]
  exact this
/-- a new object: its class's words -/
def am_nk (own : String) (idx ci N : Nat) : Prop := ∃ (C : String) (T : u_T), classes[ci]? = some (C, T, N) ∧ Cond.classLink own idx C ∈ wok ∧ Cond.instantiable C N ∈ wok ∧ Cond.initialized C ∈ wok ∧ (∀ j, j < N → ∃ ty, parseFieldDescriptor (T j).2.2.1 = some ty ∧ defaultValue ty = (if am_isR ci j = true then .null else .int 0))
theorem s_new {idx ci N : Nat} (hd : decode mi.2.1 pc = .ok (.new idx, 3)) (hp : pc + 3 = pc') (hn : am_nk mi.1.cls idx ci N) (K : Sim z d kc ks mi pc' L (.ref lay.length :: S) (lay ++ [(ci, N, fun _ => .null)]) (am_nw mem lay.length) Q) : Sim z d (1 + kc) (N + ks) mi pc L S lay mem Q := by
  intro p e R s m args below meth c D A rv H locs cells slots ls st ws X F hc1 hs h hL hS kk
  subst hp
  obtain ⟨C, T, hq, hl, hi, hini, hdf⟩ := hn
  obtain ⟨ty0, ht0, -⟩ := am_tyn hq
  have h8 := am_cl8 hq
  refine va_new (fs := (List.range N).map (fun j => if am_isR ci j = true then .null else .int 0)) F.1 F.2.1 F.2.2.2.2.2.1 (am_uws hq) ty0 ht0 F.2.2.2.2.1 (F.2.2.2.2.2.1 _ hl) (F.2.2.2.2.2.1 _ hi) (F.2.2.2.2.2.1 _ hini) F.2.2.2.2.2.2.2.2.2.2.1 h.1 h.2.1 h.2.2.1 F.2.2.2.2.2.2.2.2.2.2.2.1 hq (fun j hj => ?_) (by omega) (by omega) hd (fun q H1 hP hD hS1 => ?_)
  · obtain ⟨ty, a, b⟩ := hdf j hj
    cases (ht0 j hj).symm.trans a
    rw [b]
    unfold vp_V
    simp [hj]
  · have hx : am_ex ws (ws ++ [(q, .inr (ci, (List.range N).map (fun j => if am_isR ci j = true then .null else .int 0)))]) := am_ex.push
    have hm : am_m s rv (ws ++ [(q, .inr (ci, (List.range N).map (fun j => if am_isR ci j = true then .null else .int 0)))]) (lay ++ [(ci, N, fun _ => .null)]) (am_nw mem lay.length) := by
      refine h.2.2.2.push (fun j hj => if_neg hj) ?_
      unfold am_e
      rw [if_pos h8]
      refine ⟨_, rfl, by simp, fun j hj => ⟨_, by rw [List.getElem?_map, List.getElem?_range hj]; rfl, ?_⟩⟩
      by_cases hr : am_isR ci j = true
      · simp only [hr, if_true]; rfl
      · simp only [hr]
        show _ = Value.int (am_nw mem lay.length lay.length j)
        rw [show am_nw mem lay.length lay.length = fun _ => 0 from if_pos rfl]
        rfl
    have hk := K p e R s m args below meth c D A rv H1 locs (cells + 1) (slots + N) ls (.ref q :: st) _ X F (by omega) (by omega) ⟨hP, hD, hS1, hm⟩ (hL.mono hx) ⟨⟨q, _, by rw [List.getElem?_append_right (by rw [h.2.2.2.1]; exact Nat.le_refl _), h.2.2.2.1, Nat.sub_self]; rfl, rfl⟩, hS.mono hx⟩
    refine hk (fun r lay' mem' H' locs' ws' pc' ls' rw q1 q2 q3 q4 q5 => ?_)
    have := kk r lay' mem' H' locs' ws' pc' ls' rw q1 q2 (hx.tr q3) q4 q5
    rw [show cells + 1 + kc = cells + (1 + kc) by omega, show slots + N + ks = slots + (N + ks) by omega]
    exact this
end AR
