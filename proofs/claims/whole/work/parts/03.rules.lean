theorem s_iconst {z : Zz} {d kc ks : Nat} {mi : MI} {pc pc' : Nat} {L S : List Value} {lay : Lay} {mem : Mem} {Q : Option Value → Lay → Mem → Prop} {n : Int} {v : Int32} (hd : decode mi.2.1 pc = .ok (.iconst n, 1)) (hp : pc + 1 = pc') (hv : Int32.ofInt n = v) (K : Sim z d kc ks mi pc' L (.int v :: S) lay mem Q) : Sim z d kc ks mi pc L (S) lay mem Q := by
  intro p e R s m args below meth c D A rv H locs cells slots ls st ws X F hc hs h hL hS kk
  subst hp
  exact lv_iconst F.1 F.2.1 hd hv (K p e R s m args below meth c D A rv H locs cells slots ls _ ws X F hc hs h hL ⟨rfl, hS⟩ kk)

theorem s_bipush {z : Zz} {d kc ks : Nat} {mi : MI} {pc pc' : Nat} {L S : List Value} {lay : Lay} {mem : Mem} {Q : Option Value → Lay → Mem → Prop} {n : Int} {v : Int32} (hd : decode mi.2.1 pc = .ok (.bipush n, 2)) (hp : pc + 2 = pc') (hv : (Int8.ofInt n).toInt32 = v) (K : Sim z d kc ks mi pc' L (.int v :: S) lay mem Q) : Sim z d kc ks mi pc L (S) lay mem Q := by
  intro p e R s m args below meth c D A rv H locs cells slots ls st ws X F hc hs h hL hS kk
  subst hp
  exact lv_bipush F.1 F.2.1 hd hv (K p e R s m args below meth c D A rv H locs cells slots ls _ ws X F hc hs h hL ⟨rfl, hS⟩ kk)

theorem s_sipush {z : Zz} {d kc ks : Nat} {mi : MI} {pc pc' : Nat} {L S : List Value} {lay : Lay} {mem : Mem} {Q : Option Value → Lay → Mem → Prop} {n : Int} {v : Int32} (hd : decode mi.2.1 pc = .ok (.sipush n, 3)) (hp : pc + 3 = pc') (hv : (Int16.ofInt n).toInt32 = v) (K : Sim z d kc ks mi pc' L (.int v :: S) lay mem Q) : Sim z d kc ks mi pc L (S) lay mem Q := by
  intro p e R s m args below meth c D A rv H locs cells slots ls st ws X F hc hs h hL hS kk
  subst hp
  exact lv_sipush F.1 F.2.1 hd hv (K p e R s m args below meth c D A rv H locs cells slots ls _ ws X F hc hs h hL ⟨rfl, hS⟩ kk)

theorem s_lconst {z : Zz} {d kc ks : Nat} {mi : MI} {pc pc' : Nat} {L S : List Value} {lay : Lay} {mem : Mem} {Q : Option Value → Lay → Mem → Prop} {n : Fin 2} {v : Int64} (hd : decode mi.2.1 pc = .ok (.lconst n, 1)) (hp : pc + 1 = pc') (hv : Int64.ofNat (n : Nat) = v) (K : Sim z d kc ks mi pc' L (.long v :: S) lay mem Q) : Sim z d kc ks mi pc L (S) lay mem Q := by
  intro p e R s m args below meth c D A rv H locs cells slots ls st ws X F hc hs h hL hS kk
  subst hp
  exact lv_lconst F.1 F.2.1 hd hv (K p e R s m args below meth c D A rv H locs cells slots ls _ ws X F hc hs h hL ⟨rfl, hS⟩ kk)

theorem s_null {z : Zz} {d kc ks : Nat} {mi : MI} {pc pc' : Nat} {L S : List Value} {lay : Lay} {mem : Mem} {Q : Option Value → Lay → Mem → Prop}  (hd : decode mi.2.1 pc = .ok (.aconst_null, 1)) (hp : pc + 1 = pc')  (K : Sim z d kc ks mi pc' L (.null :: S) lay mem Q) : Sim z d kc ks mi pc L (S) lay mem Q := by
  intro p e R s m args below meth c D A rv H locs cells slots ls st ws X F hc hs h hL hS kk
  subst hp
  exact lv_null F.1 F.2.1 hd  (K p e R s m args below meth c D A rv H locs cells slots ls _ ws X F hc hs h hL ⟨rfl, hS⟩ kk)

theorem s_iadd {z : Zz} {d kc ks : Nat} {mi : MI} {pc pc' : Nat} {L S : List Value} {lay : Lay} {mem : Mem} {Q : Option Value → Lay → Mem → Prop} {x y : Int32} (hd : decode mi.2.1 pc = .ok (.iadd, 1)) (hp : pc + 1 = pc')  (K : Sim z d kc ks mi pc' L (.int (x + y) :: S) lay mem Q) : Sim z d kc ks mi pc L (.int y :: .int x :: S) lay mem Q := by
  intro p e R s m args below meth c D A rv H locs cells slots ls st ws X F hc hs h hL hS kk
  subst hp
  obtain ⟨w0, st0, rfl, v0, hT1⟩ := am_s.cons hS
  obtain rfl : w0 = .int y := v0
  obtain ⟨w1, st1, rfl, v1, hT2⟩ := am_s.cons hT1
  obtain rfl : w1 = .int x := v1
  exact lv_iadd F.1 F.2.1 hd  (K p e R s m args below meth c D A rv H locs cells slots ls _ ws X F hc hs h hL ⟨rfl, hT2⟩ kk)

theorem s_isub {z : Zz} {d kc ks : Nat} {mi : MI} {pc pc' : Nat} {L S : List Value} {lay : Lay} {mem : Mem} {Q : Option Value → Lay → Mem → Prop} {x y : Int32} (hd : decode mi.2.1 pc = .ok (.isub, 1)) (hp : pc + 1 = pc')  (K : Sim z d kc ks mi pc' L (.int (x - y) :: S) lay mem Q) : Sim z d kc ks mi pc L (.int y :: .int x :: S) lay mem Q := by
  intro p e R s m args below meth c D A rv H locs cells slots ls st ws X F hc hs h hL hS kk
  subst hp
  obtain ⟨w0, st0, rfl, v0, hT1⟩ := am_s.cons hS
  obtain rfl : w0 = .int y := v0
  obtain ⟨w1, st1, rfl, v1, hT2⟩ := am_s.cons hT1
  obtain rfl : w1 = .int x := v1
  exact lv_isub F.1 F.2.1 hd  (K p e R s m args below meth c D A rv H locs cells slots ls _ ws X F hc hs h hL ⟨rfl, hT2⟩ kk)

theorem s_imul {z : Zz} {d kc ks : Nat} {mi : MI} {pc pc' : Nat} {L S : List Value} {lay : Lay} {mem : Mem} {Q : Option Value → Lay → Mem → Prop} {x y : Int32} (hd : decode mi.2.1 pc = .ok (.imul, 1)) (hp : pc + 1 = pc')  (K : Sim z d kc ks mi pc' L (.int (x * y) :: S) lay mem Q) : Sim z d kc ks mi pc L (.int y :: .int x :: S) lay mem Q := by
  intro p e R s m args below meth c D A rv H locs cells slots ls st ws X F hc hs h hL hS kk
  subst hp
  obtain ⟨w0, st0, rfl, v0, hT1⟩ := am_s.cons hS
  obtain rfl : w0 = .int y := v0
  obtain ⟨w1, st1, rfl, v1, hT2⟩ := am_s.cons hT1
  obtain rfl : w1 = .int x := v1
  exact lv_imul F.1 F.2.1 hd  (K p e R s m args below meth c D A rv H locs cells slots ls _ ws X F hc hs h hL ⟨rfl, hT2⟩ kk)

theorem s_iand {z : Zz} {d kc ks : Nat} {mi : MI} {pc pc' : Nat} {L S : List Value} {lay : Lay} {mem : Mem} {Q : Option Value → Lay → Mem → Prop} {x y : Int32} (hd : decode mi.2.1 pc = .ok (.iand, 1)) (hp : pc + 1 = pc')  (K : Sim z d kc ks mi pc' L (.int (x &&& y) :: S) lay mem Q) : Sim z d kc ks mi pc L (.int y :: .int x :: S) lay mem Q := by
  intro p e R s m args below meth c D A rv H locs cells slots ls st ws X F hc hs h hL hS kk
  subst hp
  obtain ⟨w0, st0, rfl, v0, hT1⟩ := am_s.cons hS
  obtain rfl : w0 = .int y := v0
  obtain ⟨w1, st1, rfl, v1, hT2⟩ := am_s.cons hT1
  obtain rfl : w1 = .int x := v1
  exact lv_iand F.1 F.2.1 hd  (K p e R s m args below meth c D A rv H locs cells slots ls _ ws X F hc hs h hL ⟨rfl, hT2⟩ kk)

theorem s_ior {z : Zz} {d kc ks : Nat} {mi : MI} {pc pc' : Nat} {L S : List Value} {lay : Lay} {mem : Mem} {Q : Option Value → Lay → Mem → Prop} {x y : Int32} (hd : decode mi.2.1 pc = .ok (.ior, 1)) (hp : pc + 1 = pc')  (K : Sim z d kc ks mi pc' L (.int (x ||| y) :: S) lay mem Q) : Sim z d kc ks mi pc L (.int y :: .int x :: S) lay mem Q := by
  intro p e R s m args below meth c D A rv H locs cells slots ls st ws X F hc hs h hL hS kk
  subst hp
  obtain ⟨w0, st0, rfl, v0, hT1⟩ := am_s.cons hS
  obtain rfl : w0 = .int y := v0
  obtain ⟨w1, st1, rfl, v1, hT2⟩ := am_s.cons hT1
  obtain rfl : w1 = .int x := v1
  exact lv_ior F.1 F.2.1 hd  (K p e R s m args below meth c D A rv H locs cells slots ls _ ws X F hc hs h hL ⟨rfl, hT2⟩ kk)

theorem s_ixor {z : Zz} {d kc ks : Nat} {mi : MI} {pc pc' : Nat} {L S : List Value} {lay : Lay} {mem : Mem} {Q : Option Value → Lay → Mem → Prop} {x y : Int32} (hd : decode mi.2.1 pc = .ok (.ixor, 1)) (hp : pc + 1 = pc')  (K : Sim z d kc ks mi pc' L (.int (x ^^^ y) :: S) lay mem Q) : Sim z d kc ks mi pc L (.int y :: .int x :: S) lay mem Q := by
  intro p e R s m args below meth c D A rv H locs cells slots ls st ws X F hc hs h hL hS kk
  subst hp
  obtain ⟨w0, st0, rfl, v0, hT1⟩ := am_s.cons hS
  obtain rfl : w0 = .int y := v0
  obtain ⟨w1, st1, rfl, v1, hT2⟩ := am_s.cons hT1
  obtain rfl : w1 = .int x := v1
  exact lv_ixor F.1 F.2.1 hd  (K p e R s m args below meth c D A rv H locs cells slots ls _ ws X F hc hs h hL ⟨rfl, hT2⟩ kk)

theorem s_ishl {z : Zz} {d kc ks : Nat} {mi : MI} {pc pc' : Nat} {L S : List Value} {lay : Lay} {mem : Mem} {Q : Option Value → Lay → Mem → Prop} {x y : Int32} (hd : decode mi.2.1 pc = .ok (.ishl, 1)) (hp : pc + 1 = pc')  (K : Sim z d kc ks mi pc' L (.int (x <<< (y &&& 31)) :: S) lay mem Q) : Sim z d kc ks mi pc L (.int y :: .int x :: S) lay mem Q := by
  intro p e R s m args below meth c D A rv H locs cells slots ls st ws X F hc hs h hL hS kk
  subst hp
  obtain ⟨w0, st0, rfl, v0, hT1⟩ := am_s.cons hS
  obtain rfl : w0 = .int y := v0
  obtain ⟨w1, st1, rfl, v1, hT2⟩ := am_s.cons hT1
  obtain rfl : w1 = .int x := v1
  exact lv_ishl F.1 F.2.1 hd  (K p e R s m args below meth c D A rv H locs cells slots ls _ ws X F hc hs h hL ⟨rfl, hT2⟩ kk)

theorem s_ishr {z : Zz} {d kc ks : Nat} {mi : MI} {pc pc' : Nat} {L S : List Value} {lay : Lay} {mem : Mem} {Q : Option Value → Lay → Mem → Prop} {x y : Int32} (hd : decode mi.2.1 pc = .ok (.ishr, 1)) (hp : pc + 1 = pc')  (K : Sim z d kc ks mi pc' L (.int (x >>> (y &&& 31)) :: S) lay mem Q) : Sim z d kc ks mi pc L (.int y :: .int x :: S) lay mem Q := by
  intro p e R s m args below meth c D A rv H locs cells slots ls st ws X F hc hs h hL hS kk
  subst hp
  obtain ⟨w0, st0, rfl, v0, hT1⟩ := am_s.cons hS
  obtain rfl : w0 = .int y := v0
  obtain ⟨w1, st1, rfl, v1, hT2⟩ := am_s.cons hT1
  obtain rfl : w1 = .int x := v1
  exact lv_ishr F.1 F.2.1 hd  (K p e R s m args below meth c D A rv H locs cells slots ls _ ws X F hc hs h hL ⟨rfl, hT2⟩ kk)

theorem s_iushr {z : Zz} {d kc ks : Nat} {mi : MI} {pc pc' : Nat} {L S : List Value} {lay : Lay} {mem : Mem} {Q : Option Value → Lay → Mem → Prop} {x y : Int32} (hd : decode mi.2.1 pc = .ok (.iushr, 1)) (hp : pc + 1 = pc')  (K : Sim z d kc ks mi pc' L (.int (x.toUInt32 >>> (y.toUInt32 &&& Int32.toUInt32 31)).toInt32 :: S) lay mem Q) : Sim z d kc ks mi pc L (.int y :: .int x :: S) lay mem Q := by
  intro p e R s m args below meth c D A rv H locs cells slots ls st ws X F hc hs h hL hS kk
  subst hp
  obtain ⟨w0, st0, rfl, v0, hT1⟩ := am_s.cons hS
  obtain rfl : w0 = .int y := v0
  obtain ⟨w1, st1, rfl, v1, hT2⟩ := am_s.cons hT1
  obtain rfl : w1 = .int x := v1
  exact lv_iushr F.1 F.2.1 hd rfl (K p e R s m args below meth c D A rv H locs cells slots ls _ ws X F hc hs h hL ⟨rfl, hT2⟩ kk)

theorem s_idiv {z : Zz} {d kc ks : Nat} {mi : MI} {pc pc' : Nat} {L S : List Value} {lay : Lay} {mem : Mem} {Q : Option Value → Lay → Mem → Prop} {x y : Int32} (hd : decode mi.2.1 pc = .ok (.idiv, 1)) (hp : pc + 1 = pc') (hy : ¬ y = 0) (K : Sim z d kc ks mi pc' L (.int (x / y) :: S) lay mem Q) : Sim z d kc ks mi pc L (.int y :: .int x :: S) lay mem Q := by
  intro p e R s m args below meth c D A rv H locs cells slots ls st ws X F hc hs h hL hS kk
  subst hp
  obtain ⟨w0, st0, rfl, v0, hT1⟩ := am_s.cons hS
  obtain rfl : w0 = .int y := v0
  obtain ⟨w1, st1, rfl, v1, hT2⟩ := am_s.cons hT1
  obtain rfl : w1 = .int x := v1
  exact lv_idiv F.1 F.2.1 hd hy (K p e R s m args below meth c D A rv H locs cells slots ls _ ws X F hc hs h hL ⟨rfl, hT2⟩ kk)

theorem s_irem {z : Zz} {d kc ks : Nat} {mi : MI} {pc pc' : Nat} {L S : List Value} {lay : Lay} {mem : Mem} {Q : Option Value → Lay → Mem → Prop} {x y : Int32} (hd : decode mi.2.1 pc = .ok (.irem, 1)) (hp : pc + 1 = pc') (hy : ¬ y = 0) (K : Sim z d kc ks mi pc' L (.int (x - x / y * y) :: S) lay mem Q) : Sim z d kc ks mi pc L (.int y :: .int x :: S) lay mem Q := by
  intro p e R s m args below meth c D A rv H locs cells slots ls st ws X F hc hs h hL hS kk
  subst hp
  obtain ⟨w0, st0, rfl, v0, hT1⟩ := am_s.cons hS
  obtain rfl : w0 = .int y := v0
  obtain ⟨w1, st1, rfl, v1, hT2⟩ := am_s.cons hT1
  obtain rfl : w1 = .int x := v1
  exact lv_irem F.1 F.2.1 hd hy (K p e R s m args below meth c D A rv H locs cells slots ls _ ws X F hc hs h hL ⟨rfl, hT2⟩ kk)

theorem s_ldiv {z : Zz} {d kc ks : Nat} {mi : MI} {pc pc' : Nat} {L S : List Value} {lay : Lay} {mem : Mem} {Q : Option Value → Lay → Mem → Prop} {x y : Int64} (hd : decode mi.2.1 pc = .ok (.ldiv, 1)) (hp : pc + 1 = pc') (hy : ¬ y = 0) (K : Sim z d kc ks mi pc' L (.long (x / y) :: S) lay mem Q) : Sim z d kc ks mi pc L (.long y :: .long x :: S) lay mem Q := by
  intro p e R s m args below meth c D A rv H locs cells slots ls st ws X F hc hs h hL hS kk
  subst hp
  obtain ⟨w0, st0, rfl, v0, hT1⟩ := am_s.cons hS
  obtain rfl : w0 = .long y := v0
  obtain ⟨w1, st1, rfl, v1, hT2⟩ := am_s.cons hT1
  obtain rfl : w1 = .long x := v1
  exact lv_ldiv F.1 F.2.1 hd hy (K p e R s m args below meth c D A rv H locs cells slots ls _ ws X F hc hs h hL ⟨rfl, hT2⟩ kk)

theorem s_lrem {z : Zz} {d kc ks : Nat} {mi : MI} {pc pc' : Nat} {L S : List Value} {lay : Lay} {mem : Mem} {Q : Option Value → Lay → Mem → Prop} {x y : Int64} (hd : decode mi.2.1 pc = .ok (.lrem, 1)) (hp : pc + 1 = pc') (hy : ¬ y = 0) (K : Sim z d kc ks mi pc' L (.long (x - x / y * y) :: S) lay mem Q) : Sim z d kc ks mi pc L (.long y :: .long x :: S) lay mem Q := by
  intro p e R s m args below meth c D A rv H locs cells slots ls st ws X F hc hs h hL hS kk
  subst hp
  obtain ⟨w0, st0, rfl, v0, hT1⟩ := am_s.cons hS
  obtain rfl : w0 = .long y := v0
  obtain ⟨w1, st1, rfl, v1, hT2⟩ := am_s.cons hT1
  obtain rfl : w1 = .long x := v1
  exact lv_lrem F.1 F.2.1 hd hy (K p e R s m args below meth c D A rv H locs cells slots ls _ ws X F hc hs h hL ⟨rfl, hT2⟩ kk)

theorem s_ladd {z : Zz} {d kc ks : Nat} {mi : MI} {pc pc' : Nat} {L S : List Value} {lay : Lay} {mem : Mem} {Q : Option Value → Lay → Mem → Prop} {x y : Int64} (hd : decode mi.2.1 pc = .ok (.ladd, 1)) (hp : pc + 1 = pc')  (K : Sim z d kc ks mi pc' L (.long (x + y) :: S) lay mem Q) : Sim z d kc ks mi pc L (.long y :: .long x :: S) lay mem Q := by
  intro p e R s m args below meth c D A rv H locs cells slots ls st ws X F hc hs h hL hS kk
  subst hp
  obtain ⟨w0, st0, rfl, v0, hT1⟩ := am_s.cons hS
  obtain rfl : w0 = .long y := v0
  obtain ⟨w1, st1, rfl, v1, hT2⟩ := am_s.cons hT1
  obtain rfl : w1 = .long x := v1
  exact lv_ladd F.1 F.2.1 hd  (K p e R s m args below meth c D A rv H locs cells slots ls _ ws X F hc hs h hL ⟨rfl, hT2⟩ kk)

theorem s_lsub {z : Zz} {d kc ks : Nat} {mi : MI} {pc pc' : Nat} {L S : List Value} {lay : Lay} {mem : Mem} {Q : Option Value → Lay → Mem → Prop} {x y : Int64} (hd : decode mi.2.1 pc = .ok (.lsub, 1)) (hp : pc + 1 = pc')  (K : Sim z d kc ks mi pc' L (.long (x - y) :: S) lay mem Q) : Sim z d kc ks mi pc L (.long y :: .long x :: S) lay mem Q := by
  intro p e R s m args below meth c D A rv H locs cells slots ls st ws X F hc hs h hL hS kk
  subst hp
  obtain ⟨w0, st0, rfl, v0, hT1⟩ := am_s.cons hS
  obtain rfl : w0 = .long y := v0
  obtain ⟨w1, st1, rfl, v1, hT2⟩ := am_s.cons hT1
  obtain rfl : w1 = .long x := v1
  exact lv_lsub F.1 F.2.1 hd  (K p e R s m args below meth c D A rv H locs cells slots ls _ ws X F hc hs h hL ⟨rfl, hT2⟩ kk)

theorem s_lmul {z : Zz} {d kc ks : Nat} {mi : MI} {pc pc' : Nat} {L S : List Value} {lay : Lay} {mem : Mem} {Q : Option Value → Lay → Mem → Prop} {x y : Int64} (hd : decode mi.2.1 pc = .ok (.lmul, 1)) (hp : pc + 1 = pc')  (K : Sim z d kc ks mi pc' L (.long (x * y) :: S) lay mem Q) : Sim z d kc ks mi pc L (.long y :: .long x :: S) lay mem Q := by
  intro p e R s m args below meth c D A rv H locs cells slots ls st ws X F hc hs h hL hS kk
  subst hp
  obtain ⟨w0, st0, rfl, v0, hT1⟩ := am_s.cons hS
  obtain rfl : w0 = .long y := v0
  obtain ⟨w1, st1, rfl, v1, hT2⟩ := am_s.cons hT1
  obtain rfl : w1 = .long x := v1
  exact lv_lmul F.1 F.2.1 hd  (K p e R s m args below meth c D A rv H locs cells slots ls _ ws X F hc hs h hL ⟨rfl, hT2⟩ kk)

theorem s_ineg {z : Zz} {d kc ks : Nat} {mi : MI} {pc pc' : Nat} {L S : List Value} {lay : Lay} {mem : Mem} {Q : Option Value → Lay → Mem → Prop} {x : Int32} (hd : decode mi.2.1 pc = .ok (.ineg, 1)) (hp : pc + 1 = pc')  (K : Sim z d kc ks mi pc' L (.int (-x) :: S) lay mem Q) : Sim z d kc ks mi pc L (.int x :: S) lay mem Q := by
  intro p e R s m args below meth c D A rv H locs cells slots ls st ws X F hc hs h hL hS kk
  subst hp
  obtain ⟨w0, st0, rfl, v0, hT1⟩ := am_s.cons hS
  obtain rfl : w0 = .int x := v0
  exact lv_ineg F.1 F.2.1 hd  (K p e R s m args below meth c D A rv H locs cells slots ls _ ws X F hc hs h hL ⟨rfl, hT1⟩ kk)

theorem s_i2l {z : Zz} {d kc ks : Nat} {mi : MI} {pc pc' : Nat} {L S : List Value} {lay : Lay} {mem : Mem} {Q : Option Value → Lay → Mem → Prop} {x : Int32} (hd : decode mi.2.1 pc = .ok (.i2l, 1)) (hp : pc + 1 = pc')  (K : Sim z d kc ks mi pc' L (.long x.toInt64 :: S) lay mem Q) : Sim z d kc ks mi pc L (.int x :: S) lay mem Q := by
  intro p e R s m args below meth c D A rv H locs cells slots ls st ws X F hc hs h hL hS kk
  subst hp
  obtain ⟨w0, st0, rfl, v0, hT1⟩ := am_s.cons hS
  obtain rfl : w0 = .int x := v0
  exact lv_i2l F.1 F.2.1 hd rfl (K p e R s m args below meth c D A rv H locs cells slots ls _ ws X F hc hs h hL ⟨rfl, hT1⟩ kk)

theorem s_i2b {z : Zz} {d kc ks : Nat} {mi : MI} {pc pc' : Nat} {L S : List Value} {lay : Lay} {mem : Mem} {Q : Option Value → Lay → Mem → Prop} {x : Int32} (hd : decode mi.2.1 pc = .ok (.i2b, 1)) (hp : pc + 1 = pc')  (K : Sim z d kc ks mi pc' L (.int x.toInt8.toInt32 :: S) lay mem Q) : Sim z d kc ks mi pc L (.int x :: S) lay mem Q := by
  intro p e R s m args below meth c D A rv H locs cells slots ls st ws X F hc hs h hL hS kk
  subst hp
  obtain ⟨w0, st0, rfl, v0, hT1⟩ := am_s.cons hS
  obtain rfl : w0 = .int x := v0
  exact lv_i2b F.1 F.2.1 hd rfl (K p e R s m args below meth c D A rv H locs cells slots ls _ ws X F hc hs h hL ⟨rfl, hT1⟩ kk)

theorem s_i2s {z : Zz} {d kc ks : Nat} {mi : MI} {pc pc' : Nat} {L S : List Value} {lay : Lay} {mem : Mem} {Q : Option Value → Lay → Mem → Prop} {x : Int32} (hd : decode mi.2.1 pc = .ok (.i2s, 1)) (hp : pc + 1 = pc')  (K : Sim z d kc ks mi pc' L (.int x.toInt16.toInt32 :: S) lay mem Q) : Sim z d kc ks mi pc L (.int x :: S) lay mem Q := by
  intro p e R s m args below meth c D A rv H locs cells slots ls st ws X F hc hs h hL hS kk
  subst hp
  obtain ⟨w0, st0, rfl, v0, hT1⟩ := am_s.cons hS
  obtain rfl : w0 = .int x := v0
  exact lv_i2s F.1 F.2.1 hd rfl (K p e R s m args below meth c D A rv H locs cells slots ls _ ws X F hc hs h hL ⟨rfl, hT1⟩ kk)

theorem s_i2c {z : Zz} {d kc ks : Nat} {mi : MI} {pc pc' : Nat} {L S : List Value} {lay : Lay} {mem : Mem} {Q : Option Value → Lay → Mem → Prop} {x : Int32} (hd : decode mi.2.1 pc = .ok (.i2c, 1)) (hp : pc + 1 = pc')  (K : Sim z d kc ks mi pc' L (.int (x.toUInt32 % 65536).toInt32 :: S) lay mem Q) : Sim z d kc ks mi pc L (.int x :: S) lay mem Q := by
  intro p e R s m args below meth c D A rv H locs cells slots ls st ws X F hc hs h hL hS kk
  subst hp
  obtain ⟨w0, st0, rfl, v0, hT1⟩ := am_s.cons hS
  obtain rfl : w0 = .int x := v0
  exact lv_i2c F.1 F.2.1 hd rfl (K p e R s m args below meth c D A rv H locs cells slots ls _ ws X F hc hs h hL ⟨rfl, hT1⟩ kk)

theorem s_lcmp {z : Zz} {d kc ks : Nat} {mi : MI} {pc pc' : Nat} {L S : List Value} {lay : Lay} {mem : Mem} {Q : Option Value → Lay → Mem → Prop} {x y : Int64} (hd : decode mi.2.1 pc = .ok (.lcmp, 1)) (hp : pc + 1 = pc') (K : Sim z d kc ks mi pc' L (.int (lg_cmp x y) :: S) lay mem Q) : Sim z d kc ks mi pc L (.long y :: .long x :: S) lay mem Q := by
  intro p e R s m args below meth c D A rv H locs cells slots ls st ws X F hc hs h hL hS kk
  subst hp
  obtain ⟨w0, st0, rfl, v0, hT1⟩ := am_s.cons hS
  obtain rfl : w0 = .long y := v0
  obtain ⟨w1, st1, rfl, v1, hT2⟩ := am_s.cons hT1
  obtain rfl : w1 = .long x := v1
  exact W.lcmp F.1 F.2.1 hd (K p e R s m args below meth c D A rv H locs cells slots ls _ ws X F hc hs h hL ⟨rfl, hT2⟩ kk)

theorem s_iload {z : Zz} {d kc ks : Nat} {mi : MI} {pc pc' : Nat} {L S : List Value} {lay : Lay} {mem : Mem} {Q : Option Value → Lay → Mem → Prop} {k : Nat} {x : Int32} (hd : decode mi.2.1 pc = .ok (.iload k, 2)) (hp : pc + 2 = pc') (hl : L[k]? = some (.int x)) (K : Sim z d kc ks mi pc' L (.int x :: S) lay mem Q) : Sim z d kc ks mi pc L S lay mem Q := by
  intro p e R s m args below meth c D A rv H locs cells slots ls st ws X F hc hs h hL hS kk
  subst hp
  obtain ⟨w, hw, hv⟩ := hL.2.2.2 _ _ hl rfl
  obtain rfl : w = .int x := hv
  exact lv_iload F.1 F.2.1 hd  hw (K p e R s m args below meth c D A rv H locs cells slots ls _ ws X F hc hs h hL ⟨rfl, hS⟩ kk)

theorem s_iload_n {z : Zz} {d kc ks : Nat} {mi : MI} {pc pc' : Nat} {L S : List Value} {lay : Lay} {mem : Mem} {Q : Option Value → Lay → Mem → Prop} {k : Fin 4} {x : Int32} (hd : decode mi.2.1 pc = .ok (.iload_n k, 1)) (hp : pc + 1 = pc') (hl : L[(k : Nat)]? = some (.int x)) (K : Sim z d kc ks mi pc' L (.int x :: S) lay mem Q) : Sim z d kc ks mi pc L S lay mem Q := by
  intro p e R s m args below meth c D A rv H locs cells slots ls st ws X F hc hs h hL hS kk
  subst hp
  obtain ⟨w, hw, hv⟩ := hL.2.2.2 _ _ hl rfl
  obtain rfl : w = .int x := hv
  exact lv_iload_n F.1 F.2.1 hd rfl hw (K p e R s m args below meth c D A rv H locs cells slots ls _ ws X F hc hs h hL ⟨rfl, hS⟩ kk)

theorem s_lload {z : Zz} {d kc ks : Nat} {mi : MI} {pc pc' : Nat} {L S : List Value} {lay : Lay} {mem : Mem} {Q : Option Value → Lay → Mem → Prop} {k : Nat} {x : Int64} (hd : decode mi.2.1 pc = .ok (.lload k, 2)) (hp : pc + 2 = pc') (hl : L[k]? = some (.long x)) (K : Sim z d kc ks mi pc' L (.long x :: S) lay mem Q) : Sim z d kc ks mi pc L S lay mem Q := by
  intro p e R s m args below meth c D A rv H locs cells slots ls st ws X F hc hs h hL hS kk
  subst hp
  obtain ⟨w, hw, hv⟩ := hL.2.2.2 _ _ hl rfl
  obtain rfl : w = .long x := hv
  exact lv_lload F.1 F.2.1 hd  hw (K p e R s m args below meth c D A rv H locs cells slots ls _ ws X F hc hs h hL ⟨rfl, hS⟩ kk)

theorem s_lload_n {z : Zz} {d kc ks : Nat} {mi : MI} {pc pc' : Nat} {L S : List Value} {lay : Lay} {mem : Mem} {Q : Option Value → Lay → Mem → Prop} {k : Fin 4} {x : Int64} (hd : decode mi.2.1 pc = .ok (.lload_n k, 1)) (hp : pc + 1 = pc') (hl : L[(k : Nat)]? = some (.long x)) (K : Sim z d kc ks mi pc' L (.long x :: S) lay mem Q) : Sim z d kc ks mi pc L S lay mem Q := by
  intro p e R s m args below meth c D A rv H locs cells slots ls st ws X F hc hs h hL hS kk
  subst hp
  obtain ⟨w, hw, hv⟩ := hL.2.2.2 _ _ hl rfl
  obtain rfl : w = .long x := hv
  exact lv_lload_n F.1 F.2.1 hd rfl hw (K p e R s m args below meth c D A rv H locs cells slots ls _ ws X F hc hs h hL ⟨rfl, hS⟩ kk)

def am_isA (v : Value) : Bool := match v with
  | .null => true
  | .ref _ => true
  | .retAddr _ => true
  | _ => false
theorem am_isA_mk {v : Value} (h : am_isA v = true) : am_mk v = false := by cases v <;> first | rfl | cases h
theorem am_isA_w {rv : Nat → Value} {ws : va_W} {v w : Value} (h : am_isA v = true) (hv : am_v rv ws v w) : w = .null ∨ ∃ a, w = .ref a := by
  cases v with
  | null => exact Or.inl hv
  | ref k => obtain ⟨a, e, -, h2⟩ := hv; exact Or.inr ⟨a, h2⟩
  | retAddr n => exact hv.2
  | _ => cases h
theorem am_isA_c {v : Value} (h : am_isA v = true) : v.category = 1 := by cases v <;> first | rfl | cases h
/-- the listed locals of the machine, all of them -/
def am_lv (ls : Array Slot) : List (Nat × Value) := (List.range ls.size).filterMap (fun (i : Nat) => match ls[i]? with | some (Slot.val w) => some (i, w) | _ => none)
theorem am_lv_mem {ls : Array Slot} {i : Nat} {w : Value} : (i, w) ∈ am_lv ls ↔ ls[i]? = some (.val w) := by
  unfold am_lv
  rw [List.mem_filterMap]
  constructor
  · rintro ⟨j, -, hj⟩
    split at hj
    · rename_i w' h'
      cases hj
      exact h'
    · cases hj
  · intro h
    refine ⟨i, List.mem_range.mpr (Array.getElem?_eq_some_iff.mp h).1, ?_⟩
    rw [h]
theorem am_l.has {rv : Nat → Value} {ws : va_W} {L : List Value} {ls : Array Slot} {n : Nat} (h : am_l rv ws L ls n) : lv_has ls n (am_lv ls) := ⟨h.1, h.2.1, fun q hq => am_lv_mem.mp hq⟩
def am_nl (L : List Value) (i : Nat) : Bool := match i with
  | 0 => true
  | j + 1 => match L[j]? with
    | some (.long _) => false
    | _ => true
theorem am_nl_c {rv : Nat → Value} {ws : va_W} {L : List Value} {j : Nat} {u w : Value} (h : am_nl L (j + 1) = true) (hu : L[j]? = some u) (hm : am_mk u = false) (hv : am_v rv ws u w) : w.category = 1 := by
  rw [hv.cat]
  cases u with
  | long x => simp [am_nl, hu] at h
  | float _ => cases hm
  | double _ => cases hm
  | _ => rfl
theorem am_l.st1 {rv : Nat → Value} {ws : va_W} {L : List Value} {ls ls' : Array Slot} {n i : Nat} {v w : Value} (h : am_l rv ws L ls n) (hi : i < n) (hn : am_nl L i = true) (hv : am_v rv ws v w)
    (h' : lv_has ls' n ((i, w) :: (am_lv ls).filter (fun q => !(q.1 == i) && !(q.1 + 1 == i && q.2.category == 2)))) : am_l rv ws (L.set i v) ls' n := by
  refine ⟨h'.1, h'.2.1, by rw [List.length_set]; exact h.2.2.1, fun j u hu hm => ?_⟩
  by_cases hj : j = i
  · subst hj
    rw [List.getElem?_set_self (by rw [h.2.2.1]; exact hi)] at hu
    cases hu
    exact ⟨w, h'.2.2 (j, w) List.mem_cons_self, hv⟩
  · rw [List.getElem?_set_ne (Ne.symm hj)] at hu
    obtain ⟨w', h1, h2⟩ := h.2.2.2 j u hu hm
    refine ⟨w', h'.2.2 (j, w') (List.mem_cons_of_mem _ (List.mem_filter.mpr ⟨am_lv_mem.mpr h1, ?_⟩)), h2⟩
    simp only [Bool.and_eq_true, Bool.not_eq_true', beq_eq_false_iff_ne, ne_eq, Bool.and_eq_false_iff]
    refine ⟨hj, ?_⟩
    by_cases hji : j + 1 = i
    · right
      subst hji
      rw [am_nl_c hn hu hm h2]
      decide
    · left; exact hji
theorem am_l.st2 {rv : Nat → Value} {ws : va_W} {L : List Value} {ls ls' : Array Slot} {n i : Nat} {v w : Value} (h : am_l rv ws L ls n) (hi : i + 1 < n) (hn : am_nl L i = true) (hv : am_v rv ws v w)
    (h' : lv_has ls' n ((i, w) :: (am_lv ls).filter (fun q => !(q.1 == i) && (!(q.1 == i + 1) && !(q.1 + 1 == i && q.2.category == 2))))) : am_l rv ws ((L.set i v).set (i + 1) (.double 0)) ls' n := by
  refine ⟨h'.1, h'.2.1, by rw [List.length_set, List.length_set]; exact h.2.2.1, fun j u hu hm => ?_⟩
  by_cases hj1 : j = i + 1
  · subst hj1
    rw [List.getElem?_set_self (by rw [List.length_set, h.2.2.1]; exact hi)] at hu
    cases hu
    cases hm
  rw [List.getElem?_set_ne (Ne.symm hj1)] at hu
  by_cases hj : j = i
  · subst hj
    rw [List.getElem?_set_self (by rw [h.2.2.1]; omega)] at hu
    cases hu
    exact ⟨w, h'.2.2 (j, w) List.mem_cons_self, hv⟩
  · rw [List.getElem?_set_ne (Ne.symm hj)] at hu
    obtain ⟨w', h1, h2⟩ := h.2.2.2 j u hu hm
    refine ⟨w', h'.2.2 (j, w') (List.mem_cons_of_mem _ (List.mem_filter.mpr ⟨am_lv_mem.mpr h1, ?_⟩)), h2⟩
    simp only [Bool.and_eq_true, Bool.not_eq_true', beq_eq_false_iff_ne, ne_eq, Bool.and_eq_false_iff]
    refine ⟨hj, hj1, ?_⟩
    by_cases hji : j + 1 = i
    · right
      subst hji
      rw [am_nl_c hn hu hm h2]
      decide
    · left; exact hji
theorem am_l.lt {rv : Nat → Value} {ws : va_W} {L : List Value} {ls : Array Slot} {n i : Nat} (h : am_l rv ws L ls n) (hi : i < L.length) : i < n := by rw [← h.2.2.1]; exact hi

theorem s_aload {z : Zz} {d kc ks : Nat} {mi : MI} {pc pc' : Nat} {L S : List Value} {lay : Lay} {mem : Mem} {Q : Option Value → Lay → Mem → Prop} {k : Nat} {v : Value} (hd : decode mi.2.1 pc = .ok (.aload k, 2)) (hp : pc + 2 = pc') (hl : L[k]? = some v) (hr : am_isA v = true) (K : Sim z d kc ks mi pc' L (v :: S) lay mem Q) : Sim z d kc ks mi pc L S lay mem Q := by
  intro p e R s m args below meth c D A rv H locs cells slots ls st ws X F hc hs h hL hS kk
  subst hp
  obtain ⟨w, hw, hv⟩ := hL.2.2.2 _ _ hl (am_isA_mk hr)
  rcases am_isA_w hr hv with rfl | ⟨a, rfl⟩
  · exact lv_aloadN F.1 F.2.1 hd  hw (K p e R s m args below meth c D A rv H locs cells slots ls _ ws X F hc hs h hL ⟨hv, hS⟩ kk)
  · exact lv_aload F.1 F.2.1 hd  hw (K p e R s m args below meth c D A rv H locs cells slots ls _ ws X F hc hs h hL ⟨hv, hS⟩ kk)

theorem s_aload_n {z : Zz} {d kc ks : Nat} {mi : MI} {pc pc' : Nat} {L S : List Value} {lay : Lay} {mem : Mem} {Q : Option Value → Lay → Mem → Prop} {k : Fin 4} {v : Value} (hd : decode mi.2.1 pc = .ok (.aload_n k, 1)) (hp : pc + 1 = pc') (hl : L[(k : Nat)]? = some v) (hr : am_isA v = true) (K : Sim z d kc ks mi pc' L (v :: S) lay mem Q) : Sim z d kc ks mi pc L S lay mem Q := by
  intro p e R s m args below meth c D A rv H locs cells slots ls st ws X F hc hs h hL hS kk
  subst hp
  obtain ⟨w, hw, hv⟩ := hL.2.2.2 _ _ hl (am_isA_mk hr)
  rcases am_isA_w hr hv with rfl | ⟨a, rfl⟩
  · exact lv_aload_nN F.1 F.2.1 hd rfl hw (K p e R s m args below meth c D A rv H locs cells slots ls _ ws X F hc hs h hL ⟨hv, hS⟩ kk)
  · exact lv_aload_n F.1 F.2.1 hd rfl hw (K p e R s m args below meth c D A rv H locs cells slots ls _ ws X F hc hs h hL ⟨hv, hS⟩ kk)

theorem s_istore {z : Zz} {d kc ks : Nat} {mi : MI} {pc pc' : Nat} {L S : List Value} {lay : Lay} {mem : Mem} {Q : Option Value → Lay → Mem → Prop} {k : Nat} {x : Int32} {L' : List Value} (hd : decode mi.2.1 pc = .ok (.istore k, 2)) (hp : pc + 2 = pc') (hi : k < L.length) (hn : am_nl L k = true) (hl : L.set k (.int x) = L') (K : Sim z d kc ks mi pc' L' S lay mem Q) : Sim z d kc ks mi pc L (.int x :: S) lay mem Q := by
  intro p e R s m args below meth c D A rv H locs cells slots ls st ws X F hc hs h hL hS kk
  subst hp
  subst hl
  obtain ⟨w, st, rfl, v, hT⟩ := am_s.cons hS
  obtain rfl : w = .int x := v
  exact lv_istore F.1 F.2.1 hd  hL.has (hL.lt hi) rfl (fun ls2 h2 => K p e R s m args below meth c D A rv H locs cells slots ls2 _ ws X F hc hs h (hL.st1 (hL.lt hi) hn rfl h2) hT kk)

theorem s_istore_n {z : Zz} {d kc ks : Nat} {mi : MI} {pc pc' : Nat} {L S : List Value} {lay : Lay} {mem : Mem} {Q : Option Value → Lay → Mem → Prop} {k : Fin 4} {x : Int32} {L' : List Value} (hd : decode mi.2.1 pc = .ok (.istore_n k, 1)) (hp : pc + 1 = pc') (hi : (k : Nat) < L.length) (hn : am_nl L (k : Nat) = true) (hl : L.set (k : Nat) (.int x) = L') (K : Sim z d kc ks mi pc' L' S lay mem Q) : Sim z d kc ks mi pc L (.int x :: S) lay mem Q := by
  intro p e R s m args below meth c D A rv H locs cells slots ls st ws X F hc hs h hL hS kk
  subst hp
  subst hl
  obtain ⟨w, st, rfl, v, hT⟩ := am_s.cons hS
  obtain rfl : w = .int x := v
  exact lv_istore_n F.1 F.2.1 hd rfl hL.has (hL.lt hi) rfl (fun ls2 h2 => K p e R s m args below meth c D A rv H locs cells slots ls2 _ ws X F hc hs h (hL.st1 (hL.lt hi) hn rfl h2) hT kk)

theorem s_lstore {z : Zz} {d kc ks : Nat} {mi : MI} {pc pc' : Nat} {L S : List Value} {lay : Lay} {mem : Mem} {Q : Option Value → Lay → Mem → Prop} {k : Nat} {x : Int64} {L' : List Value} (hd : decode mi.2.1 pc = .ok (.lstore k, 2)) (hp : pc + 2 = pc') (hi : k + 1 < L.length) (hn : am_nl L k = true) (hl : (L.set k (.long x)).set (k + 1) (.double 0) = L') (K : Sim z d kc ks mi pc' L' S lay mem Q) : Sim z d kc ks mi pc L (.long x :: S) lay mem Q := by
  intro p e R s m args below meth c D A rv H locs cells slots ls st ws X F hc hs h hL hS kk
  subst hp
  subst hl
  obtain ⟨w, st, rfl, v, hT⟩ := am_s.cons hS
  obtain rfl : w = .long x := v
  exact lv_lstore F.1 F.2.1 hd  hL.has (hL.lt hi) rfl (fun ls2 h2 => K p e R s m args below meth c D A rv H locs cells slots ls2 _ ws X F hc hs h (hL.st2 (hL.lt hi) hn rfl h2) hT kk)

theorem s_lstore_n {z : Zz} {d kc ks : Nat} {mi : MI} {pc pc' : Nat} {L S : List Value} {lay : Lay} {mem : Mem} {Q : Option Value → Lay → Mem → Prop} {k : Fin 4} {x : Int64} {L' : List Value} (hd : decode mi.2.1 pc = .ok (.lstore_n k, 1)) (hp : pc + 1 = pc') (hi : (k : Nat) + 1 < L.length) (hn : am_nl L (k : Nat) = true) (hl : (L.set (k : Nat) (.long x)).set ((k : Nat) + 1) (.double 0) = L') (K : Sim z d kc ks mi pc' L' S lay mem Q) : Sim z d kc ks mi pc L (.long x :: S) lay mem Q := by
  intro p e R s m args below meth c D A rv H locs cells slots ls st ws X F hc hs h hL hS kk
  subst hp
  subst hl
  obtain ⟨w, st, rfl, v, hT⟩ := am_s.cons hS
  obtain rfl : w = .long x := v
  exact lv_lstore_n F.1 F.2.1 hd rfl hL.has (hL.lt hi) rfl (fun ls2 h2 => K p e R s m args below meth c D A rv H locs cells slots ls2 _ ws X F hc hs h (hL.st2 (hL.lt hi) hn rfl h2) hT kk)

theorem s_astore {z : Zz} {d kc ks : Nat} {mi : MI} {pc pc' : Nat} {L S : List Value} {lay : Lay} {mem : Mem} {Q : Option Value → Lay → Mem → Prop} {k : Nat} {v : Value} {L' : List Value} (hd : decode mi.2.1 pc = .ok (.astore k, 2)) (hp : pc + 2 = pc') (hr : am_isA v = true) (hi : k < L.length) (hn : am_nl L k = true) (hl : L.set k v = L') (K : Sim z d kc ks mi pc' L' S lay mem Q) : Sim z d kc ks mi pc L (v :: S) lay mem Q := by
  intro p e R s m args below meth c D A rv H locs cells slots ls st ws X F hc hs h hL hS kk
  subst hp
  subst hl
  obtain ⟨w, st, rfl, hv, hT⟩ := am_s.cons hS
  rcases am_isA_w hr hv with rfl | ⟨a, rfl⟩
  · exact lv_astoreN F.1 F.2.1 hd  hL.has (hL.lt hi) rfl (fun ls2 h2 => K p e R s m args below meth c D A rv H locs cells slots ls2 _ ws X F hc hs h (hL.st1 (hL.lt hi) hn hv h2) hT kk)
  · exact lv_astore F.1 F.2.1 hd  hL.has (hL.lt hi) rfl (fun ls2 h2 => K p e R s m args below meth c D A rv H locs cells slots ls2 _ ws X F hc hs h (hL.st1 (hL.lt hi) hn hv h2) hT kk)

theorem s_astore_n {z : Zz} {d kc ks : Nat} {mi : MI} {pc pc' : Nat} {L S : List Value} {lay : Lay} {mem : Mem} {Q : Option Value → Lay → Mem → Prop} {k : Fin 4} {v : Value} {L' : List Value} (hd : decode mi.2.1 pc = .ok (.astore_n k, 1)) (hp : pc + 1 = pc') (hr : am_isA v = true) (hi : (k : Nat) < L.length) (hn : am_nl L (k : Nat) = true) (hl : L.set (k : Nat) v = L') (K : Sim z d kc ks mi pc' L' S lay mem Q) : Sim z d kc ks mi pc L (v :: S) lay mem Q := by
  intro p e R s m args below meth c D A rv H locs cells slots ls st ws X F hc hs h hL hS kk
  subst hp
  subst hl
  obtain ⟨w, st, rfl, hv, hT⟩ := am_s.cons hS
  rcases am_isA_w hr hv with rfl | ⟨a, rfl⟩
  · exact lv_astore_nN F.1 F.2.1 hd rfl hL.has (hL.lt hi) rfl (fun ls2 h2 => K p e R s m args below meth c D A rv H locs cells slots ls2 _ ws X F hc hs h (hL.st1 (hL.lt hi) hn hv h2) hT kk)
  · exact lv_astore_n F.1 F.2.1 hd rfl hL.has (hL.lt hi) rfl (fun ls2 h2 => K p e R s m args below meth c D A rv H locs cells slots ls2 _ ws X F hc hs h (hL.st1 (hL.lt hi) hn hv h2) hT kk)

theorem s_iinc {z : Zz} {d kc ks : Nat} {mi : MI} {pc pc' : Nat} {L S : List Value} {lay : Lay} {mem : Mem} {Q : Option Value → Lay → Mem → Prop} {k : Nat} {n : Int} {x v : Int32} {L' : List Value} (hd : decode mi.2.1 pc = .ok (.iinc k n, 3)) (hp : pc + 3 = pc') (hl : L[k]? = some (.int x)) (hn : am_nl L k = true) (hv : x + Int32.ofInt n = v) (hl' : L.set k (.int v) = L') (K : Sim z d kc ks mi pc' L' S lay mem Q) : Sim z d kc ks mi pc L S lay mem Q := by
  intro p e R s m args below meth c D A rv H locs cells slots ls st ws X F hc hs h hL hS kk
  subst hp
  subst hl'
  obtain ⟨w, hw, hv2⟩ := hL.2.2.2 _ _ hl rfl
  obtain rfl : w = .int x := hv2
  obtain ⟨j, hj⟩ := List.getElem?_of_mem (am_lv_mem.mpr hw)
  have hi := hL.lt (List.getElem?_eq_some_iff.mp hl).1
  exact lv_iinc F.1 F.2.1 hd hL.has hj hv hi rfl (fun ls2 h2 => K p e R s m args below meth c D A rv H locs cells slots ls2 _ ws X F hc hs h (hL.st1 hi hn rfl h2) hS kk)

theorem s_dup {z : Zz} {d kc ks : Nat} {mi : MI} {pc pc' : Nat} {L S : List Value} {lay : Lay} {mem : Mem} {Q : Option Value → Lay → Mem → Prop} {v : Value} (hd : decode mi.2.1 pc = .ok (.dup, 1)) (hp : pc + 1 = pc') (hv : v.category = 1) (K : Sim z d kc ks mi pc' L (v :: v :: S) lay mem Q) : Sim z d kc ks mi pc L (v :: S) lay mem Q := by
  intro p e R s m args below meth c D A rv H locs cells slots ls st ws X F hc hs h hL hS kk
  subst hp
  obtain ⟨w, st, rfl, v1, hT⟩ := am_s.cons hS
  exact lv_dup F.1 F.2.1 hd (v1.cat.trans hv) (K p e R s m args below meth c D A rv H locs cells slots ls _ ws X F hc hs h hL ⟨v1, v1, hT⟩ kk)

theorem s_pop {z : Zz} {d kc ks : Nat} {mi : MI} {pc pc' : Nat} {L S : List Value} {lay : Lay} {mem : Mem} {Q : Option Value → Lay → Mem → Prop} {v : Value} (hd : decode mi.2.1 pc = .ok (.pop, 1)) (hp : pc + 1 = pc') (hv : v.category = 1) (K : Sim z d kc ks mi pc' L S lay mem Q) : Sim z d kc ks mi pc L (v :: S) lay mem Q := by
  intro p e R s m args below meth c D A rv H locs cells slots ls st ws X F hc hs h hL hS kk
  subst hp
  obtain ⟨w, st, rfl, v1, hT⟩ := am_s.cons hS
  exact lv_pop F.1 F.2.1 hd (v1.cat.trans hv) (K p e R s m args below meth c D A rv H locs cells slots ls _ ws X F hc hs h hL hT kk)

theorem s_dup2 {z : Zz} {d kc ks : Nat} {mi : MI} {pc pc' : Nat} {L S : List Value} {lay : Lay} {mem : Mem} {Q : Option Value → Lay → Mem → Prop} {v u : Value} (hd : decode mi.2.1 pc = .ok (.dup2, 1)) (hp : pc + 1 = pc') (hv : v.category = 1) (hu : u.category = 1) (K : Sim z d kc ks mi pc' L (v :: u :: v :: u :: S) lay mem Q) : Sim z d kc ks mi pc L (v :: u :: S) lay mem Q := by
  intro p e R s m args below meth c D A rv H locs cells slots ls st ws X F hc hs h hL hS kk
  subst hp
  obtain ⟨w, st, rfl, v1, hT⟩ := am_s.cons hS
  obtain ⟨w2, st2, rfl, v2, hT2⟩ := am_s.cons hT
  exact lv_dup2_11 F.1 F.2.1 hd (v1.cat.trans hv) (v2.cat.trans hu) (K p e R s m args below meth c D A rv H locs cells slots ls _ ws X F hc hs h hL ⟨v1, v2, v1, v2, hT2⟩ kk)

theorem s_if_eq {z : Zz} {d kc ks : Nat} {mi : MI} {pc pc' : Nat} {L S : List Value} {lay : Lay} {mem : Mem} {Q : Option Value → Lay → Mem → Prop} {x : Int32} {off : Int} {tgt : Nat} (hd : decode mi.2.1 pc = .ok (.ifCond .eq off, 3)) (hp : pc + 3 = pc') (ht : (pc : Int) + off = (tgt : Int)) (Kt : x = 0 → Sim z d kc ks mi tgt L S lay mem Q) (Kf : ¬ x = 0 → Sim z d kc ks mi pc' L S lay mem Q) : Sim z d kc ks mi pc L (.int x :: S) lay mem Q := by
  intro p e R s m args below meth c D A rv H locs cells slots ls st ws X F hc hs h hL hS kk
  subst hp
  obtain ⟨w0, st0, rfl, v0, hT1⟩ := am_s.cons hS
  obtain rfl : w0 = .int x := v0
  exact lv_if_eq F.1 F.2.1 hd ht (fun q => Kt q p e R s m args below meth c D A rv H locs cells slots ls _ ws X F hc hs h hL hT1 kk) (fun q => Kf q p e R s m args below meth c D A rv H locs cells slots ls _ ws X F hc hs h hL hT1 kk)

theorem s_icmp_eq {z : Zz} {d kc ks : Nat} {mi : MI} {pc pc' : Nat} {L S : List Value} {lay : Lay} {mem : Mem} {Q : Option Value → Lay → Mem → Prop} {x y : Int32} {off : Int} {tgt : Nat} (hd : decode mi.2.1 pc = .ok (.if_icmp .eq off, 3)) (hp : pc + 3 = pc') (ht : (pc : Int) + off = (tgt : Int)) (Kt : x = y → Sim z d kc ks mi tgt L S lay mem Q) (Kf : ¬ x = y → Sim z d kc ks mi pc' L S lay mem Q) : Sim z d kc ks mi pc L (.int y :: .int x :: S) lay mem Q := by
  intro p e R s m args below meth c D A rv H locs cells slots ls st ws X F hc hs h hL hS kk
  subst hp
  obtain ⟨w0, st0, rfl, v0, hT1⟩ := am_s.cons hS
  obtain rfl : w0 = .int y := v0
  obtain ⟨w1, st1, rfl, v1, hT2⟩ := am_s.cons hT1
  obtain rfl : w1 = .int x := v1
  exact lv_icmp_eq F.1 F.2.1 hd ht (fun q => Kt q p e R s m args below meth c D A rv H locs cells slots ls _ ws X F hc hs h hL hT2 kk) (fun q => Kf q p e R s m args below meth c D A rv H locs cells slots ls _ ws X F hc hs h hL hT2 kk)

theorem s_if_lt {z : Zz} {d kc ks : Nat} {mi : MI} {pc pc' : Nat} {L S : List Value} {lay : Lay} {mem : Mem} {Q : Option Value → Lay → Mem → Prop} {x : Int32} {off : Int} {tgt : Nat} (hd : decode mi.2.1 pc = .ok (.ifCond .lt off, 3)) (hp : pc + 3 = pc') (ht : (pc : Int) + off = (tgt : Int)) (Kt : x < 0 → Sim z d kc ks mi tgt L S lay mem Q) (Kf : ¬ x < 0 → Sim z d kc ks mi pc' L S lay mem Q) : Sim z d kc ks mi pc L (.int x :: S) lay mem Q := by
  intro p e R s m args below meth c D A rv H locs cells slots ls st ws X F hc hs h hL hS kk
  subst hp
  obtain ⟨w0, st0, rfl, v0, hT1⟩ := am_s.cons hS
  obtain rfl : w0 = .int x := v0
  exact lv_if_lt F.1 F.2.1 hd ht (fun q => Kt q p e R s m args below meth c D A rv H locs cells slots ls _ ws X F hc hs h hL hT1 kk) (fun q => Kf q p e R s m args below meth c D A rv H locs cells slots ls _ ws X F hc hs h hL hT1 kk)

theorem s_icmp_lt {z : Zz} {d kc ks : Nat} {mi : MI} {pc pc' : Nat} {L S : List Value} {lay : Lay} {mem : Mem} {Q : Option Value → Lay → Mem → Prop} {x y : Int32} {off : Int} {tgt : Nat} (hd : decode mi.2.1 pc = .ok (.if_icmp .lt off, 3)) (hp : pc + 3 = pc') (ht : (pc : Int) + off = (tgt : Int)) (Kt : x < y → Sim z d kc ks mi tgt L S lay mem Q) (Kf : ¬ x < y → Sim z d kc ks mi pc' L S lay mem Q) : Sim z d kc ks mi pc L (.int y :: .int x :: S) lay mem Q := by
  intro p e R s m args below meth c D A rv H locs cells slots ls st ws X F hc hs h hL hS kk
  subst hp
  obtain ⟨w0, st0, rfl, v0, hT1⟩ := am_s.cons hS
  obtain rfl : w0 = .int y := v0
  obtain ⟨w1, st1, rfl, v1, hT2⟩ := am_s.cons hT1
  obtain rfl : w1 = .int x := v1
  exact lv_icmp_lt F.1 F.2.1 hd ht (fun q => Kt q p e R s m args below meth c D A rv H locs cells slots ls _ ws X F hc hs h hL hT2 kk) (fun q => Kf q p e R s m args below meth c D A rv H locs cells slots ls _ ws X F hc hs h hL hT2 kk)

theorem s_if_ge {z : Zz} {d kc ks : Nat} {mi : MI} {pc pc' : Nat} {L S : List Value} {lay : Lay} {mem : Mem} {Q : Option Value → Lay → Mem → Prop} {x : Int32} {off : Int} {tgt : Nat} (hd : decode mi.2.1 pc = .ok (.ifCond .ge off, 3)) (hp : pc + 3 = pc') (ht : (pc : Int) + off = (tgt : Int)) (Kt : 0 ≤ x → Sim z d kc ks mi tgt L S lay mem Q) (Kf : ¬ 0 ≤ x → Sim z d kc ks mi pc' L S lay mem Q) : Sim z d kc ks mi pc L (.int x :: S) lay mem Q := by
  intro p e R s m args below meth c D A rv H locs cells slots ls st ws X F hc hs h hL hS kk
  subst hp
  obtain ⟨w0, st0, rfl, v0, hT1⟩ := am_s.cons hS
  obtain rfl : w0 = .int x := v0
  exact lv_if_ge F.1 F.2.1 hd ht (fun q => Kt q p e R s m args below meth c D A rv H locs cells slots ls _ ws X F hc hs h hL hT1 kk) (fun q => Kf q p e R s m args below meth c D A rv H locs cells slots ls _ ws X F hc hs h hL hT1 kk)

theorem s_icmp_ge {z : Zz} {d kc ks : Nat} {mi : MI} {pc pc' : Nat} {L S : List Value} {lay : Lay} {mem : Mem} {Q : Option Value → Lay → Mem → Prop} {x y : Int32} {off : Int} {tgt : Nat} (hd : decode mi.2.1 pc = .ok (.if_icmp .ge off, 3)) (hp : pc + 3 = pc') (ht : (pc : Int) + off = (tgt : Int)) (Kt : y ≤ x → Sim z d kc ks mi tgt L S lay mem Q) (Kf : ¬ y ≤ x → Sim z d kc ks mi pc' L S lay mem Q) : Sim z d kc ks mi pc L (.int y :: .int x :: S) lay mem Q := by
  intro p e R s m args below meth c D A rv H locs cells slots ls st ws X F hc hs h hL hS kk
  subst hp
  obtain ⟨w0, st0, rfl, v0, hT1⟩ := am_s.cons hS
  obtain rfl : w0 = .int y := v0
  obtain ⟨w1, st1, rfl, v1, hT2⟩ := am_s.cons hT1
  obtain rfl : w1 = .int x := v1
  exact lv_icmp_ge F.1 F.2.1 hd ht (fun q => Kt q p e R s m args below meth c D A rv H locs cells slots ls _ ws X F hc hs h hL hT2 kk) (fun q => Kf q p e R s m args below meth c D A rv H locs cells slots ls _ ws X F hc hs h hL hT2 kk)

theorem s_if_gt {z : Zz} {d kc ks : Nat} {mi : MI} {pc pc' : Nat} {L S : List Value} {lay : Lay} {mem : Mem} {Q : Option Value → Lay → Mem → Prop} {x : Int32} {off : Int} {tgt : Nat} (hd : decode mi.2.1 pc = .ok (.ifCond .gt off, 3)) (hp : pc + 3 = pc') (ht : (pc : Int) + off = (tgt : Int)) (Kt : 0 < x → Sim z d kc ks mi tgt L S lay mem Q) (Kf : ¬ 0 < x → Sim z d kc ks mi pc' L S lay mem Q) : Sim z d kc ks mi pc L (.int x :: S) lay mem Q := by
  intro p e R s m args below meth c D A rv H locs cells slots ls st ws X F hc hs h hL hS kk
  subst hp
  obtain ⟨w0, st0, rfl, v0, hT1⟩ := am_s.cons hS
  obtain rfl : w0 = .int x := v0
  exact lv_if_gt F.1 F.2.1 hd ht (fun q => Kt q p e R s m args below meth c D A rv H locs cells slots ls _ ws X F hc hs h hL hT1 kk) (fun q => Kf q p e R s m args below meth c D A rv H locs cells slots ls _ ws X F hc hs h hL hT1 kk)

theorem s_icmp_gt {z : Zz} {d kc ks : Nat} {mi : MI} {pc pc' : Nat} {L S : List Value} {lay : Lay} {mem : Mem} {Q : Option Value → Lay → Mem → Prop} {x y : Int32} {off : Int} {tgt : Nat} (hd : decode mi.2.1 pc = .ok (.if_icmp .gt off, 3)) (hp : pc + 3 = pc') (ht : (pc : Int) + off = (tgt : Int)) (Kt : y < x → Sim z d kc ks mi tgt L S lay mem Q) (Kf : ¬ y < x → Sim z d kc ks mi pc' L S lay mem Q) : Sim z d kc ks mi pc L (.int y :: .int x :: S) lay mem Q := by
  intro p e R s m args below meth c D A rv H locs cells slots ls st ws X F hc hs h hL hS kk
  subst hp
  obtain ⟨w0, st0, rfl, v0, hT1⟩ := am_s.cons hS
  obtain rfl : w0 = .int y := v0
  obtain ⟨w1, st1, rfl, v1, hT2⟩ := am_s.cons hT1
  obtain rfl : w1 = .int x := v1
  exact lv_icmp_gt F.1 F.2.1 hd ht (fun q => Kt q p e R s m args below meth c D A rv H locs cells slots ls _ ws X F hc hs h hL hT2 kk) (fun q => Kf q p e R s m args below meth c D A rv H locs cells slots ls _ ws X F hc hs h hL hT2 kk)

theorem s_if_le {z : Zz} {d kc ks : Nat} {mi : MI} {pc pc' : Nat} {L S : List Value} {lay : Lay} {mem : Mem} {Q : Option Value → Lay → Mem → Prop} {x : Int32} {off : Int} {tgt : Nat} (hd : decode mi.2.1 pc = .ok (.ifCond .le off, 3)) (hp : pc + 3 = pc') (ht : (pc : Int) + off = (tgt : Int)) (Kt : x ≤ 0 → Sim z d kc ks mi tgt L S lay mem Q) (Kf : ¬ x ≤ 0 → Sim z d kc ks mi pc' L S lay mem Q) : Sim z d kc ks mi pc L (.int x :: S) lay mem Q := by
  intro p e R s m args below meth c D A rv H locs cells slots ls st ws X F hc hs h hL hS kk
  subst hp
  obtain ⟨w0, st0, rfl, v0, hT1⟩ := am_s.cons hS
  obtain rfl : w0 = .int x := v0
  exact lv_if_le F.1 F.2.1 hd ht (fun q => Kt q p e R s m args below meth c D A rv H locs cells slots ls _ ws X F hc hs h hL hT1 kk) (fun q => Kf q p e R s m args below meth c D A rv H locs cells slots ls _ ws X F hc hs h hL hT1 kk)

theorem s_icmp_le {z : Zz} {d kc ks : Nat} {mi : MI} {pc pc' : Nat} {L S : List Value} {lay : Lay} {mem : Mem} {Q : Option Value → Lay → Mem → Prop} {x y : Int32} {off : Int} {tgt : Nat} (hd : decode mi.2.1 pc = .ok (.if_icmp .le off, 3)) (hp : pc + 3 = pc') (ht : (pc : Int) + off = (tgt : Int)) (Kt : x ≤ y → Sim z d kc ks mi tgt L S lay mem Q) (Kf : ¬ x ≤ y → Sim z d kc ks mi pc' L S lay mem Q) : Sim z d kc ks mi pc L (.int y :: .int x :: S) lay mem Q := by
  intro p e R s m args below meth c D A rv H locs cells slots ls st ws X F hc hs h hL hS kk
  subst hp
  obtain ⟨w0, st0, rfl, v0, hT1⟩ := am_s.cons hS
  obtain rfl : w0 = .int y := v0
  obtain ⟨w1, st1, rfl, v1, hT2⟩ := am_s.cons hT1
  obtain rfl : w1 = .int x := v1
  exact lv_icmp_le F.1 F.2.1 hd ht (fun q => Kt q p e R s m args below meth c D A rv H locs cells slots ls _ ws X F hc hs h hL hT2 kk) (fun q => Kf q p e R s m args below meth c D A rv H locs cells slots ls _ ws X F hc hs h hL hT2 kk)

theorem s_if_ne {z : Zz} {d kc ks : Nat} {mi : MI} {pc pc' : Nat} {L S : List Value} {lay : Lay} {mem : Mem} {Q : Option Value → Lay → Mem → Prop} {x : Int32} {off : Int} {tgt : Nat} (hd : decode mi.2.1 pc = .ok (.ifCond .ne off, 3)) (hp : pc + 3 = pc') (ht : (pc : Int) + off = (tgt : Int)) (Kt : ¬ x = 0 → Sim z d kc ks mi tgt L S lay mem Q) (Kf : x = 0 → Sim z d kc ks mi pc' L S lay mem Q) : Sim z d kc ks mi pc L (.int x :: S) lay mem Q := by
  intro p e R s m args below meth c D A rv H locs cells slots ls st ws X F hc hs h hL hS kk
  subst hp
  obtain ⟨w0, st0, rfl, v0, hT1⟩ := am_s.cons hS
  obtain rfl : w0 = .int x := v0
  exact lv_if_ne F.1 F.2.1 hd ht (fun q => Kt q p e R s m args below meth c D A rv H locs cells slots ls _ ws X F hc hs h hL hT1 kk) (fun q => Kf q p e R s m args below meth c D A rv H locs cells slots ls _ ws X F hc hs h hL hT1 kk)

theorem s_icmp_ne {z : Zz} {d kc ks : Nat} {mi : MI} {pc pc' : Nat} {L S : List Value} {lay : Lay} {mem : Mem} {Q : Option Value → Lay → Mem → Prop} {x y : Int32} {off : Int} {tgt : Nat} (hd : decode mi.2.1 pc = .ok (.if_icmp .ne off, 3)) (hp : pc + 3 = pc') (ht : (pc : Int) + off = (tgt : Int)) (Kt : ¬ x = y → Sim z d kc ks mi tgt L S lay mem Q) (Kf : x = y → Sim z d kc ks mi pc' L S lay mem Q) : Sim z d kc ks mi pc L (.int y :: .int x :: S) lay mem Q := by
  intro p e R s m args below meth c D A rv H locs cells slots ls st ws X F hc hs h hL hS kk
  subst hp
  obtain ⟨w0, st0, rfl, v0, hT1⟩ := am_s.cons hS
  obtain rfl : w0 = .int y := v0
  obtain ⟨w1, st1, rfl, v1, hT2⟩ := am_s.cons hT1
  obtain rfl : w1 = .int x := v1
  exact lv_icmp_ne F.1 F.2.1 hd ht (fun q => Kt q p e R s m args below meth c D A rv H locs cells slots ls _ ws X F hc hs h hL hT2 kk) (fun q => Kf q p e R s m args below meth c D A rv H locs cells slots ls _ ws X F hc hs h hL hT2 kk)

theorem s_goto {z : Zz} {d kc ks : Nat} {mi : MI} {pc : Nat} {L S : List Value} {lay : Lay} {mem : Mem} {Q : Option Value → Lay → Mem → Prop} {off : Int} {tgt : Nat} (hd : decode mi.2.1 pc = .ok (.goto off, 3)) (ht : (pc : Int) + off = (tgt : Int)) (K : Sim z d kc ks mi tgt L S lay mem Q) : Sim z d kc ks mi pc L S lay mem Q := by
  intro p e R s m args below meth c D A rv H locs cells slots ls st ws X F hc hs h hL hS kk
  exact lv_goto F.1 F.2.1 hd ht (K p e R s m args below meth c D A rv H locs cells slots ls _ ws X F hc hs h hL hS kk)

theorem s_ifnonnull {z : Zz} {d kc ks : Nat} {mi : MI} {pc : Nat} {L S : List Value} {lay : Lay} {mem : Mem} {Q : Option Value → Lay → Mem → Prop} {off : Int} {tgt a : Nat} (hd : decode mi.2.1 pc = .ok (.ifnonnull off, 3)) (ht : (pc : Int) + off = (tgt : Int)) (K : Sim z d kc ks mi tgt L S lay mem Q) : Sim z d kc ks mi pc L (.ref a :: S) lay mem Q := by
  intro p e R s m args below meth c D A rv H locs cells slots ls st ws X F hc hs h hL hS kk
  obtain ⟨w, st, rfl, ⟨a, e9, -, rfl⟩, hT⟩ := am_s.cons hS
  exact lv_ifnonnull F.1 F.2.1 hd ht (K p e R s m args below meth c D A rv H locs cells slots ls _ ws X F hc hs h hL hT kk)

theorem s_ifnonnullN {z : Zz} {d kc ks : Nat} {mi : MI} {pc pc' : Nat} {L S : List Value} {lay : Lay} {mem : Mem} {Q : Option Value → Lay → Mem → Prop} {off : Int} (hd : decode mi.2.1 pc = .ok (.ifnonnull off, 3)) (hp : pc + 3 = pc') (K : Sim z d kc ks mi pc' L S lay mem Q) : Sim z d kc ks mi pc L (.null :: S) lay mem Q := by
  intro p e R s m args below meth c D A rv H locs cells slots ls st ws X F hc hs h hL hS kk
  subst hp
  obtain ⟨w, st, rfl, v, hT⟩ := am_s.cons hS
  obtain rfl : w = .null := v
  exact lv_ifnonnullN F.1 F.2.1 hd (K p e R s m args below meth c D A rv H locs cells slots ls _ ws X F hc hs h hL hT kk)

theorem s_tsOut {z : Zz} {d kc ks : Nat} {mi : MI} {pc : Nat} {L S : List Value} {lay : Lay} {mem : Mem} {Q : Option Value → Lay → Mem → Prop} {dflt lo hi : Int} {offs : Array Int} {len tgt : Nat} {x : Int32} (hd : decode mi.2.1 pc = .ok (.tableswitch dflt lo hi offs, len)) (hx : x.toInt < lo ∨ hi < x.toInt) (ht : (pc : Int) + dflt = (tgt : Int)) (K : Sim z d kc ks mi tgt L S lay mem Q) : Sim z d kc ks mi pc L (.int x :: S) lay mem Q := by
  intro p e R s m args below meth c D A rv H locs cells slots ls st ws X F hc hs h hL hS kk
  obtain ⟨w, st, rfl, v, hT⟩ := am_s.cons hS
  obtain rfl : w = .int x := v
  exact lv_tableOut F.1 F.2.1 hd hx ht (K p e R s m args below meth c D A rv H locs cells slots ls _ ws X F hc hs h hL hT kk)

theorem s_tsIn {z : Zz} {d kc ks : Nat} {mi : MI} {pc : Nat} {L S : List Value} {lay : Lay} {mem : Mem} {Q : Option Value → Lay → Mem → Prop} {dflt lo hi off : Int} {offs : Array Int} {len tgt : Nat} {x : Int32} (hd : decode mi.2.1 pc = .ok (.tableswitch dflt lo hi offs, len)) (h1 : ¬ x.toInt < lo) (h2 : ¬ hi < x.toInt) (ho : offs[(x.toInt - lo).toNat]? = some off) (ht : (pc : Int) + off = (tgt : Int)) (K : Sim z d kc ks mi tgt L S lay mem Q) : Sim z d kc ks mi pc L (.int x :: S) lay mem Q := by
  intro p e R s m args below meth c D A rv H locs cells slots ls st ws X F hc hs h hL hS kk
  obtain ⟨w, st, rfl, v, hT⟩ := am_s.cons hS
  obtain rfl : w = .int x := v
  exact lv_tableIn F.1 F.2.1 hd h1 h2 ho ht (K p e R s m args below meth c D A rv H locs cells slots ls _ ws X F hc hs h hL hT kk)

theorem s_ldc {z : Zz} {d kc ks : Nat} {mi : MI} {pc pc' : Nat} {L S : List Value} {lay : Lay} {mem : Mem} {Q : Option Value → Lay → Mem → Prop} {index : Nat} {v : Int32} (hd : decode mi.2.1 pc = .ok (.ldc index, 2)) (hp : pc + 2 = pc') (hw : Cond.constant mi.1.cls index v ∈ wok) (K : Sim z d kc ks mi pc' L (.int v :: S) lay mem Q) : Sim z d kc ks mi pc L S lay mem Q := by
  intro p e R s m args below meth c D A rv H locs cells slots ls st ws X F hc hs h hL hS kk
  subst hp
  exact lv_ldc F.1 F.2.1 F.2.2.2.2.1 (F.2.2.2.2.2.1 _ hw) hd (K p e R s m args below meth c D A rv H locs cells slots ls _ ws X F hc hs h hL ⟨rfl, hS⟩ kk)

theorem s_ldcw {z : Zz} {d kc ks : Nat} {mi : MI} {pc pc' : Nat} {L S : List Value} {lay : Lay} {mem : Mem} {Q : Option Value → Lay → Mem → Prop} {index : Nat} {v : Int32} (hd : decode mi.2.1 pc = .ok (.ldc_w index, 3)) (hp : pc + 3 = pc') (hw : Cond.constant mi.1.cls index v ∈ wok) (K : Sim z d kc ks mi pc' L (.int v :: S) lay mem Q) : Sim z d kc ks mi pc L S lay mem Q := by
  intro p e R s m args below meth c D A rv H locs cells slots ls st ws X F hc hs h hL hS kk
  subst hp
  exact lv_ldcw F.1 F.2.1 F.2.2.2.2.1 (F.2.2.2.2.2.1 _ hw) hd (K p e R s m args below meth c D A rv H locs cells slots ls _ ws X F hc hs h hL ⟨rfl, hS⟩ kk)

theorem s_ldc2 {z : Zz} {d kc ks : Nat} {mi : MI} {pc pc' : Nat} {L S : List Value} {lay : Lay} {mem : Mem} {Q : Option Value → Lay → Mem → Prop} {index : Nat} {v : Int64} (hd : decode mi.2.1 pc = .ok (.ldc2_w index, 3)) (hp : pc + 3 = pc') (hw : Cond.constantLong mi.1.cls index v ∈ wok) (K : Sim z d kc ks mi pc' L (.long v :: S) lay mem Q) : Sim z d kc ks mi pc L S lay mem Q := by
  intro p e R s m args below meth c D A rv H locs cells slots ls st ws X F hc hs h hL hS kk
  subst hp
  exact lv_ldc2 F.1 F.2.1 F.2.2.2.2.1 (F.2.2.2.2.2.1 _ hw) hd (K p e R s m args below meth c D A rv H locs cells slots ls _ ws X F hc hs h hL ⟨rfl, hS⟩ kk)

theorem s_iret {z : Zz} {d kc ks : Nat} {mi : MI} {pc : Nat} {L : List Value} {lay : Lay} {mem : Mem} {Q : Option Value → Lay → Mem → Prop} {x : Int32} (hd : decode mi.2.1 pc = .ok (.ireturn, 1)) {ty : FieldType} (hty : mi.2.2.2 = some ty) (hn : narrow ty (.int x) = .int x) (hq : Q (some (.int x)) lay mem) : Sim z d kc ks mi pc L [.int x] lay mem Q := by
  intro p e R s m args below meth c D A rv H locs cells slots ls st ws X F hc hs h hL hS kk
  obtain ⟨w, st, rfl, v, hT⟩ := am_s.cons hS
  obtain rfl : w = .int x := v
  obtain rfl := am_s.nil hT
  refine W.widen (k := cells + kc) (n := slots + ks) (Nat.le_add_right _ _) (Nat.le_add_right _ _) ?_
  exact kk (some (.int x)) lay mem H locs ws pc ls (some (.int x)) hq h am_ex.rf ⟨hd, ty, hty, hn⟩ rfl

theorem s_lret {z : Zz} {d kc ks : Nat} {mi : MI} {pc : Nat} {L : List Value} {lay : Lay} {mem : Mem} {Q : Option Value → Lay → Mem → Prop} {x : Int64} (hd : decode mi.2.1 pc = .ok (.lreturn, 1)) (hty : mi.2.2.2 = some .long) (hq : Q (some (.long x)) lay mem) : Sim z d kc ks mi pc L [.long x] lay mem Q := by
  intro p e R s m args below meth c D A rv H locs cells slots ls st ws X F hc hs h hL hS kk
  obtain ⟨w, st, rfl, v, hT⟩ := am_s.cons hS
  obtain rfl : w = .long x := v
  obtain rfl := am_s.nil hT
  refine W.widen (k := cells + kc) (n := slots + ks) (Nat.le_add_right _ _) (Nat.le_add_right _ _) ?_
  exact kk (some (.long x)) lay mem H locs ws pc ls (some (.long x)) hq h am_ex.rf ⟨hd, hty⟩ rfl

theorem s_vret {z : Zz} {d kc ks : Nat} {mi : MI} {pc : Nat} {L : List Value} {lay : Lay} {mem : Mem} {Q : Option Value → Lay → Mem → Prop}  (hd : decode mi.2.1 pc = .ok (.return_, 1)) (hty : mi.2.2.2 = none) (hq : Q (none) lay mem) : Sim z d kc ks mi pc L [] lay mem Q := by
  intro p e R s m args below meth c D A rv H locs cells slots ls st ws X F hc hs h hL hS kk
  obtain rfl := am_s.nil hS
  refine W.widen (k := cells + kc) (n := slots + ks) (Nat.le_add_right _ _) (Nat.le_add_right _ _) ?_
  exact kk none lay mem H locs ws pc ls none hq h am_ex.rf ⟨hd, hty⟩ trivial

theorem s_aret {z : Zz} {d kc ks : Nat} {mi : MI} {pc : Nat} {L : List Value} {lay : Lay} {mem : Mem} {Q : Option Value → Lay → Mem → Prop} {v : Value} (hd : decode mi.2.1 pc = .ok (.areturn, 1)) {rt : FieldType} (hty : mi.2.2.2 = some rt) (hrt : (∃ n, rt = .object n) ∨ ∃ t, rt = .array t) (hr : am_isA v = true) (hq : Q (some v) lay mem) : Sim z d kc ks mi pc L [v] lay mem Q := by
  intro p e R s m args below meth c D A rv H locs cells slots ls st ws X F hc hs h hL hS kk
  obtain ⟨w, st, rfl, hv, hT⟩ := am_s.cons hS
  obtain rfl := am_s.nil hT
  refine W.widen (k := cells + kc) (n := slots + ks) (Nat.le_add_right _ _) (Nat.le_add_right _ _) ?_
  refine kk (some v) lay mem H locs ws pc ls (some w) hq h am_ex.rf ?_ hv
  cases v <;> first | exact ⟨hd, rt, hty, hrt⟩ | cases hr

theorem Sim.up {z : Zz} {d d2 kc ks kc2 ks2 : Nat} {mi : MI} {pc : Nat} {L S : List Value} {lay : Lay} {mem : Mem} {Q Q2 : Option Value → Lay → Mem → Prop} (h : Sim z d kc ks mi pc L S lay mem Q) (hd : d ≤ d2) (hc : kc ≤ kc2) (hs : ks ≤ ks2) (hQ : ∀ r lay' mem', Q r lay' mem' → Q2 r lay' mem') : Sim z d2 kc2 ks2 mi pc L S lay mem Q2 := by
  intro p e R s m args below meth c D A rv H locs cells slots ls st ws X F h1 h2 hh hL hS kk
  obtain ⟨f1, f2, f3, f4, f5, f6, f7, f8, f9, f10, f11, f12, f13⟩ := F
  refine h p e R s m args below meth c D A rv H locs cells slots ls st ws X ⟨f1, f2, f3, f4, f5, f6, f7, f8, by omega, by omega, f11, f12, f13⟩ (by omega) (by omega) hh hL hS ?_
  intro r lay' mem' H' locs' ws' pc' ls' rw q a b c9 d9
  exact W.widen (by omega) (by omega) (kk r lay' mem' H' locs' ws' pc' ls' rw (hQ _ _ _ q) a b c9 d9)

