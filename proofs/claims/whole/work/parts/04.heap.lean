/-! ===== rules over the heap ===== -/
def am_up (mem : Mem) (id k : Nat) (x : Int32) : Mem := fun j => if j = id then upd (mem id) k x else mem j
def am_nw (mem : Mem) (id : Nat) : Mem := fun j => if j = id then fun _ => 0 else mem j
def am_ur (lay : Lay) (id k : Nat) (v : Value) : Lay := match lay[id]? with
  | some c => lay.set id (c.1, c.2.1, va_up c.2.2 k v)
  | none => lay
theorem am_cl8 {ci : Nat} {q : vw_C} (h : classes[ci]? = some q) : ci < 8 := (List.getElem?_eq_some_iff.mp h).1
theorem am_uws {ci N : Nat} {C : String} {T : u_T} (h : classes[ci]? = some (C, T, N)) : ∀ w ∈ u_ws C T N, w ∈ wok := by
  intro w hw
  refine List.mem_filter.mpr ⟨?_, ?_⟩
  · have h8 := am_cl8 h
    match ci, h8, h with
    | 0, _, h => cases h; exact iX0 w hw
    | 1, _, h => cases h; exact iX1 w hw
    | 2, _, h => cases h; exact iX2 w hw
    | 3, _, h => cases h; exact iX3 w hw
    | 4, _, h => cases h; exact iX4 w hw
    | 5, _, h => cases h; exact iX5 w hw
    | 6, _, h => cases h; exact iX6 w hw
    | 7, _, h => cases h; exact iX7 w hw
  · obtain ⟨k, -, rfl⟩ := List.mem_map.mp hw
    unfold u_lay
    split <;> rfl
theorem am_tyn {ci N : Nat} {C : String} {T : u_T} (h : classes[ci]? = some (C, T, N)) : ∃ ty0 : Nat → FieldType, (∀ k, k < N → parseFieldDescriptor (T k).2.2.1 = some (ty0 k)) ∧ ∀ a, a < N → ∀ b, b < N → a ≠ b → (T a).2.1 ≠ (T b).2.1 := by
  have h8 := am_cl8 h
  match ci, h8, h with
  | 0, _, h => cases h; exact ⟨_, tyX0_ok, nmX0⟩
  | 1, _, h => cases h; exact ⟨_, tyX1_ok, nmX1⟩
  | 2, _, h => cases h; exact ⟨_, tyX2_ok, nmX2⟩
  | 3, _, h => cases h; exact ⟨_, tyX3_ok, nmX3⟩
  | 4, _, h => cases h; exact ⟨_, tyX4_ok, nmX4⟩
  | 5, _, h => cases h; exact ⟨_, tyX5_ok, nmX5⟩
  | 6, _, h => cases h; exact ⟨_, tyX6_ok, nmX6⟩
  | 7, _, h => cases h; exact ⟨_, tyX7_ok, nmX7⟩
theorem am_K1 {D : va_G} {s : State} {cA : ClassId} {ty : FieldType} (h : va_K D classes [] s) (h1 : ArrOfT s cA ty) (h2 : va_RA s cA ty) : va_K D classes [(cA, ty)] s :=
  ⟨h.1, fun k q hk => by
    match k, hk with
    | 0, hk => cases hk; exact ⟨h1, h2⟩
    | k + 1, hk => simp at hk⟩
/-- one cell changes its contents, not its address -/
theorem am_ex.set {ws : va_W} {id a : Nat} {e e' : va_E} (h : ws[id]? = some (a, e)) : am_ex ws (ws.set id (a, e')) := by
  intro k b f hk
  by_cases hq : k = id
  · subst hq
    cases h.symm.trans hk
    exact ⟨e', List.getElem?_set_self (List.getElem?_eq_some_iff.mp h).1⟩
  · exact ⟨f, by rw [List.getElem?_set_ne (Ne.symm hq)]; exact hk⟩
theorem am_ex.push {ws : va_W} {q : Nat × va_E} : am_ex ws (ws ++ [q]) := by
  intro k b f hk
  exact ⟨f, by rw [List.getElem?_append_left (List.getElem?_eq_some_iff.mp hk).1]; exact hk⟩
theorem am_m.set {s : State} {rv : Nat → Value} {ws : va_W} {lay lay' : Lay} {mem mem' : Mem} {id a : Nat} {e e' : va_E} {c c' : Nat × Nat × (Nat → Value)} (h : am_m s rv ws lay mem) (hc : lay[id]? = some c) (hw : ws[id]? = some (a, e)) (hl : lay' = lay.set id c') (hm : ∀ j, j ≠ id → mem' j = mem j) (he : am_e s rv (ws.set id (a, e')) c' (mem' id) e') : am_m s rv (ws.set id (a, e')) lay' mem' := by
  subst hl
  refine ⟨by rw [List.length_set, List.length_set]; exact h.1, fun k c2 hk => ?_⟩
  by_cases hq : k = id
  · subst hq
    rw [List.getElem?_set_self (List.getElem?_eq_some_iff.mp hc).1] at hk
    cases hk
    exact ⟨a, e', List.getElem?_set_self (List.getElem?_eq_some_iff.mp hw).1, he⟩
  · rw [List.getElem?_set_ne (Ne.symm hq)] at hk
    obtain ⟨b, f, h1, h2⟩ := h.2 k c2 hk
    refine ⟨b, f, by rw [List.getElem?_set_ne (Ne.symm hq)]; exact h1, ?_⟩
    rw [hm k hq]
    exact h2.mono (am_ex.set hw)
theorem am_m.push {s : State} {rv : Nat → Value} {ws : va_W} {lay : Lay} {mem mem' : Mem} {a : Nat} {e : va_E} {c : Nat × Nat × (Nat → Value)} (h : am_m s rv ws lay mem) (hm : ∀ j, j ≠ lay.length → mem' j = mem j) (he : am_e s rv (ws ++ [(a, e)]) c (mem' lay.length) e) : am_m s rv (ws ++ [(a, e)]) (lay ++ [c]) mem' := by
  refine ⟨by rw [List.length_append, List.length_append, h.1]; rfl, fun k c2 hk => ?_⟩
  by_cases hq : k < lay.length
  · rw [List.getElem?_append_left hq] at hk
    obtain ⟨b, f, h1, h2⟩ := h.2 k c2 hk
    refine ⟨b, f, by rw [List.getElem?_append_left (by rw [h.1]; exact hq)]; exact h1, ?_⟩
    rw [hm k (by omega)]
    exact h2.mono am_ex.push
  · have hk2 := (List.getElem?_eq_some_iff.mp hk).1
    rw [List.length_append] at hk2
    have hk3 : k = lay.length := by simp at hk2; omega
    subst hk3
    rw [List.getElem?_append_right (Nat.le_refl _), Nat.sub_self] at hk
    cases hk
    refine ⟨a, e, ?_, he⟩
    rw [List.getElem?_append_right (by rw [h.1]; exact Nat.le_refl _), h.1, Nat.sub_self]
    rfl
theorem am_set_self {α : Type} {l : List α} {i : Nat} {c : α} (h : l[i]? = some c) : l.set i c = l := by
  refine List.ext_getElem? fun j => ?_
  by_cases hj : j = i
  · subst hj
    rw [List.getElem?_set_self (List.getElem?_eq_some_iff.mp h).1, h]
  · rw [List.getElem?_set_ne (Ne.symm hj)]
/-- field links -/
def am_fl (own : String) (idx ci k : Nat) : Prop := ∃ (C : String) (T : u_T) (N : Nat), classes[ci]? = some (C, T, N) ∧ k < N ∧ Cond.fieldLink own idx (T k).1 (T k).2.1 (T k).2.2.1 ∈ wok
def am_fw (ci k : Nat) (fin : Bool) (ds : String) : Prop := ∃ (C : String) (T : u_T) (N : Nat), classes[ci]? = some (C, T, N) ∧ (T k).2.2.2 = fin ∧ (T k).2.2.1 = ds ∧ (T k).1 = C
section HR
variable {z : Zz} {d kc ks : Nat} {mi : MI} {pc pc' : Nat} {L S : List Value} {lay : Lay} {mem : Mem} {Q : Option Value → Lay → Mem → Prop}
theorem am_obj {s : State} {D : va_G} {A : Nat → Prop} {H : Heap} {locs : List Loc} {rv : Nat → Value} {ws : va_W} {ci n id : Nat} {rf : Nat → Value} {q : vw_C} (h : am_h D A s H locs rv ws lay mem) (hq : classes[ci]? = some q) (hc : lay[id]? = some (ci, n, rf)) :
    ∃ (a : Nat) (fs : List Value), ws[id]? = some (a, .inr (ci, fs)) ∧ fs.length = n ∧ ∀ j, j < n → ∃ w, fs[j]? = some w ∧ (if am_isR ci j = true then am_v rv ws (rf j) w else w = .int (mem id j)) := by
  obtain ⟨a, e, hw, he⟩ := h.2.2.2.2 id _ hc
  unfold am_e at he
  rw [if_pos (am_cl8 hq)] at he
  obtain ⟨fs, rfl, h1, h2⟩ := he
  exact ⟨a, fs, hw, h1, h2⟩
theorem am_arr {s : State} {D : va_G} {A : Nat → Prop} {H : Heap} {locs : List Loc} {rv : Nat → Value} {ws : va_W} {tg n id : Nat} {rf : Nat → Value} (h : am_h D A s H locs rv ws lay mem) (hq : 8 ≤ tg ∧ tg < 11) (hc : lay[id]? = some (tg, n, rf)) :
    ∃ (a : Nat) (cA : ClassId), ws[id]? = some (a, .inl (cA, n, .inl (mem id))) ∧ ArrOfT s cA (am_aty tg) ∧ va_RA s cA (am_aty tg) := by
  obtain ⟨a, e, hw, he⟩ := h.2.2.2.2 id _ hc
  unfold am_e at he
  rw [if_neg (show ¬ tg < 8 by omega), if_pos hq.2] at he
  obtain ⟨cA, rfl, h1, h2⟩ := he
  exact ⟨a, cA, hw, h1, h2⟩
theorem am_arq {s : State} {D : va_G} {A : Nat → Prop} {H : Heap} {locs : List Loc} {rv : Nat → Value} {ws : va_W} {tg n id : Nat} {rf : Nat → Value} (h : am_h D A s H locs rv ws lay mem) (hq : 11 ≤ tg) (hc : lay[id]? = some (tg, n, rf)) :
    ∃ (a : Nat) (cA : ClassId) (g : Nat → Option Nat), ws[id]? = some (a, .inl (cA, n, .inr (.inr (.inr (.inr g))))) ∧ ArrOfT s cA (.object (am_acl tg)) ∧ va_RA s cA (.object (am_acl tg)) ∧ ∀ j, j < n → am_v rv ws (rf j) (va_rf (g j)) := by
  obtain ⟨a, e, hw, he⟩ := h.2.2.2.2 id _ hc
  unfold am_e at he
  rw [if_neg (show ¬ tg < 8 by omega), if_neg (show ¬ tg < 11 by omega)] at he
  obtain ⟨cA, g, rfl, h1, h2, h3⟩ := he
  exact ⟨a, cA, g, hw, h1, h2, h3⟩
theorem s_getI {idx ci k n id : Nat} {rf : Nat → Value} (hd : decode mi.2.1 pc = .ok (.getfield idx, 3)) (hp : pc + 3 = pc') (hf : am_fl mi.1.cls idx ci k) (hc : lay[id]? = some (ci, n, rf)) (hk : k < n) (hr : am_isR ci k = false) (K : Sim z d kc ks mi pc' L (.int (mem id k) :: S) lay mem Q) : Sim z d kc ks mi pc L (.ref id :: S) lay mem Q := by
  intro p e R s m args below meth c D A rv H locs cells slots ls st ws X F hc1 hs h hL hS kk
  subst hp
  obtain ⟨C, T, N, hq, hkN, hlk⟩ := hf
  obtain ⟨a, fs, hw, hlen, hfs⟩ := am_obj h hq hc
  obtain ⟨w0, st0, rfl, v0, hT⟩ := am_s.cons hS
  obtain ⟨a2, e2, hw2, rfl⟩ := v0
  cases hw.symm.trans hw2
  obtain ⟨w, hfw, hv⟩ := hfs k hk
  rw [if_neg (by rw [hr]; decide)] at hv
  subst hv
  exact va_get F.1 F.2.1 F.2.2.2.2.2.1 (am_uws hq) F.2.2.2.2.1 F.2.2.2.2.2.2.2.2.2.2.1 h.1 id hw hq k hkN (F.2.2.2.2.2.1 _ hlk) (fun _ h9 => h9) hfw hd (K p e R s m args below meth c D A rv H locs cells slots ls _ ws X F hc1 hs h hL ⟨rfl, hT⟩ kk)
theorem s_getR {idx ci k n id : Nat} {rf : Nat → Value} (hd : decode mi.2.1 pc = .ok (.getfield idx, 3)) (hp : pc + 3 = pc') (hf : am_fl mi.1.cls idx ci k) (hc : lay[id]? = some (ci, n, rf)) (hk : k < n) (hr : am_isR ci k = true) (K : Sim z d kc ks mi pc' L (rf k :: S) lay mem Q) : Sim z d kc ks mi pc L (.ref id :: S) lay mem Q := by
  intro p e R s m args below meth c D A rv H locs cells slots ls st ws X F hc1 hs h hL hS kk
  subst hp
  obtain ⟨C, T, N, hq, hkN, hlk⟩ := hf
  obtain ⟨a, fs, hw, hlen, hfs⟩ := am_obj h hq hc
  obtain ⟨w0, st0, rfl, v0, hT⟩ := am_s.cons hS
  obtain ⟨a2, e2, hw2, rfl⟩ := v0
  cases hw.symm.trans hw2
  obtain ⟨w, hfw, hv⟩ := hfs k hk
  rw [if_pos hr] at hv
  exact va_get F.1 F.2.1 F.2.2.2.2.2.1 (am_uws hq) F.2.2.2.2.1 F.2.2.2.2.2.2.2.2.2.2.1 h.1 id hw hq k hkN (F.2.2.2.2.2.1 _ hlk) (fun _ h9 => h9) hfw hd (K p e R s m args below meth c D A rv H locs cells slots ls _ ws X F hc1 hs h hL ⟨hv, hT⟩ kk)
theorem am_putI {s : State} {rv : Nat → Value} {ws : va_W} {ci k n id a : Nat} {rf : Nat → Value} {fs : List Value} {x : Int32} (hm : am_m s rv ws lay mem) (h8 : ci < 8) (hc : lay[id]? = some (ci, n, rf)) (hr : am_isR ci k = false) (hw : ws[id]? = some (a, .inr (ci, fs))) (hlen : fs.length = n) (hfs : ∀ j, j < n → ∃ w, fs[j]? = some w ∧ (if am_isR ci j = true then am_v rv ws (rf j) w else w = .int (mem id j))) : am_m s rv (ws.set id (a, .inr (ci, fs.set k (.int x)))) lay (am_up mem id k x) := by
  refine hm.set hc hw (c' := (ci, n, rf)) ?_ (fun j hj => if_neg hj) ?_
  · exact (am_set_self hc).symm
  · unfold am_e
    rw [if_pos h8]
    refine ⟨_, rfl, by rw [List.length_set]; exact hlen, fun j hj => ?_⟩
    by_cases hjk : j = k
    · subst hjk
      refine ⟨.int x, List.getElem?_set_self (by rw [hlen]; exact hj), ?_⟩
      rw [if_neg (by rw [hr]; decide)]
      simp [am_up, upd]
    · obtain ⟨w, h1, h2⟩ := hfs j hj
      refine ⟨w, by rw [List.getElem?_set_ne (Ne.symm hjk)]; exact h1, ?_⟩
      split at h2
      · rename_i h3
        rw [if_pos h3]; exact h2.mono (am_ex.set hw)
      · rename_i h3
        rw [if_neg h3, h2]; simp [am_up, upd, hjk]
theorem s_putI {idx ci k n id : Nat} {rf : Nat → Value} {x : Int32} {ds : String} {ty : FieldType} (hd : decode mi.2.1 pc = .ok (.putfield idx, 3)) (hp : pc + 3 = pc') (hf : am_fl mi.1.cls idx ci k) (hfw : am_fw ci k false ds) (hty : parseFieldDescriptor ds = some ty) (hn : narrow ty (.int x) = .int x) (hfit : fits ty (.int x) = true) (hc : lay[id]? = some (ci, n, rf)) (hk : k < n) (hr : am_isR ci k = false) (K : Sim z d kc ks mi pc' L S lay (am_up mem id k x) Q) : Sim z d kc ks mi pc L (.int x :: .ref id :: S) lay mem Q := by
  intro p e R s m args below meth c D A rv H locs cells slots ls st ws X F hc1 hs h hL hS kk
  subst hp
  obtain ⟨C, T, N, hq, hkN, hlk⟩ := hf
  obtain ⟨C2, T2, N2, hq2, hfin, hds, hcl⟩ := hfw
  cases hq.symm.trans hq2
  obtain ⟨a, fs, hw, hlen, hfs⟩ := am_obj h hq hc
  obtain ⟨w0, st0, rfl, v0, hT⟩ := am_s.cons hS
  obtain rfl : w0 = .int x := v0
  obtain ⟨w1, st1, rfl, v1, hT1⟩ := am_s.cons hT
  obtain ⟨a2, e2, hw2, rfl⟩ := v1
  cases hw.symm.trans hw2
  obtain ⟨ty0, ht0, hnm⟩ := am_tyn hq
  refine va_put F.1 F.2.1 F.2.2.2.2.2.1 (am_uws hq) ty0 ht0 hnm F.2.2.2.2.1 F.2.2.2.2.2.2.2.2.2.2.1 h.1 h.2.1 h.2.2.1 id hw hq k hkN (F.2.2.2.2.2.1 _ hlk) (fun _ h9 => h9) hfin (by rw [hds]; exact hty) hn hfit (by rw [hlen]; exact hk) hd (fun H1 locs1 hP hD hS1 => ?_)
  have hx := am_ex.set (e' := .inr (ci, fs.set k (.int x))) hw
  exact K p e R s m args below meth c D A rv H1 locs1 cells slots ls _ _ X F hc1 hs ⟨hP, hD, hS1, am_putI h.2.2.2 (am_cl8 hq) hc hr hw hlen hfs⟩ (hL.mono hx) (hT1.mono hx) (fun r lay' mem' H' locs' ws' pc' ls' rw q1 q2 q3 q4 q5 => kk r lay' mem' H' locs' ws' pc' ls' rw q1 q2 (hx.tr q3) q4 q5)
theorem s_putIF {idx ci k n id : Nat} {rf : Nat → Value} {x : Int32} (hd : decode mi.2.1 pc = .ok (.putfield idx, 3)) (hp : pc + 3 = pc') (hf : am_fl mi.1.cls idx ci k) (hfw : am_fw ci k true "I") (hin : mi.1.name = "<init>") (hown : ∃ T N, classes[ci]? = some (mi.1.cls, T, N)) (hc : lay[id]? = some (ci, n, rf)) (hk : k < n) (hr : am_isR ci k = false) (K : Sim z d kc ks mi pc' L S lay (am_up mem id k x) Q) : Sim z d kc ks mi pc L (.int x :: .ref id :: S) lay mem Q := by
  intro p e R s m args below meth c D A rv H locs cells slots ls st ws X F hc1 hs h hL hS kk
  subst hp
  obtain ⟨C, T, N, hq, hkN, hlk⟩ := hf
  obtain ⟨C2, T2, N2, hq2, hfin, hds, hcl⟩ := hfw
  cases hq.symm.trans hq2
  obtain ⟨T3, N3, hq3⟩ := hown
  cases hq.symm.trans hq3
  obtain ⟨a, fs, hw, hlen, hfs⟩ := am_obj h hq hc
  obtain ⟨w0, st0, rfl, v0, hT⟩ := am_s.cons hS
  obtain rfl : w0 = .int x := v0
  obtain ⟨w1, st1, rfl, v1, hT1⟩ := am_s.cons hT
  obtain ⟨a2, e2, hw2, rfl⟩ := v1
  cases hw.symm.trans hw2
  obtain ⟨ty0, ht0, hnm⟩ := am_tyn hq
  refine va_putF (ty := .int) F.1 F.2.1 F.2.2.2.2.2.1 (am_uws hq) ty0 ht0 hnm F.2.2.2.2.1 F.2.2.2.2.2.2.2.2.2.2.1 h.1 h.2.1 h.2.2.1 id hw hq k hkN (F.2.2.2.2.2.1 _ hlk) (fun _ h9 => h9) hfin (F.2.2.2.2.2.2.2.1 hin) hcl (by rw [hds]; decide +kernel) rfl rfl (by rw [hlen]; exact hk) hd (fun H1 locs1 hP hD hS1 => ?_)
  have hx := am_ex.set (e' := .inr (ci, fs.set k (.int x))) hw
  exact K p e R s m args below meth c D A rv H1 locs1 cells slots ls _ _ X F hc1 hs ⟨hP, hD, hS1, am_putI h.2.2.2 (am_cl8 hq) hc hr hw hlen hfs⟩ (hL.mono hx) (hT1.mono hx) (fun r lay' mem' H' locs' ws' pc' ls' rw q1 q2 q3 q4 q5 => kk r lay' mem' H' locs' ws' pc' ls' rw q1 q2 (hx.tr q3) q4 q5)
/-- a final reference field, in the constructor -/
theorem s_putR {idx ci k n id : Nat} {rf : Nat → Value} {v : Value} {ds : String} {ty : FieldType} (hd : decode mi.2.1 pc = .ok (.putfield idx, 3)) (hp : pc + 3 = pc') (hf : am_fl mi.1.cls idx ci k) (hfw : am_fw ci k true ds) (hty : parseFieldDescriptor ds = some ty) (hrt : (∃ n, ty = .object n) ∨ ∃ t, ty = .array t) (hin : mi.1.name = "<init>") (hown : ∃ T N, classes[ci]? = some (mi.1.cls, T, N)) (hv : am_isA v = true) (hc : lay[id]? = some (ci, n, rf)) (hk : k < n) (hr : am_isR ci k = true) (K : Sim z d kc ks mi pc' L S (lay.set id (ci, n, va_up rf k v)) mem Q) : Sim z d kc ks mi pc L (v :: .ref id :: S) lay mem Q := by
  intro p e R s m args below meth c D A rv H locs cells slots ls st ws X F hc1 hs h hL hS kk
  subst hp
  obtain ⟨C, T, N, hq, hkN, hlk⟩ := hf
  obtain ⟨C2, T2, N2, hq2, hfin, hds, hcl⟩ := hfw
  cases hq.symm.trans hq2
  obtain ⟨T3, N3, hq3⟩ := hown
  cases hq.symm.trans hq3
  obtain ⟨a, fs, hw, hlen, hfs⟩ := am_obj h hq hc
  obtain ⟨w0, st0, rfl, v0, hT⟩ := am_s.cons hS
  obtain ⟨w1, st1, rfl, v1, hT1⟩ := am_s.cons hT
  obtain ⟨a2, e2, hw2, rfl⟩ := v1
  cases hw.symm.trans hw2
  obtain ⟨ty0, ht0, hnm⟩ := am_tyn hq
  have hnf : narrow ty w0 = w0 ∧ fits ty w0 = true := by
    rcases am_isA_w hv v0 with rfl | ⟨b, rfl⟩ <;> rcases hrt with ⟨q, rfl⟩ | ⟨q, rfl⟩ <;> exact ⟨rfl, rfl⟩
  refine va_putF (ty := ty) F.1 F.2.1 F.2.2.2.2.2.1 (am_uws hq) ty0 ht0 hnm F.2.2.2.2.1 F.2.2.2.2.2.2.2.2.2.2.1 h.1 h.2.1 h.2.2.1 id hw hq k hkN (F.2.2.2.2.2.1 _ hlk) (fun _ h9 => h9) hfin (F.2.2.2.2.2.2.2.1 hin) hcl (by rw [hds]; exact hty) hnf.1 hnf.2 (by rw [hlen]; exact hk) hd (fun H1 locs1 hP hD hS1 => ?_)
  have hx := am_ex.set (e' := .inr (ci, fs.set k w0)) hw
  have hm : am_m s rv (ws.set id (a, .inr (ci, fs.set k w0))) (lay.set id (ci, n, va_up rf k v)) mem := by
    refine h.2.2.2.set hc hw rfl (fun _ _ => rfl) ?_
    unfold am_e
    rw [if_pos (am_cl8 hq)]
    refine ⟨_, rfl, by rw [List.length_set]; exact hlen, fun j hj => ?_⟩
    by_cases hjk : j = k
    · subst hjk
      refine ⟨w0, List.getElem?_set_self (by rw [hlen]; exact hj), ?_⟩
      rw [if_pos hr]
      show am_v _ _ (va_up rf j v j) w0
      rw [show va_up rf j v j = v from if_pos rfl]
      exact v0.mono hx
    · obtain ⟨w, h1, h2⟩ := hfs j hj
      refine ⟨w, by rw [List.getElem?_set_ne (Ne.symm hjk)]; exact h1, ?_⟩
      split at h2
      · rename_i h3
        rw [if_pos h3]
        show am_v _ _ (va_up rf k v j) w
        rw [show va_up rf k v j = rf j from if_neg hjk]
        exact h2.mono hx
      · rename_i h3
        rw [if_neg h3]; exact h2
  exact K p e R s m args below meth c D A rv H1 locs1 cells slots ls _ _ X F hc1 hs ⟨hP, hD, hS1, hm⟩ (hL.mono hx) (hT1.mono hx) (fun r lay' mem' H' locs' ws' pc' ls' rw q1 q2 q3 q4 q5 => kk r lay' mem' H' locs' ws' pc' ls' rw q1 q2 (hx.tr q3) q4 q5)
end HR
