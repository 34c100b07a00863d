/-! ===== the abstract judgement: definitions ===== -/
abbrev Lay : Type := List (Nat × Nat × (Nat → Value))
abbrev Mem : Type := Nat → Nat → Int32
abbrev Zz : Type := Launch × Nat × (Nat → Int32)
def wok : List Cond := lw_tbl.filter goodWord
theorem mem_wok {w : Cond} (p : Nat) (h : lw_tbl[p]? = some w) (hg : goodWord w = true) : w ∈ wok := List.mem_filter.mpr ⟨List.mem_of_getElem? h, hg⟩
theorem wok_good : ∀ w ∈ wok, goodWord w = true := fun w h => (List.mem_filter.mp h).2
theorem wok_tbl : ∀ w ∈ wok, w ∈ lw_tbl := fun w h => (List.mem_filter.mp h).1
def am_ws (mi : MI) : List Cond := Cond.code mi.1 mi.2.1 mi.2.2.1 mi.2.2.2 :: wok
/-- abstract values and the machine's -/
def am_v (rv : Nat → Value) (ws : va_W) (v w : Value) : Prop := match v with
  | .int x => w = .int x
  | .long x => w = .long x
  | .null => w = .null
  | .ref k => ∃ (a : Nat) (e : va_E), ws[k]? = some (a, e) ∧ w = .ref a
  | .retAddr n => w = rv n ∧ (w = .null ∨ ∃ a, w = .ref a)
  | _ => False
def am_ex (ws ws' : va_W) : Prop := ∀ (k a : Nat) (e : va_E), ws[k]? = some (a, e) → ∃ e', ws'[k]? = some (a, e')
theorem am_ex.rf {ws : va_W} : am_ex ws ws := fun _ _ e h => ⟨e, h⟩
theorem am_ex.tr {a b c : va_W} (h1 : am_ex a b) (h2 : am_ex b c) : am_ex a c := fun k x e h => by
  obtain ⟨e', h'⟩ := h1 k x e h
  exact h2 k x e' h'
theorem am_v.mono {rv : Nat → Value} {ws ws' : va_W} {v w : Value} (h : am_v rv ws v w) (hx : am_ex ws ws') : am_v rv ws' v w := by
  cases v with
  | ref k =>
    obtain ⟨a, e, h1, h2⟩ := h
    obtain ⟨e', h'⟩ := hx k a e h1
    exact ⟨a, e', h', h2⟩
  | _ => exact h
theorem am_v.cat {rv : Nat → Value} {ws : va_W} {v w : Value} (h : am_v rv ws v w) : w.category = v.category := by
  cases v with
  | ref k => obtain ⟨a, e, h1, h2⟩ := h; subst h2; rfl
  | int x => cases h; rfl
  | long x => cases h; rfl
  | null => cases h; rfl
  | retAddr n => rcases h with ⟨-, rfl | ⟨a, rfl⟩⟩ <;> rfl
  | float _ => cases h
  | double _ => cases h
def am_s (rv : Nat → Value) (ws : va_W) : List Value → List Value → Prop
  | [], [] => True
  | v :: S, w :: st => am_v rv ws v w ∧ am_s rv ws S st
  | _, _ => False
theorem am_s.mono {rv : Nat → Value} {ws ws' : va_W} (hx : am_ex ws ws') : ∀ {S st : List Value}, am_s rv ws S st → am_s rv ws' S st
  | [], [], _ => trivial
  | _ :: _, _ :: _, h => ⟨h.1.mono hx, am_s.mono hx h.2⟩
  | [], _ :: _, h => h.elim
  | _ :: _, [], h => h.elim
theorem am_s.nil {rv : Nat → Value} {ws : va_W} {st : List Value} (h : am_s rv ws [] st) : st = [] := by
  cases st with
  | nil => rfl
  | cons _ _ => exact h.elim
theorem am_s.cons {rv : Nat → Value} {ws : va_W} {v : Value} {S st : List Value} (h : am_s rv ws (v :: S) st) : ∃ w st', st = w :: st' ∧ am_v rv ws v w ∧ am_s rv ws S st' := by
  cases st with
  | nil => exact h.elim
  | cons w st' => exact ⟨w, st', rfl, h.1, h.2⟩
theorem am_s.cat {rv : Nat → Value} {ws : va_W} : ∀ {S st : List Value}, am_s rv ws S st → st.map (fun v => v.category) = S.map (fun v => v.category)
  | [], [], _ => rfl
  | _ :: _, _ :: _, h => by rw [List.map_cons, List.map_cons, h.1.cat, am_s.cat h.2]
  | [], _ :: _, h => h.elim
  | _ :: _, [], h => h.elim
theorem am_s.len {rv : Nat → Value} {ws : va_W} {S st : List Value} (h : am_s rv ws S st) : st.length = S.length := by
  have := congrArg List.length h.cat
  simpa using this
theorem am_s.app {rv : Nat → Value} {ws : va_W} : ∀ {S1 S2 st : List Value}, am_s rv ws (S1 ++ S2) st → ∃ s1 s2, st = s1 ++ s2 ∧ am_s rv ws S1 s1 ∧ am_s rv ws S2 s2
  | [], S2, st, h => ⟨[], st, rfl, trivial, h⟩
  | v :: S1, S2, st, h => by
    obtain ⟨w, st', rfl, h1, h2⟩ := am_s.cons h
    obtain ⟨s1, s2, rfl, h3, h4⟩ := am_s.app (S1 := S1) h2
    exact ⟨w :: s1, s2, rfl, ⟨h1, h3⟩, h4⟩
theorem am_s.join {rv : Nat → Value} {ws : va_W} : ∀ {S1 S2 s1 s2 : List Value}, am_s rv ws S1 s1 → am_s rv ws S2 s2 → am_s rv ws (S1 ++ S2) (s1 ++ s2)
  | [], _, [], _, _, h => h
  | _ :: _, _, _ :: _, _, h1, h2 => ⟨h1.1, am_s.join h1.2 h2⟩
  | [], _, _ :: _, _, h, _ => h.elim
  | _ :: _, _, [], _, h, _ => h.elim
theorem am_s.rev {rv : Nat → Value} {ws : va_W} : ∀ {S st : List Value}, am_s rv ws S st → am_s rv ws S.reverse st.reverse
  | [], [], _ => trivial
  | v :: S, w :: st, h => by
    rw [List.reverse_cons, List.reverse_cons]
    exact am_s.join (am_s.rev h.2) ⟨h.1, trivial⟩
  | [], _ :: _, h => h.elim
  | _ :: _, [], h => h.elim
/-- which fields are references -/
def am_rt : List (List Nat) := [[0, 1, 2], [0, 3], [0], [0, 1, 2, 3, 4, 5, 6, 7], [0], [0, 1, 2], [0, 1, 2, 3, 4, 5, 6], [0, 1, 2, 4, 10, 11, 14, 15, 17, 18, 19, 20, 21, 24, 25, 26, 27, 28, 29]]
def am_isR (ci k : Nat) : Bool := (am_rt.getD ci []).contains k
/-- array tags: 8 int, 9 char, 10 boolean; 12 Row, 13 Text -/
def am_aty (tag : Nat) : FieldType := if tag = 8 then .int else if tag = 9 then .char else .boolean
def am_acl (tag : Nat) : String := if tag = 12 then RX2 else RX4
def am_e (U : State) (rv : Nat → Value) (ws : va_W) (c : Nat × Nat × (Nat → Value)) (f : Nat → Int32) (e : va_E) : Prop :=
  if c.1 < 8 then ∃ fs : List Value, e = .inr (c.1, fs) ∧ fs.length = c.2.1 ∧ ∀ j, j < c.2.1 → ∃ w, fs[j]? = some w ∧ (if am_isR c.1 j = true then am_v rv ws (c.2.2 j) w else w = .int (f j))
  else if c.1 < 11 then ∃ cA : ClassId, e = .inl (cA, c.2.1, .inl f) ∧ ArrOfT U cA (am_aty c.1) ∧ va_RA U cA (am_aty c.1)
  else ∃ (cA : ClassId) (g : Nat → Option Nat), e = .inl (cA, c.2.1, .inr (.inr (.inr (.inr g)))) ∧ ArrOfT U cA (.object (am_acl c.1)) ∧ va_RA U cA (.object (am_acl c.1)) ∧ ∀ j, j < c.2.1 → am_v rv ws (c.2.2 j) (va_rf (g j))
theorem am_e.mono {U : State} {rv : Nat → Value} {ws ws' : va_W} {c : Nat × Nat × (Nat → Value)} {f : Nat → Int32} {e : va_E} (h : am_e U rv ws c f e) (hx : am_ex ws ws') : am_e U rv ws' c f e := by
  unfold am_e at h ⊢
  split at h
  · rename_i h0
    rw [if_pos h0]
    obtain ⟨fs, h1, h2, h3⟩ := h
    refine ⟨fs, h1, h2, fun j hj => ?_⟩
    obtain ⟨w, a, b⟩ := h3 j hj
    refine ⟨w, a, ?_⟩
    split at b
    · rename_i h4
      rw [if_pos h4]; exact b.mono hx
    · rename_i h4
      rw [if_neg h4]; exact b
  · rename_i h0
    rw [if_neg h0]
    split at h
    · rename_i h1
      rw [if_pos h1]; exact h
    · rename_i h1
      rw [if_neg h1]
      obtain ⟨cA, g, a, b, c, d⟩ := h
      exact ⟨cA, g, a, b, c, fun j hj => (d j hj).mono hx⟩
theorem am_e.moved {U U' : State} {rv : Nat → Value} {ws : va_W} {c : Nat × Nat × (Nat → Value)} {f : Nat → Int32} {e : va_E} (h : am_e U rv ws c f e) (hvm : U.vm.Alike U'.vm) : am_e U' rv ws c f e := by
  unfold am_e at h ⊢
  split at h
  · rename_i h0
    rw [if_pos h0]; exact h
  · rename_i h0
    rw [if_neg h0]
    split at h
    · rename_i h1
      rw [if_pos h1]
      obtain ⟨cA, a, b, c⟩ := h
      exact ⟨cA, a, arrOfT_moved hvm b, c.moved hvm⟩
    · rename_i h1
      rw [if_neg h1]
      obtain ⟨cA, g, a, b, c, d⟩ := h
      exact ⟨cA, g, a, arrOfT_moved hvm b, c.moved hvm, d⟩
/-- the cells of the world match layout and memory -/
def am_m (U : State) (rv : Nat → Value) (ws : va_W) (lay : Lay) (mem : Mem) : Prop := ws.length = lay.length ∧ ∀ (k : Nat) (c : Nat × Nat × (Nat → Value)), lay[k]? = some c → ∃ (a : Nat) (e : va_E), ws[k]? = some (a, e) ∧ am_e U rv ws c (mem k) e
theorem am_m.moved {U U' : State} {rv : Nat → Value} {ws : va_W} {lay : Lay} {mem : Mem} (h : am_m U rv ws lay mem) (hvm : U.vm.Alike U'.vm) : am_m U' rv ws lay mem :=
  ⟨h.1, fun k c hc => by obtain ⟨a, e, h1, h2⟩ := h.2 k c hc; exact ⟨a, e, h1, h2.moved hvm⟩⟩
def am_h (D : va_G) (A : Nat → Prop) (s : State) (H : Heap) (locs : List Loc) (rv : Nat → Value) (ws : va_W) (lay : Lay) (mem : Mem) : Prop :=
  va_P D classes ws H ∧ va_D A ws ∧ va_S A s.heap H locs ∧ am_m s rv ws lay mem
/-- what is given and never written -/
def am_gre (j : Nat) : Int32 := ([999, 9, 99, 11, 1, 5] : List Int32).getD j 0
def am_kab (j : Nat) : Int32 := ([-1, 0, 0, 1, 2, 0] : List Int32).getD j 0
def am_txtW : String := "sharp   theirs  apart   number  tide    place   wears   carries clashes or      and     not     "
def am_txtS : String := "();+-*<="
def am_byt (s : String) : List Int32 := s.toList.map (fun c => nI c.toNat)
def am_nws : List Cond := [.methodLinkNest RX6 18 yX1_init RX6, .methodLinkNest RX6 40 yX0_init RX6, .methodLinkNest RX6 51 yX2_init RX6, .fieldLinkNest RX3 53 RX6 "GREATEST" "[I" RX6, .methodLinkNest RX3 56 yX6_isIn RX6, .methodLinkNest RX3 85 yX6_bounded RX6, .methodLinkNest RX3 102 yX6_apart RX6, .methodLinkNest RX2 28 yX6_isIn RX6]
def am_ro (A : Nat → Prop) (U : State) (H : Heap) (rv : Nat → Value) (SL : Nat) (xs : Nat → Int32) : Prop :=
  (∃ t, rv 0 = .ref t ∧ va_Z "EdgesOff" "GREATEST" "[I" (.ref t) A U H ∧ va_T .int t 6 (fun j => .int (am_gre j)) A U H) ∧
  (∃ t, rv 1 = .ref t ∧ va_Z "EdgesOff" "KIND_ABOVE" "[I" (.ref t) A U H ∧ va_T .int t 6 (fun j => .int (am_kab j)) A U H) ∧
  (∃ t, rv 2 = .ref t ∧ va_T .int t SL (fun j => .int (xs j)) A U H) ∧
  (∃ adK adV : Nat → Nat, vk_S 2 [96, 8] [am_byt am_txtW, am_byt am_txtS] adK adV A U H ∧ rv 3 = .ref (adK 0) ∧ rv 4 = .ref (adK 1) ∧ rv 5 = .ref (adV 0) ∧ rv 6 = .ref (adV 1) ∧ vk_R RX1 99 am_txtW (adK 0) U ∧ vk_R RX1 92 am_txtS (adK 1) U) ∧
  va_Z "java/lang/String" "COMPACT_STRINGS" "Z" (.int 1) A U H ∧
  (va_Z "jdk/internal/util/Preconditions" "SIOOBE_FORMATTER" "Ljava/util/function/BiFunction;" (rv 7) A U H ∧ (rv 7 = .null ∨ ∃ a, rv 7 = .ref a)) ∧
  (∀ w ∈ am_nws, va_Nw w U) ∧ va_AO RX2 U ∧ va_AO RX4 U
theorem am_nw_warm {s U : State} (hW : s.WarmedH U.vm) (h : ∀ w ∈ am_nws, va_Nw w s) : ∀ w ∈ am_nws, va_Nw w U := by
  intro w hw
  have h1 := h w hw
  simp only [am_nws, List.mem_cons, List.not_mem_nil, or_false] at hw
  rcases hw with rfl | rfl | rfl | rfl | rfl | rfl | rfl | rfl <;> first | exact va_Nw.warmM hW h1 | exact va_Nw.warmF hW h1
theorem am_nw_same {u U : State} (hv : u.vm = U.vm) (h : ∀ w ∈ am_nws, va_Nw w u) : ∀ w ∈ am_nws, va_Nw w U := by
  intro w hw
  have h1 := h w hw
  simp only [am_nws, List.mem_cons, List.not_mem_nil, or_false] at hw
  rcases hw with rfl | rfl | rfl | rfl | rfl | rfl | rfl | rfl <;> exact va_Nw.same rfl hv h1
theorem am_ro.call {A B : Nat → Prop} {s U : State} {H H1 : Heap} {rv : Nat → Value} {SL : Nat} {xs : Nat → Int32} (h : am_ro A s H rv SL xs) (hW : s.WarmedH U.vm) (hq : ∀ a : Nat, a < H.size → ¬ A a → H1[a]? = H[a]?) (hAB : ∀ q, B q → A q) : am_ro B U H1 rv SL xs := by
  obtain ⟨⟨t0, a1, a2, a3⟩, ⟨t1, b1, b2, b3⟩, ⟨t2, c1, c2⟩, ⟨adK, adV, d1, d2, d3, d4, d5, d6, d7⟩, e1, ⟨f1, f2⟩, g1, g2, g3⟩ := h
  have hvm := hW.alike
  exact ⟨⟨t0, a1, ((a2.kept hq).narrow hAB).moved hvm, ((a3.kept hq).narrow hAB).moved hvm⟩, ⟨t1, b1, ((b2.kept hq).narrow hAB).moved hvm, ((b3.kept hq).narrow hAB).moved hvm⟩, ⟨t2, c1, ((c2.kept hq).narrow hAB).moved hvm⟩,
    ⟨adK, adV, ((d1.kept hq).narrow hAB).moved hvm, d2, d3, d4, d5, d6.warm hW, d7.warm hW⟩, ((e1.kept hq).narrow hAB).moved hvm, ⟨((f1.kept hq).narrow hAB).moved hvm, f2⟩, am_nw_warm hW g1, g2.moved hvm, g3.moved hvm⟩
theorem am_ro.same {A : Nat → Prop} {u U : State} {H : Heap} {rv : Nat → Value} {SL : Nat} {xs : Nat → Int32} (h : am_ro A u H rv SL xs) (hv : U.vm = u.vm) : am_ro A U H rv SL xs := by
  obtain ⟨⟨t0, a1, a2, a3⟩, ⟨t1, b1, b2, b3⟩, ⟨t2, c1, c2⟩, ⟨adK, adV, d1, d2, d3, d4, d5, d6, d7⟩, e1, ⟨f1, f2⟩, g1, g2, g3⟩ := h
  have hvm : u.vm.Alike U.vm := by rw [hv]; exact Vm.Alike.refl u.vm
  exact ⟨⟨t0, a1, a2.moved hvm, a3.moved hvm⟩, ⟨t1, b1, b2.moved hvm, b3.moved hvm⟩, ⟨t2, c1, c2.moved hvm⟩,
    ⟨adK, adV, d1.moved hvm, d2, d3, d4, d5, d6.same hv, d7.same hv⟩, e1.moved hvm, ⟨f1.moved hvm, f2⟩, am_nw_same hv.symm g1, g2.moved hvm, g3.moved hvm⟩
/-- the frame's fixed facts -/
def am_f (z : Zz) (p : Program) (R : Room) (s : State) (m : MethodId) (args : Array Value) (meth : Method) (c : Code) (mi : MI) (d : Nat) (D : va_G) (A : Nat → Prop) (rv : Nat → Value) : Prop :=
  p.tables.exec = Jvm.exec ∧ c.code = mi.2.1 ∧ c.maxLocals = mi.2.2.1 ∧ meth.sig.returnType = mi.2.2.2 ∧ s.vm.findClass mi.1.cls = some m.cls ∧ (∀ w ∈ wok, w.before args s = true) ∧ meth.locks = false ∧ (mi.1.name = "<init>" → meth.name = "<init>") ∧ d ≤ R.frames ∧ 64 * d ≤ R.locals ∧ va_K D classes [] s ∧ (∀ q, s.heap.size ≤ q → A q) ∧ am_ro A s s.heap rv z.2.1 z.2.2
/-- locals: a float is 'not set', a double the second half of a long -/
def am_mk (v : Value) : Bool := match v with
  | .float _ => true
  | .double _ => true
  | _ => false
def am_l (rv : Nat → Value) (ws : va_W) (L : List Value) (ls : Array Slot) (n : Nat) : Prop := ls.size = n ∧ lv_wf ls ∧ L.length = n ∧ ∀ (i : Nat) (v : Value), L[i]? = some v → am_mk v = false → ∃ w, ls[i]? = some (.val w) ∧ am_v rv ws v w
theorem am_l.mono {rv : Nat → Value} {ws ws' : va_W} {L : List Value} {ls : Array Slot} {n : Nat} (h : am_l rv ws L ls n) (hx : am_ex ws ws') : am_l rv ws' L ls n :=
  ⟨h.1, h.2.1, h.2.2.1, fun i v h1 h2 => by obtain ⟨w, h3, h4⟩ := h.2.2.2 i v h1 h2; exact ⟨w, h3, h4.mono hx⟩⟩
def am_rr (rv : Nat → Value) (ws : va_W) (r rw : Option Value) : Prop := match r, rw with
  | none, none => True
  | some v, some w => am_v rv ws v w
  | _, _ => False
def am_rt1 (mi : MI) (pc : Nat) (r : Option Value) : Prop := match r with
  | none => decode mi.2.1 pc = .ok (.return_, 1) ∧ mi.2.2.2 = none
  | some (.int x) => decode mi.2.1 pc = .ok (.ireturn, 1) ∧ ∃ ty, mi.2.2.2 = some ty ∧ narrow ty (.int x) = .int x
  | some (.long _) => decode mi.2.1 pc = .ok (.lreturn, 1) ∧ mi.2.2.2 = some .long
  | some _ => decode mi.2.1 pc = .ok (.areturn, 1) ∧ ∃ rt, mi.2.2.2 = some rt ∧ ((∃ n, rt = .object n) ∨ ∃ t, rt = .array t)
/-- THE JUDGEMENT: from this abstract state the method returns, with Q; at most kc cells of ks slots come; d calls deep -/
def Sim (z : Zz) (d kc ks : Nat) (mi : MI) (pc : Nat) (L S : List Value) (lay : Lay) (mem : Mem) (Q : Option Value → Lay → Mem → Prop) : Prop :=
  ∀ (p : Program) (e : Env) (R : Room) (s : State) (m : MethodId) (args : Array Value) (below : List Frame) (meth : Method) (c : Code) (D : va_G) (A : Nat → Prop) (rv : Nat → Value) (H : Heap) (locs : List Loc) (cells slots : Nat) (ls : Array Slot) (st : List Value) (ws : va_W) (X : State → Prop),
    am_f z p R s m args meth c mi d D A rv → cells + kc ≤ R.cells → slots + ks ≤ R.slots → am_h D A s H locs rv ws lay mem → am_l rv ws L ls mi.2.2.1 → am_s rv ws S st →
    (∀ (r : Option Value) (lay' : Lay) (mem' : Mem) (H' : Heap) (locs' : List Loc) (ws' : va_W) (pc' : Nat) (ls' : Array Slot) (rw : Option Value), Q r lay' mem' → am_h D A s H' locs' rv ws' lay' mem' → am_ex ws ws' → am_rt1 mi pc' r → am_rr rv ws' r rw → W p z.1 e R s m args below meth c H' locs' (cells + kc) (slots + ks) X (F0 m pc' ls' rw.toList)) →
    W p z.1 e R s m args below meth c H locs cells slots X (F0 m pc ls st)
