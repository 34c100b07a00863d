/-! ===== calls: a judgement of a method's body is its contract ===== -/
def am_fl0 : List Value → List Value
  | [] => []
  | v :: As => (if v.category = 2 then [v, .double 0] else [v]) ++ am_fl0 As
def am_L0 (n : Nat) (As : List Value) : List Value := am_fl0 As ++ List.replicate (n - (am_fl0 As).length) (.float 0)
theorem lg_sl_cons (v : Value) (Ws : List Value) : lg_sl (v :: Ws) = (if v.category = 2 then [.val v, .second] else [.val v]) ++ lg_sl Ws := by
  simp [lg_sl]
theorem am_fl0_len {rv : Nat → Value} {ws : va_W} : ∀ {As Ws : List Value}, am_s rv ws As Ws → (lg_sl Ws).length = (am_fl0 As).length
  | [], [], _ => rfl
  | v :: As, w :: Ws, h => by
    rw [lg_sl_cons, am_fl0, List.length_append, List.length_append, am_fl0_len h.2, h.1.cat]
    split <;> rfl
  | [], _ :: _, h => h.elim
  | _ :: _, [], h => h.elim
theorem am_fl0_at {rv : Nat → Value} {ws : va_W} : ∀ {As Ws : List Value} (i : Nat) (v : Value), am_s rv ws As Ws → (am_fl0 As)[i]? = some v → am_mk v = false → ∃ w, (lg_sl Ws)[i]? = some (.val w) ∧ am_v rv ws v w
  | [], _, i, v, _, h, _ => by simp [am_fl0] at h
  | _ :: _, [], _, _, h, _, _ => h.elim
  | u :: As, w :: Ws, i, v, h, hi, hm => by
    rw [lg_sl_cons]
    rw [am_fl0] at hi
    rw [h.1.cat]
    by_cases hc : u.category = 2
    · rw [if_pos hc] at hi ⊢
      match i, hi with
      | 0, hi => cases hi; exact ⟨w, rfl, h.1⟩
      | 1, hi => cases hi; cases hm
      | i + 2, hi => exact am_fl0_at i v h.2 hi hm
    · rw [if_neg hc] at hi ⊢
      match i, hi with
      | 0, hi => cases hi; exact ⟨w, rfl, h.1⟩
      | i + 1, hi => exact am_fl0_at i v h.2 hi hm
theorem am_entry {rv : Nat → Value} {ws : va_W} {As Ws : List Value} {n : Nat} (h : am_s rv ws As Ws) (hn : (am_fl0 As).length ≤ n) : am_l rv ws (am_L0 n As) ((lg_sl Ws ++ List.replicate (n - (lg_sl Ws).length) Slot.unset).toArray) n := by
  have h1 := am_fl0_len h
  have h2 := lv_entry Ws (n := n) (by rw [h1]; exact hn)
  refine ⟨h2.1, h2.2.1, ?_, fun i v hi hm => ?_⟩
  · rw [am_L0, List.length_append, List.length_replicate]; omega
  · unfold am_L0 at hi
    by_cases hl : i < (am_fl0 As).length
    · rw [List.getElem?_append_left hl] at hi
      obtain ⟨w, a, b⟩ := am_fl0_at i v h hi hm
      refine ⟨w, ?_, b⟩
      rw [List.getElem?_toArray, List.getElem?_append_left (by rw [h1]; exact hl)]
      exact a
    · rw [List.getElem?_append_right (by omega)] at hi
      have := List.mem_of_getElem? hi
      rw [List.mem_replicate] at this
      rw [this.2] at hm
      cases hm
def am_Pc (z : Zz) (D : va_G) (rv : Nat → Value) (ws : va_W) (sz : Nat) (lay : Lay) (mem : Mem) (Ws : List Value) : Array Value → State → Prop :=
  va_Pc Ws (fun U => U.heap.size = sz ∧ va_P D classes ws U.heap ∧ va_D (fun _ => True) ws ∧ va_K D classes [] U ∧ am_ro (va_A ws sz) U U.heap rv z.2.1 z.2.2 ∧ am_m U rv ws lay mem)
def am_Qc (D : va_G) (rv : Nat → Value) (ws : va_W) (sz : Nat) (Q : Option Value → Lay → Mem → Prop) : Array Value → State → Outcome → State → Prop := fun _ st oc t =>
  (∃ (r : Option Value) (lay' : Lay) (mem' : Mem) (ws' : va_W) (rw : Option Value), oc = .returned rw ∧ Q r lay' mem' ∧ am_rr rv ws' r rw ∧ am_ex ws ws' ∧ va_P D classes ws' t.heap ∧ va_D (va_A ws sz) ws' ∧ am_m t rv ws' lay' mem') ∧ va_F (va_A ws sz) st t
def am_rm (d kc ks : Nat) : Room := { frames := d, cells := kc, slots := ks, locals := 64 * d }
theorem am_ofW {l : Launch} {y : MethodName} {ws ws' : List Cond} {rm : Room} {Pc : Array Value → State → Prop} {Qc : Array Value → State → Outcome → State → Prop} {mc ms : Nat} {free : Addr → Prop} {cc : ByteArray} {maxL : Nat} {ret : Option FieldType}
    (hy : plainFor y = true) (hw : ws = Cond.code y cc maxL ret :: ws')
    (body : ∀ p e s m args below meth c s₁, BodyLoose p l y (headSpec ws rm) cc maxL ret e s m args below meth c s₁ → c.maxLocals = maxL → Pc args s →
      W p l e (headSpec ws rm).room s m args below meth c s.heap [] 0 0 (MQ below Qc args s mc ms free) (entryFrame m args maxL)) : Met l y ws rm Pc Qc mc ms free := by
  refine MetFree.of_bodySF (code := cc) (maxLocals := maxL) (ret := ret) hy ?_ ?_
  · intro args s m h hn
    obtain ⟨meth, c, h1, h2, h3, h4, h5, h6, -, -⟩ := Cond.code_spec hn (atoms_spec (ws := ws) h _ (by rw [hw]; exact List.mem_cons_self))
    exact ⟨meth, c, h1, h2, h3, h4, h5, h6⟩
  · intro p e s m args below meth c s₁ B hml hP _
    have hh0 : s₁.heap = s.heap := by rw [B.state]; rfl
    obtain ⟨t, a1, o, b1, b2, b3⟩ := body p e s m args below meth c s₁ B hml hP s₁ hh0 (Stand.of_body B)
    exact ⟨t, o, a1, b1, b2, ⟨b3.1, b3.2⟩⟩
theorem am_met {z : Zz} {d kc ks : Nat} {mi : MI} {As Ws : List Value} {lay : Lay} {mem : Mem} {Q : Option Value → Lay → Mem → Prop} (hy : plainFor mi.1 = true) (hfit : (am_fl0 As).length ≤ mi.2.2.1) (h : Sim z d kc ks mi 0 (am_L0 mi.2.2.1 As) [] lay mem Q) (D : va_G) (rv : Nat → Value) (ws : va_W) (sz : Nat) (hA : am_s rv ws As Ws) :
    Met z.1 mi.1 (am_ws mi) (am_rm d kc ks) (am_Pc z D rv ws sz lay mem Ws) (am_Qc D rv ws sz Q) kc ks (va_A ws sz) := by
  refine am_ofW (cc := mi.2.1) (maxL := mi.2.2.1) (ret := mi.2.2.2) hy rfl ?_
  intro p e s m args below meth c s₁ B hml hv
  obtain ⟨rfl, hsz, hP, hD, hK, hro, hm⟩ := hv
  have hts := atoms_spec (ws := am_ws mi) B.pre
  subst hsz
  have hS : va_S (va_A ws s.heap.size) s.heap s.heap [] := va_S.rf
  have hlocks := B.notSynchronized
  rw [lg_entry_eq]
  refine h p e _ s m Ws.toArray below meth c D (va_A ws s.heap.size) rv s.heap [] 0 0 _ [] ws _ ⟨B.exec, B.bytes, hml, B.returns, findClass_of_methodNamed B.named, fun w hw => hts w (List.mem_cons_of_mem _ hw), hlocks, fun hn => by rw [← hn]; exact (name_of_methodNamed B.named B.method).1, Nat.le_refl d, Nat.le_refl (64 * d), hK, fun q hq => Or.inr hq, hro⟩ (by show 0 + kc ≤ kc; omega) (by show 0 + ks ≤ ks; omega) ⟨hP, hD.self, hS, hm⟩ (am_entry hA hfit) trivial ?_
  intro r lay' mem' H' locs' ws' pc' ls' rw hq hh hx hrt hrr
  rw [Nat.zero_add, Nat.zero_add]
  have fin : ∀ t : State, t.heap = H' → s.WarmedH t.vm → am_Qc D rv ws s.heap.size Q Ws.toArray s (.returned rw) t := fun t ht hW =>
    ⟨⟨r, lay', mem', ws', rw, rfl, hq, hrr, hx, by rw [ht]; exact hh.1, hh.2.1, hh.2.2.2.moved hW.alike⟩, hh.2.2.1.F ht⟩
  cases r with
  | none =>
    cases rw with
    | some w => exact hrr.elim
    | none => exact W.vret B.exec B.bytes (B.returns.trans hrt.2) fin hh.2.2.1.2.2 hrt.1
  | some v =>
    cases rw with
    | none => exact hrr.elim
    | some w =>
      cases v with
      | int x =>
        obtain rfl : w = .int x := hrr
        obtain ⟨h1, ty, h2, h3⟩ := hrt
        exact W.zret B.exec B.bytes (B.returns.trans h2) h3 fin hh.2.2.1.2.2 h1
      | long x =>
        obtain rfl : w = .long x := hrr
        exact W.lret B.exec B.bytes (B.returns.trans hrt.2) fin hh.2.2.1.2.2 hrt.1
      | null =>
        obtain ⟨h1, ty, h2, h3⟩ := hrt
        exact W.aret B.exec B.bytes (B.returns.trans h2) h3 (am_isA_w (v := (.null : Value)) (rv := rv) (ws := ws') rfl hrr) fin hh.2.2.1.2.2 h1
      | ref k =>
        obtain ⟨h1, ty, h2, h3⟩ := hrt
        exact W.aret B.exec B.bytes (B.returns.trans h2) h3 (am_isA_w (v := (.ref k : Value)) (rv := rv) (ws := ws') rfl hrr) fin hh.2.2.1.2.2 h1
      | retAddr k =>
        obtain ⟨h1, ty, h2, h3⟩ := hrt
        exact W.aret B.exec B.bytes (B.returns.trans h2) h3 (am_isA_w (v := (.retAddr k : Value)) (rv := rv) (ws := ws') rfl hrr) fin hh.2.2.1.2.2 h1
      | float _ => exact hrr.elim
      | double _ => exact hrr.elim
/-- n values off the stack, the first argument first -/
def am_pp : Nat → List Value → List Value → List Value × List Value
  | 0, acc, S => (acc, S)
  | _ + 1, acc, [] => (acc, [])
  | n + 1, acc, v :: S => am_pp n (v :: acc) S
theorem am_pp_spec : ∀ (n : Nat) (acc S As S' : List Value), am_pp n acc S = (As, S') → As.reverse ++ S' = acc.reverse ++ S
  | 0, acc, S, As, S', h => by cases h; rfl
  | _ + 1, acc, [], As, S', h => by cases h; rfl
  | n + 1, acc, v :: S, As, S', h => by
    have := am_pp_spec n (v :: acc) S As S' h
    rw [this]; simp
theorem am_Pc_blind {z : Zz} {D : va_G} {rv : Nat → Value} {ws : va_W} {sz : Nat} {lay : Lay} {mem : Mem} {Ws : List Value} : FrameBlind (am_Pc z D rv ws sz lay mem Ws) := by
  intro a U g mk q
  obtain ⟨q0, q1, qP, qD, qK, qR, qM⟩ := q
  exact ⟨q0, q1, qP, qD, va_K.moved (u := U) (U := U.calling g mk a) (Vm.Alike.refl U.vm) qK, qR.same (u := U) (U := U.calling g mk a) rfl, qM.moved (U := U) (U' := U.calling g mk a) (Vm.Alike.refl U.vm)⟩
theorem am_Pc_of {z : Zz} {p : Program} {R : Room} {s : State} {m : MethodId} {args : Array Value} {meth : Method} {c : Code} {mi : MI} {d : Nat} {D : va_G} {A : Nat → Prop} {rv : Nat → Value} {H : Heap} {locs : List Loc} {ws : va_W} {lay : Lay} {mem : Mem} {Ws : List Value} (F : am_f z p R s m args meth c mi d D A rv) (h : am_h D A s H locs rv ws lay mem) : ∀ U : State, U.heap = H → s.WarmedH U.vm → am_Pc z D rv ws H.size lay mem Ws Ws.toArray U := by
  intro U hU hW
  have hfr : ∀ q, va_A ws H.size q → A q := by
    intro q hq
    rcases hq with ⟨k, e, hk⟩ | hq
    · exact h.2.1.2 k (q, e) hk
    · exact F.2.2.2.2.2.2.2.2.2.2.2.1 q (Nat.le_trans h.2.2.1.1 hq)
  refine ⟨rfl, by rw [hU], by rw [hU]; exact h.1, h.2.1.weaken (fun _ _ _ _ => trivial), va_K.moved hW.alike F.2.2.2.2.2.2.2.2.2.2.1, ?_, h.2.2.2.moved hW.alike⟩
  rw [hU]
  exact F.2.2.2.2.2.2.2.2.2.2.2.2.call hW h.2.2.1.2.1 hfr
theorem am_back {z : Zz} {p : Program} {e : Env} {R : Room} {s : State} {m : MethodId} {args : Array Value} {below : List Frame} {meth : Method} {c : Code} {D : va_G} {A : Nat → Prop} {rv : Nat → Value} {H : Heap} {locs : List Loc} {cells slots : Nat} {ls : Array Slot} {st rest : List Value} {ws : va_W} {X : State → Prop} {d kc ks kc1 ks1 : Nat} {mi : MI} {pc : Nat} {L S : List Value} {lay : Lay} {mem : Mem} {Q Q1 : Option Value → Lay → Mem → Prop} {a : Array Value}
    (hrun : va_Run p z.1 e R s m args below meth c H locs cells slots kc1 ks1 (F0 m pc ls st) rest (am_Qc D rv ws H.size Q1 a) (va_A ws H.size))
    (F : am_f z p R s m args meth c mi d D A rv) (hc : cells + (kc1 + kc) ≤ R.cells) (hs : slots + (ks1 + ks) ≤ R.slots) (h : am_h D A s H locs rv ws lay mem) (hL : am_l rv ws L ls mi.2.2.1) (hT : am_s rv ws S rest)
    (K : ∀ (r : Option Value) (lay' : Lay) (mem' : Mem), Q1 r lay' mem' → Sim z d kc ks mi (pc + 3) L (r.toList ++ S) lay' mem' Q)
    (kk : ∀ (r : Option Value) (lay' : Lay) (mem' : Mem) (H' : Heap) (locs' : List Loc) (ws' : va_W) (pc' : Nat) (ls' : Array Slot) (rw : Option Value), Q r lay' mem' → am_h D A s H' locs' rv ws' lay' mem' → am_ex ws ws' → am_rt1 mi pc' r → am_rr rv ws' r rw → W p z.1 e R s m args below meth c H' locs' (cells + (kc1 + kc)) (slots + (ks1 + ks)) X (F0 m pc' ls' rw.toList)) :
    W p z.1 e R s m args below meth c H locs cells slots X (F0 m pc ls st) := by
  intro T hT0 XX
  obtain ⟨v, st₀, t, T', LL, h0, X', hLL, e1, e2, ⟨⟨r, lay', mem', ws', rw, hv, hq, hrr, hx, hP', hD', hm'⟩, hz, hk⟩, stp⟩ := hrun T hT0 XX
  cases hv
  have hfr : ∀ q, va_A ws H.size q → A q := by
    intro q hq
    rcases hq with ⟨k, e, hk⟩ | hq
    · exact h.2.1.2 k (q, e) hk
    · exact F.2.2.2.2.2.2.2.2.2.2.2.1 q (Nat.le_trans h.2.2.1.1 hq)
  rw [h0] at hz hk
  have hvm : s.vm.Alike t.vm := by rw [← e2]; exact X'.warmed.alike
  have hS' : va_S A s.heap T'.heap (locs ++ LL) := by
    refine ⟨Nat.le_trans h.2.2.1.1 (by rw [e1]; exact hz), fun q h1 h2 => ?_, fun q hq => ?_⟩
    · rw [e1, hk q (Nat.lt_of_lt_of_le h1 h.2.2.1.1) (fun z => h2 (hfr q z))]
      exact h.2.2.1.2.1 q h1 h2
    · rcases List.mem_append.mp hq with h2 | h2
      · exact h.2.2.1.2.2 q h2
      · exact hfr _ (hLL q h2)
  have hh : am_h D A s T'.heap (locs ++ LL) rv ws' lay' mem' := ⟨by rw [e1]; exact hP', hD'.weaken (fun _ q _ hq => hfr q.1 hq), hS', hm'.moved hvm.symm⟩
  have hst : am_s rv ws' (r.toList ++ S) (v.toList ++ rest) := by
    refine am_s.join ?_ (hT.mono hx)
    cases r with
    | none =>
      cases v with
      | none => trivial
      | some w => exact hrr.elim
    | some v2 =>
      cases v with
      | none => exact hrr.elim
      | some w => exact ⟨hrr, trivial⟩
  obtain ⟨t2, a1, b1⟩ := K r lay' mem' hq p e R s m args below meth c D A rv T'.heap (locs ++ LL) (cells + kc1) (slots + ks1) ls _ ws' X F (by omega) (by omega) hh (hL.mono hx) hst (fun r lay' mem' H' locs' ws'' pc' ls' rw q1 q2 q3 q4 q5 => by
    have := kk r lay' mem' H' locs' ws'' pc' ls' rw q1 q2 (hx.tr q3) q4 q5
    rw [show cells + kc1 + kc = cells + (kc1 + kc) by omega, show slots + ks1 + ks = slots + (ks1 + ks) by omega]
    exact this) T' rfl X'
  exact ⟨t2, stp t2 a1, b1⟩
/-- what a method must have to be called -/
def am_ok (mi : MI) (n : Nat) : Prop := plainFor mi.1 = true ∧ mi.2.2.1 ≤ 45 ∧ Cond.code mi.1 mi.2.1 mi.2.2.1 mi.2.2.2 ∈ wok ∧ Cond.initialized mi.1.cls ∈ wok ∧ (mi.1.cls ≠ "java/lang/invoke/MethodHandle" ∧ mi.1.cls ≠ "java/lang/invoke/VarHandle") ∧ (parseMethodDescriptor mi.1.desc).map (fun d => d.parameters.length) = some n
theorem am_good {mi : MI} {n : Nat} (h : am_ok mi n) : GoodIn wok (am_ws mi) := by
  intro w hw
  rcases List.mem_cons.mp hw with rfl | hw
  · exact ⟨h.2.2.1, good_of_word rfl⟩
  · exact ⟨hw, good_of_word (wok_good w hw)⟩
theorem am_callB {R : Room} {s : State} {args : Array Value} {own : String} {idx n d D kc ks : Nat} {mi : MI} (ht : ∀ w ∈ wok, w.before args s = true) (h : am_ok mi n) (hl : (Cond.methodLink own idx mi.1).before args s = true) (hd : d + 1 ≤ D) (hf : D ≤ R.frames) (hlo : 64 * D ≤ R.locals) :
    CallB R s args own idx mi.1 mi.2.1 mi.2.2.1 mi.2.2.2 (am_ws mi) (am_rm d kc ks) kc ks n :=
  ⟨rfl, rfl, by show d + 1 ≤ _; omega, by show 8 + (mi.2.2.1 + 11) + 64 * d ≤ _; have := h.2.1; omega, fun w hw a' U hW => word_at hW (am_good h w hw).2 (ht w (am_good h w hw).1), List.mem_cons_self, ht _ h.2.2.1, ht _ h.2.2.2.1, h.2.2.2.2.1, fun sig hs => by have := h.2.2.2.2.2; rw [hs] at this; exact (Option.some.inj this).symm, hl⟩
theorem am_callN {R : Room} {s : State} {args : Array Value} {own host : String} {idx n d D kc ks : Nat} {mi : MI} (ht : ∀ w ∈ wok, w.before args s = true) (h : am_ok mi n) (hl : va_Nw (.methodLinkNest own idx mi.1 host) s) (hd : d + 1 ≤ D) (hf : D ≤ R.frames) (hlo : 64 * D ≤ R.locals) :
    va_CN R s args own idx mi.1 host mi.2.1 mi.2.2.1 mi.2.2.2 (am_ws mi) (am_rm d kc ks) kc ks n :=
  va_cnB n ht (am_good h) rfl rfl rfl hl (ht _ h.2.2.2.1) ⟨h.2.2.2.2.1.1, h.2.2.2.2.1.2, h.2.2.2.2.2⟩ ⟨by show d + 1 ≤ _; omega, by show 8 + (mi.2.2.1 + 11) + 64 * d ≤ _; have := h.2.1; omega⟩
