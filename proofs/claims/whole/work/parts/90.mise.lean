/-! ===== the Model's reader: isE ===== -/
theorem stl_comp {r : Nat} (hr : r ≤ 7) : ∀ (W : List Nat) (c : List Int32), stl r (stl 7 W c).1 (stl 7 W c).2 = stl r W c
  | [], c => rfl
  | w :: W, c => by
    by_cases h : 0 < rkN w ∧ 7 ≤ rkN w
    · rw [stl_t h, stl_comp hr W, stl_t (r := r) ⟨h.1, by omega⟩]
    · rw [stl_f h]
theorem stl_len {r : Nat} : ∀ (W : List Nat) (c : List Int32), (stl r W c).1.length + (stl r W c).2.length = W.length + c.length
  | [], c => rfl
  | w :: W, c => by
    by_cases h : 0 < rkN w ∧ r ≤ rkN w
    · rw [stl_t h, stl_len W, List.length_append, List.length_cons]
      simp only [List.length_cons, List.length_nil]; omega
    · rw [stl_f h]
theorem stl_mem {r : Nat} : ∀ (W : List Nat) (c : List Int32), ∀ w ∈ (stl r W c).1, w ∈ W
  | [], c, w, hw => hw
  | v :: W, c, w, hw => by
    by_cases h : 0 < rkN v ∧ r ≤ rkN v
    · rw [stl_t h] at hw; exact List.mem_cons_of_mem _ (stl_mem W _ w hw)
    · rw [stl_f h] at hw; exact hw
theorem stl_opc {r : Nat} : ∀ (W : List Nat) (c : List Int32), opc (stl r W c).1 ≤ opc W
  | [], c => Nat.le_refl _
  | v :: W, c => by
    by_cases h : 0 < rkN v ∧ r ≤ rkN v
    · rw [stl_t h]; exact Nat.le_trans (stl_opc W _) (by rw [opc]; omega)
    · rw [stl_f h]; exact Nat.le_refl _
theorem stl_top {r w : Nat} {V : List Nat} : ∀ (W : List Nat) (c : List Int32), (stl r W c).1 = w :: V → ¬ (0 < rkN w ∧ r ≤ rkN w)
  | [], c, h => by cases h
  | v :: W, c, h => by
    by_cases q : 0 < rkN v ∧ r ≤ rkN v
    · rw [stl_t q] at h; exact stl_top W _ h
    · rw [stl_f q] at h
      cases h; exact q
/-- the state is in order -/
def okP (tp : Nat → Nat) (sz : Nat) (q : Tk) (W : List Nat) (c : List Int32) : Prop := nxs tp sz q.2.1 = q ∧ q.2.1 ≤ sz ∧ W.length + c.length + 1 ≤ q.2.1 ∧ (∀ w ∈ W, wtk w) ∧ opc W ≤ 5
theorem nxs_self {tp : Nat → Nat} {sz a : Nat} : nxs tp sz (nxt tp sz a).2.1 = nxt tp sz a := by
  unfold nxt
  rw [(nxs_at (tp := tp) (sz := sz) (s := tS tp sz a)).1]
theorem okP.nx {tp : Nat → Nat} {sz : Nat} {q : Tk} {W W' : List Nat} {c c' : List Int32} (h : okP tp sz q W c) (ht : ¬ q.2.2.1 = 21) (hl : W'.length + c'.length ≤ W.length + c.length + 1) (hw : ∀ w ∈ W', wtk w) (ho : opc W' ≤ 5) : okP tp sz (nxt tp sz q.1) W' c' := by
  obtain ⟨h1, h2, h3, h4, h5⟩ := h
  have n := (nxs_ok (tp := tp) h2).1
  rw [h1] at n
  have n3 := n.2.2.1 ht
  have m := nxt_ok (tp := tp) n.2.1
  exact ⟨nxs_self, (nxt_le (tp := tp) n.2.1).2.1, by have := m.2; omega, hw, ho⟩
theorem okP.at {tp : Nat → Nat} {sz : Nat} {q : Tk} {W : List Nat} {c : List Int32} (h : okP tp sz q W c) : q.1 ≤ sz ∧ q.2.2.1 < 24 := by
  have n := nxs_le (tp := tp) h.2.1
  rw [h.1] at n
  exact ⟨n.1, n.2.2⟩
theorem isMP.nx {m m' : Mem} {tp : Nat → Nat} {sz nt : Nat} {q q' : Tk} {W : List Nat} {c : List Int32} (h : isMP m tp sz nt q W c) (hf : nxf m m') (g6 : m' 47 6 = nI q'.1) (g7 : m' 47 7 = nI q'.2.1) (g8 : m' 47 8 = nI (srtN tp sz q'.2.1)) : isMP m' tp sz nt q' W c ∧ mpf nt m m' := by
  have hm : mpf nt m m' := ⟨fun j q1 _ _ => hf.1 j q1, fun k q1 q2 q3 _ _ _ => hf.2 k q1 q2 q3, fun k _ => by rw [hf.1 52 (by decide)]⟩
  obtain ⟨hB, h678, ⟨h9, h13, h16⟩, hws, hcs⟩ := h
  exact ⟨⟨hB.mpf hm, ⟨g6, g7, g8⟩, ⟨by rw [hf.2 9 (by decide) (by decide) (by decide)]; exact h9, by rw [hf.2 13 (by decide) (by decide) (by decide)]; exact h13, by rw [hf.2 16 (by decide) (by decide) (by decide)]; exact h16⟩, hws.cp (hf.1 55 (by decide)), hcs.cp (hf.1 52 (by decide))⟩, hm⟩
theorem rkI_bt {t : Nat} (h : lvN t < 5) : rkI (btI t) = nI (rkN t) ∧ ¬ btI t = 0 ∧ btI t = dM t := by
  have h24 : t < 24 := (lvN_op rfl h).2.1
  have key : ∀ t : Fin 24, lvN t.1 < 5 → rkI (btI t.1) = nI (rkN t.1) ∧ ¬ btI t.1 = 0 ∧ btI t.1 = dM t.1 := by decide +kernel
  exact key ⟨t, h24⟩ h
theorem bg_tok {t dg : Nat} {W : List Nat} {c : List Int32} (h : ¬ (bgS t dg W c).1 = 0) : ¬ t = 21 := by
  intro e
  apply h
  unfold bgS
  rw [if_neg (by omega), if_neg (by omega), if_neg (by omega)]
theorem bg_1 {t dg : Nat} {W : List Nat} {c : List Int32} (h : (bgS t dg W c).1 = 1) : (bgS t dg W c).2.1 = W ∧ (bgS t dg W c).2.2.length = c.length + 1 := by
  unfold bgS at h ⊢
  by_cases h1 : t < 6
  · rw [if_pos h1]; exact ⟨rfl, List.length_append⟩
  rw [if_neg h1] at h ⊢
  by_cases h2 : t = 20
  · rw [if_pos h2]; exact ⟨rfl, List.length_append⟩
  rw [if_neg h2] at h ⊢
  by_cases h3 : (t = 12 ∨ t = 16 ∨ (t = 11 ∧ rkT W ≤ 3)) ∧ ¬ opc W = 5
  · rw [if_pos h3] at h; exact absurd h (by show ¬ 2 = 1; decide)
  · rw [if_neg h3] at h; exact absurd h (by show ¬ 0 = 1; decide)
theorem bg_2 {t dg : Nat} {W : List Nat} {c : List Int32} (h : (bgS t dg W c).1 = 2) (hk : ∀ w ∈ W, wtk w) (ho : opc W ≤ 5) : (bgS t dg W c).2.1.length = W.length + 1 ∧ (bgS t dg W c).2.2 = c ∧ (∀ w ∈ (bgS t dg W c).2.1, wtk w) ∧ opc (bgS t dg W c).2.1 ≤ 5 := by
  unfold bgS at h ⊢
  by_cases h1 : t < 6
  · rw [if_pos h1] at h; exact absurd h (by show ¬ 1 = 2; decide)
  rw [if_neg h1] at h ⊢
  by_cases h2 : t = 20
  · rw [if_pos h2] at h; exact absurd h (by show ¬ 1 = 2; decide)
  rw [if_neg h2] at h ⊢
  by_cases h3 : (t = 12 ∨ t = 16 ∨ (t = 11 ∧ rkT W ≤ 3)) ∧ ¬ opc W = 5
  · rw [if_pos h3]
    have hw : wtk (if t = 16 then 23 else t) := by
      unfold wtk
      by_cases e : t = 16
      · rw [if_pos e]; decide
      · rw [if_neg e]; omega
    refine ⟨List.length_cons, rfl, fun w hw' => ?_, ?_⟩
    · rcases List.mem_cons.mp hw' with q | q
      · rw [q]; exact hw
      · exact hk w q
    · have hle : ∀ w, opc (w :: W) ≤ opc W + 1 := fun w => by rw [opc]; split <;> omega
      have := hle (if t = 16 then 23 else t)
      dsimp only
      omega
  · rw [if_neg h3] at h; exact absurd h (by show ¬ 0 = 2; decide)
theorem bg_0 {t dg : Nat} {W : List Nat} {c : List Int32} (h : (bgS t dg W c).1 = 0) : (bgS t dg W c).2 = (W, c) := by
  unfold bgS at h ⊢
  by_cases h1 : t < 6
  · rw [if_pos h1] at h; exact absurd h (by show ¬ 1 = 0; decide)
  rw [if_neg h1] at h ⊢
  by_cases h2 : t = 20
  · rw [if_pos h2] at h; exact absurd h (by show ¬ 1 = 0; decide)
  rw [if_neg h2] at h ⊢
  by_cases h3 : (t = 12 ∨ t = 16 ∨ (t = 11 ∧ rkT W ≤ 3)) ∧ ¬ opc W = 5
  · rw [if_pos h3] at h; exact absurd h (by show ¬ 2 = 0; decide)
  · rw [if_neg h3]
def eEnd (tp : Nat → Nat) (sz nt : Nat) (st : PS) (b : Bool) (q : Tk) (mem' : Mem) : Prop := if b = true then ((rd tp sz 48 0 0 0 0 st).2.2 = -1 ∧ nxs tp sz (rd tp sz 48 0 0 0 0 st).1.2.1 = (rd tp sz 48 0 0 0 0 st).1 ∧ isMP mem' tp sz nt (rd tp sz 48 0 0 0 0 st).1 [] (rd tp sz 48 0 0 0 0 st).2.1) else (mem' 47 7 = nI q.2.1 ∧ isMB mem' tp sz nt ∧ ((¬ (rd tp sz 48 0 0 0 0 st).2.2 = -1 ∧ (rd tp sz 48 0 0 0 0 st).2.2 = nI q.2.1) ∨ ((rd tp sz 48 0 0 0 0 st).2.2 = -1 ∧ ¬ (rd tp sz 48 0 0 0 0 st).1.2.2.1 = 14 ∧ (rd tp sz 48 0 0 0 0 st).1 = q)))
set_option maxHeartbeats 4000000 in
theorem m_X7_isE {z : Zz} {d : Nat} {Q : Option Value → Lay → Mem → Prop} {rf : Nat → Value} {tl : Lay} {mem : Mem}  {sz nt : Nat} {tp : Nat → Nat} {st : PS} (hdd : 4 ≤ d) (hB : isMB mem tp sz nt) (h6 : mem 47 6 = nI st.1.1) (h7 : mem 47 7 = nI st.1.2.1) (h8 : mem 47 8 = nI (srtN tp sz st.1.2.1)) (h9 : mem 47 9 = 0) (h13 : mem 47 13 = nI st.2.1.length) (hcs : cst mem nt st.2.1) (hsz : sz ≤ 160) (h256 : ∀ i, i < sz → tp i < 256) (hnt : nt < 6) (hsl : slk sz 1 st) (hq : nxs tp sz st.1.2.1 = st.1) (hf : st.2.2 = -1) (K : ∀ (b : Bool) (q : Tk) mem', eEnd tp sz nt st b q mem' → mpf nt mem mem' → Q (some (.int (bI b))) (LAY rf tl) mem') : Sim z d 0 0 mX7_isE 0 [.ref 47, .float 0, .float 0] [] (LAY rf tl) mem Q := by
  have KT : (rd tp sz 48 0 0 0 0 st).2.2 = -1 → nxs tp sz (rd tp sz 48 0 0 0 0 st).1.2.1 = (rd tp sz 48 0 0 0 0 st).1 → ∀ mem', isMP mem' tp sz nt (rd tp sz 48 0 0 0 0 st).1 [] (rd tp sz 48 0 0 0 0 st).2.1 → mpf nt mem mem' → Q (some (.int 1)) (LAY rf tl) mem' := fun h h0 mem' h1 h2 => K true st.1 mem' (by unfold eEnd; rw [if_pos rfl]; exact ⟨h, h0, h1⟩) h2
  have KF : ∀ (q : Tk) mem', mem' 47 7 = nI q.2.1 → isMB mem' tp sz nt → mpf nt mem mem' → (¬ (rd tp sz 48 0 0 0 0 st).2.2 = -1 ∧ (rd tp sz 48 0 0 0 0 st).2.2 = nI q.2.1) ∨ ((rd tp sz 48 0 0 0 0 st).2.2 = -1 ∧ ¬ (rd tp sz 48 0 0 0 0 st).1.2.2.1 = 14 ∧ (rd tp sz 48 0 0 0 0 st).1 = q) → Q (some (.int 0)) (LAY rf tl) mem' := fun q mem' h1 h2 h3 h4 => K false q mem' (by unfold eEnd; rw [if_neg Bool.false_ne_true]; exact ⟨h1, h2, h4⟩) h3
  clear K
  have PFd : ∀ q : Tk, (∀ mem', mem' 47 7 = nI q.2.1 → isMB mem' tp sz nt → mpf nt mem mem' → Q (some (.int 0)) (LAY rf tl) mem') → ∀ (m : Mem) (W : List Nat) (c : List Int32), isMP m tp sz nt q W c → mpf nt mem m → Q (some (.int 0)) (LAY rf tl) m := fun q h m W c hm hf => h m hm.2.1.2.1 hm.1 hf
  obtain ⟨PF, ePF⟩ : ∃ PF : Tk → Prop, PF = fun q => ∀ mem', mem' 47 7 = nI q.2.1 → isMB mem' tp sz nt → mpf nt mem mem' → Q (some (.int 0)) (LAY rf tl) mem' := ⟨_, rfl⟩
  obtain ⟨PB, ePB⟩ : ∃ PB : Tk → List Nat → List Int32 → Prop, PB = fun q W c => okP tp sz q W c → ∀ (m : Mem) (v1 v2 : Value), isMP m tp sz nt q W c → mpf nt mem m → Sim z d 0 0 mX7_isE 5 [.ref 47, v1, v2] [] (LAY rf tl) m Q ∧ Sim z d 0 0 mX7_isE 19 [.ref 47, v1, v2] [] (LAY rf tl) m Q := ⟨_, rfl⟩
  obtain ⟨PA, ePA⟩ : ∃ PA : Tk → List Nat → List Int32 → Prop, PA = fun q W c => okP tp sz q W c → ∀ (m : Mem) (v1 : Int32) (v2 : Value), isMP m tp sz nt q (stl 7 W c).1 (stl 7 W c).2 → mpf nt mem m → Sim z d 0 0 mX7_isE 43 [.ref 47, .int v1, v2] [] (LAY rf tl) m Q := ⟨_, rfl⟩
  -- behind begin
  have bgn : ∀ q W c, okP tp sz q W c → (∀ (m : Mem) (v2 : Value), isMP m tp sz nt q (bgS q.2.2.1 q.2.2.2 W c).2.1 (bgS q.2.2.1 q.2.2.2 W c).2.2 → mpf nt mem m → Sim z d 0 0 mX7_isE 10 [.ref 47, .int (nI (bgS q.2.2.1 q.2.2.2 W c).1), v2] [] (LAY rf tl) m Q) → ∀ (m : Mem) (v1 v2 : Value), isMP m tp sz nt q W c → mpf nt mem m → Sim z d 0 0 mX7_isE 5 [.ref 47, v1, v2] [] (LAY rf tl) m Q ∧ Sim z d 0 0 mX7_isE 19 [.ref 47, v1, v2] [] (LAY rf tl) m Q := by
    intro q W c hok KK m v1 v2 hm hfm
    obtain ⟨o1, o2, o3, o4, o5⟩ := hok
    constructor
    · skip
      refine s_aload_n (pc' := 6) dX7_isE_5 rfl lg0 rfl ?_
      refine c_X7_begin  (pc' := 9) dX7_isE_6 rfl lkX7_173 (by omega) (Nat.le_of_ble_eq_true rfl) hm o1 o2 hsz h256 hnt (by omega) (by omega) o4 o5 (fun m1 g1 g2 => ?_)
      refine s_istore_n (pc' := 10) dX7_isE_9 rfl (Nat.le_of_ble_eq_true rfl) rfl ls1 ?_
      exact KK m1 _ g1 (hfm.tr g2)
    · skip
      refine s_aload_n (pc' := 20) dX7_isE_19 rfl lg0 rfl ?_
      refine c_X7_begin  (pc' := 23) dX7_isE_20 rfl lkX7_173 (by omega) (Nat.le_of_ble_eq_true rfl) hm o1 o2 hsz h256 hnt (by omega) (by omega) o4 o5 (fun m1 g1 g2 => ?_)
      refine s_istore_n (pc' := 24) dX7_isE_23 rfl (Nat.le_of_ble_eq_true rfl) rfl ls1 ?_
      refine s_goto (tgt := 10) dX7_isE_24 (by decide) ?_
      exact KK m1 _ g1 (hfm.tr g2)
  have hB0 : ∀ q W c, (bgS q.2.2.1 q.2.2.2 W c).1 = 0 → PF q → PB q W c := by
    rw [ePF, ePB]
    intro q W c hb hp hok
    refine bgn q W c hok (fun m v2 hm hfm => ?_)
    rw [hb]
    refine s_iload_n (pc' := 11) dX7_isE_10 rfl lg1 ?_
    refine s_iconst (pc' := 12) dX7_isE_11 rfl iconst_2 ?_
    refine s_icmp_ne (pc' := 15) (tgt := 27) dX7_isE_12 rfl (by decide) (fun _ => ?_) (fun c9 => absurd c9 (by decide))
    refine s_iload_n (pc' := 28) dX7_isE_27 rfl lg1 ?_
    refine s_if_ne (pc' := 31) (tgt := 33) dX7_isE_28 rfl (by decide) (fun c9 => absurd (nI_0) c9) (fun _ => ?_)
    refine s_iconst (pc' := 32) dX7_isE_31 rfl iconst_0 ?_
    refine s_iret dX7_isE_32 rfl (by decide) ?_
    exact PFd q hp m _ _ hm hfm
  have hB2 : ∀ q W c, (bgS q.2.2.1 q.2.2.2 W c).1 = 2 → PB (nxt tp sz q.1) (bgS q.2.2.1 q.2.2.2 W c).2.1 c → PB q W c := by
    rw [ePB]
    intro q W c hb hp hok
    refine bgn q W c hok (fun m v2 hm hfm => ?_)
    obtain ⟨b1, b2, b3, b4⟩ := bg_2 hb hok.2.2.2.1 hok.2.2.2.2
    rw [hb]
    rw [b2] at hm
    obtain ⟨m5, m12, m51, m54⟩ := hm.1
    refine s_iload_n (pc' := 11) dX7_isE_10 rfl lg1 ?_
    refine s_iconst (pc' := 12) dX7_isE_11 rfl iconst_2 ?_
    refine s_icmp_ne (pc' := 15) (tgt := 27) dX7_isE_12 rfl (by decide) (fun c9 => absurd (by decide) c9) (fun _ => ?_)
    refine s_aload_n (pc' := 16) dX7_isE_15 rfl lg0 rfl ?_
    refine c_X7_next  (pc' := 19) dX7_isE_16 rfl lkX7_176 (by omega) (Nat.le_of_ble_eq_true rfl) hok.at.1 hsz m5 hm.2.1.1 m51 h256 (fun m2 g1 g6 g7 g8 => ?_)
    obtain ⟨r1, r2⟩ := hm.nx g1 g6 g7 g8
    exact (hp (hok.nx (bg_tok (by rw [hb]; decide)) (by omega) b3 b4) m2 _ _ r1 (hfm.tr r2)).2
  have hB1 : ∀ q W c, (bgS q.2.2.1 q.2.2.2 W c).1 = 1 → PA (nxt tp sz q.1) W (bgS q.2.2.1 q.2.2.2 W c).2.2 → PB q W c := by
    rw [ePB, ePA]
    intro q W c hb hp hok
    refine bgn q W c hok (fun m v2 hm hfm => ?_)
    obtain ⟨b1, b2⟩ := bg_1 hb
    have t21 := bg_tok (t := q.2.2.1) (dg := q.2.2.2) (W := W) (c := c) (by rw [hb]; decide)
    rw [hb]
    rw [b1] at hm
    have n := (nxs_ok (tp := tp) hok.2.1).1
    rw [hok.1] at n
    have n3 := n.2.2.1 t21
    have n2 := n.2.1
    have hl := hok.2.2.1
    refine s_iload_n (pc' := 11) dX7_isE_10 rfl lg1 ?_
    refine s_iconst (pc' := 12) dX7_isE_11 rfl iconst_2 ?_
    refine s_icmp_ne (pc' := 15) (tgt := 27) dX7_isE_12 rfl (by decide) (fun _ => ?_) (fun c9 => absurd c9 (by decide))
    refine s_iload_n (pc' := 28) dX7_isE_27 rfl lg1 ?_
    refine s_if_ne (pc' := 31) (tgt := 33) dX7_isE_28 rfl (by decide) (fun _ => ?_) (fun c9 => absurd c9 (by decide))
    refine s_aload_n (pc' := 34) dX7_isE_33 rfl lg0 rfl ?_
    refine s_bipush (pc' := 36) dX7_isE_34 rfl bipush_7 ?_
    refine c_X7_settle (r := 7) (pc' := 39) dX7_isE_36 rfl lkX7_179 (by omega) (Nat.le_of_ble_eq_true rfl) hm hnt (by omega) hok.2.2.2.1 (by decide) (fun m1 g1 g2 => ?_)
    obtain ⟨m5, m12, m51, m54⟩ := g1.1
    refine s_aload_n (pc' := 40) dX7_isE_39 rfl lg0 rfl ?_
    refine c_X7_next  (pc' := 43) dX7_isE_40 rfl lkX7_176 (by omega) (Nat.le_of_ble_eq_true rfl) hok.at.1 hsz m5 g1.2.1.1 m51 h256 (fun m2 k1 k6 k7 k8 => ?_)
    obtain ⟨r1, r2⟩ := g1.nx k1 k6 k7 k8
    exact hp (hok.nx t21 (by omega) hok.2.2.2.1 hok.2.2.2.2) m2 _ _ r1 ((hfm.tr g2).tr r2)
  -- at a bracket that closes
  have s13 : ∀ q W c, okP tp sz q W c → sgB tp sz q.2.1 41 = decide (q.2.2.1 = 13) := fun q W c hok => by
    have := sg_tok (s := q.2.1) h256 tc13 (by decide)
    rw [hok.1] at this
    exact this
  have ok7 : ∀ q W c, okP tp sz q W c → (stl 7 W c).1.length + (stl 7 W c).2.length ≤ 160 ∧ ∀ w ∈ (stl 7 W c).1, wtk w := fun q W c hok => ⟨by
    have h1 := hok.2.2.1
    have h2 := hok.2.1
    rw [stl_len]; omega, fun w hw => hok.2.2.2.1 w (stl_mem W c w hw)⟩
  have ok1 : ∀ r q W c, okP tp sz q W c → (stl r W c).1.length + (stl r W c).2.length + 1 ≤ q.2.1 ∧ (∀ w ∈ (stl r W c).1, wtk w) ∧ opc (stl r W c).1 ≤ 5 := fun r q W c hok => ⟨by rw [stl_len]; exact hok.2.2.1, fun w hw => hok.2.2.2.1 w (stl_mem W c w hw), Nat.le_trans (stl_opc W c) hok.2.2.2.2⟩
  -- what stands at 52: a bracket closes
  have at52 : ∀ q W c, okP tp sz q W c → q.2.2.1 = 13 → (∀ (m : Mem) (v1 : Int32) (v2 : Value), isMP m tp sz nt q (stl 1 W c).1 (stl 1 W c).2 → mpf nt mem m → Sim z d 0 0 mX7_isE 57 [.ref 47, .int v1, v2] [] (LAY rf tl) m Q) → ∀ (m : Mem) (v1 : Int32) (v2 : Value), isMP m tp sz nt q (stl 7 W c).1 (stl 7 W c).2 → mpf nt mem m → Sim z d 0 0 mX7_isE 43 [.ref 47, .int v1, v2] [] (LAY rf tl) m Q := by
    intro q W c hok t13 KK m v1 v2 hm hfm
    obtain ⟨m5, m12, m51, m54⟩ := hm.1
    obtain ⟨l1, l2⟩ := ok7 q W c hok
    refine s_aload_n (pc' := 44) dX7_isE_43 rfl lg0 rfl ?_
    refine s_bipush (pc' := 46) dX7_isE_44 rfl bipush_41 ?_
    refine c_X7_isSign (c := 41) (pc' := 49) dX7_isE_46 rfl lkX7_164 (by omega) (Nat.le_of_ble_eq_true rfl) hsz hm.2.1.2.1 hm.2.1.2.2 m51 h256 (by decide) ?_
    rw [s13 q W c hok, decide_eq_true t13]
    refine s_if_eq (pc' := 52) (tgt := 99) dX7_isE_49 rfl (by decide) (fun c9 => absurd c9 (by decide)) (fun _ => ?_)
    refine s_aload_n (pc' := 53) dX7_isE_52 rfl lg0 rfl ?_
    refine s_iconst (pc' := 54) dX7_isE_53 rfl iconst_1 ?_
    refine c_X7_settle (r := 1) (pc' := 57) dX7_isE_54 rfl lkX7_179 (by omega) (Nat.le_of_ble_eq_true rfl) hm hnt l1 l2 (by decide) (fun m1 g1 g2 => ?_)
    rw [stl_comp (by decide)] at g1
    exact KK m1 _ _ g1 (hfm.tr g2)
  have hA1e : ∀ q W c, q.2.2.1 = 13 → (stl 1 W c).1 = [] → PF q → PA q W c := by
    rw [ePF, ePA]
    intro q W c t13 he hp hok
    refine at52 q W c hok t13 (fun m v1 v2 hm hfm => ?_)
    obtain ⟨hB', h678, ⟨k9, k13, k16⟩, hws, hcs'⟩ := id hm
    rw [he] at k16
    refine s_aload_n (pc' := 58) dX7_isE_57 rfl lg0 rfl ?_
    refine s_getIv (pc' := 61) (v := nI 0) dX7_isE_58 rfl flX7_145 ly47 (by decide) rfl k16 ?_
    refine s_if_ne (pc' := 64) (tgt := 66) dX7_isE_61 rfl (by decide) (fun c9 => absurd (nI_0) c9) (fun _ => ?_)
    refine s_iconst (pc' := 65) dX7_isE_64 rfl iconst_0 ?_
    refine s_iret dX7_isE_65 rfl (by decide) ?_
    exact PFd q hp m _ _ hm hfm
  have hA1 : ∀ q W c w V, q.2.2.1 = 13 → (stl 1 W c).1 = w :: V → PA (nxt tp sz q.1) V (stl 1 W c).2 → PA q W c := by
    rw [ePA]
    intro q W c w V t13 he hp hok
    refine at52 q W c hok t13 (fun m v1 v2 hm hfm => ?_)
    obtain ⟨i1, i2, i3⟩ := ok1 1 q W c hok
    have hq' := hok.2.1
    rw [he] at hm i1 i2 i3
    rw [List.length_cons] at i1
    have w12 : w = 12 := by
      have h1 := stl_top W c he
      have h2 := i2 w List.mem_cons_self
      rcases h2 with rfl | rfl | rfl | rfl | rfl | rfl | rfl | rfl | rfl | rfl <;> first | rfl | exact absurd (by decide) h1
    subst w12
    obtain ⟨⟨m5, m12, m51, m54⟩, ⟨k6, k7, k8⟩, ⟨k9, k13, k16⟩, hws, hcs'⟩ := id hm
    have eo : opc (12 :: V) = opc V + 1 := by rw [opc, if_pos (by decide)]
    rw [List.length_cons] at k16
    rw [eo] at k9 i3
    refine s_aload_n (pc' := 58) dX7_isE_57 rfl lg0 rfl ?_
    refine s_getIv (pc' := 61) (v := nI (V.length + 1)) dX7_isE_58 rfl flX7_145 ly47 (by decide) rfl k16 ?_
    refine s_if_ne (pc' := 64) (tgt := 66) dX7_isE_61 rfl (by decide) (fun _ => ?_) (fun c9 => absurd c9 (nI_ne0 (by omega) (by omega)))
    refine s_aload_n (pc' := 67) dX7_isE_66 rfl lg0 rfl ?_
    refine s_dup (pc' := 68) dX7_isE_67 rfl rfl ?_
    refine s_getIv (pc' := 71) (v := nI (V.length + 1)) dX7_isE_68 rfl flX7_145 ly47 (by decide) rfl k16 ?_
    refine s_iconst (pc' := 72) dX7_isE_71 rfl iconst_1 ?_
    refine s_isub (pc' := 73) dX7_isE_72 rfl ?_
    rw [nI_pred]
    refine s_putI (pc' := 76) (ty := .int) dX7_isE_73 rfl flX7_145 fw7_16 pdI rfl rfl ly47 (by decide) rfl ?_
    refine s_aload_n (pc' := 77) dX7_isE_76 rfl lg0 rfl ?_
    refine s_dup (pc' := 78) dX7_isE_77 rfl rfl ?_
    refine s_getIv (pc' := 81) (v := nI (opc V + 1)) dX7_isE_78 rfl flX7_158 ly47 (by decide) rfl (by rw [upE, udN (by decide)]; exact k9) ?_
    refine s_iconst (pc' := 82) dX7_isE_81 rfl iconst_1 ?_
    refine s_isub (pc' := 83) dX7_isE_82 rfl ?_
    rw [nI_pred]
    have hf2 : mpf nt m (am_up (am_up m 47 16 (nI V.length)) 47 9 (nI (opc V))) := ⟨fun j q1 q2 q3 => by rw [upN q1, upN q1], fun k q1 q2 q3 q4 q5 q6 => by rw [upE, udN q4, upE, udN q6], fun k _ => by rw [upN (by decide), upN (by decide)]⟩
    have hm2 : isMP (am_up (am_up m 47 16 (nI V.length)) 47 9 (nI (opc V))) tp sz nt q V (stl 1 W c).2 := ⟨isMB.mpf ⟨m5, m12, m51, m54⟩ hf2, ⟨by rw [upE, udN (by decide), upE, udN (by decide)]; exact k6, by rw [upE, udN (by decide), upE, udN (by decide)]; exact k7, by rw [upE, udN (by decide), upE, udN (by decide)]; exact k8⟩, ⟨by rw [upE, udE], by rw [upE, udN (by decide), upE, udN (by decide)]; exact k13, by rw [upE, udN (by decide), upE, udE]⟩, hws.pop.cp (by rw [upN (by decide), upN (by decide)]), hcs'.cp (by rw [upN (by decide), upN (by decide)])⟩
    have hkV : ∀ w ∈ V, wtk w := fun w hw => i2 w (List.mem_cons_of_mem _ hw)
    refine s_putI (pc' := 86) (ty := .int) dX7_isE_83 rfl flX7_158 fw7_9 pdI rfl rfl ly47 (by decide) rfl ?_
    refine s_aload_n (pc' := 87) dX7_isE_86 rfl lg0 rfl ?_
    refine s_bipush (pc' := 89) dX7_isE_87 rfl bipush_7 ?_
    refine c_X7_settle (r := 7) (pc' := 92) dX7_isE_89 rfl lkX7_179 (by omega) (Nat.le_of_ble_eq_true rfl) hm2 hnt (by omega) hkV (by decide) (fun m1 g1 g2 => ?_)
    obtain ⟨n5, n12, n51, n54⟩ := g1.1
    refine s_aload_n (pc' := 93) dX7_isE_92 rfl lg0 rfl ?_
    refine c_X7_next  (pc' := 96) dX7_isE_93 rfl lkX7_176 (by omega) (Nat.le_of_ble_eq_true rfl) hok.at.1 hsz n5 g1.2.1.1 n51 h256 (fun m2 j1 j6 j7 j8 => ?_)
    obtain ⟨r1, r2⟩ := g1.nx j1 j6 j7 j8
    have hl1 := stl_len (r := 1) W c
    rw [he, List.length_cons] at hl1
    refine s_goto (tgt := 43) dX7_isE_96 (by decide) ?_
    exact hp (hok.nx (by omega) (by omega) hkV (by omega)) m2 _ _ r1 (((hfm.tr hf2).tr g2).tr r2)
  -- no bracket: 99
  have at99 : ∀ q W c, okP tp sz q W c → ¬ q.2.2.1 = 13 → (∀ (m : Mem) (v1 : Int32), isMP m tp sz nt q (stl 7 W c).1 (stl 7 W c).2 → mpf nt mem m → Sim z d 0 0 mX7_isE 104 [.ref 47, .int v1, .int (btI q.2.2.1)] [] (LAY rf tl) m Q) → ∀ (m : Mem) (v1 : Int32) (v2 : Value), isMP m tp sz nt q (stl 7 W c).1 (stl 7 W c).2 → mpf nt mem m → Sim z d 0 0 mX7_isE 43 [.ref 47, .int v1, v2] [] (LAY rf tl) m Q := by
    intro q W c hok t13 KK m v1 v2 hm hfm
    obtain ⟨m5, m12, m51, m54⟩ := hm.1
    refine s_aload_n (pc' := 44) dX7_isE_43 rfl lg0 rfl ?_
    refine s_bipush (pc' := 46) dX7_isE_44 rfl bipush_41 ?_
    refine c_X7_isSign (c := 41) (pc' := 49) dX7_isE_46 rfl lkX7_164 (by omega) (Nat.le_of_ble_eq_true rfl) hsz hm.2.1.2.1 hm.2.1.2.2 m51 h256 (by decide) ?_
    rw [s13 q W c hok, decide_eq_false t13]
    refine s_if_eq (pc' := 52) (tgt := 99) dX7_isE_49 rfl (by decide) (fun _ => ?_) (fun c9 => absurd (by decide) c9)
    refine s_aload_n (pc' := 100) dX7_isE_99 rfl lg0 rfl ?_
    refine c_X7_between  (pc' := 103) dX7_isE_100 rfl lkX7_182 (by omega) (Nat.le_of_ble_eq_true rfl) hok.2.1 hsz (by rw [hok.1]; exact hm.2.1.1) hm.2.1.2.1 hm.2.1.2.2 m51 h256 m54 ?_
    rw [hok.1]
    refine s_istore_n (pc' := 104) dX7_isE_103 rfl (Nat.le_of_ble_eq_true rfl) rfl ls2 ?_
    exact KK m _ hm hfm
  have bt0 : ∀ t : Nat, ¬ lvN t < 5 → btI t = 0 := fun t h => by unfold btI; rw [if_neg h]
  have at113 : ∀ q W c, okP tp sz q W c → ¬ q.2.2.1 = 13 → ¬ lvN q.2.2.1 < 5 → (∀ (m : Mem) (v1 : Int32) (v2 : Value), isMP m tp sz nt q (stl 1 W c).1 (stl 1 W c).2 → mpf nt mem m → Sim z d 0 0 mX7_isE 113 [.ref 47, .int v1, v2] [] (LAY rf tl) m Q) → ∀ (m : Mem) (v1 : Int32) (v2 : Value), isMP m tp sz nt q (stl 7 W c).1 (stl 7 W c).2 → mpf nt mem m → Sim z d 0 0 mX7_isE 43 [.ref 47, .int v1, v2] [] (LAY rf tl) m Q := by
    intro q W c hok t13 hlv KK
    refine at99 q W c hok t13 (fun m v1 hm hfm => ?_)
    rw [bt0 _ hlv]
    obtain ⟨l1, l2⟩ := ok7 q W c hok
    refine s_iload_n (pc' := 105) dX7_isE_104 rfl lg2 ?_
    refine s_if_ne (pc' := 108) (tgt := 126) dX7_isE_105 rfl (by decide) (fun c9 => absurd (rfl) c9) (fun _ => ?_)
    refine s_aload_n (pc' := 109) dX7_isE_108 rfl lg0 rfl ?_
    refine s_iconst (pc' := 110) dX7_isE_109 rfl iconst_1 ?_
    refine c_X7_settle (r := 1) (pc' := 113) dX7_isE_110 rfl lkX7_179 (by omega) (Nat.le_of_ble_eq_true rfl) hm hnt l1 l2 (by decide) (fun m1 g1 g2 => ?_)
    rw [stl_comp (by decide)] at g1
    exact KK m1 _ _ g1 (hfm.tr g2)
  have hA3 : ∀ q W c, ¬ q.2.2.1 = 13 → ¬ lvN q.2.2.1 < 5 → ¬ (stl 1 W c).1 = [] → PF q → PA q W c := by
    rw [ePF, ePA]
    intro q W c t13 hlv hne hp hok
    refine at113 q W c hok t13 hlv (fun m v1 v2 hm hfm => ?_)
    obtain ⟨i1, i2, i3⟩ := ok1 1 q W c hok
    have hq' := hok.2.1
    have k16 := hm.2.2.1.2.2
    have hpos : 0 < (stl 1 W c).1.length := List.length_pos_iff.mpr hne
    refine s_aload_n (pc' := 114) dX7_isE_113 rfl lg0 rfl ?_
    refine s_getIv (pc' := 117) (v := nI (stl 1 W c).1.length) dX7_isE_114 rfl flX7_145 ly47 (by decide) rfl k16 ?_
    refine s_if_ne (pc' := 120) (tgt := 124) dX7_isE_117 rfl (by decide) (fun _ => ?_) (fun c9 => absurd c9 (nI_ne0 hpos (by omega)))
    refine s_iconst (pc' := 125) dX7_isE_124 rfl iconst_0 ?_
    refine s_iret dX7_isE_125 rfl (by decide) ?_
    exact PFd q hp m _ _ hm hfm
  have hA3e : ∀ q W c, ¬ q.2.2.1 = 13 → ¬ lvN q.2.2.1 < 5 → (stl 1 W c).1 = [] → (nxs tp sz q.2.1 = q → ∀ mem', isMP mem' tp sz nt q [] (stl 1 W c).2 → mpf nt mem mem' → Q (some (.int 1)) (LAY rf tl) mem') → PA q W c := by
    rw [ePA]
    intro q W c t13 hlv he hp hok
    refine at113 q W c hok t13 hlv (fun m v1 v2 hm hfm => ?_)
    rw [he] at hm
    have k16 := hm.2.2.1.2.2
    refine s_aload_n (pc' := 114) dX7_isE_113 rfl lg0 rfl ?_
    refine s_getIv (pc' := 117) (v := nI 0) dX7_isE_114 rfl flX7_145 ly47 (by decide) rfl k16 ?_
    refine s_if_ne (pc' := 120) (tgt := 124) dX7_isE_117 rfl (by decide) (fun c9 => absurd (nI_0) c9) (fun _ => ?_)
    refine s_iconst (pc' := 121) dX7_isE_120 rfl iconst_1 ?_
    refine s_goto (tgt := 125) dX7_isE_121 (by decide) ?_
    refine s_iret dX7_isE_125 rfl (by decide) ?_
    exact hp hok.1 m hm hfm
  -- a deed between two: 146
  have at146 : ∀ q W c, okP tp sz q W c → lvN q.2.2.1 < 5 → (∀ (m : Mem) (v1 : Int32), isMP m tp sz nt q (stl (if rkN q.2.2.1 = 4 then 5 else rkN q.2.2.1) W c).1 (stl (if rkN q.2.2.1 = 4 then 5 else rkN q.2.2.1) W c).2 → mpf nt mem m → Sim z d 0 0 mX7_isE 150 [.ref 47, .int v1, .int (btI q.2.2.1)] [.int (nI (rkN q.2.2.1))] (LAY rf tl) m Q) → ∀ (m : Mem) (v1 : Int32) (v2 : Value), isMP m tp sz nt q (stl 7 W c).1 (stl 7 W c).2 → mpf nt mem m → Sim z d 0 0 mX7_isE 43 [.ref 47, .int v1, v2] [] (LAY rf tl) m Q := by
    intro q W c hok hlv KK
    obtain ⟨o1, o2, o3, o4, -, -, -, -, -⟩ := lv_rk hlv
    obtain ⟨b1, b2, b3⟩ := rkI_bt hlv
    have r7 := (rk_dM o4).2.2.2
    refine at99 q W c hok o2 (fun m v1 hm hfm => ?_)
    obtain ⟨l1, l2⟩ := ok7 q W c hok
    have fin : ∀ r : Nat, r ≤ 7 → (if rkN q.2.2.1 = 4 then 5 else rkN q.2.2.1) = r → Sim z d 0 0 mX7_isE 143 [.ref 47, .int v1, .int (btI q.2.2.1)] [.int (nI r), .ref 47] (LAY rf tl) m Q := by
      intro r hr er
      rw [er] at KK
      refine c_X7_settle  (pc' := 146) dX7_isE_143 rfl lkX7_179 (by omega) (Nat.le_of_ble_eq_true rfl) hm hnt l1 l2 hr (fun m1 g1 g2 => ?_)
      rw [stl_comp hr] at g1
      refine s_iload_n (pc' := 147) dX7_isE_146 rfl lg2 ?_
      refine c_X7_rank (pc' := 150) dX7_isE_147 rfl lkX7_148 (by omega) (Nat.le_of_ble_eq_true rfl)  ?_
      rw [b1]
      exact KK m1 _ g1 (hfm.tr g2)
    refine s_iload_n (pc' := 105) dX7_isE_104 rfl lg2 ?_
    refine s_if_ne (pc' := 108) (tgt := 126) dX7_isE_105 rfl (by decide) (fun _ => ?_) (fun c9 => absurd c9 (b2))
    refine s_aload_n (pc' := 127) dX7_isE_126 rfl lg0 rfl ?_
    refine s_iload_n (pc' := 128) dX7_isE_127 rfl lg2 ?_
    refine c_X7_rank (pc' := 131) dX7_isE_128 rfl lkX7_148 (by omega) (Nat.le_of_ble_eq_true rfl)  ?_
    rw [b1]
    refine s_iconst (pc' := 132) dX7_isE_131 rfl iconst_4 ?_
    by_cases r4 : rkN q.2.2.1 = 4
    · refine s_icmp_ne (pc' := 135) (tgt := 139) dX7_isE_132 rfl (by decide) (fun c9 => absurd (by rw [r4]; decide) c9) (fun _ => ?_)
      refine s_iconst (pc' := 136) dX7_isE_135 rfl iconst_5 ?_
      refine s_goto (tgt := 143) dX7_isE_136 (by decide) ?_
      exact fin 5 (by decide) (if_pos r4)
    · skip
      refine s_icmp_ne (pc' := 135) (tgt := 139) dX7_isE_132 rfl (by decide) (fun _ => ?_) (fun c9 => absurd c9 (fun h => r4 ((nI_eq (a := rkN q.2.2.1) (b := 4) (by omega) (by omega)).mp h)))
      refine s_iload_n (pc' := 140) dX7_isE_139 rfl lg2 ?_
      refine c_X7_rank (pc' := 143) dX7_isE_140 rfl lkX7_148 (by omega) (Nat.le_of_ble_eq_true rfl)  ?_
      rw [b1]
      exact fin _ r7 (if_neg r4)
  have hA2 : ∀ q W c, lvN q.2.2.1 < 5 → rkN q.2.2.1 = 4 → rkT (stl 5 W c).1 = 4 → PF q → PA q W c := by
    rw [ePF, ePA]
    intro q W c hlv r4 ht hp hok
    refine at146 q W c hok hlv (fun m v1 hm hfm => ?_)
    obtain ⟨i1, i2, i3⟩ := ok1 5 q W c hok
    have hq' := hok.2.1
    rw [if_pos r4] at hm
    rw [r4]
    refine s_iconst (pc' := 151) dX7_isE_150 rfl iconst_4 ?_
    refine s_icmp_ne (pc' := 154) (tgt := 164) dX7_isE_151 rfl (by decide) (fun c9 => absurd (by decide) c9) (fun _ => ?_)
    refine s_aload_n (pc' := 155) dX7_isE_154 rfl lg0 rfl ?_
    refine c_X7_last  (pc' := 158) dX7_isE_155 rfl lkX7_151 (by omega) (Nat.le_of_ble_eq_true rfl) hm.2.2.1.2.2 hm.2.2.2.1 i2 (by omega) ?_
    rw [ht]
    refine s_iconst (pc' := 159) dX7_isE_158 rfl iconst_4 ?_
    refine s_icmp_ne (pc' := 162) (tgt := 164) dX7_isE_159 rfl (by decide) (fun c9 => absurd (by decide) c9) (fun _ => ?_)
    refine s_iconst (pc' := 163) dX7_isE_162 rfl iconst_0 ?_
    refine s_iret dX7_isE_163 rfl (by decide) ?_
    exact PFd q hp m _ _ hm hfm
  have hA2' : ∀ q W c, lvN q.2.2.1 < 5 → ¬ (rkN q.2.2.1 = 4 ∧ rkT (stl (if rkN q.2.2.1 = 4 then 5 else rkN q.2.2.1) W c).1 = 4) → PB (nxt tp sz q.1) (q.2.2.1 :: (stl (if rkN q.2.2.1 = 4 then 5 else rkN q.2.2.1) W c).1) (stl (if rkN q.2.2.1 = 4 then 5 else rkN q.2.2.1) W c).2 → PA q W c := by
    rw [ePB, ePA]
    intro q W c hlv hn hp hok
    refine at146 q W c hok hlv (fun m v1 hm hfm => ?_)
    obtain ⟨o1, o2, o3, o4, -, -, -, -, -⟩ := lv_rk hlv
    obtain ⟨b1, b2, b3⟩ := rkI_bt hlv
    have r7 := (rk_dM o4).2.2.2
    generalize (if rkN q.2.2.1 = 4 then 5 else rkN q.2.2.1) = r at hn hp hm
    obtain ⟨i1, i2, i3⟩ := ok1 r q W c hok
    have hq' := hok.2.1
    have hl1 := stl_len (r := r) W c
    have rest : ∀ v1 : Int32, Sim z d 0 0 mX7_isE 164 [.ref 47, .int v1, .int (btI q.2.2.1)] [] (LAY rf tl) m Q := by
      intro v1
      rw [b3]
      refine s_aload_n (pc' := 165) dX7_isE_164 rfl lg0 rfl ?_
      refine s_iload_n (pc' := 166) dX7_isE_165 rfl lg2 ?_
      refine c_X7_await  (pc' := 169) dX7_isE_166 rfl lkX7_170 (by omega) (Nat.le_of_ble_eq_true rfl) hm.2.2.1.2.2 (by omega) ?_
      obtain ⟨g1, g2⟩ := hm.aw o3
      obtain ⟨n5, n12, n51, n54⟩ := g1.1
      refine s_aload_n (pc' := 170) dX7_isE_169 rfl lg0 rfl ?_
      refine c_X7_next  (pc' := 173) dX7_isE_170 rfl lkX7_176 (by omega) (Nat.le_of_ble_eq_true rfl) hok.at.1 hsz n5 g1.2.1.1 n51 h256 (fun m2 j1 j6 j7 j8 => ?_)
      obtain ⟨r1, r2⟩ := g1.nx j1 j6 j7 j8
      refine s_goto (tgt := 5) dX7_isE_173 (by decide) ?_
      refine (hp (hok.nx ?_ (by rw [List.length_cons]; omega) (fun w hw => ?_) ?_) m2 _ _ r1 ((hfm.tr g2).tr r2)).1
      · intro h; rw [h] at hlv; exact absurd hlv (by decide)
      · rcases List.mem_cons.mp hw with h | h
        · rw [h]; exact o4
        · exact i2 w h
      · rw [opc, if_neg o3]; exact i3
    have hr7 : rkT (stl r W c).1 ≤ 7 := by
      generalize (stl r W c).1 = V at i2
      cases V with
      | nil => exact Nat.zero_le _
      | cons w V => exact (rk_dM (i2 w List.mem_cons_self)).2.2.2
    refine s_iconst (pc' := 151) dX7_isE_150 rfl iconst_4 ?_
    by_cases r4 : rkN q.2.2.1 = 4
    · refine s_icmp_ne (pc' := 154) (tgt := 164) dX7_isE_151 rfl (by decide) (fun c9 => absurd (by rw [r4]; decide) c9) (fun _ => ?_)
      refine s_aload_n (pc' := 155) dX7_isE_154 rfl lg0 rfl ?_
      refine c_X7_last  (pc' := 158) dX7_isE_155 rfl lkX7_151 (by omega) (Nat.le_of_ble_eq_true rfl) hm.2.2.1.2.2 hm.2.2.2.1 i2 (by omega) ?_
      refine s_iconst (pc' := 159) dX7_isE_158 rfl iconst_4 ?_
      refine s_icmp_ne (pc' := 162) (tgt := 164) dX7_isE_159 rfl (by decide) (fun _ => ?_) (fun c9 => absurd c9 (fun h => hn ⟨r4, (nI_eq (a := rkT (stl r W c).1) (b := 4) (by omega) (by omega)).mp h⟩))
      exact rest _
    · skip
      refine s_icmp_ne (pc' := 154) (tgt := 164) dX7_isE_151 rfl (by decide) (fun _ => ?_) (fun c9 => absurd c9 (fun h => r4 ((nI_eq (a := rkN q.2.2.1) (b := 4) (by omega) (by omega)).mp h)))
      exact rest _
  have main : PB st.1 [] st.2.1 := by
    refine pe_all (tp := tp) (sz := sz) (PB := PB) (PA := PA) (PF := PF) hsz hB0 hB1 hB2 hA1 hA2 hA2' hA3 48 0 0 0 0 1 st [] st.2.1 hsl (Or.inl ⟨rfl, by decide, Nat.zero_le _, fun h => absurd h (by decide)⟩) (by decide) (by decide) hf rfl ?_ ?_
    · intro hr W' c' cc g1 g2 g3 g4
      rw [List.append_nil] at g4 ⊢
      have hst : stl 1 (W' ++ []) c' = ([], c' ++ flu W') := stl_all (W := []) (fun h => absurd h.1 (by decide)) W' c' (fun w hw => by
        have := g3 w hw
        have : lr 0 = 1 := by decide
        omega)
      rw [List.append_nil] at hst
      have pf : ¬ (rd tp sz 48 0 0 0 0 st).1.2.2.1 = 14 → PF (rd tp sz 48 0 0 0 0 st).1 := by
        intro h
        rw [ePF]
        intro mem' h1 h2 h3
        exact KF _ mem' h1 h2 h3 (Or.inr ⟨hr, h, rfl⟩)
      rcases g4 with g | g | ⟨u1, u2, u3⟩
      · exact absurd g (Nat.not_lt_zero _)
      · by_cases t13 : (rd tp sz 48 0 0 0 0 st).1.2.2.1 = 13
        · exact hA1e _ _ _ t13 (by rw [hst]) (pf (by omega))
        · refine hA3e _ _ _ t13 (by omega) (by rw [hst]) (fun h0 mem' h1 h2 => KT hr h0 mem' ?_ h2)
          rw [hst] at h1
          rw [g1, ← g2]; exact h1
      · have l5 := (lv_rk (t := (rd tp sz 48 0 0 0 0 st).1.2.2.1) (by omega)).2.2.2.2.2.2.1 u1
        refine hA2 _ _ _ (by omega) l5 (by rw [stl_fst _ c' []]; exact u3) (pf (fun h => ?_))
        rw [h] at u1; exact absurd u1 (by decide)
    · intro hr q hq
      rw [ePF]
      intro mem' h1 h2 h3
      exact KF q mem' h1 h2 h3 (Or.inl ⟨hr, hq⟩)
  rw [ePB] at main
  have hf0 : mpf nt mem (am_up mem 47 16 0) := ⟨fun j q1 q2 q3 => by rw [upN q1], fun k q1 q2 q3 q4 q5 q6 => by rw [upE, udN q6], fun k _ => by rw [upN (by decide)]⟩
  refine s_aload_n (pc' := 1) dX7_isE_0 rfl lg0 rfl ?_
  refine s_iconst (pc' := 2) dX7_isE_1 rfl iconst_0 ?_
  refine s_putI (pc' := 5) (ty := .int) dX7_isE_2 rfl flX7_145 fw7_16 pdI rfl rfl ly47 (by decide) rfl ?_
  exact (main ⟨hq, slk_sr hsl, by have := hsl.2; rw [List.length_nil]; omega, fun w hw => absurd hw List.not_mem_nil, Nat.zero_le _⟩ _ _ _ ⟨hB.mpf hf0, ⟨by rw [upE, udN (by decide)]; exact h6, by rw [upE, udN (by decide)]; exact h7, by rw [upE, udN (by decide)]; exact h8⟩, ⟨by rw [upE, udN (by decide)]; exact h9, by rw [upE, udN (by decide)]; exact h13, by rw [upE, udE]; rfl⟩, fun i hi => absurd hi (Nat.not_lt_zero i), hcs.cp (by rw [upN (by decide)])⟩ hf0).1
theorem c_X7_isE {z : Zz} {d kc ks : Nat} {mi : MI} {pc pc' : Nat} {L S : List Value} {Q : Option Value → Lay → Mem → Prop} {rf : Nat → Value} {tl : Lay} {mem : Mem}  {sz nt : Nat} {tp : Nat → Nat} {st : PS} {idx : Nat} (hd : decode mi.2.1 pc = .ok (.invokevirtual idx, 3)) (hp : pc + 3 = pc') (hlk : Cond.methodLink mi.1.cls idx yX7_isE ∈ wok) (hdd : 4 + 1 ≤ d) (hcat : (S.map (fun v => v.category)).sum ≤ 8) (hB : isMB mem tp sz nt) (h6 : mem 47 6 = nI st.1.1) (h7 : mem 47 7 = nI st.1.2.1) (h8 : mem 47 8 = nI (srtN tp sz st.1.2.1)) (h9 : mem 47 9 = 0) (h13 : mem 47 13 = nI st.2.1.length) (hcs : cst mem nt st.2.1) (hsz : sz ≤ 160) (h256 : ∀ i, i < sz → tp i < 256) (hnt : nt < 6) (hsl : slk sz 1 st) (hq : nxs tp sz st.1.2.1 = st.1) (hf : st.2.2 = -1) (K : ∀ (b : Bool) (q : Tk) mem', eEnd tp sz nt st b q mem' → mpf nt mem mem' → Sim z d kc ks mi pc' L (.int (bI b) :: S) (LAY rf tl) mem' Q) : Sim z d kc ks mi pc L (.ref 47 :: S) (LAY rf tl) mem Q :=
  s_invV (d2 := 4) hd hp okX7_isE hlk inX7_isE seX7_isE hdd (Nat.zero_add _) (Nat.zero_add _) rfl rfl ly47 rfl hcat (Nat.le_of_ble_eq_true rfl) (m_X7_isE (Nat.le_refl _) hB h6 h7 h8 h9 h13 hcs hsz h256 hnt hsl hq hf K)

