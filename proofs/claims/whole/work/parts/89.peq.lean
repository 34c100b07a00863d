/-! ===== the two readings are one ===== -/
def lr (lev : Nat) : Nat := if lev = 0 then 1 else if lev = 1 then 2 else if lev = 2 then 3 else if lev = 3 then 5 else if lev = 4 then 6 else 7
def bnd (lev : Nat) : Nat := if lev = 0 then 0 else if lev = 1 then 1 else if lev = 2 then 3 else if lev = 3 then 4 else if lev = 4 then 5 else 7
def flu (W : List Nat) : List Int32 := W.map (fun w => -1 - nI w)
theorem flu_app {a b : List Nat} : flu (a ++ b) = flu a ++ flu b := List.map_append
theorem flu_one {w : Nat} : flu [w] = [-1 - nI w] := rfl
theorem stl_stop {r : Nat} {W : List Nat} {c : List Int32} (h : ¬ (0 < rkT W ∧ r ≤ rkT W)) : stl r W c = (W, c) := by
  cases W with
  | nil => rfl
  | cons w W => exact stl_f h
theorem stl_all {r : Nat} {W : List Nat} (h : ¬ (0 < rkT W ∧ r ≤ rkT W)) : ∀ (V : List Nat) (c : List Int32), (∀ w ∈ V, 0 < rkN w ∧ r ≤ rkN w) → stl r (V ++ W) c = (W, c ++ flu V)
  | [], c, _ => by rw [List.nil_append, stl_stop h, show flu [] = [] from rfl, List.append_nil]
  | v :: V, c, hv => by
    rw [List.cons_append, stl_t (hv v List.mem_cons_self), stl_all h V _ (fun w hw => hv w (List.mem_cons_of_mem _ hw)), List.append_assoc]
    rfl
theorem stl_fst {r : Nat} : ∀ (V : List Nat) (c c' : List Int32), (stl r V c).1 = (stl r V c').1
  | [], _, _ => rfl
  | v :: V, c, c' => by
    by_cases h : 0 < rkN v ∧ r ≤ rkN v
    · rw [stl_t h, stl_t h]; exact stl_fst V _ _
    · rw [stl_f h, stl_f h]
def blk (V : List Nat) : Prop := rkT (stl 5 V []).1 = 4
def stp (L t : Nat) (V : List Nat) : Prop := lvN t < L ∨ 5 ≤ lvN t ∨ (lvN t = 2 ∧ L ≤ 2 ∧ blk V)
theorem lv_rk {t : Nat} (h : lvN t < 5) : t < 24 ∧ ¬ t = 13 ∧ ¬ (t = 11 ∨ t = 12 ∨ t = 23) ∧ wtk t ∧ (lvN t = 0 → rkN t = 1) ∧ (lvN t = 1 → rkN t = 2) ∧ (lvN t = 2 → rkN t = 4) ∧ (lvN t = 3 → rkN t = 5) ∧ (lvN t = 4 → rkN t = 6) := by
  have h24 : t < 24 := (lvN_op rfl h).2.1
  have key : ∀ t : Fin 24, lvN t.1 < 5 → ¬ t.1 = 13 ∧ ¬ (t.1 = 11 ∨ t.1 = 12 ∨ t.1 = 23) ∧ (lvN t.1 = 0 → rkN t.1 = 1) ∧ (lvN t.1 = 1 → rkN t.1 = 2) ∧ (lvN t.1 = 2 → rkN t.1 = 4) ∧ (lvN t.1 = 3 → rkN t.1 = 5) ∧ (lvN t.1 = 4 → rkN t.1 = 6) ∧ (t.1 = 9 ∨ t.1 = 10 ∨ t.1 = 11 ∨ t.1 = 12 ∨ t.1 = 15 ∨ t.1 = 16 ∨ t.1 = 17 ∨ t.1 = 18 ∨ t.1 = 19 ∨ t.1 = 23) := by decide +kernel
  obtain ⟨a, b, c, d, e, f, g, w⟩ := key ⟨t, h24⟩ h
  exact ⟨h24, a, b, w, c, d, e, f, g⟩
theorem lr_pos {lev : Nat} : 0 < lr lev := by unfold lr; (repeat' split) <;> decide
theorem lr_op {t lev : Nat} (hl : lev < 5) (h : lvN t = lev) (h2 : lev ≠ 2) : rkN t = lr lev := by
  obtain ⟨-, -, -, -, e0, e1, e2, e3, e4⟩ := lv_rk (t := t) (by omega)
  have : lev = 0 ∨ lev = 1 ∨ lev = 3 ∨ lev = 4 := by omega
  rcases this with q | q | q | q
  · subst q; rw [e0 h]; rfl
  · subst q; rw [e1 h]; rfl
  · subst q; rw [e3 h]; rfl
  · subst q; rw [e4 h]; rfl
theorem lev_fact : ∀ l : Fin 5, bnd l.1 < lr l.1 + (if l.1 = 2 then 1 else 0) ∧ lr l.1 ≤ lr (l.1 + 1) ∧ bnd l.1 ≤ bnd (l.1 + 1) ∧ (l.1 ≠ 2 → lr l.1 ≤ bnd (l.1 + 1)) ∧ (l.1 ≠ 2 → 3 ≤ l.1 + 1 → 4 ≤ lr l.1) ∧ (l.1 ≠ 2 → ¬ lr l.1 = 4) := by decide
theorem rkT_app {w : Nat} {V W : List Nat} : rkT (w :: V ++ W) = rkN w := rfl
theorem rd_start {tp : Nat → Nat} {sz D lev op j e : Nat} {st : PS} {cc : List Int32} (h : slk sz e st) (hc : (rd tp sz D 0 lev op j st).2.1 = st.2.1 ++ cc) : st.1.2.1 ≤ (rd tp sz D 0 lev op j st).1.2.1 := by
  have h0 : slk sz (st.1.2.1 - st.2.1.length) st := ⟨h.1, by have := h.2; omega⟩
  have h1 := (rd_slk (tp := tp) D 0 lev op j _ st h0 (Or.inl rfl)).2
  rw [hc, List.length_append] at h1
  have := h.2
  omega
theorem rd_lev {tp : Nat → Nat} {sz D op : Nat} {st : PS} : rd tp sz D 1 0 op 0 st = rd tp sz D 1 5 op 0 st := by
  cases D with
  | zero => rfl
  | succ D => rw [rd_O, rd_O]
theorem pe_all {tp : Nat → Nat} {sz : Nat} {PB PA : Tk → List Nat → List Int32 → Prop} {PF : Tk → Prop} (hsz : sz ≤ 160)
    (hB0 : ∀ q W c, (bgS q.2.2.1 q.2.2.2 W c).1 = 0 → PF q → PB q W c)
    (hB1 : ∀ q W c, (bgS q.2.2.1 q.2.2.2 W c).1 = 1 → PA (nxt tp sz q.1) W (bgS q.2.2.1 q.2.2.2 W c).2.2 → PB q W c)
    (hB2 : ∀ q W c, (bgS q.2.2.1 q.2.2.2 W c).1 = 2 → PB (nxt tp sz q.1) (bgS q.2.2.1 q.2.2.2 W c).2.1 c → PB q W c)
    (hA1 : ∀ q W c w V, q.2.2.1 = 13 → (stl 1 W c).1 = w :: V → PA (nxt tp sz q.1) V (stl 1 W c).2 → PA q W c)
    (hA2 : ∀ q W c, lvN q.2.2.1 < 5 → rkN q.2.2.1 = 4 → rkT (stl 5 W c).1 = 4 → PF q → PA q W c)
    (hA2' : ∀ q W c, lvN q.2.2.1 < 5 → ¬ (rkN q.2.2.1 = 4 ∧ rkT (stl (if rkN q.2.2.1 = 4 then 5 else rkN q.2.2.1) W c).1 = 4) → PB (nxt tp sz q.1) (q.2.2.1 :: (stl (if rkN q.2.2.1 = 4 then 5 else rkN q.2.2.1) W c).1) (stl (if rkN q.2.2.1 = 4 then 5 else rkN q.2.2.1) W c).2 → PA q W c)
    (hA3 : ∀ q W c, ¬ q.2.2.1 = 13 → ¬ lvN q.2.2.1 < 5 → ¬ (stl 1 W c).1 = [] → PF q → PA q W c) :
    ∀ (D m lev op j e : Nat) (st : PS) (W : List Nat) (c : List Int32), slk sz e st → (m = 0 ∧ 8 * (5 - op) + (5 - lev) + 3 ≤ D ∧ rkT W ≤ bnd lev ∧ (3 ≤ lev → st.1.2.2.1 = 11 → 4 ≤ rkT W) ∨ m = 1 ∧ 8 * (5 - op) + 2 ≤ D ∧ lev = 5 ∧ (st.1.2.2.1 = 11 → 4 ≤ rkT W) ∨ m = 2 ∧ 8 * (5 - op) + 1 ≤ D ∧ ((lev = 2 ∧ j = 11 ∧ st.1.2.2.1 = 11 ∧ rkT W ≤ 3) ∨ (lev = 5 ∧ j = 23 ∧ st.1.2.2.1 = 16))) → lev ≤ 5 → op ≤ 5 → st.2.2 = -1 → op = opc W →
      ((rd tp sz D m lev op j st).2.2 = -1 → ∀ W' c' cc, (rd tp sz D m lev op j st).2.1 = st.2.1 ++ cc → c' ++ flu W' = c ++ cc → (∀ w ∈ W', lr lev ≤ rkN w) → stp lev (rd tp sz D m lev op j st).1.2.2.1 (W' ++ W) → PA (rd tp sz D m lev op j st).1 (W' ++ W) c') →
      (¬ (rd tp sz D m lev op j st).2.2 = -1 → ∀ q : Tk, (rd tp sz D m lev op j st).2.2 = nI q.2.1 → PF q) → PB st.1 W c
  | 0, m, lev, op, j, e, st, W, c, _, hm, _, _, _, _, _, _ => by omega
  | D + 1, m, lev, op, j, e, st, W, c, h, hm, hlev, hop, hf, hopc, ok, bad => by
    have ih := pe_all (tp := tp) (sz := sz) (PB := PB) (PA := PA) (PF := PF) hsz hB0 hB1 hB2 hA1 hA2 hA2' hA3 D
    have hneg : ∀ p : Nat, p ≤ sz → ¬ nI p = -1 := fun p hp => nI_m1 (by omega)
    have fail : (bgS st.1.2.2.1 st.1.2.2.2 W c).1 = 0 → rd tp sz (D + 1) m lev op j st = faP st → PB st.1 W c := by
      intro hb hr
      rw [hr] at bad
      exact hB0 _ _ _ hb (bad (hneg _ (slk_sr h)) st.1 rfl)
    rcases hm with ⟨rfl, hD, hpre, hpre3⟩ | ⟨rfl, hD, rfl, hpre3⟩ | ⟨rfl, hD, hpre⟩
    · rw [rd_F, if_pos hf] at ok bad
      by_cases c2 : 5 ≤ lev
      · have : lev = 5 := by omega
        subst this
        rw [if_pos c2, rd_lev] at ok bad
        exact ih 1 5 op 0 e st W c h (Or.inr (Or.inl ⟨rfl, by omega, rfl, hpre3 (by decide)⟩)) (by omega) hop hf hopc ok bad
      · rw [if_neg c2] at ok bad
        by_cases c3 : lev = 2 ∧ st.1.2.2.1 = 11
        · rw [if_pos c3] at ok bad
          obtain ⟨rfl, c3⟩ := c3
          exact ih 2 2 op 11 e st W c h (Or.inr (Or.inr ⟨rfl, by omega, Or.inl ⟨rfl, rfl, c3, hpre⟩⟩)) (by omega) hop hf hopc ok bad
        · rw [if_neg c3] at ok bad
          obtain ⟨f1, f2, f3, f4, f5, f6⟩ := lev_fact ⟨lev, by omega⟩
          dsimp only at f1 f2 f3 f4 f5 f6
          have loop : ∀ (k : Nat) (s2 : PS) (W' : List Nat) (c' cc : List Int32), slk sz e s2 → s2.2.2 = -1 → s2.2.1 = st.2.1 ++ cc → c' ++ flu W' = c ++ cc → (∀ w ∈ W', lr lev ≤ rkN w) → stp (lev + 1) s2.1.2.2.1 (W' ++ W) → ((lev ≠ 2 ∧ sz ≤ s2.1.2.1 + k) ∨ (lev = 2 ∧ ((k = 1 ∧ ∀ w ∈ W', 5 ≤ rkN w) ∨ (k = 0 ∧ blk (W' ++ W))))) →
              ((rdL tp sz (rd tp sz D 0 (lev + 1) op 0) lev k s2).2.2 = -1 → ∀ W' c' cc, (rdL tp sz (rd tp sz D 0 (lev + 1) op 0) lev k s2).2.1 = st.2.1 ++ cc → c' ++ flu W' = c ++ cc → (∀ w ∈ W', lr lev ≤ rkN w) → stp lev (rdL tp sz (rd tp sz D 0 (lev + 1) op 0) lev k s2).1.2.2.1 (W' ++ W) → PA (rdL tp sz (rd tp sz D 0 (lev + 1) op 0) lev k s2).1 (W' ++ W) c') →
              (¬ (rdL tp sz (rd tp sz D 0 (lev + 1) op 0) lev k s2).2.2 = -1 → ∀ q : Tk, (rdL tp sz (rd tp sz D 0 (lev + 1) op 0) lev k s2).2.2 = nI q.2.1 → PF q) → PA s2.1 (W' ++ W) c' := by
            intro k
            induction k with
            | zero =>
              intro s2 W' c' cc h2 hf2 e1 e2 e3 e4 e5 ok2 bad2
              rw [rdL_0] at ok2
              refine ok2 hf2 W' c' cc e1 e2 e3 ?_
              rcases e4 with g | g | ⟨g1, g2, g3⟩
              · rcases e5 with ⟨p1, p2⟩ | ⟨p1, p2 | ⟨-, p3⟩⟩
                · have t21 : s2.1.2.2.1 = 21 := by
                    rcases Decidable.em (s2.1.2.2.1 = 21) with q | q
                    · exact q
                    · have := h2.1.2.2.1 q
                      have := h2.1.2.1
                      omega
                  rw [t21]; exact Or.inr (Or.inl (by decide))
                · omega
                · by_cases q : lvN s2.1.2.2.1 = 2
                  · exact Or.inr (Or.inr ⟨q, by omega, p3⟩)
                  · exact Or.inl (by omega)
              · exact Or.inr (Or.inl g)
              · exact Or.inr (Or.inr ⟨g1, by omega, g3⟩)
            | succ k ihk =>
              intro s2 W' c' cc h2 hf2 e1 e2 e3 e4 e5 ok2 bad2
              by_cases c4 : s2.2.2 = -1 ∧ lvN s2.1.2.2.1 = lev
              · rw [rdL_t c4] at ok2 bad2
                have hlv : lvN s2.1.2.2.1 < 5 := by omega
                obtain ⟨o1, o2, o3, o4, -, -, o7, -, -⟩ := lv_rk hlv
                have hsett : (if rkN s2.1.2.2.1 = 4 then 5 else rkN s2.1.2.2.1) = if lev = 2 then 5 else lr lev := by
                  by_cases q2 : lev = 2
                  · rw [if_pos q2, if_pos (o7 (by omega))]
                  · rw [if_neg q2, lr_op (by omega) c4.2 q2, if_neg (f6 q2)]
                have hst : stl (if rkN s2.1.2.2.1 = 4 then 5 else rkN s2.1.2.2.1) (W' ++ W) c' = (W, c' ++ flu W') := by
                  rw [hsett]
                  refine stl_all ?_ W' c' (fun w hw => ?_)
                  · by_cases q2 : lev = 2
                    · rw [if_pos q2]; subst q2
                      have : bnd 2 = 3 := by decide
                      omega
                    · rw [if_neg q2]; rw [if_neg q2] at f1; omega
                  · have p1 := e3 w hw
                    have p0 := lr_pos (lev := lev)
                    refine ⟨by omega, ?_⟩
                    by_cases q2 : lev = 2
                    · rw [if_pos q2]
                      rcases e5 with ⟨p1, -⟩ | ⟨-, ⟨-, p2⟩ | ⟨p2, -⟩⟩
                      · exact absurd q2 p1
                      · exact p2 w hw
                      · omega
                    · rw [if_neg q2]; exact p1
                have hgo := h2.go (tp := tp) (lvN_ne c4.2 (by omega))
                have hs3 := rd_slk (tp := tp) D 0 (lev + 1) op 0 (e + 1) _ hgo (Or.inl rfl)
                have hstart : s2.1.2.1 + 1 ≤ (goP tp sz s2).1.2.1 := by
                  have n1 := h2.1.2.2.1 (lvN_ne c4.2 (by omega))
                  have n2 := (nxt_ok (tp := tp) h2.1.2.1).2
                  show s2.1.2.1 + 1 ≤ (nxt tp sz s2.1.1).2.1
                  omega
                refine hA2' s2.1 (W' ++ W) c' hlv ?_ ?_
                · rw [hst]
                  intro q
                  have q2 : lev = 2 := by
                    rcases Decidable.em (lev = 2) with g | g
                    · exact g
                    · have := lr_op (by omega) c4.2 g
                      exact absurd (by rw [← this]; exact q.1) (f6 g)
                  subst q2
                  have : bnd 2 = 3 := by decide
                  have := q.2
                  dsimp only at this
                  omega
                · rw [hst]
                  have rk1 : rkN s2.1.2.2.1 ≤ bnd (lev + 1) ∧ (3 ≤ lev + 1 → 4 ≤ rkN s2.1.2.2.1) ∧ lr lev ≤ rkN s2.1.2.2.1 := by
                    by_cases q2 : lev = 2
                    · subst q2
                      rw [o7 c4.2]; decide
                    · rw [lr_op (by omega) c4.2 q2]
                      exact ⟨f4 q2, f5 q2, Nat.le_refl _⟩
                  refine ih 0 (lev + 1) op 0 (e + 1) (goP tp sz s2) (s2.1.2.2.1 :: W) (c' ++ flu W') hgo (Or.inl ⟨rfl, by omega, rk1.1, fun q _ => rk1.2.1 q⟩) (by omega) hop hf2 (by rw [hopc, opc, if_neg o3]; rfl) ?_ ?_
                  · intro hr W2 c2 cc2 g1 g2 g3 g4
                    have hst3 := rd_start (tp := tp) (D := D) (lev := lev + 1) (op := op) (j := 0) hgo g1
                    rw [show W2 ++ (s2.1.2.2.1 :: W) = (W2 ++ [s2.1.2.2.1]) ++ W from by rw [List.append_assoc]; rfl] at g4 ⊢
                    refine ihk (putP (-1 - nI s2.1.2.2.1) (rd tp sz D 0 (lev + 1) op 0 (goP tp sz s2))) (W2 ++ [s2.1.2.2.1]) c2 (cc ++ (cc2 ++ [-1 - nI s2.1.2.2.1])) hs3.put hr ?_ ?_ ?_ g4 ?_ ok2 bad2
                    · rw [put_eq (slk_len hsz hs3), g1]
                      show s2.2.1 ++ cc2 ++ _ = _
                      rw [e1, List.append_assoc, List.append_assoc]
                    · rw [flu_app, flu_one, ← List.append_assoc, g2, e2, List.append_assoc, List.append_assoc]
                    · intro w hw
                      rcases List.mem_append.mp hw with q | q
                      · exact Nat.le_trans f2 (g3 w q)
                      · rw [List.mem_singleton] at q
                        rw [q]; exact rk1.2.2
                    · rcases e5 with ⟨p1, p2⟩ | ⟨p1, p2⟩
                      · refine Or.inl ⟨p1, ?_⟩
                        show sz ≤ (rd tp sz D 0 (lev + 1) op 0 (goP tp sz s2)).1.2.1 + k
                        omega
                      · refine Or.inr ⟨p1, Or.inr ⟨by rcases p2 with ⟨p2, -⟩ | ⟨p2, -⟩ <;> omega, ?_⟩⟩
                        subst p1
                        unfold blk
                        rw [List.append_assoc, show [s2.1.2.2.1] ++ W = s2.1.2.2.1 :: W from rfl, stl_all (W := s2.1.2.2.1 :: W) (by show ¬ (0 < rkN s2.1.2.2.1 ∧ 5 ≤ rkN s2.1.2.2.1); rw [o7 c4.2]; decide) W2 [] (fun w hw => by
                          have := g3 w hw
                          have : lr (2 + 1) = 5 := by decide
                          omega)]
                        exact o7 c4.2
                  · intro hr q hq
                    have hb : rdL tp sz (rd tp sz D 0 (lev + 1) op 0) lev k (putP (-1 - nI s2.1.2.2.1) (rd tp sz D 0 (lev + 1) op 0 (goP tp sz s2))) = putP (-1 - nI s2.1.2.2.1) (rd tp sz D 0 (lev + 1) op 0 (goP tp sz s2)) := rdL_f (fun hh => hr hh.1)
                    rw [hb] at bad2
                    exact bad2 hr q hq
              · rw [rdL_f c4] at ok2
                have c4' : ¬ lvN s2.1.2.2.1 = lev := fun q => c4 ⟨hf2, q⟩
                refine ok2 hf2 W' c' cc e1 e2 e3 ?_
                rcases e4 with g | g | ⟨g1, g2, g3⟩
                · exact Or.inl (by omega)
                · exact Or.inr (Or.inl g)
                · exact Or.inr (Or.inr ⟨g1, by omega, g3⟩)
          have hs1 := rd_slk (tp := tp) D 0 (lev + 1) op 0 e st h (Or.inl rfl)
          refine ih 0 (lev + 1) op 0 e st W c h (Or.inl ⟨rfl, by omega, by omega, fun q t11 => ?_⟩) (by omega) hop hf hopc ?_ ?_
          · rcases Nat.lt_or_ge lev 3 with g | g
            · have : lev = 2 := by omega
              exact absurd ⟨this, t11⟩ c3
            · exact hpre3 g t11
          · intro hr W' c' cc g1 g2 g3 g4
            have hst3 := rd_start (tp := tp) (D := D) (lev := lev + 1) (op := op) (j := 0) h g1
            refine loop _ _ W' c' cc hs1 hr g1 g2 (fun w hw => Nat.le_trans f2 (g3 w hw)) g4 ?_ ok bad
            by_cases q2 : lev = 2
            · refine Or.inr ⟨q2, Or.inl ⟨if_pos q2, fun w hw => ?_⟩⟩
              have := g3 w hw
              rw [q2] at this
              have : lr (2 + 1) = 5 := by decide
              omega
            · refine Or.inl ⟨q2, ?_⟩
              rw [if_neg q2]; omega
          · intro hr q hq
            rw [rdL_f (fun hh => hr hh.1)] at bad
            exact bad hr q hq
    · rw [rd_O] at ok bad
      by_cases c1 : st.1.2.2.1 = 20
      · rw [if_pos c1, go_put] at ok
        have hb : bgS st.1.2.2.1 st.1.2.2.2 W c = (1, W, c ++ [nI st.1.2.2.2]) := by unfold bgS; rw [if_neg (by omega), if_pos c1]
        refine hB1 _ _ _ (by rw [hb]) ?_
        rw [hb]
        exact ok hf [] (c ++ [nI st.1.2.2.2]) [nI st.1.2.2.2] (by rw [put_eq (slk_len hsz (h.go (tp := tp) (by rw [c1]; decide)))]; rfl) (by rw [show flu [] = [] from rfl, List.append_nil]) (fun w hw => absurd hw List.not_mem_nil) (by unfold stp; omega)
      rw [if_neg c1] at ok bad
      by_cases c2 : st.1.2.2.1 < 6
      · rw [if_pos c2, go_put] at ok
        have hb : bgS st.1.2.2.1 st.1.2.2.2 W c = (1, W, c ++ [-1 - nI st.1.2.2.1]) := by unfold bgS; rw [if_pos c2]
        refine hB1 _ _ _ (by rw [hb]) ?_
        rw [hb]
        exact ok hf [] (c ++ [-1 - nI st.1.2.2.1]) [-1 - nI st.1.2.2.1] (by rw [put_eq (slk_len hsz (h.go (tp := tp) (by omega)))]; rfl) (by rw [show flu [] = [] from rfl, List.append_nil]) (fun w hw => absurd hw List.not_mem_nil) (by unfold stp; omega)
      rw [if_neg c2] at ok bad
      by_cases c3 : st.1.2.2.1 = 16
      · rw [if_pos c3] at ok bad
        exact ih 2 5 op 23 e st W c h (Or.inr (Or.inr ⟨rfl, by omega, Or.inr ⟨rfl, rfl, c3⟩⟩)) (by omega) hop hf hopc ok bad
      rw [if_neg c3] at ok bad
      by_cases c4 : st.1.2.2.1 = 12 ∧ op < 5
      · rw [if_pos c4] at ok bad
        have hb : bgS st.1.2.2.1 st.1.2.2.2 W c = (2, 12 :: W, c) := by
          unfold bgS
          rw [if_neg c2, if_neg c1, if_pos ⟨Or.inl c4.1, by omega⟩, if_neg c3, c4.1]
        have hgo := h.go (tp := tp) (show ¬ st.1.2.2.1 = 21 by omega)
        have hs3 := rd_slk (tp := tp) D 0 0 (op + 1) 0 (e + 1) _ hgo (Or.inl rfl)
        refine hB2 _ _ _ (by rw [hb]) ?_
        rw [hb]
        refine ih 0 0 (op + 1) 0 (e + 1) (goP tp sz st) (12 :: W) c hgo (Or.inl ⟨rfl, by omega, Nat.zero_le _, fun q => absurd q (by decide)⟩) (by omega) (by omega) hf (by rw [hopc, opc, if_pos (by decide)]) ?_ ?_
        · intro hr W' c' cc g1 g2 g3 g4
          have hst : stl 1 (W' ++ 12 :: W) c' = (12 :: W, c' ++ flu W') := stl_all (W := 12 :: W) (by show ¬ (0 < rkN 12 ∧ 1 ≤ rkN 12); decide) W' c' (fun w hw => by
            have := g3 w hw
            have : lr 0 = 1 := by decide
            omega)
          generalize hr0 : rd tp sz D 0 0 (op + 1) 0 (goP tp sz st) = r at hr g1 g4 ok bad hs3 ⊢
          by_cases t13 : r.1.2.2.1 = 13
          · have hw : waP tp sz 13 r = goP tp sz r := by unfold waP; rw [if_pos hr, if_pos t13]
            rw [hw] at ok
            refine hA1 r.1 (W' ++ 12 :: W) c' 12 W t13 (by rw [hst]) ?_
            rw [hst]
            exact ok hr [] (c' ++ flu W') cc g1 (by rw [show flu [] = [] from rfl, List.append_nil]; exact g2) (fun w hw => absurd hw List.not_mem_nil) (by unfold stp; omega)
          · have hw : waP tp sz 13 r = faP r := by unfold waP; rw [if_pos hr, if_neg t13]
            rw [hw] at bad
            have hpf := bad (hneg _ (slk_sr hs3)) r.1 rfl
            rcases g4 with g | g | ⟨u1, u2, u3⟩
            · exact absurd g (Nat.not_lt_zero _)
            · exact hA3 r.1 _ c' t13 (by omega) (by rw [hst]; exact List.cons_ne_nil _ _) hpf
            · have := (lv_rk (t := r.1.2.2.1) (by omega)).2.2.2.2.2.2.1 u1
              exact hA2 r.1 _ c' (by omega) this (by rw [stl_fst _ c' []]; exact u3) hpf
        · intro hr q hq
          rw [wa_bad hr] at bad
          exact bad hr q hq
      · have e0 : rd tp sz (D + 1) 1 5 op j st = faP st := by rw [rd_O, if_neg c1, if_neg c2, if_neg c3, if_neg c4]
        rw [if_neg c4] at bad
        refine hB0 _ _ _ ?_ (bad (hneg _ (slk_sr h)) st.1 rfl)
        unfold bgS
        rw [if_neg c2, if_neg c1, if_neg]
        intro ⟨q1, q2⟩
        rcases q1 with q1 | q1 | ⟨q1, q3⟩
        · exact c4 ⟨q1, by omega⟩
        · exact c3 q1
        · have := hpre3 q1; omega
    · rw [rd_B] at ok bad
      have hj : (if st.1.2.2.1 = 16 then 23 else st.1.2.2.1) = j ∧ (j = 11 ∨ j = 12 ∨ j = 23) ∧ (st.1.2.2.1 = 12 ∨ st.1.2.2.1 = 16 ∨ (st.1.2.2.1 = 11 ∧ rkT W ≤ 3)) ∧ rkN j ≤ bnd lev ∧ (3 ≤ lev → 4 ≤ rkN j) ∧ lr lev ≤ rkN j := by
        rcases hpre with ⟨rfl, rfl, q, q3⟩ | ⟨rfl, rfl, q⟩
        · refine ⟨by rw [if_neg (by omega)]; exact q, Or.inl rfl, Or.inr (Or.inr ⟨q, q3⟩), by decide, by decide, by decide⟩
        · refine ⟨if_pos q, Or.inr (Or.inr rfl), Or.inr (Or.inl q), by decide, by decide, by decide⟩
      obtain ⟨j1, j2, j3, j4, j5, j6⟩ := hj
      have t21 : ¬ st.1.2.2.1 = 21 := by omega
      have t20 : ¬ st.1.2.2.1 = 20 := by omega
      have t6 : ¬ st.1.2.2.1 < 6 := by omega
      by_cases c1 : op < 5
      · rw [if_pos c1] at ok bad
        have hb : bgS st.1.2.2.1 st.1.2.2.2 W c = (2, j :: W, c) := by
          unfold bgS
          rw [if_neg t6, if_neg t20, if_pos ⟨j3, by omega⟩, j1]
        have hgo := h.go (tp := tp) t21
        have hs3 := rd_slk (tp := tp) D 0 lev (op + 1) 0 (e + 1) _ hgo (Or.inl rfl)
        refine hB2 _ _ _ (by rw [hb]) ?_
        rw [hb]
        refine ih 0 lev (op + 1) 0 (e + 1) (goP tp sz st) (j :: W) c hgo (Or.inl ⟨rfl, by omega, j4, fun q _ => j5 q⟩) hlev (by omega) hf (by rw [hopc, opc, if_pos j2]) ?_ ?_
        · intro hr W' c' cc g1 g2 g3 g4
          rw [show W' ++ (j :: W) = (W' ++ [j]) ++ W from by rw [List.append_assoc]; rfl] at g4 ⊢
          refine ok hr (W' ++ [j]) c' (cc ++ [-1 - nI j]) ?_ ?_ (fun w hw => ?_) g4
          · rw [put_eq (slk_len hsz hs3), g1, List.append_assoc]; rfl
          · rw [flu_app, flu_one, ← List.append_assoc, g2, List.append_assoc]
          · rcases List.mem_append.mp hw with q | q
            · exact g3 w q
            · rw [List.mem_singleton] at q
              rw [q]; exact j6
        · intro hr q hq
          exact bad hr q hq
      · rw [if_neg c1] at bad
        refine hB0 _ _ _ ?_ (bad (hneg _ (slk_sr h)) st.1 rfl)
        unfold bgS
        rw [if_neg t6, if_neg t20, if_neg]
        intro ⟨_, q2⟩
        omega

