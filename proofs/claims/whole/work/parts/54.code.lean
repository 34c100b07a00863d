/-! ===== what is read is well-formed ===== -/
def wkP (c : List Int32) : Prop := ∀ k, wk c k = some (k + 1)
theorem wk_app {a b : List Int32} : ∀ {k : Nat}, wk (a ++ b) k = (wk a k).bind (wk b) := by
  induction a with
  | nil => intro k; rfl
  | cons c a ih =>
    intro k
    rw [List.cons_append, wk_cons, wk_cons]
    cases h : wk1 c k with
    | none => rfl
    | some m => exact ih
theorem wk1_num {v : Nat} (h : v < 10000) {k : Nat} : wk1 (nI v) k = some (k + 1) := by
  have hn : ¬ 0 ≤ -1 - nI v := by
    intro q
    rw [Int32.le_iff_toInt_le, Int32.toInt_sub, nI_toInt (by omega)] at q
    have e1 : (-1 : Int32).toInt = -1 := by decide
    have e0 : (0 : Int32).toInt = 0 := by decide
    rw [e1, e0] at q
    rw [Int.bmod_eq_of_le (by omega) (by omega)] at q
    omega
  unfold wk1
  rw [if_neg hn]
theorem wk1_tok : ∀ t : Fin 24, (t.1 < 6 → 0 ≤ -1 - (-1 - nI t.1) ∧ ¬ 6 ≤ -1 - (-1 - nI t.1)) ∧ (6 ≤ t.1 → 0 ≤ -1 - (-1 - nI t.1) ∧ 6 ≤ -1 - (-1 - nI t.1) ∧ ((-1 - (-1 - nI t.1) = 11 ∨ -1 - (-1 - nI t.1) = 23) ↔ (t.1 = 11 ∨ t.1 = 23))) := by decide +kernel
theorem wk1_nam {t : Nat} (h : t < 6) {k : Nat} : wk1 (-1 - nI t) k = some (k + 1) := by
  have := (wk1_tok ⟨t, by omega⟩).1 h
  unfold wk1
  rw [if_pos this.1, if_neg this.2]
theorem wk1_un {t : Nat} (h : t = 11 ∨ t = 23) {k : Nat} (hk : 1 ≤ k) : wk1 (-1 - nI t) k = some k := by
  have := (wk1_tok ⟨t, by omega⟩).2 (by show 6 ≤ t; omega)
  unfold wk1
  rw [if_pos this.1, if_pos this.2.1, if_pos (this.2.2.mpr h), if_pos hk]
theorem wk1_bin {t : Nat} (h6 : 6 ≤ t) (h24 : t < 24) (h : ¬ (t = 11 ∨ t = 23)) {k : Nat} (hk : 2 ≤ k) : wk1 (-1 - nI t) k = some (k - 1) := by
  have := (wk1_tok ⟨t, h24⟩).2 h6
  unfold wk1
  rw [if_pos this.1, if_pos this.2.1, if_neg (fun q => h (this.2.2.mp q)), if_pos hk]
theorem wkP_num {v : Nat} (h : v < 10000) : wkP [nI v] := fun k => by rw [wk_cons, wk1_num h, Option.bind_some, wk_nil]
theorem wkP_nam {t : Nat} (h : t < 6) : wkP [-1 - nI t] := fun k => by rw [wk_cons, wk1_nam h, Option.bind_some, wk_nil]
theorem wkP_un {c : List Int32} {t : Nat} (hc : wkP c) (h : t = 11 ∨ t = 23) : wkP (c ++ [-1 - nI t]) := fun k => by
  rw [wk_app, hc k, Option.bind_some, wk_cons, wk1_un h (by omega), Option.bind_some, wk_nil]
theorem wkP_bin {a b : List Int32} {t : Nat} (ha : wkP a) (hb : wkP b) (h6 : 6 ≤ t) (h24 : t < 24) (h : ¬ (t = 11 ∨ t = 23)) : wkP (a ++ (b ++ [-1 - nI t])) := fun k => by
  rw [wk_app, ha k, Option.bind_some, wk_app, hb (k + 1), Option.bind_some, wk_cons, wk1_bin h6 h24 h (by omega), Option.bind_some, wk_nil, show k + 1 + 1 - 1 = k + 1 from rfl]
/-- well read: from a good state to a good state, with one more thing of code -/
def wel (st st' : PS) : Prop := st'.2.2 = -1 ∧ ∃ c, wkP c ∧ st'.2.1 = st.2.1 ++ c
theorem put_eq {st : PS} {x : Int32} (h : st.2.1.length < 160) : (putP x st).2.1 = st.2.1 ++ [x] := by unfold putP; dsimp only; rw [if_pos h]
theorem slk_len {sz e : Nat} {st : PS} (hsz : sz ≤ 160) (h : slk sz (e + 1) st) : st.2.1.length < 160 := by
  obtain ⟨⟨a, b, _⟩, c⟩ := h
  omega
theorem lvN_op {t lev : Nat} (h : lvN t = lev) (hl : lev < 5) : 6 ≤ t ∧ t < 24 ∧ ¬ (t = 11 ∨ t = 23) := by
  unfold lvN at h
  by_cases h1 : t = 9
  · omega
  rw [if_neg h1] at h
  by_cases h2 : t = 10
  · omega
  rw [if_neg h2] at h
  by_cases h3 : t = 15
  · omega
  rw [if_neg h3] at h
  by_cases h4 : t = 16
  · omega
  rw [if_neg h4] at h
  by_cases h5 : t = 17
  · omega
  rw [if_neg h5] at h
  by_cases h6 : t = 18
  · omega
  rw [if_neg h6] at h
  by_cases h7 : t = 19
  · omega
  rw [if_neg h7] at h
  omega
theorem rd_code {tp : Nat → Nat} {sz : Nat} (hsz : sz ≤ 160) : ∀ (D m lev op j e : Nat) (st : PS), slk sz e st → (m = 0 ∧ 8 * (5 - op) + (5 - lev) + 3 ≤ D ∨ m = 1 ∧ 8 * (5 - op) + 2 ≤ D ∨ (m = 2 ∧ 8 * (5 - op) + 1 ≤ D ∧ (j = 11 ∨ j = 23) ∧ ¬ st.1.2.2.1 = 21)) → lev ≤ 5 → op ≤ 5 → st.2.2 = -1 → (rd tp sz D m lev op j st).2.2 = -1 → wel st (rd tp sz D m lev op j st)
  | 0, m, lev, op, j, e, st, _, hm, _, _, _, _ => by omega
  | D + 1, m, lev, op, j, e, st, h, hm, hlev, hop, hf, hr => by
    have ih := fun m lev op j e st a b c d f g => rd_code (tp := tp) (sz := sz) hsz D m lev op j e st a b c d f g
    have hneg : ∀ p : Nat, p ≤ sz → ¬ nI p = -1 := fun p hp => nI_m1 (by omega)
    have nofa : ¬ (faP st).2.2 = -1 := hneg _ (slk_sr h)
    rcases hm with ⟨rfl, hD⟩ | ⟨rfl, hD⟩ | ⟨rfl, hD, hj, ht⟩
    · rw [rd_F, if_pos hf] at hr ⊢
      by_cases c2 : 5 ≤ lev
      · rw [if_pos c2] at hr ⊢
        exact ih 1 0 op 0 e st h (Or.inr (Or.inl ⟨rfl, by omega⟩)) (by omega) hop hf hr
      · rw [if_neg c2] at hr ⊢
        by_cases c3 : lev = 2 ∧ st.1.2.2.1 = 11
        · rw [if_pos c3] at hr ⊢
          exact ih 2 2 op 11 e st h (Or.inr (Or.inr ⟨rfl, by omega, Or.inl rfl, by rw [c3.2]; decide⟩)) (by omega) hop hf hr
        · rw [if_neg c3] at hr ⊢
          have loop : ∀ (k : Nat) (s2 : PS), slk sz e s2 → wel st s2 → (rdL tp sz (rd tp sz D 0 (lev + 1) op 0) lev k s2).2.2 = -1 → wel st (rdL tp sz (rd tp sz D 0 (lev + 1) op 0) lev k s2) := by
            intro k
            induction k with
            | zero => intro s2 _ w _; exact w
            | succ k ihk =>
              intro s2 h2 w hr2
              by_cases c4 : s2.2.2 = -1 ∧ lvN s2.1.2.2.1 = lev
              · rw [rdL_t c4] at hr2 ⊢
                have hgo := h2.go (tp := tp) (lvN_ne c4.2 (by omega))
                have hs3 := rd_slk (tp := tp) D 0 (lev + 1) op 0 (e + 1) _ hgo (Or.inl rfl)
                have hf3 : (rd tp sz D 0 (lev + 1) op 0 (goP tp sz s2)).2.2 = -1 := by
                  rcases Decidable.em ((rd tp sz D 0 (lev + 1) op 0 (goP tp sz s2)).2.2 = -1) with q | q
                  · exact q
                  · rw [rdL_f (st := putP (-1 - nI s2.1.2.2.1) (rd tp sz D 0 (lev + 1) op 0 (goP tp sz s2))) (fun hh => q hh.1)] at hr2; exact hr2
                obtain ⟨_, c, hc, ec⟩ := ih 0 (lev + 1) op 0 (e + 1) _ hgo (Or.inl ⟨rfl, by omega⟩) (by omega) hop c4.1 hf3
                obtain ⟨w1, cw, hcw, ecw⟩ := w
                have ot := lvN_op c4.2 (by omega)
                refine ihk _ hs3.put ⟨hf3, cw ++ (c ++ [-1 - nI s2.1.2.2.1]), wkP_bin hcw hc ot.1 ot.2.1 ot.2.2, ?_⟩ hr2
                rw [put_eq (slk_len hsz hs3), ec]
                show s2.2.1 ++ c ++ [-1 - nI s2.1.2.2.1] = _
                rw [ecw, List.append_assoc, List.append_assoc]
              · rw [rdL_f c4]; exact w
          have hs1 := rd_slk (tp := tp) D 0 (lev + 1) op 0 e st h (Or.inl rfl)
          have hf1 : (rd tp sz D 0 (lev + 1) op 0 st).2.2 = -1 := by
            rcases Decidable.em ((rd tp sz D 0 (lev + 1) op 0 st).2.2 = -1) with q | q
            · exact q
            · rw [rdL_f (fun hh => q hh.1)] at hr; exact hr
          exact loop _ _ hs1 (ih 0 (lev + 1) op 0 e st h (Or.inl ⟨rfl, by omega⟩) (by omega) hop hf hf1) hr
    · rw [rd_O] at hr ⊢
      by_cases c1 : st.1.2.2.1 = 20
      · rw [if_pos c1, go_put] at hr ⊢
        refine ⟨hr, [nI st.1.2.2.2], wkP_num (h.1.2.2.2 c1), ?_⟩
        rw [put_eq (slk_len hsz (h.go (tp := tp) (by rw [c1]; decide)))]; rfl
      rw [if_neg c1] at hr ⊢
      by_cases c2 : st.1.2.2.1 < 6
      · rw [if_pos c2, go_put] at hr ⊢
        refine ⟨hr, [-1 - nI st.1.2.2.1], wkP_nam c2, ?_⟩
        rw [put_eq (slk_len hsz (h.go (tp := tp) (by omega)))]; rfl
      rw [if_neg c2] at hr ⊢
      by_cases c3 : st.1.2.2.1 = 16
      · rw [if_pos c3] at hr ⊢
        exact ih 2 5 op 23 e st h (Or.inr (Or.inr ⟨rfl, by omega, Or.inr rfl, by omega⟩)) (by omega) hop hf hr
      rw [if_neg c3] at hr ⊢
      by_cases c4 : st.1.2.2.1 = 12 ∧ op < 5
      · rw [if_pos c4] at hr ⊢
        have hgo := h.go (tp := tp) (show ¬ st.1.2.2.1 = 21 by omega)
        have hs3 := rd_slk (tp := tp) D 0 0 (op + 1) 0 (e + 1) _ hgo (Or.inl rfl)
        have w := wa_ok hr hneg (slk_sr hs3)
        rw [w.2.2] at hr ⊢
        obtain ⟨_, c, hc, ec⟩ := ih 0 0 (op + 1) 0 (e + 1) _ hgo (Or.inl ⟨rfl, by omega⟩) (by omega) (by omega) hf w.1
        exact ⟨hr, c, hc, ec⟩
      · rw [if_neg c4] at hr; exact absurd hr nofa
    · rw [rd_B] at hr ⊢
      by_cases c1 : op < 5
      · rw [if_pos c1] at hr ⊢
        have hgo := h.go (tp := tp) ht
        have hs3 := rd_slk (tp := tp) D 0 lev (op + 1) 0 (e + 1) _ hgo (Or.inl rfl)
        obtain ⟨_, c, hc, ec⟩ := ih 0 lev (op + 1) 0 (e + 1) _ hgo (Or.inl ⟨rfl, by omega⟩) hlev (by omega) hf hr
        refine ⟨hr, c ++ [-1 - nI j], wkP_un hc hj, ?_⟩
        rw [put_eq (slk_len hsz hs3), ec, List.append_assoc]; rfl
      · rw [if_neg c1] at hr; exact absurd hr nofa

