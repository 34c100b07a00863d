/-! ===== the code is shorter than the tape ===== -/
def okT (sz : Nat) (q : Tk) : Prop := q.2.1 ≤ q.1 ∧ q.1 ≤ sz ∧ (¬ q.2.2.1 = 21 → q.2.1 < q.1) ∧ (q.2.2.1 = 20 → q.2.2.2 < 10000)
theorem nxs_ok {tp : Nat → Nat} {sz s : Nat} (h : s ≤ sz) : okT sz (nxs tp sz s) ∧ (nxs tp sz s).2.1 = s := by
  have hle := nxs_le (tp := tp) h
  unfold okT
  unfold nxs at hle ⊢
  by_cases h1 : sz ≤ s
  · rw [if_pos h1] at hle ⊢; exact ⟨⟨Nat.le_refl s, h, fun q => absurd rfl q, fun q => by dsimp only at q; exact absurd q (by decide)⟩, rfl⟩
  rw [if_neg h1] at hle ⊢
  obtain ⟨k, hk⟩ : ∃ k, sz - s = k + 1 := ⟨sz - s - 1, by omega⟩
  by_cases h2 : isLt (tp s) = true
  · rw [if_pos h2] at hle ⊢
    have : s + 1 ≤ rn (fun i => isLt (tp i)) (sz - s) s := by rw [hk, rn_t (p := fun i => isLt (tp i)) h2]; exact rn_ge
    exact ⟨⟨by dsimp only; omega, hle.1, fun _ => this, fun q => by dsimp only at q; exact absurd q wrdN_ne⟩, rfl⟩
  rw [if_neg h2] at hle ⊢
  by_cases h3 : isDg (tp s) = true
  · rw [if_pos h3] at hle ⊢
    have : s + 1 ≤ rn (fun i => isDg (tp i)) (sz - s) s := by rw [hk, rn_t (p := fun i => isDg (tp i)) h3]; exact rn_ge
    refine ⟨⟨by dsimp only; omega, hle.1, fun _ => this, fun q => ?_⟩, rfl⟩
    dsimp only at q ⊢
    rcases Nat.lt_or_ge 4 (rn (fun i => isDg (tp i)) (sz - s) s - s) with g | g
    · rw [if_pos g] at q; exact absurd q (by decide)
    · have nb := numN_le (tp := tp) (s := s) (k := rn (fun i => isDg (tp i)) (sz - s) s - s) (fun i hi => by
        have e9 := rn_in (p := fun i => isDg (tp i)) (k := sz - s) (a := s) (i := s + i) (by omega) (by omega)
        have e9' : isDg (tp (s + i)) = true := e9
        unfold isDg at e9'
        simp only [Bool.and_eq_true, decide_eq_true_eq] at e9'
        exact e9'.2)
      have pw : 10 ^ (rn (fun i => isDg (tp i)) (sz - s) s - s) ≤ 10 ^ 4 := Nat.pow_le_pow_right (by decide) g
      have p4 : 10 ^ 4 = 10000 := by decide
      omega
  · rw [if_neg h3] at hle ⊢
    exact ⟨⟨Nat.le_succ s, hle.1, fun _ => Nat.lt_succ_self s, fun q => by dsimp only at q; exact absurd q sgT_ne⟩, rfl⟩
theorem nxt_ok {tp : Nat → Nat} {sz a : Nat} (h : a ≤ sz) : okT sz (nxt tp sz a) ∧ a ≤ (nxt tp sz a).2.1 := by
  have h1 := nxs_ok (tp := tp) (tS_le (tp := tp) h)
  unfold nxt
  refine ⟨h1.1, ?_⟩
  rw [h1.2]
  exact rn_ge
def slk (sz e : Nat) (st : PS) : Prop := okT sz st.1 ∧ st.2.1.length + e ≤ st.1.2.1
theorem slk.go {tp : Nat → Nat} {sz e : Nat} {st : PS} (h : slk sz e st) (ht : ¬ st.1.2.2.1 = 21) : slk sz (e + 1) (goP tp sz st) := by
  obtain ⟨⟨h1, h2, h3⟩, h4⟩ := h
  have n := nxt_ok (tp := tp) h2
  refine ⟨n.1, ?_⟩
  have := h3.1 ht
  have n2 := n.2
  show st.2.1.length + (e + 1) ≤ (nxt tp sz st.1.1).2.1
  omega
theorem slk.put {sz e : Nat} {st : PS} {x : Int32} (h : slk sz (e + 1) st) : slk sz e (putP x st) := by
  refine ⟨h.1, ?_⟩
  have h2 := h.2
  show (if st.2.1.length < 160 then st.2.1 ++ [x] else st.2.1).length + e ≤ st.1.2.1
  split
  · rw [List.length_append]
    show st.2.1.length + 1 + e ≤ st.1.2.1
    omega
  · omega
theorem slk.le {sz e : Nat} {st : PS} (h : slk sz (e + 1) st) : slk sz e st := ⟨h.1, by have := h.2; omega⟩
theorem slk.fa {sz e : Nat} {st : PS} (h : slk sz e st) : slk sz e (faP st) := h
theorem go_put {tp : Nat → Nat} {sz : Nat} {x : Int32} {st : PS} : goP tp sz (putP x st) = putP x (goP tp sz st) := rfl
theorem slk.wa {tp : Nat → Nat} {sz e due : Nat} {st : PS} (h : slk sz e st) (hd : ¬ due = 21) : slk sz e (waP tp sz due st) := by
  unfold waP
  by_cases h1 : st.2.2 = -1
  · rw [if_pos h1]
    by_cases h2 : st.1.2.2.1 = due
    · rw [if_pos h2]; exact (h.go (by rw [h2]; exact hd)).le
    · rw [if_neg h2]; exact h.fa
  · rw [if_neg h1]; exact h
theorem lvN_ne {t lev : Nat} (h : lvN t = lev) (hl : lev < 5) : ¬ t = 21 := by
  intro q
  rw [q] at h
  have : lvN 21 = 9 := by decide
  omega
theorem rd_slk {tp : Nat → Nat} {sz : Nat} : ∀ (D m lev op j e : Nat) (st : PS), slk sz e st → (m = 0 ∨ m = 1 ∨ (m = 2 ∧ ¬ st.1.2.2.1 = 21)) → slk sz e (rd tp sz D m lev op j st)
  | 0, _, _, _, _, _, _, h, _ => h
  | D + 1, m, lev, op, j, e, st, h, hm => by
    have ih := fun m lev op j e st h hm => rd_slk (tp := tp) (sz := sz) D m lev op j e st h hm
    rcases hm with rfl | rfl | ⟨rfl, ht⟩
    · rw [rd_F]
      by_cases c1 : st.2.2 = -1
      · rw [if_pos c1]
        by_cases c2 : 5 ≤ lev
        · rw [if_pos c2]; exact ih _ _ _ _ _ _ h (Or.inr (Or.inl rfl))
        · rw [if_neg c2]
          by_cases c3 : lev = 2 ∧ st.1.2.2.1 = 11
          · rw [if_pos c3]; exact ih _ _ _ _ _ _ h (Or.inr (Or.inr ⟨rfl, by rw [c3.2]; decide⟩))
          · rw [if_neg c3]
            have loop : ∀ (k : Nat) (s2 : PS), slk sz e s2 → slk sz e (rdL tp sz (rd tp sz D 0 (lev + 1) op 0) lev k s2) := by
              intro k
              induction k with
              | zero => intro s2 h2; exact h2
              | succ k ihk =>
                intro s2 h2
                by_cases c4 : s2.2.2 = -1 ∧ lvN s2.1.2.2.1 = lev
                · rw [rdL_t c4]
                  exact ihk _ (ih 0 (lev + 1) op 0 (e + 1) _ (h2.go (lvN_ne c4.2 (by omega))) (Or.inl rfl)).put
                · rw [rdL_f c4]; exact h2
            exact loop _ _ (ih _ _ _ _ _ _ h (Or.inl rfl))
      · rw [if_neg c1]; exact h
    · rw [rd_O]
      by_cases c1 : st.1.2.2.1 = 20
      · rw [if_pos c1, go_put]; exact (h.go (by rw [c1]; decide)).put
      rw [if_neg c1]
      by_cases c2 : st.1.2.2.1 < 6
      · rw [if_pos c2, go_put]; exact (h.go (by omega)).put
      rw [if_neg c2]
      by_cases c3 : st.1.2.2.1 = 16
      · rw [if_pos c3]; exact ih _ _ _ _ _ _ h (Or.inr (Or.inr ⟨rfl, by omega⟩))
      rw [if_neg c3]
      by_cases c4 : st.1.2.2.1 = 12 ∧ op < 5
      · rw [if_pos c4]; exact ((ih 0 0 (op + 1) 0 (e + 1) _ (h.go (by omega)) (Or.inl rfl)).wa (by decide)).le
      · rw [if_neg c4]; exact h.fa
    · rw [rd_B]
      by_cases c1 : op < 5
      · rw [if_pos c1]; exact (ih 0 lev (op + 1) 0 (e + 1) _ (h.go ht) (Or.inl rfl)).put
      · rw [if_neg c1]; exact h.fa
/-- one part of a text -/
def prt (tp : Nat → Nat) (sz p : Nat) (st : PS) : PS := waP tp sz 14 (rd tp sz 48 0 0 0 0 (waP tp sz (6 + p) st))
def rs0 (tp : Nat → Nat) (sz : Nat) : PS := goP tp sz ((0, 0, 0, 0), [], -1)
def rs1 (tp : Nat → Nat) (sz : Nat) : PS := prt tp sz 0 (rs0 tp sz)
def rs2 (tp : Nat → Nat) (sz : Nat) : PS := prt tp sz 1 (rs1 tp sz)
def rs3 (tp : Nat → Nat) (sz : Nat) : PS := prt tp sz 2 (rs2 tp sz)
def rs4 (tp : Nat → Nat) (sz : Nat) : PS := waP tp sz 21 (rs3 tp sz)
theorem wa_bad {tp : Nat → Nat} {sz due : Nat} {st : PS} (h : ¬ st.2.2 = -1) : waP tp sz due st = st := by unfold waP; rw [if_neg h]
theorem rd_bad {tp : Nat → Nat} {sz D lev op j : Nat} {st : PS} (h : ¬ st.2.2 = -1) : rd tp sz D 0 lev op j st = st := by
  cases D with
  | zero => rfl
  | succ D => rw [rd_F, if_neg h]
theorem prt_bad {tp : Nat → Nat} {sz p : Nat} {st : PS} (h : ¬ st.2.2 = -1) : prt tp sz p st = st := by unfold prt; rw [wa_bad h, rd_bad h, wa_bad h]
theorem wa_ok {tp : Nat → Nat} {sz due : Nat} {st : PS} (h : (waP tp sz due st).2.2 = -1) (hs : ∀ p : Nat, p ≤ sz → ¬ nI p = -1) (hsr : st.1.2.1 ≤ sz) : st.2.2 = -1 ∧ st.1.2.2.1 = due ∧ waP tp sz due st = goP tp sz st := by
  unfold waP at h ⊢
  by_cases h1 : st.2.2 = -1
  · rw [if_pos h1] at h ⊢
    by_cases h2 : st.1.2.2.1 = due
    · rw [if_pos h2]; exact ⟨h1, h2, rfl⟩
    · rw [if_neg h2] at h
      exact absurd (show nI st.1.2.1 = -1 from h) (hs _ hsr)
  · rw [if_neg h1] at h; exact absurd h h1
theorem prt_slk {tp : Nat → Nat} {sz p e : Nat} {st : PS} (h : slk sz e st) (hp : p < 3) : slk sz e (prt tp sz p st) := (rd_slk 48 0 0 0 0 e _ (h.wa (by omega)) (Or.inl rfl)).wa (by decide)
theorem rs0_slk {tp : Nat → Nat} {sz : Nat} : slk sz 0 (rs0 tp sz) := by
  have n := nxt_ok (tp := tp) (Nat.zero_le sz)
  exact ⟨n.1, Nat.zero_le _⟩
theorem rs3_slk {tp : Nat → Nat} {sz : Nat} : slk sz 0 (rs3 tp sz) := prt_slk (prt_slk (prt_slk rs0_slk (by decide)) (by decide)) (by decide)
theorem slk_lt {sz : Nat} {s : PS} (k : slk sz 1 s) : s.2.1.length < sz := by
  obtain ⟨⟨a, b, _⟩, c⟩ := k
  omega
theorem slk_sr {sz e : Nat} {s : PS} (k : slk sz e s) : s.1.2.1 ≤ sz := Nat.le_trans k.1.1 k.1.2.1
theorem prt_ok {tp : Nat → Nat} {sz p : Nat} {st : PS} (h : (prt tp sz p st).2.2 = -1) : st.2.2 = -1 := by
  rcases Decidable.em (st.2.2 = -1) with q | q
  · exact q
  · rw [prt_bad q] at h; exact h
theorem prt_ok1 {tp : Nat → Nat} {sz p : Nat} {st : PS} (h : (prt tp sz p st).2.2 = -1) : (waP tp sz (6 + p) st).2.2 = -1 := by
  rcases Decidable.em ((waP tp sz (6 + p) st).2.2 = -1) with q | q
  · exact q
  · unfold prt at h; rw [rd_bad q, wa_bad q] at h; exact h
theorem prt_slk1 {tp : Nat → Nat} {sz p : Nat} {st : PS} (hsz : sz ≤ 160) (hp : p < 3) (k : slk sz 0 st) (h : (prt tp sz p st).2.2 = -1) : slk sz 1 (prt tp sz p st) := by
  have hneg : ∀ p : Nat, p ≤ sz → ¬ nI p = -1 := fun p hp => nI_m1 (by omega)
  have w0 := wa_ok (tp := tp) (prt_ok1 h) hneg (slk_sr k)
  have k0 : slk sz 1 (waP tp sz (6 + p) st) := by rw [w0.2.2]; exact k.go (by rw [w0.2.1]; omega)
  unfold prt
  exact (rd_slk 48 0 0 0 0 1 _ k0 (Or.inl rfl)).wa (by decide)
/-- if all went well, the first part began with a key: the code is shorter than the tape -/
theorem rs4_len {tp : Nat → Nat} {sz : Nat} (hsz : sz ≤ 160) (h : (rs4 tp sz).2.2 = -1) : (rs3 tp sz).2.1.length < sz ∧ rs4 tp sz = goP tp sz (rs3 tp sz) := by
  have hneg : ∀ p : Nat, p ≤ sz → ¬ nI p = -1 := fun p hp => nI_m1 (by omega)
  have k3 := rs3_slk (tp := tp) (sz := sz)
  unfold rs4 at h ⊢
  have w := wa_ok (tp := tp) h hneg (slk_sr k3)
  refine ⟨?_, w.2.2⟩
  have h3 := w.1
  clear w h k3
  unfold rs3 rs2 at h3
  have h1 := prt_ok (prt_ok h3)
  unfold rs1 at h1
  have k1 := prt_slk1 hsz (by decide) rs0_slk h1
  unfold rs3 rs2 rs1
  exact slk_lt (prt_slk (prt_slk k1 (by decide)) (by decide))

