/-! ===== text ===== -/
def txP (tp : Nat → Nat) (sz : Nat) : Nat → List Int32 := fun p => if p = 0 then (rs1 tp sz).2.1 else if p = 1 then (rs2 tp sz).2.1.drop (rs1 tp sz).2.1.length else (rs3 tp sz).2.1.drop (rs2 tp sz).2.1.length
theorem prt_code {tp : Nat → Nat} {sz p : Nat} {st : PS} (hsz : sz ≤ 160) (hp : p < 3) (k : slk sz 0 st) (h : (prt tp sz p st).2.2 = -1) : ∃ c, wkP c ∧ (prt tp sz p st).2.1 = st.2.1 ++ c := by
  have hneg : ∀ p : Nat, p ≤ sz → ¬ nI p = -1 := fun p hp => nI_m1 (by omega)
  have w0 := wa_ok (tp := tp) (prt_ok1 h) hneg (slk_sr k)
  have k0 : slk sz 0 (waP tp sz (6 + p) st) := k.wa (by omega)
  have k1 := rd_slk (tp := tp) 48 0 0 0 0 0 _ k0 (Or.inl rfl)
  unfold prt at h ⊢
  have w1 := wa_ok (tp := tp) h hneg (slk_sr k1)
  obtain ⟨_, c, hc, ec⟩ := rd_code (tp := tp) hsz 48 0 0 0 0 0 _ k0 (Or.inl ⟨rfl, by omega⟩) (by omega) (by omega) (prt_ok1 (tp := tp) (p := p) (by unfold prt; exact h)) w1.1
  refine ⟨c, hc, ?_⟩
  rw [w1.2.2]
  show (rd tp sz 48 0 0 0 0 (waP tp sz (6 + p) st)).2.1 = _
  rw [ec, w0.2.2]
  rfl
theorem tx_ok {tp : Nat → Nat} {sz : Nat} (hsz : sz ≤ 160) (h : (rs4 tp sz).2.2 = -1) : (∀ p, p < 3 → wkP (txP tp sz p)) ∧ (rs2 tp sz).2.1.length = (txP tp sz 0).length + (txP tp sz 1).length ∧ (rs3 tp sz).2.1 = txP tp sz 0 ++ (txP tp sz 1 ++ txP tp sz 2) := by
  have hneg : ∀ p : Nat, p ≤ sz → ¬ nI p = -1 := fun p hp => nI_m1 (by omega)
  have k0 := rs0_slk (tp := tp) (sz := sz)
  have k1 := prt_slk (tp := tp) (p := 0) k0 (by decide)
  have k2 := prt_slk (tp := tp) (p := 1) k1 (by decide)
  have k3 := prt_slk (tp := tp) (p := 2) k2 (by decide)
  have e1 : rs1 tp sz = prt tp sz 0 (rs0 tp sz) := by unfold rs1; exact Eq.refl _
  have e2 : rs2 tp sz = prt tp sz 1 (rs1 tp sz) := by unfold rs2; exact Eq.refl _
  have e3 : rs3 tp sz = prt tp sz 2 (rs2 tp sz) := by unfold rs3; exact Eq.refl _
  rw [← e1] at k1 k2 k3
  rw [← e2] at k2 k3
  rw [← e3] at k3
  unfold rs4 at h
  have h3 := (wa_ok (tp := tp) h hneg (slk_sr k3)).1
  rw [e3] at h3
  have h2 := prt_ok h3
  rw [e2] at h2
  have h1 := prt_ok h2
  rw [e1] at h1
  obtain ⟨c0, w0, q0⟩ := prt_code hsz (by decide) k0 h1
  obtain ⟨c1, w1, q1⟩ := prt_code hsz (by decide) k1 h2
  obtain ⟨c2, w2, q2⟩ := prt_code hsz (by decide) k2 h3
  rw [← e1] at q0
  rw [← e2] at q1
  rw [← e3] at q2
  have z0 : (rs0 tp sz).2.1 = [] := by unfold rs0 goP; exact Eq.refl _
  rw [z0, List.nil_append] at q0
  have t0 : txP tp sz 0 = c0 := by unfold txP; rw [if_pos rfl]; exact q0
  have t1 : txP tp sz 1 = c1 := by unfold txP; rw [if_neg (by decide), if_pos rfl, q1, List.drop_left]
  have t2 : txP tp sz 2 = c2 := by unfold txP; rw [if_neg (by decide), if_neg (by decide), q2, List.drop_left]
  refine ⟨fun p hp => ?_, ?_, ?_⟩
  · have : p = 0 ∨ p = 1 ∨ p = 2 := by omega
    rcases this with rfl | rfl | rfl
    · rw [t0]; exact w0
    · rw [t1]; exact w1
    · rw [t2]; exact w2
  · rw [q1, q0, t0, t1, List.length_append]
  · rw [q2, q1, q0, t0, t1, t2, List.append_assoc]
theorem LAYg {rf : Nat → Value} {tl : Lay} {k : Nat} : (LAY rf tl)[k + 67]? = tl[k]? := rfl
theorem LAYx {rf rf' : Nat → Value} {tl x : Lay} {t : Nat} {c : Nat × Nat × (Nat → Value)} (h : (LAY rf tl)[t]? = some c) (ht : t = 5 ∨ t = 6 ∨ 66 < t) : (LAY rf' (tl ++ x))[t]? = some c := by
  rcases ht with rfl | rfl | ht
  · exact h
  · exact h
  · obtain ⟨k, rfl⟩ : ∃ k, t = k + 67 := ⟨t - 67, by omega⟩
    rw [LAYg] at h ⊢
    rw [List.getElem?_append_left (List.getElem?_eq_some_iff.mp h).1]
    exact h
theorem LAYt {rf : Nat → Value} {tl : Lay} {t : Nat} {c : Nat × Nat × (Nat → Value)} (h : (LAY rf tl)[t]? = some c) : t < tl.length + 67 := by
  have := (List.getElem?_eq_some_iff.mp h).1
  rw [LAYl] at this
  exact this
theorem isTx.ext {rf rf' : Nat → Value} {tl x : Lay} {mem mem' : Mem} {v : Value} {P : Nat → List Int32} (h : isTx (LAY rf tl) mem v P) (hk : ∀ j, j = 5 ∨ j = 6 ∨ 66 < j → j < tl.length + 67 → mem' j = mem j) : isTx (LAY rf' (tl ++ x)) mem' v P := by
  obtain ⟨t, a, len, rt, ra, hv, ht, hrt, ha, h4t, h4a, hl160, hlen, hm1, hm2, hcode, hwk⟩ := h
  have lt := LAYt ht
  have la := LAYt ha
  exact ⟨t, a, len, rt, ra, hv, LAYx ht (by omega), hrt, LAYx ha (by omega), h4t, h4a, hl160, hlen, by rw [hk t (by omega) lt]; exact hm1, by rw [hk t (by omega) lt]; exact hm2, fun k hk2 => by rw [hk a (by omega) la]; exact hcode k hk2, hwk⟩

