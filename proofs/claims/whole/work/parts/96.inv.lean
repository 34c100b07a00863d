/-! ===== what the law keeps ===== -/
theorem s_wide {z : Zz} {d kc ks a b : Nat} {mi : MI} {pc : Nat} {L S : List Value} {lay : Lay} {mem : Mem} {Q : Option Value → Lay → Mem → Prop} (h : Sim z d kc ks mi pc L S lay mem Q) : Sim z d (a + kc) (b + ks) mi pc L S lay mem Q := by
  intro p e R s m args below meth c D A rv H locs cells slots ls st ws X F hc hs h1 hL hS kk
  refine W.widen (k := cells + a) (n := slots + b) (Nat.le_add_right _ _) (Nat.le_add_right _ _) ?_
  refine h p e R s m args below meth c D A rv H locs (cells + a) (slots + b) ls st ws X F (by omega) (by omega) h1 hL hS ?_
  intro r lay' mem' H' locs' ws' pc' ls' rw' q1 q2 q3 q4 q5
  have := kk r lay' mem' H' locs' ws' pc' ls' rw' q1 q2 q3 q4 q5
  rw [Nat.add_assoc, Nat.add_assoc]; exact this
theorem in_of {v : Int32} {m : Nat} (hm : m ≤ 100000) (h : ¬ inB v 0 (nI m) = 0) : ∃ k, k ≤ m ∧ v = nI k := by
  rcases in_or v (lo := 0) (hi := nI m) rfl (m := m) rfl hm with q | ⟨k, hk, e, -⟩
  · exact absurd q h
  · exact ⟨k, hk, e⟩
theorem ok_set {σ : Nat → Nat → Int32} {n : Nat} {what o v : Int32} (h : okS σ n) : okS (setS σ n what o v) n := by
  unfold setS
  by_cases hb : setB n what o v = true
  · rw [if_pos hb]
    by_cases h0 : what = 0
    · rw [if_pos h0]; exact h
    · rw [if_neg h0]
      unfold setB at hb
      simp only [Bool.and_eq_true, Bool.not_eq_true', decide_eq_false_iff_not] at hb
      obtain ⟨⟨b1, -⟩, b3⟩ := hb
      obtain ⟨k, hk, rfl⟩ := in_of (m := 4) (by omega) b1
      rw [ix_nI (by omega)] at b3 ⊢
      have k5 : k = 0 ∨ k = 1 ∨ k = 2 ∨ k = 3 ∨ k = 4 := by omega
      rcases k5 with rfl | rfl | rfl | rfl | rfl
      · exact absurd nI_0 h0
      · obtain ⟨u, hu, rfl⟩ := in_of (m := 9) (by omega) b3
        exact okS.u2 h (Or.inr (Or.inl ⟨rfl, by omega⟩))
      · obtain ⟨u, hu, rfl⟩ := in_of (m := 99) (by omega) b3
        exact okS.u2 h (Or.inr (Or.inr (Or.inl ⟨rfl, by omega⟩)))
      · obtain ⟨u, hu, rfl⟩ := in_of (m := 11) (by omega) b3
        exact okS.u2 h (Or.inr (Or.inr (Or.inr (Or.inl ⟨rfl, by omega⟩))))
      · obtain ⟨u, hu, rfl⟩ := in_of (m := 1) (by omega) b3
        exact okS.u2 h (Or.inr (Or.inr (Or.inr (Or.inr ⟨rfl, by omega⟩))))
  · rw [if_neg hb]; exact h
theorem td_set {n t : Nat} {what o v : Int32} (ht : t ≤ 999) : ∃ t', t' ≤ 999 ∧ setT n (nI t) what o v = nI t' := by
  unfold setT
  by_cases hb : setB n what o v = true
  · rw [if_pos hb]
    by_cases h0 : what = 0
    · rw [if_pos h0]
      unfold setB at hb
      simp only [Bool.and_eq_true, Bool.not_eq_true', decide_eq_false_iff_not] at hb
      obtain ⟨-, b3⟩ := hb
      rw [h0] at b3
      obtain ⟨u, hu, rfl⟩ := in_of (m := 999) (by omega) b3
      exact ⟨u, hu, rfl⟩
    · rw [if_neg h0]; exact ⟨t, ht, rfl⟩
  · rw [if_neg hb]; exact ⟨t, ht, rfl⟩
theorem ok_ad {σ : Nat → Nat → Int32} {n : Nat} {k nu sh wh : Int32} (h : okS σ n) : okS (adS σ n k nu sh wh) (adN n k nu sh wh) := by
  unfold adS adN
  cases hb : adBad k nu sh wh with
  | true => rw [if_pos rfl, if_pos rfl]; exact h
  | false =>
    rw [if_neg Bool.false_ne_true, if_neg Bool.false_ne_true]
    by_cases h8 : n < 8
    · rw [if_pos h8, if_pos h8]
      unfold adBad at hb
      simp only [Bool.or_eq_false_iff, decide_eq_false_iff_not, Bool.not_eq_false', decide_eq_true_eq] at hb
      obtain ⟨⟨⟨⟨⟨b1, b2⟩, b3⟩, b4⟩, b5⟩, b6⟩ := hb
      obtain ⟨k', hk, rfl⟩ := in_of (m := 5) (by omega) b1
      obtain ⟨u', hu, rfl⟩ := in_of (m := 9) (by omega) b2
      obtain ⟨s', hs, rfl⟩ := in_of (m := 99) (by omega) b3
      obtain ⟨a, ha, rfl⟩ := nI_of (x := wh) (fun q => by rw [Int32.lt_iff_toInt_lt] at q; rw [Int32.le_iff_toInt_le] at b4; omega)
      have e1 : nI a / 100 = nI (a / 100) := pk_div (d := 100) ha (by decide) (by decide)
      have e2 : nI a - nI a / 100 * 100 = nI (a % 100) := pk_rem (d := 100) ha (by decide) (by decide)
      rw [e2] at b6 ⊢
      rw [e1] at b5 ⊢
      have b5' : a / 100 ≤ 1 := by
        rcases Nat.lt_or_ge 1 (a / 100) with q | q
        · exact absurd ((nI_ltI (a := 1) (b := a / 100) (by omega) (by omega)).mpr q) b5
        · exact q
      have b6' := (nI_leI (a := a % 100) (b := 11) (by omega) (by omega)).mp b6
      intro i hi
      by_cases e : i = n
      · subst e
        refine ⟨⟨k', by omega, ?_⟩, ⟨u', by omega, ?_⟩, ⟨s', by omega, ?_⟩, ⟨a % 100, by omega, ?_⟩, ⟨a / 100, by omega, ?_⟩⟩
        · rw [u2_nw (by decide), u2_nw (by decide), u2_nw (by decide), u2_nw (by decide), u2_at]
        · rw [u2_nw (by decide), u2_nw (by decide), u2_nw (by decide), u2_at]
        · rw [u2_nw (by decide), u2_nw (by decide), u2_at]
        · rw [u2_at]
        · rw [u2_nw (by decide), u2_at]
      · rw [u2_ni e, u2_ni e, u2_ni e, u2_ni e, u2_ni e, u2_ni e, u2_ni e, u2_ni e, u2_ni e, u2_ni e, u2_ni e, u2_ni e, u2_ni e, u2_ni e, u2_ni e, u2_ni e, u2_ni e, u2_ni e, u2_ni e, u2_ni e, u2_ni e, u2_ni e, u2_ni e, u2_ni e, u2_ni e]
        exact h i (by omega)
    · rw [if_neg h8, if_neg h8]; exact h
theorem ok_fS {σ : Nat → Nat → Int32} {n : Nat} {it : Nat → Int32} {x : Int32} (h : okS σ n) : ∀ i, okS (fS it x σ n i).1 (fS it x σ n i).2.1
  | 0 => h
  | i + 1 => by rw [fS_succ]; exact ok_ad (ok_fS h i)
theorem ok_sum {σ : Nat → Nat → Int32} {n : Nat} (h8 : n ≤ 8) (h : okS σ n) : ∃ A, A < 100000 ∧ suI (σ 2) n = nI A := by
  have key : ∀ m, m ≤ n → ∃ A, A ≤ 99 * m ∧ suI (σ 2) m = nI A := by
    intro m
    induction m with
    | zero => intro _; exact ⟨0, by omega, rfl⟩
    | succ m ih =>
      intro hm
      obtain ⟨A, hA, eA⟩ := ih (by omega)
      obtain ⟨k, hk, ek⟩ := (h m (by omega)).2.2.1
      exact ⟨A + k, by omega, by rw [suI_succ, eA, ek, nI_add]⟩
  obtain ⟨A, hA, eA⟩ := key n (Nat.le_refl n)
  exact ⟨A, by omega, eA⟩
/-- the class's side -/
def CL (rf : Nat → Value) (tl : Lay) (mem : Mem) (σ : Nat → Nat → Int32) (n t w nt : Nat) (T : Nat → Nat → List Int32) (so : Nat → Int32) (sz : Nat → Nat) (it : Nat → Nat → Int32) (tn : Nat) (tp : Nat → Nat) (kp : Bool) (τ : Nat → Nat → Int32) (nk tk wk : Nat) : Prop :=
  isS 10 mem σ n (nI t) (nI w) ∧ isTT rf tl mem nt T ∧ isRR mem so sz it ∧ (mem 7 1 = nI tn ∧ ∀ i, i < tn → mem 8 i = nI (tp i)) ∧ mem 0 7 = (if kp then 1 else 0) ∧ (kp = true → isS 26 mem τ nk (nI tk) (nI wk))
/-- the Model's side -/
def MO (mem : Mem) (σ : Nat → Nat → Int32) (n t w nt : Nat) (T : Nat → Nat → List Int32) (so : Nat → Int32) (sz : Nat → Nat) (it : Nat → Nat → Int32) (tn : Nat) (tp : Nat → Nat) (kp : Bool) (τ : Nat → Nat → Int32) (nk tk wk : Nat) : Prop :=
  isM 48 mem σ n (nI t) (nI w) ∧ isTM mem nt T ∧ isMR mem so sz it ∧ (mem 47 5 = nI tn ∧ ∀ i, i < tn → mem 51 i = nI (tp i)) ∧ mem 47 3 = (if kp then 1 else 0) ∧ (kp = true → isM 49 mem τ nk (nI tk) (nI wk)) ∧ (∀ k, k < 84 → mem 54 k = nI (NM k)) ∧ (∀ j, j < 6 → mem 65 j = am_kab j) ∧ ∀ j, j < 9 → mem 60 j = 0
/-- what needs no memory -/
def PU (σ : Nat → Nat → Int32) (n t w nt tn : Nat) (tp : Nat → Nat) (kp : Bool) (τ : Nat → Nat → Int32) (nk tk wk : Nat) : Prop :=
  okS σ n ∧ t ≤ 999 ∧ w < nt ∧ tn ≤ 160 ∧ (∀ i, i < tn → tp i < 256) ∧ (kp = true → okS τ nk ∧ tk ≤ 999 ∧ wk < nt)
def INV (rf : Nat → Value) (tl : Lay) (mem : Mem) : Prop := ∃ σ n t w nt T so sz it tn tp kp τ nk tk wk, CL rf tl mem σ n t w nt T so sz it tn tp kp τ nk tk wk ∧ MO mem σ n t w nt T so sz it tn tp kp τ nk tk wk ∧ PU σ n t w nt tn tp kp τ nk tk wk
def kC (mem mem' : Mem) : Prop := ∀ j, j ≠ 3 → j ≠ 4 → j ≠ 9 → (j < 18 ∨ 25 < j) → (j < 34 ∨ 37 < j) → (j < 47 ∨ 66 < j) → mem' j = mem j
def kM (mem mem' : Mem) : Prop := (∀ j, 48 < j → j ≤ 66 → j ≠ 50 → j ≠ 55 → (j < 56 ∨ 60 < j) → j ≠ 64 → j ≠ 66 → mem' j = mem j) ∧ (∀ k, k < 43 → mem' 48 k = mem 48 k) ∧ (∀ k, k < 9 → mem' 60 k = mem 60 k) ∧ mem' 47 3 = mem 47 3 ∧ mem' 47 5 = mem 47 5 ∧ mem' 47 12 = mem 47 12
theorem kC.tr {a b c : Mem} (h1 : kC a b) (h2 : kC b c) : kC a c := fun j q1 q2 q3 q4 q5 q6 => (h2 j q1 q2 q3 q4 q5 q6).trans (h1 j q1 q2 q3 q4 q5 q6)
theorem kM.tr {a b c : Mem} (h1 : kM a b) (h2 : kM b c) : kM a c := ⟨fun j q1 q2 q3 q4 q5 q6 q7 => (h2.1 j q1 q2 q3 q4 q5 q6 q7).trans (h1.1 j q1 q2 q3 q4 q5 q6 q7), fun k hk => (h2.2.1 k hk).trans (h1.2.1 k hk), fun k hk => (h2.2.2.1 k hk).trans (h1.2.2.1 k hk), h2.2.2.2.1.trans h1.2.2.2.1, h2.2.2.2.2.1.trans h1.2.2.2.2.1, h2.2.2.2.2.2.trans h1.2.2.2.2.2⟩
theorem kM.of {a b : Mem} (h : ∀ j, 46 < j → j < 67 → b j = a j) : kM a b := ⟨fun j q1 q2 _ _ _ _ _ => h j (by omega) (by omega), fun k _ => by rw [h 48 (by decide) (by decide)], fun k _ => by rw [h 60 (by decide) (by decide)], by rw [h 47 (by decide) (by decide)], by rw [h 47 (by decide) (by decide)], by rw [h 47 (by decide) (by decide)]⟩
theorem kC.of {a b : Mem} (h : ∀ j, j < 47 ∨ 66 < j → b j = a j) : kC a b := fun j _ _ _ _ _ q => h j q
theorem CL.keep {rf : Nat → Value} {tl : Lay} {mem mem' : Mem} {σ : Nat → Nat → Int32} {n t w nt : Nat} {T : Nat → Nat → List Int32} {so : Nat → Int32} {sz : Nat → Nat} {it : Nat → Nat → Int32} {tn : Nat} {tp : Nat → Nat} {kp : Bool} {τ : Nat → Nat → Int32} {nk tk wk : Nat} (h : CL rf tl mem σ n t w nt T so sz it tn tp kp τ nk tk wk) (hk : kC mem mem') : CL rf tl mem' σ n t w nt T so sz it tn tp kp τ nk tk wk := by
  obtain ⟨h1, h2, h3, ⟨h4, h5⟩, h6, h7⟩ := h
  refine ⟨h1.kept (fun j q1 q2 => hk j (by omega) (by omega) (by omega) (by omega) (by omega) (by omega)), h2.kept (fun j q => hk j (by omega) (by omega) (by omega) (by omega) (by omega) (by omega)), fun j hj => ?_, ⟨by rw [hk 7 (by decide) (by decide) (by decide) (by decide) (by decide) (by decide)]; exact h4, fun i hi => by rw [hk 8 (by decide) (by decide) (by decide) (by decide) (by decide) (by decide)]; exact h5 i hi⟩, by rw [hk 0 (by decide) (by decide) (by decide) (by decide) (by decide) (by decide)]; exact h6, fun q => (h7 q).kept (fun j q1 q2 => hk j (by omega) (by omega) (by omega) (by omega) (by omega) (by omega))⟩
  obtain ⟨a1, a2, a3, a4⟩ := h3 j hj
  have e1 : mem' (39 + 2 * j) = mem (39 + 2 * j) := hk _ (by omega) (by omega) (by omega) (by omega) (by omega) (by omega)
  have e2 : mem' (40 + 2 * j) = mem (40 + 2 * j) := hk _ (by omega) (by omega) (by omega) (by omega) (by omega) (by omega)
  exact ⟨by rw [e1]; exact a1, by rw [e1]; exact a2, a3, fun k hk => by rw [e2]; exact a4 k hk⟩
theorem MO.keep {mem mem' : Mem} {σ : Nat → Nat → Int32} {n t w nt : Nat} {T : Nat → Nat → List Int32} {so : Nat → Int32} {sz : Nat → Nat} {it : Nat → Nat → Int32} {tn : Nat} {tp : Nat → Nat} {kp : Bool} {τ : Nat → Nat → Int32} {nk tk wk : Nat} (h : MO mem σ n t w nt T so sz it tn tp kp τ nk tk wk) (hk : kM mem mem') : MO mem' σ n t w nt T so sz it tn tp kp τ nk tk wk := by
  obtain ⟨h1, h2, h3, ⟨h4, h5⟩, h6, h7, h8, h9, h10⟩ := h
  obtain ⟨k1, k2, k3, k4, k5, k6⟩ := hk
  refine ⟨h1.cp k2, h2.kept k6 (k1 52 (by decide) (by decide) (by decide) (by decide) (by decide) (by decide) (by decide)) (k1 53 (by decide) (by decide) (by decide) (by decide) (by decide) (by decide) (by decide)), ?_, ⟨by rw [k5]; exact h4, fun i hi => by rw [k1 51 (by decide) (by decide) (by decide) (by decide) (by decide) (by decide) (by decide)]; exact h5 i hi⟩, by rw [k4]; exact h6, fun q => (h7 q).cp (fun k _ => by rw [k1 49 (by decide) (by decide) (by decide) (by decide) (by decide) (by decide) (by decide)]), fun k hk => by rw [k1 54 (by decide) (by decide) (by decide) (by decide) (by decide) (by decide) (by decide)]; exact h8 k hk, fun j hj => by rw [k1 65 (by decide) (by decide) (by decide) (by decide) (by decide) (by decide) (by decide)]; exact h9 j hj, fun j hj => by rw [k3 j hj]; exact h10 j hj⟩
  unfold isMR at h3 ⊢
  rw [k1 61 (by decide) (by decide) (by decide) (by decide) (by decide) (by decide) (by decide), k1 62 (by decide) (by decide) (by decide) (by decide) (by decide) (by decide) (by decide), k1 63 (by decide) (by decide) (by decide) (by decide) (by decide) (by decide) (by decide)]
  exact h3
/-- a call of the class that changes nothing told -/
theorem scr.k {a b : Mem} (h : scr a b) : kC a b ∧ kM a b := ⟨fun j q1 q2 _ _ _ _ => h j q1 q2, kM.of (fun j q1 q2 => h j (by omega) (by omega))⟩
theorem thf.k {a b : Mem} (h : thf a b) : kC a b ∧ kM a b := ⟨fun j q1 q2 _ q4 _ _ => h j q1 q2 q4, kM.of (fun j q1 q2 => h j (by omega) (by omega) (by omega))⟩
theorem jfr.k {a b : Mem} (h : jfr a b) : kC a b ∧ kM a b := ⟨fun j q1 q2 _ _ q5 _ => h j q1 q2 q5, kM.of (fun j q1 q2 => h j (by omega) (by omega) (by omega))⟩
theorem rwf.k {a b : Mem} (h : rwf a b) : kC a b ∧ kM a b := ⟨fun j _ _ _ _ _ q => h j (by omega), fun j q1 q2 _ _ q5 _ _ => h j (by omega), fun k _ => by rw [h 48 (by decide)], fun k _ => by rw [h 60 (by decide)], by rw [h 47 (by decide)], by rw [h 47 (by decide)], by rw [h 47 (by decide)]⟩
theorem mtf.k {a b : Mem} (h : mtf a b) : kC a b ∧ kM a b := ⟨fun j _ _ _ _ _ q => h.1 j (by omega) (by omega) (by omega) (by omega), fun j q1 q2 q3 _ q5 _ q7 => h.1 j (by omega) q3 (by omega) q7, h.2, fun k _ => by rw [h.1 60 (by decide) (by decide) (by decide) (by decide)], by rw [h.1 47 (by decide) (by decide) (by decide) (by decide)], by rw [h.1 47 (by decide) (by decide) (by decide) (by decide)], by rw [h.1 47 (by decide) (by decide) (by decide) (by decide)]⟩
theorem jbf.k {a b : Mem} (h : jbf a b) : kC a b ∧ kM a b := ⟨fun j _ _ _ _ _ q => h.1 j (by omega) (by omega) (by omega) (by omega), fun j q1 q2 _ _ q5 _ _ => h.1 j (by omega) (by omega) (by omega) (by omega), fun k _ => by rw [h.1 48 (by decide) (by decide) (by decide) (by decide)], h.2.2, h.2.1 3 (by decide) (by decide), h.2.1 5 (by decide) (by decide), h.2.1 12 (by decide) (by decide)⟩
theorem lwi {SL i : Nat} (hSL : SL ≤ 3072) (hi : i + 6 ≤ SL) : vp_in (nI i) SL ∧ vp_in (nI i + 1) SL ∧ vp_in (nI i + 2) SL ∧ vp_in (nI i + 3) SL ∧ vp_in (nI i + 4) SL ∧ vp_in (nI i + 5) SL := by
  have key : ∀ k : Nat, k < 6 → vp_in (nI (i + k)) SL := fun k hk => am_in (by omega) (by omega)
  refine ⟨key 0 (by decide), ?_, ?_, ?_, ?_, ?_⟩
  · rw [show nI i + 1 = nI (i + 1) from nI_add i 1]; exact key 1 (by decide)
  · rw [show nI i + 2 = nI (i + 2) from nI_add i 2]; exact key 2 (by decide)
  · rw [show nI i + 3 = nI (i + 3) from nI_add i 3]; exact key 3 (by decide)
  · rw [show nI i + 4 = nI (i + 4) from nI_add i 4]; exact key 4 (by decide)
  · rw [show nI i + 5 = nI (i + 5) from nI_add i 5]; exact key 5 (by decide)

