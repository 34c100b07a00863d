/-! ===== twos: the Model's pair, and that both are the most ===== -/
def mtN (g : Nat → Bool) (h : Nat → Nat) (m0 : Nat) : Nat → Nat
  | 0 => m0
  | i + 1 => if g i then max (mtN g h m0 i) (1 + h i) else mtN g h m0 i
theorem mtN_t {g : Nat → Bool} {h : Nat → Nat} {m0 i : Nat} (hg : g i = true) : mtN g h m0 (i + 1) = max (mtN g h m0 i) (1 + h i) := by rw [mtN, if_pos hg]
theorem mtN_f {g : Nat → Bool} {h : Nat → Nat} {m0 i : Nat} (hg : g i = false) : mtN g h m0 (i + 1) = mtN g h m0 i := by rw [mtN, hg, if_neg Bool.false_ne_true]
theorem mtN_le {g : Nat → Bool} {h : Nat → Nat} {m0 B : Nat} (h0 : m0 ≤ B) (h1 : ∀ i, g i = true → 1 + h i ≤ B) : ∀ m, mtN g h m0 m ≤ B
  | 0 => h0
  | m + 1 => by
    have ih := mtN_le h0 h1 m
    cases hg : g m with
    | true => rw [mtN_t hg]; have := h1 m hg; omega
    | false => rw [mtN_f hg]; exact ih
theorem mtN_ge0 {g : Nat → Bool} {h : Nat → Nat} {m0 : Nat} : ∀ m, m0 ≤ mtN g h m0 m
  | 0 => Nat.le_refl _
  | m + 1 => by
    have ih := mtN_ge0 (g := g) (h := h) (m0 := m0) m
    cases hg : g m with
    | true => rw [mtN_t hg]; omega
    | false => rw [mtN_f hg]; exact ih
theorem mtN_ge {g : Nat → Bool} {h : Nat → Nat} {m0 i : Nat} (hg : g i = true) : ∀ {m}, i < m → 1 + h i ≤ mtN g h m0 m
  | 0, hi => absurd hi (Nat.not_lt_zero i)
  | m + 1, hi => by
    rcases Nat.lt_or_ge i m with q | q
    · have ih := mtN_ge (g := g) (h := h) (m0 := m0) hg q
      cases hm : g m with
      | true => rw [mtN_t hm]; omega
      | false => rw [mtN_f hm]; exact ih
    · have : i = m := by omega
      subst this
      rw [mtN_t hg]; omega
theorem mtN_is {g : Nat → Bool} {h : Nat → Nat} {m0 : Nat} : ∀ m, mtN g h m0 m = m0 ∨ ∃ i, i < m ∧ g i = true ∧ mtN g h m0 m = 1 + h i
  | 0 => Or.inl rfl
  | m + 1 => by
    have ih := mtN_is (g := g) (h := h) (m0 := m0) m
    cases hg : g m with
    | true =>
      rw [mtN_t hg]
      rcases Nat.lt_or_ge (1 + h m) (mtN g h m0 m) with q | q
      · rw [Nat.max_eq_left (by omega)]
        rcases ih with e | ⟨i, hi, h1, h2⟩
        · exact Or.inl e
        · exact Or.inr ⟨i, by omega, h1, h2⟩
      · rw [Nat.max_eq_right q]
        exact Or.inr ⟨m, by omega, hg, rfl⟩
    | false =>
      rw [mtN_f hg]
      rcases ih with e | ⟨i, hi, h1, h2⟩
      · exact Or.inl e
      · exact Or.inr ⟨i, by omega, h1, h2⟩
theorem mtl_N {g : Nat → Bool} {hI : Nat → Int32} {h : Nat → Nat} {m0 : Nat} (h0 : m0 < 900) (h1 : ∀ i, hI i = nI (h i) ∧ h i < 900) : ∀ m, mtl g hI (nI m0) m = nI (mtN g h m0 m) ∧ mtN g h m0 m < 950
  | 0 => ⟨rfl, by show m0 < 950; omega⟩
  | m + 1 => by
    obtain ⟨ih1, ih2⟩ := mtl_N (g := g) h0 h1 m
    have h2 := h1 m
    cases hg : g m with
    | true =>
      rw [mtl_t hg, mtN_t hg, ih1, h2.1, show (1 : Int32) + nI (h m) = nI (1 + h m) from nI_add 1 _, mx_nI (by omega) (by omega)]
      exact ⟨rfl, by omega⟩
    | false => rw [mtl_f hg, mtN_f hg]; exact ⟨ih1, ih2⟩
def mwN (σ : Nat → Nat → Int32) (n : Nat) (x : Int32) : Nat → Nat → Int32 → Nat
  | 0, _, _ => 0
  | k + 1, p, u => if σ 4 p = 0 then mtN (fun o => decide (u &&& b1I o = 0) && woB σ p o x) (fun o => mwN σ n x k (p + 1) (u ||| b1I o)) (mwN σ n x k (p + 1) u) n else mwN σ n x k (p + 1) u
theorem mwN_0 {σ : Nat → Nat → Int32} {n : Nat} {x : Int32} {p : Nat} {u : Int32} : mwN σ n x 0 p u = 0 := rfl
theorem mwN_s {σ : Nat → Nat → Int32} {n : Nat} {x : Int32} {k p : Nat} {u : Int32} : mwN σ n x (k + 1) p u = if σ 4 p = 0 then mtN (fun o => decide (u &&& b1I o = 0) && woB σ p o x) (fun o => mwN σ n x k (p + 1) (u ||| b1I o)) (mwN σ n x k (p + 1) u) n else mwN σ n x k (p + 1) u := rfl
def prN (σ : Nat → Nat → Int32) (n : Nat) (x : Int32) : Nat → Nat → Int32 → Nat
  | 0, _, _ => 0
  | k + 1, i, g => if g &&& b1I i = 0 then mtN (fun o => decide (i < o) && decide (g &&& b1I o = 0) && woB σ i o x) (fun o => prN σ n x k (i + 1) (g ||| b1I o)) (prN σ n x k (i + 1) g) n else prN σ n x k (i + 1) g
theorem prN_0 {σ : Nat → Nat → Int32} {n : Nat} {x : Int32} {p : Nat} {u : Int32} : prN σ n x 0 p u = 0 := rfl
theorem prN_s {σ : Nat → Nat → Int32} {n : Nat} {x : Int32} {k i : Nat} {g : Int32} : prN σ n x (k + 1) i g = if g &&& b1I i = 0 then mtN (fun o => decide (i < o) && decide (g &&& b1I o = 0) && woB σ i o x) (fun o => prN σ n x k (i + 1) (g ||| b1I o)) (prN σ n x k (i + 1) g) n else prN σ n x k (i + 1) g := rfl
theorem mwN_le {σ : Nat → Nat → Int32} {n : Nat} {x : Int32} : ∀ (k p : Nat) (u : Int32), mwN σ n x k p u ≤ k
  | 0, _, _ => Nat.le_refl _
  | k + 1, p, u => by
    have h1 := mwN_le (σ := σ) (n := n) (x := x) k (p + 1) u
    rw [mwN_s]
    split
    · exact mtN_le (by omega) (fun i _ => by have := mwN_le (σ := σ) (n := n) (x := x) k (p + 1) (u ||| b1I i); omega) n
    · omega
theorem prN_le {σ : Nat → Nat → Int32} {n : Nat} {x : Int32} : ∀ (k p : Nat) (u : Int32), prN σ n x k p u ≤ k
  | 0, _, _ => Nat.le_refl _
  | k + 1, p, u => by
    have h1 := prN_le (σ := σ) (n := n) (x := x) k (p + 1) u
    rw [prN_s]
    split
    · exact mtN_le (by omega) (fun i _ => by have := prN_le (σ := σ) (n := n) (x := x) k (p + 1) (u ||| b1I i); omega) n
    · omega
theorem mtw_N {σ : Nat → Nat → Int32} {n : Nat} {x : Int32} : ∀ (k p : Nat) (u : Int32), k ≤ 800 → mtw σ n x k p u = nI (mwN σ n x k p u)
  | 0, _, _, _ => rfl
  | k + 1, p, u, hk => by
    have h1 := mtw_N (σ := σ) (n := n) (x := x) k (p + 1) u (by omega)
    have h2 := mwN_le (σ := σ) (n := n) (x := x) k (p + 1) u
    rw [mtw_s, mwN_s]
    by_cases h : σ 4 p = 0
    · rw [if_pos h, if_pos h, h1]
      exact (mtl_N (by omega) (fun i => ⟨mtw_N k (p + 1) (u ||| b1I i) (by omega), by have := mwN_le (σ := σ) (n := n) (x := x) k (p + 1) (u ||| b1I i); omega⟩) n).1
    · rw [if_neg h, if_neg h, h1]
/-! matchings -/
def PM (σ : Nat → Nat → Int32) (n : Nat) (x : Int32) (i : Nat) (g : Int32) (L : List (Nat × Nat)) : Prop := (∀ e ∈ L, i ≤ e.1 ∧ e.1 < e.2 ∧ e.2 < n ∧ g &&& b1I e.1 = 0 ∧ g &&& b1I e.2 = 0 ∧ woB σ e.1 e.2 x = true) ∧ L.Pairwise (fun e f => e.1 ≠ f.1 ∧ e.1 ≠ f.2 ∧ e.2 ≠ f.1 ∧ e.2 ≠ f.2)
def TM (σ : Nat → Nat → Int32) (n : Nat) (x : Int32) (p : Nat) (u : Int32) (L : List (Nat × Nat)) : Prop := (∀ e ∈ L, p ≤ e.1 ∧ e.1 < n ∧ σ 4 e.1 = 0 ∧ e.2 < n ∧ u &&& b1I e.2 = 0 ∧ woB σ e.1 e.2 x = true) ∧ L.Pairwise (fun e f => e.1 ≠ f.1 ∧ e.2 ≠ f.2)
theorem or_bit {u : Int32} {o q : Nat} (ho : o < 12) (hq : q < 12) : ((u ||| b1I o) &&& b1I q = 0) ↔ (u &&& b1I q = 0 ∧ o ≠ q) := by
  rw [or_and_0, b1_and ho hq]
theorem pr_is {σ : Nat → Nat → Int32} {n : Nat} {x : Int32} (h8 : n ≤ 8) : ∀ (k i : Nat) (g : Int32), i + k = n → ∃ L, PM σ n x i g L ∧ L.length = prN σ n x k i g
  | 0, i, g, _ => ⟨[], ⟨fun e he => absurd he List.not_mem_nil, List.Pairwise.nil⟩, rfl⟩
  | k + 1, i, g, hk => by
    obtain ⟨L0, ⟨p0, q0⟩, l0⟩ := pr_is (σ := σ) (x := x) h8 k (i + 1) g (by omega)
    have up : PM σ n x i g L0 := ⟨fun e he => by obtain ⟨a1, a2⟩ := p0 e he; exact ⟨by omega, a2⟩, q0⟩
    rw [prN_s]
    by_cases hg : g &&& b1I i = 0
    · rw [if_pos hg]
      rcases mtN_is (g := fun o => decide (i < o) && decide (g &&& b1I o = 0) && woB σ i o x) (h := fun o => prN σ n x k (i + 1) (g ||| b1I o)) (m0 := prN σ n x k (i + 1) g) n with e | ⟨o, ho, h1, h2⟩
      · rw [e]; exact ⟨L0, up, l0⟩
      · rw [h2]
        simp only [Bool.and_eq_true, decide_eq_true_eq] at h1
        obtain ⟨⟨h3, h4⟩, h5⟩ := h1
        obtain ⟨L, ⟨p1, q1⟩, l1⟩ := pr_is (σ := σ) (x := x) h8 k (i + 1) (g ||| b1I o) (by omega)
        refine ⟨(i, o) :: L, ⟨fun e he => ?_, List.pairwise_cons.mpr ⟨fun f hf => ?_, q1⟩⟩, by rw [List.length_cons, l1]; omega⟩
        · rcases List.mem_cons.mp he with rfl | he
          · exact ⟨Nat.le_refl _, h3, ho, hg, h4, h5⟩
          · obtain ⟨a1, a2, a3, a4, a5, a6⟩ := p1 e he
            rw [or_bit (by omega) (by omega)] at a4 a5
            exact ⟨by omega, a2, a3, a4.1, a5.1, a6⟩
        · obtain ⟨a1, a2, a3, a4, a5, a6⟩ := p1 f hf
          rw [or_bit (by omega) (by omega)] at a4 a5
          exact ⟨by show i ≠ f.1; omega, by show i ≠ f.2; omega, a4.2, a5.2⟩
    · rw [if_neg hg]; exact ⟨L0, up, l0⟩
theorem pr_top {σ : Nat → Nat → Int32} {n : Nat} {x : Int32} (h8 : n ≤ 8) : ∀ (k i : Nat) (g : Int32) (L : List (Nat × Nat)), i + k = n → PM σ n x i g L → L.length ≤ prN σ n x k i g
  | 0, i, g, L, hk, ⟨p, _⟩ => by
    cases L with
    | nil => exact Nat.le_refl _
    | cons e L =>
      obtain ⟨a1, a2, a3, -⟩ := p e List.mem_cons_self
      omega
  | k + 1, i, g, L, hk, ⟨p, q⟩ => by
    have ih := pr_top (σ := σ) (x := x) h8 k (i + 1)
    rw [prN_s]
    by_cases h : ∃ e ∈ L, e.1 = i
    · obtain ⟨e, he, hei⟩ := h
      obtain ⟨a1, a2, a3, a4, a5, a6⟩ := p e he
      obtain ⟨L1, L2, rfl⟩ := List.append_of_mem he
      rw [List.pairwise_append, List.pairwise_cons] at q
      obtain ⟨q1, ⟨q2, q3⟩, q4⟩ := q
      rw [hei] at a4
      rw [if_pos a4]
      have hL : PM σ n x (i + 1) (g ||| b1I e.2) (L1 ++ L2) := by
        refine ⟨fun f hf => ?_, List.pairwise_append.mpr ⟨q1, q3, fun a ha b hb => q4 a ha b (List.mem_cons_of_mem _ hb)⟩⟩
        have hf' : f ∈ L1 ++ e :: L2 := by
          rcases List.mem_append.mp hf with c | c
          · exact List.mem_append_left _ c
          · exact List.mem_append_right _ (List.mem_cons_of_mem _ c)
        obtain ⟨b1, b2, b3, b4, b5, b6⟩ := p f hf'
        have hd : e.1 ≠ f.1 ∧ e.1 ≠ f.2 ∧ e.2 ≠ f.1 ∧ e.2 ≠ f.2 := by
          rcases List.mem_append.mp hf with c | c
          · obtain ⟨d1, d2, d3, d4⟩ := q4 f c e List.mem_cons_self
            exact ⟨fun z => d1 z.symm, fun z => d3 z.symm, fun z => d2 z.symm, fun z => d4 z.symm⟩
          · exact q2 f c
        rw [hei] at hd
        exact ⟨by omega, b2, b3, (or_bit (by omega) (by omega)).mpr ⟨b4, hd.2.2.1⟩, (or_bit (by omega) (by omega)).mpr ⟨b5, hd.2.2.2⟩, b6⟩
      have h1 := ih (g ||| b1I e.2) (L1 ++ L2) (by omega) hL
      have h2 := mtN_ge (g := fun o => decide (i < o) && decide (g &&& b1I o = 0) && woB σ i o x) (h := fun o => prN σ n x k (i + 1) (g ||| b1I o)) (m0 := prN σ n x k (i + 1) g) (i := e.2) (by
        simp only [Bool.and_eq_true, decide_eq_true_eq]
        rw [hei] at a2 a6
        exact ⟨⟨a2, a5⟩, a6⟩) a3
      simp only [List.length_append, List.length_cons] at h1 ⊢
      omega
    · have hL : PM σ n x (i + 1) g L := ⟨fun e he => by
        obtain ⟨a1, a2⟩ := p e he
        have : e.1 ≠ i := fun c => h ⟨e, he, c⟩
        exact ⟨by omega, a2⟩, q⟩
      have h1 := ih g L (by omega) hL
      split
      · exact Nat.le_trans h1 (mtN_ge0 n)
      · exact h1
theorem mw_is {σ : Nat → Nat → Int32} {n : Nat} {x : Int32} (h8 : n ≤ 8) : ∀ (k i : Nat) (g : Int32), i + k = n → ∃ L, TM σ n x i g L ∧ L.length = mwN σ n x k i g
  | 0, i, g, _ => ⟨[], ⟨fun e he => absurd he List.not_mem_nil, List.Pairwise.nil⟩, rfl⟩
  | k + 1, i, g, hk => by
    obtain ⟨L0, ⟨p0, q0⟩, l0⟩ := mw_is (σ := σ) (x := x) h8 k (i + 1) g (by omega)
    have up : TM σ n x i g L0 := ⟨fun e he => by obtain ⟨a1, a2⟩ := p0 e he; exact ⟨by omega, a2⟩, q0⟩
    rw [mwN_s]
    by_cases hg : σ 4 i = 0
    · rw [if_pos hg]
      rcases mtN_is (g := fun o => decide (g &&& b1I o = 0) && woB σ i o x) (h := fun o => mwN σ n x k (i + 1) (g ||| b1I o)) (m0 := mwN σ n x k (i + 1) g) n with e | ⟨o, ho, h1, h2⟩
      · rw [e]; exact ⟨L0, up, l0⟩
      · rw [h2]
        simp only [Bool.and_eq_true, decide_eq_true_eq] at h1
        obtain ⟨h4, h5⟩ := h1
        obtain ⟨L, ⟨p1, q1⟩, l1⟩ := mw_is (σ := σ) (x := x) h8 k (i + 1) (g ||| b1I o) (by omega)
        refine ⟨(i, o) :: L, ⟨fun e he => ?_, List.pairwise_cons.mpr ⟨fun f hf => ?_, q1⟩⟩, by rw [List.length_cons, l1]; omega⟩
        · rcases List.mem_cons.mp he with rfl | he
          · exact ⟨Nat.le_refl _, by show i < n; omega, hg, ho, h4, h5⟩
          · obtain ⟨a1, a2, a3, a4, a5, a6⟩ := p1 e he
            rw [or_bit (by omega) (by omega)] at a5
            exact ⟨by omega, a2, a3, a4, a5.1, a6⟩
        · obtain ⟨a1, a2, a3, a4, a5, a6⟩ := p1 f hf
          rw [or_bit (by omega) (by omega)] at a5
          exact ⟨by show i ≠ f.1; omega, a5.2⟩
    · rw [if_neg hg]; exact ⟨L0, up, l0⟩
theorem mw_top {σ : Nat → Nat → Int32} {n : Nat} {x : Int32} (h8 : n ≤ 8) : ∀ (k i : Nat) (g : Int32) (L : List (Nat × Nat)), i + k = n → TM σ n x i g L → L.length ≤ mwN σ n x k i g
  | 0, i, g, L, hk, ⟨p, _⟩ => by
    cases L with
    | nil => exact Nat.le_refl _
    | cons e L =>
      obtain ⟨a1, a2, -⟩ := p e List.mem_cons_self
      omega
  | k + 1, i, g, L, hk, ⟨p, q⟩ => by
    have ih := mw_top (σ := σ) (x := x) h8 k (i + 1)
    rw [mwN_s]
    by_cases h : ∃ e ∈ L, e.1 = i
    · obtain ⟨e, he, hei⟩ := h
      obtain ⟨a1, a2, a3, a4, a5, a6⟩ := p e he
      obtain ⟨L1, L2, rfl⟩ := List.append_of_mem he
      rw [List.pairwise_append, List.pairwise_cons] at q
      obtain ⟨q1, ⟨q2, q3⟩, q4⟩ := q
      rw [hei] at a3
      rw [if_pos a3]
      have hL : TM σ n x (i + 1) (g ||| b1I e.2) (L1 ++ L2) := by
        refine ⟨fun f hf => ?_, List.pairwise_append.mpr ⟨q1, q3, fun a ha b hb => q4 a ha b (List.mem_cons_of_mem _ hb)⟩⟩
        have hf' : f ∈ L1 ++ e :: L2 := by
          rcases List.mem_append.mp hf with c | c
          · exact List.mem_append_left _ c
          · exact List.mem_append_right _ (List.mem_cons_of_mem _ c)
        obtain ⟨b1, b2, b3, b4, b5, b6⟩ := p f hf'
        have hd : e.1 ≠ f.1 ∧ e.2 ≠ f.2 := by
          rcases List.mem_append.mp hf with c | c
          · obtain ⟨d1, d2⟩ := q4 f c e List.mem_cons_self
            exact ⟨fun z => d1 z.symm, fun z => d2 z.symm⟩
          · exact q2 f c
        rw [hei] at hd
        exact ⟨by omega, b2, b3, b4, (or_bit (by omega) (by omega)).mpr ⟨b5, hd.2⟩, b6⟩
      have h1 := ih (g ||| b1I e.2) (L1 ++ L2) (by omega) hL
      have h2 := mtN_ge (g := fun o => decide (g &&& b1I o = 0) && woB σ i o x) (h := fun o => mwN σ n x k (i + 1) (g ||| b1I o)) (m0 := mwN σ n x k (i + 1) g) (i := e.2) (by
        simp only [Bool.and_eq_true, decide_eq_true_eq]
        rw [hei] at a6
        exact ⟨a5, a6⟩) a4
      simp only [List.length_append, List.length_cons] at h1 ⊢
      omega
    · have hL : TM σ n x (i + 1) g L := ⟨fun e he => by
        obtain ⟨a1, a2⟩ := p e he
        have : e.1 ≠ i := fun c => h ⟨e, he, c⟩
        exact ⟨by omega, a2⟩, q⟩
      have h1 := ih g L (by omega) hL
      split
      · exact Nat.le_trans h1 (mtN_ge0 n)
      · exact h1
theorem ap_sym {a b : Nat} (ha : a < 12) (hb : b < 12) : apI (nI a) (nI b) = apI (nI b) (nI a) := by
  have key : ∀ p q : Fin 12, apI (nI p.1) (nI q.1) = apI (nI q.1) (nI p.1) := by decide +kernel
  exact key ⟨a, ha⟩ ⟨b, hb⟩
theorem wo_sym {σ : Nat → Nat → Int32} {n p q : Nat} {x : Int32} (hok : okS σ n) (hp : p < n) (hq : q < n) : woB σ p q x = woB σ q p x := by
  obtain ⟨a, ha, ea⟩ := (hok p hp).2.2.2.1
  obtain ⟨b, hb, eb⟩ := (hok q hq).2.2.2.1
  unfold woB
  rw [ea, eb, ap_sym ha hb]
  simp only [eq_comm (a := σ 4 q), eq_comm (a := σ 1 q)]
theorem wo_side {σ : Nat → Nat → Int32} {p q : Nat} {x : Int32} (h : woB σ p q x = true) : ¬ σ 4 p = σ 4 q := by
  unfold woB at h
  simp only [Bool.and_eq_true, Bool.not_eq_true', decide_eq_false_iff_not] at h
  exact h.1.1
theorem mw_pr {σ : Nat → Nat → Int32} {n : Nat} {x : Int32} (hok : okS σ n) (h8 : n ≤ 8) : mwN σ n x n 0 0 = prN σ n x n 0 0 := by
  have sd : ∀ i, i < n → σ 4 i = 0 ∨ σ 4 i = 1 := fun i hi => by
    obtain ⟨k, hk, ek⟩ := (hok i hi).2.2.2.2
    have : k = 0 ∨ k = 1 := by omega
    rcases this with rfl | rfl
    · exact Or.inl ek
    · exact Or.inr ek
  have z0 : ∀ k : Nat, (0 : Int32) &&& b1I k = 0 := fun k => Int32.zero_and
  apply Nat.le_antisymm
  · obtain ⟨L, ⟨p, q⟩, l⟩ := mw_is (σ := σ) (x := x) h8 n 0 0 (by omega)
    rw [← l]
    have hne : ∀ e ∈ L, e.1 ≠ e.2 := fun e he c => by
      obtain ⟨-, -, -, -, -, a6⟩ := p e he
      exact wo_side a6 (by rw [c])
    have := pr_top (σ := σ) (x := x) h8 n 0 0 (L.map (fun e => (min e.1 e.2, max e.1 e.2))) (by omega) ⟨fun f hf => ?_, ?_⟩
    · rw [List.length_map] at this; exact this
    · obtain ⟨e, he, rfl⟩ := List.mem_map.mp hf
      obtain ⟨a1, a2, a3, a4, a5, a6⟩ := p e he
      have h1 := hne e he
      refine ⟨Nat.zero_le _, by show min e.1 e.2 < max e.1 e.2; omega, by show max e.1 e.2 < n; omega, z0 _, z0 _, ?_⟩
      show woB σ (min e.1 e.2) (max e.1 e.2) x = true
      rcases Nat.lt_or_ge e.1 e.2 with c | c
      · rw [Nat.min_eq_left (by omega), Nat.max_eq_right (by omega)]; exact a6
      · rw [Nat.min_eq_right c, Nat.max_eq_left c, wo_sym hok a4 a2]; exact a6
    · rw [List.pairwise_map]
      refine List.Pairwise.imp_of_mem (fun {e f} he hf h => ?_) q
      obtain ⟨a1, a2, a3, a4, a5, a6⟩ := p e he
      obtain ⟨b1, b2, b3, b4, b5, b6⟩ := p f hf
      have h1 := wo_side a6
      have h2 := wo_side b6
      rw [a3] at h1
      rw [b3] at h2
      have c1 : e.1 ≠ f.2 := fun c => h2 (by rw [← c, a3])
      have c2 : e.2 ≠ f.1 := fun c => h1 (by rw [c, b3])
      obtain ⟨d1, d2⟩ := h
      show min e.1 e.2 ≠ min f.1 f.2 ∧ min e.1 e.2 ≠ max f.1 f.2 ∧ max e.1 e.2 ≠ min f.1 f.2 ∧ max e.1 e.2 ≠ max f.1 f.2
      omega
  · obtain ⟨L, ⟨p, q⟩, l⟩ := pr_is (σ := σ) (x := x) h8 n 0 0 (by omega)
    rw [← l]
    have := mw_top (σ := σ) (x := x) h8 n 0 0 (L.map (fun e => if σ 4 e.1 = 0 then e else (e.2, e.1))) (by omega) ⟨fun f hf => ?_, ?_⟩
    · rw [List.length_map] at this; exact this
    · obtain ⟨e, he, rfl⟩ := List.mem_map.mp hf
      obtain ⟨a1, a2, a3, a4, a5, a6⟩ := p e he
      by_cases c : σ 4 e.1 = 0
      · rw [if_pos c]; exact ⟨Nat.zero_le _, by omega, c, a3, z0 _, a6⟩
      · rw [if_neg c]
        have h1 := wo_side a6
        have c1 := (sd e.1 (by omega)).resolve_left c
        rw [c1] at h1
        have c2 : σ 4 e.2 = 0 := (sd e.2 a3).resolve_right (fun z => h1 z.symm)
        exact ⟨Nat.zero_le _, a3, c2, by show e.1 < n; omega, z0 _, by rw [wo_sym hok a3 (by omega)]; exact a6⟩
    · rw [List.pairwise_map]
      refine List.Pairwise.imp_of_mem (fun {e f} he hf h => ?_) q
      obtain ⟨d1, d2, d3, d4⟩ := h
      by_cases c : σ 4 e.1 = 0
      · by_cases c' : σ 4 f.1 = 0
        · rw [if_pos c, if_pos c']; exact ⟨d1, d4⟩
        · rw [if_pos c, if_neg c']; exact ⟨d2, d3⟩
      · by_cases c' : σ 4 f.1 = 0
        · rw [if_neg c, if_pos c']; exact ⟨d3, d2⟩
        · rw [if_neg c, if_neg c']; exact ⟨d4, d1⟩

