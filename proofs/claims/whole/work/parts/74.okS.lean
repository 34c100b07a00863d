/-! ===== shores whose numbers are in their bounds ===== -/
def okS (σ : Nat → Nat → Int32) (n : Nat) : Prop := ∀ i, i < n → (∃ k, k < 6 ∧ σ 0 i = nI k) ∧ (∃ k, k < 10 ∧ σ 1 i = nI k) ∧ (∃ k, k < 100 ∧ σ 2 i = nI k) ∧ (∃ k, k < 12 ∧ σ 3 i = nI k) ∧ (∃ k, k < 2 ∧ σ 4 i = nI k)
theorem okS.kOK {σ : Nat → Nat → Int32} {n : Nat} (h : okS σ n) : kOK σ n := fun i hi => (h i hi).1
theorem rm12 (x : Int32) : (rmI x 12).toInt = x.toInt.tmod 12 := by
  have h1 := x.toInt_lt
  have h2 := x.le_toInt
  have e12 : (12 : Int32).toInt = 12 := by decide
  have hd : (x / 12).toInt = x.toInt.tdiv 12 := by rw [Int32.toInt_div_of_ne_right _ _ (by decide), e12]
  have hb : -2147483648 ≤ x.toInt.tdiv 12 * 12 ∧ x.toInt.tdiv 12 * 12 < 2147483648 := by
    rcases Int.lt_or_le x.toInt 0 with q | q
    · obtain ⟨m, hm⟩ := Int.exists_eq_neg_ofNat (Int.le_of_lt q)
      rw [hm, Int.neg_tdiv, Int.tdiv_eq_ediv_of_nonneg (Int.natCast_nonneg m)]
      omega
    · rw [Int.tdiv_eq_ediv_of_nonneg q]; omega
  unfold rmI
  have hm : (x / 12 * 12).toInt = x.toInt.tdiv 12 * 12 := by rw [Int32.toInt_mul, hd, e12, Int.bmod_eq_of_le (by omega) (by omega)]
  have ht : x.toInt.tmod 12 = x.toInt - x.toInt.tdiv 12 * 12 := by
    have := Int.tmod_add_mul_tdiv x.toInt 12
    omega
  have hr : -12 < x.toInt.tmod 12 ∧ x.toInt.tmod 12 < 12 := by
    rcases Int.lt_or_le x.toInt 0 with q | q
    · obtain ⟨m, hm⟩ := Int.exists_eq_neg_ofNat (Int.le_of_lt q)
      rw [hm, Int.neg_tmod, Int.tmod_eq_emod_of_nonneg (Int.natCast_nonneg m)]
      omega
    · rw [Int.tmod_eq_emod_of_nonneg q]; omega
  rw [Int32.toInt_sub, hm, ← ht, Int.bmod_eq_of_le (by omega) (by omega)]
theorem xor_sign (x : Int32) : (0 ≤ x ^^^ 12) = (0 ≤ x) := by
  have key : ∀ y : Int32, (0 ≤ y) = (y.toBitVec.msb = false) := fun y => by
    apply propext
    rw [Int32.le_iff_toInt_le, show (0 : Int32).toInt = 0 from by decide, show y.toInt = y.toBitVec.toInt from rfl]
    rw [BitVec.msb_eq_toInt]
    simp
  rw [key, key, Int32.toBitVec_xor, BitVec.msb_xor, show (12 : Int32).toBitVec.msb = false from by decide, Bool.xor_false]
theorem fm12 (x : Int32) : ∃ r, r < 12 ∧ fmI x 12 = nI r := by
  have hr := rm12 x
  have h0 : (0 : Int32).toInt = 0 := by decide
  have nn : ∀ y : Int32, 0 ≤ y.toInt → y.toInt < 12 → ∃ r, r < 12 ∧ y = nI r := fun y q1 q2 => by
    obtain ⟨j, hj, rfl⟩ := nI_of (x := y) (by rw [Int32.lt_iff_toInt_lt, h0]; omega)
    rw [nI_toInt hj] at q2
    exact ⟨j, by omega, rfl⟩
  unfold fmI
  by_cases q : 0 ≤ x
  · rw [if_pos (by rw [xor_sign]; exact q)]
    rw [Int32.le_iff_toInt_le, h0] at q
    rw [Int.tmod_eq_emod_of_nonneg q] at hr
    exact nn _ (by omega) (by omega)
  · rw [if_neg (by rw [xor_sign]; exact q)]
    rw [Int32.le_iff_toInt_le, h0] at q
    obtain ⟨m, hm⟩ := Int.exists_eq_neg_ofNat (show x.toInt ≤ 0 by omega)
    rw [hm, Int.neg_tmod, Int.tmod_eq_emod_of_nonneg (Int.natCast_nonneg m)] at hr
    by_cases q2 : rmI x 12 = 0
    · rw [if_pos q2]; exact ⟨0, by omega, q2⟩
    · rw [if_neg q2]
      have q3 : ¬ (rmI x 12).toInt = 0 := fun e => q2 (Int32.toInt_inj.mp (by rw [e, h0]))
      have e : (rmI x 12 + 12).toInt = (rmI x 12).toInt + 12 := by
        rw [Int32.toInt_add, show (12 : Int32).toInt = 12 from by decide, Int.bmod_eq_of_le (by omega) (by omega)]
      exact nn _ (by rw [e]; omega) (by rw [e]; omega)
theorem ok_sharp {s : Nat} (h : s < 100) (x : Int32) : ∃ k, k < 100 ∧ mxI 0 (nI s - bdI x 0 99) = nI k := by
  obtain ⟨v, hv, ev⟩ := bd_or x
  rw [ev]
  rcases Nat.lt_or_ge s v with q | q
  · refine ⟨0, by omega, ?_⟩
    unfold mxI
    rw [if_neg]
    · rfl
    · rw [Int32.lt_iff_toInt_lt, Int32.toInt_sub, nI_toInt (by omega), nI_toInt (by omega), Int.bmod_eq_of_le (by omega) (by omega), show (0 : Int32).toInt = 0 from by decide]
      omega
  · refine ⟨s - v, by omega, ?_⟩
    rw [pk_sub q, show (0 : Int32) = nI 0 from rfl, mx_nI (by omega) (by omega), Nat.max_eq_right (Nat.zero_le _)]
theorem okS.pas {σ : Nat → Nat → Int32} {n : Nat} {td : Int32} {P : Nat → List Int32} (h : okS σ n) : okS (pas σ n td P) n := by
  intro i hi
  obtain ⟨h0, h1, ⟨s, hs, es⟩, h3, h4⟩ := h i hi
  refine ⟨h0, h1, ?_, ?_, h4⟩
  · rw [← wr_max, es]
    exact ok_sharp hs _
  · exact fm12 _
theorem okS.sg {σ : Nat → Nat → Int32} {n : Nat} {td : Int32} {P : Nat → List Int32} (h : okS σ n) : ∀ k, okS (sg n P σ td k) n
  | 0 => h
  | k + 1 => (okS.sg h k).pas
theorem okS.u2 {σ : Nat → Nat → Int32} {n w a v : Nat} (h : okS σ n) (hv : (w = 0 ∧ v < 6) ∨ (w = 1 ∧ v < 10) ∨ (w = 2 ∧ v < 100) ∨ (w = 3 ∧ v < 12) ∨ (w = 4 ∧ v < 2)) : okS (u2 σ w a (nI v)) n := by
  intro i hi
  have h5 := h i hi
  by_cases e : i = a
  · subst e
    rcases hv with ⟨rfl, q⟩ | ⟨rfl, q⟩ | ⟨rfl, q⟩ | ⟨rfl, q⟩ | ⟨rfl, q⟩
    · exact ⟨⟨v, q, u2_at⟩, by rw [u2_nw (by decide)]; exact h5.2.1, by rw [u2_nw (by decide)]; exact h5.2.2.1, by rw [u2_nw (by decide)]; exact h5.2.2.2.1, by rw [u2_nw (by decide)]; exact h5.2.2.2.2⟩
    · exact ⟨by rw [u2_nw (by decide)]; exact h5.1, ⟨v, q, u2_at⟩, by rw [u2_nw (by decide)]; exact h5.2.2.1, by rw [u2_nw (by decide)]; exact h5.2.2.2.1, by rw [u2_nw (by decide)]; exact h5.2.2.2.2⟩
    · exact ⟨by rw [u2_nw (by decide)]; exact h5.1, by rw [u2_nw (by decide)]; exact h5.2.1, ⟨v, q, u2_at⟩, by rw [u2_nw (by decide)]; exact h5.2.2.2.1, by rw [u2_nw (by decide)]; exact h5.2.2.2.2⟩
    · exact ⟨by rw [u2_nw (by decide)]; exact h5.1, by rw [u2_nw (by decide)]; exact h5.2.1, by rw [u2_nw (by decide)]; exact h5.2.2.1, ⟨v, q, u2_at⟩, by rw [u2_nw (by decide)]; exact h5.2.2.2.2⟩
    · exact ⟨by rw [u2_nw (by decide)]; exact h5.1, by rw [u2_nw (by decide)]; exact h5.2.1, by rw [u2_nw (by decide)]; exact h5.2.2.1, by rw [u2_nw (by decide)]; exact h5.2.2.2.1, ⟨v, q, u2_at⟩⟩
  · rw [u2_ni e, u2_ni e, u2_ni e, u2_ni e, u2_ni e]
    exact h5
theorem ok_strk {σ : Nat → Nat → Int32} {n : Nat} {z : Int32} (h : okS σ n) : okS (strk σ n z) n := by
  unfold strk
  split
  · exact okS.u2 (v := 99) h (Or.inr (Or.inr (Or.inl ⟨rfl, by decide⟩)))
  · exact h
theorem okS.dg {σ : Nat → Nat → Int32} {n : Nat} {td seed : Int32} {P : Nat → List Int32} (h : okS σ n) : ∀ k, okS (dg n P σ td seed k) n
  | 0 => h
  | k + 1 => (ok_strk (okS.dg h k)).pas
/-! the places: bits counted -/
theorem b1_and {p q : Nat} (hp : p < 12) (hq : q < 12) : (b1I p &&& b1I q = 0) ↔ p ≠ q := by
  have key : ∀ p q : Fin 12, (b1I p.1 &&& b1I q.1 = 0) ↔ p ≠ q := by decide +kernel
  rw [key ⟨p, hp⟩ ⟨q, hq⟩]
  constructor
  · intro h e; exact h (Fin.ext e)
  · intro h e; exact h (congrArg Fin.val e)
theorem or_and_0 {x y w : Int32} : ((x ||| y) &&& w = 0) ↔ (x &&& w = 0 ∧ y &&& w = 0) := by
  rw [show (x ||| y) &&& w = (x &&& w) ||| (y &&& w) from ?_]
  · exact Int32.or_eq_zero_iff
  · apply Int32_bv
    rw [Int32.toBitVec_and, Int32.toBitVec_or, Int32.toBitVec_or, Int32.toBitVec_and, Int32.toBitVec_and]
    apply BitVec.eq_of_getLsbD_eq
    intro i hi
    simp only [BitVec.getLsbD_and, BitVec.getLsbD_or]
    cases x.toBitVec.getLsbD i <;> cases y.toBitVec.getLsbD i <;> cases w.toBitVec.getLsbD i <;> rfl
theorem po_bit {g : Nat → Nat} {f : Nat → Int32} {p : Nat} (hp : p < 12) : ∀ {n : Nat}, (∀ i, i < n → g i < 12 ∧ f i = nI (g i)) → ((po f n &&& b1I p = 0) ↔ ∀ i, i < n → ¬ f i = nI p)
  | 0, _ => ⟨fun _ i hi => absurd hi (Nat.not_lt_zero i), fun _ => by rw [show po f 0 = 0 from rfl, Int32.zero_and]⟩
  | n + 1, h => by
    have ih := po_bit hp (n := n) (fun i hi => h i (by omega))
    obtain ⟨g1, g2⟩ := h n (by omega)
    rw [show po f (n + 1) = po f n ||| b1I (g n) from by rw [po, g2]; rfl, or_and_0, ih, b1_and g1 hp]
    have e : (f n = nI p) ↔ g n = p := by rw [g2]; exact nI_eq (by omega) (by omega)
    constructor
    · intro ⟨q1, q2⟩ i hi
      rcases Nat.lt_or_ge i n with q | q
      · exact q1 i q
      · have : i = n := by omega
        subst this
        exact fun c => q2 (e.mp c)
    · intro q
      exact ⟨fun i hi => q i (by omega), fun c => q n (by omega) (e.mpr c)⟩
theorem b1_n0 {k : Nat} (h : k < 12) : ¬ b1I k = 0 := by
  have key : ∀ p : Fin 12, ¬ b1I p.1 = 0 := by decide +kernel
  exact key ⟨k, h⟩
theorem bo_0 {f : Nat → Bool} : ∀ {n : Nat}, n ≤ 12 → ((bo f n = 0) ↔ ∀ i, i < n → f i = false)
  | 0, _ => ⟨fun _ i hi => absurd hi (Nat.not_lt_zero i), fun _ => rfl⟩
  | n + 1, h => by
    have ih := bo_0 (f := f) (n := n) (by omega)
    cases hf : f n with
    | true =>
      rw [bo_t hf]
      constructor
      · intro q
        exact absurd (Int32.or_eq_zero_iff.mp q).2 (b1_n0 (by omega))
      · intro q
        rw [q n (by omega)] at hf
        cases hf
    | false =>
      rw [bo_f hf, ih]
      constructor
      · intro q i hi
        rcases Nat.lt_or_ge i n with c | c
        · exact q i c
        · have : i = n := by omega
          subst this; exact hf
      · intro q i hi; exact q i (by omega)
theorem bc12 : ∀ a : Fin 64, ∀ b : Fin 64, bcI (nI (64 * a.1 + b.1)) = nI (ct (fun p => !decide (nI (64 * a.1 + b.1) &&& b1I p = 0)) 12) := by decide +kernel
theorem po_lt {g : Nat → Nat} {f : Nat → Int32} : ∀ {n : Nat}, (∀ i, i < n → g i < 12 ∧ f i = nI (g i)) → ∃ X, X < 4096 ∧ po f n = nI X
  | 0, _ => ⟨0, by omega, rfl⟩
  | n + 1, h => by
    obtain ⟨X, hX, eX⟩ := po_lt (n := n) (fun i hi => h i (by omega))
    obtain ⟨g1, g2⟩ := h n (by omega)
    have e1 : b1I (g n) = nI (2 ^ g n) := by
      have key : ∀ p : Fin 12, b1I p.1 = nI (2 ^ p.1) := by decide +kernel
      exact key ⟨g n, g1⟩
    have h12 : 2 ^ g n < 2 ^ 12 := Nat.pow_lt_pow_right (by decide) g1
    refine ⟨X ||| 2 ^ g n, Nat.or_lt_two_pow (n := 12) hX h12, ?_⟩
    rw [show po f (n + 1) = po f n ||| b1I (g n) from by rw [po, g2]; rfl, eX, e1]
    apply Int32_bv
    rw [Int32.toBitVec_or]
    apply BitVec.eq_of_toNat_eq
    have hx := Nat.or_lt_two_pow (n := 12) hX h12
    rw [BitVec.toNat_or, pk_tn (by omega), pk_tn (by omega), pk_tn (by omega)]
theorem pl_eq {σ : Nat → Nat → Int32} {n : Nat} (h : okS σ n) (h8 : n ≤ 8) : bcI (po (σ 3) n) = nI (plM σ n) := by
  have hg : ∀ i, i < n → ix (σ 3 i) < 12 ∧ σ 3 i = nI (ix (σ 3 i)) := fun i hi => by
    obtain ⟨k, hk, ek⟩ := (h i hi).2.2.2.1
    rw [ek, ix_nI (by omega)]; exact ⟨hk, rfl⟩
  obtain ⟨X, hX, eX⟩ := po_lt (g := fun i => ix (σ 3 i)) hg
  have hb := bc12 ⟨X / 64, by omega⟩ ⟨X % 64, by omega⟩
  simp only [Nat.div_add_mod] at hb
  rw [← eX] at hb
  rw [hb]
  unfold plM
  congr 1
  refine ct_cong (fun p hp => ?_)
  congr 1
  have h1 := po_bit (g := fun i => ix (σ 3 i)) (f := σ 3) hp hg
  have h2 := bo_0 (f := fun i => decide (σ 3 i = nI p)) (n := n) (by omega)
  apply decide_eq_decide.mpr
  rw [h1, h2]
  constructor
  · intro q i hi; exact decide_eq_false (q i hi)
  · intro q i hi; exact of_decide_eq_false (q i hi)

