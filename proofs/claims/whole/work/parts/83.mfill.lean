/-! ===== jars: the Model's filling finds the same way ===== -/
abbrev FS : Type := Nat × Int32
def lpM (f : Nat → FS → FS) : Nat → FS → FS
  | 0, s => s
  | m + 1, s => f m (lpM f m s)
def fiM (ca : Nat → Int32) (lf : Int32) : Nat → Nat → Nat → (Nat → Int32) → Int32 → FS → FS
  | 0, _, u, _, r, s => if s.1 ≤ u then s else (u, r)
  | k + 1, p, u, h, r, s => if s.1 ≤ u then s else if nI p = lf then fiM ca lf k (p + 1) u h r s else lpM (fun j s => if h j &&& ca p = 0 then fiM ca lf k (p + 1) (max u (j + 1)) (upd h j (h j ||| b1I p)) (10 * r + nI (j + 1)) s else s) (u + 1) s
theorem fiM_0 {ca : Nat → Int32} {lf : Int32} {p u : Nat} {h : Nat → Int32} {r : Int32} {s : FS} : fiM ca lf 0 p u h r s = if s.1 ≤ u then s else (u, r) := rfl
theorem fiM_s {ca : Nat → Int32} {lf : Int32} {k p u : Nat} {h : Nat → Int32} {r : Int32} {s : FS} : fiM ca lf (k + 1) p u h r s = if s.1 ≤ u then s else if nI p = lf then fiM ca lf k (p + 1) u h r s else lpM (fun j s => if h j &&& ca p = 0 then fiM ca lf k (p + 1) (max u (j + 1)) (upd h j (h j ||| b1I p)) (10 * r + nI (j + 1)) s else s) (u + 1) s := rfl
def rwL : Int32 → List Nat → Int32
  | r, [] => r
  | r, a :: l => rwL (10 * r + nI a) l
theorem fst_keep {f : Nat → Option (List Nat)} {i : Nat} {l : List Nat} (h : fst f i = some l) : ∀ {m : Nat}, i ≤ m → fst f m = some l
  | 0, hm => by have : i = 0 := by omega
                rw [← this]; exact h
  | m + 1, hm => by
    rcases Nat.lt_or_ge i (m + 1) with q | q
    · rw [fst, fst_keep h (show i ≤ m by omega)]; rfl
    · have : i = m + 1 := by omega
      rw [← this]; exact h
theorem fst_skip {f : Nat → Option (List Nat)} {m : Nat} (h : f m = none) : fst f (m + 1) = fst f m := by
  rw [fst]
  cases e : fst f m with
  | none => exact h
  | some l => rfl
def FI (g : Nat → Option (List Nat)) (u : Nat) (r : Int32) (s s' : FS) : Prop := ((∀ mo, u ≤ mo → mo < s.1 → g mo = none) ∧ s' = s) ∨ ∃ mo l, u ≤ mo ∧ mo < s.1 ∧ g mo = some l ∧ (∀ mo', u ≤ mo' → mo' < mo → g mo' = none) ∧ s' = (mo, rwL r l)
theorem fi_main {ca : Nat → Int32} {lf : Int32} : ∀ (k p u : Nat) (h : Nat → Int32) (r : Int32) (s : FS), FI (fun mo => fil ca lf mo k p u h) u r s (fiM ca lf k p u h r s)
  | 0, p, u, h, r, s => by
    rw [fiM_0]
    by_cases hs : s.1 ≤ u
    · rw [if_pos hs]; exact Or.inl ⟨fun mo h1 h2 => by omega, rfl⟩
    · rw [if_neg hs]
      exact Or.inr ⟨u, [], Nat.le_refl _, by omega, rfl, fun mo' h1 h2 => by omega, rfl⟩
  | k + 1, p, u, h, r, s => by
    rw [fiM_s]
    by_cases hs : s.1 ≤ u
    · rw [if_pos hs]; exact Or.inl ⟨fun mo h1 h2 => by omega, rfl⟩
    · rw [if_neg hs]
      by_cases hl : nI p = lf
      · rw [if_pos hl]
        have e : (fun mo => fil ca lf mo (k + 1) p u h) = fun mo => fil ca lf mo k (p + 1) u h := funext (fun mo => fil_l hl)
        rw [e]
        exact fi_main k (p + 1) u h r s
      · rw [if_neg hl]
        have inv : ∀ m, m ≤ u + 1 → FI (fun mo => fst (fun j => if h j &&& ca p = 0 then (fil ca lf mo k (p + 1) (max u (j + 1)) (upd h j (h j ||| b1I p))).map (fun l => (j + 1) :: l) else none) (min m mo)) u r s (lpM (fun j s => if h j &&& ca p = 0 then fiM ca lf k (p + 1) (max u (j + 1)) (upd h j (h j ||| b1I p)) (10 * r + nI (j + 1)) s else s) m s) := by
          intro m
          induction m with
          | zero => intro _; exact Or.inl ⟨fun mo _ _ => by show fst _ (min 0 mo) = none; rw [Nat.zero_min]; rfl, rfl⟩
          | succ m ih =>
            intro hm
            have ih := ih (by omega)
            rw [lpM]
            generalize lpM (fun j s => if h j &&& ca p = 0 then fiM ca lf k (p + 1) (max u (j + 1)) (upd h j (h j ||| b1I p)) (10 * r + nI (j + 1)) s else s) m s = sm at ih ⊢
            by_cases hc : h m &&& ca p = 0
            · rw [if_pos hc]
              have key := fi_main (ca := ca) (lf := lf) k (p + 1) (max u (m + 1)) (upd h m (h m ||| b1I p)) (10 * r + nI (m + 1)) sm
              generalize fiM ca lf k (p + 1) (max u (m + 1)) (upd h m (h m ||| b1I p)) (10 * r + nI (m + 1)) sm = sn at key ⊢
              -- a bound below u' leaves the row of ways as it was
              have low : ∀ mo, u ≤ mo → mo < max u (m + 1) → min (m + 1) mo = min m mo := fun mo h1 h2 => by omega
              have high : ∀ mo, max u (m + 1) ≤ mo → min (m + 1) mo = m + 1 ∧ min m mo = m := fun mo h1 => by omega
              have none' : ∀ mo, fst (fun j => if h j &&& ca p = 0 then (fil ca lf mo k (p + 1) (max u (j + 1)) (upd h j (h j ||| b1I p))).map (fun l => (j + 1) :: l) else none) (min m mo) = none → u ≤ mo → (max u (m + 1) ≤ mo → fil ca lf mo k (p + 1) (max u (m + 1)) (upd h m (h m ||| b1I p)) = none) → fst (fun j => if h j &&& ca p = 0 then (fil ca lf mo k (p + 1) (max u (j + 1)) (upd h j (h j ||| b1I p))).map (fun l => (j + 1) :: l) else none) (min (m + 1) mo) = none := by
                intro mo h1 h2 h3
                rcases Nat.lt_or_ge mo (max u (m + 1)) with q | q
                · rw [low mo h2 q]; exact h1
                · rw [(high mo q).2] at h1
                  rw [(high mo q).1]
                  refine fst_no h1 ?_
                  rw [if_pos hc, h3 q]; rfl
              have some' : ∀ mo l, fst (fun j => if h j &&& ca p = 0 then (fil ca lf mo k (p + 1) (max u (j + 1)) (upd h j (h j ||| b1I p))).map (fun l => (j + 1) :: l) else none) (min m mo) = none → max u (m + 1) ≤ mo → fil ca lf mo k (p + 1) (max u (m + 1)) (upd h m (h m ||| b1I p)) = some l → fst (fun j => if h j &&& ca p = 0 then (fil ca lf mo k (p + 1) (max u (j + 1)) (upd h j (h j ||| b1I p))).map (fun l => (j + 1) :: l) else none) (min (m + 1) mo) = some ((m + 1) :: l) := by
                intro mo l h1 h2 h3
                rw [(high mo h2).2] at h1
                rw [(high mo h2).1]
                refine fst_hit h1 ?_ (Nat.lt_succ_self m)
                rw [if_pos hc, h3]; rfl
              rcases ih with ⟨a1, rfl⟩ | ⟨mo0, l0, b1, b2, b3, b4, rfl⟩
              · rcases key with ⟨c1, rfl⟩ | ⟨mo, l, d1, d2, d3, d4, rfl⟩
                · exact Or.inl ⟨fun mo h1 h2 => none' mo (a1 mo h1 h2) h1 (fun q => c1 mo q h2), rfl⟩
                · refine Or.inr ⟨mo, (m + 1) :: l, by omega, d2, some' mo l (a1 mo (by omega) d2) d1 d3, fun mo' h1 h2 => none' mo' (a1 mo' h1 (by omega)) h1 (fun q => d4 mo' q h2), rfl⟩
              · rcases key with ⟨c1, rfl⟩ | ⟨mo, l, d1, d2, d3, d4, rfl⟩
                · refine Or.inr ⟨mo0, l0, b1, b2, fst_keep b3 (by omega), fun mo' h1 h2 => none' mo' (b4 mo' h1 h2) h1 (fun q => c1 mo' q h2), rfl⟩
                · refine Or.inr ⟨mo, (m + 1) :: l, by omega, by omega, some' mo l (b4 mo (by omega) d2) d1 d3, fun mo' h1 h2 => none' mo' (b4 mo' h1 (by omega)) h1 (fun q => d4 mo' q h2), rfl⟩
            · rw [if_neg hc]
              have same : ∀ mo, fst (fun j => if h j &&& ca p = 0 then (fil ca lf mo k (p + 1) (max u (j + 1)) (upd h j (h j ||| b1I p))).map (fun l => (j + 1) :: l) else none) (min (m + 1) mo) = fst (fun j => if h j &&& ca p = 0 then (fil ca lf mo k (p + 1) (max u (j + 1)) (upd h j (h j ||| b1I p))).map (fun l => (j + 1) :: l) else none) (min m mo) := by
                intro mo
                rcases Nat.lt_or_ge m mo with q | q
                · rw [Nat.min_eq_left (by omega), Nat.min_eq_left (by omega)]
                  exact fst_skip (if_neg hc)
                · rw [Nat.min_eq_right (by omega), Nat.min_eq_right (by omega)]
              unfold FI at ih ⊢
              simp only [same]
              exact ih
        have e : (fun mo => fil ca lf mo (k + 1) p u h) = fun mo => fst (fun j => if h j &&& ca p = 0 then (fil ca lf mo k (p + 1) (max u (j + 1)) (upd h j (h j ||| b1I p))).map (fun l => (j + 1) :: l) else none) (min (u + 1) mo) := funext (fun mo => fil_s hl)
        rw [e]
        exact inv (u + 1) (Nat.le_refl _)
theorem fi_end {ca : Nat → Int32} {lf : Int32} {n : Nat} (h8 : n ≤ 8) : fiM ca lf n 0 0 h0 0 (9, 0) = (fwN ca n lf, rwL 0 (fwL ca n lf)) := by
  have hs : fwP ca n lf n = true := fil_some n 0 0 h0 (by omega) (by omega) (fun _ _ => rfl)
  rcases fi_main (ca := ca) (lf := lf) n 0 0 h0 0 (9, 0) with ⟨a1, -⟩ | ⟨mo, l, -, b2, b3, b4, e⟩
  · have := a1 n (Nat.zero_le _) (by show n < 9; omega)
    rw [fwP] at hs
    dsimp only at this
    rw [this] at hs
    cases hs
  · dsimp only at b2 b3 b4
    have hmo : mo ≤ n := by
      rcases Nat.lt_or_ge n mo with q | q
      · have := b4 n (Nat.zero_le _) q
        rw [fwP, this] at hs
        cases hs
      · exact q
    have ef : fwN ca n lf = mo := by
      unfold fwN
      refine fk_at (fun k hk => ?_) ?_ (by omega)
      · rw [fwP, b4 k (Nat.zero_le _) hk]; rfl
      · rw [fwP, b3]; rfl
    rw [e, ef, fwL, ef, b3]; rfl
theorem fil_len {ca : Nat → Int32} {mo : Nat} : ∀ (k p u : Nat) (h : Nat → Int32) (l : List Nat), p + k ≤ 100 → fil ca (-1) mo k p u h = some l → l.length = k
  | 0, p, u, h, l, _, e => by
    rw [fil_0] at e
    cases e; rfl
  | k + 1, p, u, h, l, hp, e => by
    rw [fil_s (nI_m1 (by omega))] at e
    have key : ∀ m, fst (fun j => if h j &&& ca p = 0 then (fil ca (-1) mo k (p + 1) (max u (j + 1)) (upd h j (h j ||| b1I p))).map (fun l => (j + 1) :: l) else none) m = some l → l.length = k + 1 := by
      intro m
      induction m with
      | zero => intro e; cases e
      | succ m ih =>
        intro e
        rw [fst] at e
        by_cases hs : (fst (fun j => if h j &&& ca p = 0 then (fil ca (-1) mo k (p + 1) (max u (j + 1)) (upd h j (h j ||| b1I p))).map (fun l => (j + 1) :: l) else none) m).isSome = true
        · rw [if_pos hs] at e; exact ih e
        · rw [if_neg hs] at e
          by_cases hc : h m &&& ca p = 0
          · rw [if_pos hc] at e
            obtain ⟨l', h1, h2⟩ := Option.map_eq_some_iff.mp e
            have := fil_len k (p + 1) (max u (m + 1)) (upd h m (h m ||| b1I p)) l' (by omega) h1
            rw [← h2, List.length_cons, this]
          · rw [if_neg hc] at e; cases e
    exact key _ e
theorem rwL_app {a : Nat} : ∀ (l : List Nat) (r : Int32), rwL r (l ++ [a]) = 10 * rwL r l + nI a
  | [], r => rfl
  | b :: l, r => by
    show rwL (10 * r + nI b) (l ++ [a]) = _
    rw [rwL_app l]; rfl
theorem dg_rw {l : List Nat} : ∀ i, i ≤ l.length → dgL l i = rwL 0 (l.take i)
  | 0, _ => by rw [List.take_zero]; rfl
  | i + 1, h => by
    rw [dgL, dg_rw i (by omega), List.take_add_one, List.getElem?_eq_getElem (by omega)]
    show _ = rwL 0 (l.take i ++ [l[i]])
    rw [rwL_app, Int32.mul_comm, List.getD_eq_getElem?_getD, List.getElem?_eq_getElem (by omega)]
    rfl
theorem dg_eq {ca : Nat → Int32} {n : Nat} (h8 : n ≤ 8) : rwL 0 (fwL ca n (-1)) = dgL (fwL ca n (-1)) n := by
  have hs : (fil ca (-1) (fwN ca n (-1)) n 0 0 h0).isSome = true := by
    have hs : fwP ca n (-1) n = true := fil_some n 0 0 h0 (by omega) (by omega) (fun _ _ => rfl)
    rcases Nat.lt_or_ge (fk (fwP ca n (-1)) (n + 1)) (n + 1) with q | q
    · exact (fk_hit q).1
    · have := fk_le (fwP ca n (-1)) (n + 1)
      have h2 := fk_all (show fk (fwP ca n (-1)) (n + 1) = n + 1 by omega) n (by omega)
      rw [hs] at h2; cases h2
  obtain ⟨l, hl⟩ := Option.isSome_iff_exists.mp hs
  have hlen := fil_len n 0 0 h0 l (by omega) hl
  have e : fwL ca n (-1) = l := by rw [fwL, hl]; rfl
  rw [e, dg_rw n (by omega), ← hlen, List.take_length]
theorem loS_s {ca : Nat → Int32} {n i : Nat} : loS ca n (i + 1) = if fwN ca n (nI i) < (loS ca n i).2 then (nI i, fwN ca n (nI i)) else loS ca n i := rfl
theorem loS_1 {ca : Nat → Int32} {n : Nat} : loS ca n 1 = (nI 0, fwN ca n (nI 0)) := by
  rw [loS_s]
  have := fwN_le (ca := ca) (n := n) (lf := nI 0)
  exact if_pos (by show _ < n + 1; omega)
theorem loS_fw {ca : Nat → Int32} {n : Nat} : ∀ i, 1 ≤ i → fwN ca n (loS ca n i).1 = (loS ca n i).2
  | 0, h => absurd h (by omega)
  | i + 1, _ => by
    rcases Nat.eq_zero_or_pos i with q | q
    · subst q; rw [loS_1]
    · rw [loS_s]
      split
      · rfl
      · exact loS_fw i q
theorem fiM_le {ca : Nat → Int32} {lf : Int32} {k p u : Nat} {h : Nat → Int32} {r : Int32} {s : FS} : (fiM ca lf k p u h r s).1 ≤ s.1 := by
  rcases fi_main (ca := ca) (lf := lf) k p u h r s with ⟨-, e⟩ | ⟨mo, l, -, b2, -, -, e⟩
  · rw [e]; exact Nat.le_refl _
  · rw [e]; exact Nat.le_of_lt b2

