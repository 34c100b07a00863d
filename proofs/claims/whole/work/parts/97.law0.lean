/-! ===== the law: what changes ===== -/
theorem CL.shore {rf : Nat → Value} {tl : Lay} {mem mem' : Mem} {σ σ' : Nat → Nat → Int32} {n t w n' t' w' nt : Nat} {T : Nat → Nat → List Int32} {so : Nat → Int32} {sz : Nat → Nat} {it : Nat → Nat → Int32} {tn : Nat} {tp : Nat → Nat} {kp : Bool} {τ : Nat → Nat → Int32} {nk tk wk : Nat} (h : CL rf tl mem σ n t w nt T so sz it tn tp kp τ nk tk wk) (hS : isS 10 mem' σ' n' (nI t') (nI w')) (hk : ∀ j, j ≠ 3 → j ≠ 4 → (j < 10 ∨ 17 < j) → (j < 47 ∨ 66 < j) → mem' j = mem j) : CL rf tl mem' σ' n' t' w' nt T so sz it tn tp kp τ nk tk wk := by
  obtain ⟨h1, h2, h3, ⟨h4, h5⟩, h6, h7⟩ := h
  refine ⟨hS, h2.kept (fun j q => hk j (by omega) (by omega) (by omega) (by omega)), fun j hj => ?_, ⟨by rw [hk 7 (by decide) (by decide) (by decide) (by decide)]; exact h4, fun i hi => by rw [hk 8 (by decide) (by decide) (by decide) (by decide)]; exact h5 i hi⟩, by rw [hk 0 (by decide) (by decide) (by decide) (by decide)]; exact h6, fun q => (h7 q).kept (fun j q1 q2 => hk j (by omega) (by omega) (by omega) (by omega))⟩
  obtain ⟨a1, a2, a3, a4⟩ := h3 j hj
  have e1 : mem' (39 + 2 * j) = mem (39 + 2 * j) := hk _ (by omega) (by omega) (by omega) (by omega)
  have e2 : mem' (40 + 2 * j) = mem (40 + 2 * j) := hk _ (by omega) (by omega) (by omega) (by omega)
  exact ⟨by rw [e1]; exact a1, by rw [e1]; exact a2, a3, fun k hk => by rw [e2]; exact a4 k hk⟩
theorem MO.shore {mem mem' : Mem} {σ σ' : Nat → Nat → Int32} {n t w n' t' w' nt : Nat} {T : Nat → Nat → List Int32} {so : Nat → Int32} {sz : Nat → Nat} {it : Nat → Nat → Int32} {tn : Nat} {tp : Nat → Nat} {kp : Bool} {τ : Nat → Nat → Int32} {nk tk wk : Nat} (h : MO mem σ n t w nt T so sz it tn tp kp τ nk tk wk) (hS : isM 48 mem' σ' n' (nI t') (nI w')) (hk : ∀ j, j ≠ 48 → (j < 56 ∨ 58 < j) → 46 < j → j < 67 → mem' j = mem j) : MO mem' σ' n' t' w' nt T so sz it tn tp kp τ nk tk wk := by
  obtain ⟨h1, h2, h3, ⟨h4, h5⟩, h6, h7, h8, h9, h10⟩ := h
  have e : ∀ j, j ≠ 48 → (j < 56 ∨ 58 < j) → 46 < j → j < 67 → mem' j = mem j := hk
  refine ⟨hS, h2.kept (by rw [e 47 (by decide) (by decide) (by decide) (by decide)]) (e 52 (by decide) (by decide) (by decide) (by decide)) (e 53 (by decide) (by decide) (by decide) (by decide)), ?_, ⟨by rw [e 47 (by decide) (by decide) (by decide) (by decide)]; exact h4, fun i hi => by rw [e 51 (by decide) (by decide) (by decide) (by decide)]; exact h5 i hi⟩, by rw [e 47 (by decide) (by decide) (by decide) (by decide)]; exact h6, fun q => (h7 q).cp (fun k _ => by rw [e 49 (by decide) (by decide) (by decide) (by decide)]), fun k hk => by rw [e 54 (by decide) (by decide) (by decide) (by decide)]; exact h8 k hk, fun j hj => by rw [e 65 (by decide) (by decide) (by decide) (by decide)]; exact h9 j hj, fun j hj => by rw [e 60 (by decide) (by decide) (by decide) (by decide)]; exact h10 j hj⟩
  unfold isMR at h3 ⊢
  rw [e 61 (by decide) (by decide) (by decide) (by decide), e 62 (by decide) (by decide) (by decide) (by decide), e 63 (by decide) (by decide) (by decide) (by decide)]
  exact h3
theorem CL.sheet {rf : Nat → Value} {tl : Lay} {mem mem' : Mem} {σ : Nat → Nat → Int32} {n t w nt : Nat} {T : Nat → Nat → List Int32} {so so' : Nat → Int32} {sz sz' : Nat → Nat} {it it' : Nat → Nat → Int32} {tn : Nat} {tp : Nat → Nat} {kp : Bool} {τ : Nat → Nat → Int32} {nk tk wk : Nat} (h : CL rf tl mem σ n t w nt T so sz it tn tp kp τ nk tk wk) (hR : isRR mem' so' sz' it') (hk : ∀ j, j ≠ 3 → j ≠ 4 → (j < 18 ∨ 25 < j) → (j < 39 ∨ 46 < j) → (j < 47 ∨ 66 < j) → mem' j = mem j) : CL rf tl mem' σ n t w nt T so' sz' it' tn tp kp τ nk tk wk := by
  obtain ⟨h1, h2, h3, ⟨h4, h5⟩, h6, h7⟩ := h
  exact ⟨h1.kept (fun j q1 q2 => hk j (by omega) (by omega) (by omega) (by omega) (by omega)), h2.kept (fun j q => hk j (by omega) (by omega) (by omega) (by omega) (by omega)), hR, ⟨by rw [hk 7 (by decide) (by decide) (by decide) (by decide) (by decide)]; exact h4, fun i hi => by rw [hk 8 (by decide) (by decide) (by decide) (by decide) (by decide)]; exact h5 i hi⟩, by rw [hk 0 (by decide) (by decide) (by decide) (by decide) (by decide)]; exact h6, fun q => (h7 q).kept (fun j q1 q2 => hk j (by omega) (by omega) (by omega) (by omega) (by omega))⟩
theorem MO.sheet {mem mem' : Mem} {σ : Nat → Nat → Int32} {n t w nt : Nat} {T : Nat → Nat → List Int32} {so so' : Nat → Int32} {sz sz' : Nat → Nat} {it it' : Nat → Nat → Int32} {tn : Nat} {tp : Nat → Nat} {kp : Bool} {τ : Nat → Nat → Int32} {nk tk wk : Nat} (h : MO mem σ n t w nt T so sz it tn tp kp τ nk tk wk) (hR : isMR mem' so' sz' it') (h48 : ∀ k, k < 43 → mem' 48 k = mem 48 k) (hk : ∀ j, j ≠ 48 → j ≠ 50 → (j < 56 ∨ 58 < j) → j ≠ 61 → j ≠ 62 → j ≠ 63 → j ≠ 64 → 46 < j → j < 67 → mem' j = mem j) : MO mem' σ n t w nt T so' sz' it' tn tp kp τ nk tk wk := by
  obtain ⟨h1, h2, h3, ⟨h4, h5⟩, h6, h7, h8, h9, h10⟩ := h
  have e := hk
  refine ⟨h1.cp h48, h2.kept (by rw [e 47 (by decide) (by decide) (by decide) (by decide) (by decide) (by decide) (by decide) (by decide) (by decide)]) (e 52 (by decide) (by decide) (by decide) (by decide) (by decide) (by decide) (by decide) (by decide) (by decide)) (e 53 (by decide) (by decide) (by decide) (by decide) (by decide) (by decide) (by decide) (by decide) (by decide)), hR, ⟨by rw [e 47 (by decide) (by decide) (by decide) (by decide) (by decide) (by decide) (by decide) (by decide) (by decide)]; exact h4, fun i hi => by rw [e 51 (by decide) (by decide) (by decide) (by decide) (by decide) (by decide) (by decide) (by decide) (by decide)]; exact h5 i hi⟩, by rw [e 47 (by decide) (by decide) (by decide) (by decide) (by decide) (by decide) (by decide) (by decide) (by decide)]; exact h6, fun q => (h7 q).cp (fun k _ => by rw [e 49 (by decide) (by decide) (by decide) (by decide) (by decide) (by decide) (by decide) (by decide) (by decide)]), fun k hk => by rw [e 54 (by decide) (by decide) (by decide) (by decide) (by decide) (by decide) (by decide) (by decide) (by decide)]; exact h8 k hk, fun j hj => by rw [e 65 (by decide) (by decide) (by decide) (by decide) (by decide) (by decide) (by decide) (by decide) (by decide)]; exact h9 j hj, fun j hj => by rw [e 60 (by decide) (by decide) (by decide) (by decide) (by decide) (by decide) (by decide) (by decide) (by decide)]; exact h10 j hj⟩
theorem uf_self {α : Type} {f : Nat → α} {j : Nat} : uf f j (f j) = f := by
  funext k
  unfold uf
  by_cases e : k = j
  · rw [if_pos e, e]
  · rw [if_neg e]
theorem isRR.uf {mem mem' : Mem} {so : Nat → Int32} {sz : Nat → Nat} {it : Nat → Nat → Int32} {j : Nat} {x : Int32} {y : Nat} {f : Nat → Int32} (h : isRR mem so sz it) (hj : j < 4) (hR : isR mem' j x y f) (hk : ∀ q, q ≠ 39 + 2 * j → q ≠ 40 + 2 * j → 38 < q → q < 47 → mem' q = mem q) : isRR mem' (uf so j x) (uf sz j y) (uf it j f) := by
  intro i hi
  by_cases e : i = j
  · subst e; rw [ufE, ufE, ufE]; exact hR
  · rw [ufN e, ufN e, ufN e]
    obtain ⟨a1, a2, a3, a4⟩ := h i hi
    have e1 : mem' (39 + 2 * i) = mem (39 + 2 * i) := hk _ (by omega) (by omega) (by omega) (by omega)
    have e2 : mem' (40 + 2 * i) = mem (40 + 2 * i) := hk _ (by omega) (by omega) (by omega) (by omega)
    exact ⟨by rw [e1]; exact a1, by rw [e1]; exact a2, a3, fun k hk => by rw [e2]; exact a4 k hk⟩
theorem isRR.kept {mem mem' : Mem} {so : Nat → Int32} {sz : Nat → Nat} {it : Nat → Nat → Int32} (h : isRR mem so sz it) (hk : ∀ q, 38 < q → q < 47 → mem' q = mem q) : isRR mem' so sz it := by
  intro i hi
  obtain ⟨a1, a2, a3, a4⟩ := h i hi
  have e1 : mem' (39 + 2 * i) = mem (39 + 2 * i) := hk _ (by omega) (by omega)
  have e2 : mem' (40 + 2 * i) = mem (40 + 2 * i) := hk _ (by omega) (by omega)
  exact ⟨by rw [e1]; exact a1, by rw [e1]; exact a2, a3, fun k hk => by rw [e2]; exact a4 k hk⟩
theorem lg_self {x : Int64} : lg_cmp x x = 0 := by
  unfold lg_cmp
  rw [if_neg (fun h => absurd h (by rw [gt_iff_lt, Int64.lt_iff_toInt_lt]; omega)), if_pos rfl]
theorem isS.rux {b : Nat} {mem : Mem} {σ : Nat → Nat → Int32} {n : Nat} {td ru x : Int32} (h : isS b mem σ n td ru) : isS b (am_up mem b 10 x) σ n td x := by
  obtain ⟨h1, h2, h3, h4, h5⟩ := h
  refine ⟨by rw [upE, udN (by decide)]; exact h1, h2, by rw [upE, udN (by decide)]; exact h3, by rw [upE, udE], fun i hi => ?_⟩
  rw [upN (by omega), upN (by omega), upN (by omega), upN (by omega), upN (by omega)]
  exact h5 i hi
theorem isM.rux {c : Nat} {mem : Mem} {σ : Nat → Nat → Int32} {n : Nat} {td ru x : Int32} (h : isM c mem σ n td ru) : isM c (am_up mem c 42 x) σ n td x := by
  obtain ⟨h1, h2, h3, h4, h5⟩ := h
  exact ⟨by rw [upE, udN (by decide)]; exact h1, h2, by rw [upE, udN (by decide)]; exact h3, by rw [upE, udE], fun i hi w hw => by rw [upE, udN (by omega)]; exact h5 i hi w hw⟩

