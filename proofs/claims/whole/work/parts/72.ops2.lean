/-! what is kept: copies -/
theorem x_len {σ : Mm} {i v : Nat} (hv : v < 8) : fX3_lengthOf i (nI v) σ = some (gI σ (i + 1) v) := by
  rw [fX3_lengthOf, ifn (nI_pos (by omega)), ifn (ge8 (by omega)), ifp (ci_nI hv (by omega)), nI_cl (by omega)]
theorem x_sorts {σ : Mm} {i v : Nat} (hv : v < 8) : fX3_sortsOf i (nI v) σ = some (gI σ (i + 2) v) := by
  rw [fX3_sortsOf, ifn (nI_pos (by omega)), ifn (ge8 (by omega)), ifp (ci_nI hv (by omega)), nI_cl (by omega)]
theorem x_copyL {i j : Nat} (hi : isTold i = true) (hj : isTold j = true) (hij : i ≠ j) : ∀ (n v : Nat) (σ : Mm), v ≤ 8 → 8 - v < n → ∃ σ', fX3_copy_50 i j n (nI v) σ = some σ' ∧ (∀ k, v ≤ k → k < 8 → gI σ' (i + 1) k = gI σ (j + 1) k ∧ gI σ' (i + 2) k = gI σ (j + 2) k) ∧ (∀ a b, ¬ ((a = i + 1 ∨ a = i + 2) ∧ v ≤ b ∧ b < 8) → gI σ' a b = gI σ a b) ∧ σ'.2 = σ.2 := by
  rw [told_iff] at hi hj
  intro n
  induction n with
  | zero => intro v σ _ h; omega
  | succ n ih =>
    intro v σ hv hn
    by_cases h8 : v = 8
    · subst h8
      refine ⟨σ, ?_, fun k h1 h2 => absurd h2 (by omega), fun _ _ _ => rfl, rfl⟩
      rw [fX3_copy_50, ifp (show (8 : Int32) ≤ nI 8 by decide)]
    · have hv8 : v < 8 := by omega
      obtain ⟨σ', e1, e2, e3, e4⟩ := ih (v + 1) (pI (pI σ (i + 1) v (gI σ (j + 1) v)) (i + 2) v (gI σ (j + 2) v)) (by omega) (by omega)
      refine ⟨σ', ?_, fun k h1 h2 => ?_, fun a b h => ?_, ?_⟩
      · rw [fX3_copy_50, ifn (ge8 (by omega)), ifn (ge8 (by omega)), x_len hv8, ob, ifp (ci_nI hv8 (by omega)), x_sorts hv8, ob, ifp (ci_nI hv8 (by omega)), nI_cl (by omega), nI_1]
        have e5 : gI (pI σ (i + 1) v (gI σ (j + 1) v)) (j + 2) v = gI σ (j + 2) v := by
          rw [gI_pI, ifn (by omega)]
        rw [e5]
        exact e1
      · by_cases hk : k = v
        · subst hk
          constructor
          · rw [e3 _ _ (by omega), gI_pI, ifn (by omega), gI_pI, ifp (by omega)]
          · rw [e3 _ _ (by omega), gI_pI, ifp (by omega)]
        · obtain ⟨f1, f2⟩ := e2 k (by omega) h2
          constructor
          · rw [f1, gI_pI, ifn (by omega), gI_pI, ifn (by omega)]
          · rw [f2, gI_pI, ifn (by omega), gI_pI, ifn (by omega)]
      · rw [e3 a b (by omega), gI_pI, ifn (by omega), gI_pI, ifn (by omega)]
      · rw [e4]; rfl
theorem x_copy {i j : Nat} (hi : isTold i = true) (hj : isTold j = true) (hij : i ≠ j) (σ : Mm) : ∃ σ', fX3_copy i j σ = some σ' ∧ (∀ k, k < 6 → gI σ' i k = gI σ j k) ∧ (∀ k, k < 8 → gI σ' (i + 1) k = gI σ (j + 1) k ∧ gI σ' (i + 2) k = gI σ (j + 2) k) ∧ (∀ a b, a ≠ i → a ≠ i + 1 → a ≠ i + 2 → gI σ' a b = gI σ a b) ∧ σ'.2 = σ.2 := by
  have hi' := told_iff.mp hi
  have hj' := told_iff.mp hj
  have g0 : ∀ (ρ : Mm) (k : Nat) (v : Int32) (b : Nat), gI (pI ρ i k v) j b = gI ρ j b := fun ρ k v b => by rw [gI_pI, ifn (by omega)]
  have e0 : fX3_copy i j σ = fX3_copy_50 i j 1000 (nI 0) (pI (pI (pI (pI (pI (pI σ i 0 (gI σ j 0)) i 1 (gI σ j 1)) i 2 (gI σ j 2)) i 3 (gI σ j 3)) i 4 (gI σ j 4)) i 5 (gI σ j 5)) := by
    rw [fX3_copy]
    simp only [g0]
    rfl
  obtain ⟨σ', e1, e2, e3, e4⟩ := x_copyL hi hj hij 1000 0 (pI (pI (pI (pI (pI (pI σ i 0 (gI σ j 0)) i 1 (gI σ j 1)) i 2 (gI σ j 2)) i 3 (gI σ j 3)) i 4 (gI σ j 4)) i 5 (gI σ j 5)) (by omega) (by omega)
  refine ⟨σ', e0.trans e1, fun k hk => ?_, fun k hk => ?_, fun a b h1 h2 h3 => ?_, ?_⟩
  · rw [e3 i k (by omega)]
    rcases (show k = 0 ∨ k = 1 ∨ k = 2 ∨ k = 3 ∨ k = 4 ∨ k = 5 by omega) with rfl | rfl | rfl | rfl | rfl | rfl <;> simp [gI_pI]
  · obtain ⟨f1, f2⟩ := e2 k (by omega) hk
    constructor
    · rw [f1]
      have a1 : ¬ j + 1 = i := by omega
      simp [gI_pI, a1]
    · rw [f2]
      have a1 : ¬ j + 2 = i := by omega
      simp [gI_pI, a1]
  · rw [e3 a b (by omega)]
    simp [gI_pI, h1]
  · rw [e4]; rfl
theorem TO_copy {σ σ' : Mm} {i j : Nat} {s : Nat → Nat} (hs : s 5 ≤ 8) (h : TO σ j s) (h1 : ∀ k, k < 6 → gI σ' i k = gI σ j k) (h2 : ∀ k, k < 8 → gI σ' (i + 1) k = gI σ (j + 1) k ∧ gI σ' (i + 2) k = gI σ (j + 2) k) : TO σ' i s := by
  obtain ⟨x1, x2, x3, x4, x5, x6, x7⟩ := h
  refine ⟨by rw [h1 2 (by omega)]; exact x1, by rw [h1 3 (by omega)]; exact x2, by rw [h1 4 (by omega)]; exact x3, by rw [h1 0 (by omega)]; exact x4, by rw [h1 1 (by omega)]; exact x5, by rw [h1 5 (by omega)]; exact x6, fun k hk => ?_⟩
  rw [(h2 k (by omega)).1, (h2 k (by omega)).2]
  exact x7 k hk
theorem m_laysL {j i : Nat} (hji : j ≠ i) : ∀ (n v : Nat) (τ : Mm), v ≤ 22 → 22 - v < n → ∃ τ', fX6_lays_2 j i n (nI v) τ = some τ' ∧ (∀ k, v ≤ k → k < 22 → gI τ' i k = gI τ j k) ∧ (∀ a b, ¬ (a = i ∧ v ≤ b ∧ b < 22) → gI τ' a b = gI τ a b) ∧ τ'.2 = τ.2 := by
  intro n
  induction n with
  | zero => intro v σ _ h; omega
  | succ n ih =>
    intro v τ hv hn
    by_cases h8 : v = 22
    · subst h8
      refine ⟨τ, ?_, fun k h1 h2 => absurd h2 (by omega), fun _ _ _ => rfl, rfl⟩
      rw [fX6_lays_2, ifp (show (22 : Int32) ≤ nI 22 by decide)]
    · have hv8 : v < 22 := by omega
      obtain ⟨σ', e1, e2, e3, e4⟩ := ih (v + 1) (pI τ i v (gI τ j v)) (by omega) (by omega)
      refine ⟨σ', ?_, fun k h1 h2 => ?_, fun a b h => ?_, ?_⟩
      · rw [fX6_lays_2, ifn (ge22 (by omega)), ifp (ci_nI hv8 (by omega)), ifp (ci_nI hv8 (by omega)), nI_cl (by omega), nI_1]
        exact e1
      · by_cases hk : k = v
        · subst hk
          rw [e3 _ _ (by omega), gI_pI, ifp (by omega)]
        · rw [e2 k (by omega) h2, gI_pI, ifn (by omega)]
      · rw [e3 a b (by omega), gI_pI, ifn (by omega)]
      · rw [e4]; rfl
theorem m_lays {j i : Nat} (hji : j ≠ i) (τ : Mm) : ∃ τ', fX6_lays j i τ = some τ' ∧ (∀ k, k < 22 → gI τ' i k = gI τ j k) ∧ (∀ a b, a ≠ i → gI τ' a b = gI τ a b) ∧ τ'.2 = τ.2 := by
  obtain ⟨τ', e1, e2, e3, e4⟩ := m_laysL hji 1000 0 τ (by omega) (by omega)
  exact ⟨τ', e1, fun k hk => e2 k (by omega) hk, fun a b h => e3 a b (fun q => h q.1), e4⟩
theorem MO_copy {τ τ' : Mm} {i j : Nat} {s : Nat → Nat} (hs : s 5 ≤ 8) (h : MO τ j s) (h1 : ∀ k, k < 22 → gI τ' i k = gI τ j k) : MO τ' i s := by
  obtain ⟨x1, x2, x3, x4, x5, x6, x7⟩ := h
  refine ⟨by rw [h1 0 (by omega)]; exact x1, by rw [h1 1 (by omega)]; exact x2, by rw [h1 2 (by omega)]; exact x3, by rw [h1 3 (by omega)]; exact x4, by rw [h1 4 (by omega)]; exact x5, by rw [h1 5 (by omega)]; exact x6, fun k hk => ?_⟩
  rw [h1 _ (by omega), h1 _ (by omega)]
  exact x7 k hk
theorem TO_same {σ σ' : Mm} {i : Nat} {s : Nat → Nat} (h : TO σ i s) (h1 : ∀ b, gI σ' i b = gI σ i b) (h2 : ∀ b, gI σ' (i + 1) b = gI σ (i + 1) b) (h3 : ∀ b, gI σ' (i + 2) b = gI σ (i + 2) b) : TO σ' i s := by
  unfold TO at h ⊢
  simp only [h1, h2, h3]
  exact h
theorem MO_same {τ τ' : Mm} {i : Nat} {s : Nat → Nat} (h : MO τ i s) (h1 : ∀ b, gI τ' i b = gI τ i b) : MO τ' i s := by
  unfold MO at h ⊢
  simp only [h1]
  exact h
theorem RT_same {σ σ' : Mm} (h : RT σ) (h1 : ∀ a b, 14 ≤ a → gI σ' a b = gI σ a b) (h2 : σ'.2 = σ.2) : RT σ' := by
  refine ⟨fun t ht => ?_, ?_⟩
  · have h3 := h.1 t ht
    have h4 := tal_iff.mp ht
    have e : ∀ b, gI σ' t b = gI σ t b := fun b => h1 t b (by omega)
    have e2 : ∀ a b, gL σ' a b = gL σ a b := fun a b => by unfold gL; rw [h2]
    unfold CV at h3 ⊢
    simp only [e, e2]
    exact h3
  · have h3 := h.2
    unfold WK gH gN at h3 ⊢
    rw [h2]
    exact h3
theorem G21 : lawG_21 Rel := by
  intro σ τ hR
  obtain ⟨s, g, im, tx, tn, rn, rb, rf, hV, hX, hT, hM⟩ := hR
  obtain ⟨v1, v2, v3, v4, v5, v6⟩ := hV
  obtain ⟨x1, x2, x3, x4, x5, x6, x7, x8⟩ := hX
  obtain ⟨m1, m2, m3, m4, m5, m6, m7, m8⟩ := hM
  obtain ⟨σ1, c1, c2, c3, c4, c5⟩ := x_copy (i := 7) (j := 1) rfl rfl (by omega) σ
  obtain ⟨τ1, d1, d2, d3, d4⟩ := m_lays (j := 2) (i := 3) (by omega) τ
  have hs5 : s 5 ≤ 8 := v1.2.2.2.2.2.2.2.2.1
  have t7 : TO σ1 7 s := TO_copy hs5 x1 c2 c3
  have n3 : MO τ1 3 s := MO_copy hs5 m1 d2
  refine ⟨nI (s 5), pI σ1 0 3 1, pI τ1 0 4 1, ?_, ?_, ?_⟩
  · rw [fX5_image, c1, ob]
    have e : gI (pI σ1 0 3 (1 : Int32)) 7 5 = nI (s 5) := by
      rw [gI_pI, ifn (by omega)]
      exact t7.2.2.2.2.2.1
    rw [e]
  · rw [fX6_image, d1, ob, ifp (by decide), show (5 : Int32).toNatClampNeg = 5 from rfl]
    have e : gI (pI τ1 0 4 (1 : Int32)) 2 5 = nI (s 5) := by
      rw [gI_pI, ifn (by omega), d3 2 5 (by omega)]
      exact m1.2.2.2.2.2.1
    rw [e]
  · refine Rel_of (s := s) (g := s) (im := true) (tx := tx) (tn := tn) (rn := rn) (rb := rb) (rf := rf) ⟨v1, fun _ => v1, v3, v4, v5, v6⟩ ?_ (RT_pI (by omega) (RT_same hT (fun a b h => c4 a b (by omega) (by omega) (by omega)) c5)) ?_
    · have k0 : ∀ a b, a ≠ 0 → gI (pI σ1 0 3 1) a b = gI σ1 a b := fun a b h => by rw [gI_pI, ifn (by omega)]
      have k1 : ∀ b, b ≠ 3 → gI (pI σ1 0 3 1) 0 b = gI σ1 0 b := fun b h => by rw [gI_pI, ifn (by omega)]
      refine ⟨TO_same (TO_same x1 (fun b => c4 1 b (by omega) (by omega) (by omega)) (fun b => c4 2 b (by omega) (by omega) (by omega)) (fun b => c4 3 b (by omega) (by omega) (by omega))) (fun b => k0 _ b (by omega)) (fun b => k0 _ b (by omega)) (fun b => k0 _ b (by omega)), rfl, fun _ => TO_same t7 (fun b => k0 _ b (by omega)) (fun b => k0 _ b (by omega)) (fun b => k0 _ b (by omega)), ?_, fun k hk => ?_, ?_, ?_, fun k hk => ?_⟩
      · rw [k0 10 1 (by omega), c4 10 1 (by omega) (by omega) (by omega)]; exact x4
      · rw [k0 11 k (by omega), c4 11 k (by omega) (by omega) (by omega)]; exact x5 k hk
      · rw [k1 5 (by omega), c4 0 5 (by omega) (by omega) (by omega)]; exact x6
      · rw [k1 6 (by omega), c4 0 6 (by omega) (by omega) (by omega)]; exact x7
      · rw [k0 12 k (by omega), c4 12 k (by omega) (by omega) (by omega)]; exact x8 k hk
    · have k0 : ∀ a b, a ≠ 0 → gI (pI τ1 0 4 1) a b = gI τ1 a b := fun a b h => by rw [gI_pI, ifn (by omega)]
      have k1 : ∀ b, b ≠ 4 → gI (pI τ1 0 4 1) 0 b = gI τ1 0 b := fun b h => by rw [gI_pI, ifn (by omega)]
      refine ⟨MO_same (MO_same m1 (fun b => d3 2 b (by omega))) (fun b => k0 _ b (by omega)), rfl, fun _ => MO_same n3 (fun b => k0 _ b (by omega)), ?_, fun k hk => ?_, ?_, ?_, fun k hk => ?_⟩
      · rw [k1 7 (by omega), d3 0 7 (by omega)]; exact m4
      · rw [k0 5 k (by omega), d3 5 k (by omega)]; exact m5 k hk
      · rw [k1 26 (by omega), d3 0 26 (by omega)]; exact m6
      · rw [k1 27 (by omega), d3 0 27 (by omega)]; exact m7
      · rw [k0 1 _ (by omega), d3 1 _ (by omega)]; exact m8 k hk
theorem G22 : lawG_22 Rel := by
  intro σ τ hR
  have hRel := hR
  obtain ⟨s, g, im, tx, tn, rn, rb, rf, hV, hX, hT, hM⟩ := hR
  obtain ⟨v1, v2, v3, v4, v5, v6⟩ := hV
  obtain ⟨x1, x2, x3, x4, x5, x6, x7, x8⟩ := hX
  obtain ⟨m1, m2, m3, m4, m5, m6, m7, m8⟩ := hM
  cases im with
  | false =>
    refine ⟨-3, _, _, ?_, ?_, Rel_ref 2 (by omega) hRel⟩
    · rw [fX5_on, x2, ifp (show bI false = 0 from rfl), x_ref3]; rfl
    · rw [fX6_on, m2, ifp (show bI false = 0 from rfl), m_ref3]; rfl
  | true =>
    have v2 := v2 rfl
    have x3 := x3 rfl
    have m3 := m3 rfl
    obtain ⟨σ1, c1, c2, c3, c4, c5⟩ := x_copy (i := 1) (j := 7) rfl rfl (by omega) σ
    obtain ⟨τ1, d1, d2, d3, d4⟩ := m_lays (j := 3) (i := 2) (by omega) τ
    have hs5 : g 5 ≤ 8 := v2.2.2.2.2.2.2.2.2.1
    have t1 : TO σ1 1 g := TO_copy hs5 x3 c2 c3
    have n2 : MO τ1 2 g := MO_copy hs5 m3 d2
    refine ⟨nI (g 5), σ1, τ1, ?_, ?_, ?_⟩
    · rw [fX5_on, x2, ifn (by decide), c1, ob, t1.2.2.2.2.2.1]
    · rw [fX6_on, m2, ifn (by decide), d1, ob, ifp (by decide), show (5 : Int32).toNatClampNeg = 5 from rfl, n2.2.2.2.2.2.1]
    · refine Rel_of (s := g) (g := g) (im := true) (tx := tx) (tn := tn) (rn := rn) (rb := rb) (rf := rf) ⟨v2, fun _ => v2, v3, v4, v5, v6⟩ ?_ (RT_same hT (fun a b h => c4 a b (by omega) (by omega) (by omega)) c5) ?_
      · refine ⟨t1, by rw [c4 0 3 (by omega) (by omega) (by omega)]; exact x2, fun _ => TO_same x3 (fun b => c4 7 b (by omega) (by omega) (by omega)) (fun b => c4 8 b (by omega) (by omega) (by omega)) (fun b => c4 9 b (by omega) (by omega) (by omega)), ?_, fun k hk => ?_, ?_, ?_, fun k hk => ?_⟩
        · rw [c4 10 1 (by omega) (by omega) (by omega)]; exact x4
        · rw [c4 11 k (by omega) (by omega) (by omega)]; exact x5 k hk
        · rw [c4 0 5 (by omega) (by omega) (by omega)]; exact x6
        · rw [c4 0 6 (by omega) (by omega) (by omega)]; exact x7
        · rw [c4 12 k (by omega) (by omega) (by omega)]; exact x8 k hk
      · refine ⟨n2, by rw [d3 0 4 (by omega)]; exact m2, fun _ => MO_same m3 (fun b => d3 3 b (by omega)), ?_, fun k hk => ?_, ?_, ?_, fun k hk => ?_⟩
        · rw [d3 0 7 (by omega)]; exact m4
        · rw [d3 5 k (by omega)]; exact m5 k hk
        · rw [d3 0 26 (by omega)]; exact m6
        · rw [d3 0 27 (by omega)]; exact m7
        · rw [d3 1 _ (by omega)]; exact m8 k hk
/-! seen, count -/
theorem m_many {τ : Mm} {s : Nat → Nat} (h : MO τ 2 s) (hs : s 5 ≤ 8) {k : Nat} (hk : k < s 5) : fX6_manyOf (nI k) τ = some (nI (s (6 + 2 * k))) := by
  have e : (6 : Int32) + (2 : Int32) * nI k = nI (6 + 2 * k) := by
    rw [show (2 : Int32) = nI 2 from rfl, pk_mul, show (6 : Int32) = nI 6 from rfl, nI_add]
  rw [fX6_manyOf, e, ifp (ci_nI (by omega) (by omega)), nI_cl (by omega), (h.2.2.2.2.2.2 k hk).1]
theorem m_sorts {τ : Mm} {s : Nat → Nat} (h : MO τ 2 s) (hs : s 5 ≤ 8) {k : Nat} (hk : k < s 5) : fX6_sortsOf (nI k) τ = some (nI (s (7 + 2 * k))) := by
  have e : (6 : Int32) + (2 : Int32) * nI k + (1 : Int32) = nI (7 + 2 * k) := by
    rw [show (2 : Int32) = nI 2 from rfl, pk_mul, show (6 : Int32) = nI 6 from rfl, nI_add, nI_1]
    congr 1
    omega
  rw [fX6_sortsOf, e, ifp (ci_nI (by omega) (by omega)), nI_cl (by omega), (h.2.2.2.2.2.2 k hk).2]
theorem G18 : lawG_18 Rel := by
  intro a0 a1 σ τ hR
  have hRel := hR
  obtain ⟨s, g, im, tx, tn, rn, rb, rf, hV, hX, hT, hM⟩ := hR
  have hs5 : s 5 ≤ 8 := hV.1.2.2.2.2.2.2.2.2.1
  obtain ⟨x1a, x1b, x1c, x1d, x1e, x1f, x1g⟩ := hX.1
  obtain ⟨m1a, m1b, m1c, m1d, m1e, m1f, m1g⟩ := hM.1
  by_cases h0 : 0 ≤ a0
  · by_cases h1 : a1 < 0 ∨ (2 : Int32) ≤ a1
    · refine ⟨-2, _, _, ?_, ?_, Rel_ref 1 (by omega) hRel⟩
      · rw [fX5_seen, ifp h0, x_nb1 h1, ob, ifn (by decide), x_ref2]; rfl
      · rw [fX6_seen, ifp h0, m_isIn, ob, ifp h1, ifp rfl, fX6_seen_23, ifn (by decide), m_ref2]; rfl
    · have hb := x_nb0 h1
      have e5 : fX6_seen a0 a1 τ = fX6_seen_23 a0 a1 0 τ := by rw [fX6_seen, ifp h0, m_isIn, ob, ifn h1, ifn (by decide)]
      by_cases h4 : a0 < nI (s 5)
      · obtain ⟨k, hk, rfl⟩ : ∃ k, k < s 5 ∧ a0 = nI k := by
          obtain ⟨k, hk, e⟩ := nI_of (nle h0)
          refine ⟨k, ?_, e⟩
          rw [e, nI_ltI hk (by omega)] at h4
          exact h4
        by_cases h5 : a1 = 0
        · refine ⟨nI (s (6 + 2 * k)), σ, τ, ?_, ?_, hRel⟩
          · rw [fX5_seen, ifp h0, hb, ob, ifp rfl, x1f, ifp h4, ifp h5, x_len (by omega), ob, (x1g k hk).1]
          · rw [e5, fX6_seen_23, ifp rfl, ifp (by decide), show (5 : Int32).toNatClampNeg = 5 from rfl, m1f, ifp h4, ifp h5, m_many hM.1 hs5 hk, ob]
        · refine ⟨nI (s (7 + 2 * k)), σ, τ, ?_, ?_, hRel⟩
          · rw [fX5_seen, ifp h0, hb, ob, ifp rfl, x1f, ifp h4, ifn h5, x_sorts (by omega), ob, (x1g k hk).2]
          · rw [e5, fX6_seen_23, ifp rfl, ifp (by decide), show (5 : Int32).toNatClampNeg = 5 from rfl, m1f, ifp h4, ifn h5, m_sorts hM.1 hs5 hk, ob]
      · refine ⟨-9, σ, τ, ?_, ?_, hRel⟩
        · rw [fX5_seen, ifp h0, hb, ob, ifp rfl, x1f, ifn h4]
        · rw [e5, fX6_seen_23, ifp rfl, ifp (by decide), show (5 : Int32).toNatClampNeg = 5 from rfl, m1f, ifn h4]
  · refine ⟨-4, _, _, ?_, ?_, Rel_ref 3 (by omega) hRel⟩
    · rw [fX5_seen, ifn h0, x_ref4]; rfl
    · rw [fX6_seen, ifn h0, fX6_seen_23, ifn (by decide), m_ref4]; rfl
theorem G23 : lawG_23 Rel := by
  intro a0 σ τ hR
  have hRel := hR
  obtain ⟨s, g, im, tx, tn, rn, rb, rf, hV, hX, hT, hM⟩ := hR
  obtain ⟨⟨x1a, x1b, x1c, x1d, x1e, x1f, x1g⟩, x2, x3, x4, x5, x6, x7, x8⟩ := hX
  obtain ⟨⟨m1a, m1b, m1c, m1d, m1e, m1f, m1g⟩, m2, m3, m4, m5, m6, m7, m8⟩ := hM
  by_cases c0 : a0 = (0 : Int32)
  · subst c0
    exact ⟨nI (s 0), by rw [fX5_count, ifp rfl, fX3_number, ifn (by decide), ifn (by decide), ob, x1a], by
      rw [fX6_count, ifp (by decide), fX6_count_22, m_isIn, ob, ifn (by decide), ifp (by decide)]
      show some (gI τ 2 0) = _
      rw [m1a], hRel⟩
  by_cases c1 : a0 = (1 : Int32)
  · subst c1
    exact ⟨nI (s 1), by rw [fX5_count, ifn (by decide), ifp rfl, fX3_number, ifn (by decide), ifp rfl, ob, x1b], by
      rw [fX6_count, ifp (by decide), fX6_count_22, m_isIn, ob, ifn (by decide), ifp (by decide)]
      show some (gI τ 2 1) = _
      rw [m1b], hRel⟩
  by_cases c2 : a0 = (2 : Int32)
  · subst c2
    exact ⟨nI (s 2), by rw [fX5_count, ifn (by decide), ifn (by decide), ifp rfl, fX3_number, ifp rfl, ob, x1c, s5_cancel], by
      rw [fX6_count, ifp (by decide), fX6_count_22, m_isIn, ob, ifn (by decide), ifp (by decide)]
      show some (gI τ 2 2) = _
      rw [m1c], hRel⟩
  by_cases c3 : a0 = (3 : Int32)
  · subst c3
    exact ⟨nI (s 3), by rw [fX5_count, ifn c0, ifn c1, ifn c2, ifp rfl, x1d], by
      rw [fX6_count, ifp (by decide), fX6_count_22, m_isIn, ob, ifn (by decide), ifp (by decide)]
      show some (gI τ 2 3) = _
      rw [m1d], hRel⟩
  by_cases c4 : a0 = (4 : Int32)
  · subst c4
    exact ⟨nI (s 4), by rw [fX5_count, ifn c0, ifn c1, ifn c2, ifn c3, ifp rfl, x1e], by
      rw [fX6_count, ifp (by decide), fX6_count_22, m_isIn, ob, ifn (by decide), ifp (by decide)]
      show some (gI τ 2 4) = _
      rw [m1e], hRel⟩
  by_cases c5 : a0 = (5 : Int32)
  · subst c5
    exact ⟨nI (s 5), by rw [fX5_count, ifn c0, ifn c1, ifn c2, ifn c3, ifn c4, ifp rfl, x1f], by
      rw [fX6_count, ifp (by decide), fX6_count_22, m_isIn, ob, ifn (by decide), ifp (by decide)]
      show some (gI τ 2 5) = _
      rw [m1f], hRel⟩
  by_cases c6 : a0 = (6 : Int32)
  · subst c6
    exact ⟨nI rn, by rw [fX5_count, ifn c0, ifn c1, ifn c2, ifn c3, ifn c4, ifn c5, ifp rfl, x6], by
      rw [fX6_count, ifp (by decide), fX6_count_22, m_isIn, ob, ifp (by decide), ifp rfl, m6], hRel⟩
  by_cases c7 : a0 = (7 : Int32)
  · subst c7
    exact ⟨nI tn, by rw [fX5_count, ifn c0, ifn c1, ifn c2, ifn c3, ifn c4, ifn c5, ifn c6, ifp rfl, x4], by
      rw [fX6_count, ifp (by decide), fX6_count_22, m_isIn, ob, ifp (by decide), ifn (by decide), ifp rfl, m4], hRel⟩
  have e1 : fX5_count a0 σ = (if a0 ≤ (10 : Int32) then some (-9 : Int32) else (if (6 : Int32) ≤ (a0 - (11 : Int32)) then some (-9 : Int32) else (if ci (a0 - (11 : Int32)) 6 = true then some (gI σ 12 (a0 - (11 : Int32)).toNatClampNeg) else none))) := by
    rw [fX5_count, ifn c0, ifn c1, ifn c2, ifn c3, ifn c4, ifn c5, ifn c6, ifn c7]
    have q10 : (10 : Int32).toInt = 10 := rfl
    have q11 : (11 : Int32).toInt = 11 := rfl
    have q0 : (0 : Int32).toInt = 0 := rfl
    have hr := fb_rng a0
    have bs : ∀ y : Option Int32, y.bind (fun q => some q) = y := fun y => by cases y <;> rfl
    by_cases h : a0 ≤ (10 : Int32)
    · rw [ifp h, ifp (show a0 < (11 : Int32) by rw [fa_le] at h; rw [fa_lt]; omega)]
    · have h' : ¬ a0 < (11 : Int32) := by rw [fa_le] at h; rw [fa_lt]; omega
      have h3 : ¬ a0 - (11 : Int32) < 0 := by
        rw [fa_le] at h
        rw [fa_lt, fb_subI (by omega) (by omega), q11, q0]; omega
      rw [ifn h, ifn h', bs, fX5_refusalsAt, ifn h3]
  have t0 : (0 : Int32).toInt = 0 := rfl
  have t5 : (5 : Int32).toInt = 5 := rfl
  have t6 : (6 : Int32).toInt = 6 := rfl
  have t10 : (10 : Int32).toInt = 10 := rfl
  have t11 : (11 : Int32).toInt = 11 := rfl
  have t17 : (17 : Int32).toInt = 17 := rfl
  have big : ¬ (0 ≤ a0.toInt ∧ a0.toInt ≤ 5) → fX6_count_22 τ a0 = some (-9) := by
    intro hb
    have h1 : a0 < 0 ∨ (6 : Int32) ≤ a0 := by
      rw [fa_lt, fa_le]; omega
    rw [fX6_count_22, m_isIn, ob, ifp h1, ifp rfl, ifn c6, ifn c7]
  have hno : ¬ (0 ≤ a0.toInt ∧ a0.toInt ≤ 5) := by
    rintro ⟨q1, q2⟩
    have : a0.toInt = 0 ∨ a0.toInt = 1 ∨ a0.toInt = 2 ∨ a0.toInt = 3 ∨ a0.toInt = 4 ∨ a0.toInt = 5 := by omega
    rcases this with q | q | q | q | q | q
    · exact c0 (Int32.toInt_inj.mp q)
    · exact c1 (Int32.toInt_inj.mp q)
    · exact c2 (Int32.toInt_inj.mp q)
    · exact c3 (Int32.toInt_inj.mp q)
    · exact c4 (Int32.toInt_inj.mp q)
    · exact c5 (Int32.toInt_inj.mp q)
  by_cases h10 : a0 ≤ (10 : Int32)
  · exact ⟨-9, by rw [e1, ifp h10], by rw [fX6_count, ifp h10, big hno], hRel⟩
  · have h10' : 10 < a0.toInt := by rw [fa_le] at h10; omega
    have hr := fb_rng a0
    have s11 : (a0 - (11 : Int32)).toInt = a0.toInt - 11 := by rw [fb_subI (by omega) (by omega), t11]
    have s10 : (a0 - (10 : Int32)).toInt = a0.toInt - 10 := by rw [fb_subI (by omega) (by omega), t10]
    by_cases h17 : (17 : Int32) ≤ a0
    · have h6 : (6 : Int32) ≤ a0 - (11 : Int32) := by rw [fa_le]; rw [fa_le] at h17; omega
      exact ⟨-9, by rw [e1, ifn h10, ifp h6], by rw [fX6_count, ifn h10, ifp h17, big hno], hRel⟩
    · have h6 : ¬ (6 : Int32) ≤ a0 - (11 : Int32) := by rw [fa_le]; rw [fa_le] at h17; omega
      obtain ⟨k, hk, ek⟩ : ∃ k : Nat, k < 6 ∧ a0.toInt = (k : Int) + 11 := by
        rw [fa_le] at h17
        exact ⟨(a0.toInt - 11).toNat, by omega, by omega⟩
      have a11 : a0 - (11 : Int32) = nI k := nI_of_toInt (by omega) (by omega)
      have a10 : a0 - (10 : Int32) = nI (k + 1) := nI_of_toInt (by omega) (by omega)
      refine ⟨nI (rf (k + 1)), ?_, ?_, hRel⟩
      · rw [e1, ifn h10, ifn h6, a11, ifp (ci_nI hk (by omega)), nI_cl (by omega), x8 k hk]
      · rw [fX6_count, ifn h10, ifn h17, a10, ifp (ci_nI (by omega) (by omega)), nI_cl (by omega), m8 k hk]
