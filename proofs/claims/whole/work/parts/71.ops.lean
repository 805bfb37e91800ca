/-! THE PLAIN CALLS: letter, law, set, stops, row, seen, image, on, count -/
theorem Rel_of {σ τ : Mm} {s g : Nat → Nat} {im : Bool} {tx : Nat → Nat} {tn rn rb : Nat} {rf : Nat → Nat} (hV : VV s g im tx tn rn rb) (hX : RX σ s g im tx tn rn rb rf) (hT : RT σ) (hM : RM τ s g im tx tn rn rb rf) : Rel σ τ := ⟨s, g, im, tx, tn, rn, rb, rf, hV, hX, hT, hM⟩
theorem G0 : lawG_0 Rel := by
  intro a0 σ τ hR
  have hRel := hR
  obtain ⟨s, g, im, tx, tn, rn, rb, rf, hV, hX, hT, hM⟩ := hR
  obtain ⟨v1, v2, v3, v4, v5, v6⟩ := hV
  obtain ⟨x1, x2, x3, x4, x5, x6, x7, x8⟩ := hX
  obtain ⟨m1, m2, m3, m4, m5, m6, m7, m8⟩ := hM
  by_cases h1 : 0 ≤ a0
  · by_cases h2 : (255 : Int32) < a0
    · refine ⟨-6, _, _, ?_, ?_, Rel_ref 5 (by omega) hRel⟩
      · rw [fX5_letter, ifp h1, ifp h2, fX5_letter_30, x_ref6]; rfl
      · rw [fX6_letter, m_within, ob, ifn (nle h1), ifp h2, ifn (by decide), fX6_letter_25, ifn (by decide), m_ref6]; rfl
    · obtain ⟨j, hj, rfl⟩ := nI_le_of (M := 255) 255 rfl (nle h1) (le_of h2)
      by_cases h3 : tn < 64
      · refine ⟨nI (tn + 1), pI (pI σ 11 tn (nI j)) 10 1 (nI (tn + 1)), pI (pI τ 5 tn (nI j)) 0 7 (nI (tn + 1)), ?_, ?_, ?_⟩
        · have c1 : ¬ nI tn < 0 := nI_pos (by omega)
          have c2 : ¬ (64 : Int32) ≤ nI tn := fun q => absurd ((nI_leI (a := 64) (by omega) (by omega)).mp q) (by omega)
          have c3 : nI tn < (64 : Int32) := lt_of c2
          rw [fX5_letter, ifp h1, ifn h2, x4, ifp c3, fX2_append, x4, ifn c1, ifn c2, ifp (ci_nI h3 (by omega)), ob, nI_cl (by omega)]
          simp only [gI_pI]
          simp [x4, nI_1]
        · have c1 : ¬ nI tn = (64 : Int32) := fun q => absurd ((nI_eq (b := 64) (by omega) (by omega)).mp q) (by omega)
          rw [fX6_letter, m_within, ob, ifn (nle h1), ifn h2, ifp rfl, m4, ifn c1, fX6_letter_25, ifp rfl, m4, ifp (ci_nI h3 (by omega)), nI_cl (by omega)]
          simp only [gI_pI]
          simp [m4, nI_1]
        · refine Rel_of (s := s) (g := g) (im := im) (tx := fun k => if k = tn then j else tx k) (tn := tn + 1) (rn := rn) (rb := rb) (rf := rf) ⟨v1, v2, by omega, fun k hk => ?_, v5, v6⟩ ?_ (RT_pI (by omega) (RT_pI (by omega) hT)) ?_
          · by_cases e : k = tn
            · simp [e]; omega
            · simp [e]; exact v4 k (by omega)
          · unfold RX TO
            unfold TO at x1 x3
            simp only [gI_pI]
            refine ⟨by simpa using x1, by simpa using x2, by simpa using x3, by simp, fun k hk => ?_, by simpa using x6, by simpa using x7, by simpa using x8⟩
            by_cases e : k = tn
            · simp [e]
            · simp [e]; exact x5 k (by omega)
          · unfold RM MO
            unfold MO at m1 m3
            simp only [gI_pI]
            refine ⟨by simpa using m1, by simpa using m2, by simpa using m3, by simp, fun k hk => ?_, by simpa using m6, by simpa using m7, by simpa using m8⟩
            by_cases e : k = tn
            · simp [e]
            · simp [e]; exact m5 k (by omega)
      · have e3 : tn = 64 := by omega
        subst e3
        refine ⟨-6, _, _, ?_, ?_, Rel_ref 5 (by omega) hRel⟩
        · rw [fX5_letter, ifp h1, ifn h2, x4, ifn (by decide), fX5_letter_30, x_ref6]; rfl
        · rw [fX6_letter, m_within, ob, ifn (nle h1), ifn h2, ifp rfl, m4, ifp (show nI 64 = 64 from rfl), fX6_letter_25, ifn (by decide), m_ref6]; rfl
  · refine ⟨-4, _, _, ?_, ?_, Rel_ref 3 (by omega) hRel⟩
    · rw [fX5_letter, ifn h1, x_ref4]; rfl
    · rw [fX6_letter, m_within, ob, ifp (lt_of h1), ifn (by decide), fX6_letter_25, ifn (by decide), m_ref4]; rfl
theorem G2 : lawG_2 Rel := by
  intro a0 a1 σ τ hR
  have hRel := hR
  obtain ⟨s, g, im, tx, tn, rn, rb, rf, hV, hX, hT, hM⟩ := hR
  obtain ⟨⟨u0, u1, u2, u3, u4, u5, u6, u7, u8, u9⟩, v2, v3, v4, v5, v6⟩ := hV
  obtain ⟨⟨x1a, x1b, x1c, x1d, x1e, x1f, x1g⟩, x2, x3, x4, x5, x6, x7, x8⟩ := hX
  obtain ⟨⟨m1a, m1b, m1c, m1d, m1e, m1f, m1g⟩, m2, m3, m4, m5, m6, m7, m8⟩ := hM
  by_cases h1 : a0 < 0 ∨ (6 : Int32) ≤ a0
  · refine ⟨-2, _, _, ?_, ?_, Rel_ref 1 (by omega) hRel⟩
    · rcases h1 with h1 | h1
      · rw [fX5_law, ifp h1, fX5_law_10, x_ref2]; rfl
      · by_cases h2 : a0 < 0
        · rw [fX5_law, ifp h2, fX5_law_10, x_ref2]; rfl
        · rw [fX5_law, ifn h2, ifn (nle h1), fX5_law_10, x_ref2]; rfl
    · rw [fX6_law, m_isIn, ob, ifp h1, ifp rfl, fX6_law_21, ifn (by decide), m_ref2]; rfl
  · have h1a : ¬ a0 < 0 := fun q => h1 (Or.inl q)
    have h1b : a0 < (6 : Int32) := lt_of (fun q => h1 (Or.inr q))
    by_cases h2 : (1 : Int32) ≤ a1
    · by_cases h3 : a1 ≤ (9 : Int32)
      · obtain ⟨j, hj, rfl⟩ := nI_le_of (M := 5) (x := a0) 5 rfl h1a (by rw [fa_le]; rw [fa_lt] at h1b; have e1 : (6 : Int32).toInt = 6 := rfl; have e2 : (5 : Int32).toInt = 5 := rfl; omega)
        obtain ⟨f, hf, rfl⟩ := nI_le_of (M := 9) (x := a1) 9 rfl (by rw [fa_lt]; rw [fa_le] at h2; have e1 : (1 : Int32).toInt = 1 := rfl; have e2 : (0 : Int32).toInt = 0 := rfl; omega) h3
        have hf1 : 1 ≤ f := by
          have := (nI_leI (a := 1) (b := f) (by omega) (by omega)).mp h2
          exact this
        refine ⟨10 * nI (s 3) + nI (s 4), pI (pI σ 1 0 (nI j)) 1 1 (nI f), pI (pI τ 2 3 (nI j)) 2 4 (nI f), ?_, ?_, ?_⟩
        · rw [fX5_law, ifn h1a, ifp h1b, ifp h2, ifp h3, x1d, x1e]
        · rw [fX6_law, m_isIn, ob, ifn h1, ifn (by decide), m_within, ob, ifn (nle h2), ifn (nle h3), fX6_law_21, ifp rfl]
          show some ((10 * gI τ 2 3 + gI τ 2 4), _) = _
          rw [m1d, m1e]
          rfl
        · refine Rel_of (s := fun k => if k = 3 then j else if k = 4 then f else s k) (g := g) (im := im) (tx := tx) (tn := tn) (rn := rn) (rb := rb) (rf := rf) ⟨?_, v2, v3, v4, v5, v6⟩ ?_ (RT_pI (by omega) (RT_pI (by omega) hT)) ?_
          · refine ⟨u0, u1, u2, u3, u4, by simp; omega, by simpa using hf1, by simpa using hf, by simpa using u8, fun k hk => ?_⟩
            have e1 : ¬ 6 + 2 * k = 3 := by omega
            have e2 : ¬ 6 + 2 * k = 4 := by omega
            have e3 : ¬ 7 + 2 * k = 3 := by omega
            have e4 : ¬ 7 + 2 * k = 4 := by omega
            simp only [e1, e2, e3, e4, if_false]
            exact u9 k (by simpa using hk)
          · unfold RX TO
            unfold TO at x3
            simp only [gI_pI]
            refine ⟨⟨by simpa using x1a, by simpa using x1b, by simpa using x1c, by simp, by simp, by simpa using x1f, fun k hk => ?_⟩, by simpa using x2, by simpa using x3, by simpa using x4, by simpa using x5, by simpa using x6, by simpa using x7, by simpa using x8⟩
            have e1 : ¬ 6 + 2 * k = 3 := by omega
            have e2 : ¬ 6 + 2 * k = 4 := by omega
            have e3 : ¬ 7 + 2 * k = 3 := by omega
            have e4 : ¬ 7 + 2 * k = 4 := by omega
            simp only [e1, e2, e3, e4, if_false]
            simpa using x1g k (by simpa using hk)
          · unfold RM MO
            unfold MO at m3
            simp only [gI_pI]
            refine ⟨⟨by simpa using m1a, by simpa using m1b, by simpa using m1c, by simp, by simp, by simpa using m1f, fun k hk => ?_⟩, by simpa using m2, by simpa using m3, by simpa using m4, by simpa using m5, by simpa using m6, by simpa using m7, by simpa using m8⟩
            have e1 : ¬ 6 + 2 * k = 3 := by omega
            have e2 : ¬ 6 + 2 * k = 4 := by omega
            have e3 : ¬ 7 + 2 * k = 3 := by omega
            have e4 : ¬ 7 + 2 * k = 4 := by omega
            simp only [e1, e2, e3, e4, and_false, if_false]
            exact m1g k (by simpa using hk)
      · refine ⟨-6, _, _, ?_, ?_, Rel_ref 5 (by omega) hRel⟩
        · rw [fX5_law, ifn h1a, ifp h1b, ifp h2, ifn h3, x_ref6]; rfl
        · rw [fX6_law, m_isIn, ob, ifn h1, ifn (by decide), m_within, ob, ifn (nle h2), ifp (lt_of h3), fX6_law_21, ifn (by decide), m_ref6]; rfl
    · refine ⟨-4, _, _, ?_, ?_, Rel_ref 3 (by omega) hRel⟩
      · rw [fX5_law, ifn h1a, ifp h1b, ifn h2, x_ref4]; rfl
      · rw [fX6_law, m_isIn, ob, ifn h1, ifn (by decide), m_within, ob, ifp (lt_of h2), fX6_law_21, ifn (by decide), m_ref4]; rfl
/-! one scalar told -/
def su (s : Nat → Nat) (w j : Nat) : Nat → Nat := fun k => if k = w then j else s k
theorem su_hi {s : Nat → Nat} {w j k : Nat} (hw : w < 6) (hk : 6 ≤ k) : su s w j k = s k := by
  simp [su]; omega
theorem su_ne {s : Nat → Nat} {w j k : Nat} (h : k ≠ w) : su s w j k = s k := by simp [su, h]
theorem su_eq {s : Nat → Nat} {w j : Nat} : su s w j w = j := by simp [su]
theorem s5_cancel (x : Int32) : (5 : Int32) + (x - 5) = x := by rw [Int32.add_comm, Int32.sub_add_cancel]
theorem Rel_set {σ τ : Mm} {s g : Nat → Nat} {im : Bool} {tx : Nat → Nat} {tn rn rb : Nat} {rf : Nat → Nat} {w j : Nat} (hw : w < 3) (hj : j ≤ 11) (hj0 : w = 0 → 1 ≤ j ∧ j ≤ 10) (hj1 : w = 1 → 1 ≤ j) (hj2 : w = 2 → j ≤ 10) (hV : VV s g im tx tn rn rb) (hX : RX σ s g im tx tn rn rb rf) (hT : RT σ) (hM : RM τ s g im tx tn rn rb rf) :
    Rel (pI σ 1 (w + 2) (if w = 2 then nI j - 5 else nI j)) (pI τ 2 w (nI j)) := by
  obtain ⟨⟨u0, u1, u2, u3, u4, u5, u6, u7, u8, u9⟩, v2, v3, v4, v5, v6⟩ := hV
  obtain ⟨⟨x1a, x1b, x1c, x1d, x1e, x1f, x1g⟩, x2, x3, x4, x5, x6, x7, x8⟩ := hX
  obtain ⟨⟨m1a, m1b, m1c, m1d, m1e, m1f, m1g⟩, m2, m3, m4, m5, m6, m7, m8⟩ := hM
  refine Rel_of (s := su s w j) (g := g) (im := im) (tx := tx) (tn := tn) (rn := rn) (rb := rb) (rf := rf) ⟨?_, v2, v3, v4, v5, v6⟩ ?_ (RT_pI (by omega) hT) ?_
  · rcases (show w = 0 ∨ w = 1 ∨ w = 2 by omega) with rfl | rfl | rfl
    · refine ⟨by simpa [su] using (hj0 rfl).1, by simpa [su] using (hj0 rfl).2, by simpa [su] using u2, by simpa [su] using u3, by simpa [su] using u4, by simpa [su] using u5, by simpa [su] using u6, by simpa [su] using u7, by simpa [su] using u8, fun k hk => ?_⟩
      rw [su_hi (by omega) (by omega), su_hi (by omega) (by omega)]
      exact u9 k (by simpa [su] using hk)
    · refine ⟨by simpa [su] using u0, by simpa [su] using u1, by simpa [su] using hj1 rfl, by simpa [su] using hj, by simpa [su] using u4, by simpa [su] using u5, by simpa [su] using u6, by simpa [su] using u7, by simpa [su] using u8, fun k hk => ?_⟩
      rw [su_hi (by omega) (by omega), su_hi (by omega) (by omega)]
      exact u9 k (by simpa [su] using hk)
    · refine ⟨by simpa [su] using u0, by simpa [su] using u1, by simpa [su] using u2, by simpa [su] using u3, by simpa [su] using hj2 rfl, by simpa [su] using u5, by simpa [su] using u6, by simpa [su] using u7, by simpa [su] using u8, fun k hk => ?_⟩
      rw [su_hi (by omega) (by omega), su_hi (by omega) (by omega)]
      exact u9 k (by simpa [su] using hk)
  · unfold RX TO
    unfold TO at x3
    simp only [gI_pI]
    refine ⟨⟨?_, ?_, ?_, ?_, ?_, ?_, fun k hk => ?_⟩, by simpa using x2, by simpa using x3, by simpa using x4, by simpa using x5, by simpa using x6, by simpa using x7, by simpa using x8⟩
    · rcases (show w = 0 ∨ w = 1 ∨ w = 2 by omega) with rfl | rfl | rfl <;> simp [su, x1a]
    · rcases (show w = 0 ∨ w = 1 ∨ w = 2 by omega) with rfl | rfl | rfl <;> simp [su, x1b]
    · rcases (show w = 0 ∨ w = 1 ∨ w = 2 by omega) with rfl | rfl | rfl <;> simp [su, x1c]
    · rcases (show w = 0 ∨ w = 1 ∨ w = 2 by omega) with rfl | rfl | rfl <;> simp [su, x1d]
    · rcases (show w = 0 ∨ w = 1 ∨ w = 2 by omega) with rfl | rfl | rfl <;> simp [su, x1e]
    · rcases (show w = 0 ∨ w = 1 ∨ w = 2 by omega) with rfl | rfl | rfl <;> simp [su, x1f]
    · rw [su_hi (by omega) (by omega), su_hi (by omega) (by omega)]
      rw [su_ne (by omega)] at hk
      simpa using x1g k hk
  · unfold RM MO
    unfold MO at m3
    simp only [gI_pI]
    refine ⟨⟨?_, ?_, ?_, ?_, ?_, ?_, fun k hk => ?_⟩, by simpa using m2, by simpa using m3, by simpa using m4, by simpa using m5, by simpa using m6, by simpa using m7, by simpa using m8⟩
    · rcases (show w = 0 ∨ w = 1 ∨ w = 2 by omega) with rfl | rfl | rfl <;> simp [su, m1a]
    · rcases (show w = 0 ∨ w = 1 ∨ w = 2 by omega) with rfl | rfl | rfl <;> simp [su, m1b]
    · rcases (show w = 0 ∨ w = 1 ∨ w = 2 by omega) with rfl | rfl | rfl <;> simp [su, m1c]
    · rcases (show w = 0 ∨ w = 1 ∨ w = 2 by omega) with rfl | rfl | rfl <;> simp [su, m1d]
    · rcases (show w = 0 ∨ w = 1 ∨ w = 2 by omega) with rfl | rfl | rfl <;> simp [su, m1e]
    · rcases (show w = 0 ∨ w = 1 ∨ w = 2 by omega) with rfl | rfl | rfl <;> simp [su, m1f]
    · rw [su_hi (by omega) (by omega), su_hi (by omega) (by omega)]
      rw [su_ne (by omega)] at hk
      have e1 : ¬ 6 + 2 * k = w := by omega
      have e2 : ¬ 7 + 2 * k = w := by omega
      simp only [e1, e2, and_false, if_false]
      exact m1g k hk
theorem G3 : lawG_3 Rel := by
  intro a0 a1 σ τ hR
  have hRel := hR
  obtain ⟨s, g, im, tx, tn, rn, rb, rf, hV, hX, hT, hM⟩ := hR
  obtain ⟨x1a, x1b, x1c, x1d, x1e, x1f, x1g⟩ := hX.1
  obtain ⟨m1a, m1b, m1c, m1d, m1e, m1f, m1g⟩ := hM.1
  by_cases h1 : a0 < 0 ∨ (3 : Int32) ≤ a0
  · refine ⟨-2, _, _, ?_, ?_, Rel_ref 1 (by omega) hRel⟩
    · by_cases h2 : a0 < 0
      · rw [fX5_set, ifp h2, fX5_set_9, x_ref2]; rfl
      · have h3 : (3 : Int32) ≤ a0 := h1.resolve_left h2
        have h4 : ¬ a0 ≤ (2 : Int32) := by
          rw [fa_le]; rw [fa_le] at h3
          have e1 : (3 : Int32).toInt = 3 := rfl
          have e2 : (2 : Int32).toInt = 2 := rfl
          omega
        rw [fX5_set, ifn h2, ifn h4, fX5_set_9, x_ref2]; rfl
    · rw [fX6_set, m_isIn, ob, ifp h1, ifp rfl, fX6_set_39, ifn (by decide), m_ref2]; rfl
  · have h1a : ¬ a0 < 0 := fun q => h1 (Or.inl q)
    have h1b : a0 < (3 : Int32) := lt_of (fun q => h1 (Or.inr q))
    have h1c : a0 ≤ (2 : Int32) := by
      rw [fa_le]; rw [fa_lt] at h1b
      have e1 : (3 : Int32).toInt = 3 := rfl
      have e2 : (2 : Int32).toInt = 2 := rfl
      omega
    obtain ⟨w, hw, rfl⟩ := nI_le_of (M := 2) (x := a0) 2 rfl h1a h1c
    rcases (show w = 0 ∨ w = 1 ∨ w = 2 by omega) with rfl | rfl | rfl
    · by_cases h2 : (1 : Int32) ≤ a1
      · by_cases h3 : a1 ≤ (10 : Int32)
        · have h4 : ¬ a1 < 0 := by
            rw [fa_lt]; rw [fa_le] at h2
            have e1 : (1 : Int32).toInt = 1 := rfl
            have e2 : (0 : Int32).toInt = 0 := rfl
            omega
          obtain ⟨j, hj, rfl⟩ := nI_le_of (M := 10) (x := a1) 10 rfl h4 h3
          have hj1 : 1 ≤ j := (nI_leI (a := 1) (b := j) (by omega) (by omega)).mp h2
          refine ⟨nI (s 0), _, _, ?_, ?_, Rel_set (w := 0) (j := j) (by omega) (by omega) (fun _ => ⟨hj1, hj⟩) (fun q => by omega) (fun q => by omega) hV hX hT hM⟩
          · rw [fX5_set, ifn h1a, ifp h1c, fX3_least, ifn (by decide), ob, ifp h2, fX3_greatest, ifn (by decide), ob, ifp h3, fX3_number, ifn (by decide), ifn (by decide), ob, fX3_tellNumber, fX3_least, ifn (by decide), ob, ifn (nle h2), fX3_greatest, ifn (by decide), ob, ifp h3, ifn (by decide), ifn (by decide), ob, x1a]
            rfl
          · rw [fX6_set, m_isIn, ob, ifn h1, ifn (by decide), ifn (by decide), fX6_set_24, ifn (by decide), fX6_set_36, m_within, ob, ifn (nle h2), ifn (nle h3), fX6_set_39, ifp rfl, ifp (by decide), ifp (by decide)]
            show some (gI τ 2 0, _) = _
            rw [m1a]
            rfl
        · refine ⟨-6, _, _, ?_, ?_, Rel_ref 5 (by omega) hRel⟩
          · rw [fX5_set, ifn h1a, ifp h1c, fX3_least, ifn (by decide), ob, ifp h2, fX3_greatest, ifn (by decide), ob, ifn h3, x_ref6]; rfl
          · rw [fX6_set, m_isIn, ob, ifn h1, ifn (by decide), ifn (by decide), fX6_set_24, ifn (by decide), fX6_set_36, m_within, ob, ifn (nle h2), ifp (lt_of h3), fX6_set_39, ifn (by decide), m_ref6]; rfl
      · refine ⟨-4, _, _, ?_, ?_, Rel_ref 3 (by omega) hRel⟩
        · rw [fX5_set, ifn h1a, ifp h1c, fX3_least, ifn (by decide), ob, ifn h2, x_ref4]; rfl
        · rw [fX6_set, m_isIn, ob, ifn h1, ifn (by decide), ifn (by decide), fX6_set_24, ifn (by decide), fX6_set_36, m_within, ob, ifp (lt_of h2), fX6_set_39, ifn (by decide), m_ref4]; rfl
    · by_cases h2 : (1 : Int32) ≤ a1
      · by_cases h3 : a1 ≤ (11 : Int32)
        · have h4 : ¬ a1 < 0 := by
            rw [fa_lt]; rw [fa_le] at h2
            have e1 : (1 : Int32).toInt = 1 := rfl
            have e2 : (0 : Int32).toInt = 0 := rfl
            omega
          obtain ⟨j, hj, rfl⟩ := nI_le_of (M := 11) (x := a1) 11 rfl h4 h3
          have hj1 : 1 ≤ j := (nI_leI (a := 1) (b := j) (by omega) (by omega)).mp h2
          refine ⟨nI (s 1), _, _, ?_, ?_, Rel_set (w := 1) (j := j) (by omega) (by omega) (fun q => by omega) (fun q => hj1) (fun q => by omega) hV hX hT hM⟩
          · rw [fX5_set, ifn h1a, ifp h1c, fX3_least, ifn (by decide), ob, ifp h2, fX3_greatest, ifp (by decide), ob, ifp h3, fX3_number, ifn (by decide), ifp (by decide), ob, fX3_tellNumber, fX3_least, ifn (by decide), ob, ifn (nle h2), fX3_greatest, ifp (by decide), ob, ifp h3, ifn (by decide), ifp (by decide), ob, x1b]
            rfl
          · rw [fX6_set, m_isIn, ob, ifn h1, ifn (by decide), ifn (by decide), fX6_set_24, ifp (by decide), fX6_set_36, m_within, ob, ifn (nle h2), ifn (nle h3), fX6_set_39, ifp rfl, ifp (by decide), ifp (by decide)]
            show some (gI τ 2 1, _) = _
            rw [m1b]
            rfl
        · refine ⟨-6, _, _, ?_, ?_, Rel_ref 5 (by omega) hRel⟩
          · rw [fX5_set, ifn h1a, ifp h1c, fX3_least, ifn (by decide), ob, ifp h2, fX3_greatest, ifp (by decide), ob, ifn h3, x_ref6]; rfl
          · rw [fX6_set, m_isIn, ob, ifn h1, ifn (by decide), ifn (by decide), fX6_set_24, ifp (by decide), fX6_set_36, m_within, ob, ifn (nle h2), ifp (lt_of h3), fX6_set_39, ifn (by decide), m_ref6]; rfl
      · refine ⟨-4, _, _, ?_, ?_, Rel_ref 3 (by omega) hRel⟩
        · rw [fX5_set, ifn h1a, ifp h1c, fX3_least, ifn (by decide), ob, ifn h2, x_ref4]; rfl
        · rw [fX6_set, m_isIn, ob, ifn h1, ifn (by decide), ifn (by decide), fX6_set_24, ifp (by decide), fX6_set_36, m_within, ob, ifp (lt_of h2), fX6_set_39, ifn (by decide), m_ref4]; rfl
    · by_cases h2 : (0 : Int32) ≤ a1
      · by_cases h3 : a1 ≤ (10 : Int32)
        · obtain ⟨j, hj, rfl⟩ := nI_le_of (M := 10) (x := a1) 10 rfl (nle h2) h3
          refine ⟨nI (s 2), _, _, ?_, ?_, Rel_set (w := 2) (j := j) (by omega) (by omega) (fun q => by omega) (fun q => by omega) (fun _ => hj) hV hX hT hM⟩
          · rw [fX5_set, ifn h1a, ifp h1c, fX3_least, ifp (by decide), ob, ifp h2, fX3_greatest, ifn (by decide), ob, ifp h3, fX3_number, ifp (by decide), ob, fX3_tellNumber, fX3_least, ifp (by decide), ob, ifn (nle h2), fX3_greatest, ifn (by decide), ob, ifp h3, ifp (by decide), ob, x1c, s5_cancel]
            rfl
          · rw [fX6_set, m_isIn, ob, ifn h1, ifn (by decide), ifp (by decide), fX6_set_24, ifn (by decide), fX6_set_36, m_within, ob, ifn (nle h2), ifn (nle h3), fX6_set_39, ifp rfl, ifp (by decide), ifp (by decide)]
            show some (gI τ 2 2, _) = _
            rw [m1c]
            rfl
        · refine ⟨-6, _, _, ?_, ?_, Rel_ref 5 (by omega) hRel⟩
          · rw [fX5_set, ifn h1a, ifp h1c, fX3_least, ifp (by decide), ob, ifp h2, fX3_greatest, ifn (by decide), ob, ifn h3, x_ref6]; rfl
          · rw [fX6_set, m_isIn, ob, ifn h1, ifn (by decide), ifp (by decide), fX6_set_24, ifn (by decide), fX6_set_36, m_within, ob, ifn (nle h2), ifp (lt_of h3), fX6_set_39, ifn (by decide), m_ref6]; rfl
      · refine ⟨-4, _, _, ?_, ?_, Rel_ref 3 (by omega) hRel⟩
        · rw [fX5_set, ifn h1a, ifp h1c, fX3_least, ifp (by decide), ob, ifn h2, x_ref4]; rfl
        · rw [fX6_set, m_isIn, ob, ifn h1, ifn (by decide), ifp (by decide), fX6_set_24, ifn (by decide), fX6_set_36, m_within, ob, ifp (lt_of h2), fX6_set_39, ifn (by decide), m_ref4]; rfl
/-! stops -/
theorem G4 : lawG_4 Rel := by
  intro a0 a1 a2 σ τ hR
  have hRel := hR
  obtain ⟨s, g, im, tx, tn, rn, rb, rf, hV, hX, hT, hM⟩ := hR
  obtain ⟨u0, u1, u2, u3, u4, u5, u6, u7, u8, u9⟩ := hV.1
  obtain ⟨x1a, x1b, x1c, x1d, x1e, x1f, x1g⟩ := hX.1
  obtain ⟨m1a, m1b, m1c, m1d, m1e, m1f, m1g⟩ := hM.1
  have r4 : fX5_stops_12 σ = some (-4, pI σ 12 3 (gI σ 12 3 + 1)) := by rw [fX5_stops_12, x_ref4]; rfl
  have r6 : fX5_stops_37 σ = some (-6, pI σ 12 5 (gI σ 12 5 + 1)) := by rw [fX5_stops_37, x_ref6]; rfl
  have r3 : fX5_stops_65 σ = some (-3, pI σ 12 2 (gI σ 12 2 + 1)) := by rw [fX5_stops_65, x_ref3]; rfl
  have q4 : fX6_stops_12 a0 a1 a2 τ = some (-4, pI τ 1 4 (gI τ 1 4 + 1)) := by rw [fX6_stops_12, fX6_stops_63, ifn (by decide), m_ref4]; rfl
  have q6 : fX6_stops_35 a0 a1 a2 τ = some (-6, pI τ 1 6 (gI τ 1 6 + 1)) := by rw [fX6_stops_35, fX6_stops_63, ifn (by decide), m_ref6]; rfl
  have q3 : fX6_stops_57 a0 a1 a2 τ = some (-3, pI τ 1 3 (gI τ 1 3 + 1)) := by rw [fX6_stops_57, fX6_stops_63, ifn (by decide), m_ref3]; rfl
  by_cases h0 : a0 < 0
  · exact ⟨-4, _, _, by rw [fX5_stops, ifp h0, r4], by rw [fX6_stops, ifp h0, q4], Rel_ref 3 (by omega) hRel⟩
  by_cases h1 : a1 < 0
  · exact ⟨-4, _, _, by rw [fX5_stops, ifn h0, ifp h1, r4], by rw [fX6_stops, ifn h0, ifp h1, q4], Rel_ref 3 (by omega) hRel⟩
  by_cases h2n : ¬ 0 ≤ a2
  · have h2 := h2n
    exact ⟨-4, _, _, by rw [fX5_stops, ifn h0, ifn h1, ifn h2, r4], by rw [fX6_stops, ifn h0, ifn h1, ifn h2, q4], Rel_ref 3 (by omega) hRel⟩
  have h2 : 0 ≤ a2 := Classical.byContradiction h2n
  by_cases h3 : (10 : Int32) < a0
  · exact ⟨-6, _, _, by rw [fX5_stops, ifn h0, ifn h1, ifp h2, ifp h3, r6], by rw [fX6_stops, ifn h0, ifn h1, ifp h2, ifp h3, q6], Rel_ref 5 (by omega) hRel⟩
  by_cases h4 : (10 : Int32) < a1
  · exact ⟨-6, _, _, by rw [fX5_stops, ifn h0, ifn h1, ifp h2, ifn h3, ifp h4, r6], by rw [fX6_stops, ifn h0, ifn h1, ifp h2, ifn h3, ifp h4, q6], Rel_ref 5 (by omega) hRel⟩
  by_cases h5n : ¬ a2 ≤ (10 : Int32)
  · have h5 := h5n
    exact ⟨-6, _, _, by rw [fX5_stops, ifn h0, ifn h1, ifp h2, ifn h3, ifn h4, ifn h5, r6], by rw [fX6_stops, ifn h0, ifn h1, ifp h2, ifn h3, ifn h4, ifn h5, q6], Rel_ref 5 (by omega) hRel⟩
  have h5 : a2 ≤ (10 : Int32) := Classical.byContradiction h5n
  by_cases h6 : a0 < a2
  · exact ⟨-3, _, _, by rw [fX5_stops, ifn h0, ifn h1, ifp h2, ifn h3, ifn h4, ifp h5, ifp h6, r3], by rw [fX6_stops, ifn h0, ifn h1, ifp h2, ifn h3, ifn h4, ifp h5, ifp h6, q3], Rel_ref 2 (by omega) hRel⟩
  have e1 : fX5_stops a0 a1 a2 σ = if a0 = 0 then (if a1 = 0 then fX5_stops_65 σ else fX5_stops_57 a0 a1 a2 σ) else fX5_stops_57 a0 a1 a2 σ := by rw [fX5_stops, ifn h0, ifn h1, ifp h2, ifn h3, ifn h4, ifp h5, ifn h6]
  have e2 : fX6_stops a0 a1 a2 τ = if a1 = 0 then (if a0 = 0 then fX6_stops_57 a0 a1 a2 τ else (if a2 = 0 then fX6_stops_57 a0 a1 a2 τ else fX6_stops_62 a0 a1 a2 τ)) else fX6_stops_62 a0 a1 a2 τ := by rw [fX6_stops, ifn h0, ifn h1, ifp h2, ifn h3, ifn h4, ifp h5, ifn h6]
  have ok : ∃ (r : Int32), fX5_stops_72 a0 a1 a2 σ = some (r, σ) ∧ fX6_stops_62 a0 a1 a2 τ = some (r, τ) := by
    obtain ⟨o, ho, e3⟩ := nI_le_of (M := 10) (x := a0) 10 rfl h0 (le_of h3)
    obtain ⟨z, hz, e4⟩ := nI_le_of (M := 10) (x := a1) 10 rfl h1 (le_of h4)
    obtain ⟨r, hr, e5⟩ := nI_le_of (M := 10) (x := a2) 10 rfl (nle h2) h5
    refine ⟨bI (stp (s 3) (s 4) o z r), ?_, ?_⟩
    · rw [fX5_stops_72, x1d, x1e, e3, e4, e5, x_stops u5 (by omega) (by omega) (by omega) (by omega), ob]
      cases stp (s 3) (s 4) o z r <;> rfl
    · rw [fX6_stops_62, fX6_stops_63, ifp rfl, ifp (by decide), ifp (by decide), show (3 : Int32).toNatClampNeg = 3 from rfl, show (4 : Int32).toNatClampNeg = 4 from rfl, m1d, m1e, e3, e4, e5, m_stops u5 (by omega) (by omega) (by omega) (by omega), ob]
      cases stp (s 3) (s 4) o z r <;> rfl
  obtain ⟨r, k1, k2⟩ := ok
  by_cases h7 : a1 = 0
  · by_cases h8 : a0 = 0
    · exact ⟨-3, _, _, by rw [e1, ifp h8, ifp h7, r3], by rw [e2, ifp h7, ifp h8, q3], Rel_ref 2 (by omega) hRel⟩
    · by_cases h9 : a2 = 0
      · exact ⟨-3, _, _, by rw [e1, ifn h8, fX5_stops_57, ifp h9, ifp h7, r3], by rw [e2, ifp h7, ifn h8, ifp h9, q3], Rel_ref 2 (by omega) hRel⟩
      · exact ⟨r, _, _, by rw [e1, ifn h8, fX5_stops_57, ifn h9, k1], by rw [e2, ifp h7, ifn h8, ifn h9, k2], hRel⟩
  · have e6 : fX5_stops_57 a0 a1 a2 σ = some (r, σ) := by
      rw [fX5_stops_57]
      by_cases h9 : a2 = 0
      · rw [ifp h9, ifn h7, k1]
      · rw [ifn h9, k1]
    refine ⟨r, _, _, ?_, by rw [e2, ifn h7, k2], hRel⟩
    rw [e1]
    by_cases h8 : a0 = 0
    · rw [ifp h8, ifn h7, e6]
    · rw [ifn h8, e6]
/-! row -/
theorem G13 : lawG_13 Rel := by
  intro a0 σ τ hR
  have hRel := hR
  obtain ⟨s, g, im, tx, tn, rn, rb, rf, hV, hX, hT, hM⟩ := hR
  obtain ⟨v1, v2, v3, v4, v5, v6⟩ := hV
  obtain ⟨x1, x2, x3, x4, x5, x6, x7, x8⟩ := hX
  obtain ⟨m1, m2, m3, m4, m5, m6, ⟨q27, hq27, m7, hqm⟩, m8⟩ := hM
  have hb10 : 2 ^ rn ≤ 2 ^ 10 := Nat.pow_le_pow_right (by omega) v5
  by_cases h1 : a0 < 0 ∨ (1 : Int32) < a0
  · refine ⟨-2, _, _, ?_, ?_, Rel_ref 1 (by omega) hRel⟩
    · rw [fX5_row, x_noSort, ob, ifp h1, ifn (by decide), x_ref2]; rfl
    · have h2 : a0 < 0 ∨ (2 : Int32) ≤ a0 := by
        rcases h1 with h | h
        · exact Or.inl h
        · right
          rw [fa_le]; rw [fa_lt] at h
          have e1 : (1 : Int32).toInt = 1 := rfl
          have e2 : (2 : Int32).toInt = 2 := rfl
          omega
      rw [fX6_row, m_isIn, ob, ifp h2, ifp rfl, fX6_row_28, ifn (by decide), m_ref2]; rfl
  · have h1a : ¬ a0 < 0 := fun q => h1 (Or.inl q)
    have h1b : a0 ≤ (1 : Int32) := le_of (fun q => h1 (Or.inr q))
    have h2 : ¬ (a0 < 0 ∨ (2 : Int32) ≤ a0) := by
      rintro (h | h)
      · exact h1a h
      · rw [fa_le] at h h1b
        have e1 : (1 : Int32).toInt = 1 := rfl
        have e2 : (2 : Int32).toInt = 2 := rfl
        omega
    obtain ⟨b, hb, rfl⟩ := nI_le_of (M := 1) (x := a0) 1 rfl h1a h1b
    by_cases h3 : rn < 10
    · have c1 : nI rn < (10 : Int32) := (nI_ltI (b := 10) (by omega) (by omega)).mpr h3
      have c2 : ¬ nI rn = (10 : Int32) := fun q => absurd ((nI_eq (b := 10) (by omega) (by omega)).mp q) (by omega)
      have p9 : 2 ^ rn ≤ 2 ^ 9 := Nat.pow_le_pow_right (by omega) (by omega)
      have pb : b * 2 ^ rn ≤ 2 ^ 9 := by
        calc b * 2 ^ rn ≤ 1 * 2 ^ rn := Nat.mul_le_mul_right _ hb
          _ ≤ 2 ^ 9 := by omega
      have e1 : nI b <<< (nI rn &&& 31) = nI (b * 2 ^ rn) := shl_n (by omega) (by omega)
      have e2 : ((1 : Int32) <<< (nI rn &&& 31)) - (1 : Int32) = nI (2 ^ rn - 1) := by
        have e3 : (1 : Int32) <<< (nI rn &&& 31) = nI (1 * 2 ^ rn) := shl_n (a := 1) (by omega) (by omega)
        rw [e3, Nat.one_mul, show (1 : Int32) = nI 1 from rfl, pk_sub (Nat.one_le_two_pow)]
      have hnew : rb + b * 2 ^ rn < 2 ^ (rn + 1) := by
        rw [Nat.pow_succ]
        have : b * 2 ^ rn ≤ 1 * 2 ^ rn := Nat.mul_le_mul_right _ hb
        omega
      refine ⟨nI (rn + 1), pI (pI σ 0 6 (nI (rb + b * 2 ^ rn))) 0 5 (nI (rn + 1)), pI (pI τ 0 27 (nI (rb + b * 2 ^ rn))) 0 26 (nI (rn + 1)), ?_, ?_, ?_⟩
      · rw [fX5_row, x_noSort, ob, ifn h1, ifp rfl, x6, ifp c1, x7, e1, or_bit b v6]
        simp only [gI_pI]
        simp [x6, nI_1]
      · rw [fX6_row, m_isIn, ob, ifn h2, ifn (by decide), m6, ifn c2, fX6_row_28, ifp rfl, m6, e1, e2, m7, fa_mask, hqm, or_bit b v6]
        simp only [gI_pI]
        simp [m6, nI_1]
      · refine Rel_of (s := s) (g := g) (im := im) (tx := tx) (tn := tn) (rn := rn + 1) (rb := rb + b * 2 ^ rn) (rf := rf) ⟨v1, v2, v3, v4, by omega, hnew⟩ ?_ (RT_pI (by omega) (RT_pI (by omega) hT)) ?_
        · unfold RX TO
          unfold TO at x1 x3
          simp only [gI_pI]
          refine ⟨by simpa using x1, by simpa using x2, by simpa using x3, by simpa using x4, by simpa using x5, by simp, by simp, by simpa using x8⟩
        · unfold RM MO
          unfold MO at m1 m3
          simp only [gI_pI]
          refine ⟨by simpa using m1, by simpa using m2, by simpa using m3, by simpa using m4, by simpa using m5, by simp, ?_, by simpa using m8⟩
          exact ⟨rb + b * 2 ^ rn, by omega, by rw [ifn (by decide), ifp (by decide)], Nat.mod_eq_of_lt hnew⟩
    · have e3 : rn = 10 := by omega
      subst e3
      refine ⟨-6, _, _, ?_, ?_, Rel_ref 5 (by omega) hRel⟩
      · rw [fX5_row, x_noSort, ob, ifn h1, ifp rfl, x6, ifn (by decide), x_ref6]; rfl
      · rw [fX6_row, m_isIn, ob, ifn h2, ifn (by decide), m6, ifp (show nI 10 = 10 from rfl), fX6_row_28, ifn (by decide), m_ref6]; rfl
