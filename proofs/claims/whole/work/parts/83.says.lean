/-! says, trial -/
section VE
variable {k f m c L : Nat} {μ ν : Nat → Nat → Nat → Nat}
theorem vv_e : ∀ j n e o r, vv k f m c L μ j n e o r = vv k f m c L (fun _ o z => μ e o z) j n e o r
  | 0, n, e, o, r => rfl
  | j + 1, n, e, o, r => by
    cases he : ends k f m n o r with
    | true => rw [vv_end he, vv_end he]
    | false => rw [vv_go he, vv_go he, vv_e j, vv_e j (n + 1) e o 0]
theorem tot_congr2 (hm1 : 1 ≤ m) {j : Nat} (hj : m ≤ j + 1) (h : ∀ e o z, e ≤ 1 → 1 ≤ o + z → o + z ≤ m → μ e o z = ν e o z) : tot k f m c L j μ = tot k f m c L j ν := by
  unfold tot
  rw [vv_e (μ := μ) j 1 1 1 1, vv_e (μ := ν) j 1 1 1 1, vv_e (μ := μ) j 1 0 0 0, vv_e (μ := ν) j 1 0 0 0, vv_congr (μ := fun _ o z => μ 1 o z) (ν := fun _ o z => ν 1 o z) (fun _ o z h1 h2 => h 1 o z (by omega) h1 h2) j 1 1 1 1 (by omega) (by omega) (by omega) (by omega), vv_congr (μ := fun _ o z => μ 0 o z) (ν := fun _ o z => ν 0 o z) (fun _ o z h1 h2 => h 0 o z (by omega) h1 h2) j 1 0 0 0 (by omega) (by omega) (by omega) (by omega)]
end VE
theorem x_frac0 {b p : Nat} (hb : b < 2 ^ 63) (hp : p ≤ 1) : fX5_fraction (lN 0) (lN b) (nI p) = some (lN p) := by
  rw [fX5_fraction, x_gcd (by omega) hb, ob, ifp lg_c0, fX5_fraction_26]
  rcases (show p = 0 ∨ p = 1 by omega) with rfl | rfl <;> rfl
theorem m_frac0 {y : Int64} {p : Nat} (hp : p ≤ 1) : fX6_part (lN 0) y (nI p) = some (lN p) := by
  rw [fX6_part, ifp lg_c0, nI_l (by omega)]
theorem frac3 {N9 D9 N D C p : Nat} (h1 : N9 = N * C) (h2 : D9 = D * C) (hC : 0 < C) (hD : D = 0 → N = 0) (b1 : N9 < 2 ^ 63) (b2 : D9 < 2 ^ 63) (hp : p ≤ 1) : ∃ v, fX5_fraction (lN N9) (lN D9) (nI p) = some v ∧ fX6_part (lN N) (lN D) (nI p) = some v := by
  by_cases h : D = 0
  · have hN := hD h
    subst h
    subst hN
    rw [Nat.zero_mul] at h1
    subst h1
    exact ⟨_, x_frac0 b2 hp, m_frac0 hp⟩
  · exact ⟨_, frac2 h1 h2 hC (by omega) b1 b2 hp⟩
theorem ym17 {S A B e o z : Nat} (hS : S ≤ 1) (hA : A ≤ 9) (hB : B ≤ 9) (ho : o ≤ 10) (hz : z ≤ 10) : ym (nI S) (nI A) (nI B) 17 e o z = (if o = A + S ∧ z = B + 1 - S then 1 else 0) * (if S = 1 then A + S else B + 1 - S) := by
  show (if ycond (nI S) (nI A) (nI B) o z then (if nI S = 1 then o else z) else 0) = _
  have hc : ycond (nI S) (nI A) (nI B) o z = true ↔ o = A + S ∧ z = B + 1 - S := by
    simp only [ycond, Bool.and_eq_true, decide_eq_true_eq]
    rw [nI_add, nI_1, pk_sub (by omega), nI_eq (by omega) (by omega), nI_eq (by omega) (by omega)]
  have h1 : nI S = 1 ↔ S = 1 := nI_eq (b := 1) (by omega) (by omega)
  by_cases q : o = A + S ∧ z = B + 1 - S
  · rw [ifp (hc.mpr q), ifp q, Nat.one_mul]
    by_cases q1 : S = 1
    · rw [ifp (h1.mpr q1), ifp q1, q.1]
    · rw [ifn (fun w => q1 (h1.mp w)), ifn q1, q.2]
  · rw [ifn (fun w => q (hc.mp w)), ifn q, Nat.zero_mul]
theorem ym18 {S A B e o z : Nat} (hS : S ≤ 1) (hA : A ≤ 9) (hB : B ≤ 9) (he : e ≤ 1) (ho : o ≤ 10) (hz : z ≤ 10) : ym (nI S) (nI A) (nI B) 18 e o z = if e = S ∧ o = A + S ∧ z = B + 1 - S then 1 else 0 := by
  show (if ycond (nI S) (nI A) (nI B) o z then (if nI e = nI S then 1 else 0) else 0) = _
  have hc : ycond (nI S) (nI A) (nI B) o z = true ↔ o = A + S ∧ z = B + 1 - S := by
    simp only [ycond, Bool.and_eq_true, decide_eq_true_eq]
    rw [nI_add, nI_1, pk_sub (by omega), nI_eq (by omega) (by omega), nI_eq (by omega) (by omega)]
  have h1 : nI e = nI S ↔ e = S := nI_eq (by omega) (by omega)
  by_cases q : o = A + S ∧ z = B + 1 - S
  · rw [ifp (hc.mpr q)]
    by_cases q1 : e = S
    · rw [ifp (h1.mpr q1), ifp ⟨q1, q⟩]
    · rw [ifn (fun w => q1 (h1.mp w)), ifn (fun w => q1 w.1)]
  · rw [ifn (fun w => q (hc.mp w)), ifn (fun w => q w.2)]
theorem G11 : lawG_11 Rel := by
  intro a0 a1 a2 a3 a4 σ τ hR
  have hRel := hR
  obtain ⟨s, g, im, tx, tn, rn, rb, rf, hV, hX, hT, hM⟩ := hR
  have r4 : ∀ (h : fX5_says a0 a1 a2 a3 a4 σ = fX5_says_8 σ) (h2 : fX6_says a0 a1 a2 a3 a4 τ = fX6_says_8 a0 a1 a2 a3 a4 τ), ∃ (r : Int64) (σ' : Mm) (τ' : Mm), fX5_says a0 a1 a2 a3 a4 σ = some (r, σ') ∧ fX6_says a0 a1 a2 a3 a4 τ = some (r, τ') ∧ Rel σ' τ' := fun h h2 =>
    ⟨4000000000000000004, _, _, by rw [h, fX5_says_8, x_refL4, ob], by rw [h2, fX6_says_8, fX6_says_61, ifn (by decide), m_refL4, ob], Rel_ref 3 (by omega) hRel⟩
  have r6 : ∀ (h : fX5_says a0 a1 a2 a3 a4 σ = fX5_says_27 σ) (h2 : fX6_says a0 a1 a2 a3 a4 τ = fX6_says_25 a0 a1 a2 a3 a4 τ), ∃ (r : Int64) (σ' : Mm) (τ' : Mm), fX5_says a0 a1 a2 a3 a4 σ = some (r, σ') ∧ fX6_says a0 a1 a2 a3 a4 τ = some (r, τ') ∧ Rel σ' τ' := fun h h2 =>
    ⟨4000000000000000006, _, _, by rw [h, fX5_says_27, x_refL6, ob], by rw [h2, fX6_says_25, fX6_says_61, ifn (by decide), m_refL6, ob], Rel_ref 5 (by omega) hRel⟩
  have r2 : ∀ (h : fX5_says a0 a1 a2 a3 a4 σ = fX5_says_57 σ) (h2 : fX6_says a0 a1 a2 a3 a4 τ = fX6_says_59 a0 a1 a2 a3 a4 τ), ∃ (r : Int64) (σ' : Mm) (τ' : Mm), fX5_says a0 a1 a2 a3 a4 σ = some (r, σ') ∧ fX6_says a0 a1 a2 a3 a4 τ = some (r, τ') ∧ Rel σ' τ' := fun h h2 =>
    ⟨4000000000000000002, _, _, by rw [h, fX5_says_57, x_refL2, ob], by rw [h2, fX6_says_59, fX6_says_61, ifn (by decide), m_refL2, ob], Rel_ref 1 (by omega) hRel⟩
  by_cases c1 : a1 < 0
  · exact r4 (by rw [fX5_says, ifp c1]) (by rw [fX6_says, ifp c1])
  by_cases c2' : ¬ 0 ≤ a2
  · exact r4 (by rw [fX5_says, ifn c1, ifn c2']) (by rw [fX6_says, ifn c1, ifn c2'])
  have c2 : 0 ≤ a2 := Decidable.not_not.mp c2'
  by_cases c3 : (9 : Int32) < a1
  · exact r6 (by rw [fX5_says, ifn c1, ifp c2, ifp c3]) (by rw [fX6_says, ifn c1, ifp c2, ifp c3])
  by_cases c4' : ¬ a2 ≤ (9 : Int32)
  · exact r6 (by rw [fX5_says, ifn c1, ifp c2, ifn c3, ifn c4']) (by rw [fX6_says, ifn c1, ifp c2, ifn c3, ifn c4'])
  have c4 : a2 ≤ (9 : Int32) := Decidable.not_not.mp c4'
  obtain ⟨X, hX0⟩ : ∃ X, fX5_says a0 a1 a2 a3 a4 σ = X := ⟨_, rfl⟩
  obtain ⟨Y, hY0⟩ : ∃ Y, fX6_says a0 a1 a2 a3 a4 τ = Y := ⟨_, rfl⟩
  have eX1 := hX0
  have eM1 := hY0
  rw [fX5_says, ifn c1, ifp c2, ifn c3, ifp c4] at eX1
  rw [fX6_says, ifn c1, ifp c2, ifn c3, ifp c4] at eM1
  rcases two a0 with ⟨q1, q2⟩ | ⟨S, hS, rfl⟩
  · exact r2 (by rw [hX0, ← eX1, x_nsb q1, ob, ifn (by decide)]) (by rw [hY0, ← eM1, m_ii0 q2, ob, ifp rfl])
  have iS : fX6_isIn (nI S) 2 = some 1 := m_iio (n := 2) (by omega) (by omega)
  rw [x_nso hS, ob, ifp rfl] at eX1
  rw [iS, ob, ifn (by decide)] at eM1
  rcases two a3 with ⟨q1, q2⟩ | ⟨w, hw, rfl⟩
  · exact r2 (by rw [hX0, ← eX1, x_nsb q1, ob, ifn (by decide)]) (by rw [hY0, ← eM1, m_ii0 q2, ob, ifp rfl])
  have iw : fX6_isIn (nI w) 2 = some 1 := m_iio (n := 2) (by omega) (by omega)
  rw [x_nso hw, ob, ifp rfl] at eX1
  rw [iw, ob, ifn (by decide)] at eM1
  rcases two a4 with ⟨q1, q2⟩ | ⟨p, hp, rfl⟩
  · exact r2 (by rw [hX0, ← eX1, x_nsb q1, ob, ifn (by decide)]) (by rw [hY0, ← eM1, m_ipb q2, ob, ifp rfl])
  rw [x_nso hp, ob, ifp rfl] at eX1
  rw [m_ipo hp, ob, ifn (by decide)] at eM1
  obtain ⟨A, hA, rfl⟩ := nI_le_of (M := 9) (x := a1) 9 rfl c1 (le_of c3)
  obtain ⟨B, hB, rfl⟩ := nI_le_of (M := 9) (x := a2) 9 rfl (nle c2) c4
  have hm1 := hV.1.1
  have hm := hV.1.2.1
  have hc := hV.1.2.2.2.1
  have hk : s 3 < 6 := hV.1.2.2.2.2.2.1
  -- the reference's sums
  have sm0 : SM τ (pI (pI (pI τ 0 20 (nI S)) 0 21 (nI A)) 0 22 (nI B)) := SM_pI (SM_pI (SM_pI SM_rf (by unfold ir; omega)) (by unfold ir; omega)) (by unfold ir; omega)
  have hM0 := SM_RM sm0 hM
  obtain ⟨τ', b1, b2, b3, b4⟩ := m_finds (S := nI S) (A := nI A) (B := nI B) hV.1 hk hM0.1 rfl rfl rfl
  obtain ⟨i, σ', ee, d1, d2, d3, d4, d5, d6, d7⟩ := x_now hV.1 hX.1 hT
  have hRel' : Rel σ' τ' := Rel_of hV (RX_same d3 hX) d4 (RM_1 b2 hM0)
  have g17 : gL τ' 0 17 = _ := b4 17 (by omega) (by omega) (by omega)
  have g18 : gL τ' 0 18 = _ := b4 18 (by omega) (by omega) (by omega)
  have g10 : gL τ' 0 10 = _ := b4 10 (by omega) (by omega) (by omega)
  have hO : A + S ≤ 10 := by omega
  have hZ : B + 1 - S ≤ 10 := by omega
  obtain ⟨O, eO⟩ : ∃ O, O = A + S := ⟨_, rfl⟩
  obtain ⟨Z, eZ⟩ : ∃ Z, Z = B + 1 - S := ⟨_, rfl⟩
  obtain ⟨W, eW⟩ : ∃ W, W = if S = 1 then O else Z := ⟨_, rfl⟩
  have hW1 : 1 ≤ W := by
    rw [eW]
    by_cases q : S = 1
    · rw [ifp q]; omega
    · rw [ifn q]; omega
  have hW10 : W ≤ 10 := by
    rw [eW]
    by_cases q : S = 1
    · rw [ifp q]; omega
    · rw [ifn q]; omega
  have f0 : fX1_families i (nI A + nI S) ((nI B + 1) - nI S) σ' = some (lN (ee (pl 0 O Z) + ee (pl 1 O Z))) := by
    rw [nI_add, nI_1, pk_sub (by omega), ← eO, ← eZ]
    exact x_fam d6 (by omega) (by omega)
  have hF : ee (pl 0 O Z) + ee (pl 1 O Z) = tot (s 3) (s 4) (s 0) (s 1) (s 2) 9 (fun _ o z => if o = O ∧ z = Z then 1 else 0) := by
    rw [tal_cell d7 (show 0 ≤ 1 by omega) (show O ≤ 10 by omega) (show Z ≤ 10 by omega), tal_cell d7 (show 1 ≤ 1 by omega) (show O ≤ 10 by omega) (show Z ≤ 10 by omega), ← tot_add]
    refine tot_congr2 hm1 (by omega) (fun e o z he _ _ => ?_)
    show (if e = 0 ∧ o = O ∧ z = Z then 1 else 0) + (if e = 1 ∧ o = O ∧ z = Z then 1 else 0) = if o = O ∧ z = Z then 1 else 0
    by_cases q : o = O ∧ z = Z
    · rcases (show e = 0 ∨ e = 1 by omega) with rfl | rfl
      · rw [ifp ⟨rfl, q⟩, ifn (by omega), ifp q]
      · rw [ifn (by omega), ifp ⟨rfl, q⟩, ifp q]
    · rw [ifn (fun w => q w.2), ifn (fun w => q w.2), ifn q]
  have y17 : ∀ (e : Nat) o z, 1 ≤ o + z → o + z ≤ s 0 → (if o = O ∧ z = Z then 1 else 0) * W = ym (nI S) (nI A) (nI B) 17 e o z := by
    intro e o z _ _
    rw [ym17 hS hA hB (by omega) (by omega), ← eO, ← eZ, ← eW]
  have hFW : (ee (pl 0 O Z) + ee (pl 1 O Z)) * W = tot (s 3) (s 4) (s 0) (s 1) (s 2) 9 (fun _ o z => (if o = O ∧ z = Z then 1 else 0) * W) := by rw [hF, ← tot_mul]
  have hFW2 : (ee (pl 0 O Z) + ee (pl 1 O Z)) * W = tot (s 3) (s 4) (s 0) (s 1) (s 2) (s 0 - 1) (ym (nI S) (nI A) (nI B) 17) * 12 ^ (10 - s 0) := by rw [hFW]; exact tot_two hm1 hm y17
  have bFW : (ee (pl 0 O Z) + ee (pl 1 O Z)) * W ≤ 10 * 12 ^ 10 := by
    rw [hFW]
    exact tot_le hc (fun e o z => by
      by_cases q : o = O ∧ z = Z
      · rw [ifp q]; omega
      · rw [ifn q]; omega)
  have h106 : fX5_says (nI S) (nI A) (nI B) (nI w) (nI p) σ = (if nI w = 0 then (fX1_sum i (0 : Int32) (0 : Int32) σ').bind (fun q_7 => (fX5_fraction (lN ((ee (pl 0 O Z) + ee (pl 1 O Z)) * W)) q_7 (nI p)).bind (fun q_8 => some (q_8, σ'))) else (fX1_familiesFrom i (nI S) (nI O) (nI Z) σ').bind (fun q_5 => (fX5_fraction q_5 (lN ((ee (pl 0 O Z) + ee (pl 1 O Z)) * W)) (nI p)).bind (fun q_6 => some (q_6, σ')))) := by
    rw [hX0, ← eX1, d1, ob, ifp d2, f0, ob, nI_add, nI_1, pk_sub (by omega), ← eO, ← eZ]
    by_cases q : S = 1
    · rw [ifp q] at eW
      rw [ifp (show nI S = 1 by rw [q]; rfl), fX5_says_103, nI_l (by omega), lN_mul, ← eW]
    · rw [ifn q] at eW
      rw [ifn (show ¬ nI S = 1 from fun z => q ((nI_eq (b := 1) (by omega) (by omega)).mp z)), fX5_says_103, nI_l (by omega), lN_mul, ← eW]
  have h61 : fX6_says (nI S) (nI A) (nI B) (nI w) (nI p) τ = (if nI w = 0 then (fX6_part (gL τ' 0 17) (gL τ' 0 10) (nI p)).bind (fun q_6 => some (q_6, τ')) else (fX6_part (gL τ' 0 18) (gL τ' 0 17) (nI p)).bind (fun q_5 => some (q_5, τ'))) := by
    have m3 : gI (pI (pI (pI τ 0 20 (nI S)) 0 21 (nI A)) 0 22 (nI B)) 2 3 = nI (s 3) := hM0.1.2.2.2.1
    rw [hY0, ← eM1, fX6_says_61, ifp rfl, ifp (by decide), show (3 : Int32).toNatClampNeg = 3 from rfl, m3, b1, ob]
  rcases (show w = 0 ∨ w = 1 by omega) with rfl | rfl
  · have hs0 : fX1_sum i 0 0 σ' = _ := x_sum (a := 0) (b := 0) hm1 hm d5 d6 d7 (by omega) (by omega)
    have y17b : ∀ (e : Nat) o z, 1 ≤ o + z → o + z ≤ s 0 → (if o = O ∧ z = Z then 1 else 0) * W ≤ 2520 := by
      intro e o z _ _
      by_cases q : o = O ∧ z = Z
      · rw [ifp q]; omega
      · rw [ifn q]; omega
    obtain ⟨v, f1, f2⟩ := exv (byKids (k := s 3) (f := s 4) (L := s 2) (S := nI S) (A := nI A) (B := nI B) (μ := fun _ o z => (if o = O ∧ z = Z then 1 else 0) * W) (ν := ym (nI S) (nI A) (nI B) 17) hm1 hm hc hp y17b y17)
    refine ⟨v, σ', τ', ?_, ?_, hRel'⟩
    · rw [h106, ifp (show nI 0 = 0 from rfl), hs0, ob, hFW, f1, ob]
    · rw [h61, ifp (show nI 0 = 0 from rfl), g17, g10, f2, ob]
  · have hff : fX1_familiesFrom i (nI S) (nI O) (nI Z) σ' = some (lN (ee (pl S O Z))) := by
      rw [fX1_familiesFrom, x_cat hS (by omega) (by omega), ob, d6 _ (pl_lt hS (by omega) (by omega))]
    have hE : ee (pl S O Z) = tot (s 3) (s 4) (s 0) (s 1) (s 2) (s 0 - 1) (ym (nI S) (nI A) (nI B) 18) * 12 ^ (10 - s 0) := by
      rw [tal_cell d7 hS (show O ≤ 10 by omega) (show Z ≤ 10 by omega), show 9 = (s 0 - 1) + (10 - s 0) by omega, tot_shift hm1 (by omega)]
      congr 1
      refine tot_congr2 hm1 (by omega) (fun e o z he q1 q2 => ?_)
      rw [ym18 hS hA hB he (by omega) (by omega), ← eO, ← eZ]
    have hle : ee (pl S O Z) ≤ ee (pl 0 O Z) + ee (pl 1 O Z) := by
      rcases (show S = 0 ∨ S = 1 by omega) with rfl | rfl <;> omega
    have hle2 : ee (pl 0 O Z) + ee (pl 1 O Z) ≤ (ee (pl 0 O Z) + ee (pl 1 O Z)) * W := Nat.le_mul_of_pos_right _ hW1
    have hD : tot (s 3) (s 4) (s 0) (s 1) (s 2) (s 0 - 1) (ym (nI S) (nI A) (nI B) 17) = 0 → tot (s 3) (s 4) (s 0) (s 1) (s 2) (s 0 - 1) (ym (nI S) (nI A) (nI B) 18) = 0 := by
      intro q
      rw [q, Nat.zero_mul] at hFW2
      have q2 : ee (pl S O Z) = 0 := by omega
      rw [hE] at q2
      rcases Nat.mul_eq_zero.mp q2 with q3 | q3
      · exact q3
      · exact absurd q3 (Nat.ne_of_gt (pw_pos _))
    obtain ⟨v, f1, f2⟩ := frac3 (p := p) hE hFW2 (pw_pos _) hD (by omega) (by omega) hp
    refine ⟨v, σ', τ', ?_, ?_, hRel'⟩
    · rw [h106, ifn (by decide), hff, ob, f1, ob]
    · rw [h61, ifn (by decide), g18, g17, f2, ob]
/-! trial -/
theorem m_tried {s : Nat → Nat} (hs : Vs s) {n d : Nat} (hn : n ≤ 10) (hd : d ≤ 9) {τ : Mm} (hM : MO τ 2 s) : ∀ (j N o z r e P : Nat) (ah : Int32), 1 ≤ o + z → o + z + j = n → j < N → r ≤ o → P * 12 ^ j ≤ 12 ^ 10 → (ah = 1 ↔ o + z ≠ 0 ∧ 0 < r) → (ah = 0 ↔ o + z ≠ 0 ∧ r = 0) →
    fX6_triedBy N (nI j) (nI o - nI z) (nI d) ah (lN (P * 12 ^ j)) τ = some (lN (P * vv 2 d n (s 1) (s 2) (fun _ o z => xms 10 d o z) j (o + z) e o r)) := by
  have hc11 : s 1 ≤ 11 := hs.2.2.2.1
  intro j
  induction j with
  | zero =>
    intro N o z r e P ah h1 hj hN hr hP ha1 ha0
    obtain ⟨N, rfl⟩ : ∃ N', N = N' + 1 := ⟨N - 1, by omega⟩
    have hE : ends 2 d n (o + z) o r = true := ends_m (by omega)
    rw [vv_end hE, Nat.add_sub_cancel_left, fX6_triedBy]
    by_cases q : o = z + d
    · rw [ifp ((nI_sub_eq (by omega) (by omega) (by omega)).mpr q)]
      show _ = some (lN (P * ((if o = z + d then 1 else 0) * 12 ^ 0)))
      rw [ifp q, Nat.one_mul]
    · rw [ifn (fun w => q ((nI_sub_eq (by omega) (by omega) (by omega)).mp w)), ifp (show nI 0 = 0 from rfl)]
      show _ = some (lN (P * ((if o = z + d then 1 else 0) * 12 ^ 0)))
      rw [ifn q, Nat.zero_mul, Nat.mul_zero]
      rfl
  | succ j ih =>
    intro N o z r e P ah h1 hj hN hr hP ha1 ha0
    obtain ⟨N, rfl⟩ : ∃ N', N = N' + 1 := ⟨N - 1, by omega⟩
    have hmn : ¬ n ≤ o + z := by omega
    rw [fX6_triedBy]
    by_cases q : o = z + d
    · have hE : ends 2 d n (o + z) o r = true := by
        rw [ends, Nat.add_sub_cancel_left]
        simp [stp, q]
      rw [ifp ((nI_sub_eq (by omega) (by omega) (by omega)).mpr q), vv_end hE, Nat.add_sub_cancel_left]
      show _ = some (lN (P * ((if o = z + d then 1 else 0) * 12 ^ (j + 1))))
      rw [ifp q, Nat.one_mul]
    · have hE : ends 2 d n (o + z) o r = false := by
        rw [ends, Nat.add_sub_cancel_left]
        simp [stp, q, hmn]
      rw [ifn (fun w => q ((nI_sub_eq (by omega) (by omega) (by omega)).mp w)), ifn (nI_ne0 (by omega) (by omega))]
      by_cases hz : lg_cmp (lN (P * 12 ^ (j + 1))) (0 : Int64) = 0
      · have hP0 : P = 0 := by
          have h2 := (lN_0 (by omega)).mp (lg_0.mp hz)
          rcases Nat.mul_eq_zero.mp h2 with h3 | h3
          · exact h3
          · exact absurd h3 (Nat.ne_of_gt (Nat.pow_pos (by omega)))
        rw [ifp hz, hP0, Nat.zero_mul]
        rfl
      · have ht := twf_le (c := s 1) (L := s 2) (n := o + z) (r := r) hc11
        have hp12 : P * 12 ^ (j + 1) = P * 12 ^ j * 12 := by rw [Nat.pow_succ, Nat.mul_assoc]
        have hdiv : lN (P * 12 ^ (j + 1)) / (12 : Int64) = lN (P * 12 ^ j) := by
          rw [show (12 : Int64) = lN 12 from rfl, pk_lDiv (by omega) (by omega) (by omega), hp12, Nat.mul_div_cancel _ (by omega)]
        have m1 : P * 12 ^ j * twf (s 1) (s 2) (o + z) r = P * twf (s 1) (s 2) (o + z) r * 12 ^ j := by rw [Nat.mul_right_comm]
        have m2 : P * 12 ^ j * (12 - twf (s 1) (s 2) (o + z) r) = P * (12 - twf (s 1) (s 2) (o + z) r) * 12 ^ j := by rw [Nat.mul_right_comm]
        have b1 : P * 12 ^ j * twf (s 1) (s 2) (o + z) r ≤ P * 12 ^ j * 12 := Nat.mul_le_mul_left _ ht
        have b2 : P * 12 ^ j * (12 - twf (s 1) (s 2) (o + z) r) ≤ P * 12 ^ j * 12 := Nat.mul_le_mul_left _ (by omega)
        have t1 : (1 : Int32).toInt = 1 := rfl
        have s0 : (nI o - nI z).toInt = (o : Int) - z := pk_sub_toInt (by omega) (by omega)
        have s1 : (nI o - nI z) + 1 = nI (o + 1) - nI z := by
          rw [fa_eq, fb_addI (by omega) (by omega), s0, t1, pk_sub_toInt (by omega) (by omega)]
          omega
        have s2 : (nI o - nI z) - 1 = nI o - nI (z + 1) := by
          rw [fa_eq, fb_subI (by omega) (by omega), s0, t1, pk_sub_toInt (by omega) (by omega)]
          omega
        have i1 := ih N (o + 1) z (r + 1) e (P * twf (s 1) (s 2) (o + z) r) 1 (by omega) (by omega) (by omega) (by omega) (by omega) ⟨fun _ => ⟨by omega, by omega⟩, fun _ => rfl⟩ ⟨fun q => absurd q (by decide), fun q => by omega⟩
        have i2 := ih N o (z + 1) 0 e (P * (12 - twf (s 1) (s 2) (o + z) r)) 0 (by omega) (by omega) (by omega) (by omega) (by omega) ⟨fun q => absurd q (by decide), fun q => by omega⟩ ⟨fun _ => ⟨by omega, rfl⟩, fun _ => rfl⟩
        rw [ifn hz, m_tw hM hs (o + z) r ah ha1 ha0, ob, hdiv, nI_pred, s1, s2, nI_l (by omega), lN_mul, m1, i1, ob, show (12 : Int32) = nI 12 from rfl, pk_sub ht, nI_l (by omega), lN_mul, m2, i2, ob, lN_add, vv_go hE, Nat.mul_add, ← Nat.mul_assoc, ← Nat.mul_assoc, show o + 1 + z = o + z + 1 by omega, show o + (z + 1) = o + z + 1 by omega]
theorem m_trialL {n : Nat} (hn : n ≤ 10) {v2 v3 : Int32} {τ : Mm} : ∀ (N v : Nat), v ≤ n → n - v < N → fX6_trial_65 N (nI n) v2 v3 (lN (12 ^ v)) (nI v) τ = (fX6_triedBy 12 (nI n) (0 : Int32) v2 (-9 : Int32) (lN (12 ^ n)) τ).bind (fun q_2 => (fX6_part q_2 (lN (12 ^ n)) v3).bind (fun q_3 => some (q_3, τ))) := by
  intro N
  induction N with
  | zero => intro v _ h; omega
  | succ N ih =>
    intro v hv hN
    by_cases h8 : v = n
    · subst h8
      rw [fX6_trial_65, ifp (nI_le (Nat.le_refl _) (by omega))]
    · rw [fX6_trial_65, ifn (by rw [nI_leI (by omega) (by omega)]; omega), show (12 : Int64) = lN 12 from rfl, lN_mul, ← Nat.pow_succ, nI_1]
      exact ih (v + 1) (by omega) (by omega)
theorem G12 : lawG_12 Rel := by
  intro a0 a1 a2 σ τ hR
  have hRel := hR
  obtain ⟨s, g, im, tx, tn, rn, rb, rf, hV, hX, hT, hM⟩ := hR
  have r4 : ∀ (h : fX5_trial a0 a1 a2 σ = fX5_trial_10 σ) (h2 : fX6_trial a0 a1 a2 τ = fX6_trial_10 a0 a1 a2 τ), ∃ (r : Int64) (σ' : Mm) (τ' : Mm), fX5_trial a0 a1 a2 σ = some (r, σ') ∧ fX6_trial a0 a1 a2 τ = some (r, τ') ∧ Rel σ' τ' := fun h h2 =>
    ⟨4000000000000000004, _, _, by rw [h, fX5_trial_10, x_refL4, ob], by rw [h2, fX6_trial_10, fX6_trial_45, ifn (by decide), m_refL4, ob], Rel_ref 3 (by omega) hRel⟩
  have r6 : ∀ (h : fX5_trial a0 a1 a2 σ = fX5_trial_29 σ) (h2 : fX6_trial a0 a1 a2 τ = fX6_trial_27 a0 a1 a2 τ), ∃ (r : Int64) (σ' : Mm) (τ' : Mm), fX5_trial a0 a1 a2 σ = some (r, σ') ∧ fX6_trial a0 a1 a2 τ = some (r, τ') ∧ Rel σ' τ' := fun h h2 =>
    ⟨4000000000000000006, _, _, by rw [h, fX5_trial_29, x_refL6, ob], by rw [h2, fX6_trial_27, fX6_trial_45, ifn (by decide), m_refL6, ob], Rel_ref 5 (by omega) hRel⟩
  by_cases c1 : a0 < (1 : Int32)
  · exact r4 (by rw [fX5_trial, ifp c1]) (by rw [fX6_trial, ifp c1])
  by_cases c2' : ¬ (1 : Int32) ≤ a1
  · exact r4 (by rw [fX5_trial, ifn c1, ifn c2']) (by rw [fX6_trial, ifn c1, ifn c2'])
  have c2 : (1 : Int32) ≤ a1 := Decidable.not_not.mp c2'
  by_cases c3 : (10 : Int32) < a0
  · exact r6 (by rw [fX5_trial, ifn c1, ifp c2, ifp c3]) (by rw [fX6_trial, ifn c1, ifp c2, ifp c3])
  by_cases c4' : ¬ a1 ≤ (9 : Int32)
  · exact r6 (by rw [fX5_trial, ifn c1, ifp c2, ifn c3, ifn c4']) (by rw [fX6_trial, ifn c1, ifp c2, ifn c3, ifn c4'])
  have c4 : a1 ≤ (9 : Int32) := Decidable.not_not.mp c4'
  have e0 : (0 : Int32).toInt = 0 := rfl
  have e1 : (1 : Int32).toInt = 1 := rfl
  rcases two a2 with ⟨q1, q2⟩ | ⟨p, hp, rfl⟩
  · refine ⟨4000000000000000002, _, _, ?_, ?_, Rel_ref 1 (by omega) hRel⟩
    · rw [fX5_trial, ifn c1, ifp c2, ifn c3, ifp c4, x_nsb q1, ob, ifn (by decide), x_refL2, ob]
    · rw [fX6_trial, ifn c1, ifp c2, ifn c3, ifp c4, m_ipb q2, ob, ifp rfl, fX6_trial_45, ifn (by decide), m_refL2, ob]
  obtain ⟨n, hn, rfl⟩ := nI_le_of (M := 10) (x := a0) 10 rfl (by rw [fa_lt]; rw [fa_lt] at c1; omega) (le_of c3)
  obtain ⟨d, hd, rfl⟩ := nI_le_of (M := 9) (x := a1) 9 rfl (by rw [fa_lt]; rw [fa_le] at c2; omega) c4
  have hn1 : 1 ≤ n := by
    rw [fa_lt, nI_toInt (by omega)] at c1; omega
  have hd1 : 1 ≤ d := (nI_leI (a := 1) (b := d) (by omega) (by omega)).mp c2
  obtain ⟨u0, u1, u2, u3, u4, u5, u6, u7, u8, u9⟩ := hV.1
  obtain ⟨x1, x2, x3, x4, x5, x6, x7⟩ := hX.1
  obtain ⟨σ', ee, b1, b2, b3, b4, b5, b6⟩ := x_retell (i := 32) rfl (show 2 < 6 by omega) hd hn1 hn u2 u3 u4 hT
  have hs := x_sum (a := 10) (b := d) hn1 hn b4.2.2.1 b5 b6 (by omega) (by omega)
  obtain ⟨j, rfl⟩ : ∃ j, n = j + 1 := ⟨n - 1, by omega⟩
  obtain ⟨v, f1, f2⟩ := exv (byAll (k := 2) (f := d) (L := s 2) (μ := fun _ o z => xms 10 d o z) (ν := fun _ o z => xms 10 d o z) hn1 hn u3 hp (fun e o z q1 q2 => xms_le hn q1 q2) (fun e o z _ _ => rfl))
  have pw : ∀ P, P ≤ 12 → P * 12 ^ j ≤ 12 ^ 10 := by
    intro P hP
    have h1 : P * 12 ^ j ≤ 12 * 12 ^ j := Nat.mul_le_mul_right _ hP
    have h2 : 12 * 12 ^ j = 12 ^ (j + 1) := by rw [Nat.pow_succ, Nat.mul_comm]
    have h3 : 12 ^ (j + 1) ≤ 12 ^ 10 := Nat.pow_le_pow_right (by omega) (by omega)
    omega
  have hlt : 12 ^ (j + 1) ≤ 12 ^ 10 := Nat.pow_le_pow_right (by omega) hn
  have hgt : 0 < 12 ^ (j + 1) := Nat.pow_pos (by omega)
  have hz : ¬ lg_cmp (lN (12 ^ (j + 1))) (0 : Int64) = 0 := fun q => absurd ((lN_0 (by omega)).mp (lg_0.mp q)) (by omega)
  have htw := m_tw hM.1 hV.1 0 0 (-9) ⟨fun q => absurd q (by decide), fun q => absurd rfl q.1⟩ ⟨fun q => absurd q (by decide), fun q => absurd rfl q.1⟩
  have htwf : twf (s 1) (s 2) 0 0 = s 1 := by simp [twf]
  rw [htwf] at htw
  have hdiv : lN (12 ^ (j + 1)) / (12 : Int64) = lN (12 ^ j) := by
    rw [show (12 : Int64) = lN 12 from rfl, pk_lDiv (by omega) (by omega) (by omega), Nat.pow_succ, Nat.mul_div_cancel _ (by omega)]
  have i1 := m_tried hV.1 hn hd hM.1 j 11 1 0 1 1 (s 1) 1 (by omega) (by omega) (by omega) (by omega) (pw _ (by omega)) ⟨fun _ => ⟨by omega, by omega⟩, fun _ => rfl⟩ ⟨fun q => absurd q (by decide), fun q => by omega⟩
  have i2 := m_tried hV.1 hn hd hM.1 j 11 0 1 0 0 (12 - s 1) 0 (by omega) (by omega) (by omega) (by omega) (pw _ (by omega)) ⟨fun q => absurd q (by decide), fun q => by omega⟩ ⟨fun _ => ⟨by omega, rfl⟩, fun _ => rfl⟩
  have i1' : fX6_triedBy 11 (nI j) (0 + 1) (nI d) 1 (lN (s 1 * 12 ^ j)) τ = _ := i1
  have i2' : fX6_triedBy 11 (nI j) (0 - 1) (nI d) 0 (lN ((12 - s 1) * 12 ^ j)) τ = _ := i2
  have eT : fX6_triedBy 12 (nI (j + 1)) 0 (nI d) (-9) (lN (12 ^ (j + 1))) τ = some (lN (tot 2 d (j + 1) (s 1) (s 2) (j + 1 - 1) (fun _ o z => xms 10 d o z))) := by
    rw [fX6_triedBy, ifn (show ¬ (0 : Int32) = nI d from fun q => nI_ne0 (by omega) (by omega) q.symm), ifn (nI_ne0 (by omega) (by omega)), ifn hz, htw, ob, hdiv, nI_pred, nI_l (by omega), lN_mul, Nat.mul_comm (12 ^ j) (s 1), i1', ob, show (12 : Int32) = nI 12 from rfl, pk_sub (by omega), nI_l (by omega), lN_mul, Nat.mul_comm (12 ^ j) (12 - s 1), i2', ob, lN_add]
    rfl
  have eL := m_trialL (n := j + 1) hn (v2 := nI d) (v3 := nI p) (τ := τ) 1000 0 (by omega) (by omega)
  have eL' : fX6_trial_65 1000 (nI (j + 1)) (nI d) (nI p) 1 0 τ = _ := eL
  refine ⟨v, σ', τ, ?_, ?_, Rel_of hV (RX_same (fun a b h => b2.1 a b (by omega)) hX) b3 hM⟩
  · have b1' : fX1_retell 32 2 (nI d) (nI (j + 1)) (nI (s 1)) (nI (s 2) - 5) σ = some σ' := b1
    have hs' : fX1_sum 32 10 (nI d) σ' = _ := hs
    rw [fX5_trial, ifn c1, ifp c2, ifn c3, ifp c4, x_nso hp, ob, ifp rfl, x2, x3, b1', ob, hs', ob, f1, ob]
  · rw [fX6_trial, ifn c1, ifp c2, ifn c3, ifp c4, m_ipo hp, ob, ifn (by decide), fX6_trial_45, ifp rfl, eL', eT, ob, f2, ob]
