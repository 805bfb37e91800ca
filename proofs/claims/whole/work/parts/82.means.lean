/-! fractions of all families: mean, share, all, more, size, met -/
theorem two (x : Int32) : ((x < 0 ∨ 1 < x) ∧ (x < 0 ∨ (2 : Int32) ≤ x)) ∨ ∃ p : Nat, p ≤ 1 ∧ x = nI p := by
  by_cases h1 : x < 0
  · exact Or.inl ⟨Or.inl h1, Or.inl h1⟩
  · by_cases h2 : x ≤ 1
    · exact Or.inr (nI_le_of (M := 1) 1 rfl h1 h2)
    · refine Or.inl ⟨Or.inr (lt_of h2), Or.inr ?_⟩
      rw [fa_le] at h2 ⊢
      have e1 : (1 : Int32).toInt = 1 := rfl
      have e2 : (2 : Int32).toInt = 2 := rfl
      omega
theorem three (x : Int32) : ((x < 0 ∨ 2 < x) ∧ (x < 0 ∨ (3 : Int32) ≤ x)) ∨ ∃ p : Nat, p ≤ 2 ∧ x = nI p := by
  by_cases h1 : x < 0
  · exact Or.inl ⟨Or.inl h1, Or.inl h1⟩
  · by_cases h2 : x ≤ 2
    · exact Or.inr (nI_le_of (M := 2) 2 rfl h1 h2)
    · refine Or.inl ⟨Or.inr (lt_of h2), Or.inr ?_⟩
      rw [fa_le] at h2 ⊢
      have e1 : (2 : Int32).toInt = 2 := rfl
      have e2 : (3 : Int32).toInt = 3 := rfl
      omega
theorem x_nsb {x : Int32} (h : x < 0 ∨ 1 < x) : fX5_isNoBit x = some 1 := by rw [x_noSort, ifp h]
theorem x_nso {p : Nat} (h : p ≤ 1) : fX5_isNoBit (nI p) = some 0 := by
  rw [x_noSort, ifn]
  rintro (q | q)
  · exact nI_pos (by omega) q
  · exact nI_nlt (a := 1) (b := p) h (by omega) q
theorem m_ii0 {x n : Int32} (h : x < 0 ∨ n ≤ x) : fX6_isIn x n = some 0 := by rw [m_isIn, ifp h]
theorem m_iio {p n : Nat} (h : p < n) (hn : n < 2 ^ 31) : fX6_isIn (nI p) (nI n) = some 1 := by
  rw [m_isIn, ifn]
  rintro (q | q)
  · exact nI_pos (by omega) q
  · exact nI_ge h hn q
theorem m_ipb {x : Int32} (h : x < 0 ∨ (2 : Int32) ≤ x) : fX6_isPart x = some 0 := by
  rw [fX6_isPart, m_ii0 h, ob]
  rfl
theorem m_ipo {p : Nat} (h : p ≤ 1) : fX6_isPart (nI p) = some 1 := by
  have e : fX6_isIn (nI p) 2 = some 1 := m_iio (n := 2) (by omega) (by omega)
  rw [fX6_isPart, e, ob]
  rfl
theorem RX_same {σ σ' : Mm} {s g tx rf : Nat → Nat} {im : Bool} {tn rn rb : Nat} (h : ∀ a b, a < 14 → gI σ' a b = gI σ a b) (hX : RX σ s g im tx tn rn rb rf) : RX σ' s g im tx tn rn rb rf := by
  obtain ⟨x1, x2, x3, x4, x5, x6, x7, x8⟩ := hX
  exact ⟨TO_same x1 (fun b => h _ b (by omega)) (fun b => h _ b (by omega)) (fun b => h _ b (by omega)), by rw [h _ _ (by omega)]; exact x2, fun q => TO_same (x3 q) (fun b => h _ b (by omega)) (fun b => h _ b (by omega)) (fun b => h _ b (by omega)), by rw [h _ _ (by omega)]; exact x4, fun k hk => by rw [h _ _ (by omega)]; exact x5 k hk, by rw [h _ _ (by omega)]; exact x6, by rw [h _ _ (by omega)]; exact x7, fun k hk => by rw [h _ _ (by omega)]; exact x8 k hk⟩
theorem RM_1 {τ τ' : Mm} {s g tx rf : Nat → Nat} {im : Bool} {tn rn rb : Nat} (h : τ'.1 = τ.1) (hM : RM τ s g im tx tn rn rb rf) : RM τ' s g im tx tn rn rb rf := by
  have e : gI τ' = gI τ := by funext a b; exact gI_1 h a b
  unfold RM MO at hM ⊢
  rw [e]
  exact hM
section TT
variable {k f m c L : Nat} {μ ν : Nat → Nat → Nat → Nat}
theorem tot_le2 {B : Nat} (hm1 : 1 ≤ m) (hc : c ≤ 11) {j : Nat} (hj : m ≤ j + 1) (hB : ∀ e o z, 1 ≤ o + z → o + z ≤ m → μ e o z ≤ B) : tot k f m c L j μ ≤ B * 12 ^ (j + 1) := by
  rw [tot_congr (ν := fun e o z => if 1 ≤ o + z ∧ o + z ≤ m then μ e o z else 0) hm1 hj (fun e o z h1 h2 => (ifp (show 1 ≤ o + z ∧ o + z ≤ m from ⟨h1, h2⟩) _ _).symm)]
  refine tot_le hc (fun e o z => ?_)
  by_cases h : 1 ≤ o + z ∧ o + z ≤ m
  · rw [ifp h]; exact hB e o z h.1 h.2
  · rw [ifn h]; omega
theorem tot_ge (hm1 : 1 ≤ m) (hc : c ≤ 11) {j : Nat} (hj : m ≤ j + 1) (hB : ∀ e o z, 1 ≤ o + z → o + z ≤ m → 1 ≤ μ e o z) : 12 ^ (j + 1) ≤ tot k f m c L j μ := by
  have h1 : tot k f m c L j μ = tot k f m c L j (fun e o z => 1 + (μ e o z - 1)) := tot_congr hm1 hj (fun e o z h1 h2 => by have := hB e o z h1 h2; omega)
  rw [h1, tot_add (μ := fun _ _ _ => 1) (ν := fun e o z => μ e o z - 1), tot_one hc]
  omega
/-- the class's scale, and the reference's -/
theorem tot_two (hm1 : 1 ≤ m) (hm : m ≤ 10) (h : ∀ e o z, 1 ≤ o + z → o + z ≤ m → μ e o z = ν e o z) : tot k f m c L 9 μ = tot k f m c L (m - 1) ν * 12 ^ (10 - m) := by
  rw [tot_congr hm1 (by omega) h, show 9 = (m - 1) + (10 - m) by omega, tot_shift hm1 (by omega)]
end TT
theorem frac2 {N9 D9 N D C p : Nat} (h1 : N9 = N * C) (h2 : D9 = D * C) (hC : 0 < C) (hD : 0 < D) (b1 : N9 < 2 ^ 63) (b2 : D9 < 2 ^ 63) (hp : p ≤ 1) : fX5_fraction (lN N9) (lN D9) (nI p) = some (lN (fr N D p)) ∧ fX6_part (lN N) (lN D) (nI p) = some (lN (fr N D p)) := by
  have n1 : N ≤ N9 := by rw [h1]; exact Nat.le_mul_of_pos_right _ hC
  have n2 : D ≤ D9 := by rw [h2]; exact Nat.le_mul_of_pos_right _ hC
  refine ⟨?_, m_frac (by omega) (by omega) hD hp⟩
  rw [x_frac b1 b2 (by omega) hp, h1, h2, Nat.mul_comm N, Nat.mul_comm D, fr_scale hC]
/-- the tally that a call asks for -/
theorem x_tallyOf {σ : Mm} {s : Nat → Nat} (hs : Vs s) (hTO : TO σ 1 s) (hT : RT σ) {k : Nat} (hk : k < 6) :
    ∃ (σ' : Mm) (ee : Nat → Nat), fX5_tallyOf (nI k) σ = some (14 + 3 * k, σ') ∧ isTal (14 + 3 * k) = true ∧ TD σ σ' (14 + 3 * k) ∧ RT σ' ∧ PR σ' (14 + 3 * k) k (s 4) (s 0) (s 1) (s 2) ∧ Cel σ' (14 + 3 * k + 1) ee ∧ talOK k (s 4) (s 0) (s 1) (s 2) ee := by
  obtain ⟨u0, u1, u2, u3, u4, u5, u6, u7, u8, u9⟩ := hs
  obtain ⟨x1, x2, x3, x4, x5, x6, x7⟩ := hTO
  have hi : isTal (14 + 3 * k) = true := by rw [tal_iff]; omega
  obtain ⟨σ', ee, a1, a2, a3, a4, a5, a6⟩ := x_retell hi hk u7 u0 u1 u2 u3 u4 hT
  refine ⟨σ', ee, ?_, hi, a2, a3, a4, a5, a6⟩
  rw [fX5_tallyOf, ifn (nI_pos (by omega)), ifn (ge6 hk), ifp (ci_nI hk (by omega)), nI_cl (by omega), x1, x2, x3, x5, a1, ob]
theorem x_now {σ : Mm} {s : Nat → Nat} (hs : Vs s) (hTO : TO σ 1 s) (hT : RT σ) :
    ∃ (i : Nat) (σ' : Mm) (ee : Nat → Nat), fX5_tallyNow σ = some (i, σ') ∧ isTal i = true ∧ (∀ a b, a < 14 → gI σ' a b = gI σ a b) ∧ RT σ' ∧ gI σ' i 4 = nI (s 0) ∧ Cel σ' (i + 1) ee ∧ talOK (s 3) (s 4) (s 0) (s 1) (s 2) ee := by
  have hk : s 3 < 6 := hs.2.2.2.2.2.1
  obtain ⟨σ', ee, a1, a2, a3, a4, a5, a6, a7⟩ := x_tallyOf hs hTO hT hk
  refine ⟨14 + 3 * s 3, σ', ee, ?_, a2, fun a b h => a3.1 a b (by omega), a4, a5.2.2.1, a6, a7⟩
  rw [fX5_tallyNow, hTO.2.2.2.1, a1, ob, ifp a2]
theorem c1210 : (61917364224 : Int64) = lN (12 ^ 10) := by decide +kernel
theorem c2520 : (156031757844480 : Int64) = lN (2520 * 12 ^ 10) := by decide +kernel
theorem xms_le {a b o z m : Nat} (hm : m ≤ 10) (h1 : 1 ≤ o + z) (h2 : o + z ≤ m) : xms a b o z ≤ 2520 := by
  have h3 : o * (2520 / (o + z)) ≤ 2520 := by
    have q1 : o * (2520 / (o + z)) ≤ (o + z) * (2520 / (o + z)) := Nat.mul_le_mul_right _ (by omega)
    have q2 := Nat.mul_div_le 2520 (o + z)
    omega
  unfold xms
  split
  all_goals first | omega | (split <;> omega)
section MEANS
variable {s g tx rf : Nat → Nat} {im : Bool} {tn rn rb : Nat} {σ τ : Mm}
/-- all that a fraction's call needs of both -/
theorem both (hV : VV s g im tx tn rn rb) (hX : RX σ s g im tx tn rn rb rf) (hT : RT σ) (hM : RM τ s g im tx tn rn rb rf) :
    ∃ (i : Nat) (σ' τ' : Mm) (ee : Nat → Nat), fX5_tallyNow σ = some (i, σ') ∧ isTal i = true ∧ fX6_finds (nI (s 3)) τ = some τ' ∧ Rel σ' τ' ∧ gI σ' i 4 = nI (s 0) ∧ Cel σ' (i + 1) ee ∧ talOK (s 3) (s 4) (s 0) (s 1) (s 2) ee ∧
      (∀ a b, a ≤ 10 → b ≤ 10 → fX1_sum i (nI a) (nI b) σ' = some (lN (tot (s 3) (s 4) (s 0) (s 1) (s 2) 9 (fun _ o z => xms a b o z)))) ∧ gL τ' 0 9 = lN (12 ^ s 0) ∧
      (∀ q, 10 ≤ q → q ≤ 30 → q ≠ 19 → gq τ' q = lN (tot (s 3) (s 4) (s 0) (s 1) (s 2) (s 0 - 1) (ym (gI τ 0 20) (gI τ 0 21) (gI τ 0 22) q))) := by
  obtain ⟨i, σ', ee, a1, a2, a3, a4, a5, a6, a7⟩ := x_now hV.1 hX.1 hT
  obtain ⟨τ', b1, b2, b3, b4⟩ := m_finds (S := gI τ 0 20) (A := gI τ 0 21) (B := gI τ 0 22) hV.1 hV.1.2.2.2.2.2.1 hM.1 rfl rfl rfl
  exact ⟨i, σ', τ', ee, a1, a2, b1, Rel_of hV (RX_same a3 hX) a4 (RM_1 b2 hM), a5, a6, a7, fun a b ha hb => x_sum hV.1.1 hV.1.2.1 a5 a6 a7 ha hb, b3, b4⟩
end MEANS
theorem pw_eq {m : Nat} (hm : m ≤ 10) : 12 ^ 10 = 12 ^ m * 12 ^ (10 - m) := by rw [← Nat.pow_add, show m + (10 - m) = 10 by omega]
theorem pw_pos (m : Nat) : 0 < 12 ^ m := Nat.pow_pos (by omega)
/-- a measure by the number of all families: the class, the reference -/
theorem byAll {k f m c L : Nat} {μ ν : Nat → Nat → Nat → Nat} {p : Nat} (hm1 : 1 ≤ m) (hm : m ≤ 10) (hc : c ≤ 11) (hp : p ≤ 1) (hB : ∀ e o z, 1 ≤ o + z → o + z ≤ m → μ e o z ≤ 2520) (h : ∀ e o z, 1 ≤ o + z → o + z ≤ m → μ e o z = ν e o z) :
    fX5_fraction (lN (tot k f m c L 9 μ)) (61917364224 : Int64) (nI p) = some (lN (fr (tot k f m c L (m - 1) ν) (12 ^ m) p)) ∧ fX6_part (lN (tot k f m c L (m - 1) ν)) (lN (12 ^ m)) (nI p) = some (lN (fr (tot k f m c L (m - 1) ν) (12 ^ m) p)) := by
  have b1 := tot_le2 (k := k) (f := f) (L := L) hm1 hc (j := 9) (by omega) hB
  rw [c1210]
  exact frac2 (tot_two hm1 hm h) (pw_eq hm) (pw_pos _) (pw_pos _) (by omega) (by omega) hp
/-- a measure by the number of all children -/
theorem byKids {k f m c L : Nat} {μ ν : Nat → Nat → Nat → Nat} {S A B : Int32} {p : Nat} (hm1 : 1 ≤ m) (hm : m ≤ 10) (hc : c ≤ 11) (hp : p ≤ 1) (hB : ∀ e o z, 1 ≤ o + z → o + z ≤ m → μ e o z ≤ 2520) (h : ∀ e o z, 1 ≤ o + z → o + z ≤ m → μ e o z = ν e o z) :
    fX5_fraction (lN (tot k f m c L 9 μ)) (lN (tot k f m c L 9 (fun _ o z => xms 0 0 o z))) (nI p) = some (lN (fr (tot k f m c L (m - 1) ν) (tot k f m c L (m - 1) (ym S A B 10)) p)) ∧ fX6_part (lN (tot k f m c L (m - 1) ν)) (lN (tot k f m c L (m - 1) (ym S A B 10))) (nI p) = some (lN (fr (tot k f m c L (m - 1) ν) (tot k f m c L (m - 1) (ym S A B 10)) p)) := by
  have b1 := tot_le2 (k := k) (f := f) (L := L) hm1 hc (j := 9) (by omega) hB
  have b2 := tot_le2 (k := k) (f := f) (L := L) (μ := fun _ o z => xms 0 0 o z) hm1 hc (j := 9) (by omega) (fun e o z q1 q2 => xms_le hm q1 q2)
  have b3 := tot_ge (k := k) (f := f) (L := L) (μ := ym S A B 10) hm1 hc (j := m - 1) (by omega) (fun e o z q1 q2 => q1)
  have b4 := pw_pos (m - 1 + 1)
  exact frac2 (tot_two hm1 hm h) (tot_two hm1 hm (fun e o z _ _ => rfl)) (pw_pos _) (by omega) (by omega) (by omega) hp
theorem exv {a b : Option Int64} {v : Int64} (h : a = some v ∧ b = some v) : ∃ v, a = some v ∧ b = some v := ⟨v, h⟩
theorem G5 : lawG_5 Rel := by
  intro a0 a1 σ τ hR
  have hRel := hR
  obtain ⟨s, g, im, tx, tn, rn, rb, rf, hV, hX, hT, hM⟩ := hR
  have bad : ∀ (h : fX5_mean a0 a1 σ = fX5_mean_16 σ) (h2 : fX6_mean a0 a1 τ = fX6_mean_15 τ), ∃ (r : Int64) (σ' : Mm) (τ' : Mm), fX5_mean a0 a1 σ = some (r, σ') ∧ fX6_mean a0 a1 τ = some (r, τ') ∧ Rel σ' τ' := fun h h2 =>
    ⟨4000000000000000002, _, _, by rw [h, fX5_mean_16, x_refL2, ob], by rw [h2, fX6_mean_15, m_refL2, ob], Rel_ref 1 (by omega) hRel⟩
  rcases three a0 with ⟨h1, h2⟩ | ⟨w, hw, rfl⟩
  · refine bad ?_ ?_
    · rw [fX5_mean]
      by_cases q : a0 < 0
      · rw [ifp q]
      · rw [ifn q, ifp (h1.resolve_left q)]
    · rw [fX6_mean, m_ii0 h2, ob, ifp rfl]
  · have n0 : ¬ nI w < 0 := nI_pos (by omega)
    have n2 : ¬ (2 : Int32) < nI w := nI_nlt (a := 2) (b := w) hw (by omega)
    have i3 : fX6_isIn (nI w) 3 = some 1 := m_iio (n := 3) (by omega) (by omega)
    rcases two a1 with ⟨h1, h2⟩ | ⟨p, hp, rfl⟩
    · refine bad ?_ ?_
      · rw [fX5_mean, ifn n0, ifn n2, x_nsb h1, ob, ifn (by decide)]
      · rw [fX6_mean, i3, ob, ifn (by decide), m_ipb h2, ob, ifp rfl]
    · obtain ⟨i, σ', τ', ee, c1, c2, c3, c4, c5, c6, c7, c8, c9, c10⟩ := both hV hX hT hM
      have hm1 := hV.1.1
      have hm := hV.1.2.1
      have hc := hV.1.2.2.2.1
      have eX : fX5_mean (nI w) (nI p) σ = (fX1_sum i (nI w) 0 σ').bind (fun q_7 => (fX5_fraction q_7 (61917364224 : Int64) (nI p)).bind (fun q_8 => some (q_8, σ'))) := by
        rw [fX5_mean, ifn n0, ifn n2, x_nso hp, ob, ifp rfl, c1, ob, ifp c2]
      have eM : fX6_mean (nI w) (nI p) τ = (if nI w = 0 then fX6_mean_64 (nI p) (gL τ' 0 10) τ' else (if nI w = (1 : Int32) then fX6_mean_64 (nI p) (gL τ' 0 11) τ' else fX6_mean_64 (nI p) ((gL τ' 0 10) - (gL τ' 0 11)) τ')) := by
        rw [fX6_mean, i3, ob, ifn (by decide), m_ipo hp, ob, ifn (by decide), ifp (by decide), show (3 : Int32).toNatClampNeg = 3 from rfl, hM.1.2.2.2.1, c3, ob]
      have hs := c8 w 0 (by omega) (by omega)
      have hs' : fX1_sum i (nI w) 0 σ' = _ := hs
      have g10 : gL τ' 0 10 = _ := c10 10 (by omega) (by omega) (by omega)
      have g11 : gL τ' 0 11 = _ := c10 11 (by omega) (by omega) (by omega)
      have hB : ∀ (e : Nat) o z, 1 ≤ o + z → o + z ≤ s 0 → xms w 0 o z ≤ 2520 := fun e o z q1 q2 => xms_le hm q1 q2
      have key : ∀ (ν : Nat → Nat → Nat → Nat) (x : Int64), x = lN (tot (s 3) (s 4) (s 0) (s 1) (s 2) (s 0 - 1) ν) → (∀ (e : Nat) o z, 1 ≤ o + z → o + z ≤ s 0 → xms w 0 o z = ν e o z) → fX6_mean (nI w) (nI p) τ = fX6_mean_64 (nI p) x τ' → ∃ (r : Int64) (σ' : Mm) (τ' : Mm), fX5_mean (nI w) (nI p) σ = some (r, σ') ∧ fX6_mean (nI w) (nI p) τ = some (r, τ') ∧ Rel σ' τ' := by
        intro ν x hx hxy hm64
        obtain ⟨v, f1, f2⟩ := exv (byAll (k := s 3) (f := s 4) (L := s 2) hm1 hm hc hp hB hxy)
        refine ⟨v, σ', τ', ?_, ?_, c4⟩
        · rw [eX, hs', ob, f1, ob]
        · rw [hm64, fX6_mean_64, c9, hx, f2, ob]
      rcases (show w = 0 ∨ w = 1 ∨ w = 2 by omega) with rfl | rfl | rfl
      · exact key _ _ g10 (fun e o z _ _ => rfl) (by rw [eM, ifp (show nI 0 = 0 from rfl)])
      · exact key _ _ g11 (fun e o z _ _ => rfl) (by rw [eM, ifn (by decide), ifp (show nI 1 = 1 from rfl)])
      · refine key (fun _ _ z => z) _ ?_ (fun e o z _ _ => rfl) (by rw [eM, ifn (by decide), ifn (by decide)])
        have h1 : tot (s 3) (s 4) (s 0) (s 1) (s 2) (s 0 - 1) (ym (gI τ 0 20) (gI τ 0 21) (gI τ 0 22) 10) = tot (s 3) (s 4) (s 0) (s 1) (s 2) (s 0 - 1) (ym (gI τ 0 20) (gI τ 0 21) (gI τ 0 22) 11) + tot (s 3) (s 4) (s 0) (s 1) (s 2) (s 0 - 1) (fun _ _ z => z) := by
          rw [← tot_add]
          exact tot_congr hm1 (by omega) (fun e o z _ _ => rfl)
        rw [g10, g11, lN_sub (by omega), h1, Nat.add_sub_cancel_left]
theorem G6 : lawG_6 Rel := by
  intro a0 σ τ hR
  have hRel := hR
  obtain ⟨s, g, im, tx, tn, rn, rb, rf, hV, hX, hT, hM⟩ := hR
  rcases two a0 with ⟨h1, h2⟩ | ⟨p, hp, rfl⟩
  · refine ⟨4000000000000000002, _, _, ?_, ?_, Rel_ref 1 (by omega) hRel⟩
    · rw [fX5_share, x_nsb h1, ob, ifn (by decide), x_refL2, ob]
    · rw [fX6_share, m_ipb h2, ob, ifp rfl, m_refL2, ob]
  · obtain ⟨i, σ', τ', ee, c1, c2, c3, c4, c5, c6, c7, c8, c9, c10⟩ := both hV hX hT hM
    have hm1 := hV.1.1
    have hm := hV.1.2.1
    have hc := hV.1.2.2.2.1
    have hs : fX1_sum i 6 0 σ' = _ := c8 6 0 (by omega) (by omega)
    have g12 : gL τ' 0 12 = _ := c10 12 (by omega) (by omega) (by omega)
    have b1 := tot_le2 (k := s 3) (f := s 4) (L := s 2) (μ := fun _ o z => xms 6 0 o z) hm1 hc (j := 9) (by omega) (fun e o z q1 q2 => xms_le hm q1 q2)
    have h1 : tot (s 3) (s 4) (s 0) (s 1) (s 2) 9 (fun _ o z => xms 6 0 o z) = tot (s 3) (s 4) (s 0) (s 1) (s 2) (s 0 - 1) (ym (gI τ 0 20) (gI τ 0 21) (gI τ 0 22) 12) * 12 ^ (10 - s 0) := tot_two hm1 hm (fun e o z q1 _ => by
      show (if o + z = 0 then 0 else o * (2520 / (o + z))) = 2520 / (o + z) * o
      rw [ifn (by omega), Nat.mul_comm])
    have pp := pw_pos (s 0)
    obtain ⟨v, f1, f2⟩ := exv (frac2 (p := p) (D9 := 2520 * 12 ^ 10) (D := 12 ^ s 0 * 2520) h1 (by rw [pw_eq hm, ← Nat.mul_assoc, Nat.mul_comm 2520]) (pw_pos _) (by omega) (by omega) (by omega) hp)
    refine ⟨v, σ', τ', ?_, ?_, c4⟩
    · rw [fX5_share, x_nso hp, ob, ifp rfl, c1, ob, ifp c2, hs, ob, c2520, f1, ob]
    · rw [fX6_share, m_ipo hp, ob, ifn (by decide), ifp (by decide), show (3 : Int32).toNatClampNeg = 3 from rfl, hM.1.2.2.2.1, c3, ob, g12, c9, show (2520 : Int64) = lN 2520 from rfl, lN_mul, f2, ob]
theorem G7 : lawG_7 Rel := by
  intro a0 σ τ hR
  have hRel := hR
  obtain ⟨s, g, im, tx, tn, rn, rb, rf, hV, hX, hT, hM⟩ := hR
  rcases two a0 with ⟨h1, h2⟩ | ⟨p, hp, rfl⟩
  · refine ⟨4000000000000000002, _, _, ?_, ?_, Rel_ref 1 (by omega) hRel⟩
    · rw [fX5_all, x_nsb h1, ob, ifn (by decide), x_refL2, ob]
    · rw [fX6_all, m_ipb h2, ob, ifp rfl, m_refL2, ob]
  · obtain ⟨i, σ', τ', ee, c1, c2, c3, c4, c5, c6, c7, c8, c9, c10⟩ := both hV hX hT hM
    have hm1 := hV.1.1
    have hm := hV.1.2.1
    have hc := hV.1.2.2.2.1
    have hs1 : fX1_sum i 1 0 σ' = _ := c8 1 0 (by omega) (by omega)
    have hs0 : fX1_sum i 0 0 σ' = _ := c8 0 0 (by omega) (by omega)
    have g11 : gL τ' 0 11 = _ := c10 11 (by omega) (by omega) (by omega)
    have g10 : gL τ' 0 10 = _ := c10 10 (by omega) (by omega) (by omega)
    obtain ⟨v, f1, f2⟩ := exv (byKids (k := s 3) (f := s 4) (L := s 2) (S := gI τ 0 20) (A := gI τ 0 21) (B := gI τ 0 22) (μ := fun _ o z => xms 1 0 o z) (ν := ym (gI τ 0 20) (gI τ 0 21) (gI τ 0 22) 11) hm1 hm hc hp (fun e o z q1 q2 => xms_le hm q1 q2) (fun e o z _ _ => rfl))
    refine ⟨v, σ', τ', ?_, ?_, c4⟩
    · rw [fX5_all, x_nso hp, ob, ifp rfl, c1, ob, ifp c2, hs1, ob, hs0, ob, f1, ob]
    · rw [fX6_all, m_ipo hp, ob, ifn (by decide), ifp (by decide), show (3 : Int32).toNatClampNeg = 3 from rfl, hM.1.2.2.2.1, c3, ob, g11, g10, f2, ob]
theorem G8 : lawG_8 Rel := by
  intro a0 a1 σ τ hR
  have hRel := hR
  obtain ⟨s, g, im, tx, tn, rn, rb, rf, hV, hX, hT, hM⟩ := hR
  have bad : ∀ (h : fX5_more a0 a1 σ = fX5_more_16 σ) (h2 : fX6_more a0 a1 τ = fX6_more_15 τ), ∃ (r : Int64) (σ' : Mm) (τ' : Mm), fX5_more a0 a1 σ = some (r, σ') ∧ fX6_more a0 a1 τ = some (r, τ') ∧ Rel σ' τ' := fun h h2 =>
    ⟨4000000000000000002, _, _, by rw [h, fX5_more_16, x_refL2, ob], by rw [h2, fX6_more_15, m_refL2, ob], Rel_ref 1 (by omega) hRel⟩
  rcases three a0 with ⟨h1, h2⟩ | ⟨w, hw, rfl⟩
  · refine bad ?_ ?_
    · rw [fX5_more]
      by_cases q : a0 < 0
      · rw [ifp q]
      · rw [ifn q, ifp (h1.resolve_left q)]
    · rw [fX6_more, m_ii0 h2, ob, ifp rfl]
  · have n0 : ¬ nI w < 0 := nI_pos (by omega)
    have n2 : ¬ (2 : Int32) < nI w := nI_nlt (a := 2) (b := w) hw (by omega)
    have i3 : fX6_isIn (nI w) 3 = some 1 := m_iio (n := 3) (by omega) (by omega)
    rcases two a1 with ⟨h1, h2⟩ | ⟨p, hp, rfl⟩
    · refine bad ?_ ?_
      · rw [fX5_more, ifn n0, ifn n2, x_nsb h1, ob, ifn (by decide)]
      · rw [fX6_more, i3, ob, ifn (by decide), m_ipb h2, ob, ifp rfl]
    · obtain ⟨i, σ', τ', ee, c1, c2, c3, c4, c5, c6, c7, c8, c9, c10⟩ := both hV hX hT hM
      have hm1 := hV.1.1
      have hm := hV.1.2.1
      have hc := hV.1.2.2.2.1
      have eX : fX5_more (nI w) (nI p) σ = (fX1_sum i (nI (3 + w)) 0 σ').bind (fun q_7 => (fX5_fraction q_7 (61917364224 : Int64) (nI p)).bind (fun q_8 => some (q_8, σ'))) := by
        rw [fX5_more, ifn n0, ifn n2, x_nso hp, ob, ifp rfl, c1, ob, ifp c2, show (3 : Int32) = nI 3 from rfl, nI_add]
      have eM : fX6_more (nI w) (nI p) τ = (if nI w = 0 then fX6_more_69 (nI p) (gL τ' 0 13) τ' else (if nI w = (1 : Int32) then fX6_more_69 (nI p) (gL τ' 0 14) τ' else fX6_more_69 (nI p) (((gL τ' 0 9) - (gL τ' 0 13)) - (gL τ' 0 14)) τ')) := by
        rw [fX6_more, i3, ob, ifn (by decide), m_ipo hp, ob, ifn (by decide), ifp (by decide), show (3 : Int32).toNatClampNeg = 3 from rfl, hM.1.2.2.2.1, c3, ob]
      have hs : fX1_sum i (nI (3 + w)) 0 σ' = _ := c8 (3 + w) 0 (by omega) (by omega)
      have g13 : gL τ' 0 13 = _ := c10 13 (by omega) (by omega) (by omega)
      have g14 : gL τ' 0 14 = _ := c10 14 (by omega) (by omega) (by omega)
      have hB : ∀ (e : Nat) o z, 1 ≤ o + z → o + z ≤ s 0 → xms (3 + w) 0 o z ≤ 2520 := fun e o z q1 q2 => xms_le hm q1 q2
      have key : ∀ (ν : Nat → Nat → Nat → Nat) (x : Int64), x = lN (tot (s 3) (s 4) (s 0) (s 1) (s 2) (s 0 - 1) ν) → (∀ (e : Nat) o z, 1 ≤ o + z → o + z ≤ s 0 → xms (3 + w) 0 o z = ν e o z) → fX6_more (nI w) (nI p) τ = fX6_more_69 (nI p) x τ' → ∃ (r : Int64) (σ' : Mm) (τ' : Mm), fX5_more (nI w) (nI p) σ = some (r, σ') ∧ fX6_more (nI w) (nI p) τ = some (r, τ') ∧ Rel σ' τ' := by
        intro ν x hx hxy hm64
        obtain ⟨v, f1, f2⟩ := exv (byAll (k := s 3) (f := s 4) (L := s 2) hm1 hm hc hp hB hxy)
        refine ⟨v, σ', τ', ?_, ?_, c4⟩
        · rw [eX, hs, ob, f1, ob]
        · rw [hm64, fX6_more_69, c9, hx, f2, ob]
      rcases (show w = 0 ∨ w = 1 ∨ w = 2 by omega) with rfl | rfl | rfl
      · exact key _ _ g13 (fun e o z _ _ => rfl) (by rw [eM, ifp (show nI 0 = 0 from rfl)])
      · exact key _ _ g14 (fun e o z _ _ => rfl) (by rw [eM, ifn (by decide), ifp (show nI 1 = 1 from rfl)])
      · refine key (fun _ o z => if z ≤ o then 0 else 1) _ ?_ (fun e o z _ _ => rfl) (by rw [eM, ifn (by decide), ifn (by decide)])
        have h1 : tot (s 3) (s 4) (s 0) (s 1) (s 2) (s 0 - 1) (fun _ _ _ => 1) = tot (s 3) (s 4) (s 0) (s 1) (s 2) (s 0 - 1) (ym (gI τ 0 20) (gI τ 0 21) (gI τ 0 22) 13) + tot (s 3) (s 4) (s 0) (s 1) (s 2) (s 0 - 1) (fun e o z => (if o = z then 1 else 0) + (if z ≤ o then 0 else 1)) := by
          rw [← tot_add]
          refine tot_congr hm1 (by omega) (fun e o z _ _ => ?_)
          show 1 = (if o ≤ z then 0 else 1) + ((if o = z then 1 else 0) + (if z ≤ o then 0 else 1))
          split <;> split <;> split <;> omega
        have h2 : tot (s 3) (s 4) (s 0) (s 1) (s 2) (s 0 - 1) (fun e o z => (if o = z then 1 else 0) + (if z ≤ o then 0 else 1)) = tot (s 3) (s 4) (s 0) (s 1) (s 2) (s 0 - 1) (ym (gI τ 0 20) (gI τ 0 21) (gI τ 0 22) 14) + tot (s 3) (s 4) (s 0) (s 1) (s 2) (s 0 - 1) (fun _ o z => if z ≤ o then 0 else 1) := by
          rw [← tot_add]
          exact tot_congr hm1 (by omega) (fun e o z _ _ => rfl)
        rw [tot_one hc, show s 0 - 1 + 1 = s 0 by omega, h2] at h1
        rw [c9, g13, g14, lN_sub (by omega), lN_sub (by omega)]
        congr 1
        omega
theorem G9 : lawG_9 Rel := by
  intro a0 a1 σ τ hR
  have hRel := hR
  obtain ⟨s, g, im, tx, tn, rn, rb, rf, hV, hX, hT, hM⟩ := hR
  by_cases h1 : (1 : Int32) ≤ a0
  · by_cases h2 : a0 ≤ (10 : Int32)
    · obtain ⟨n, hn, rfl⟩ := nI_le_of (M := 10) (x := a0) 10 rfl (by rw [fa_lt]; rw [fa_le] at h1; have e1 : (1 : Int32).toInt = 1 := rfl; have e2 : (0 : Int32).toInt = 0 := rfl; omega) h2
      have hn1 : 1 ≤ n := (nI_leI (a := 1) (b := n) (by omega) (by omega)).mp h1
      rcases two a1 with ⟨q1, q2⟩ | ⟨p, hp, rfl⟩
      · refine ⟨4000000000000000002, _, _, ?_, ?_, Rel_ref 1 (by omega) hRel⟩
        · rw [fX5_size, ifp h1, ifp h2, x_nsb q1, ob, ifn (by decide), x_refL2, ob]
        · rw [fX6_size, m_within, ob, ifn (nle h1), ifn (nle h2), ifp rfl, m_ipb q2, ob, ifp rfl, fX6_size_22, ifn (by decide), m_refL2, ob]
      · obtain ⟨i, σ', τ', ee, c1, c2, c3, c4, c5, c6, c7, c8, c9, c10⟩ := both hV hX hT hM
        have hm1 := hV.1.1
        have hm := hV.1.2.1
        have hc := hV.1.2.2.2.1
        have hs : fX1_sum i 7 (nI n) σ' = _ := c8 7 n (by omega) hn
        have hgq : gq τ' (20 + n) = gL τ' 7 n := by
          unfold gq
          rw [ifn (by omega), Nat.add_sub_cancel_left]
        have g7 := c10 (20 + n) (by omega) (by omega) (by omega)
        rw [hgq] at g7
        have hy : ∀ (S A B : Int32) (e o z : Nat), ym S A B (20 + n) e o z = if 20 + n = 20 + (o + z) then 1 else 0 := by
          intro S A B e o z
          unfold ym
          rw [ifn (by omega), ifn (by omega), ifn (by omega), ifn (by omega), ifn (by omega), ifn (by omega), ifn (by omega), ifn (by omega), ifn (by omega)]
        obtain ⟨v, f1, f2⟩ := exv (byAll (k := s 3) (f := s 4) (L := s 2) (μ := fun _ o z => xms 7 n o z) (ν := ym (gI τ 0 20) (gI τ 0 21) (gI τ 0 22) (20 + n)) hm1 hm hc hp (fun e o z q1 q2 => xms_le hm q1 q2) (fun e o z _ _ => by
          show (if o + z = n then 1 else 0) = _
          rw [hy]
          by_cases q : o + z = n
          · rw [ifp q, ifp (by omega)]
          · rw [ifn q, ifn (by omega)]))
        refine ⟨v, σ', τ', ?_, ?_, c4⟩
        · rw [fX5_size, ifp h1, ifp h2, x_nso hp, ob, ifp rfl, c1, ob, ifp c2, hs, ob, f1, ob]
        · rw [fX6_size, m_within, ob, ifn (nle h1), ifn (nle h2), ifp rfl, m_ipo hp, ob, ifn (by decide), fX6_size_22, ifp rfl, ifp (by decide), show (3 : Int32).toNatClampNeg = 3 from rfl, hM.1.2.2.2.1, c3, ob, ifp (ci_nI (by omega) (by omega)), nI_cl (by omega), g7, c9, f2, ob]
    · refine ⟨4000000000000000006, _, _, ?_, ?_, Rel_ref 5 (by omega) hRel⟩
      · rw [fX5_size, ifp h1, ifn h2, x_refL6, ob]
      · rw [fX6_size, m_within, ob, ifn (nle h1), ifp (lt_of h2), ifn (by decide), fX6_size_22, ifn (by decide), m_refL6, ob]
  · refine ⟨4000000000000000004, _, _, ?_, ?_, Rel_ref 3 (by omega) hRel⟩
    · rw [fX5_size, ifn h1, x_refL4, ob]
    · rw [fX6_size, m_within, ob, ifp (lt_of h1), ifn (by decide), fX6_size_22, ifn (by decide), m_refL4, ob]
theorem G10 : lawG_10 Rel := by
  intro a0 a1 σ τ hR
  have hRel := hR
  obtain ⟨s, g, im, tx, tn, rn, rb, rf, hV, hX, hT, hM⟩ := hR
  have bad : ∀ (h : fX5_met a0 a1 σ = fX5_met_14 σ) (h2 : fX6_met a0 a1 τ = fX6_met_15 τ), ∃ (r : Int64) (σ' : Mm) (τ' : Mm), fX5_met a0 a1 σ = some (r, σ') ∧ fX6_met a0 a1 τ = some (r, τ') ∧ Rel σ' τ' := fun h h2 =>
    ⟨4000000000000000002, _, _, by rw [h, fX5_met_14, x_refL2, ob], by rw [h2, fX6_met_15, m_refL2, ob], Rel_ref 1 (by omega) hRel⟩
  rcases two a0 with ⟨h1, h2⟩ | ⟨w, hw, rfl⟩
  · refine bad ?_ ?_
    · rw [fX5_met, x_nsb h1, ob, ifn (by decide)]
    · rw [fX6_met, m_ii0 h2, ob, ifp rfl]
  · have i3 : fX6_isIn (nI w) 2 = some 1 := m_iio (n := 2) (by omega) (by omega)
    rcases two a1 with ⟨h1, h2⟩ | ⟨p, hp, rfl⟩
    · refine bad ?_ ?_
      · rw [fX5_met, x_nso hw, ob, ifp rfl, x_nsb h1, ob, ifn (by decide)]
      · rw [fX6_met, i3, ob, ifn (by decide), m_ipb h2, ob, ifp rfl]
    · obtain ⟨i, σ', τ', ee, c1, c2, c3, c4, c5, c6, c7, c8, c9, c10⟩ := both hV hX hT hM
      have hm1 := hV.1.1
      have hm := hV.1.2.1
      have hc := hV.1.2.2.2.1
      have hs0 : fX1_sum i 0 0 σ' = _ := c8 0 0 (by omega) (by omega)
      have g10 : gL τ' 0 10 = _ := c10 10 (by omega) (by omega) (by omega)
      have eX : fX5_met (nI w) (nI p) σ = (if nI w = 0 then fX5_met_37 (nI p) i (8 : Int32) σ' else fX5_met_37 (nI p) i (9 : Int32) σ') := by
        rw [fX5_met, x_nso hw, ob, ifp rfl, x_nso hp, ob, ifp rfl, c1, ob, ifp c2]
      have eM : fX6_met (nI w) (nI p) τ = (if nI w = 0 then fX6_met_47 (nI p) (gL τ' 0 15) τ' else fX6_met_47 (nI p) (gL τ' 0 16) τ') := by
        rw [fX6_met, i3, ob, ifn (by decide), m_ipo hp, ob, ifn (by decide), ifp (by decide), show (3 : Int32).toNatClampNeg = 3 from rfl, hM.1.2.2.2.1, c3, ob]
      have key : ∀ (a q : Nat), a ≤ 10 → 10 ≤ q → q ≤ 18 → (∀ (e : Nat) o z, 1 ≤ o + z → o + z ≤ s 0 → xms a 0 o z = ym (gI τ 0 20) (gI τ 0 21) (gI τ 0 22) q e o z) → fX5_met (nI w) (nI p) σ = fX5_met_37 (nI p) i (nI a) σ' → fX6_met (nI w) (nI p) τ = fX6_met_47 (nI p) (gq τ' q) τ' → ∃ (r : Int64) (σ' : Mm) (τ' : Mm), fX5_met (nI w) (nI p) σ = some (r, σ') ∧ fX6_met (nI w) (nI p) τ = some (r, τ') ∧ Rel σ' τ' := by
        intro a q ha q1 q2 hxy e1 e2
        have hsa : fX1_sum i (nI a) 0 σ' = _ := c8 a 0 ha (by omega)
        obtain ⟨v, f1, f2⟩ := exv (byKids (k := s 3) (f := s 4) (L := s 2) (S := gI τ 0 20) (A := gI τ 0 21) (B := gI τ 0 22) (μ := fun _ o z => xms a 0 o z) (ν := ym (gI τ 0 20) (gI τ 0 21) (gI τ 0 22) q) hm1 hm hc hp (fun e o z q1 q2 => xms_le hm q1 q2) hxy)
        refine ⟨v, σ', τ', ?_, ?_, c4⟩
        · rw [e1, fX5_met_37, hsa, ob, hs0, ob, f1, ob]
        · rw [e2, fX6_met_47, c10 q q1 (by omega) (by omega), g10, f2, ob]
      rcases (show w = 0 ∨ w = 1 by omega) with rfl | rfl
      · exact key 8 15 (by omega) (by omega) (by omega) (fun e o z _ _ => rfl) (by rw [eX, ifp (show nI 0 = 0 from rfl)]; rfl) (by rw [eM, ifp (show nI 0 = 0 from rfl)]; rfl)
      · exact key 9 16 (by omega) (by omega) (by omega) (fun e o z _ _ => rfl) (by rw [eX, ifn (by decide)]; rfl) (by rw [eM, ifn (by decide)]; rfl)
