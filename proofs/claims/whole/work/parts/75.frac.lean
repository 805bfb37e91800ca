/-! fractions in least terms -/
theorem lg_0 {x y : Int64} : lg_cmp x y = 0 ↔ x = y := by
  unfold lg_cmp
  by_cases h1 : y < x
  · rw [if_pos h1]
    constructor
    · intro h; exact absurd h (by decide)
    · intro h; subst h; exact absurd h1 (Int64.lt_irrefl)
  · rw [if_neg h1]
    by_cases h2 : x = y
    · simp [h2]
    · rw [if_neg h2]
      constructor
      · intro h; exact absurd h (by decide)
      · intro h; exact absurd h h2
theorem lg_c0 : lg_cmp (lN 0) 0 = 0 := lg_0.mpr rfl
theorem ge200 {v : Nat} (h : v < 200) : ¬ (200 : Int32) ≤ nI v := nI_ge (b := 200) h (by omega)
theorem lN_0 {r : Nat} (h : r < 2 ^ 63) : lN r = 0 ↔ r = 0 := by
  have e : (0 : Int64) = lN 0 := rfl
  rw [e, pk_lEQ h (by omega)]
theorem half_mod {x y : Nat} (h : y ≤ x) (h0 : 0 < y) : 2 * (x % y) < x := by
  have h1 := Nat.mod_lt x h0
  have h2 := Nat.div_add_mod x y
  have h3 : 1 ≤ x / y := Nat.div_pos h h0
  have h4 : y * 1 ≤ y * (x / y) := Nat.mul_le_mul_left y h3
  omega
theorem x_gcdL : ∀ (j d r st n : Nat), d < 2 ^ 63 → r < 2 ^ j → j ≤ 63 → st + 2 * j < 200 → 2 * j < n → fX5_greatestDivisor_9 n (lN d) (lN r) (nI st) = some (lN (Nat.gcd d r)) := by
  intro j
  induction j with
  | zero =>
    intro d r st n hd hr hj hst hn
    have hr0 : r = 0 := by simpa using hr
    subst hr0
    obtain ⟨n, rfl⟩ : ∃ n', n = n' + 1 := ⟨n - 1, by omega⟩
    rw [fX5_greatestDivisor_9, ifn (ge200 (by omega)), ifp lg_c0, Nat.gcd_zero_right]
  | succ j ih =>
    intro d r st n hd hr hj hst hn
    have hp : 2 ^ (j + 1) ≤ 2 ^ 63 := Nat.pow_le_pow_right (by omega) hj
    have hr63 : r < 2 ^ 63 := by omega
    obtain ⟨n, rfl⟩ : ∃ n', n = n' + 1 := ⟨n - 1, by omega⟩
    have c1 : ¬ (200 : Int32) ≤ nI st := fun q => absurd ((nI_leI (a := 200) (by omega) (by omega)).mp q) (by omega)
    by_cases h0 : r = 0
    · subst h0
      rw [fX5_greatestDivisor_9, ifn c1, ifp lg_c0, Nat.gcd_zero_right]
    · have n0 : ¬ lN r = 0 := fun q => h0 ((lN_0 hr63).mp q)
      rw [fX5_greatestDivisor_9, ifn c1, ifn (fun q => n0 (lg_0.mp q)), ifp n0, pk_lRem hd (by omega) hr63, nI_1]
      have hm := Nat.mod_lt d (Nat.pos_of_ne_zero h0)
      have e1 : Nat.gcd d r = Nat.gcd r (d % r) := by rw [Nat.gcd_comm d r, Nat.gcd_rec r d, Nat.gcd_comm]
      rw [e1]
      have c2 : ¬ (200 : Int32) ≤ nI (st + 1) := fun q => absurd ((nI_leI (a := 200) (by omega) (by omega)).mp q) (by omega)
      obtain ⟨n, rfl⟩ : ∃ n', n = n' + 1 := ⟨n - 1, by omega⟩
      by_cases h2 : d % r = 0
      · rw [h2, fX5_greatestDivisor_9, ifn c2, ifp lg_c0, Nat.gcd_zero_right]
      · have n2 : ¬ lN (d % r) = 0 := fun q => h2 ((lN_0 (by omega)).mp q)
        rw [fX5_greatestDivisor_9, ifn c2, ifn (fun q => n2 (lg_0.mp q)), ifp n2, pk_lRem hr63 (by omega) (by omega), nI_1]
        have hh := half_mod (x := r) (y := d % r) (by omega) (by omega)
        have e2 : Nat.gcd r (d % r) = Nat.gcd (d % r) (r % (d % r)) := by rw [Nat.gcd_comm r (d % r), Nat.gcd_rec (d % r) r, Nat.gcd_comm]
        rw [e2]
        rw [Nat.pow_succ] at hr
        exact ih (d % r) (r % (d % r)) (st + 1 + 1) n (by omega) (by omega) (by omega) (by omega) (by omega)
theorem x_gcd {a b : Nat} (ha : a < 2 ^ 63) (hb : b < 2 ^ 63) : fX5_greatestDivisor (lN a) (lN b) = some (lN (Nat.gcd a b)) := by
  rw [fX5_greatestDivisor]
  exact x_gcdL 63 a b 0 1000 ha hb (by omega) (by omega) (by omega)
theorem m_gcdL : ∀ (j d r n : Nat), d < 2 ^ 63 → r < 2 ^ j → j ≤ 63 → 2 * j < n → fX6_common n (lN d) (lN r) = some (lN (Nat.gcd d r)) := by
  intro j
  induction j with
  | zero =>
    intro d r n hd hr hj hn
    have hr0 : r = 0 := by simpa using hr
    subst hr0
    obtain ⟨n, rfl⟩ : ∃ n', n = n' + 1 := ⟨n - 1, by omega⟩
    rw [fX6_common, ifp lg_c0, Nat.gcd_zero_right]
  | succ j ih =>
    intro d r n hd hr hj hn
    have hp : 2 ^ (j + 1) ≤ 2 ^ 63 := Nat.pow_le_pow_right (by omega) hj
    have hr63 : r < 2 ^ 63 := by omega
    obtain ⟨n, rfl⟩ : ∃ n', n = n' + 1 := ⟨n - 1, by omega⟩
    by_cases h0 : r = 0
    · subst h0
      rw [fX6_common, ifp lg_c0, Nat.gcd_zero_right]
    · have n0 : ¬ lN r = 0 := fun q => h0 ((lN_0 hr63).mp q)
      have hm := Nat.mod_lt d (Nat.pos_of_ne_zero h0)
      have e1 : Nat.gcd d r = Nat.gcd r (d % r) := by rw [Nat.gcd_comm d r, Nat.gcd_rec r d, Nat.gcd_comm]
      obtain ⟨n, rfl⟩ : ∃ n', n = n' + 1 := ⟨n - 1, by omega⟩
      have key : fX6_common (n + 1) (lN r) (lN (d % r)) = some (lN (Nat.gcd r (d % r))) := by
        by_cases h2 : d % r = 0
        · rw [h2, fX6_common, ifp lg_c0, Nat.gcd_zero_right]
        · have n2 : ¬ lN (d % r) = 0 := fun q => h2 ((lN_0 (by omega)).mp q)
          have hh := half_mod (x := r) (y := d % r) (by omega) (by omega)
          have e2 : Nat.gcd r (d % r) = Nat.gcd (d % r) (r % (d % r)) := by rw [Nat.gcd_comm r (d % r), Nat.gcd_rec (d % r) r, Nat.gcd_comm]
          rw [Nat.pow_succ] at hr
          rw [fX6_common, ifn (fun q => n2 (lg_0.mp q)), ifp n2, pk_lRem hr63 (by omega) (by omega), e2, ih (d % r) (r % (d % r)) n (by omega) (by omega) (by omega) (by omega), ob]
      rw [fX6_common, ifn (fun q => n0 (lg_0.mp q)), ifp n0, pk_lRem hd (by omega) hr63, e1, key, ob]
theorem m_gcd {a b : Nat} (ha : a < 2 ^ 63) (hb : b < 2 ^ 63) : fX6_common 200 (lN a) (lN b) = some (lN (Nat.gcd a b)) := m_gcdL 63 a b 200 ha hb (by omega) (by omega)
def fr (a b p : Nat) : Nat := if a = 0 then p else if p = 0 then a / Nat.gcd a b else b / Nat.gcd a b
theorem fr_scale {a b p c : Nat} (hc : 0 < c) : fr (c * a) (c * b) p = fr a b p := by
  unfold fr
  by_cases h0 : a = 0
  · simp [h0]
  · have h1 : ¬ c * a = 0 := by
      intro h
      rcases Nat.mul_eq_zero.mp h with h | h <;> omega
    rw [ifn h1, ifn h0, Nat.gcd_mul_left, Nat.mul_div_mul_left _ _ hc, Nat.mul_div_mul_left _ _ hc]
theorem x_frac {a b p : Nat} (ha : a < 2 ^ 63) (hb : b < 2 ^ 63) (hb0 : 0 < b) (hp : p ≤ 1) : fX5_fraction (lN a) (lN b) (nI p) = some (lN (fr a b p)) := by
  rw [fX5_fraction, x_gcd ha hb, ob]
  by_cases h0 : a = 0
  · subst h0
    rw [ifp lg_c0, fX5_fraction_26]
    rcases (show p = 0 ∨ p = 1 by omega) with rfl | rfl <;> rfl
  · have na : ¬ lN a = 0 := fun q => h0 ((lN_0 ha).mp q)
    have nb : ¬ lN b = 0 := fun q => absurd ((lN_0 hb).mp q) (by omega)
    have g0 : 0 < Nat.gcd a b := Nat.gcd_pos_of_pos_right _ hb0
    have g1 : Nat.gcd a b ≤ b := Nat.gcd_le_right _ hb0
    have ng : ¬ lN (Nat.gcd a b) = 0 := fun q => absurd ((lN_0 (by omega)).mp q) (by omega)
    rw [ifn (fun q => na (lg_0.mp q)), ifn (fun q => nb (lg_0.mp q)), ifn (fun q => ng (lg_0.mp q)), fr, ifn h0]
    rcases (show p = 0 ∨ p = 1 by omega) with rfl | rfl
    · rw [ifp (show nI 0 = 0 from rfl), ifp ng, pk_lDiv ha g0 (by omega)]
      rfl
    · rw [ifn (by decide), ifp ng, pk_lDiv hb g0 (by omega)]
      rfl
theorem m_frac {a b p : Nat} (ha : a < 2 ^ 63) (hb : b < 2 ^ 63) (hb0 : 0 < b) (hp : p ≤ 1) : fX6_part (lN a) (lN b) (nI p) = some (lN (fr a b p)) := by
  rw [fX6_part]
  by_cases h0 : a = 0
  · subst h0
    rw [ifp lg_c0, nI_l (by omega)]
    rfl
  · have na : ¬ lN a = 0 := fun q => h0 ((lN_0 ha).mp q)
    have g0 : 0 < Nat.gcd a b := Nat.gcd_pos_of_pos_right _ hb0
    have g1 : Nat.gcd a b ≤ b := Nat.gcd_le_right _ hb0
    have ng : ¬ lN (Nat.gcd a b) = 0 := fun q => absurd ((lN_0 (by omega)).mp q) (by omega)
    rw [ifn (fun q => na (lg_0.mp q)), m_gcd hb ha, ob, Nat.gcd_comm b a, fr, ifn h0]
    rcases (show p = 0 ∨ p = 1 by omega) with rfl | rfl
    · rw [ifp (show nI 0 = 0 from rfl), ifp ng, pk_lDiv ha g0 (by omega)]
      rfl
    · rw [ifn (by decide), ifp ng, pk_lDiv hb g0 (by omega)]
      rfl
/-! gone -/
set_option maxRecDepth 100000 in
theorem x_bits : ∀ b, b < 1024 → fJ6_bitCount_0f7a4 (nI b) = some (nI (oc b 10)) := by decide +kernel
theorem oc_top {b n : Nat} (hb : b < 2 ^ n) : ∀ j, oc b (n + j) = oc b n
  | 0 => rfl
  | j + 1 => by
    have h : b / 2 ^ (n + j) = 0 := Nat.div_eq_of_lt (Nat.lt_of_lt_of_le hb (Nat.pow_le_pow_right (by omega) (by omega)))
    rw [← Nat.add_assoc, oc, oc_top hb j, h]
    rfl
theorem x_latestL {len b : Nat} (hlen : len ≤ 10) (hb : b < 2048) : ∀ (n v : Nat), v ≤ len → len - v < n → fX5_latestOnes_4 n (nI len) (nI b) (nI (rc b v)) (nI v) = some (nI (rc b len)) := by
  intro n
  induction n with
  | zero => intro v _ h; omega
  | succ n ih =>
    intro v hv hn
    by_cases h8 : v = len
    · subst h8
      rw [fX5_latestOnes_4, ifp (nI_le (Nat.le_refl _) (by omega))]
    · have hb1 : b / 2 ^ v % 2 < 2 := Nat.mod_lt _ (by omega)
      rw [fX5_latestOnes_4, ifn (by rw [nI_leI (by omega) (by omega)]; omega), bitv hb (by omega)]
      by_cases h1 : b / 2 ^ v % 2 = 1
      · have er : rc b (v + 1) = rc b v + 1 := by simp [rc, h1]
        rw [ifp (by rw [h1]; rfl), fX5_latestOnes_25, nI_1, nI_1, ← er]
        exact ih (v + 1) (by omega) (by omega)
      · have h0 : b / 2 ^ v % 2 = 0 := by omega
        have er : rc b (v + 1) = 0 := by simp [rc, h0]
        rw [ifn (by rw [h0]; decide), fX5_latestOnes_25, nI_1]
        have h2 := ih (v + 1) (by omega) (by omega)
        rw [er] at h2
        exact h2
/-- how likely the next child of the reference is of sort 1: ahead 1, 0, or none -/
theorem m_tw {τ : Mm} {s : Nat → Nat} (hM : MO τ 2 s) (hs : Vs s) (n r : Nat) (ah : Int32) (h1 : ah = 1 ↔ n ≠ 0 ∧ 0 < r) (h0 : ah = 0 ↔ n ≠ 0 ∧ r = 0) : fX6_twelfths ah τ = some (nI (twf (s 1) (s 2) n r)) := by
  obtain ⟨u0, u1, u2, u3, u4, u5, u6, u7, u8, u9⟩ := hs
  have t12 : (12 : Int32).toInt = 12 := rfl
  have t0 : (0 : Int32).toInt = 0 := rfl
  have tc : (nI (s 1)).toInt = s 1 := nI_toInt (by omega)
  have tL := nI_m5 u4
  have fin : ∀ (d : Int32) (z : Int) (w : Nat), d.toInt = z → -10 ≤ z → z ≤ 10 → w < 2 ^ 31 → (w : Int) = (if (s 1 : Int) + z < 0 then 0 else if 12 < (s 1 : Int) + z then 12 else (s 1 : Int) + z) → fX6_twelfths_34 τ d (nI (s 1)) = some (nI w) := by
    intro d z w hd hz1 hz2 hw2 hw
    have hs2 : (nI (s 1) + d).toInt = (s 1 : Int) + z := by rw [fb_addI (by omega) (by omega), tc, hd]
    rw [fX6_twelfths_34]
    by_cases q1 : 0 ≤ nI (s 1) + d
    · rw [ifp q1]
      rw [fa_le, hs2, t0] at q1
      by_cases q2 : nI (s 1) + d ≤ (12 : Int32)
      · rw [ifp q2]
        rw [fa_le, hs2, t12] at q2
        rw [ifn (by omega), ifn (by omega)] at hw
        congr 1
        exact nI_of_toInt hw2 (by omega)
      · rw [ifn q2]
        rw [fa_le, hs2, t12] at q2
        rw [ifn (by omega), ifp (by omega)] at hw
        have : w = 12 := by omega
        subst this
        rfl
    · rw [ifn q1]
      rw [fa_le, hs2, t0] at q1
      rw [ifp (by omega)] at hw
      have : w = 0 := by omega
      subst this
      rfl
  rw [fX6_twelfths, ifp (by decide), ifp (by decide), show (2 : Int32).toNatClampNeg = 2 from rfl, show (1 : Int32).toNatClampNeg = 1 from rfl, hM.2.1, hM.2.2.1]
  by_cases c1 : ah = 1
  · rw [ifp c1]
    obtain ⟨k1, k2⟩ := h1.mp c1
    refine fin _ _ _ tL (by omega) (by omega) (by simp [twf, k1, k2]; omega) ?_
    simp only [twf, ifn k1, ifp k2]
    split
    · omega
    · split <;> omega
  · rw [ifn c1]
    by_cases c0 : ah = 0
    · rw [ifp c0]
      obtain ⟨k1, k2⟩ := h0.mp c0
      refine fin _ (5 - (s 2 : Int)) _ ?_ (by omega) (by omega) (by simp [twf, k1, k2]; omega) ?_
      · rw [Int32.toInt_neg, tL, fb_bmod (by omega) (by omega)]; omega
      · simp only [twf, ifn k1, k2, Nat.lt_irrefl, if_false]
        split
        · omega
        · split <;> omega
    · rw [ifn c0]
      have k1 : n = 0 := by
        apply Classical.byContradiction
        intro k1
        rcases Nat.eq_zero_or_pos r with k2 | k2
        · exact c0 (h0.mpr ⟨k1, k2⟩)
        · exact c1 (h1.mpr ⟨k1, k2⟩)
      refine fin _ 0 _ rfl (by omega) (by omega) (by simp [twf, k1]; omega) ?_
      simp only [twf, k1, if_true]
      rw [ifn (by omega), ifn (by omega)]
      omega
theorem twf_le {c L n r : Nat} (hc : c ≤ 11) : twf c L n r ≤ 12 := by
  unfold twf
  split
  · omega
  · split <;> omega
theorem G14 : lawG_14 Rel := by
  intro a0 σ τ hR
  have hRel := hR
  obtain ⟨s, g, im, tx, tn, rn, rb, rf, hV, hX, hT, hM⟩ := hR
  have hXX := hX
  have hVV := hV
  obtain ⟨v1, v2, v3, v4, v5, v6⟩ := hV
  obtain ⟨x1, x2, x3, x4, x5, x6, x7, x8⟩ := hX
  have hM0 := hM
  obtain ⟨m1, m2, m3, m4, m5, m6, ⟨q27, hq27, m7, hqm⟩, m8⟩ := hM
  have hp10 : 2 ^ rn ≤ 2 ^ 10 := Nat.pow_le_pow_right (by omega) v5
  have hk : s 3 < 6 := v1.2.2.2.2.2.1
  have hf9 : s 4 ≤ 9 := v1.2.2.2.2.2.2.2.1
  have hc1 : 1 ≤ s 1 := v1.2.2.1
  have hc11 : s 1 ≤ 11 := v1.2.2.2.1
  have hL10 : s 2 ≤ 10 := v1.2.2.2.2.1
  have hm10 : s 0 ≤ 10 := v1.2.1
  by_cases h1 : a0 < 0 ∨ (1 : Int32) < a0
  · refine ⟨4000000000000000002, _, _, ?_, ?_, Rel_ref 1 (by omega) hRel⟩
    · rw [fX5_gone, x_noSort, ob, ifp h1, ifn (by decide), x_refL2]; rfl
    · have h2 : a0 < 0 ∨ (2 : Int32) ≤ a0 := by
        rcases h1 with h | h
        · exact Or.inl h
        · right
          rw [fa_le]; rw [fa_lt] at h
          have e1 : (1 : Int32).toInt = 1 := rfl
          have e2 : (2 : Int32).toInt = 2 := rfl
          omega
      rw [fX6_gone, fX6_isPart, m_isIn, ob, ifp h2, ifp (by decide), ob, ifp rfl, m_refL2]; rfl
  · have h1a : ¬ a0 < 0 := fun q => h1 (Or.inl q)
    have h1b : a0 ≤ (1 : Int32) := le_of (fun q => h1 (Or.inr q))
    have h2 : ¬ (a0 < 0 ∨ (2 : Int32) ≤ a0) := by
      rintro (h | h)
      · exact h1a h
      · rw [fa_le] at h h1b
        have e1 : (1 : Int32).toInt = 1 := rfl
        have e2 : (2 : Int32).toInt = 2 := rfl
        omega
    obtain ⟨p, hp, rfl⟩ := nI_le_of (M := 1) (x := a0) 1 rfl h1a h1b
    have hfst : fstp (stopAt (s 3) s rb) rn 0 = fstp (stopAt (s 3) s q27) rn 0 := fstp_congr rn 0 (fun i _ hi => by rw [← hqm, stopAt_mod (by omega)])
    have hle := fstp_le (stopAt (s 3) s q27) rn 0
    obtain ⟨τ', c1, c2, -, c4⟩ := m_stopO m1 v1 hk hq27 v5
    have xs := x_stopP x1 v1 hk (show rb < 2048 by omega) v5
    have hM' : MO τ' 2 s := SM_MO (Or.inl rfl) c2 m1
    have hRel' : Rel σ τ' := Rel_of hVV hXX hT (SM_RM c2 hM0)
    have ex0 : fX5_gone (nI p) σ = (fX5_lastInTwelfths σ).bind (fun q_3 => (fX5_fraction (q_3.toInt64) (12 : Int64) (nI p)).bind (fun q_4 => some (q_4, σ))) := by
      rw [fX5_gone, x_noSort, ob, ifn h1, ifp rfl]
    have em0 : fX6_gone (nI p) τ = (if (if fstp (stopAt (s 3) s q27) rn 0 < rn then nI (fstp (stopAt (s 3) s q27) rn 0 + 1) else 0) ≤ 0 then (if (gI τ' 0 26) = 0 then fX6_gone_68 (nI p) (-9 : Int32) τ' else fX6_gone_68 (nI p) (((gI τ' 0 27) >>> (((gI τ' 0 26) - (1 : Int32)) &&& 31)) &&& (1 : Int32)) τ') else (fX6_part (0 : Int64) (1 : Int64) (nI p)).bind (fun q_7 => some (q_7, τ'))) := by
      rw [fX6_gone, fX6_isPart, m_isIn, ob, ifn h2, ifp (by decide), ob, ifn (by decide), ifp (by decide), show (3 : Int32).toNatClampNeg = 3 from rfl, m1.2.2.2.1, m6, m7, c1, ob]
    have exl : fX5_lastInTwelfths σ = (if nI rn ≤ nI (fstp (stopAt (s 3) s q27) rn 0) then (if nI (rn + 1) < nI (s 0) then (fJ6_bitCount_0f7a4 (nI rb)).bind (fun q_4 => (fX5_latestOnes (nI rn) (nI rb)).bind (fun q_5 => (fX5_chanceOfOne (nI (s 1)) (nI (s 2) - 5) (nI rn) q_5).bind (fun q_6 => (fX5_lawStops (nI (s 3)) (nI (s 4)) (q_4 + (1 : Int32)) (nI rn - q_4) (q_5 + (1 : Int32))).bind (fun q_7 => (if q_7 = 0 then fX5_lastInTwelfths_138 σ q_4 (nI rn - q_4) q_6 (0 : Int32) else fX5_lastInTwelfths_138 σ q_4 (nI rn - q_4) q_6 ((0 : Int32) + q_6)))))) else some (12 : Int32)) else some (0 : Int32)) := by
      rw [fX5_lastInTwelfths, x1.2.2.2.1, x6, x7, xs, ob, hfst, x1.1, x1.2.1, x1.2.2.1, x1.2.2.2.2.1, nI_1]
    have twelve : (12 : Int64) = lN 12 := rfl
    by_cases hst : fstp (stopAt (s 3) s q27) rn 0 < rn
    · refine ⟨lN (fr 0 12 p), σ, τ', ?_, ?_, hRel'⟩
      · rw [ex0, exl, ifn (by rw [nI_leI (by omega) (by omega)]; omega), ob, show ((0 : Int32).toInt64) = lN 0 from rfl, twelve, x_frac (by omega) (by omega) (by omega) hp, ob]
      · rw [em0, ifp hst, ifn (nI_nle (by omega) (by omega)), show (0 : Int64) = lN 0 from rfl, show (1 : Int64) = lN 1 from rfl, m_frac (by omega) (by omega) (by omega) hp, ob]
        rfl
    · have hfe : fstp (stopAt (s 3) s q27) rn 0 = rn := by omega
      obtain ⟨d23, d24, d25⟩ := c4 hfe
      have ocq : oc q27 rn = oc rb rn := by rw [← hqm, oc_mod rn (Nat.le_refl _)]
      have rcq : rc q27 rn = rc rb rn := by rw [← hqm, rc_mod rn (Nat.le_refl _)]
      rw [ocq] at d23 d24
      rw [rcq] at d25
      have ho := oc_le rb rn
      have hr := rc_le rb rn
      have e26 : gI τ' 0 26 = nI rn := by rw [c2 0 26 (by unfold ir; omega)]; exact m6
      have e27 : gI τ' 0 27 = nI q27 := by rw [c2 0 27 (by unfold ir; omega)]; exact m7
      have ht12 := twf_le (c := s 1) (L := s 2) (n := rn) (r := rc rb rn) hc11
      rw [ifn hst, ifp (by decide)] at em0
      -- the likelihood of the reference
      have em1 : fX6_gone (nI p) τ = fX6_gone_68 (nI p) (if rn = 0 then (-9 : Int32) else nI (q27 / 2 ^ (rn - 1) % 2)) τ' := by
        rw [em0, e26, e27]
        by_cases hz : rn = 0
        · subst hz
          rw [ifp (show nI 0 = 0 from rfl), ifp rfl]
        · rw [ifn (nI_ne0 (by omega) (by omega)), ifn hz, show (1 : Int32) = nI 1 from rfl, pk_sub (by omega)]
          have hb := bitv (b := q27) (i := rn - 1) hq27 (by omega)
          rw [show (1 : Int32) = nI 1 from rfl] at hb
          rw [hb]
      have hlast : rn ≠ 0 → (0 < rc rb rn ↔ q27 / 2 ^ (rn - 1) % 2 = 1) := by
        intro hz
        obtain ⟨j, hj⟩ : ∃ j, rn = j + 1 := ⟨rn - 1, by omega⟩
        rw [← rcq, hj]
        simp only [rc, Nat.add_sub_cancel]
        split
        · rename_i h9; simp [h9]
        · rename_i h9; simp [h9]
      have htw := m_tw hM' v1 rn (rc rb rn) (if rn = 0 then (-9 : Int32) else nI (q27 / 2 ^ (rn - 1) % 2)) (by
        by_cases hz : rn = 0
        · rw [ifp hz]
          constructor
          · intro h; exact absurd h (by decide)
          · intro h; exact absurd hz h.1
        · rw [ifn hz, hlast hz]
          have hb1 : q27 / 2 ^ (rn - 1) % 2 < 2 := Nat.mod_lt _ (by omega)
          rw [show (1 : Int32) = nI 1 from rfl, nI_eq (by omega) (by omega)]
          constructor
          · intro h; exact ⟨hz, h⟩
          · intro h; exact h.2) (by
        by_cases hz : rn = 0
        · rw [ifp hz]
          constructor
          · intro h; exact absurd h (by decide)
          · intro h; exact absurd hz h.1
        · rw [ifn hz]
          have hb1 : q27 / 2 ^ (rn - 1) % 2 < 2 := Nat.mod_lt _ (by omega)
          have hl := hlast hz
          rw [show (0 : Int32) = nI 0 from rfl, nI_eq (by omega) (by omega)]
          constructor
          · intro h; exact ⟨hz, by omega⟩
          · intro h; omega)
      -- its value
      have em2 : ∀ A B : Bool, (decide (s 0 ≤ (oc rb rn + 1) + (rn - oc rb rn)) || stp (s 3) (s 4) (oc rb rn + 1) (rn - oc rb rn) (rc rb rn + 1)) = A → (decide (s 0 ≤ oc rb rn + (rn - oc rb rn + 1)) || stp (s 3) (s 4) (oc rb rn) (rn - oc rb rn + 1) 0) = B → fX6_gone (nI p) τ = some (lN (fr ((if A then twf (s 1) (s 2) rn (rc rb rn) else 0) + (if B then 12 - twf (s 1) (s 2) rn (rc rb rn) else 0)) 12 p), τ') := by
        intro A B hA hB
        have eA := m_ends hM' v1 hk (o := oc rb rn + 1) (z := rn - oc rb rn) (r := rc rb rn + 1) (by omega) (by omega) (by omega)
        have eB := m_ends hM' v1 hk (o := oc rb rn) (z := rn - oc rb rn + 1) (r := 0) (by omega) (by omega) (by omega)
        rw [hA] at eA
        rw [hB] at eB
        have tail : ∀ w : Nat, w ≤ 12 → fX6_gone_107 (nI p) (nI (twf (s 1) (s 2) rn (rc rb rn))) (lN w) τ' = some (lN (fr (w + (if B then 12 - twf (s 1) (s 2) rn (rc rb rn) else 0)) 12 p), τ') := by
          intro w hw
          rw [fX6_gone_107, ifp (by decide), show (3 : Int32).toNatClampNeg = 3 from rfl, hM'.2.2.2.1, d23, d24, nI_1]
          rw [show (nI 0) = (0 : Int32) from rfl] at eB
          rw [eB, ob]
          cases B with
          | false =>
            rw [ifp (by decide), fX6_gone_142, show (0 : Int64) = lN 0 from rfl, lN_add, twelve, m_frac (by omega) (by omega) (by omega) hp, ob]
            simp
          | true =>
            rw [ifn (by decide), fX6_gone_142, show (12 : Int32) = nI 12 from rfl, pk_sub ht12, nI_l (by omega), lN_add, twelve, m_frac (by omega) (by omega) (by omega) hp, ob]
            simp
        rw [em1, fX6_gone_68, htw, ob, ifp (by decide), show (3 : Int32).toNatClampNeg = 3 from rfl, hM'.2.2.2.1, d23, d24, d25, nI_1, nI_1, eA, ob]
        cases A with
        | false =>
          rw [ifp (by decide), show (0 : Int64) = lN 0 from rfl, tail 0 (by omega)]
          simp
        | true =>
          rw [ifn (by decide), nI_l (by omega), tail _ ht12]
          simp
      by_cases hm : rn + 1 < s 0
      · -- the law alone
        have a1 : ¬ s 0 ≤ (oc rb rn + 1) + (rn - oc rb rn) := by omega
        have a2 : ¬ s 0 ≤ oc rb rn + (rn - oc rb rn + 1) := by omega
        have em3 := em2 (stp (s 3) (s 4) (oc rb rn + 1) (rn - oc rb rn) (rc rb rn + 1)) (stp (s 3) (s 4) (oc rb rn) (rn - oc rb rn + 1) 0) (by simp [a1]) (by simp [a2])
        refine ⟨_, σ, τ', ?_, em3, hRel'⟩
        have oc10 : oc rb 10 = oc rb rn := by
          have := oc_top v6 (10 - rn)
          rw [show rn + (10 - rn) = 10 by omega] at this
          exact this
        have lat : fX5_latestOnes (nI rn) (nI rb) = some (nI (rc rb rn)) := x_latestL v5 (by omega) 1000 0 (by omega) (by omega)
        rw [ex0, exl, hfe, ifp (nI_le (Nat.le_refl _) (by omega)), ifp (nI_lt hm (by omega)), x_bits rb (by omega), ob, lat, ob, x_chance hc1 hc11 hL10 (by omega) (by omega), ob, oc10, nI_1, nI_1, pk_sub ho, x_stops hk (by omega) (by omega) (by omega) (by omega), ob]
        have sB := x_stops (k := s 3) (f := s 4) (o := oc rb rn) (z := rn - oc rb rn + 1) (r := 0) hk (by omega) (by omega) (by omega) (by omega)
        rw [show (nI 0) = (0 : Int32) from rfl] at sB
        have tail : ∀ w : Nat, w ≤ 12 → fX5_lastInTwelfths_138 σ (nI (oc rb rn)) (nI (rn - oc rb rn)) (nI (twf (s 1) (s 2) rn (rc rb rn))) (nI w) = some (nI (w + (if stp (s 3) (s 4) (oc rb rn) (rn - oc rb rn + 1) 0 then 12 - twf (s 1) (s 2) rn (rc rb rn) else 0))) := by
          intro w hw
          rw [fX5_lastInTwelfths_138, x1.2.2.2.1, x1.2.2.2.2.1, nI_1, sB, ob]
          cases stp (s 3) (s 4) (oc rb rn) (rn - oc rb rn + 1) 0 with
          | false => rw [ifp (by decide)]; simp
          | true => rw [ifn (by decide), show (12 : Int32) = nI 12 from rfl, pk_sub ht12, nI_add]; simp
        have fin : ∀ w : Nat, w ≤ 24 → (some (nI w)).bind (fun q_3 => (fX5_fraction (q_3.toInt64) (12 : Int64) (nI p)).bind (fun q_4 => some (q_4, σ))) = some (lN (fr w 12 p), σ) := by
          intro w hw
          rw [ob, nI_l (by omega), twelve, x_frac (by omega) (by omega) (by omega) hp, ob]
        have hb12 : (if stp (s 3) (s 4) (oc rb rn) (rn - oc rb rn + 1) 0 then 12 - twf (s 1) (s 2) rn (rc rb rn) else 0) ≤ 12 := by split <;> omega
        cases hA : stp (s 3) (s 4) (oc rb rn + 1) (rn - oc rb rn) (rc rb rn + 1) with
        | false =>
          rw [ifp (by decide), show (0 : Int32) = nI 0 from rfl, tail 0 (by omega), fin _ (by omega)]
          simp
        | true =>
          rw [ifn (by decide), Int32.zero_add, tail _ ht12, fin _ (by omega)]
          simp
      · have a1 : s 0 ≤ (oc rb rn + 1) + (rn - oc rb rn) := by omega
        have a2 : s 0 ≤ oc rb rn + (rn - oc rb rn + 1) := by omega
        have em3 := em2 true true (by simp [a1]) (by simp [a2])
        have e12 : twf (s 1) (s 2) rn (rc rb rn) + (12 - twf (s 1) (s 2) rn (rc rb rn)) = 12 := by omega
        rw [ifp rfl, ifp rfl, e12] at em3
        refine ⟨_, σ, τ', ?_, em3, hRel'⟩
        rw [ex0, exl, hfe, ifp (nI_le (Nat.le_refl _) (by omega)), ifn (by rw [nI_ltI (by omega) (by omega)]; exact hm), ob, show ((12 : Int32).toInt64) = lN 12 from rfl, twelve, x_frac (by omega) (by omega) (by omega) hp, ob]
