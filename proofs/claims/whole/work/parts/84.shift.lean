/-! shift -/
theorem lg_le {x y : Int64} : lg_cmp x y ≤ 0 ↔ ¬ y < x := by
  unfold lg_cmp
  by_cases h1 : y < x
  · rw [if_pos h1]
    constructor
    · intro h; exact absurd h (by decide)
    · intro h; exact absurd h1 h
  · rw [if_neg h1]
    by_cases h2 : x = y
    · rw [if_pos h2]
      exact ⟨fun _ => h1, fun _ => by decide⟩
    · rw [if_neg h2]
      exact ⟨fun _ => h1, fun _ => by decide⟩
def sg (x y : Nat) : Int32 := if x < y then -1 else if x = y then 0 else 1
theorem sg_add {k x y : Nat} : sg (k + x) (k + y) = sg x y := by
  unfold sg
  by_cases h1 : x < y
  · rw [ifp h1, ifp (show k + x < k + y by omega)]
  · rw [ifn h1, ifn (show ¬ k + x < k + y by omega)]
    by_cases h2 : x = y
    · rw [ifp h2, ifp (show k + x = k + y by omega)]
    · rw [ifn h2, ifn (show ¬ k + x = k + y by omega)]
theorem crs_eq {a b c d : Nat} (h : a / b = c / d) : sg (a * d) (c * b) = sg (d * (a % b)) (b * (c % d)) := by
  have h1 := Nat.div_add_mod a b
  have h2 := Nat.div_add_mod c d
  have e1 : a * d = b * d * (a / b) + d * (a % b) := by
    have : a * d = (b * (a / b) + a % b) * d := by rw [h1]
    rw [this, Nat.add_mul, Nat.mul_comm (a % b) d, Nat.mul_right_comm]
  have e2 : c * b = b * d * (a / b) + b * (c % d) := by
    have : c * b = (d * (c / d) + c % d) * b := by rw [h2]
    rw [this, h, Nat.add_mul, Nat.mul_comm (c % d) b, Nat.mul_right_comm, Nat.mul_comm d b]
  rw [e1, e2, sg_add]
theorem crs_lt {a b c d : Nat} (hb : 0 < b) (hd : 0 < d) (h : a / b < c / d) : a * d < c * b := by
  have h1 : a < c / d * b := (Nat.div_lt_iff_lt_mul hb).mp h
  have h2 : a * d < c / d * b * d := Nat.mul_lt_mul_of_pos_right h1 hd
  have h3 : c / d * d ≤ c := Nat.div_mul_le_self c d
  have h4 : c / d * d * b ≤ c * b := Nat.mul_le_mul_right b h3
  have h5 : c / d * b * d = c / d * d * b := Nat.mul_right_comm _ _ _
  omega
theorem x_cmp1 {a b c d st n : Nat} (ha : a < 2 ^ 63) (hb : b < 2 ^ 63) (hc : c < 2 ^ 63) (hd : d < 2 ^ 63) (hb0 : 0 < b) (hd0 : 0 < d) (hst : st < 200) :
    fX5_compareFractions_17 (n + 1) (lN a) (lN b) (lN c) (lN d) (nI st) = if a / b = c / d then fX5_compareFractions_17 n (lN d) (lN (c % d)) (lN b) (lN (a % b)) (nI (st + 1)) else some (if a / b < c / d then -1 else 1) := by
  have nb : ¬ lN b = 0 := fun q => absurd ((lN_0 hb).mp q) (by omega)
  have nd : ¬ lN d = 0 := fun q => absurd ((lN_0 hd).mp q) (by omega)
  have h1 : a / b ≤ a := Nat.div_le_self _ _
  have h2 : c / d ≤ c := Nat.div_le_self _ _
  rw [fX5_compareFractions_17, ifn (ge200 hst), ifn (fun q => nb (lg_0.mp q)), ifn (fun q => nd (lg_0.mp q)), ifp nb, ifp nd, pk_lRem ha hb0 hb, pk_lRem hc hd0 hd, pk_lDiv ha hb0 hb, pk_lDiv hc hd0 hd, nI_1]
  by_cases h : a / b = c / d
  · rw [ifp (lg_0.mpr (by rw [h])), ifp nb, ifp nd, ifp h]
  · rw [ifn (fun q => h ((pk_lEQ (by omega) (by omega)).mp (lg_0.mp q))), ifp nb, ifp nd, ifn h]
    by_cases h3 : a / b < c / d
    · rw [ifp (lg_le.mpr (fun q => absurd ((pk_lLT (by omega) (by omega)).mp q) (by omega))), ifp h3]
    · rw [ifn (fun q => (lg_le.mp q) ((pk_lLT (by omega) (by omega)).mpr (by omega))), ifn h3]
theorem x_cmp0 {a b c d st n : Nat} (hb : b < 2 ^ 63) (hd : d < 2 ^ 63) (h : b = 0 ∨ d = 0) (ha : b = 0 → 0 < a) (hc : d = 0 → 0 < c) (hst : st < 200) :
    fX5_compareFractions_17 (n + 1) (lN a) (lN b) (lN c) (lN d) (nI st) = some (sg (a * d) (c * b)) := by
  have e0 : fX5_compareFractions_17 (n + 1) (lN a) (lN b) (lN c) (lN d) (nI st) = fX5_compareFractions_39 (lN b) (lN d) := by
    rw [fX5_compareFractions_17, ifn (ge200 hst)]
    rcases h with h | h
    · rw [h, ifp lg_c0]
    · by_cases q : lg_cmp (lN b) 0 = 0
      · rw [ifp q]
      · rw [ifn q, h, ifp lg_c0]
  rw [e0, fX5_compareFractions_39]
  by_cases q1 : b = 0
  · have ha0 := ha q1
    rw [q1, ifp lg_c0, fX5_compareFractions_51, Nat.mul_zero]
    by_cases q2 : d = 0
    · rw [q2, ifp lg_c0, Nat.mul_zero]; rfl
    · have h3 : 0 < a * d := Nat.mul_pos ha0 (by omega)
      rw [ifn (fun q => q2 ((lN_0 hd).mp (lg_0.mp q))), sg, ifn (by omega), ifn (by omega)]
      rfl
  · have q2 : d = 0 := h.resolve_left q1
    have hc0 := hc q2
    have h3 : 0 < c * b := Nat.mul_pos hc0 (by omega)
    rw [ifn (fun q => q1 ((lN_0 hb).mp (lg_0.mp q))), q2, fX5_compareFractions_51, ifp lg_c0, Nat.mul_zero, sg, ifp h3]
    rfl
theorem x_cmpL : ∀ (j a b c d st n : Nat), a < 2 ^ 63 → b < 2 ^ j → j ≤ 63 → c < 2 ^ 63 → d < 2 ^ 63 → (b = 0 → 0 < a) → (d = 0 → 0 < c) → st + 2 * j < 200 → 2 * j < n → fX5_compareFractions_17 n (lN a) (lN b) (lN c) (lN d) (nI st) = some (sg (a * d) (c * b)) := by
  intro j
  induction j with
  | zero =>
    intro a b c d st n ha hb hj hc hd h1 h2 hst hn
    obtain ⟨n, rfl⟩ : ∃ n', n = n' + 1 := ⟨n - 1, by omega⟩
    have hb0 : b = 0 := by simpa using hb
    exact x_cmp0 (by omega) hd (Or.inl hb0) h1 h2 (by omega)
  | succ j ih =>
    intro a b c d st n ha hb hj hc hd h1 h2 hst hn
    obtain ⟨n, rfl⟩ : ∃ n', n = n' + 1 := ⟨n - 1, by omega⟩
    have hp : 2 ^ (j + 1) ≤ 2 ^ 63 := Nat.pow_le_pow_right (by omega) hj
    have hb63 : b < 2 ^ 63 := by omega
    by_cases q0 : b = 0 ∨ d = 0
    · exact x_cmp0 hb63 hd q0 h1 h2 (by omega)
    · have hb0 : 0 < b := by omega
      have hd0 : 0 < d := by omega
      rw [x_cmp1 ha hb63 hc hd hb0 hd0 (by omega)]
      by_cases q1 : a / b = c / d
      · rw [ifp q1, crs_eq q1]
        obtain ⟨n, rfl⟩ : ∃ n', n = n' + 1 := ⟨n - 1, by omega⟩
        have hr := Nat.mod_lt a hb0
        have hs := Nat.mod_lt c hd0
        by_cases q2 : c % d = 0 ∨ a % b = 0
        · exact x_cmp0 (by omega) (by omega) q2 (fun _ => hd0) (fun _ => hb0) (by omega)
        · have hr0 : 0 < a % b := by omega
          have hs0 : 0 < c % d := by omega
          rw [x_cmp1 hd (by omega) hb63 (by omega) hs0 hr0 (by omega)]
          by_cases q3 : d / (c % d) = b / (a % b)
          · rw [ifp q3, crs_eq q3]
            have hh := half_mod (x := b) (y := a % b) (by omega) hr0
            have hm := Nat.mod_lt d hs0
            rw [Nat.pow_succ] at hb
            exact ih (a % b) (b % (a % b)) (c % d) (d % (c % d)) (st + 1 + 1) n (by omega) (by omega) (by omega) (by omega) (by omega) (fun _ => hr0) (fun _ => hs0) (by omega) (by omega)
          · rw [ifn q3]
            by_cases q4 : d / (c % d) < b / (a % b)
            · have := crs_lt hs0 hr0 q4
              rw [ifp q4, sg, ifp this]
            · have := crs_lt hr0 hs0 (show b / (a % b) < d / (c % d) by omega)
              rw [ifn q4, sg, ifn (by omega), ifn (by omega)]
      · rw [ifn q1]
        by_cases q4 : a / b < c / d
        · have := crs_lt hb0 hd0 q4
          rw [ifp q4, sg, ifp this]
        · have := crs_lt hd0 hb0 (show c / d < a / b by omega)
          rw [ifn q4, sg, ifn (by omega), ifn (by omega)]
theorem x_cmp {a b c d : Nat} (ha : a < 2 ^ 63) (hb : b < 2 ^ 63) (hc : c < 2 ^ 63) (hd : d < 2 ^ 63) (hb0 : 0 < b) (hd0 : 0 < d) : fX5_compareFractions (lN a) (lN b) (lN c) (lN d) = some (sg (a * d) (c * b)) := by
  rw [fX5_compareFractions]
  exact x_cmpL 63 a b c d 0 1000 ha hb (by omega) hc hd (fun q => by omega) (fun q => by omega) (by omega) (by omega)
theorem m_more1 {a b c d n : Nat} (ha : a < 2 ^ 63) (hb : b < 2 ^ 63) (hc : c < 2 ^ 63) (hd : d < 2 ^ 63) (hb0 : 0 < b) (hd0 : 0 < d) :
    fX6_isMore (n + 1) (lN a) (lN b) (lN c) (lN d) = if a / b = c / d then (if a % b = 0 then some 0 else if c % d = 0 then some 1 else (fX6_isMore n (lN d) (lN (c % d)) (lN b) (lN (a % b))).bind (fun q_8 => (if q_8 &&& 1 = q_8 then some q_8 else none))) else some (if a / b < c / d then 0 else 1) := by
  have nb : ¬ lN b = 0 := fun q => absurd ((lN_0 hb).mp q) (by omega)
  have nd : ¬ lN d = 0 := fun q => absurd ((lN_0 hd).mp q) (by omega)
  have h1 : a / b ≤ a := Nat.div_le_self _ _
  have h2 : c / d ≤ c := Nat.div_le_self _ _
  have hr := Nat.mod_lt a hb0
  have hs := Nat.mod_lt c hd0
  rw [fX6_isMore, ifp nb, ifp nd, pk_lRem ha hb0 hb, pk_lRem hc hd0 hd, pk_lDiv ha hb0 hb, pk_lDiv hc hd0 hd]
  by_cases h : a / b = c / d
  · rw [ifp (lg_0.mpr (by rw [h])), ifp nb, ifp nd, ifp h]
    by_cases q : a % b = 0
    · rw [q, ifp lg_c0, ifp rfl, fX6_isMore_60, ifp (show lg_cmp (lN 0) 0 ≤ 0 by decide)]
    · have q' : ¬ lg_cmp (lN (a % b)) 0 = 0 := fun w => q ((lN_0 (by omega)).mp (lg_0.mp w))
      rw [ifn q', ifn q]
      by_cases q2 : c % d = 0
      · have q3 : ¬ lg_cmp (lN (a % b)) 0 ≤ 0 := fun w => (lg_le.mp w) ((pk_lLT (a := 0) (by omega) (by omega)).mpr (by omega))
        rw [q2, ifp lg_c0, ifp rfl, fX6_isMore_60, ifn q3]
      · rw [ifn (fun w => q2 ((lN_0 (by omega)).mp (lg_0.mp w))), ifn q2]
  · rw [ifn (fun q => h ((pk_lEQ (by omega) (by omega)).mp (lg_0.mp q))), ifn h]
    by_cases h3 : a / b < c / d
    · rw [ifp (lg_le.mpr (fun q => absurd ((pk_lLT (by omega) (by omega)).mp q) (by omega))), ifp h3]
    · rw [ifn (fun q => (lg_le.mp q) ((pk_lLT (by omega) (by omega)).mpr (by omega))), ifn h3]
theorem crs_iff {a b c d : Nat} (h : a / b = c / d) : c * b < a * d ↔ b * (c % d) < d * (a % b) := by
  have h1 := crs_eq h
  unfold sg at h1
  constructor
  · intro q
    rw [ifn (by omega), ifn (by omega)] at h1
    by_cases q1 : d * (a % b) < b * (c % d)
    · rw [ifp q1] at h1; exact absurd h1 (by decide)
    · rw [ifn q1] at h1
      by_cases q2 : d * (a % b) = b * (c % d)
      · rw [ifp q2] at h1; exact absurd h1 (by decide)
      · omega
  · intro q
    rw [ifn (show ¬ d * (a % b) < b * (c % d) by omega), ifn (show ¬ d * (a % b) = b * (c % d) by omega)] at h1
    by_cases q1 : a * d < c * b
    · rw [ifp q1] at h1; exact absurd h1 (by decide)
    · rw [ifn q1] at h1
      by_cases q2 : a * d = c * b
      · rw [ifp q2] at h1; exact absurd h1 (by decide)
      · omega
theorem m_moreL : ∀ (j a b c d n : Nat), a < 2 ^ 63 → b < 2 ^ j → j ≤ 63 → c < 2 ^ 63 → d < 2 ^ 63 → 0 < b → 0 < d → 2 * j < n → fX6_isMore n (lN a) (lN b) (lN c) (lN d) = some (bI (decide (c * b < a * d))) := by
  intro j
  induction j with
  | zero =>
    intro a b c d n ha hb hj hc hd h1 h2 hn
    have hb0 : b = 0 := by simpa using hb
    omega
  | succ j ih =>
    intro a b c d n ha hb hj hc hd hb0 hd0 hn
    obtain ⟨n, rfl⟩ : ∃ n', n = n' + 1 := ⟨n - 1, by omega⟩
    have hp : 2 ^ (j + 1) ≤ 2 ^ 63 := Nat.pow_le_pow_right (by omega) hj
    have hb63 : b < 2 ^ 63 := by omega
    have hr := Nat.mod_lt a hb0
    have hs := Nat.mod_lt c hd0
    have fin : ∀ {x : Bool} {P : Prop} [Decidable P], (x = true ↔ P) → some (bI x) = some (bI (decide P)) := by
      intro x P _ h
      by_cases q : P
      · rw [decide_eq_true q, h.mpr q]
      · have : x = false := by
          cases hx : x with
          | false => rfl
          | true => exact absurd (h.mp hx) q
        rw [decide_eq_false q, this]
    have one_step : ∀ {a b c d : Nat}, 0 < b → 0 < d → ¬ a / b = c / d → some (if a / b < c / d then (0 : Int32) else 1) = some (bI (decide (c * b < a * d))) := by
      intro a b c d hb0 hd0 q1
      by_cases q4 : a / b < c / d
      · have := crs_lt hb0 hd0 q4
        rw [ifp q4, decide_eq_false (by omega)]; rfl
      · have := crs_lt hd0 hb0 (show c / d < a / b by omega)
        rw [ifn q4, decide_eq_true this]; rfl
    rw [m_more1 ha hb63 hc hd hb0 hd0]
    by_cases q1 : a / b = c / d
    · have hci := crs_iff q1
      rw [ifp q1]
      by_cases q2 : a % b = 0
      · rw [ifp q2]
        refine fin (x := false) ⟨fun w => (by cases w), fun w => ?_⟩
        have := hci.mp w
        rw [q2, Nat.mul_zero] at this
        omega
      · rw [ifn q2]
        by_cases q3 : c % d = 0
        · rw [ifp q3]
          refine fin (x := true) ⟨fun _ => hci.mpr ?_, fun _ => rfl⟩
          rw [q3, Nat.mul_zero]
          exact Nat.mul_pos hd0 (by omega)
        · have hr0 : 0 < a % b := by omega
          have hs0 : 0 < c % d := by omega
          rw [ifn q3]
          have key : fX6_isMore n (lN d) (lN (c % d)) (lN b) (lN (a % b)) = some (bI (decide (b * (c % d) < d * (a % b)))) := by
            obtain ⟨n, rfl⟩ : ∃ n', n = n' + 1 := ⟨n - 1, by omega⟩
            rw [m_more1 hd (by omega) hb63 (by omega) hs0 hr0]
            by_cases q4 : d / (c % d) = b / (a % b)
            · have hci2 := crs_iff q4
              rw [ifp q4]
              by_cases q5 : d % (c % d) = 0
              · rw [ifp q5]
                refine fin (x := false) ⟨fun w => (by cases w), fun w => ?_⟩
                have := hci2.mp w
                rw [q5, Nat.mul_zero] at this
                omega
              · rw [ifn q5]
                by_cases q6 : b % (a % b) = 0
                · rw [ifp q6]
                  refine fin (x := true) ⟨fun _ => hci2.mpr ?_, fun _ => rfl⟩
                  rw [q6, Nat.mul_zero]
                  exact Nat.mul_pos hr0 (by omega)
                · have hh := half_mod (x := b) (y := a % b) (by omega) hr0
                  have hm := Nat.mod_lt d hs0
                  rw [Nat.pow_succ] at hb
                  rw [ifn q6, ih (a % b) (b % (a % b)) (c % d) (d % (c % d)) n (by omega) (by omega) (by omega) (by omega) (by omega) (by omega) (by omega) (by omega), ob, ifp (bI_and _)]
                  refine fin ?_
                  rw [decide_eq_true_eq]
                  exact hci2.symm
            · rw [ifn q4]
              exact one_step hs0 hr0 q4
          rw [key, ob, ifp (bI_and _)]
          refine fin ?_
          rw [decide_eq_true_eq]
          exact hci.symm
    · rw [ifn q1]
      exact one_step hb0 hd0 q1
theorem m_more {a b c d : Nat} (ha : a < 2 ^ 63) (hb : b < 2 ^ 63) (hc : c < 2 ^ 63) (hd : d < 2 ^ 63) (hb0 : 0 < b) (hd0 : 0 < d) : fX6_isMore 200 (lN a) (lN b) (lN c) (lN d) = some (bI (decide (c * b < a * d))) := m_moreL 63 a b c d 200 ha hb (by omega) hc hd hb0 hd0 (by omega)
/-! all by kinds -/
def NN (s : Nat → Nat) (k : Nat) : Nat := tot k (s 4) (s 0) (s 1) (s 2) (s 0 - 1) (fun _ o _ => o)
def DD (s : Nat → Nat) (k : Nat) : Nat := tot k (s 4) (s 0) (s 1) (s 2) (s 0 - 1) (fun _ o z => o + z)
def mor (s : Nat → Nat) (a b : Nat) : Bool := decide (NN s b * DD s a < NN s a * DD s b)
def sel (s : Nat → Nat) (l : Nat) : Nat → Nat → Nat → Nat
  | 0, _, b => b
  | n + 1, v, b => sel s l n (v + 1) (if (if l = 0 then mor s v b else mor s b v) then v else b)
theorem NN_DD {s : Nat → Nat} (hs : Vs s) (k : Nat) : NN s k ≤ 10 * 12 ^ 10 ∧ DD s k ≤ 10 * 12 ^ 10 ∧ 0 < DD s k := by
  have h3 : 12 ^ (s 0 - 1 + 1) ≤ 12 ^ 10 := Nat.pow_le_pow_right (by omega) (by have := hs.2.1; have := hs.1; omega)
  have h1 : NN s k ≤ 10 * 12 ^ (s 0 - 1 + 1) := tot_le2 hs.1 hs.2.2.2.1 (by omega) (fun e o z q1 q2 => by have := hs.2.1; omega)
  have h2 : DD s k ≤ 10 * 12 ^ (s 0 - 1 + 1) := tot_le2 hs.1 hs.2.2.2.1 (by omega) (fun e o z q1 q2 => by have := hs.2.1; omega)
  have h4 : 12 ^ (s 0 - 1 + 1) ≤ DD s k := tot_ge hs.1 hs.2.2.2.1 (by omega) (fun e o z q1 q2 => q1)
  have h5 := pw_pos (s 0 - 1 + 1)
  exact ⟨by omega, by omega, by omega⟩
theorem fr_1 {N D : Nat} (hD : 0 < D) : 0 < fr N D 1 ∧ fr N D 0 * D = N * fr N D 1 ∧ (fr N D 0 ≤ N ∧ fr N D 1 ≤ D) := by
  unfold fr
  by_cases h : N = 0
  · rw [ifp h, ifp h, h]
    exact ⟨by omega, by simp, by omega, by omega⟩
  · have g0 : 0 < Nat.gcd N D := Nat.gcd_pos_of_pos_right _ hD
    have g1 : Nat.gcd N D ≤ D := Nat.gcd_le_right _ hD
    rw [ifn h, ifn h, ifp rfl, ifn (by omega)]
    refine ⟨Nat.div_pos g1 g0, ?_, Nat.div_le_self _ _, Nat.div_le_self _ _⟩
    rw [Nat.div_mul_right_comm (Nat.gcd_dvd_left N D), Nat.mul_div_assoc _ (Nat.gcd_dvd_right N D)]
theorem cross {pa qa Na Da pb qb Nb Db : Nat} (ha : pa * Da = Na * qa) (hb : pb * Db = Nb * qb) (q1 : 0 < qa) (q2 : 0 < qb) (d1 : 0 < Da) (d2 : 0 < Db) : pb * qa < pa * qb ↔ Nb * Da < Na * Db := by
  have e1 : pb * qa * (Da * Db) = Nb * Da * (qa * qb) := by
    calc pb * qa * (Da * Db) = pb * Db * (qa * Da) := by simp only [Nat.mul_assoc, Nat.mul_comm, Nat.mul_left_comm]
      _ = Nb * qb * (qa * Da) := by rw [hb]
      _ = Nb * Da * (qa * qb) := by simp only [Nat.mul_assoc, Nat.mul_comm, Nat.mul_left_comm]
  have e2 : pa * qb * (Da * Db) = Na * Db * (qa * qb) := by
    calc pa * qb * (Da * Db) = pa * Da * (qb * Db) := by simp only [Nat.mul_assoc, Nat.mul_comm, Nat.mul_left_comm]
      _ = Na * qa * (qb * Db) := by rw [ha]
      _ = Na * Db * (qa * qb) := by simp only [Nat.mul_assoc, Nat.mul_comm, Nat.mul_left_comm]
  have p1 : 0 < Da * Db := Nat.mul_pos d1 d2
  have p2 : 0 < qa * qb := Nat.mul_pos q1 q2
  constructor
  · intro h
    have h2 := Nat.mul_lt_mul_of_pos_right h p1
    rw [e1, e2] at h2
    exact Nat.lt_of_mul_lt_mul_right h2
  · intro h
    have h2 := Nat.mul_lt_mul_of_pos_right h p2
    rw [← e1, ← e2] at h2
    exact Nat.lt_of_mul_lt_mul_right h2
theorem scl {x y z w C : Nat} (hC : 0 < C) : x * C * (y * C) < z * C * (w * C) ↔ x * y < z * w := by
  rw [Nat.mul_mul_mul_comm x C y C, Nat.mul_mul_mul_comm z C w C]
  have p1 : 0 < C * C := Nat.mul_pos hC hC
  exact ⟨fun h => Nat.lt_of_mul_lt_mul_right h, fun h => Nat.mul_lt_mul_of_pos_right h p1⟩
theorem sg_p {x y : Nat} : 0 < sg x y ↔ y < x := by
  unfold sg
  by_cases h1 : x < y
  · rw [ifp h1]; exact ⟨fun q => absurd q (by decide), fun q => by omega⟩
  · rw [ifn h1]
    by_cases h2 : x = y
    · rw [ifp h2]; exact ⟨fun q => absurd q (by decide), fun q => by omega⟩
    · rw [ifn h2]; exact ⟨fun _ => by omega, fun _ => by decide⟩
theorem sg_n {x y : Nat} : sg x y < 0 ↔ x < y := by
  unfold sg
  by_cases h1 : x < y
  · rw [ifp h1]; exact ⟨fun _ => h1, fun _ => by decide⟩
  · rw [ifn h1]
    by_cases h2 : x = y
    · rw [ifp h2]; exact ⟨fun q => absurd q (by decide), fun q => absurd q h1⟩
    · rw [ifn h2]; exact ⟨fun q => absurd q (by decide), fun q => absurd q h1⟩
theorem ite_lt {c : Prop} [Decidable c] {a b n : Nat} (ha : a < n) (hb : b < n) : (if c then a else b) < n := by split <;> assumption
theorem exr {A : Option Int32} {v : Int32} (h : A = some v) : ∃ r, A = some r ∧ r = v := ⟨v, h, rfl⟩
theorem x_cmpAll {σ : Mm} {s : Nat → Nat} (hs : Vs s) (hTO : TO σ 1 s) (hT : RT σ) {a b : Nat} (ha : a < 6) (hb : b < 6) (hab : a ≠ b) :
    ∃ (r : Int32) (σ' : Mm), fX5_compareAll (nI a) (nI b) σ = some (r, σ') ∧ RT σ' ∧ (∀ x y, x < 14 → gI σ' x y = gI σ x y) ∧ (0 < r ↔ mor s a b = true) ∧ (r < 0 ↔ mor s b a = true) := by
  obtain ⟨σ1, ee1, a1, a2, a3, a4, a5, a6, a7⟩ := x_tallyOf hs hTO hT ha
  have hTO1 : TO σ1 1 s := TO_same hTO (fun y => a3.1 _ y (by omega)) (fun y => a3.1 _ y (by omega)) (fun y => a3.1 _ y (by omega))
  obtain ⟨σ2, ee2, b1, b2, b3, b4, b5, b6, b7⟩ := x_tallyOf hs hTO1 a4 hb
  have hm1 := hs.1
  have hm := hs.2.1
  have hC1 : Cel σ2 (14 + 3 * a + 1) ee1 := fun j hj => by rw [b3.2 _ _ (by omega) (by omega) (by omega)]; exact a6 j hj
  have h41 : gI σ2 (14 + 3 * a) 4 = nI (s 0) := by rw [b3.1 _ _ (by omega)]; exact a5.2.2.1
  have s1 : fX1_sum (14 + 3 * a) 1 0 σ2 = _ := x_sum (a := 1) (b := 0) hm1 hm h41 hC1 a7 (by omega) (by omega)
  have s2 : fX1_sum (14 + 3 * a) 0 0 σ2 = _ := x_sum (a := 0) (b := 0) hm1 hm h41 hC1 a7 (by omega) (by omega)
  have s3 : fX1_sum (14 + 3 * b) 1 0 σ2 = _ := x_sum (a := 1) (b := 0) hm1 hm b5.2.2.1 b6 b7 (by omega) (by omega)
  have s4 : fX1_sum (14 + 3 * b) 0 0 σ2 = _ := x_sum (a := 0) (b := 0) hm1 hm b5.2.2.1 b6 b7 (by omega) (by omega)
  have n : ∀ k, tot k (s 4) (s 0) (s 1) (s 2) 9 (fun _ o z => xms 1 0 o z) = NN s k * 12 ^ (10 - s 0) := fun k => tot_two hm1 hm (fun e o z _ _ => rfl)
  have d : ∀ k, tot k (s 4) (s 0) (s 1) (s 2) 9 (fun _ o z => xms 0 0 o z) = DD s k * 12 ^ (10 - s 0) := fun k => tot_two hm1 hm (fun e o z _ _ => rfl)
  have bn : ∀ k, tot k (s 4) (s 0) (s 1) (s 2) 9 (fun _ o z => xms 1 0 o z) ≤ 2520 * 12 ^ (9 + 1) := fun k => tot_le2 hm1 hs.2.2.2.1 (by omega) (fun e o z q1 q2 => xms_le hm q1 q2)
  have bd : ∀ k, tot k (s 4) (s 0) (s 1) (s 2) 9 (fun _ o z => xms 0 0 o z) ≤ 2520 * 12 ^ (9 + 1) := fun k => tot_le2 hm1 hs.2.2.2.1 (by omega) (fun e o z q1 q2 => xms_le hm q1 q2)
  have pd : ∀ k, 0 < tot k (s 4) (s 0) (s 1) (s 2) 9 (fun _ o z => xms 0 0 o z) := fun k => by rw [d k]; exact Nat.mul_pos (NN_DD hs k).2.2 (pw_pos _)
  have bn1 := bn a
  have bn2 := bn b
  have bd1 := bd a
  have bd2 := bd b
  have hcmp := x_cmp (show _ < 2 ^ 63 by omega) (show _ < 2 ^ 63 by omega) (show _ < 2 ^ 63 by omega) (show _ < 2 ^ 63 by omega) (pd a) (pd b) (a := tot a (s 4) (s 0) (s 1) (s 2) 9 (fun _ o z => xms 1 0 o z)) (c := tot b (s 4) (s 0) (s 1) (s 2) 9 (fun _ o z => xms 1 0 o z))
  obtain ⟨r, hcmp, hr⟩ := exr hcmp
  refine ⟨r, σ2, ?_, b4, fun x y h => (b3.1 x y (by omega)).trans (a3.1 x y (by omega)), ?_, ?_⟩
  · rw [fX5_compareAll, a1, ob, ifp a2, b1, ob, ifp b2, s1, ob, s2, ob, s3, ob, s4, ob, hcmp, ob]
  · rw [hr, sg_p, mor, decide_eq_true_eq, n a, n b, d a, d b]
    exact scl (pw_pos _)
  · rw [hr, sg_n, mor, decide_eq_true_eq, n a, n b, d a, d b]
    exact scl (pw_pos _)
theorem x_shiftL {s : Nat → Nat} (hs : Vs s) {l : Nat} (hl : l ≤ 1) : ∀ (n N v b : Nat) (σ : Mm), v + n = 6 → n < N → b < v → TO σ 1 s → RT σ →
    ∃ σ', fX5_shift_18 N (nI l) (nI b) (nI v) σ = some (nI (sel s l n v b), σ') ∧ RT σ' ∧ (∀ x y, x < 14 → gI σ' x y = gI σ x y) := by
  intro n
  induction n with
  | zero =>
    intro N v b σ hv hN hb hTO hT
    obtain ⟨N, rfl⟩ : ∃ N', N = N' + 1 := ⟨N - 1, by omega⟩
    have h6 : v = 6 := by omega
    subst h6
    exact ⟨σ, by rw [fX5_shift_18, ifp (show (6 : Int32) ≤ nI 6 by decide)]; rfl, hT, fun _ _ _ => rfl⟩
  | succ n ih =>
    intro N v b σ hv hN hb hTO hT
    obtain ⟨N, rfl⟩ : ∃ N', N = N' + 1 := ⟨N - 1, by omega⟩
    obtain ⟨r, σ1, a1, a2, a3, a4, a5⟩ := x_cmpAll hs hTO hT (show v < 6 by omega) (show b < 6 by omega) (by omega)
    have hTO1 : TO σ1 1 s := TO_same hTO (fun y => a3 _ y (by omega)) (fun y => a3 _ y (by omega)) (fun y => a3 _ y (by omega))
    have e0 : fX5_shift_18 (N + 1) (nI l) (nI b) (nI v) σ = fX5_shift_18 N (nI l) (nI (if (if l = 0 then mor s v b else mor s b v) then v else b)) (nI (v + 1)) σ1 := by
      rw [fX5_shift_18, ifn (ge6 (by omega)), a1, ob]
      rcases (show l = 0 ∨ l = 1 by omega) with rfl | rfl
      · rw [ifp (show nI 0 = 0 from rfl), ifp rfl]
        by_cases q : mor s v b = true
        · rw [ifn (show ¬ r ≤ 0 from nlt (a4.mpr q)), fX5_shift_49, fX5_shift_51, nI_1, ifp q]
        · rw [ifp (show r ≤ 0 from le_of (fun w => q (a4.mp w))), fX5_shift_51, nI_1, ifn q]
      · rw [ifn (show ¬ nI 1 = 0 by decide), ifn (show ¬ 1 = 0 by omega)]
        by_cases q : mor s b v = true
        · rw [ifn (show ¬ 0 ≤ r from nlt (a5.mpr q)), fX5_shift_49, fX5_shift_51, nI_1, ifp q]
        · rw [ifp (show 0 ≤ r from le_of (fun w => q (a5.mp w))), fX5_shift_51, nI_1, ifn q]
    obtain ⟨σ', b1, b2, b3⟩ := ih N (v + 1) (if (if l = 0 then mor s v b else mor s b v) then v else b) σ1 (by omega) (by omega) (ite_lt (by omega) (by omega)) hTO1 a2
    exact ⟨σ', e0.trans b1, b2, fun x y h => (b3 x y h).trans (a3 x y h)⟩
theorem mor_fr {s : Nat → Nat} (hs : Vs s) {a b : Nat} : decide (fr (NN s b) (DD s b) 0 * fr (NN s a) (DD s a) 1 < fr (NN s a) (DD s a) 0 * fr (NN s b) (DD s b) 1) = mor s a b := by
  obtain ⟨a1, a2, -⟩ := fr_1 (N := NN s a) (NN_DD hs a).2.2
  obtain ⟨b1, b2, -⟩ := fr_1 (N := NN s b) (NN_DD hs b).2.2
  have h := cross a2 b2 a1 b1 (NN_DD hs a).2.2 (NN_DD hs b).2.2
  unfold mor
  by_cases q : NN s b * DD s a < NN s a * DD s b
  · rw [decide_eq_true q, decide_eq_true (h.mpr q)]
  · rw [decide_eq_false q, decide_eq_false (fun w => q (h.mp w))]
theorem m_ask {s : Nat → Nat} (hs : Vs s) {v : Nat} (hv : v < 6) {τ : Mm} (hM : MO τ 2 s) : ∃ τ', fX6_finds (nI v) τ = some τ' ∧ τ'.1 = τ.1 ∧ fX6_part (gL τ' 0 11) (gL τ' 0 10) (0 : Int32) = some (lN (fr (NN s v) (DD s v) 0)) ∧ fX6_part (gL τ' 0 11) (gL τ' 0 10) (1 : Int32) = some (lN (fr (NN s v) (DD s v) 1)) := by
  obtain ⟨τ', b1, b2, b3, b4⟩ := m_finds (S := gI τ 0 20) (A := gI τ 0 21) (B := gI τ 0 22) hs hv hM rfl rfl rfl
  have g10 : gL τ' 0 10 = lN (DD s v) := b4 10 (by omega) (by omega) (by omega)
  have g11 : gL τ' 0 11 = lN (NN s v) := b4 11 (by omega) (by omega) (by omega)
  obtain ⟨n1, n2, n3⟩ := NN_DD hs v
  refine ⟨τ', b1, b2, ?_, ?_⟩
  · rw [g10, g11]
    exact m_frac (p := 0) (by omega) (by omega) n3 (by omega)
  · rw [g10, g11]
    exact m_frac (p := 1) (by omega) (by omega) n3 (by omega)
theorem m_shiftL {s : Nat → Nat} (hs : Vs s) {l : Nat} (hl : l ≤ 1) : ∀ (n N v b : Nat) (τ : Mm), v + n = 6 → n < N → b < 6 → MO τ 2 s →
    ∃ τ', fX6_shift_26 N (nI l) (nI b) (lN (fr (NN s b) (DD s b) 0)) (lN (fr (NN s b) (DD s b) 1)) (nI v) τ = some (nI (sel s l n v b), τ') ∧ τ'.1 = τ.1 := by
  intro n
  induction n with
  | zero =>
    intro N v b τ hv hN hb hM
    obtain ⟨N, rfl⟩ : ∃ N', N = N' + 1 := ⟨N - 1, by omega⟩
    have h6 : v = 6 := by omega
    subst h6
    exact ⟨τ, by rw [fX6_shift_26, ifp (show (6 : Int32) ≤ nI 6 by decide)]; rfl, rfl⟩
  | succ n ih =>
    intro N v b τ hv hN hb hM
    obtain ⟨N, rfl⟩ : ∃ N', N = N' + 1 := ⟨N - 1, by omega⟩
    obtain ⟨τ1, a1, a2, a3, a4⟩ := m_ask hs (show v < 6 by omega) hM
    obtain ⟨v1, v2, v3, v4⟩ := fr_1 (N := NN s v) (NN_DD hs v).2.2
    obtain ⟨w1, w2, w3, w4⟩ := fr_1 (N := NN s b) (NN_DD hs b).2.2
    have nv := NN_DD hs v
    have nb := NN_DD hs b
    have e0 : fX6_shift_26 (N + 1) (nI l) (nI b) (lN (fr (NN s b) (DD s b) 0)) (lN (fr (NN s b) (DD s b) 1)) (nI v) τ = fX6_shift_26 N (nI l) (nI (if (if l = 0 then mor s v b else mor s b v) then v else b)) (lN (fr (NN s (if (if l = 0 then mor s v b else mor s b v) then v else b)) (DD s (if (if l = 0 then mor s v b else mor s b v) then v else b)) 0)) (lN (fr (NN s (if (if l = 0 then mor s v b else mor s b v) then v else b)) (DD s (if (if l = 0 then mor s v b else mor s b v) then v else b)) 1)) (nI (v + 1)) τ1 := by
      rw [fX6_shift_26, ifn (ge6 (by omega)), a1, ob, a3, ob, a4, ob]
      rcases (show l = 0 ∨ l = 1 by omega) with rfl | rfl
      · rw [ifp (show nI 0 = 0 from rfl), ifp rfl, m_more (by omega) (by omega) (by omega) (by omega) v1 w1, ob, mor_fr hs, fX6_shift_94, ifn (nI_pos (by omega))]
        by_cases q : mor s v b = true
        · rw [q, ifn (show ¬ bI true = 0 by decide), fX6_shift_108, fX6_shift_118, nI_1, ifp rfl]
        · have q' : mor s v b = false := by simpa using q
          rw [q', ifp (show bI false = 0 from rfl), fX6_shift_118, nI_1, ifn (by decide)]
      · rw [ifn (show ¬ nI 1 = 0 by decide), ifn (show ¬ 1 = 0 by omega), m_more (by omega) (by omega) (by omega) (by omega) w1 v1, ob, mor_fr hs, fX6_shift_94, ifn (nI_pos (by omega))]
        by_cases q : mor s b v = true
        · rw [q, ifn (show ¬ bI true = 0 by decide), fX6_shift_108, fX6_shift_118, nI_1, ifp rfl]
        · have q' : mor s b v = false := by simpa using q
          rw [q', ifp (show bI false = 0 from rfl), fX6_shift_118, nI_1, ifn (by decide)]
    obtain ⟨τ', b1, b2⟩ := ih N (v + 1) (if (if l = 0 then mor s v b else mor s b v) then v else b) τ1 (by omega) (by omega) (ite_lt (by omega) (by omega)) (MO_1 a2 hM)
    exact ⟨τ', e0.trans b1, b2.trans a2⟩
theorem G15 : lawG_15 Rel := by
  intro a0 σ τ hR
  have hRel := hR
  obtain ⟨s, g, im, tx, tn, rn, rb, rf, hV, hX, hT, hM⟩ := hR
  have hs := hV.1
  rcases two a0 with ⟨h1, h2⟩ | ⟨l, hl, rfl⟩
  · refine ⟨-2, _, _, ?_, ?_, Rel_ref 1 (by omega) hRel⟩
    · rw [fX5_shift, x_nsb h1, ob, ifn (by decide), x_ref2]; rfl
    · rw [fX6_shift, m_ii0 h2, ob, ifp rfl, m_ref2]; rfl
  · obtain ⟨σ', a1, a2, a3⟩ := x_shiftL hs hl 5 1000 1 0 σ (by omega) (by omega) (by omega) hX.1 hT
    obtain ⟨τ1, b1, b2, b3, b4⟩ := m_ask hs (show 0 < 6 by omega) hM.1
    obtain ⟨τ', c1, c2⟩ := m_shiftL hs hl 5 999 1 0 τ1 (by omega) (by omega) (by omega) (MO_1 b2 hM.1)
    obtain ⟨v1, v2, v3, v4⟩ := fr_1 (N := NN s 0) (NN_DD hs 0).2.2
    have n0 := NN_DD hs 0
    have i2 : fX6_isIn (nI l) 2 = some 1 := m_iio (n := 2) (by omega) (by omega)
    refine ⟨nI (sel s l 5 1 0), σ', τ', ?_, ?_, Rel_of hV (RX_same a3 hX) a2 (RM_1 (c2.trans b2) hM)⟩
    · have a1' : fX5_shift_18 1000 (nI l) 0 1 σ = _ := a1
      rw [fX5_shift, x_nso hl, ob, ifp rfl, a1']
    · have b1' : fX6_finds 0 τ = some τ1 := b1
      have c1' : fX6_shift_26 999 (nI l) 0 (lN (fr (NN s 0) (DD s 0) 0)) (lN (fr (NN s 0) (DD s 0) 1)) (0 + 1) τ1 = _ := c1
      have m1 := m_more (a := fr (NN s 0) (DD s 0) 0) (b := fr (NN s 0) (DD s 0) 1) (c := 0) (d := 1) (by omega) (by omega) (by omega) (by omega) v1 (by omega)
      have m2 := m_more (c := fr (NN s 0) (DD s 0) 0) (d := fr (NN s 0) (DD s 0) 1) (a := 0) (b := 1) (by omega) (by omega) (by omega) (by omega) (by omega) v1
      have m1' : fX6_isMore 200 (lN (fr (NN s 0) (DD s 0) 0)) (lN (fr (NN s 0) (DD s 0) 1)) 0 1 = _ := m1
      have m2' : fX6_isMore 200 0 1 (lN (fr (NN s 0) (DD s 0) 0)) (lN (fr (NN s 0) (DD s 0) 1)) = _ := m2
      rw [fX6_shift, i2, ob, ifn (by decide), show (1000 : Nat) = 999 + 1 from rfl, fX6_shift_26, ifn (by decide), b1', ob, b3, ob, b4, ob]
      by_cases q : nI l = 0
      · rw [ifp q, m1', ob, fX6_shift_94, ifp (by decide), fX6_shift_108, fX6_shift_118, c1']
      · rw [ifn q, m2', ob, fX6_shift_94, ifp (by decide), fX6_shift_108, fX6_shift_118, c1']
