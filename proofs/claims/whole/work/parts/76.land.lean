/-! land: the letters -/
def At (tx : Nat → Nat) (tn p : Nat) : Int32 := if p < tn then nI (tx p) else -1
def isD (hi : Nat) (x : Int32) : Bool := !(decide (x < 48)) && !(decide (nI hi < x))
/-- how many digits, so many at most -/
def dg (tx : Nat → Nat) (tn hi : Nat) : Nat → Nat → Nat
  | 0, _ => 0
  | m + 1, p => if isD hi (At tx tn p) then dg tx tn hi m (p + 1) + 1 else 0
def dgs (tx : Nat → Nat) (tn hi m p : Nat) : Nat × Bool := if dg tx tn hi m p = 0 then (p, false) else (p + dg tx tn hi m p, true)
def kd (x : Int32) : Int32 := if x = 97 then 2 else if x = 98 then 5 else if x = 99 then 1 else if x = 101 then 3 else if x = 114 then 4 else if x = 116 then 0 else -1
def semi (tx : Nat → Nat) (tn : Nat) (q : Nat × Bool) : Nat × Bool := if q.2 then (if At tx tn q.1 = 59 then (q.1 + 1, true) else (q.1, false)) else q
def body (tx : Nat → Nat) (tn p : Nat) : Nat × Bool :=
  if At tx tn p = 99 then dgs tx tn 57 2 (p + 1)
  else if At tx tn p = 102 then dgs tx tn 49 10 (p + 1)
  else if At tx tn p = 108 then (if 0 ≤ kd (At tx tn (p + 1)) then dgs tx tn 57 1 (p + 2) else (p + 1, false))
  else if At tx tn p = 109 then dgs tx tn 57 2 (p + 1)
  else if At tx tn p = 110 then (if At tx tn (p + 1) = 43 ∨ At tx tn (p + 1) = 45 then dgs tx tn 57 1 (p + 2) else (p + 1, false))
  else (p, false)
def stm (tx : Nat → Nat) (tn p : Nat) : Nat × Bool := semi tx tn (body tx tn p)
def enc (q : Nat × Bool) : Int32 := if q.2 then nI q.1 else -1 - nI q.1
def nv (tx : Nat → Nat) (tn : Nat) : Nat → Nat → Int32 → Int32
  | 0, _, x => x
  | k + 1, p, x => nv tx tn k (p + 1) (10 * x + At tx tn p - 48)
/-- the sorts of the first j digits -/
def fbt (tx : Nat → Nat) (p : Nat) : Nat → Nat
  | 0 => 0
  | j + 1 => fbt tx p j + (tx (p + j) - 48) * 2 ^ j
def TX (σ : Mm) (tx : Nat → Nat) (tn : Nat) : Prop := gI σ 10 1 = nI tn ∧ ∀ k, k < tn → gI σ 11 k = nI (tx k)
def TM (τ : Mm) (tx : Nat → Nat) (tn : Nat) : Prop := gI τ 0 7 = nI tn ∧ ∀ k, k < tn → gI τ 5 k = nI (tx k)
/-- the reference: all but the place and the numbers read -/
def FR (τ τ' : Mm) : Prop := ∀ a b, a ≠ 6 → ¬ (a = 0 ∧ b = 8) → gI τ' a b = gI τ a b
theorem FR_rf {τ : Mm} : FR τ τ := fun _ _ _ _ => rfl
theorem FR_tr {τ τ' τ'' : Mm} (h : FR τ τ') (h2 : FR τ' τ'') : FR τ τ'' := fun a b h3 h4 => (h2 a b h3 h4).trans (h a b h3 h4)
theorem FR_8 {τ : Mm} {v : Int32} : FR τ (pI τ 0 8 v) := fun a b h3 h4 => by rw [gI_pI, ifn h4]
theorem FR_6 {τ : Mm} {k : Nat} {v : Int32} : FR τ (pI τ 6 k v) := fun a b h3 h4 => by rw [gI_pI, ifn (fun q => h3 q.1)]
theorem FR_TM {τ τ' : Mm} {tx : Nat → Nat} {tn : Nat} (h : FR τ τ') (hT : TM τ tx tn) : TM τ' tx tn := ⟨by rw [h 0 7 (by omega) (by omega)]; exact hT.1, fun k hk => by rw [h 5 k (by omega) (by omega)]; exact hT.2 k hk⟩
section LAND
variable {tx : Nat → Nat} {tn : Nat}
theorem dg_le {hi : Nat} : ∀ m p, dg tx tn hi m p ≤ m
  | 0, _ => Nat.le_refl _
  | m + 1, p => by
    have h := dg_le (hi := hi) m (p + 1)
    simp only [dg]
    split <;> omega
theorem dg_at {hi : Nat} : ∀ m p j, j < dg tx tn hi m p → isD hi (At tx tn (p + j)) = true
  | 0, p, j, h => by simp [dg] at h
  | m + 1, p, j, h => by
    simp only [dg] at h
    by_cases h1 : isD hi (At tx tn p) = true
    · rw [ifp h1] at h
      cases j with
      | zero => exact h1
      | succ j =>
        have h2 := dg_at (hi := hi) m (p + 1) j (by omega)
        rw [show p + (j + 1) = p + 1 + j by omega]
        exact h2
    · rw [ifn h1] at h
      omega
theorem dg_s {hi m p : Nat} : dg tx tn hi (m - m) p = 0 := by rw [Nat.sub_self]; rfl
theorem dg_t {hi m j p : Nat} (hj : j < m) (h : isD hi (At tx tn (p + j)) = true) : dg tx tn hi (m - j) (p + j) = dg tx tn hi (m - (j + 1)) (p + (j + 1)) + 1 := by
  rw [show m - j = (m - (j + 1)) + 1 by omega, dg, ifp h]
  rfl
theorem dg_f {hi m j p : Nat} (h : ¬ isD hi (At tx tn (p + j)) = true) : dg tx tn hi (m - j) (p + j) = 0 := by
  cases hm : m - j with
  | zero => rfl
  | succ k => rw [dg, ifn h]
theorem isD_v {hi p : Nat} (hhi : hi ≤ 57) (htx : ∀ k, k < tn → tx k < 256) (h : isD hi (At tx tn p) = true) : p < tn ∧ 48 ≤ tx p ∧ tx p ≤ hi := by
  unfold At at h
  by_cases hp : p < tn
  · rw [ifp hp] at h
    have h1 := htx p hp
    simp only [isD, Bool.and_eq_true, Bool.not_eq_true', decide_eq_false_iff_not] at h
    obtain ⟨h2, h3⟩ := h
    rw [show (48 : Int32) = nI 48 from rfl, nI_ltI (by omega) (by omega)] at h2
    rw [nI_ltI (by omega) (by omega)] at h3
    omega
  · rw [ifn hp] at h
    simp only [isD, Bool.and_eq_true, Bool.not_eq_true', decide_eq_false_iff_not] at h
    exact absurd (show (-1 : Int32) < 48 by decide) h.1
theorem isD_f {hi p : Nat} (hhi : hi ≤ 57) (htx : ∀ k, k < tn → tx k < 256) (h : ¬ isD hi (At tx tn p) = true) : At tx tn p < 48 ∨ nI hi < At tx tn p := by
  by_cases h1 : At tx tn p < 48
  · exact Or.inl h1
  · by_cases h2 : nI hi < At tx tn p
    · exact Or.inr h2
    · exact absurd (by simp [isD, h1, h2]) h
theorem At_rng (htx : ∀ k, k < tn → tx k < 256) (p : Nat) : -1 ≤ (At tx tn p).toInt ∧ (At tx tn p).toInt < 256 := by
  unfold At
  by_cases hp : p < tn
  · have h1 := htx p hp
    rw [ifp hp, nI_toInt (by omega)]
    omega
  · rw [ifn hp]
    decide
theorem isD_10 {p : Nat} (htx : ∀ k, k < tn → tx k < 256) : isD 57 (At tx tn p) = true ↔ ¬ (At tx tn p - 48 < 0 ∨ (10 : Int32) ≤ At tx tn p - 48) := by
  have h1 := At_rng htx p
  have e48 : (48 : Int32).toInt = 48 := rfl
  have e10 : (10 : Int32).toInt = 10 := rfl
  have e57 : (nI 57).toInt = 57 := rfl
  have e0 : (0 : Int32).toInt = 0 := rfl
  have hs : (At tx tn p - 48).toInt = (At tx tn p).toInt - 48 := by rw [fb_subI (by omega) (by omega), e48]
  simp only [isD, Bool.and_eq_true, Bool.not_eq_true', decide_eq_false_iff_not, fa_lt, fa_le, hs, e48, e10, e57, e0]
  omega
theorem x_at {σ : Mm} (h : TX σ tx tn) (htn : tn ≤ 64) {p : Nat} (hp : p < 2 ^ 20) : fX2_at (nI p) σ = some (At tx tn p) := by
  rw [fX2_at, ifn (nI_pos (by omega)), h.1]
  by_cases h1 : p < tn
  · rw [ifn (by rw [nI_leI (by omega) (by omega)]; omega), ifn (ge64 (by omega)), ifp (ci_nI (by omega) (by omega)), nI_cl (by omega), h.2 p h1, At, ifp h1]
  · rw [ifp (nI_le (by omega) (by omega)), At, ifn h1]
theorem m_sign {τ : Mm} (h : TM τ tx tn) (htn : tn ≤ 64) {p : Nat} (hp : p < 2 ^ 20) (h8 : gI τ 0 8 = nI p) : fX6_sign τ = some (At tx tn p) := by
  rw [fX6_sign, h.1, h8]
  by_cases h1 : p < tn
  · rw [ifn (by rw [nI_leI (by omega) (by omega)]; omega), ifp (ci_nI (by omega) (by omega)), nI_cl (by omega), h.2 p h1, At, ifp h1]
  · rw [ifp (nI_le (by omega) (by omega)), At, ifn h1]
theorem x_38 {σ : Mm} {p j : Nat} (hp : p + j < 2 ^ 20) : fX2_endOfDigits_38 σ (nI p) (nI (p + j)) = some (enc (if j = 0 then (p, false) else (p + j, true))) := by
  rw [fX2_endOfDigits_38]
  by_cases h : j = 0
  · subst h
    rw [ifp (show nI (p + 0) = nI p from rfl), ifp rfl]
    rfl
  · rw [ifn (by rw [nI_eq (by omega) (by omega)]; omega), ifn h]
    rfl
theorem x_dgL {σ : Mm} (h : TX σ tx tn) (htn : tn ≤ 64) {hi m p : Nat} (hp : p < 2 ^ 10) (hm : m ≤ 10) : ∀ (n j : Nat), j ≤ m → m - j < n → fX2_endOfDigits_3 σ n (nI p) (nI hi) (nI m) (nI (p + j)) = some (enc (if j + dg tx tn hi (m - j) (p + j) = 0 then (p, false) else (p + (j + dg tx tn hi (m - j) (p + j)), true))) := by
  intro n
  induction n with
  | zero => intro j _ h; omega
  | succ n ih =>
    intro j hj hn
    by_cases h8 : j = m
    · subst h8
      rw [fX2_endOfDigits_3, pk_sub (show p ≤ p + j by omega), ifp (nI_le (by omega) (by omega)), dg_s]
      exact x_38 (by omega)
    · rw [fX2_endOfDigits_3, pk_sub (show p ≤ p + j by omega), ifn (by rw [nI_leI (by omega) (by omega)]; omega), x_at h htn (by omega), ob]
      by_cases h1 : isD hi (At tx tn (p + j)) = true
      · have h2 : ¬ At tx tn (p + j) < 48 ∧ ¬ nI hi < At tx tn (p + j) := by
          simp only [isD, Bool.and_eq_true, Bool.not_eq_true', decide_eq_false_iff_not] at h1
          exact h1
        have h3 := ih (j + 1) (by omega) (by omega)
        rw [dg_t (by omega) h1, ifn h2.1, ob, ifn h2.2, nI_1]
        refine Eq.trans h3 ?_
        rw [show j + 1 + dg tx tn hi (m - (j + 1)) (p + (j + 1)) = j + (dg tx tn hi (m - (j + 1)) (p + (j + 1)) + 1) by omega]
      · rw [dg_f h1]
        have h38 := x_38 (σ := σ) (p := p) (j := j) (by omega)
        by_cases h2 : At tx tn (p + j) < 48
        · rw [ifp h2]
          exact h38
        · have h3 : nI hi < At tx tn (p + j) := by
            by_cases h3 : nI hi < At tx tn (p + j)
            · exact h3
            · exact absurd (by simp only [isD, Bool.and_eq_true, Bool.not_eq_true', decide_eq_false_iff_not]; exact ⟨h2, h3⟩) h1
          rw [ifn h2, ob, ifp h3]
          exact h38
theorem x_dg {σ : Mm} (h : TX σ tx tn) (htn : tn ≤ 64) {hi m p : Nat} (hp : p < 2 ^ 10) (hm : m ≤ 10) : fX2_endOfDigits (nI p) (nI hi) (nI m) σ = some (enc (dgs tx tn hi m p)) := by
  have h1 := x_dgL h htn (hi := hi) hp hm 1000 0 (by omega) (by omega)
  simp only [Nat.add_zero, Nat.zero_add, Nat.sub_zero] at h1
  rw [fX2_endOfDigits, h1, dgs]
theorem x_kind {σ : Mm} (h : TX σ tx tn) (htn : tn ≤ 64) {p : Nat} (hp : p < 2 ^ 10) : fX2_kindAt (nI p) σ = some (kd (At tx tn p)) := by
  rw [fX2_kindAt, x_at h htn (by omega), ob]
  unfold kd
  repeat' split
  all_goals rfl
theorem x_168 {σ : Mm} (h : TX σ tx tn) (htn : tn ≤ 64) (q : Nat × Bool) (hq : q.1 < 2 ^ 10) : fX2_endOfStatement_168 σ (enc q) = some (enc (semi tx tn q)) := by
  obtain ⟨e, b⟩ := q
  have hq' : e < 2 ^ 10 := hq
  cases b with
  | true =>
    show fX2_endOfStatement_168 σ (nI e) = some (enc (if At tx tn e = 59 then (e + 1, true) else (e, false)))
    rw [fX2_endOfStatement_168, ifp (nI_pos' (by omega)), x_at h htn (by omega), ob]
    by_cases h1 : At tx tn e = 59
    · rw [ifp h1, ifp h1, nI_1]; rfl
    · rw [ifn h1, ifn h1]; rfl
  | false =>
    show fX2_endOfStatement_168 σ (-1 - nI e) = some (-1 - nI e)
    rw [fX2_endOfStatement_168, ifn]
    rw [fa_le, fb_subI, nI_toInt (by omega), show (0 : Int32).toInt = 0 from rfl, show (-1 : Int32).toInt = -1 from rfl]
    · omega
    · rw [nI_toInt (by omega), show (-1 : Int32).toInt = -1 from rfl]; omega
    · rw [nI_toInt (by omega), show (-1 : Int32).toInt = -1 from rfl]; omega
theorem dgs_le {hi m p : Nat} (hm : m ≤ 10) : (dgs tx tn hi m p).1 ≤ p + 10 := by
  have h := dg_le (tx := tx) (tn := tn) (hi := hi) m p
  unfold dgs
  split
  · exact Nat.le_add_right _ _
  · show p + dg tx tn hi m p ≤ p + 10
    omega
theorem body_le {p : Nat} : (body tx tn p).1 ≤ p + 12 := by
  have h1 := dgs_le (tx := tx) (tn := tn) (hi := 57) (m := 2) (p := p + 1) (by omega)
  have h2 := dgs_le (tx := tx) (tn := tn) (hi := 57) (m := 1) (p := p + 2) (by omega)
  have h3 := dgs_le (tx := tx) (tn := tn) (hi := 49) (m := 10) (p := p + 1) (by omega)
  unfold body
  repeat' split
  all_goals first | omega | (show p + 1 ≤ p + 12; omega) | (show p ≤ p + 12; omega)
theorem stm_le {p : Nat} : (stm tx tn p).1 ≤ p + 13 := by
  have h := body_le (tx := tx) (tn := tn) (p := p)
  unfold stm semi
  repeat' split
  all_goals first | omega | (show (body tx tn p).1 + 1 ≤ p + 13; omega) | (show (body tx tn p).1 ≤ p + 13; omega)
/-- a statement that goes on to its end -/
theorem stm_ok {p : Nat} (h : (stm tx tn p).2 = true) : (body tx tn p).2 = true ∧ (stm tx tn p).1 = (body tx tn p).1 + 1 ∧ (body tx tn p).1 < tn := by
  unfold stm semi at h ⊢
  by_cases h1 : (body tx tn p).2 = true
  · rw [ifp h1] at h ⊢
    by_cases h2 : At tx tn (body tx tn p).1 = 59
    · rw [ifp h2]
      refine ⟨h1, rfl, ?_⟩
      by_cases h3 : (body tx tn p).1 < tn
      · exact h3
      · rw [At, ifn h3] at h2
        exact absurd h2 (by decide)
    · rw [ifn h2] at h
      cases h
  · rw [ifn h1] at h
    exact absurd h h1
theorem dgs_ok {hi m p : Nat} (h : (dgs tx tn hi m p).2 = true) : (dgs tx tn hi m p).1 = p + dg tx tn hi m p ∧ 0 < dg tx tn hi m p := by
  unfold dgs at h ⊢
  by_cases h1 : dg tx tn hi m p = 0
  · rw [ifp h1] at h
    cases h
  · rw [ifn h1]
    exact ⟨rfl, by omega⟩
theorem body_ge {p : Nat} (h : (body tx tn p).2 = true) : p + 2 ≤ (body tx tn p).1 := by
  unfold body at h ⊢
  by_cases h1 : At tx tn p = 99
  · rw [ifp h1] at h ⊢
    have := dgs_ok h
    omega
  · rw [ifn h1] at h ⊢
    by_cases h2 : At tx tn p = 102
    · rw [ifp h2] at h ⊢
      have := dgs_ok h
      omega
    · rw [ifn h2] at h ⊢
      by_cases h3 : At tx tn p = 108
      · rw [ifp h3] at h ⊢
        by_cases h4 : 0 ≤ kd (At tx tn (p + 1))
        · rw [ifp h4] at h ⊢
          have := dgs_ok h
          omega
        · rw [ifn h4] at h
          cases h
      · rw [ifn h3] at h ⊢
        by_cases h4 : At tx tn p = 109
        · rw [ifp h4] at h ⊢
          have := dgs_ok h
          omega
        · rw [ifn h4] at h ⊢
          by_cases h5 : At tx tn p = 110
          · rw [ifp h5] at h ⊢
            by_cases h6 : At tx tn (p + 1) = 43 ∨ At tx tn (p + 1) = 45
            · rw [ifp h6] at h ⊢
              have := dgs_ok h
              omega
            · rw [ifn h6] at h
              cases h
          · rw [ifn h5] at h
            cases h
theorem x_stm {σ : Mm} (h : TX σ tx tn) (htn : tn ≤ 64) {p : Nat} (hp : p < 2 ^ 9) : fX2_endOfStatement (nI p) σ = some (enc (stm tx tn p)) := by
  have f1 : enc (p + 1, false) = -1 - nI (p + 1) := rfl
  have f0 : enc (p, false) = -1 - nI p := rfl
  have e2 : nI p + 2 = nI (p + 2) := nI_add p 2
  have d2 : ∀ q, q < 2 ^ 10 → fX2_endOfDigits (nI q) 57 2 σ = some (enc (dgs tx tn 57 2 q)) := fun q hq => x_dg h htn (hi := 57) (m := 2) hq (by omega)
  have d1 : ∀ q, q < 2 ^ 10 → fX2_endOfDigits (nI q) 57 1 σ = some (enc (dgs tx tn 57 1 q)) := fun q hq => x_dg h htn (hi := 57) (m := 1) hq (by omega)
  have d10 : ∀ q, q < 2 ^ 10 → fX2_endOfDigits (nI q) 49 10 σ = some (enc (dgs tx tn 49 10 q)) := fun q hq => x_dg h htn (hi := 49) (m := 10) hq (by omega)
  have g2 := dgs_le (tx := tx) (tn := tn) (hi := 57) (m := 2) (p := p + 1) (by omega)
  have g1 := dgs_le (tx := tx) (tn := tn) (hi := 57) (m := 1) (p := p + 2) (by omega)
  have g10 := dgs_le (tx := tx) (tn := tn) (hi := 49) (m := 10) (p := p + 1) (by omega)
  rw [fX2_endOfStatement, x_at h htn (by omega), ob, nI_1, e2, d2 _ (by omega), d10 _ (by omega), d1 _ (by omega), x_kind h htn (by omega), x_at h htn (by omega), stm, body]
  by_cases h1 : At tx tn p = 99
  · rw [ifp h1, ifp h1, ob, x_168 h htn _ (by omega)]
  · rw [ifn h1, ifn h1]
    by_cases h2 : At tx tn p = 102
    · rw [ifp h2, ifp h2, ob, x_168 h htn _ (by omega)]
    · rw [ifn h2, ifn h2]
      by_cases h3 : At tx tn p = 108
      · rw [ifp h3, ifp h3, ob]
        by_cases h4 : 0 ≤ kd (At tx tn (p + 1))
        · rw [ifp h4, ifp h4, ob, fX2_endOfStatement_96, x_168 h htn _ (by omega)]
        · rw [ifn h4, ifn h4, fX2_endOfStatement_96, ← f1, x_168 h htn _ (show p + 1 < 2 ^ 10 by omega)]
      · rw [ifn h3, ifn h3]
        by_cases h4 : At tx tn p = 109
        · rw [ifp h4, ifp h4, ob, x_168 h htn _ (by omega)]
        · rw [ifn h4, ifn h4]
          by_cases h5 : At tx tn p = 110
          · rw [ifp h5, ifp h5, ob, fX2_isSign]
            by_cases h6 : At tx tn (p + 1) = 43
            · rw [ifp h6, ob, ifn (by decide), ob, fX2_endOfStatement_145, ifp (Or.inl h6), x_168 h htn _ (by omega)]
            · by_cases h7 : At tx tn (p + 1) = 45
              · rw [ifn h6, ifp h7, ob, ifn (by decide), ob, fX2_endOfStatement_145, ifp (Or.inr h7), x_168 h htn _ (by omega)]
              · rw [ifn h6, ifn h7, ob, ifp rfl, fX2_endOfStatement_145, ifn (fun q => q.elim h6 h7), ← f1, x_168 h htn _ (show p + 1 < 2 ^ 10 by omega)]
          · rw [ifn h5, ifn h5, ← f0, x_168 h htn _ (show p < 2 ^ 10 by omega)]
/-! the reference reads -/
theorem m_68 {τ : Mm} {j : Nat} (hj : j < 2 ^ 20) : fX6_readsNumber_68 (nI j) τ = some (if j = 0 then 0 else 1, τ) := by
  rw [fX6_readsNumber_68]
  by_cases h : j = 0
  · subst h; rfl
  · rw [ifn (nI_nle (by omega) (by omega)), ifn h]
theorem m_numL (htn : tn ≤ 64) (htx : ∀ k, k < tn → tx k < 256) {v1 m p : Nat} (hv1 : v1 < 2) (hm : m ≤ 10) (hp : p < 2 ^ 10) : ∀ (n j : Nat) (τ : Mm), j ≤ m → m - j < n → TM τ tx tn → gI τ 0 8 = nI (p + j) →
    ∃ τ', fX6_readsNumber_9 n (nI v1) (nI m) (nI j) τ = some (if j + dg tx tn 57 (m - j) (p + j) = 0 then 0 else 1, τ') ∧ gI τ' 0 8 = nI (p + (j + dg tx tn 57 (m - j) (p + j))) ∧ gI τ' 6 v1 = nv tx tn (dg tx tn 57 (m - j) (p + j)) (p + j) (gI τ 6 v1) ∧ (∀ a b, ¬ (a = 6 ∧ b = v1) → ¬ (a = 0 ∧ b = 8) → gI τ' a b = gI τ a b) := by
  intro n
  induction n with
  | zero => intro j τ _ h; omega
  | succ n ih =>
    intro j τ hj hn hT h8
    by_cases hjm : j = m
    · subst hjm
      refine ⟨τ, ?_, ?_, ?_, fun _ _ _ _ => rfl⟩
      · rw [fX6_readsNumber_9, ifp (nI_le (Nat.le_refl _) (by omega)), dg_s]
        exact m_68 (by omega)
      · rw [dg_s]
        exact h8
      · rw [dg_s]
        rfl
    · by_cases h1 : isD 57 (At tx tn (p + j)) = true
      · have h2 := (isD_10 htx).mp h1
        rw [dg_t (by omega) h1]
        have t1 : TM (pI (pI τ 6 v1 (10 * gI τ 6 v1 + At tx tn (p + j) - 48)) 0 8 (nI (p + (j + 1)))) tx tn := FR_TM (FR_tr FR_6 FR_8) hT
        obtain ⟨τ', g1, g2, g3, g4⟩ := ih (j + 1) (pI (pI τ 6 v1 (10 * gI τ 6 v1 + At tx tn (p + j) - 48)) 0 8 (nI (p + (j + 1)))) (by omega) (by omega) t1 (by rw [gI_pI, ifp ⟨rfl, rfl⟩])
        refine ⟨τ', ?_, ?_, ?_, fun a b h3 h4 => ?_⟩
        · rw [fX6_readsNumber_9, ifn (by rw [nI_leI (by omega) (by omega)]; omega), m_sign hT htn (by omega) h8, ob, m_isIn, ob, ifn h2, ifn (by decide), ifp (ci_nI hv1 (by omega)), ob, ifp (ci_nI hv1 (by omega)), nI_cl (by omega), nI_1]
          have e8 : gI (pI τ 6 v1 (10 * gI τ 6 v1 + At tx tn (p + j) - 48)) 0 8 + 1 = nI (p + (j + 1)) := by
            rw [gI_pI, ifn (by omega), h8, nI_1]
            rfl
          rw [e8, g1, show j + 1 + dg tx tn 57 (m - (j + 1)) (p + (j + 1)) = j + (dg tx tn 57 (m - (j + 1)) (p + (j + 1)) + 1) by omega]
        · rw [g2]
          congr 1
          omega
        · rw [g3, gI_pI, ifn (by omega), gI_pI, ifp ⟨rfl, rfl⟩]
          rfl
        · rw [g4 a b h3 h4, gI_pI, ifn (by omega), gI_pI, ifn (by omega)]
      · have h2 : At tx tn (p + j) - 48 < 0 ∨ (10 : Int32) ≤ At tx tn (p + j) - 48 := by
          by_cases h3 : At tx tn (p + j) - 48 < 0 ∨ (10 : Int32) ≤ At tx tn (p + j) - 48
          · exact h3
          · exact absurd ((isD_10 htx).mpr h3) h1
        rw [dg_f h1]
        refine ⟨τ, ?_, ?_, rfl, fun _ _ _ _ => rfl⟩
        · rw [fX6_readsNumber_9, ifn (by rw [nI_leI (by omega) (by omega)]; omega), m_sign hT htn (by omega) h8, ob, m_isIn, ob, ifp h2, ifp rfl]
          exact m_68 (by omega)
        · exact h8
/-- what a number leaves -/
def one (b : Bool) : Int32 := if b then 1 else 0
theorem m_num (htn : tn ≤ 64) (htx : ∀ k, k < tn → tx k < 256) {v1 m p : Nat} (hv1 : v1 < 2) (hm : m ≤ 10) (hp : p < 2 ^ 10) {τ : Mm} (hT : TM τ tx tn) (h8 : gI τ 0 8 = nI p) :
    ∃ τ', fX6_readsNumber (nI v1) (nI m) τ = some (bI (dgs tx tn 57 m p).2, τ') ∧ gI τ' 0 8 = nI (dgs tx tn 57 m p).1 ∧ gI τ' 6 v1 = nv tx tn (dg tx tn 57 m p) p 0 ∧ (∀ a b, ¬ (a = 6 ∧ b = v1) → ¬ (a = 0 ∧ b = 8) → gI τ' a b = gI τ a b) := by
  obtain ⟨τ', g1, g2, g3, g4⟩ := m_numL htn htx hv1 hm hp 1000 0 (pI τ 6 v1 0) (by omega) (by omega) (FR_TM FR_6 hT) (by rw [gI_pI, ifn (by omega), h8]; rfl)
  simp only [Nat.add_zero, Nat.zero_add, Nat.sub_zero] at g1 g2 g3
  refine ⟨τ', ?_, ?_, ?_, fun a b h3 h4 => ?_⟩
  · rw [fX6_readsNumber, ifp (ci_nI hv1 (by omega)), nI_cl (by omega)]
    refine Eq.trans g1 ?_
    unfold dgs
    by_cases h : dg tx tn 57 m p = 0
    · rw [ifp h, ifp h]; rfl
    · rw [ifn h, ifn h]; rfl
  · rw [g2]
    unfold dgs
    by_cases h : dg tx tn 57 m p = 0
    · rw [ifp h, h]; rfl
    · rw [ifn h]
  · rw [g3, gI_pI, ifp ⟨rfl, rfl⟩]
  · rw [g4 a b h3 h4, gI_pI, ifn (by omega)]
theorem m_kind (x : Int32) : fX6_kindOf x = some (if 0 ≤ kd x then kd x else -9) := by
  unfold fX6_kindOf kd
  repeat' split
  all_goals first | rfl | (exfalso; revert ‹(0 : Int32) ≤ _›; decide) | (exfalso; apply ‹¬ (0 : Int32) ≤ _›; decide) | contradiction
theorem kd_of {x : Int32} (h : 0 ≤ kd x) : ∃ a : Nat, a < 6 ∧ kd x = nI a := by
  unfold kd at h ⊢
  by_cases h1 : x = 97
  · rw [ifp h1]; exact ⟨2, by omega, rfl⟩
  rw [ifn h1] at h ⊢
  by_cases h1 : x = 98
  · rw [ifp h1]; exact ⟨5, by omega, rfl⟩
  rw [ifn h1] at h ⊢
  by_cases h1 : x = 99
  · rw [ifp h1]; exact ⟨1, by omega, rfl⟩
  rw [ifn h1] at h ⊢
  by_cases h1 : x = 101
  · rw [ifp h1]; exact ⟨3, by omega, rfl⟩
  rw [ifn h1] at h ⊢
  by_cases h1 : x = 114
  · rw [ifp h1]; exact ⟨4, by omega, rfl⟩
  rw [ifn h1] at h ⊢
  by_cases h1 : x = 116
  · rw [ifp h1]; exact ⟨0, by omega, rfl⟩
  rw [ifn h1] at h
  exact absurd h (by decide)
theorem fbt_lt {p : Nat} : ∀ j, (∀ i, i < j → tx (p + i) ≤ 49) → fbt tx p j < 2 ^ j
  | 0, _ => by simp [fbt]
  | j + 1, h => by
    have h1 := fbt_lt j (fun i hi => h i (by omega))
    have h2 := h j (by omega)
    have h3 : (tx (p + j) - 48) * 2 ^ j ≤ 1 * 2 ^ j := Nat.mul_le_mul_right _ (by omega)
    simp only [fbt, Nat.pow_succ]
    omega
theorem bI_and (b : Bool) : bI b &&& 1 = bI b := by cases b <;> decide
theorem m_43 (K : Mm → Option (Int32 × Mm)) (τ : Mm) : fX6_readsFamily_43 K τ = (fX6_sign τ).bind (fun q => K (pI (pI (pI τ 6 1 (gI τ 6 1 ||| ((q - 48) <<< (gI τ 6 0 &&& 31)))) 6 0 (gI τ 6 0 + 1)) 0 8 (gI τ 0 8 + 1))) := by
  rfl
theorem m_89 (τ : Mm) : fX6_readsFamily_89 τ = (if gI τ 6 0 ≤ 0 then some ((0 : Int32), τ) else some ((1 : Int32), τ)) := by
  rfl
theorem m_famL (htn : tn ≤ 64) (htx : ∀ k, k < tn → tx k < 256) {p : Nat} (hp : p < 2 ^ 10) : ∀ (n j : Nat) (τ : Mm), j ≤ 10 → 10 - j < n → TM τ tx tn → gI τ 0 8 = nI (p + j) → gI τ 6 0 = nI j → gI τ 6 1 = nI (fbt tx p j) → fbt tx p j < 2 ^ j →
    ∃ τ', fX6_readsFamily_14 n τ = some (if j + dg tx tn 49 (10 - j) (p + j) = 0 then 0 else 1, τ') ∧ gI τ' 0 8 = nI (p + (j + dg tx tn 49 (10 - j) (p + j))) ∧ gI τ' 6 0 = nI (j + dg tx tn 49 (10 - j) (p + j)) ∧ gI τ' 6 1 = nI (fbt tx p (j + dg tx tn 49 (10 - j) (p + j))) ∧ FR τ τ' := by
  intro n
  induction n with
  | zero => intro j τ _ h; omega
  | succ n ih =>
    intro j τ hj hn hT h8 h60 h61 hlt
    have hfin : fX6_readsFamily_89 τ = some (if j = 0 then 0 else 1, τ) := by
      rw [m_89, h60]
      by_cases h : j = 0
      · subst h; rfl
      · rw [ifn (nI_nle (by omega) (by omega)), ifn h]
    by_cases hjm : j = 10
    · subst hjm
      refine ⟨τ, ?_, h8, h60, h61, FR_rf⟩
      rw [fX6_readsFamily_14, ifp (by decide), show (0 : Int32).toNatClampNeg = 0 from rfl, h60, ifp (by decide), hfin]
      rfl
    · have n10 : ¬ (10 : Int32) ≤ nI j := fun q => absurd ((nI_leI (a := 10) (by omega) (by omega)).mp q) (by omega)
      have e0 : fX6_readsFamily_14 (n + 1) τ = (if At tx tn (p + j) = 48 then fX6_readsFamily_43 (fun wσ => fX6_readsFamily_14 n wσ) τ else (if At tx tn (p + j) = 49 then fX6_readsFamily_43 (fun wσ => fX6_readsFamily_14 n wσ) τ else fX6_readsFamily_89 τ)) := by
        rw [fX6_readsFamily_14, ifp (by decide), show (0 : Int32).toNatClampNeg = 0 from rfl, h60, ifn n10, m_sign hT htn (by omega) h8, ob, ob]
      by_cases h1 : isD 49 (At tx tn (p + j)) = true
      · obtain ⟨k1, k2, k3⟩ := isD_v (by omega) htx h1
        rw [dg_t (by omega) h1]
        have hA : At tx tn (p + j) = nI (tx (p + j)) := by rw [At, ifp k1]
        have hB : fX6_readsFamily_14 (n + 1) τ = fX6_readsFamily_43 (fun wσ => fX6_readsFamily_14 n wσ) τ := by
          rw [e0, hA]
          rcases (show tx (p + j) = 48 ∨ tx (p + j) = 49 by omega) with h | h
          · rw [h, ifp (show nI 48 = 48 from rfl)]
          · rw [h, ifn (by decide), ifp (show nI 49 = 49 from rfl)]
        have hp10 : 2 ^ j ≤ 2 ^ 10 := Nat.pow_le_pow_right (by omega) hj
        have hb1 : (tx (p + j) - 48) * 2 ^ j ≤ 1 * 2 ^ j := Nat.mul_le_mul_right _ (by omega)
        have hbits : nI (fbt tx p j) ||| ((nI (tx (p + j)) - 48) <<< (nI j &&& 31)) = nI (fbt tx p (j + 1)) := by
          rw [show (48 : Int32) = nI 48 from rfl, pk_sub k2, shl_n (by omega) (by omega), or_bit _ hlt]
          rfl
        have hlt2 : fbt tx p (j + 1) < 2 ^ (j + 1) := by
          simp only [fbt, Nat.pow_succ]
          omega
        obtain ⟨τ', g1, g2, g3, g4, g5⟩ := ih (j + 1) (pI (pI (pI τ 6 1 (nI (fbt tx p (j + 1)))) 6 0 (nI (j + 1))) 0 8 (nI (p + (j + 1)))) (by omega) (by omega) (FR_TM (FR_tr (FR_tr FR_6 FR_6) FR_8) hT) rfl rfl rfl hlt2
        have ej : j + 1 + dg tx tn 49 (10 - (j + 1)) (p + (j + 1)) = j + (dg tx tn 49 (10 - (j + 1)) (p + (j + 1)) + 1) := by omega
        rw [ej] at g1 g2 g3 g4
        refine ⟨τ', ?_, g2, g3, g4, FR_tr (FR_tr (FR_tr FR_6 FR_6) FR_8) g5⟩
        rw [hB, m_43, m_sign hT htn (by omega) h8, ob, h60, h61, h8, hA, hbits, nI_1, nI_1]
        exact g1
      · have h48 : ¬ At tx tn (p + j) = 48 := fun q => h1 (by rw [q]; decide)
        have h49 : ¬ At tx tn (p + j) = 49 := fun q => h1 (by rw [q]; decide)
        rw [dg_f h1]
        refine ⟨τ, ?_, h8, h60, h61, FR_rf⟩
        rw [e0, ifn h48, ifn h49, hfin]
        rfl
theorem m_fam (htn : tn ≤ 64) (htx : ∀ k, k < tn → tx k < 256) {p : Nat} (hp : p < 2 ^ 10) {τ : Mm} (hT : TM τ tx tn) (h8 : gI τ 0 8 = nI p) :
    ∃ τ', fX6_readsFamily τ = some (bI (dgs tx tn 49 10 p).2, τ') ∧ gI τ' 0 8 = nI (dgs tx tn 49 10 p).1 ∧ gI τ' 6 0 = nI (dg tx tn 49 10 p) ∧ gI τ' 6 1 = nI (fbt tx p (dg tx tn 49 10 p)) ∧ FR τ τ' := by
  obtain ⟨τ', g1, g2, g3, g4, g5⟩ := m_famL htn htx hp 1000 0 (pI (pI τ 6 0 0) 6 1 0) (by omega) (by omega) (FR_TM (FR_tr FR_6 FR_6) hT) (by rw [gI_pI, ifn (by omega), gI_pI, ifn (by omega), h8]; rfl) rfl rfl (by simp [fbt])
  simp only [Nat.add_zero, Nat.zero_add, Nat.sub_zero] at g1 g2 g3 g4
  refine ⟨τ', ?_, ?_, g3, g4, FR_tr (FR_tr FR_6 FR_6) g5⟩
  · rw [fX6_readsFamily, ifp (by decide), ifp (by decide)]
    refine Eq.trans g1 ?_
    unfold dgs
    by_cases h : dg tx tn 49 10 p = 0
    · rw [ifp h, ifp h]; rfl
    · rw [ifn h, ifn h]; rfl
  · rw [g2]
    unfold dgs
    by_cases h : dg tx tn 49 10 p = 0
    · rw [ifp h, h]; rfl
    · rw [ifn h]
/-- what the reference has read of a statement -/
def vals (tx : Nat → Nat) (tn p : Nat) (τ : Mm) : Prop :=
  ((At tx tn p = 99 ∨ At tx tn p = 109) → gI τ 6 0 = nv tx tn (dg tx tn 57 2 (p + 1)) (p + 1) 0) ∧
  (At tx tn p = 102 → gI τ 6 0 = nI (dg tx tn 49 10 (p + 1)) ∧ gI τ 6 1 = nI (fbt tx (p + 1) (dg tx tn 49 10 (p + 1)))) ∧
  (At tx tn p = 108 → gI τ 6 0 = kd (At tx tn (p + 1)) ∧ gI τ 6 1 = nv tx tn (dg tx tn 57 1 (p + 2)) (p + 2) 0) ∧
  (At tx tn p = 110 → gI τ 6 0 = if At tx tn (p + 1) = 45 then -(nv tx tn (dg tx tn 57 1 (p + 2)) (p + 2) 0) else nv tx tn (dg tx tn 57 1 (p + 2)) (p + 2) 0)
theorem vals_FR {p : Nat} {τ τ' : Mm} (h : ∀ b, gI τ' 6 b = gI τ 6 b) (hv : vals tx tn p τ) : vals tx tn p τ' := by
  unfold vals at hv ⊢
  rw [h 0, h 1]
  exact hv
theorem m_126 (htn : tn ≤ 64) {q : Nat × Bool} (hq : q.1 < 2 ^ 10) {τ : Mm} (hT : TM τ tx tn) (h8 : gI τ 0 8 = nI q.1) :
    ∃ τ', fX6_readsStatement_126 (bI q.2) τ = some (bI (semi tx tn q).2, τ') ∧ gI τ' 0 8 = nI (semi tx tn q).1 ∧ FR τ τ' ∧ (∀ b, gI τ' 6 b = gI τ 6 b) := by
  obtain ⟨e, b⟩ := q
  have hq' : e < 2 ^ 10 := hq
  have h8' : gI τ 0 8 = nI e := h8
  cases b with
  | false => exact ⟨τ, rfl, h8, FR_rf, fun _ => rfl⟩
  | true =>
    by_cases h1 : At tx tn e = 59
    · have e1 : semi tx tn (e, true) = (e + 1, true) := by simp [semi, h1]
      refine ⟨pI τ 0 8 (nI (e + 1)), ?_, ?_, FR_8, fun b => by rw [gI_pI, ifn (by omega)]⟩
      · rw [e1, fX6_readsStatement_126, ifn (show ¬ bI true = 0 by decide), fX6_takes, m_sign hT htn (by omega) h8', ob, ifp h1, ob, ifn (show ¬ (1 : Int32) = 0 by decide), h8', nI_1]
        rfl
      · rw [e1]
        rfl
    · have e1 : semi tx tn (e, true) = (e, false) := by simp [semi, h1]
      refine ⟨τ, ?_, ?_, FR_rf, fun _ => rfl⟩
      · rw [e1, fX6_readsStatement_126, ifn (show ¬ bI true = 0 by decide), fX6_takes, m_sign hT htn (by omega) h8', ob, ifn h1, ob, ifp (show (0 : Int32) = 0 from rfl)]
        rfl
      · rw [e1]
        exact h8'
theorem m_stm (htn : tn ≤ 64) (htx : ∀ k, k < tn → tx k < 256) {p : Nat} (hp : p < 2 ^ 9) {τ : Mm} (hT : TM τ tx tn) (h8 : gI τ 0 8 = nI p) :
    ∃ τ', fX6_readsStatement τ = some (bI (stm tx tn p).2, τ') ∧ gI τ' 0 8 = nI (stm tx tn p).1 ∧ FR τ τ' ∧ ((stm tx tn p).2 = true → vals tx tn p τ') := by
  have g2 := dgs_le (tx := tx) (tn := tn) (hi := 57) (m := 2) (p := p + 1) (by omega)
  have g1 := dgs_le (tx := tx) (tn := tn) (hi := 57) (m := 1) (p := p + 2) (by omega)
  have g10 := dgs_le (tx := tx) (tn := tn) (hi := 49) (m := 10) (p := p + 1) (by omega)
  have T1 : TM (pI τ 0 8 (nI (p + 1))) tx tn := FR_TM FR_8 hT
  have p1 : gI (pI τ 0 8 (nI (p + 1))) 0 8 = nI (p + 1) := rfl
  have e0 : fX6_readsStatement τ = (if At tx tn p = 99 then (fX6_readsNumber 0 2 (pI τ 0 8 (nI (p + 1)))).bind (fun q_11 => fX6_readsStatement_126 q_11.1 q_11.2)
      else (if At tx tn p = 102 then (fX6_readsFamily (pI τ 0 8 (nI (p + 1)))).bind (fun q_10 => fX6_readsStatement_126 q_10.1 q_10.2)
      else (if At tx tn p = 108 then (fX6_readsKind (pI τ 0 8 (nI (p + 1)))).bind (fun q_9 => fX6_readsStatement_126 q_9.1 q_9.2)
      else (if At tx tn p = 109 then (fX6_readsNumber 0 2 (pI τ 0 8 (nI (p + 1)))).bind (fun q_8 => fX6_readsStatement_126 q_8.1 q_8.2)
      else (if At tx tn p = 110 then (fX6_readsLean (pI τ 0 8 (nI (p + 1)))).bind (fun q_7 => fX6_readsStatement_126 q_7.1 q_7.2)
      else some ((0 : Int32), pI (pI τ 0 8 (nI (p + 1))) 0 8 (gI (pI τ 0 8 (nI (p + 1))) 0 8 - 1))))))) := by
    rw [fX6_readsStatement, m_sign hT htn (by omega) h8, ob, h8, nI_1]
  rw [e0, stm, body]
  by_cases h1 : At tx tn p = 99
  · rw [ifp h1, ifp h1]
    obtain ⟨ρ, r1, r2, r3, r4⟩ := m_num htn htx (v1 := 0) (m := 2) (p := p + 1) (by omega) (by omega) (by omega) T1 p1
    have F1 : FR τ ρ := fun a b ha hb => by rw [r4 a b (by omega) hb, gI_pI, ifn hb]
    obtain ⟨τ', s1, s2, s3, s4⟩ := m_126 htn (q := dgs tx tn 57 2 (p + 1)) (by omega) (FR_TM F1 hT) r2
    refine ⟨τ', ?_, s2, FR_tr F1 s3, fun _ => ?_⟩
    · have r1' : fX6_readsNumber 0 2 (pI τ 0 8 (nI (p + 1))) = _ := r1
      rw [r1', ob]
      exact s1
    · refine vals_FR s4 ⟨fun _ => r3, fun h => ?_, fun h => ?_, fun h => ?_⟩
      · rw [h1] at h; exact absurd h (by decide)
      · rw [h1] at h; exact absurd h (by decide)
      · rw [h1] at h; exact absurd h (by decide)
  · rw [ifn h1, ifn h1]
    by_cases h2 : At tx tn p = 102
    · rw [ifp h2, ifp h2]
      obtain ⟨ρ, r1, r2, r3, r4, r5⟩ := m_fam htn htx (p := p + 1) (by omega) T1 p1
      have F1 : FR τ ρ := FR_tr FR_8 r5
      obtain ⟨τ', s1, s2, s3, s4⟩ := m_126 htn (q := dgs tx tn 49 10 (p + 1)) (by omega) (FR_TM F1 hT) r2
      refine ⟨τ', ?_, s2, FR_tr F1 s3, fun _ => ?_⟩
      · rw [r1, ob]
        exact s1
      · refine vals_FR s4 ⟨fun h => ?_, fun _ => ⟨r3, r4⟩, fun h => ?_, fun h => ?_⟩
        · rw [h2] at h; exact absurd h (by decide)
        · rw [h2] at h; exact absurd h (by decide)
        · rw [h2] at h; exact absurd h (by decide)
    · rw [ifn h2, ifn h2]
      by_cases h3 : At tx tn p = 108
      · rw [ifp h3, ifp h3]
        have ek : fX6_readsKind (pI τ 0 8 (nI (p + 1))) = (if 0 ≤ (if 0 ≤ kd (At tx tn (p + 1)) then kd (At tx tn (p + 1)) else -9) then (fX6_readsNumber (nI 1) (nI 1) (pI (pI (pI τ 0 8 (nI (p + 1))) 6 0 (if 0 ≤ kd (At tx tn (p + 1)) then kd (At tx tn (p + 1)) else -9)) 0 8 (nI (p + 2)))).bind (fun q_6 => (if q_6.1 &&& 1 = q_6.1 then some (q_6.1, q_6.2) else none)) else some ((0 : Int32), pI (pI τ 0 8 (nI (p + 1))) 6 0 (if 0 ≤ kd (At tx tn (p + 1)) then kd (At tx tn (p + 1)) else -9))) := by
          rw [fX6_readsKind, m_sign T1 htn (by omega) p1, ob, m_kind, ob, ifp (by decide), ifp (by decide)]
          rw [show nI (p + 2) = nI (p + 1) + 1 from (nI_1 (p + 1)).symm]
          rfl
        by_cases h4 : 0 ≤ kd (At tx tn (p + 1))
        · rw [ifp h4] at ek
          rw [ifp h4] at ek
          rw [ifp h4]
          obtain ⟨ρ, r1, r2, r3, r4⟩ := m_num htn htx (v1 := 1) (m := 1) (p := p + 2) (by omega) (by omega) (by omega) (FR_TM (FR_tr FR_6 FR_8) T1) (show gI (pI (pI (pI τ 0 8 (nI (p + 1))) 6 0 (kd (At tx tn (p + 1)))) 0 8 (nI (p + 2))) 0 8 = nI (p + 2) from rfl)
          have F1 : FR τ ρ := fun a b ha hb => by rw [r4 a b (by omega) hb, gI_pI, ifn hb, gI_pI, ifn (by omega), gI_pI, ifn hb]
          have k6 : gI ρ 6 0 = kd (At tx tn (p + 1)) := by rw [r4 6 0 (by omega) (by omega)]; rfl
          obtain ⟨τ', s1, s2, s3, s4⟩ := m_126 htn (q := dgs tx tn 57 1 (p + 2)) (by omega) (FR_TM F1 hT) r2
          refine ⟨τ', ?_, s2, FR_tr F1 s3, fun _ => ?_⟩
          · rw [ek, r1, ob, ifp (bI_and _), ob]
            exact s1
          · refine vals_FR s4 ⟨fun h => ?_, fun h => ?_, fun _ => ⟨k6, r3⟩, fun h => ?_⟩
            · rw [h3] at h; exact absurd h (by decide)
            · rw [h3] at h; exact absurd h (by decide)
            · rw [h3] at h; exact absurd h (by decide)
        · rw [ifn h4] at ek
          rw [ifn (by decide)] at ek
          rw [ifn h4]
          have F1 : FR τ (pI (pI τ 0 8 (nI (p + 1))) 6 0 (-9)) := FR_tr FR_8 FR_6
          obtain ⟨τ', s1, s2, s3, s4⟩ := m_126 htn (q := (p + 1, false)) (show p + 1 < 2 ^ 10 by omega) (FR_TM F1 hT) rfl
          refine ⟨τ', ?_, s2, FR_tr F1 s3, fun h => ?_⟩
          · rw [ek, ob]
            exact s1
          · exact absurd h (by simp [semi])
      · rw [ifn h3, ifn h3]
        by_cases h4 : At tx tn p = 109
        · rw [ifp h4, ifp h4]
          obtain ⟨ρ, r1, r2, r3, r4⟩ := m_num htn htx (v1 := 0) (m := 2) (p := p + 1) (by omega) (by omega) (by omega) T1 p1
          have F1 : FR τ ρ := fun a b ha hb => by rw [r4 a b (by omega) hb, gI_pI, ifn hb]
          obtain ⟨τ', s1, s2, s3, s4⟩ := m_126 htn (q := dgs tx tn 57 2 (p + 1)) (by omega) (FR_TM F1 hT) r2
          refine ⟨τ', ?_, s2, FR_tr F1 s3, fun _ => ?_⟩
          · have r1' : fX6_readsNumber 0 2 (pI τ 0 8 (nI (p + 1))) = _ := r1
            rw [r1', ob]
            exact s1
          · refine vals_FR s4 ⟨fun _ => r3, fun h => ?_, fun h => ?_, fun h => ?_⟩
            · rw [h4] at h; exact absurd h (by decide)
            · rw [h4] at h; exact absurd h (by decide)
            · rw [h4] at h; exact absurd h (by decide)
        · rw [ifn h4, ifn h4]
          by_cases h5 : At tx tn p = 110
          · rw [ifp h5, ifp h5]
            have el : fX6_readsLean (pI τ 0 8 (nI (p + 1))) = (if At tx tn (p + 1) = 43 then fX6_readsLean_19 (At tx tn (p + 1)) (pI τ 0 8 (nI (p + 1))) else if At tx tn (p + 1) = 45 then fX6_readsLean_19 (At tx tn (p + 1)) (pI τ 0 8 (nI (p + 1))) else some ((0 : Int32), pI τ 0 8 (nI (p + 1)))) := by
              rw [fX6_readsLean, m_sign T1 htn (by omega) p1, ob]
            by_cases h6 : At tx tn (p + 1) = 43 ∨ At tx tn (p + 1) = 45
            · have el2 : fX6_readsLean (pI τ 0 8 (nI (p + 1))) = fX6_readsLean_19 (At tx tn (p + 1)) (pI τ 0 8 (nI (p + 1))) := by
                rw [el]
                by_cases h7 : At tx tn (p + 1) = 43
                · rw [ifp h7]
                · rw [ifn h7, ifp (h6.resolve_left h7)]
              rw [ifp h6]
              obtain ⟨ρ, r1, r2, r3, r4⟩ := m_num htn htx (v1 := 0) (m := 1) (p := p + 2) (by omega) (by omega) (by omega) (FR_TM FR_8 T1) (show gI (pI (pI τ 0 8 (nI (p + 1))) 0 8 (nI (p + 2))) 0 8 = nI (p + 2) from rfl)
              have F1 : FR τ ρ := fun a b ha hb => by rw [r4 a b (by omega) hb, gI_pI, ifn hb, gI_pI, ifn hb]
              have r1' : fX6_readsNumber 0 1 (pI (pI τ 0 8 (nI (p + 1))) 0 8 (gI (pI τ 0 8 (nI (p + 1))) 0 8 + 1)) = some (bI (dgs tx tn 57 1 (p + 2)).2, ρ) := by
                rw [p1, nI_1]
                exact r1
              by_cases hd : (dgs tx tn 57 1 (p + 2)).2 = true
              · have hL : ∃ ρ', fX6_readsLean_19 (At tx tn (p + 1)) (pI τ 0 8 (nI (p + 1))) = some (bI true, ρ') ∧ ρ' = pI ρ 6 0 (if At tx tn (p + 1) = 45 then -(gI ρ 6 0) else gI ρ 6 0) := by
                  refine ⟨_, ?_, rfl⟩
                  rw [fX6_readsLean_19, r1', ob, hd, ifn (show ¬ bI true = 0 by decide)]
                  by_cases h7 : At tx tn (p + 1) = 45
                  · rw [ifp h7, ifp h7]; rfl
                  · rw [ifn h7, ifn h7]; rfl
                obtain ⟨ρ', hL1, hL2⟩ := hL
                have F2 : FR τ ρ' := by rw [hL2]; exact FR_tr F1 FR_6
                have e8 : gI ρ' 0 8 = nI (dgs tx tn 57 1 (p + 2)).1 := by rw [hL2, gI_pI, ifn (by omega), r2]
                have e6 : gI ρ' 6 0 = if At tx tn (p + 1) = 45 then -(gI ρ 6 0) else gI ρ 6 0 := by rw [hL2, gI_pI, ifp ⟨rfl, rfl⟩]
                obtain ⟨τ', s1, s2, s3, s4⟩ := m_126 htn (q := dgs tx tn 57 1 (p + 2)) (by omega) (FR_TM F2 hT) e8
                refine ⟨τ', ?_, s2, FR_tr F2 s3, fun _ => ?_⟩
                · rw [hd] at s1
                  rw [el2, hL1, ob]
                  exact s1
                · refine vals_FR s4 ⟨fun h => ?_, fun h => ?_, fun h => ?_, fun _ => by rw [e6, r3]⟩
                  · rw [h5] at h; exact absurd h (by decide)
                  · rw [h5] at h; exact absurd h (by decide)
                  · rw [h5] at h; exact absurd h (by decide)
              · have hd' : (dgs tx tn 57 1 (p + 2)).2 = false := by simpa using hd
                obtain ⟨τ', s1, s2, s3, s4⟩ := m_126 htn (q := dgs tx tn 57 1 (p + 2)) (by omega) (FR_TM F1 hT) r2
                refine ⟨τ', ?_, s2, FR_tr F1 s3, fun h => ?_⟩
                · rw [hd'] at s1
                  rw [el2, fX6_readsLean_19, r1', ob, hd', ifp (show bI false = 0 from rfl), ob]
                  exact s1
                · exact absurd h (by simp [semi, hd'])
            · rw [ifn h6]
              have el2 : fX6_readsLean (pI τ 0 8 (nI (p + 1))) = some ((0 : Int32), pI τ 0 8 (nI (p + 1))) := by
                rw [el, ifn (fun q => h6 (Or.inl q)), ifn (fun q => h6 (Or.inr q))]
              obtain ⟨τ', s1, s2, s3, s4⟩ := m_126 htn (q := (p + 1, false)) (show p + 1 < 2 ^ 10 by omega) T1 rfl
              refine ⟨τ', ?_, s2, FR_tr FR_8 s3, fun h => ?_⟩
              · rw [el2, ob]
                exact s1
              · exact absurd h (by simp [semi])
          · rw [ifn h5, ifn h5]
            refine ⟨_, rfl, ?_, FR_tr FR_8 FR_8, fun h => ?_⟩
            · show gI (pI τ 0 8 (nI (p + 1))) 0 8 - 1 = nI p
              rw [p1, nI_pred]
            · exact absurd h (by simp [semi])
end LAND
