/-! what was seen: cheats, fits -/
def cn (Q : Nat → Bool) : Nat → Nat
  | 0 => 0
  | n + 1 => cn Q n + (if Q n then 1 else 0)
theorem cn_le (Q : Nat → Bool) : ∀ n, cn Q n ≤ n
  | 0 => Nat.le_refl _
  | n + 1 => by
    have h := cn_le Q n
    simp only [cn]
    split <;> omega
def alf (Q : Nat → Bool) : Nat → Nat → Bool
  | 0, _ => true
  | j + 1, i => Q i && alf Q j (i + 1)
theorem alf_iff (Q : Nat → Bool) : ∀ j i, alf Q j i = true ↔ ∀ k, i ≤ k → k < i + j → Q k = true
  | 0, i => by simp [alf]; omega
  | j + 1, i => by
    simp only [alf, Bool.and_eq_true]
    rw [alf_iff Q j (i + 1)]
    constructor
    · rintro ⟨h1, h2⟩ k hk1 hk2
      by_cases e : k = i
      · rw [e]; exact h1
      · exact h2 k (by omega) (by omega)
    · intro h
      exact ⟨h i (by omega) (by omega), fun k h1 h2 => h k (by omega) (by omega)⟩
theorem cn_0 (Q : Nat → Bool) : ∀ n, cn Q n = 0 ↔ ∀ k, k < n → Q k = false
  | 0 => by simp [cn]
  | n + 1 => by
    simp only [cn]
    constructor
    · intro h k hk
      have h1 : cn Q n = 0 := by omega
      by_cases e : k = n
      · rw [e]
        cases hq : Q n with
        | false => rfl
        | true => rw [hq] at h; simp at h
      · exact (cn_0 Q n).mp h1 k (by omega)
    · intro h
      rw [(cn_0 Q n).mpr (fun k hk => h k (by omega)), h n (by omega)]
      rfl
/-- where kind k stops the j-th family seen -/
def pj (k : Nat) (s : Nat → Nat) (j : Nat) : Nat := fstp (stopAt k s (s (7 + 2 * j))) (s (6 + 2 * j)) 0
def Qc (k : Nat) (s : Nat → Nat) (j : Nat) : Bool := decide (pj k s j + 1 < s (6 + 2 * j))
def Qe (k : Nat) (s : Nat → Nat) (j : Nat) : Bool := decide (pj k s j + 1 = s (6 + 2 * j))
theorem pj_le (k : Nat) (s : Nat → Nat) (j : Nat) : pj k s j ≤ s (6 + 2 * j) := by
  have h := fstp_le (stopAt k s (s (7 + 2 * j))) (s (6 + 2 * j)) 0
  unfold pj
  omega
section SEEN
variable {σ τ : Mm} {s : Nat → Nat} {k : Nat}
theorem x_pj (h : TO σ 1 s) (hs : Vs s) (hk : k < 6) {j : Nat} (hj : j < s 5) : fX3_lengthOf 1 (nI j) σ = some (nI (s (6 + 2 * j))) ∧ fX3_sortsOf 1 (nI j) σ = some (nI (s (7 + 2 * j))) ∧ fX3_stopPlace 1 (nI k) (nI (s (6 + 2 * j))) (nI (s (7 + 2 * j))) σ = some (nI (pj k s j)) := by
  have h5 : s 5 ≤ 8 := hs.2.2.2.2.2.2.2.2.1
  obtain ⟨f1, f2, f3⟩ := hs.2.2.2.2.2.2.2.2.2 j hj
  obtain ⟨g1, g2⟩ := h.2.2.2.2.2.2 j hj
  exact ⟨by rw [x_len (by omega), g1], by rw [x_sorts (by omega), g2], x_stopP h hs hk (by omega) f2⟩
theorem x_countL (h : TO σ 1 s) (hs : Vs s) (hk : k < 6) : ∀ (n v : Nat), v ≤ s 5 → s 5 - v < n → fX3_countStoppedAhead_4 1 σ n (nI k) (nI (cn (Qc k s) v)) (nI v) = some (nI (cn (Qc k s) (s 5))) := by
  have h5 : s 5 ≤ 8 := hs.2.2.2.2.2.2.2.2.1
  intro n
  induction n with
  | zero => intro v _ h; omega
  | succ n ih =>
    intro v hv hn
    by_cases h8 : v = s 5
    · subst h8
      rw [fX3_countStoppedAhead_4, h.2.2.2.2.2.1, ifp (nI_le (Nat.le_refl _) (by omega))]
    · have hv8 : v < s 5 := by omega
      obtain ⟨f1, f2, f3⟩ := hs.2.2.2.2.2.2.2.2.2 v hv8
      obtain ⟨e1, e2, e3⟩ := x_pj h hs hk hv8
      have hp := pj_le k s v
      rw [fX3_countStoppedAhead_4, h.2.2.2.2.2.1, ifn (by rw [nI_leI (by omega) (by omega)]; omega), e1, ob, e2, ob, e3, ob, ob, show (1 : Int32) = nI 1 from rfl, pk_sub f1]
      have e4 : cn (Qc k s) (v + 1) = cn (Qc k s) v + (if Qc k s v then 1 else 0) := rfl
      by_cases hq : s (6 + 2 * v) - 1 ≤ pj k s v
      · have hQ : Qc k s v = false := by simp [Qc]; omega
        rw [hQ] at e4
        rw [ifp (nI_le hq (by omega)), fX3_countStoppedAhead_40, show (1 : Int32) = nI 1 from rfl, nI_add]
        have e5 : cn (Qc k s) v = cn (Qc k s) (v + 1) := by simpa using e4.symm
        rw [e5]
        exact ih (v + 1) (by omega) (by omega)
      · have hQ : Qc k s v = true := by simp [Qc]; omega
        rw [hQ] at e4
        rw [ifn (by rw [nI_leI (by omega) (by omega)]; exact hq), fX3_countStoppedAhead_40, show (1 : Int32) = nI 1 from rfl, nI_add, nI_add]
        have e5 : cn (Qc k s) v + 1 = cn (Qc k s) (v + 1) := by simpa using e4.symm
        rw [e5]
        exact ih (v + 1) (by omega) (by omega)
theorem x_count (h : TO σ 1 s) (hs : Vs s) (hk : k < 6) : fX3_countStoppedAhead 1 (nI k) σ = some (nI (cn (Qc k s) (s 5))) := by
  have h5 : s 5 ≤ 8 := hs.2.2.2.2.2.2.2.2.1
  exact x_countL h hs hk 1000 0 (by omega) (by omega)
theorem x_endsL (h : TO σ 1 s) (hs : Vs s) (hk : k < 6) : ∀ (n v : Nat), v ≤ s 5 → s 5 - v < n → fX3_endsAllSeen_2 1 σ n (nI k) (nI v) = some (bI (alf (Qe k s) (s 5 - v) v)) := by
  have h5 : s 5 ≤ 8 := hs.2.2.2.2.2.2.2.2.1
  intro n
  induction n with
  | zero => intro v _ h; omega
  | succ n ih =>
    intro v hv hn
    by_cases h8 : v = s 5
    · subst h8
      rw [fX3_endsAllSeen_2, h.2.2.2.2.2.1, ifp (nI_le (Nat.le_refl _) (by omega)), Nat.sub_self]
      rfl
    · have hv8 : v < s 5 := by omega
      obtain ⟨f1, f2, f3⟩ := hs.2.2.2.2.2.2.2.2.2 v hv8
      obtain ⟨e1, e2, e3⟩ := x_pj h hs hk hv8
      have hp := pj_le k s v
      rw [show s 5 - v = (s 5 - (v + 1)) + 1 by omega]
      simp only [alf]
      rw [fX3_endsAllSeen_2, h.2.2.2.2.2.1, ifn (by rw [nI_leI (by omega) (by omega)]; omega), e1, ob, e2, ob, e3, ob, ob, show (1 : Int32) = nI 1 from rfl, pk_sub f1]
      by_cases hq : pj k s v = s (6 + 2 * v) - 1
      · have hQ : Qe k s v = true := by simp [Qe]; omega
        rw [ifp (by rw [hq]), nI_add, hQ, Bool.true_and]
        exact ih (v + 1) (by omega) (by omega)
      · have hQ : Qe k s v = false := by simp [Qe]; omega
        rw [ifn (by rw [nI_eq (by omega) (by omega)]; exact hq), hQ, Bool.false_and]
        rfl
theorem x_endsAll (h : TO σ 1 s) (hs : Vs s) (hk : k < 6) : fX3_endsAllSeen 1 (nI k) σ = some (bI (alf (Qe k s) (s 5) 0)) := by
  have h5 : s 5 ≤ 8 := hs.2.2.2.2.2.2.2.2.1
  exact x_endsL h hs hk 1000 0 (by omega) (by omega)
theorem m_pj (h : MO τ 2 s) (hs : Vs s) (hk : k < 6) {j : Nat} (hj : j < s 5) : ∃ τ', fX6_stopOf (nI k) (nI (s (6 + 2 * j))) (nI (s (7 + 2 * j))) τ = some (if pj k s j < s (6 + 2 * j) then nI (pj k s j + 1) else 0, τ') ∧ SM τ τ' ∧ MO τ' 2 s := by
  obtain ⟨f1, f2, f3⟩ := hs.2.2.2.2.2.2.2.2.2 j hj
  obtain ⟨τ', h1, h2, -, -⟩ := m_stopO h hs hk (show s (7 + 2 * j) < 2048 by omega) f2
  exact ⟨τ', h1, h2, SM_MO (Or.inl rfl) h2 h⟩
theorem m_cheatsL (hs : Vs s) : ∀ (n v : Nat) (τ : Mm), MO τ 2 s → v ≤ s 5 → s 5 - v < n → ∃ τ', fX6_cheats_4 n (nI (cn (Qc (s 3) s) v)) (nI v) τ = some (nI (cn (Qc (s 3) s) (s 5)), τ') ∧ SM τ τ' := by
  have h5 : s 5 ≤ 8 := hs.2.2.2.2.2.2.2.2.1
  have hk : s 3 < 6 := hs.2.2.2.2.2.1
  intro n
  induction n with
  | zero => intro v τ _ _ h; omega
  | succ n ih =>
    intro v τ hM hv hn
    by_cases h8 : v = s 5
    · subst h8
      refine ⟨τ, ?_, SM_rf⟩
      rw [fX6_cheats_4, ifp (by decide), show (5 : Int32).toNatClampNeg = 5 from rfl, hM.2.2.2.2.2.1, ifp (nI_le (Nat.le_refl _) (by omega))]
    · have hv8 : v < s 5 := by omega
      obtain ⟨f1, f2, f3⟩ := hs.2.2.2.2.2.2.2.2.2 v hv8
      have hp := pj_le (s 3) s v
      obtain ⟨τ1, c1, c2, c3⟩ := m_pj hM hs hk hv8
      have e4 : cn (Qc (s 3) s) (v + 1) = cn (Qc (s 3) s) v + (if Qc (s 3) s v then 1 else 0) := rfl
      obtain ⟨τ', g1, g2⟩ := ih (v + 1) τ1 c3 (by omega) (by omega)
      refine ⟨τ', ?_, SM_tr c2 g2⟩
      rw [fX6_cheats_4, ifp (by decide), show (5 : Int32).toNatClampNeg = 5 from rfl, hM.2.2.2.2.2.1, ifn (by rw [nI_leI (by omega) (by omega)]; omega), ifp (by decide), show (3 : Int32).toNatClampNeg = 3 from rfl, hM.2.2.2.1, m_many hM h5 hv8, ob, m_sorts hM h5 hv8, ob, c1, ob]
      by_cases hp2 : pj (s 3) s v < s (6 + 2 * v)
      · simp only [ifp hp2]
        rw [ifn (nI_nle (by omega) (by omega)), m_many c3 h5 hv8, ob]
        by_cases hq : s (6 + 2 * v) ≤ pj (s 3) s v + 1
        · have hQ : Qc (s 3) s v = false := by simp [Qc]; omega
          rw [hQ] at e4
          rw [ifp (nI_le hq (by omega)), fX6_cheats_53, fX6_cheats_54, Int32.add_zero, nI_1]
          have e5 : cn (Qc (s 3) s) v = cn (Qc (s 3) s) (v + 1) := by simpa using e4.symm
          rw [e5]
          exact g1
        · have hQ : Qc (s 3) s v = true := by simp [Qc]; omega
          rw [hQ] at e4
          rw [ifn (by rw [nI_leI (by omega) (by omega)]; exact hq), fX6_cheats_54, nI_1, nI_1]
          have e5 : cn (Qc (s 3) s) v + 1 = cn (Qc (s 3) s) (v + 1) := by simpa using e4.symm
          rw [e5]
          exact g1
      · have hQ : Qc (s 3) s v = false := by simp [Qc]; omega
        rw [hQ] at e4
        simp only [ifn hp2]
        rw [ifp (by decide), fX6_cheats_53, fX6_cheats_54, Int32.add_zero, nI_1]
        have e5 : cn (Qc (s 3) s) v = cn (Qc (s 3) s) (v + 1) := by simpa using e4.symm
        rw [e5]
        exact g1
end SEEN
theorem G19 : lawG_19 Rel := by
  intro σ τ hR
  obtain ⟨s, g, im, tx, tn, rn, rb, rf, hV, hX, hT, hM⟩ := hR
  have hs := hV.1
  have hk : s 3 < 6 := hs.2.2.2.2.2.1
  obtain ⟨τ', g1, g2⟩ := m_cheatsL hs 1000 0 τ hM.1 (by omega) (by have := hs.2.2.2.2.2.2.2.2.1; omega)
  refine ⟨nI (cn (Qc (s 3) s) (s 5)), τ', ?_, ?_, Rel_of hV hX hT (SM_RM g2 hM)⟩
  · rw [fX5_cheats, hX.1.2.2.2.1, x_count hX.1 hs hk, ob]
  · rw [fX6_cheats]
    exact g1
/-- the j-th family seen is as FITS (could 0) or COULD (could 1) asks -/
def Qf (c k : Nat) (s : Nat → Nat) (j : Nat) : Bool := Qe k s j || (decide (c = 1) && decide (pj k s j = s (6 + 2 * j)))
def fitK (c : Nat) (s : Nat → Nat) (k : Nat) : Bool := alf (Qf c k s) (s 5) 0
def fitB (c : Nat) (s : Nat → Nat) : Nat → Nat
  | 0 => 0
  | k + 1 => fitB c s k + (if fitK c s k then 2 ^ k else 0)
theorem fitB_lt (c : Nat) (s : Nat → Nat) : ∀ k, fitB c s k < 2 ^ k
  | 0 => by simp [fitB]
  | k + 1 => by
    have h := fitB_lt c s k
    simp only [fitB, Nat.pow_succ]
    split <;> omega
theorem fit_0 {s : Nat → Nat} {k : Nat} : alf (Qe k s) (s 5) 0 = fitK 0 s k := by
  have e : Qe k s = Qf 0 k s := by funext j; simp [Qf]
  rw [fitK, e]
theorem fit_1 {s : Nat → Nat} (hs : Vs s) {k : Nat} : cn (Qc k s) (s 5) = 0 ↔ fitK 1 s k = true := by
  rw [cn_0, fitK, alf_iff]
  constructor
  · intro h j _ hj
    have h1 := h j (by omega)
    have h2 := pj_le k s j
    have h3 := (hs.2.2.2.2.2.2.2.2.2 j (by omega)).1
    simp [Qc] at h1
    simp [Qf, Qe]
    omega
  · intro h j hj
    have h1 := h j (by omega) (by omega)
    simp [Qf, Qe] at h1
    simp [Qc]
    omega
theorem shl_1 {k : Nat} (hk : k < 31) : (1 : Int32) <<< (nI k &&& 31) = nI (1 * 2 ^ k) := by
  have h : 2 ^ k < 2 ^ 31 := Nat.pow_lt_pow_right (by omega) hk
  exact shl_n (a := 1) hk (by omega)
theorem x_fitsL {σ : Mm} {s : Nat → Nat} (h : TO σ 1 s) (hs : Vs s) {c : Nat} (hc : c ≤ 1) : ∀ (n k : Nat), k ≤ 6 → 6 - k < n → fX5_fits_18 n (nI c) (nI (fitB c s k)) (nI k) σ = some (nI (fitB c s 6), σ) := by
  intro n
  induction n with
  | zero => intro k _ h; omega
  | succ n ih =>
    intro k hk hn
    have hlt := fitB_lt c s k
    have hp : 2 ^ k ≤ 2 ^ 6 := Nat.pow_le_pow_right (by omega) hk
    by_cases h8 : k = 6
    · subst h8
      rw [fX5_fits_18, ifp (by decide)]
    · have hk6 : k < 6 := by omega
      have n6 : ¬ (6 : Int32) ≤ nI k := fun q => absurd ((nI_leI (a := 6) (by omega) (by omega)).mp q) (by omega)
      have tail : ∀ b : Bool, fitK c s k = b → fX5_fits_55 (fun wv1 wv2 wv3 wσ => fX5_fits_18 n wv1 wv2 wv3 wσ) (nI c) (nI (fitB c s k)) (nI k) (bI b) σ = some (nI (fitB c s 6), σ) := by
        intro b hb
        cases b with
        | false =>
          rw [fX5_fits_55, ifp (by decide), fX5_fits_68, nI_1]
          have e : fitB c s k = fitB c s (k + 1) := by simp [fitB, hb]
          rw [e]
          exact ih (k + 1) (by omega) (by omega)
        | true =>
          rw [fX5_fits_55, ifn (by decide), fX5_fits_68, shl_1 (by omega), or_bit 1 hlt, nI_1]
          have e : fitB c s k + 1 * 2 ^ k = fitB c s (k + 1) := by simp [fitB, hb]
          rw [e]
          exact ih (k + 1) (by omega) (by omega)
      rcases (show c = 0 ∨ c = 1 by omega) with rfl | rfl
      · rw [fX5_fits_18, ifn n6, ifp (by decide), x_endsAll h hs hk6, ob]
        exact tail _ fit_0.symm
      · rw [fX5_fits_18, ifn n6, ifn (by decide), x_count h hs hk6, ob]
        have hle := cn_le (Qc k s) (s 5)
        have h5 : s 5 ≤ 8 := hs.2.2.2.2.2.2.2.2.1
        by_cases hz : cn (Qc k s) (s 5) = 0
        · rw [ifp (by rw [hz]; rfl)]
          exact tail true ((fit_1 hs).mp hz)
        · rw [ifn (nI_ne0 (by omega) (by omega))]
          have hf : fitK 1 s k = false := by
            cases hq : fitK 1 s k with
            | false => rfl
            | true => exact absurd ((fit_1 hs).mpr hq) hz
          exact tail false hf
theorem m_fitsI {s : Nat → Nat} (hs : Vs s) {c k B : Nat} (hc : c ≤ 1) (hk : k < 6) (hB : B < 2 ^ k) (KK : Int32 → Int32 → Int32 → Mm → Option (Int32 × Mm)) : ∀ (n v : Nat) (fl : Bool) (τ : Mm), MO τ 2 s → v ≤ s 5 → s 5 - v < n → ∃ τ', fX6_fits_31 KK n (nI c) (nI B) (nI k) (bI fl) (nI v) τ = KK (nI c) (nI (B + (if fl && alf (Qf c k s) (s 5 - v) v then 2 ^ k else 0))) (nI (k + 1)) τ' ∧ SM τ τ' := by
  have h5 : s 5 ≤ 8 := hs.2.2.2.2.2.2.2.2.1
  intro n
  induction n with
  | zero => intro v fl τ _ _ h; omega
  | succ n ih =>
    intro v fl τ hM hv hn
    by_cases h8 : v = s 5
    · subst h8
      refine ⟨τ, ?_, SM_rf⟩
      rw [fX6_fits_31, ifp (by decide), show (5 : Int32).toNatClampNeg = 5 from rfl, hM.2.2.2.2.2.1, ifp (nI_le (Nat.le_refl _) (by omega)), Nat.sub_self]
      cases fl with
      | false => rw [ifp (by decide), fX6_fits_113, nI_1, show (0 : Int32) = nI 0 from rfl, fa_or]; simp [alf]
      | true => rw [ifn (by decide), fX6_fits_113, nI_1, shl_1 (by omega), or_bit 1 hB]; simp [alf]
    · have hv8 : v < s 5 := by omega
      obtain ⟨f1, f2, f3⟩ := hs.2.2.2.2.2.2.2.2.2 v hv8
      have hp := pj_le k s v
      obtain ⟨τ1, c1, c2, c3⟩ := m_pj hM hs hk hv8
      have eA : alf (Qf c k s) (s 5 - v) v = (Qf c k s v && alf (Qf c k s) (s 5 - (v + 1)) (v + 1)) := by
        rw [show s 5 - v = (s 5 - (v + 1)) + 1 by omega]
        rfl
      rw [eA]
      have e0 : fX6_fits_31 KK (n + 1) (nI c) (nI B) (nI k) (bI fl) (nI v) τ = fX6_fits_31 KK n (nI c) (nI B) (nI k) (bI (fl && Qf c k s v)) (nI (v + 1)) τ1 := by
        rw [fX6_fits_31, ifp (by decide), show (5 : Int32).toNatClampNeg = 5 from rfl, hM.2.2.2.2.2.1, ifn (by rw [nI_leI (by omega) (by omega)]; omega), m_many hM h5 hv8, ob, m_sorts hM h5 hv8, ob, c1, ob]
        cases fl with
        | false => rw [ifp (by decide), fX6_fits_91, fX6_fits_92, nI_1]; rfl
        | true =>
          rw [ifn (by decide), m_many c3 h5 hv8, ob]
          by_cases hp2 : pj k s v < s (6 + 2 * v)
          · simp only [ifp hp2]
            by_cases hq : pj k s v + 1 = s (6 + 2 * v)
            · have hQ : Qf c k s v = true := by simp [Qf, Qe, hq]
              rw [ifp (by rw [hq]), fX6_fits_87, fX6_fits_92, nI_1, hQ]
              rfl
            · have hQ : Qf c k s v = false := by
                simp [Qf, Qe, hq]; omega
              rw [ifn (by rw [nI_eq (by omega) (by omega)]; exact hq), hQ]
              by_cases hc1 : nI c = (1 : Int32)
              · rw [ifp hc1, ifn (nI_ne0 (by omega) (by omega)), fX6_fits_91, fX6_fits_92, nI_1]; rfl
              · rw [ifn hc1, fX6_fits_91, fX6_fits_92, nI_1]; rfl
          · have hpe : pj k s v = s (6 + 2 * v) := by omega
            simp only [ifn hp2]
            rw [ifn (fun q => nI_ne0 (show 0 < s (6 + 2 * v) by omega) (by omega) q.symm)]
            rcases (show c = 0 ∨ c = 1 by omega) with rfl | rfl
            · have hQ : Qf 0 k s v = false := by simp [Qf, Qe, hpe]
              rw [ifn (by decide), fX6_fits_91, fX6_fits_92, nI_1, hQ]; rfl
            · have hQ : Qf 1 k s v = true := by simp [Qf, hpe]
              rw [ifp (by decide), ifp trivial, fX6_fits_87, fX6_fits_92, nI_1, hQ]; rfl
      obtain ⟨τ', g1, g2⟩ := ih (v + 1) (fl && Qf c k s v) τ1 c3 (by omega) (by omega)
      refine ⟨τ', ?_, SM_tr c2 g2⟩
      rw [e0, g1, Bool.and_assoc]
theorem m_fitsL {s : Nat → Nat} (hs : Vs s) {c : Nat} (hc : c ≤ 1) : ∀ (n k : Nat) (τ : Mm), MO τ 2 s → k ≤ 6 → 6 - k < n → ∃ τ', fX6_fits_19 n (nI c) (nI (fitB c s k)) (nI k) τ = some (nI (fitB c s 6), τ') ∧ SM τ τ' := by
  have h5 : s 5 ≤ 8 := hs.2.2.2.2.2.2.2.2.1
  intro n
  induction n with
  | zero => intro k τ _ _ h; omega
  | succ n ih =>
    intro k τ hM hk hn
    by_cases h8 : k = 6
    · subst h8
      exact ⟨τ, by rw [fX6_fits_19, ifp (by decide)], SM_rf⟩
    · have hk6 : k < 6 := by omega
      have n6 : ¬ (6 : Int32) ≤ nI k := fun q => absurd ((nI_leI (a := 6) (by omega) (by omega)).mp q) (by omega)
      obtain ⟨τ1, c1, c2⟩ := m_fitsI hs hc hk6 (fitB_lt c s k) (fun wv1 wv2 wv3 wσ => fX6_fits_19 n wv1 wv2 wv3 wσ) 1000 0 true τ hM (by omega) (by omega)
      obtain ⟨τ', g1, g2⟩ := ih (k + 1) τ1 (SM_MO (Or.inl rfl) c2 hM) (by omega) (by omega)
      refine ⟨τ', ?_, SM_tr c2 g2⟩
      rw [fX6_fits_19, ifn n6]
      refine Eq.trans c1 ?_
      exact g1
theorem G16 : lawG_16 Rel := by
  intro a0 σ τ hR
  have hRel := hR
  obtain ⟨s, g, im, tx, tn, rn, rb, rf, hV, hX, hT, hM⟩ := hR
  have hs := hV.1
  by_cases h1 : a0 < 0 ∨ (2 : Int32) ≤ a0
  · refine ⟨-2, _, _, ?_, ?_, Rel_ref 1 (by omega) hRel⟩
    · rw [fX5_fits, x_nb1 h1, ob, ifn (by decide), x_ref2]; rfl
    · rw [fX6_fits, m_isIn, ob, ifp h1, ifp rfl, m_ref2]; rfl
  · have h2 : ¬ a0 < 0 := fun q => h1 (Or.inl q)
    have h3 : a0 ≤ (1 : Int32) := by
      have h4 : ¬ (2 : Int32) ≤ a0 := fun q => h1 (Or.inr q)
      rw [fa_le] at h4 ⊢
      have e1 : (1 : Int32).toInt = 1 := rfl
      have e2 : (2 : Int32).toInt = 2 := rfl
      omega
    obtain ⟨c, hc, rfl⟩ := nI_le_of (M := 1) (x := a0) 1 rfl h2 h3
    obtain ⟨τ', g1, g2⟩ := m_fitsL hs hc 1000 0 τ hM.1 (by omega) (by omega)
    refine ⟨nI (fitB c s 6), σ, τ', ?_, ?_, Rel_of hV hX hT (SM_RM g2 hM)⟩
    · rw [fX5_fits, x_nb0 h1, ob, ifp rfl]
      exact x_fitsL hX.1 hs hc 1000 0 (by omega) (by omega)
    · rw [fX6_fits, m_isIn, ob, ifn h1, ifn (by decide)]
      exact g1
