/-! rows of sorts, and where a law stops them -/
def fstp (P : Nat → Bool) : Nat → Nat → Nat
  | 0, i => i
  | j + 1, i => if P i then i else fstp P j (i + 1)
theorem fstp_le (P : Nat → Bool) : ∀ j i, i ≤ fstp P j i ∧ fstp P j i ≤ i + j
  | 0, i => by simp [fstp]
  | j + 1, i => by
    have h := fstp_le P j (i + 1)
    simp only [fstp]
    split <;> omega
def oc (b : Nat) : Nat → Nat
  | 0 => 0
  | i + 1 => oc b i + b / 2 ^ i % 2
def rc (b : Nat) : Nat → Nat
  | 0 => 0
  | i + 1 => if b / 2 ^ i % 2 = 1 then rc b i + 1 else 0
theorem oc_le (b : Nat) : ∀ i, oc b i ≤ i
  | 0 => Nat.le_refl _
  | i + 1 => by
    have h := oc_le b i
    simp only [oc]
    omega
theorem rc_le (b : Nat) : ∀ i, rc b i ≤ i
  | 0 => Nat.le_refl _
  | i + 1 => by
    have h := rc_le b i
    simp only [rc]
    split <;> omega
theorem bit_mod {q n i : Nat} (h : i < n) : q % 2 ^ n / 2 ^ i % 2 = q / 2 ^ i % 2 := by
  have e : 2 ^ n = 2 ^ i * 2 ^ (n - i) := by rw [← Nat.pow_add]; congr 1; omega
  rw [e, Nat.mod_mul_right_div_self]
  apply Nat.mod_mod_of_dvd
  have : n - i = (n - i - 1) + 1 := by omega
  rw [this, Nat.pow_succ]
  exact Nat.dvd_mul_left _ _
theorem oc_mod {q n : Nat} : ∀ i, i ≤ n → oc (q % 2 ^ n) i = oc q i
  | 0, _ => rfl
  | i + 1, h => by simp only [oc]; rw [oc_mod i (by omega), bit_mod (by omega)]
theorem rc_mod {q n : Nat} : ∀ i, i ≤ n → rc (q % 2 ^ n) i = rc q i
  | 0, _ => rfl
  | i + 1, h => by simp only [rc]; rw [rc_mod i (by omega), bit_mod (by omega)]
/-- whether the law stops behind child i (nought the eldest) -/
def stopAt (k : Nat) (s : Nat → Nat) (b i : Nat) : Bool := decide (s 0 ≤ i + 1) || stp k (s 4) (oc b (i + 1)) (i + 1 - oc b (i + 1)) (rc b (i + 1))
theorem stopAt_mod {k : Nat} {s : Nat → Nat} {q n i : Nat} (h : i < n) : stopAt k s (q % 2 ^ n) i = stopAt k s q i := by
  unfold stopAt
  rw [oc_mod (i + 1) (by omega), rc_mod (i + 1) (by omega)]
theorem fstp_congr {P Q : Nat → Bool} : ∀ j i, (∀ k, i ≤ k → k < i + j → P k = Q k) → fstp P j i = fstp Q j i
  | 0, _, _ => rfl
  | j + 1, i, h => by
    simp only [fstp]
    rw [h i (by omega) (by omega), fstp_congr j (i + 1) (fun k h1 h2 => h k (by omega) (by omega))]
theorem bitv {b i : Nat} (hb : b < 2048) (hi : i < 31) : (nI b >>> (nI i &&& 31)) &&& 1 = nI (b / 2 ^ i % 2) := by
  rw [shr_n hi (by omega), and_1]
theorem x_stopL {σ : Mm} {t : Nat} {s : Nat → Nat} (h : TO σ t s) (hs : Vs s) {k b len : Nat} (hk : k < 6) (hb : b < 2048) (hlen : len ≤ 10) : ∀ (n v : Nat), v ≤ len → len - v < n → fX3_stopPlace_9 t σ n (nI k) (nI len) (nI b) (nI (oc b v)) (nI (rc b v)) (nI v) = some (nI (fstp (stopAt k s b) (len - v) v)) := by
  obtain ⟨x1, x2, x3, x4, x5, x6, x7⟩ := h
  obtain ⟨u0, u1, u2, u3, u4, u5, u6, u7, u8, u9⟩ := hs
  intro n
  induction n with
  | zero => intro v _ h; omega
  | succ n ih =>
    intro v hv hn
    by_cases h8 : v = len
    · subst h8
      rw [fX3_stopPlace_9, ifp (nI_le (Nat.le_refl _) (by omega)), Nat.sub_self]
      rfl
    · have hv8 : v < len := by omega
      have hb1 : b / 2 ^ v % 2 < 2 := Nat.mod_lt _ (by omega)
      have ho := oc_le b v
      have hr := rc_le b v
      have ho1 := oc_le b (v + 1)
      have hr1 := rc_le b (v + 1)
      have tail : fX3_stopPlace_60 t σ (fun wv1 wv2 wv3 wv4 wv5 wv6 => fX3_stopPlace_9 t σ n wv1 wv2 wv3 wv4 wv5 wv6) (nI k) (nI len) (nI b) (nI (oc b (v + 1))) (nI v) (nI (rc b (v + 1))) = some (nI (fstp (stopAt k s b) (len - v) v)) := by
        rw [show len - v = (len - (v + 1)) + 1 by omega]
        simp only [fstp]
        rw [fX3_stopPlace_60, nI_1, x1]
        by_cases hm : s 0 ≤ v + 1
        · rw [ifp (nI_le hm (by omega)), ifp (by simp [stopAt, hm])]
        · rw [ifn (by rw [nI_leI (by omega) (by omega)]; exact hm), x5, pk_sub ho1, x_stops hk (by omega) (by omega) (by omega) (by omega), ob]
          cases hst : stp k (s 4) (oc b (v + 1)) (v + 1 - oc b (v + 1)) (rc b (v + 1)) with
          | true => rw [ifn (by decide), ifp (by simp [stopAt, hst])]
          | false =>
            rw [ifp (by decide), ifn (by simp [stopAt, hst, hm])]
            exact ih (v + 1) (by omega) (by omega)
      rw [fX3_stopPlace_9, ifn (by rw [nI_leI (by omega) (by omega)]; omega), bitv hb (by omega)]
      by_cases h1 : b / 2 ^ v % 2 = 1
      · have eo : oc b (v + 1) = oc b v + 1 := by simp [oc, h1]
        have er : rc b (v + 1) = rc b v + 1 := by simp [rc, h1]
        rw [h1, ifp (show nI 1 = 1 from rfl), fX3_stopPlace_30, ifn (by decide), fX3_stopPlace_44, ifn (by decide), nI_1, nI_1, ← eo, ← er]
        exact tail
      · have h0 : b / 2 ^ v % 2 = 0 := by omega
        have eo : oc b (v + 1) = oc b v := by simp [oc, h0]
        have er : rc b (v + 1) = 0 := by simp [rc, h0]
        rw [h0, ifn (by decide), fX3_stopPlace_30, ifp (by decide), fX3_stopPlace_44, ifp (by decide), Int32.add_zero, ← eo]
        rw [er] at tail
        exact tail
theorem x_stopP {σ : Mm} {t : Nat} {s : Nat → Nat} (h : TO σ t s) (hs : Vs s) {k b len : Nat} (hk : k < 6) (hb : b < 2048) (hlen : len ≤ 10) : fX3_stopPlace t (nI k) (nI len) (nI b) σ = some (nI (fstp (stopAt k s b) len 0)) := by
  have h1 := x_stopL h hs hk hb hlen 1000 0 (by omega) (by omega)
  rw [fX3_stopPlace]
  exact h1
/-! the reference: cells that no answer looks at -/
def ir (a b : Nat) : Prop := a = 4 ∨ a = 6 ∨ (a = 0 ∧ (b = 8 ∨ (20 ≤ b ∧ b ≤ 25) ∨ b = 28))
def SM (τ τ' : Mm) : Prop := ∀ a b, ¬ ir a b → gI τ' a b = gI τ a b
theorem SM_rf {τ : Mm} : SM τ τ := fun _ _ _ => rfl
theorem SM_tr {τ τ' τ'' : Mm} (h : SM τ τ') (h2 : SM τ' τ'') : SM τ τ'' := fun a b h3 => (h2 a b h3).trans (h a b h3)
theorem SM_pI {τ τ' : Mm} {i k : Nat} {v : Int32} (h : SM τ τ') (hi : ir i k) : SM τ (pI τ' i k v) := fun a b h3 => by
  rw [gI_pI, ifn (fun q => h3 (by rw [q.1, q.2]; exact hi))]
  exact h a b h3
theorem SM_pL {τ τ' : Mm} {i k : Nat} {v : Int64} (h : SM τ τ') : SM τ (pL τ' i k v) := fun a b h3 => h a b h3
theorem SM_MO {τ τ' : Mm} {j : Nat} {s : Nat → Nat} (hj : j = 2 ∨ j = 3) (h : SM τ τ') (hM : MO τ j s) : MO τ' j s := MO_same hM (fun b => h j b (by unfold ir; omega))
theorem SM_RM {τ τ' : Mm} {s g tx rf : Nat → Nat} {im : Bool} {tn rn rb : Nat} (h : SM τ τ') (hM : RM τ s g im tx tn rn rb rf) : RM τ' s g im tx tn rn rb rf := by
  obtain ⟨m1, m2, m3, m4, m5, m6, m7, m8⟩ := hM
  refine ⟨SM_MO (Or.inl rfl) h m1, by rw [h 0 4 (by unfold ir; omega)]; exact m2, fun q => SM_MO (Or.inr rfl) h (m3 q), by rw [h 0 7 (by unfold ir; omega)]; exact m4, fun k hk => by rw [h 5 k (by unfold ir; omega)]; exact m5 k hk, by rw [h 0 26 (by unfold ir; omega)]; exact m6, by rw [h 0 27 (by unfold ir; omega)]; exact m7, fun k hk => by rw [h 1 _ (by unfold ir; omega)]; exact m8 k hk⟩
theorem m_stopL {s : Nat → Nat} (hs : Vs s) {k b len : Nat} (hk : k < 6) (hb : b < 2048) (hlen : len ≤ 10) : ∀ (n v : Nat) (τ : Mm), v ≤ len → len - v < n → MO τ 2 s → gI τ 0 23 = nI (oc b v) → gI τ 0 24 = nI (v - oc b v) → gI τ 0 25 = nI (rc b v) →
    ∃ τ', fX6_stopOf_18 n (nI k) (nI len) (nI b) (nI v) τ = some (if fstp (stopAt k s b) (len - v) v < len then nI (fstp (stopAt k s b) (len - v) v + 1) else 0, τ') ∧ SM τ τ' ∧ (∀ a b, gL τ' a b = gL τ a b) ∧ (fstp (stopAt k s b) (len - v) v = len → gI τ' 0 23 = nI (oc b len) ∧ gI τ' 0 24 = nI (len - oc b len) ∧ gI τ' 0 25 = nI (rc b len)) := by
  intro n
  induction n with
  | zero => intro v τ _ h; omega
  | succ n ih =>
    intro v τ hv hn hM h23 h24 h25
    by_cases h8 : v = len
    · subst h8
      refine ⟨τ, ?_, SM_rf, fun _ _ => rfl, fun _ => ⟨h23, h24, h25⟩⟩
      rw [fX6_stopOf_18, ifp (nI_le (Nat.le_refl _) (by omega)), Nat.sub_self]
      simp [fstp]
    · have hv8 : v < len := by omega
      have hb1 : b / 2 ^ v % 2 < 2 := Nat.mod_lt _ (by omega)
      have ho := oc_le b v
      have hr := rc_le b v
      have ho1 := oc_le b (v + 1)
      have hr1 := rc_le b (v + 1)
      have eo : oc b (v + 1) = oc b v + b / 2 ^ v % 2 := rfl
      have e1 : nI (oc b v) + nI (b / 2 ^ v % 2) = nI (oc b (v + 1)) := by rw [nI_add, eo]
      have e2 : nI (v - oc b v) + ((1 : Int32) - nI (b / 2 ^ v % 2)) = nI (v + 1 - oc b (v + 1)) := by
        rw [show (1 : Int32) = nI 1 from rfl, pk_sub (by omega), nI_add]
        congr 1
        omega
      have tail : ∀ (ρ : Mm), SM τ ρ → (∀ a b, gL ρ a b = gL τ a b) → gI ρ 0 23 = nI (oc b (v + 1)) → gI ρ 0 24 = nI (v + 1 - oc b (v + 1)) → ∃ τ', fX6_stopOf_73 (fun wv1 wv2 wv3 wv4 wσ => fX6_stopOf_18 n wv1 wv2 wv3 wv4 wσ) (nI k) (nI len) (nI b) (nI v) (nI (rc b (v + 1))) ρ = some (if fstp (stopAt k s b) (len - v) v < len then nI (fstp (stopAt k s b) (len - v) v + 1) else 0, τ') ∧ SM τ τ' ∧ (∀ a b, gL τ' a b = gL τ a b) ∧ (fstp (stopAt k s b) (len - v) v = len → gI τ' 0 23 = nI (oc b len) ∧ gI τ' 0 24 = nI (len - oc b len) ∧ gI τ' 0 25 = nI (rc b len)) := by
        intro ρ hρ hρL r23 r24
        have f23 : gI (pI ρ 0 25 (nI (rc b (v + 1)))) 0 23 = nI (oc b (v + 1)) := by rw [gI_pI, ifn (by omega)]; exact r23
        have f24 : gI (pI ρ 0 25 (nI (rc b (v + 1)))) 0 24 = nI (v + 1 - oc b (v + 1)) := by rw [gI_pI, ifn (by omega)]; exact r24
        have f25 : gI (pI ρ 0 25 (nI (rc b (v + 1)))) 0 25 = nI (rc b (v + 1)) := by rw [gI_pI, ifp (by omega)]
        have sm2 : SM τ (pI ρ 0 25 (nI (rc b (v + 1)))) := SM_pI hρ (by unfold ir; omega)
        have hM2 : MO (pI ρ 0 25 (nI (rc b (v + 1)))) 2 s := SM_MO (Or.inl rfl) sm2 hM
        have hF : fstp (stopAt k s b) (len - v) v = if stopAt k s b v then v else fstp (stopAt k s b) (len - (v + 1)) (v + 1) := by
          rw [show len - v = (len - (v + 1)) + 1 by omega]
          rfl
        rw [fX6_stopOf_73, f23, f24, f25, m_ends hM2 hs hk (by omega) (by omega) (by omega), ob]
        have ea : oc b (v + 1) + (v + 1 - oc b (v + 1)) = v + 1 := by omega
        rw [ea]
        cases hst : (decide (s 0 ≤ v + 1) || stp k (s 4) (oc b (v + 1)) (v + 1 - oc b (v + 1)) (rc b (v + 1))) with
        | true =>
          have ha : stopAt k s b v = true := hst
          have hF2 : fstp (stopAt k s b) (len - v) v = v := by rw [hF, ha, ifp rfl]
          refine ⟨_, ?_, sm2, fun a b => hρL a b, fun q => ?_⟩
          · rw [ifn (by decide), hF2, ifp hv8, nI_1]
          · rw [hF2] at q
            omega
        | false =>
          have ha : stopAt k s b v = false := hst
          obtain ⟨τ', g1, g2, g3, g4⟩ := ih (v + 1) (pI ρ 0 25 (nI (rc b (v + 1)))) (by omega) (by omega) hM2 f23 f24 f25
          have hF2 : fstp (stopAt k s b) (len - v) v = fstp (stopAt k s b) (len - (v + 1)) (v + 1) := by rw [hF, ha, ifn (by decide)]
          refine ⟨τ', ?_, SM_tr sm2 g2, fun a b => (g3 a b).trans (hρL a b), ?_⟩
          · rw [ifp (by decide), hF2, nI_1]
            exact g1
          · rw [hF2]
            exact g4
      have c23 : ∀ (x : Int32), gI (pI (pI τ 0 23 x) 0 24 (gI (pI τ 0 23 x) 0 24 + ((1 : Int32) - nI (b / 2 ^ v % 2)))) 0 23 = x := fun x => by rw [gI_pI, ifn (by omega), gI_pI, ifp (by omega)]
      have c24 : gI (pI τ 0 23 (nI (oc b (v + 1)))) 0 24 + ((1 : Int32) - nI (b / 2 ^ v % 2)) = nI (v + 1 - oc b (v + 1)) := by rw [gI_pI, ifn (by omega), h24, e2]
      rw [fX6_stopOf_18, ifn (by rw [nI_leI (by omega) (by omega)]; omega), bitv hb (by omega), h23, e1, c24]
      have s0 : SM τ (pI (pI τ 0 23 (nI (oc b (v + 1)))) 0 24 (nI (v + 1 - oc b (v + 1)))) := SM_pI (SM_pI SM_rf (by unfold ir; omega)) (by unfold ir; omega)
      have d23 : gI (pI (pI τ 0 23 (nI (oc b (v + 1)))) 0 24 (nI (v + 1 - oc b (v + 1)))) 0 23 = nI (oc b (v + 1)) := by rw [gI_pI, ifn (by omega), gI_pI, ifp (by omega)]
      have d24 : gI (pI (pI τ 0 23 (nI (oc b (v + 1)))) 0 24 (nI (v + 1 - oc b (v + 1)))) 0 24 = nI (v + 1 - oc b (v + 1)) := by rw [gI_pI, ifp (by omega)]
      have d25 : gI (pI (pI τ 0 23 (nI (oc b (v + 1)))) 0 24 (nI (v + 1 - oc b (v + 1)))) 0 25 = nI (rc b v) := by rw [gI_pI, ifn (by omega), gI_pI, ifn (by omega)]; exact h25
      have tl := tail _ s0 (fun _ _ => rfl) d23 d24
      by_cases h1 : b / 2 ^ v % 2 = 1
      · have er : rc b (v + 1) = rc b v + 1 := by simp [rc, h1]
        rw [ifp (by rw [h1]; rfl), d25, nI_1, ← er]
        exact tl
      · have h0 : b / 2 ^ v % 2 = 0 := by omega
        have er : rc b (v + 1) = 0 := by simp [rc, h0]
        rw [ifn (by rw [h0]; decide)]
        rw [er] at tl
        exact tl
theorem m_stopO {τ : Mm} {s : Nat → Nat} (hM : MO τ 2 s) (hs : Vs s) {k b len : Nat} (hk : k < 6) (hb : b < 2048) (hlen : len ≤ 10) : ∃ τ', fX6_stopOf (nI k) (nI len) (nI b) τ = some (if fstp (stopAt k s b) len 0 < len then nI (fstp (stopAt k s b) len 0 + 1) else 0, τ') ∧ SM τ τ' ∧ (∀ a b, gL τ' a b = gL τ a b) ∧ (fstp (stopAt k s b) len 0 = len → gI τ' 0 23 = nI (oc b len) ∧ gI τ' 0 24 = nI (len - oc b len) ∧ gI τ' 0 25 = nI (rc b len)) := by
  have s0 : SM τ (pI (pI (pI τ 0 23 0) 0 24 0) 0 25 0) := SM_pI (SM_pI (SM_pI SM_rf (by unfold ir; omega)) (by unfold ir; omega)) (by unfold ir; omega)
  obtain ⟨τ', h1, h2, h3, h4⟩ := m_stopL hs hk hb hlen 1000 0 (pI (pI (pI τ 0 23 0) 0 24 0) 0 25 0) (by omega) (by omega) (SM_MO (Or.inl rfl) s0 hM) rfl rfl rfl
  exact ⟨τ', h1, SM_tr s0 h2, fun a b => h3 a b, h4⟩
/-! judge -/
theorem G17 : lawG_17 Rel := by
  intro σ τ hR
  obtain ⟨s, g, im, tx, tn, rn, rb, rf, hV, hX, hT, hM⟩ := hR
  obtain ⟨v1, v2, v3, v4, v5, v6⟩ := hV
  obtain ⟨x1, x2, x3, x4, x5, x6, x7, x8⟩ := hX
  have hM0 := hM
  obtain ⟨m1, m2, m3, m4, m5, m6, ⟨q27, hq27, m7, hqm⟩, m8⟩ := hM
  have hp10 : 2 ^ rn ≤ 2 ^ 10 := Nat.pow_le_pow_right (by omega) v5
  have hk : s 3 < 6 := v1.2.2.2.2.2.1
  have hfst : fstp (stopAt (s 3) s rb) rn 0 = fstp (stopAt (s 3) s q27) rn 0 := fstp_congr rn 0 (fun i _ hi => by rw [← hqm, stopAt_mod (by omega)])
  have hle := fstp_le (stopAt (s 3) s q27) rn 0
  have z0 : ∀ a b, ¬ (a = 0 ∧ b = 26) → gI (pI τ 0 26 0) a b = gI τ a b := fun a b h => by rw [gI_pI, ifn h]
  have hM1 : MO (pI τ 0 26 0) 2 s := MO_same m1 (fun b => z0 2 b (by omega))
  obtain ⟨τ', c1, c2, -, -⟩ := m_stopO hM1 v1 hk hq27 v5
  have xs := x_stopP x1 v1 hk (show rb < 2048 by omega) v5
  have hRM : RM (pI τ 0 26 0) s g im tx tn 0 0 rf := by
    refine ⟨hM1, by rw [z0 0 4 (by omega)]; exact m2, fun q => MO_same (m3 q) (fun b => z0 3 b (by omega)), by rw [z0 0 7 (by omega)]; exact m4, fun k hk => by rw [z0 5 k (by omega)]; exact m5 k hk, rfl, ⟨q27, hq27, by rw [z0 0 27 (by omega)]; exact m7, by simp [Nat.mod_one]⟩, fun k hk => by rw [z0 1 _ (by omega)]; exact m8 k hk⟩
  have hRel' : Rel (pI (pI σ 0 5 0) 0 6 0) τ' := by
    refine Rel_of (s := s) (g := g) (im := im) (tx := tx) (tn := tn) (rn := 0) (rb := 0) (rf := rf) ⟨v1, v2, v3, v4, by omega, by simp⟩ ?_ (RT_pI (by omega) (RT_pI (by omega) hT)) (SM_RM c2 hRM)
    unfold RX TO
    unfold TO at x1 x3
    simp only [gI_pI]
    refine ⟨by simpa using x1, by simpa using x2, by simpa using x3, by simpa using x4, by simpa using x5, by simp; rfl, by simp; rfl, by simpa using x8⟩
  have em : fX6_judge τ = (fX6_stopOf (nI (s 3)) (nI rn) (nI q27) (pI τ 0 26 0)).bind (fun q_2 => (if q_2.1 = 0 then some ((-9 : Int32), q_2.2) else (if q_2.1 = nI rn then some ((20 : Int32), q_2.2) else some ((q_2.1 - (1 : Int32)), q_2.2)))) := by
    rw [fX6_judge, ifp (by decide), show (3 : Int32).toNatClampNeg = 3 from rfl, z0 2 3 (by omega), z0 0 27 (by omega), m1.2.2.2.1, m6, m7]
  have ex : fX5_judge σ = (fX3_stopPlace 1 (nI (s 3)) (nI rn) (nI rb) σ).bind (fun q_1 => (if q_1 < nI rn then (if q_1 = (nI rn - (1 : Int32)) then some ((20 : Int32), (pI (pI σ 0 5 (0 : Int32)) 0 6 (0 : Int32))) else some (q_1, (pI (pI σ 0 5 (0 : Int32)) 0 6 (0 : Int32)))) else some ((-9 : Int32), (pI (pI σ 0 5 (0 : Int32)) 0 6 (0 : Int32))))) := by
    rw [fX5_judge, x1.2.2.2.1, x6, x7]
  rw [xs, ob, hfst] at ex
  rw [c1, ob] at em
  by_cases h1 : fstp (stopAt (s 3) s q27) rn 0 < rn
  · rw [ifp (nI_lt h1 (by omega))] at ex
    rw [ifp h1, ifn (nI_ne0 (by omega) (by omega))] at em
    by_cases h2 : fstp (stopAt (s 3) s q27) rn 0 + 1 = rn
    · refine ⟨20, _, _, ?_, ?_, hRel'⟩
      · rw [ex, ifp (by rw [show (1 : Int32) = nI 1 from rfl, pk_sub (by omega)]; congr 1; omega)]
      · rw [em, ifp (by rw [h2])]
    · refine ⟨nI (fstp (stopAt (s 3) s q27) rn 0), _, _, ?_, ?_, hRel'⟩
      · rw [ex, ifn (by rw [show (1 : Int32) = nI 1 from rfl, pk_sub (by omega), nI_eq (by omega) (by omega)]; omega)]
      · rw [em, ifn (by rw [nI_eq (by omega) (by omega)]; exact h2), nI_pred]
  · refine ⟨-9, _, _, ?_, ?_, hRel'⟩
    · rw [ex, ifn (by rw [nI_ltI (by omega) (by omega)]; exact h1)]
    · rw [em, ifn h1, ifp rfl]
