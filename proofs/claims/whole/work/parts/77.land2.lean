/-! land: what is told comes -/
theorem TO_set {σ : Mm} {i w j : Nat} {s : Nat → Nat} (hw : w < 3) (h : TO σ i s) : TO (pI σ i (w + 2) (if w = 2 then nI j - 5 else nI j)) i (su s w j) := by
  obtain ⟨x1a, x1b, x1c, x1d, x1e, x1f, x1g⟩ := h
  unfold TO
  simp only [gI_pI]
  refine ⟨?_, ?_, ?_, ?_, ?_, ?_, fun k hk => ?_⟩
  · rcases (show w = 0 ∨ w = 1 ∨ w = 2 by omega) with rfl | rfl | rfl <;> simp [su, x1a]
  · rcases (show w = 0 ∨ w = 1 ∨ w = 2 by omega) with rfl | rfl | rfl <;> simp [su, x1b]
  · rcases (show w = 0 ∨ w = 1 ∨ w = 2 by omega) with rfl | rfl | rfl <;> simp [su, x1c]
  · rcases (show w = 0 ∨ w = 1 ∨ w = 2 by omega) with rfl | rfl | rfl <;> simp [su, x1d]
  · rcases (show w = 0 ∨ w = 1 ∨ w = 2 by omega) with rfl | rfl | rfl <;> simp [su, x1e]
  · rcases (show w = 0 ∨ w = 1 ∨ w = 2 by omega) with rfl | rfl | rfl <;> simp [su, x1f]
  · rw [su_hi (by omega) (by omega), su_hi (by omega) (by omega)]
    rw [su_ne (by omega)] at hk
    simpa using x1g k hk
theorem MO_set {τ : Mm} {i w j : Nat} {s : Nat → Nat} (hw : w < 5) (h : MO τ i s) : MO (pI τ i w (nI j)) i (su s w j) := by
  obtain ⟨m1a, m1b, m1c, m1d, m1e, m1f, m1g⟩ := h
  unfold MO
  simp only [gI_pI]
  refine ⟨?_, ?_, ?_, ?_, ?_, ?_, fun k hk => ?_⟩
  · rcases (show w = 0 ∨ w = 1 ∨ w = 2 ∨ w = 3 ∨ w = 4 by omega) with rfl | rfl | rfl | rfl | rfl <;> simp [su, m1a]
  · rcases (show w = 0 ∨ w = 1 ∨ w = 2 ∨ w = 3 ∨ w = 4 by omega) with rfl | rfl | rfl | rfl | rfl <;> simp [su, m1b]
  · rcases (show w = 0 ∨ w = 1 ∨ w = 2 ∨ w = 3 ∨ w = 4 by omega) with rfl | rfl | rfl | rfl | rfl <;> simp [su, m1c]
  · rcases (show w = 0 ∨ w = 1 ∨ w = 2 ∨ w = 3 ∨ w = 4 by omega) with rfl | rfl | rfl | rfl | rfl <;> simp [su, m1d]
  · rcases (show w = 0 ∨ w = 1 ∨ w = 2 ∨ w = 3 ∨ w = 4 by omega) with rfl | rfl | rfl | rfl | rfl <;> simp [su, m1e]
  · rcases (show w = 0 ∨ w = 1 ∨ w = 2 ∨ w = 3 ∨ w = 4 by omega) with rfl | rfl | rfl | rfl | rfl <;> simp [su, m1f]
  · rw [su_hi (by omega) (by omega), su_hi (by omega) (by omega)]
    rw [su_ne (by omega)] at hk
    have e1 : ¬ 6 + 2 * k = w := by omega
    have e2 : ¬ 7 + 2 * k = w := by omega
    simp only [e1, e2, and_false, if_false]
    exact m1g k hk
theorem TO_law {σ : Mm} {i a f : Nat} {s : Nat → Nat} (h : TO σ i s) : TO (pI (pI σ i 0 (nI a)) i 1 (nI f)) i (su (su s 3 a) 4 f) := by
  obtain ⟨x1a, x1b, x1c, x1d, x1e, x1f, x1g⟩ := h
  unfold TO
  simp only [gI_pI]
  refine ⟨by simpa [su] using x1a, by simpa [su] using x1b, by simpa [su] using x1c, by simp [su], by simp [su], by simpa [su] using x1f, fun k hk => ?_⟩
  rw [su_hi (by omega) (by omega), su_hi (by omega) (by omega), su_hi (by omega) (by omega), su_hi (by omega) (by omega)]
  rw [su_ne (by omega), su_ne (by omega)] at hk
  simpa using x1g k hk
/-- one family more -/
def fam (s : Nat → Nat) (k B : Nat) : Nat → Nat := fun q => if q = 5 then s 5 + 1 else if q = 6 + 2 * s 5 then k else if q = 7 + 2 * s 5 then B else s q
theorem fam_lo {s : Nat → Nat} {k B q : Nat} (h : q < 5) : fam s k B q = s q := by
  unfold fam
  rw [ifn (by omega), ifn (by omega), ifn (by omega)]
theorem fam_5 {s : Nat → Nat} {k B : Nat} : fam s k B 5 = s 5 + 1 := rfl
theorem fam_a {s : Nat → Nat} {k B j : Nat} (h : j ≠ s 5) : fam s k B (6 + 2 * j) = s (6 + 2 * j) ∧ fam s k B (7 + 2 * j) = s (7 + 2 * j) := by
  unfold fam
  constructor
  · rw [ifn (by omega), ifn (by omega), ifn (by omega)]
  · rw [ifn (by omega), ifn (by omega), ifn (by omega)]
theorem fam_n {s : Nat → Nat} {k B : Nat} : fam s k B (6 + 2 * s 5) = k ∧ fam s k B (7 + 2 * s 5) = B := by
  unfold fam
  constructor
  · rw [ifn (by omega), ifp rfl]
  · rw [ifn (by omega), ifn (by omega), ifp rfl]
theorem TO_fam {σ : Mm} {i k B : Nat} {s : Nat → Nat} (h : TO σ i s) : TO (pI (pI (pI σ (i + 1) (s 5) (nI k)) (i + 2) (s 5) (nI B)) i 5 (nI (s 5 + 1))) i (fam s k B) := by
  obtain ⟨x1a, x1b, x1c, x1d, x1e, x1f, x1g⟩ := h
  unfold TO
  simp only [gI_pI]
  rw [fam_lo (by omega), fam_lo (by omega), fam_lo (by omega), fam_lo (by omega), fam_lo (by omega), fam_5]
  refine ⟨by simpa using x1a, by simpa using x1b, by simpa using x1c, by simpa using x1d, by simpa using x1e, by simp, fun j hj => ?_⟩
  by_cases e : j = s 5
  · rw [e, fam_n.1, fam_n.2]
    simp
  · rw [(fam_a e).1, (fam_a e).2]
    simp [e]
    exact x1g j (by omega)
theorem MO_fam {τ : Mm} {i k B : Nat} {s : Nat → Nat} (h : MO τ i s) : MO (pI (pI (pI τ i (6 + 2 * s 5) (nI k)) i (7 + 2 * s 5) (nI B)) i 5 (nI (s 5 + 1))) i (fam s k B) := by
  obtain ⟨x1a, x1b, x1c, x1d, x1e, x1f, x1g⟩ := h
  have g : ∀ b, gI (pI (pI (pI τ i (6 + 2 * s 5) (nI k)) i (7 + 2 * s 5) (nI B)) i 5 (nI (s 5 + 1))) i b = if b = 5 then nI (s 5 + 1) else if b = 7 + 2 * s 5 then nI B else if b = 6 + 2 * s 5 then nI k else gI τ i b := by
    intro b
    simp only [gI_pI, true_and]
  unfold MO
  rw [fam_lo (by omega), fam_lo (by omega), fam_lo (by omega), fam_lo (by omega), fam_lo (by omega), fam_5]
  simp only [g]
  refine ⟨?_, ?_, ?_, ?_, ?_, ?_, fun j hj => ?_⟩
  · rw [ifn (by omega), ifn (by omega), ifn (by omega)]; exact x1a
  · rw [ifn (by omega), ifn (by omega), ifn (by omega)]; exact x1b
  · rw [ifn (by omega), ifn (by omega), ifn (by omega)]; exact x1c
  · rw [ifn (by omega), ifn (by omega), ifn (by omega)]; exact x1d
  · rw [ifn (by omega), ifn (by omega), ifn (by omega)]; exact x1e
  · rfl
  · by_cases e : j = s 5
    · rw [e, fam_n.1, fam_n.2]
      constructor
      · rw [ifn (by omega), ifn (by omega), ifp rfl]
      · rw [ifn (by omega), ifp rfl]
    · rw [(fam_a e).1, (fam_a e).2]
      constructor
      · rw [ifn (by omega), ifn (by omega), ifn (by omega)]; exact (x1g j (by omega)).1
      · rw [ifn (by omega), ifn (by omega), ifn (by omega)]; exact (x1g j (by omega)).2
theorem Vs_set {s : Nat → Nat} {w j : Nat} (hw : w < 3) (hj : j ≤ 11) (hj0 : w = 0 → 1 ≤ j ∧ j ≤ 10) (hj1 : w = 1 → 1 ≤ j) (hj2 : w = 2 → j ≤ 10) (h : Vs s) : Vs (su s w j) := by
  obtain ⟨u0, u1, u2, u3, u4, u5, u6, u7, u8, u9⟩ := h
  rcases (show w = 0 ∨ w = 1 ∨ w = 2 by omega) with rfl | rfl | rfl
  · refine ⟨by simpa [su] using (hj0 rfl).1, by simpa [su] using (hj0 rfl).2, by simpa [su] using u2, by simpa [su] using u3, by simpa [su] using u4, by simpa [su] using u5, by simpa [su] using u6, by simpa [su] using u7, by simpa [su] using u8, fun k hk => ?_⟩
    rw [su_hi (by omega) (by omega), su_hi (by omega) (by omega)]
    exact u9 k (by simpa [su] using hk)
  · refine ⟨by simpa [su] using u0, by simpa [su] using u1, by simpa [su] using hj1 rfl, by simpa [su] using hj, by simpa [su] using u4, by simpa [su] using u5, by simpa [su] using u6, by simpa [su] using u7, by simpa [su] using u8, fun k hk => ?_⟩
    rw [su_hi (by omega) (by omega), su_hi (by omega) (by omega)]
    exact u9 k (by simpa [su] using hk)
  · refine ⟨by simpa [su] using u0, by simpa [su] using u1, by simpa [su] using u2, by simpa [su] using u3, by simpa [su] using hj2 rfl, by simpa [su] using u5, by simpa [su] using u6, by simpa [su] using u7, by simpa [su] using u8, fun k hk => ?_⟩
    rw [su_hi (by omega) (by omega), su_hi (by omega) (by omega)]
    exact u9 k (by simpa [su] using hk)
theorem Vs_law {s : Nat → Nat} {a f : Nat} (ha : a < 6) (hf1 : 1 ≤ f) (hf : f ≤ 9) (h : Vs s) : Vs (su (su s 3 a) 4 f) := by
  obtain ⟨u0, u1, u2, u3, u4, u5, u6, u7, u8, u9⟩ := h
  refine ⟨by simpa [su] using u0, by simpa [su] using u1, by simpa [su] using u2, by simpa [su] using u3, by simpa [su] using u4, by simpa [su] using ha, by simpa [su] using hf1, by simpa [su] using hf, by simpa [su] using u8, fun k hk => ?_⟩
  rw [su_hi (by omega) (by omega), su_hi (by omega) (by omega), su_hi (by omega) (by omega), su_hi (by omega) (by omega)]
  exact u9 k (by simpa [su] using hk)
theorem Vs_fam {s : Nat → Nat} {k B : Nat} (h5 : s 5 < 8) (hk1 : 1 ≤ k) (hk : k ≤ 10) (hB : B < 1024) (h : Vs s) : Vs (fam s k B) := by
  obtain ⟨u0, u1, u2, u3, u4, u5, u6, u7, u8, u9⟩ := h
  unfold Vs
  rw [fam_lo (by omega), fam_lo (by omega), fam_lo (by omega), fam_lo (by omega), fam_lo (by omega), fam_5]
  refine ⟨u0, u1, u2, u3, u4, u5, u6, u7, by omega, fun j hj => ?_⟩
  by_cases e : j = s 5
  · rw [e, fam_n.1, fam_n.2]
    exact ⟨hk1, hk, hB⟩
  · rw [(fam_a e).1, (fam_a e).2]
    exact u9 j (by omega)
/-- the class: all but its draft -/
def SC (σ σ' : Mm) : Prop := (∀ a b, a ≠ 4 → a ≠ 5 → a ≠ 6 → gI σ' a b = gI σ a b) ∧ σ'.2 = σ.2
theorem SC_rf {σ : Mm} : SC σ σ := ⟨fun _ _ _ _ _ => rfl, rfl⟩
theorem SC_tr {σ σ' σ'' : Mm} (h : SC σ σ') (h2 : SC σ' σ'') : SC σ σ'' := ⟨fun a b h3 h4 h5 => (h2.1 a b h3 h4 h5).trans (h.1 a b h3 h4 h5), h2.2.trans h.2⟩
theorem SC_p {σ : Mm} {i k : Nat} {v : Int32} (hi : i = 4 ∨ i = 5 ∨ i = 6) : SC σ (pI σ i k v) := ⟨fun a b h3 h4 h5 => by rw [gI_pI, ifn (by omega)], rfl⟩
theorem SC_TX {σ σ' : Mm} {tx : Nat → Nat} {tn : Nat} (h : SC σ σ') (hT : TX σ tx tn) : TX σ' tx tn := ⟨by rw [h.1 10 1 (by omega) (by omega) (by omega)]; exact hT.1, fun k hk => by rw [h.1 11 k (by omega) (by omega) (by omega)]; exact hT.2 k hk⟩
theorem x_tell0 (i : Nat) (v : Int32) (σ : Mm) : fX3_tellNumber i 0 v σ = (if v < 1 then some ((0 : Int32), σ) else (if v ≤ (10 : Int32) then some ((1 : Int32), pI σ i 2 v) else some ((0 : Int32), σ))) := by rfl
theorem x_tell1 (i : Nat) (v : Int32) (σ : Mm) : fX3_tellNumber i 1 v σ = (if v < 1 then some ((0 : Int32), σ) else (if v ≤ (11 : Int32) then some ((1 : Int32), pI σ i 3 v) else some ((0 : Int32), σ))) := by rfl
theorem x_tell2 (i : Nat) (v : Int32) (σ : Mm) : fX3_tellNumber i 2 v σ = (if v < 0 then some ((0 : Int32), σ) else (if v ≤ (10 : Int32) then some ((1 : Int32), pI σ i 4 (v - 5)) else some ((0 : Int32), σ))) := by rfl
section LAND
variable {tx : Nat → Nat} {tn : Nat}
theorem x_numL {σ : Mm} (h : TX σ tx tn) (htn : tn ≤ 64) {e : Nat} (he : e < 2 ^ 10) : ∀ (k n i : Nat) (x : Int32), i + k = e → k < n → fX2_numberAt_5 σ n (nI e) x (nI i) = some (nv tx tn k i x) := by
  intro k
  induction k with
  | zero =>
    intro n i x hi hn
    obtain ⟨n, rfl⟩ : ∃ n', n = n' + 1 := ⟨n - 1, by omega⟩
    rw [fX2_numberAt_5, ifp (nI_le (by omega) (by omega))]
    rfl
  | succ k ih =>
    intro n i x hi hn
    obtain ⟨n, rfl⟩ : ∃ n', n = n' + 1 := ⟨n - 1, by omega⟩
    rw [fX2_numberAt_5, ifn (by rw [nI_leI (by omega) (by omega)]; omega), x_at h htn (by omega), ob, nI_1, ih n (i + 1) _ (by omega) (by omega)]
    rfl
theorem x_num {σ : Mm} (h : TX σ tx tn) (htn : tn ≤ 64) {i k : Nat} (he : i + k < 2 ^ 10) (hk : k < 1000) : fX2_numberAt (nI i) (nI (i + k)) σ = some (nv tx tn k i 0) := by
  rw [fX2_numberAt]
  exact x_numL h htn he k 1000 i 0 rfl hk
theorem nv_1 {p : Nat} (htx : ∀ k, k < tn → tx k < 256) (h : isD 57 (At tx tn p) = true) : ∃ f : Nat, f ≤ 9 ∧ nv tx tn 1 p 0 = nI f := by
  obtain ⟨h1, h2, h3⟩ := isD_v (by omega) htx h
  refine ⟨tx p - 48, by omega, ?_⟩
  show (10 : Int32) * 0 + At tx tn p - 48 = nI (tx p - 48)
  rw [At, ifp h1, show (10 : Int32) * 0 = 0 from rfl, Int32.zero_add, show (48 : Int32) = nI 48 from rfl, pk_sub h2]
theorem x_famL {σ : Mm} (h : TX σ tx tn) (htn : tn ≤ 64) (htx : ∀ k, k < tn → tx k < 256) {p k : Nat} (hk : k ≤ 10) (hp : p < 2 ^ 9) (hd : ∀ j, j < k → isD 49 (At tx tn (p + j)) = true) {q : Nat} (h5 : gI σ 4 5 = nI q) (hq : q < 8) :
    ∀ (n j : Nat), j ≤ k → k - j < n → fX3_takeFamily_39 4 n (nI p) (nI (p + k)) (nI (fbt tx p j)) (nI (p + j)) σ = some ((1 : Int32), pI (pI (pI σ 5 q (nI k)) 6 q (nI (fbt tx p k))) 4 5 (nI (q + 1))) := by
  intro n
  induction n with
  | zero => intro j _ h; omega
  | succ n ih =>
    intro j hj hn
    by_cases h8 : j = k
    · subst h8
      have e5 : gI (pI σ (4 + 1) (gI σ 4 5).toNatClampNeg (nI (p + j) - nI p)) 4 5 = nI q := by rw [gI_pI, ifn (by omega), h5]
      have e6 : ∀ x y, gI (pI (pI σ (4 + 1) q x) (4 + 2) q y) 4 5 = nI q := fun x y => by rw [gI_pI, ifn (by omega), gI_pI, ifn (by omega), h5]
      rw [fX3_takeFamily_39, ifp (nI_le (Nat.le_refl _) (by omega)), e5, h5, ifp (ci_nI hq (by omega)), ifp (ci_nI hq (by omega)), nI_cl (by omega), pk_sub (show p ≤ p + j by omega), e6, nI_1, Nat.add_sub_cancel_left]
    · have hjk : j < k := by omega
      obtain ⟨k1, k2, k3⟩ := isD_v (by omega) htx (hd j hjk)
      have hA : At tx tn (p + j) = nI (tx (p + j)) := by rw [At, ifp k1]
      have hlt : fbt tx p j < 2 ^ j := fbt_lt j (fun i hi => (isD_v (by omega) htx (hd i (by omega))).2.2)
      have hp10 : 2 ^ j ≤ 2 ^ 10 := Nat.pow_le_pow_right (by omega) (by omega)
      have h2 := ih (j + 1) (by omega) (by omega)
      have hb : fbt tx p (j + 1) = fbt tx p j + (tx (p + j) - 48) * 2 ^ j := rfl
      rw [fX3_takeFamily_39, ifn (by rw [nI_leI (by omega) (by omega)]; omega), x_at h htn (by omega), ob, hA]
      rcases (show tx (p + j) = 48 ∨ tx (p + j) = 49 by omega) with h3 | h3
      · rw [h3] at hb ⊢
        have e : fbt tx p j = fbt tx p (j + 1) := by rw [hb]; omega
        rw [ifn (by decide), fX3_takeFamily_67, nI_1, e]
        exact h2
      · rw [h3] at hb ⊢
        have e : fbt tx p j + 1 * 2 ^ j = fbt tx p (j + 1) := by rw [hb]
        rw [ifp (show nI 49 = 49 from rfl), fX3_takeFamily_67, nI_1, pk_sub (show p ≤ p + j by omega), Nat.add_sub_cancel_left, shl_1 (by omega), or_bit 1 hlt, e]
        exact h2
/-- what the reference writes -/
def CM (τ τ' : Mm) : Prop := ∀ a b, a ≠ 4 → gI τ' a b = gI τ a b
theorem CM_rf {τ : Mm} : CM τ τ := fun _ _ _ => rfl
theorem CM_tr {τ τ' τ'' : Mm} (h : CM τ τ') (h2 : CM τ' τ'') : CM τ τ'' := fun a b h3 => (h2 a b h3).trans (h a b h3)
theorem CM_p {τ : Mm} {k : Nat} {v : Int32} : CM τ (pI τ 4 k v) := fun a b h => by rw [gI_pI, ifn (fun q => h q.1)]
theorem m_c99 (τ : Mm) : fX6_comes 99 τ = (if gI τ 6 0 < 1 then some ((0 : Int32), pI τ 4 1 (gI τ 6 0)) else (if (11 : Int32) < gI τ 6 0 then some ((0 : Int32), pI τ 4 1 (gI τ 6 0)) else some ((1 : Int32), pI τ 4 1 (gI τ 6 0)))) := by rfl
theorem m_c109 (τ : Mm) : fX6_comes 109 τ = (if gI τ 6 0 < 1 then some ((0 : Int32), pI τ 4 0 (gI τ 6 0)) else (if (10 : Int32) < gI τ 6 0 then some ((0 : Int32), pI τ 4 0 (gI τ 6 0)) else some ((1 : Int32), pI τ 4 0 (gI τ 6 0)))) := by rfl
theorem m_c110 (τ : Mm) : fX6_comes 110 τ = (if gI τ 6 0 < -5 then some ((0 : Int32), pI τ 4 2 (5 + gI τ 6 0)) else (if (5 : Int32) < gI τ 6 0 then some ((0 : Int32), pI τ 4 2 (5 + gI τ 6 0)) else some ((1 : Int32), pI τ 4 2 (5 + gI τ 6 0)))) := by rfl
theorem m_c108 (τ : Mm) : fX6_comes 108 τ = (if 1 ≤ gI τ 6 1 then some ((1 : Int32), pI (pI τ 4 3 (gI τ 6 0)) 4 4 (gI τ 6 1)) else some ((0 : Int32), τ)) := by rfl
theorem m_c102 {τ : Mm} {q : Nat} (h5 : gI τ 4 5 = nI q) (hq : q ≤ 8) : fX6_comes 102 τ = (if q = 8 then some ((0 : Int32), τ) else some ((1 : Int32), pI (pI (pI τ 4 (6 + 2 * q) (gI τ 6 0)) 4 (7 + 2 * q) (gI τ 6 1)) 4 5 (nI (q + 1)))) := by
  have a6 : (6 : Int32) + 2 * nI q = nI (6 + 2 * q) := by
    rw [show (6 : Int32) = nI 6 from rfl, show (2 : Int32) = nI 2 from rfl, pk_mul, nI_add]
  rw [fX6_comes, ifp (by decide), ifn (by decide), ifn (by decide), ifn (by decide), ifn (by decide), ifp (by decide), show (5 : Int32).toNatClampNeg = 5 from rfl, show (0 : Int32).toNatClampNeg = 0 from rfl, show (1 : Int32).toNatClampNeg = 1 from rfl]
  by_cases h8 : q = 8
  · subst h8
    rw [ifp (by rw [h5]; rfl), ifp rfl]
  · have e1 : ∀ x, gI (pI τ 4 (6 + 2 * q) x) 4 5 = nI q := fun x => by rw [gI_pI, ifn (by omega), h5]
    have e2 : ∀ x y, gI (pI (pI τ 4 (6 + 2 * q) x) 4 (7 + 2 * q) y) 4 5 = nI q := fun x y => by rw [gI_pI, ifn (by omega), gI_pI, ifn (by omega), h5]
    have e3 : ∀ x, gI (pI τ 4 (6 + 2 * q) x) 6 1 = gI τ 6 1 := fun x => by rw [gI_pI, ifn (by omega)]
    rw [h5, ifn (show ¬ nI q = 8 from fun z => h8 ((nI_eq (b := 8) (by omega) (by omega)).mp z)), ifn h8, ifp (by decide), a6, ifp (ci_nI (by omega) (by omega)), nI_cl (by omega), e1, e3, a6, nI_1, ifp (by decide), ifp (by decide), show 6 + 2 * q + 1 = 7 + 2 * q by omega, ifp (ci_nI (by omega) (by omega)), nI_cl (by omega), ifp (by decide), ifp (by decide), e2, nI_1]
theorem le_gt (x : Int32) (k : Int32) : (if x ≤ k then (1 : Int32) else 0) = (if k < x then 0 else 1) := by
  by_cases h : x ≤ k
  · rw [ifp h, ifn (nle h)]
  · rw [ifn h, ifp (lt_of h)]
theorem digs_of {p k : Nat} {hi m : Nat} (h : dg tx tn hi m p = k) : ∀ j, j < k → isD hi (At tx tn (p + j)) = true := fun j hj => dg_at m p j (by omega)
theorem m5_rng : ∀ f : Nat, f ≤ 9 → ((-(nI f)).toInt = -(f : Int)) := by
  intro f hf
  have h : ∀ f : Fin 10, (-(nI f.val)).toInt = -(f.val : Int) := by decide
  exact h ⟨f, by omega⟩
theorem wz (σ : Mm) : (some ((0 : Int32), σ)).bind (fun q => if q.1 &&& 1 = q.1 then some (q.1, q.2) else none) = some (bI false, σ) := by
  rw [ob, ifp (show (0 : Int32) &&& 1 = 0 by decide)]
  rfl
theorem wo (σ : Mm) : (some ((1 : Int32), σ)).bind (fun q => if q.1 &&& 1 = q.1 then some (q.1, q.2) else none) = some (bI true, σ) := by
  rw [ob, ifp (show (1 : Int32) &&& 1 = 1 by decide)]
  rfl
theorem land_step (htn : tn ≤ 64) (htx : ∀ k, k < tn → tx k < 256) {p : Nat} (hp : p < 2 ^ 8) (hok : (stm tx tn p).2 = true) {σ τ : Mm} {d : Nat → Nat} (hX : TX σ tx tn) (hv : vals tx tn p τ) (hd : Vs d) (hTO : TO σ 4 d) (hMO : MO τ 4 d) :
    ∃ (b : Bool) (σ' τ' : Mm), fX3_take 4 (nI p) (nI (stm tx tn p).1) σ = some (bI b, σ') ∧ fX6_comes (At tx tn p) τ = some (bI b, τ') ∧ SC σ σ' ∧ CM τ τ' ∧ (b = true → ∃ d', Vs d' ∧ TO σ' 4 d' ∧ MO τ' 4 d') := by
  obtain ⟨o1, o2, o3⟩ := stm_ok hok
  obtain ⟨v1, v2, v3, v4⟩ := hv
  have t0 : (0 : Int32).toInt = 0 := rfl
  have t1 : (1 : Int32).toInt = 1 := rfl
  have t5 : (5 : Int32).toInt = 5 := rfl
  have tm5 : (-5 : Int32).toInt = -5 := rfl
  have t10 : (10 : Int32).toInt = 10 := rfl
  have t11 : (11 : Int32).toInt = 11 := rfl
  have eE : nI (stm tx tn p).1 - 1 = nI (body tx tn p).1 := by rw [o2, nI_pred]
  have e2 : nI p + 2 = nI (p + 2) := nI_add p 2
  generalize eT : fX3_take 4 (nI p) (nI (stm tx tn p).1) σ = R
  rw [fX3_take, x_at hX htn (by omega), ob, eE, nI_1, e2] at eT
  rw [body] at eT o1 o3
  by_cases h1 : At tx tn p = 99
  · rw [ifp h1] at eT o1 o3
    obtain ⟨d1, d2⟩ := dgs_ok o1
    have dl := dg_le (tx := tx) (tn := tn) (hi := 57) 2 (p + 1)
    rw [ifp h1, d1, x_num hX htn (by omega) (by omega), ob, x_tell1] at eT
    have v := v1 (Or.inl h1)
    subst eT
    rw [h1, m_c99, v]
    by_cases c1 : nv tx tn (dg tx tn 57 2 (p + 1)) (p + 1) 0 < 1
    · rw [ifp c1, ifp c1]
      exact ⟨false, _, _, wz _, rfl, SC_rf, CM_p, fun q => by cases q⟩
    · rw [ifn c1, ifn c1]
      by_cases c2 : nv tx tn (dg tx tn 57 2 (p + 1)) (p + 1) 0 ≤ 11
      · rw [ifp c2, ifn (nle c2)]
        obtain ⟨j, hj, ej⟩ := nI_le_of (M := 11) (x := nv tx tn (dg tx tn 57 2 (p + 1)) (p + 1) 0) 11 rfl (by rw [fa_lt]; rw [fa_lt] at c1; omega) c2
        rw [ej] at c1 ⊢
        have hj1 : 1 ≤ j := by
          rw [fa_lt, nI_toInt (by omega)] at c1; omega
        exact ⟨true, _, _, wo _, rfl, SC_p (Or.inl rfl), CM_p, fun _ => ⟨su d 1 j, Vs_set (by omega) (by omega) (fun q => by omega) (fun _ => hj1) (fun q => by omega) hd, TO_set (w := 1) (by omega) hTO, MO_set (w := 1) (by omega) hMO⟩⟩
      · rw [ifn c2, ifp (lt_of c2)]
        exact ⟨false, _, _, wz _, rfl, SC_rf, CM_p, fun q => by cases q⟩
  · rw [ifn h1] at eT o1 o3
    by_cases h2 : At tx tn p = 102
    · rw [ifp h2] at eT o1 o3
      obtain ⟨d1, d2⟩ := dgs_ok o1
      have dl := dg_le (tx := tx) (tn := tn) (hi := 49) 10 (p + 1)
      obtain ⟨v5, v6⟩ := v2 h2
      rw [ifn h1, ifp h2, d1, fX3_takeFamily, hTO.2.2.2.2.2.1, ifn (nI_pos (by have := hd.2.2.2.2.2.2.2.2.1; omega))] at eT
      have h5 : d 5 ≤ 8 := hd.2.2.2.2.2.2.2.2.1
      subst eT
      rw [h2, m_c102 hMO.2.2.2.2.2.1 h5, v5, v6]
      by_cases h8 : d 5 = 8
      · rw [h8, ifp (show (8 : Int32) ≤ nI 8 by decide), ifp rfl]
        exact ⟨false, _, _, wz _, rfl, SC_rf, CM_rf, fun q => by cases q⟩
      · have hlt : fbt tx (p + 1) (dg tx tn 49 10 (p + 1)) < 2 ^ dg tx tn 49 10 (p + 1) := fbt_lt _ (fun i hi => (isD_v (by omega) htx (dg_at _ _ i hi)).2.2)
        have hp10 : 2 ^ dg tx tn 49 10 (p + 1) ≤ 2 ^ 10 := Nat.pow_le_pow_right (by omega) dl
        have hf := x_famL hX htn htx (p := p + 1) (k := dg tx tn 49 10 (p + 1)) dl (by omega) (fun j hj => dg_at _ _ j hj) hTO.2.2.2.2.2.1 (show d 5 < 8 by omega) 1000 0 (by omega) (by omega)
        have hf' : fX3_takeFamily_39 4 1000 (nI (p + 1)) (nI (p + 1 + dg tx tn 49 10 (p + 1))) 0 (nI (p + 1)) σ = _ := hf
        rw [ifn (ge8 (show d 5 < 8 by omega)), ifp (show nI (d 5) < 8 from (nI_ltI (b := 8) (by omega) (by omega)).mpr (by omega)), hf', ifn h8]
        refine ⟨true, _, _, wo _, rfl, SC_tr (SC_tr (SC_p (Or.inr (Or.inl rfl))) (SC_p (Or.inr (Or.inr rfl)))) (SC_p (Or.inl rfl)), CM_tr (CM_tr CM_p CM_p) CM_p, fun _ => ⟨fam d (dg tx tn 49 10 (p + 1)) (fbt tx (p + 1) (dg tx tn 49 10 (p + 1))), Vs_fam (by omega) d2 dl (by omega) hd, TO_fam hTO, MO_fam hMO⟩⟩
    · rw [ifn h2] at eT o1 o3
      by_cases h3 : At tx tn p = 108
      · rw [ifp h3] at eT o1 o3
        obtain ⟨v5, v6⟩ := v3 h3
        by_cases h4 : 0 ≤ kd (At tx tn (p + 1))
        · rw [ifp h4] at eT o1 o3
          obtain ⟨d1, d2⟩ := dgs_ok o1
          have dl := dg_le (tx := tx) (tn := tn) (hi := 57) 1 (p + 2)
          have de : dg tx tn 57 1 (p + 2) = 1 := by omega
          obtain ⟨f, hf, ef⟩ := nv_1 htx (digs_of de 0 (by omega))
          rw [Nat.add_zero] at ef
          obtain ⟨a, ha, ea⟩ := kd_of h4
          rw [de] at v6 d1
          rw [ifn h1, ifn h2, ifp h3, d1, x_kind hX htn (by omega), ob, x_num hX htn (by omega) (by omega), ob, fX3_takeLaw, ea, ef, ifn (nI_pos (by omega))] at eT
          subst eT
          rw [h3, m_c108, v5, v6, ea, ef]
          by_cases c1 : f = 0
          · subst c1
            rw [ifp (show nI 0 < 1 by decide), ifn (show ¬ (1 : Int32) ≤ nI 0 by decide)]
            exact ⟨false, _, _, wz _, rfl, SC_rf, CM_rf, fun q => by cases q⟩
          · rw [ifn (show ¬ nI f < 1 from fun z => absurd ((nI_ltI (b := 1) (by omega) (by omega)).mp z) (by omega)), ifp (show nI f ≤ 9 from nI_le (b := 9) (by omega) (by omega)), ifp (show (1 : Int32) ≤ nI f from nI_le (a := 1) (by omega) (by omega))]
            exact ⟨true, _, _, wo _, rfl, SC_tr (SC_p (Or.inl rfl)) (SC_p (Or.inl rfl)), CM_tr CM_p CM_p, fun _ => ⟨su (su d 3 a) 4 f, Vs_law ha (by omega) hf hd, TO_law hTO, MO_set (w := 4) (by omega) (MO_set (w := 3) (by omega) hMO)⟩⟩
        · rw [ifn h4] at o1
          cases o1
      · rw [ifn h3] at eT o1 o3
        by_cases h4 : At tx tn p = 109
        · rw [ifp h4] at eT o1 o3
          obtain ⟨d1, d2⟩ := dgs_ok o1
          have dl := dg_le (tx := tx) (tn := tn) (hi := 57) 2 (p + 1)
          rw [ifn h1, ifn h2, ifn h3, ifp h4, d1, x_num hX htn (by omega) (by omega), ob, x_tell0] at eT
          have v := v1 (Or.inr h4)
          subst eT
          rw [h4, m_c109, v]
          by_cases c1 : nv tx tn (dg tx tn 57 2 (p + 1)) (p + 1) 0 < 1
          · rw [ifp c1, ifp c1]
            exact ⟨false, _, _, wz _, rfl, SC_rf, CM_p, fun q => by cases q⟩
          · rw [ifn c1, ifn c1]
            by_cases c2 : nv tx tn (dg tx tn 57 2 (p + 1)) (p + 1) 0 ≤ 10
            · rw [ifp c2, ifn (nle c2)]
              obtain ⟨j, hj, ej⟩ := nI_le_of (M := 10) (x := nv tx tn (dg tx tn 57 2 (p + 1)) (p + 1) 0) 10 rfl (by rw [fa_lt]; rw [fa_lt] at c1; omega) c2
              rw [ej] at c1 ⊢
              have hj1 : 1 ≤ j := by
                rw [fa_lt, nI_toInt (by omega)] at c1; omega
              exact ⟨true, _, _, wo _, rfl, SC_p (Or.inl rfl), CM_p, fun _ => ⟨su d 0 j, Vs_set (by omega) (by omega) (fun _ => ⟨hj1, hj⟩) (fun q => by omega) (fun q => by omega) hd, TO_set (w := 0) (by omega) hTO, MO_set (w := 0) (by omega) hMO⟩⟩
            · rw [ifn c2, ifp (lt_of c2)]
              exact ⟨false, _, _, wz _, rfl, SC_rf, CM_p, fun q => by cases q⟩
        · rw [ifn h4] at eT o1 o3
          by_cases h5 : At tx tn p = 110
          · rw [ifp h5] at eT o1 o3
            by_cases h6 : At tx tn (p + 1) = 43 ∨ At tx tn (p + 1) = 45
            · rw [ifp h6] at eT o1 o3
              obtain ⟨d1, d2⟩ := dgs_ok o1
              have dl := dg_le (tx := tx) (tn := tn) (hi := 57) 1 (p + 2)
              have de : dg tx tn 57 1 (p + 2) = 1 := by omega
              obtain ⟨f, hf, ef⟩ := nv_1 htx (digs_of de 0 (by omega))
              rw [Nat.add_zero] at ef
              have v := v4 h5
              rw [de] at v d1
              rw [ifn h1, ifn h2, ifn h3, ifn h4, ifp h5, d1, x_num hX htn (by omega) (by omega), ob, x_at hX htn (by omega), ob, ef] at eT
              rw [ef] at v
              obtain ⟨L, hL⟩ : ∃ L : Int32, L = (if At tx tn (p + 1) = 45 then -(nI f) else nI f) := ⟨_, rfl⟩
              have hL1 : -9 ≤ L.toInt ∧ L.toInt ≤ 9 := by
                rw [hL]
                by_cases h7 : At tx tn (p + 1) = 45
                · rw [ifp h7, m5_rng f hf]; omega
                · rw [ifn h7, nI_toInt (by omega)]; omega
              have eT2 : R = fX3_take_154 4 L σ := by
                rw [← eT, hL]
                by_cases h7 : At tx tn (p + 1) = 45
                · rw [ifp h7, ifp h7]
                · rw [ifn h7, ifn h7]
              rw [← hL] at v
              have s5 : (5 + L).toInt = 5 + L.toInt := by rw [fb_addI (by omega) (by omega), t5]
              rw [eT2, fX3_take_154, x_tell2, h5, m_c110, v]
              by_cases c1 : 5 + L < 0
              · have c1' : L < -5 := by rw [fa_lt]; rw [fa_lt] at c1; omega
                rw [ifp c1, ifp c1']
                exact ⟨false, _, _, wz _, rfl, SC_rf, CM_p, fun q => by cases q⟩
              · have c1' : ¬ L < -5 := by rw [fa_lt]; rw [fa_lt] at c1; omega
                rw [ifn c1, ifn c1']
                by_cases c2 : 5 + L ≤ 10
                · have c2' : ¬ 5 < L := by rw [fa_lt]; rw [fa_le] at c2; omega
                  rw [ifp c2, ifn c2']
                  obtain ⟨j, hj, ej⟩ := nI_le_of (M := 10) (x := 5 + L) 10 rfl c1 c2
                  rw [ej]
                  exact ⟨true, _, _, wo _, rfl, SC_p (Or.inl rfl), CM_p, fun _ => ⟨su d 2 j, Vs_set (by omega) (by omega) (fun q => by omega) (fun q => by omega) (fun _ => hj) hd, TO_set (w := 2) (by omega) hTO, MO_set (w := 2) (by omega) hMO⟩⟩
                · have c2' : 5 < L := by rw [fa_lt]; rw [fa_le] at c2; omega
                  rw [ifn c2, ifp c2']
                  exact ⟨false, _, _, wz _, rfl, SC_rf, CM_p, fun q => by cases q⟩
            · rw [ifn h6] at o1
              cases o1
          · rw [ifn h5] at o1
            cases o1
/-- so many statements from a place to the end, all well -/
def Good (tx : Nat → Nat) (tn : Nat) : Nat → Nat → Prop
  | 0, p => tn ≤ p
  | c + 1, p => p < tn ∧ (stm tx tn p).2 = true ∧ Good tx tn c (stm tx tn p).1
theorem m1_m1 {e : Nat} (he : e < 2 ^ 20) : (-1 : Int32) - (-1 - nI e) = nI e := by
  have t1 : (-1 : Int32).toInt = -1 := rfl
  have te := nI_toInt (n := e) (by omega)
  have h1 : (-1 - nI e).toInt = -1 - (e : Int) := by rw [fb_subI (by omega) (by omega), t1, te]
  rw [fa_eq, fb_subI (by omega) (by omega), h1, t1, te]
  omega
theorem m1_neg {e : Nat} (he : e < 2 ^ 20) : ¬ 0 ≤ (-1 : Int32) - nI e := by
  have t1 : (-1 : Int32).toInt = -1 := rfl
  have t0 : (0 : Int32).toInt = 0 := rfl
  have te := nI_toInt (n := e) (by omega)
  rw [fa_le, fb_subI (by omega) (by omega), t1, te, t0]
  omega
theorem land1 (htn : tn ≤ 64) (htx : ∀ k, k < tn → tx k < 256) {σ : Mm} (hX : TX σ tx tn) : ∀ (n v p : Nat) (τ : Mm), (p < tn ∨ p = 0) → 3 * v ≤ p → tn - p < n → TM τ tx tn → gI τ 0 8 = nI p →
    (∃ (e : Nat) (τ' : Mm), e < 2 ^ 9 ∧ fX2_firstFault_4 σ n (nI p) (nI v) = some (nI e) ∧ fX6_reads_7 n (nI v) τ = some (-1000 - nI e, τ') ∧ FR τ τ') ∨
    (∃ (c : Nat) (τ' : Mm), Good tx tn c p ∧ fX2_firstFault_4 σ n (nI p) (nI v) = some (-1) ∧ fX6_reads_7 n (nI v) τ = (fX6_lays 2 4 τ').bind (fun q => fX6_reads_53 1000 (nI (v + c)) (pI q 0 8 0)) ∧ FR τ τ' ∧ v + c ≤ 30) := by
  intro n
  induction n with
  | zero => intro v p τ _ _ h; omega
  | succ n ih =>
    intro v p τ hp hv hn hT h8
    have hp64 : p ≤ 64 := by omega
    have hle := stm_le (tx := tx) (tn := tn) (p := p)
    obtain ⟨τ1, r1, r2, r3, -⟩ := m_stm htn htx (p := p) (by omega) hT h8
    by_cases hok : (stm tx tn p).2 = true
    · obtain ⟨o1, o2, o3⟩ := stm_ok hok
      have hge := body_ge o1
      have hen : enc (stm tx tn p) = nI (stm tx tn p).1 := by rw [enc, ifp hok]
      have eX : fX2_firstFault_4 σ (n + 1) (nI p) (nI v) = (if nI tn ≤ nI (stm tx tn p).1 then some (-1 : Int32) else (if nI (v + 1) < (64 : Int32) then fX2_firstFault_4 σ n (nI (stm tx tn p).1) (nI (v + 1)) else some (-1 : Int32))) := by
        rw [fX2_firstFault_4, x_stm hX htn (by omega), ob, hen, ifp (nI_pos' (by omega)), hX.1, nI_1]
      have hT1 := FR_TM r3 hT
      have eM : fX6_reads_7 (n + 1) (nI v) τ = (if nI (stm tx tn p).1 < nI tn then fX6_reads_7 n (nI (v + 1)) τ1 else (fX6_lays 2 4 τ1).bind (fun q_10 => fX6_reads_53 1000 (nI (v + 1)) (pI q_10 0 8 0))) := by
        rw [fX6_reads_7, r1, hok, ob, ifn (show ¬ bI true = 0 by decide), r2, hT1.1, nI_1]
      by_cases hend : tn ≤ (stm tx tn p).1
      · refine Or.inr ⟨1, τ1, ⟨by omega, hok, hend⟩, ?_, ?_, r3, by omega⟩
        · rw [eX, ifp (nI_le hend (by omega))]
        · rw [eM, ifn (by rw [nI_ltI (by omega) (by omega)]; omega)]
      · rw [eX, eM, ifn (by rw [nI_leI (by omega) (by omega)]; exact hend), ifp (show nI (v + 1) < (64 : Int32) from (nI_ltI (b := 64) (by omega) (by omega)).mpr (by omega)), ifp (show nI (stm tx tn p).1 < nI tn from (nI_ltI (by omega) (by omega)).mpr (by omega))]
        rcases ih (v + 1) (stm tx tn p).1 τ1 (Or.inl (by omega)) (by omega) (by omega) hT1 r2 with ⟨e, τ', q1, q2, q3, q4⟩ | ⟨c, τ', q1, q2, q3, q4, q5⟩
        · exact Or.inl ⟨e, τ', q1, q2, q3, FR_tr r3 q4⟩
        · refine Or.inr ⟨c + 1, τ', ⟨by omega, hok, q1⟩, q2, ?_, FR_tr r3 q4, by omega⟩
          rw [q3, show v + 1 + c = v + (c + 1) by omega]
    · have hok' : (stm tx tn p).2 = false := by simpa using hok
      refine Or.inl ⟨(stm tx tn p).1, τ1, by omega, ?_, ?_, r3⟩
      · have hen : enc (stm tx tn p) = -1 - nI (stm tx tn p).1 := by rw [enc, ifn hok]
        rw [fX2_firstFault_4, x_stm hX htn (by omega), ob, hen, ifn (m1_neg (by omega)), m1_m1 (by omega)]
      · rw [fX6_reads_7, r1, hok', ob, ifp (show bI false = 0 from rfl), r2]
theorem land2 (htn : tn ≤ 64) (htx : ∀ k, k < tn → tx k < 256) : ∀ (c n v p : Nat) (σ τ : Mm) (d : Nat → Nat), Good tx tn c p → c < n → v + c ≤ 30 → p ≤ 100 → TX σ tx tn → TM τ tx tn → gI τ 0 8 = nI p → TO σ 4 d → MO τ 4 d → Vs d →
    ∃ (r : Int32) (σ' τ' : Mm), fX5_tellText_15 n (nI p) (nI v) σ = some (r, σ') ∧ fX6_reads_53 n (nI (v + c)) τ = some (r, τ') ∧
      ((SC σ σ' ∧ ∀ a b, a ≠ 4 → a ≠ 6 → ¬ (a = 0 ∧ b = 8) → gI τ' a b = gI τ a b) ∨
       (∃ d', Vs d' ∧ TO σ' 1 d' ∧ MO τ' 2 d' ∧ (∀ a b, a = 0 ∨ 7 ≤ a → gI σ' a b = gI σ a b) ∧ σ'.2 = σ.2 ∧ ∀ a b, a ≠ 2 → a ≠ 4 → a ≠ 6 → ¬ (a = 0 ∧ b = 8) → gI τ' a b = gI τ a b)) := by
  intro c
  induction c with
  | zero =>
    intro n v p σ τ d hG hn hv hp hX hT h8 hTO hMO hd
    have hG' : tn ≤ p := hG
    obtain ⟨n, rfl⟩ : ∃ n', n = n' + 1 := ⟨n - 1, by omega⟩
    obtain ⟨σ', a1, a2, a3, a4, a5⟩ := x_copy (i := 1) (j := 4) rfl rfl (by omega) σ
    obtain ⟨τ', b1, b2, b3, b4⟩ := m_lays (j := 4) (i := 2) (by omega) τ
    have h5 : d 5 ≤ 8 := hd.2.2.2.2.2.2.2.2.1
    refine ⟨nI v, σ', τ', ?_, ?_, Or.inr ⟨d, hd, TO_copy h5 hTO a2 a3, MO_copy h5 hMO b2, fun a b h => a4 a b (by omega) (by omega) (by omega), a5, fun a b h1 _ _ _ => b3 a b h1⟩⟩
    · rw [fX5_tellText_15, hX.1, ifp (nI_le hG' (by omega)), fX5_tellText_71, a1, ob]
    · rw [fX6_reads_53, hT.1, h8, ifp (nI_le hG' (by omega)), b1, ob]
      rfl
  | succ c ih =>
    intro n v p σ τ d hG hn hv hp hX hT h8 hTO hMO hd
    obtain ⟨g1, g2, g3⟩ := hG
    obtain ⟨n, rfl⟩ : ∃ n', n = n' + 1 := ⟨n - 1, by omega⟩
    have hle := stm_le (tx := tx) (tn := tn) (p := p)
    obtain ⟨τ1, r1, r2, r3, r4⟩ := m_stm htn htx (p := p) (by omega) hT h8
    have hMO1 : MO τ1 4 d := MO_same hMO (fun b => r3 4 b (by omega) (by omega))
    obtain ⟨b, σ2, τ2, s1, s2, s3, s4, s5⟩ := land_step htn htx (p := p) (by omega) g2 hX (r4 g2) hd hTO hMO1
    have hen : enc (stm tx tn p) = nI (stm tx tn p).1 := by rw [enc, ifp g2]
    have eX : fX5_tellText_15 (n + 1) (nI p) (nI v) σ = (if bI b = 0 then some ((-2000 : Int32) - nI p, σ2) else fX5_tellText_15 n (nI (stm tx tn p).1) (nI (v + 1)) σ2) := by
      rw [fX5_tellText_15, hX.1, ifn (by rw [nI_leI (by omega) (by omega)]; omega), ifn (ge64 (by omega)), x_stm hX htn (by omega), ob, hen, s1, ob, nI_1]
    have eM : fX6_reads_53 (n + 1) (nI (v + (c + 1))) τ = (if bI b = 0 then some ((-2000 : Int32) - nI p, τ2) else fX6_reads_53 n (nI (v + (c + 1))) τ2) := by
      rw [fX6_reads_53, hT.1, h8, ifn (by rw [nI_leI (by omega) (by omega)]; omega), m_sign hT htn (by omega) h8, ob, r1, ob, s2, ob]
    rw [eX, eM]
    cases b with
    | false =>
      rw [ifp (show bI false = 0 from rfl), ifp (show bI false = 0 from rfl)]
      exact ⟨_, _, _, rfl, rfl, Or.inl ⟨s3, fun a b h1 h2 h3 => (s4 a b h1).trans (r3 a b h2 h3)⟩⟩
    | true =>
      obtain ⟨d', e1, e2, e3⟩ := s5 rfl
      rw [ifn (show ¬ bI true = 0 by decide), ifn (show ¬ bI true = 0 by decide)]
      have hT2 : TM τ2 tx tn := ⟨by rw [s4 0 7 (by omega)]; exact (FR_TM r3 hT).1, fun k hk => by rw [s4 5 k (by omega)]; exact (FR_TM r3 hT).2 k hk⟩
      obtain ⟨o1, o2, o3⟩ := stm_ok g2
      obtain ⟨r, σ', τ', q1, q2, q3⟩ := ih n (v + 1) (stm tx tn p).1 σ2 τ2 d' g3 (by omega) (by omega) (by omega) (SC_TX s3 hX) hT2 (by rw [s4 0 8 (by omega)]; exact r2) e2 e3 e1
      refine ⟨r, σ', τ', q1, ?_, ?_⟩
      · rw [← q2, show v + 1 + c = v + (c + 1) by omega]
      · rcases q3 with ⟨q4, q5⟩ | ⟨d2, q4, q5, q6, q7, q8, q9⟩
        · exact Or.inl ⟨SC_tr s3 q4, fun a b h1 h2 h3 => ((q5 a b h1 h2 h3).trans (s4 a b h1)).trans (r3 a b h2 h3)⟩
        · exact Or.inr ⟨d2, q4, q5, q6, fun a b h => (q7 a b h).trans (s3.1 a b (by omega) (by omega) (by omega)), q8.trans s3.2, fun a b h0 h1 h2 h3 => ((q9 a b h0 h1 h2 h3).trans (s4 a b h1)).trans (r3 a b h2 h3)⟩
end LAND
theorem G1 : lawG_1 Rel := by
  intro σ τ hR
  obtain ⟨s, g, im, tx, tn, rn, rb, rf, hV, hX, hT, hM⟩ := hR
  obtain ⟨v1, v2, v3, v4, v5, v6⟩ := hV
  obtain ⟨x1, x2, x3, x4, x5, x6, x7, x8⟩ := hX
  obtain ⟨m1, m2, m3, m4, m5, m6, m7, m8⟩ := hM
  have h5 : s 5 ≤ 8 := v1.2.2.2.2.2.2.2.2.1
  have hTX : TX σ tx tn := ⟨x4, x5⟩
  have hTM : TM τ tx tn := ⟨m4, m5⟩
  -- the end, for all ways
  have fin : ∀ (σ' τ' : Mm) (d : Nat → Nat), Vs d → TO σ' 1 d → MO τ' 2 d → (∀ a b, a = 0 ∨ 7 ≤ a → gI σ' a b = gI σ a b) → σ'.2 = σ.2 → (∀ a b, a ≠ 2 → a ≠ 4 → a ≠ 6 → ¬ (a = 0 ∧ b = 8) → gI τ' a b = gI τ a b) → Rel (pI σ' 10 1 0) (pI τ' 0 7 0) := by
    intro σ' τ' d hd hTO hMO hσ hσ2 hτ
    have a1 : ∀ a b, (a = 0 ∨ 7 ≤ a) → a ≠ 10 → gI (pI σ' 10 1 0) a b = gI σ a b := fun a b h h2 => by rw [gI_pI, ifn (by omega), hσ a b h]
    have b1 : ∀ a b, a ≠ 2 → a ≠ 4 → a ≠ 6 → ¬ (a = 0 ∧ b = 8) → ¬ (a = 0 ∧ b = 7) → gI (pI τ' 0 7 0) a b = gI τ a b := fun a b h1 h2 h3 h4 h5 => by rw [gI_pI, ifn h5, hτ a b h1 h2 h3 h4]
    refine Rel_of (s := d) (g := g) (im := im) (tx := tx) (tn := 0) (rn := rn) (rb := rb) (rf := rf) ⟨hd, v2, by omega, fun k hk => by omega, v5, v6⟩ ?_ (RT_same hT (fun a b h => a1 a b (by omega) (by omega)) hσ2) ?_
    · exact ⟨TO_same hTO (fun b => by rw [gI_pI, ifn (by omega)]) (fun b => by rw [gI_pI, ifn (by omega)]) (fun b => by rw [gI_pI, ifn (by omega)]), by rw [a1 0 3 (by omega) (by omega)]; exact x2, fun q => TO_same (x3 q) (fun b => a1 _ b (by omega) (by omega)) (fun b => a1 _ b (by omega) (by omega)) (fun b => a1 _ b (by omega) (by omega)), rfl, fun k hk => by omega, by rw [a1 0 5 (by omega) (by omega)]; exact x6, by rw [a1 0 6 (by omega) (by omega)]; exact x7, fun k hk => by rw [a1 12 k (by omega) (by omega)]; exact x8 k hk⟩
    · exact ⟨MO_same hMO (fun b => by rw [gI_pI, ifn (by omega)]), by rw [b1 0 4 (by omega) (by omega) (by omega) (by omega) (by omega)]; exact m2, fun q => MO_same (m3 q) (fun b => b1 _ b (by omega) (by omega) (by omega) (by omega) (by omega)), rfl, fun k hk => by omega, by rw [b1 0 26 (by omega) (by omega) (by omega) (by omega) (by omega)]; exact m6, by rw [b1 0 27 (by omega) (by omega) (by omega) (by omega) (by omega)]; exact m7, fun k hk => by rw [b1 1 _ (by omega) (by omega) (by omega) (by omega) (by omega)]; exact m8 k hk⟩
  have eM : fX6_land τ = (fX6_reads_7 1000 (nI 0) (pI τ 0 8 0)).bind (fun q_1 => some (q_1.1, (pI q_1.2 0 7 (0 : Int32)))) := rfl
  have eX : fX5_land σ = (fX2_firstFault_4 σ 1000 (nI 0) (nI 0)).bind (fun q_1 => (if q_1 < 0 then (fX5_tellText σ).bind (fun q_3 => some (q_3.1, (pI q_3.2 10 1 (0 : Int32)))) else some (((-1000 : Int32) - q_1), (pI σ 10 1 (0 : Int32))))) := rfl
  have hF0 : FR τ (pI τ 0 8 0) := FR_8
  rcases land1 v3 v4 hTX 1000 0 0 (pI τ 0 8 0) (Or.inr rfl) (by omega) (by omega) (FR_TM hF0 hTM) rfl with ⟨e, τ', q1, q2, q3, q4⟩ | ⟨c, τ', q1, q2, q3, q4, q5⟩
  · refine ⟨-1000 - nI e, _, _, ?_, ?_, fin σ τ' s v1 x1 (MO_same m1 (fun b => (FR_tr hF0 q4) 2 b (by omega) (by omega))) (fun a b _ => rfl) rfl (fun a b _ _ h3 h4 => FR_tr hF0 q4 a b h3 h4)⟩
    · rw [eX, q2, ob, ifn (nI_pos (by omega))]
    · rw [eM, q3, ob]
  · have hF := FR_tr hF0 q4
    obtain ⟨σ1, a1, a2, a3, a4, a5⟩ := x_copy (i := 4) (j := 1) rfl rfl (by omega) σ
    obtain ⟨τ1, b1, b2, b3, b4⟩ := m_lays (j := 2) (i := 4) (by omega) τ'
    have hMO' : MO τ' 2 s := MO_same m1 (fun b => hF 2 b (by omega) (by omega))
    have hTM' : TM τ' tx tn := FR_TM hF hTM
    have hTX1 : TX σ1 tx tn := ⟨by rw [a4 10 1 (by omega) (by omega) (by omega)]; exact x4, fun k hk => by rw [a4 11 k (by omega) (by omega) (by omega)]; exact x5 k hk⟩
    have hTM1 : TM (pI τ1 0 8 0) tx tn := ⟨by rw [gI_pI, ifn (by omega), b3 0 7 (by omega)]; exact hTM'.1, fun k hk => by rw [gI_pI, ifn (by omega), b3 5 k (by omega)]; exact hTM'.2 k hk⟩
    have hMO1 : MO (pI τ1 0 8 0) 4 s := MO_same (MO_copy h5 hMO' b2) (fun b => by rw [gI_pI, ifn (by omega)])
    obtain ⟨r, σ2, τ2, l1, l2, l3⟩ := land2 v3 v4 c 1000 0 0 σ1 (pI τ1 0 8 0) s q1 (by omega) (by omega) (by omega) hTX1 hTM1 rfl (TO_copy h5 x1 a2 a3) hMO1 v1
    have hτ1 : ∀ a b, a ≠ 4 → a ≠ 6 → ¬ (a = 0 ∧ b = 8) → gI (pI τ1 0 8 0) a b = gI τ a b := fun a b h1 h2 h3 => by rw [gI_pI, ifn h3, b3 a b h1]; exact hF a b h2 h3
    have eXr : fX5_land σ = some (r, pI σ2 10 1 0) := by
      have l1' : fX5_tellText_15 1000 0 0 σ1 = some (r, σ2) := l1
      rw [eX, q2, ob, ifp (by decide), fX5_tellText, a1, ob, l1', ob]
    have eMr : fX6_land τ = some (r, pI τ2 0 7 0) := by
      rw [eM, q3, b1, ob, l2, ob]
    rcases l3 with ⟨l4, l5⟩ | ⟨d, l4, l5, l6, l7, l8, l9⟩
    · refine ⟨r, _, _, eXr, eMr, fin σ2 τ2 s v1 ?_ ?_ ?_ ?_ ?_⟩
      · exact TO_same x1 (fun b => (l4.1 1 b (by omega) (by omega) (by omega)).trans (a4 1 b (by omega) (by omega) (by omega))) (fun b => (l4.1 2 b (by omega) (by omega) (by omega)).trans (a4 2 b (by omega) (by omega) (by omega))) (fun b => (l4.1 3 b (by omega) (by omega) (by omega)).trans (a4 3 b (by omega) (by omega) (by omega)))
      · exact MO_same m1 (fun b => (l5 2 b (by omega) (by omega) (by omega)).trans (hτ1 2 b (by omega) (by omega) (by omega)))
      · exact fun a b h => (l4.1 a b (by omega) (by omega) (by omega)).trans (a4 a b (by omega) (by omega) (by omega))
      · exact l4.2.trans a5
      · exact fun a b h1 h2 h3 h4 => (l5 a b h2 h3 h4).trans (hτ1 a b h2 h3 h4)
    · refine ⟨r, _, _, eXr, eMr, fin σ2 τ2 d l4 l5 l6 ?_ ?_ ?_⟩
      · exact fun a b h => (l7 a b h).trans (a4 a b (by omega) (by omega) (by omega))
      · exact l8.trans a5
      · exact fun a b h1 h2 h3 h4 => (l9 a b h1 h2 h3 h4).trans (hτ1 a b h2 h3 h4)
