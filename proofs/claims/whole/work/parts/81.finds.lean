/-! the reference's sums over all families -/
def aL (τ : Mm) (i k : Nat) (v : Int64) : Mm := pL τ i k (gL τ i k + v)
theorem gL_aL {τ : Mm} {i k a b : Nat} {v : Int64} : gL (aL τ i k v) a b = if a = i ∧ b = k then gL τ a b + v else gL τ a b := by
  rw [aL, gL_pL]
  by_cases h : a = i ∧ b = k
  · rw [ifp h, ifp h, h.1, h.2]
  · rw [ifn h, ifn h]
def ycond (S A B : Int32) (o z : Nat) : Bool := decide (nI o = A + S) && decide (nI z = B + 1 - S)
def ym (S A B : Int32) (q : Nat) (e o z : Nat) : Nat :=
  if q = 10 then o + z else if q = 11 then o else if q = 12 then 2520 / (o + z) * o else if q = 13 then (if o ≤ z then 0 else 1)
  else if q = 14 then (if o = z then 1 else 0) else if q = 15 then (if o ≤ z then 0 else o + z) else if q = 16 then (if o ≤ 1 then 0 else o)
  else if q = 17 then (if ycond S A B o z then (if S = 1 then o else z) else 0) else if q = 18 then (if ycond S A B o z then (if nI e = S then 1 else 0) else 0)
  else if q = 20 + (o + z) then 1 else 0
def gq (τ : Mm) (q : Nat) : Int64 := if q < 20 then gL τ 0 q else gL τ 7 (q - 20)
theorem lN_z0 {V : Nat} : lN (V * 0) = 0 := rfl
theorem m_131 {S A B : Int32} {τ : Mm} {o z e V n : Nat} {x : Int64} (ho : o ≤ 10) (hz : z ≤ 10) (hn : n ≤ 10) (hS : gI τ 0 20 = S) (hA : gI τ 0 21 = A) (hB : gI τ 0 22 = B) :
    fX6_isFamily_131 (nI o) (nI z) (lN V) (nI e) (nI n) x (gL τ 0 16) τ = some (if ycond S A B o z then aL (aL (aL (aL τ 0 16 x) 7 n (lN V)) 0 17 (lN (V * ym S A B 17 e o z))) 0 18 (lN (V * ym S A B 18 e o z)) else aL (aL τ 0 16 x) 7 n (lN V)) := by
  have e17 : ym S A B 17 e o z = if ycond S A B o z then (if S = 1 then o else z) else 0 := rfl
  have e18 : ym S A B 18 e o z = if ycond S A B o z then (if nI e = S then 1 else 0) else 0 := rfl
  have g : ∀ (ρ : Mm) (t0 : Nat), t0 ≤ 10 → gI ρ 0 20 = S → fX6_isFamily_194 (lN V) (nI e) (nI t0) (lN V) (gL ρ 0 17) ρ = some (aL (aL ρ 0 17 (lN (V * t0))) 0 18 (lN (V * (if nI e = S then 1 else 0)))) := by
    intro ρ t0 ht hr
    rw [fX6_isFamily_194, nI_l (by omega), lN_mul]
    have hr' : gI (pL ρ 0 17 (gL ρ 0 17 + lN (V * t0))) 0 20 = S := hr
    rw [hr']
    by_cases h : nI e = S
    · rw [ifp h, ifp h, Nat.mul_one]; rfl
    · rw [ifn h, ifn h]; rfl
  rw [fX6_isFamily_131, nI_cl (by omega), ifp (ci_nI (by omega) (by omega)), ifp (ci_nI (by omega) (by omega))]
  have hρ : pL (pL τ 0 16 (gL τ 0 16 + x)) 7 n (gL (pL τ 0 16 (gL τ 0 16 + x)) 7 n + lN V) = aL (aL τ 0 16 x) 7 n (lN V) := rfl
  rw [hρ]
  have s1 : gI (aL (aL τ 0 16 x) 7 n (lN V)) 0 20 = S := hS
  have s2 : gI (aL (aL τ 0 16 x) 7 n (lN V)) 0 21 = A := hA
  have s3 : gI (aL (aL τ 0 16 x) 7 n (lN V)) 0 22 = B := hB
  rw [s1, s2, s3, e17, e18]
  by_cases c1 : nI o = A + S
  · rw [ifp c1]
    by_cases c2 : nI z = B + 1 - S
    · have hc : ycond S A B o z = true := by simp only [ycond, decide_eq_true c1, decide_eq_true c2, Bool.and_self]
      rw [ifp c2, ifp hc, ifp hc, ifp hc]
      by_cases c3 : S = 1
      · rw [ifp c3, g _ o ho s1, ifp c3]
      · rw [ifn c3, g _ z hz s1, ifn c3]
    · rw [ifn c2, ifn (show ¬ ycond S A B o z = true by simp only [ycond, decide_eq_false c2, Bool.and_false]; decide)]
  · rw [ifn c1, ifn (show ¬ ycond S A B o z = true by simp only [ycond, decide_eq_false c1, Bool.false_and]; decide)]
section FINDS
variable {S A B : Int32} {τ : Mm} {o z e V : Nat} {x : Int64}
theorem m_109 (ho : o ≤ 10) : fX6_isFamily_109 (nI o) (nI z) (lN V) (nI e) (nI (o + z)) x (gL τ 0 15) τ = fX6_isFamily_131 (nI o) (nI z) (lN V) (nI e) (nI (o + z)) (lN (V * ym S A B 16 e o z)) (gL (aL τ 0 15 x) 0 16) (aL τ 0 15 x) := by
  have e16 : ym S A B 16 e o z = if o ≤ 1 then 0 else o := rfl
  rw [fX6_isFamily_109, e16]
  by_cases h : o ≤ 1
  · rw [ifp (show nI o ≤ 1 from nI_le (b := 1) h (by omega)), ifp h]; rfl
  · rw [ifn (show ¬ nI o ≤ 1 from nI_ge (a := 1) (by omega) (by omega)), ifn h, nI_l (by omega), lN_mul]; rfl
theorem m_86 (ho : o ≤ 10) (hz : z ≤ 10) : fX6_isFamily_86 (nI o) (nI z) (lN V) (nI e) (nI (o + z)) x (gL τ 0 14) τ = fX6_isFamily_109 (nI o) (nI z) (lN V) (nI e) (nI (o + z)) (lN (V * ym S A B 15 e o z)) (gL (aL τ 0 14 x) 0 15) (aL τ 0 14 x) := by
  have e15 : ym S A B 15 e o z = if o ≤ z then 0 else o + z := rfl
  rw [fX6_isFamily_86, e15]
  by_cases h : o ≤ z
  · rw [ifp (nI_le h (by omega)), ifp h]; rfl
  · rw [ifn (by rw [nI_leI (by omega) (by omega)]; exact h), ifn h, nI_l (by omega), lN_mul]; rfl
theorem m_67 (ho : o ≤ 10) (hz : z ≤ 10) : fX6_isFamily_67 (nI o) (nI z) (lN V) (nI e) (nI (o + z)) x (gL τ 0 13) τ = fX6_isFamily_86 (nI o) (nI z) (lN V) (nI e) (nI (o + z)) (lN (V * ym S A B 14 e o z)) (gL (aL τ 0 13 x) 0 14) (aL τ 0 13 x) := by
  have e14 : ym S A B 14 e o z = if o = z then 1 else 0 := rfl
  rw [fX6_isFamily_67, e14]
  by_cases h : o = z
  · rw [ifp (by rw [h]), ifp h, Nat.mul_one]; rfl
  · rw [ifn (by rw [nI_eq (by omega) (by omega)]; exact h), ifn h]; rfl
theorem m_fam0 (ho : o ≤ 10) (hz : z ≤ 10) (h1 : 1 ≤ o + z) : fX6_isFamily (nI o) (nI z) (lN V) (nI e) τ = fX6_isFamily_67 (nI o) (nI z) (lN V) (nI e) (nI (o + z)) (lN (V * ym S A B 13 e o z)) (gL (aL (aL (aL τ 0 10 (lN (V * ym S A B 10 e o z))) 0 11 (lN (V * ym S A B 11 e o z))) 0 12 (lN (V * ym S A B 12 e o z))) 0 13) (aL (aL (aL τ 0 10 (lN (V * ym S A B 10 e o z))) 0 11 (lN (V * ym S A B 11 e o z))) 0 12 (lN (V * ym S A B 12 e o z))) := by
  have e10 : ym S A B 10 e o z = o + z := rfl
  have e11 : ym S A B 11 e o z = o := rfl
  have e12 : ym S A B 12 e o z = 2520 / (o + z) * o := rfl
  have e13 : ym S A B 13 e o z = if o ≤ z then 0 else 1 := rfl
  have h3 : 2520 / (o + z) ≤ 2520 := Nat.div_le_self _ _
  have h4 : 2520 / (o + z) * o ≤ 2520 * 10 := Nat.mul_le_mul h3 ho
  rw [fX6_isFamily, nI_add, ifp (nI_ne0 (by omega) (by omega)), show (2520 : Int32) = nI 2520 from rfl, pk_div (by omega) (by omega) (by omega), pk_mul, nI_l (by omega), nI_l (by omega), nI_l (by omega), lN_mul, lN_mul, lN_mul, e10, e11, e12, e13]
  by_cases h : o ≤ z
  · rw [ifp (nI_le h (by omega)), ifp h]; rfl
  · rw [ifn (by rw [nI_leI (by omega) (by omega)]; exact h), ifn h, Nat.mul_one]; rfl
theorem m_isFam (ho : o ≤ 10) (hz : z ≤ 10) (h1 : 1 ≤ o + z) (h10 : o + z ≤ 10) (hS : gI τ 0 20 = S) (hA : gI τ 0 21 = A) (hB : gI τ 0 22 = B) :
    ∃ τ', fX6_isFamily (nI o) (nI z) (lN V) (nI e) τ = some τ' ∧ τ'.1 = τ.1 ∧ gL τ' 0 9 = gL τ 0 9 ∧ ∀ q, 10 ≤ q → q ≤ 30 → gq τ' q = gq τ q + lN (V * ym S A B q e o z) := by
  have e0 := (m_fam0 (S := S) (A := A) (B := B) (τ := τ) (e := e) (V := V) ho hz h1).trans ((m_67 (S := S) (A := A) (B := B) ho hz).trans ((m_86 (S := S) (A := A) (B := B) ho hz).trans ((m_109 (S := S) (A := A) (B := B) ho).trans (m_131 (S := S) (A := A) (B := B) ho hz h10 hS hA hB))))
  have hy : ∀ q, 20 ≤ q → ym S A B q e o z = if q = 20 + (o + z) then 1 else 0 := by
    intro q hq
    unfold ym
    rw [ifn (by omega), ifn (by omega), ifn (by omega), ifn (by omega), ifn (by omega), ifn (by omega), ifn (by omega), ifn (by omega), ifn (by omega)]
  have y19 : ym S A B 19 e o z = 0 := by
    unfold ym
    rw [ifn (by omega), ifn (by omega), ifn (by omega), ifn (by omega), ifn (by omega), ifn (by omega), ifn (by omega), ifn (by omega), ifn (by omega), ifn (by omega)]
  have e17 : ym S A B 17 e o z = if ycond S A B o z then (if S = 1 then o else z) else 0 := rfl
  have e18 : ym S A B 18 e o z = if ycond S A B o z then (if nI e = S then 1 else 0) else 0 := rfl
  by_cases hc : ycond S A B o z = true
  · rw [ifp hc] at e0
    refine ⟨_, e0, rfl, by simp [gL_aL], fun q h1 h2 => ?_⟩
    by_cases h20 : q < 20
    · unfold gq
      rw [ifp h20, ifp h20]
      rcases (show q = 10 ∨ q = 11 ∨ q = 12 ∨ q = 13 ∨ q = 14 ∨ q = 15 ∨ q = 16 ∨ q = 17 ∨ q = 18 ∨ q = 19 by omega) with rfl | rfl | rfl | rfl | rfl | rfl | rfl | rfl | rfl | rfl
      all_goals first | (simp [gL_aL]; done) | (rw [y19]; simp [gL_aL]; rfl)
    · have h3 := hy q (by omega)
      unfold gq
      rw [ifn h20, ifn h20, h3]
      by_cases h4 : q = 20 + (o + z)
      · rw [ifp h4, Nat.mul_one]
        have h5 : q - 20 = o + z := by omega
        simp [gL_aL, h5]
      · have h5 : ¬ q - 20 = o + z := by omega
        rw [ifn h4, Nat.mul_zero]
        simp [gL_aL, h5]
        rfl
  · rw [ifn hc] at e0
    refine ⟨_, e0, rfl, by simp [gL_aL], fun q h1 h2 => ?_⟩
    by_cases h20 : q < 20
    · unfold gq
      rw [ifp h20, ifp h20]
      rcases (show q = 10 ∨ q = 11 ∨ q = 12 ∨ q = 13 ∨ q = 14 ∨ q = 15 ∨ q = 16 ∨ q = 17 ∨ q = 18 ∨ q = 19 by omega) with rfl | rfl | rfl | rfl | rfl | rfl | rfl | rfl | rfl | rfl
      all_goals first | (simp [gL_aL]; done) | (rw [y19]; simp [gL_aL]; rfl) | (rw [e17, ifn hc]; simp [gL_aL]; rfl) | (rw [e18, ifn hc]; simp [gL_aL]; rfl)
    · have h3 := hy q (by omega)
      unfold gq
      rw [ifn h20, ifn h20, h3]
      by_cases h4 : q = 20 + (o + z)
      · rw [ifp h4, Nat.mul_one]
        have h5 : q - 20 = o + z := by omega
        simp [gL_aL, h5]
      · have h5 : ¬ q - 20 = o + z := by omega
        rw [ifn h4, Nat.mul_zero]
        simp [gL_aL, h5]
        rfl
end FINDS
theorem MO_1 {τ τ' : Mm} {j : Nat} {s : Nat → Nat} (h : τ'.1 = τ.1) (hM : MO τ j s) : MO τ' j s := MO_same hM (fun b => gI_1 h j b)
theorem m_goesOn {S A B : Int32} {s : Nat → Nat} (hs : Vs s) {k : Nat} (hk : k < 6) : ∀ (j N o z r e P : Nat) (ah : Int32) (τ : Mm), 1 ≤ o + z → o + z + j = s 0 → j < N → r ≤ o → e ≤ 1 → P * 12 ^ j ≤ 12 ^ 10 → (ah = 1 ↔ o + z ≠ 0 ∧ 0 < r) → (ah = 0 ↔ o + z ≠ 0 ∧ r = 0) → MO τ 2 s → gI τ 0 20 = S → gI τ 0 21 = A → gI τ 0 22 = B →
    ∃ τ', fX6_goesOn N (nI k) (nI o) (nI z) (nI r) ah (nI e) (lN (P * 12 ^ j)) τ = some τ' ∧ τ'.1 = τ.1 ∧ gL τ' 0 9 = gL τ 0 9 ∧ ∀ q, 10 ≤ q → q ≤ 30 → gq τ' q = gq τ q + lN (P * vv k (s 4) (s 0) (s 1) (s 2) (ym S A B q) j (o + z) e o r) := by
  have hm10 : s 0 ≤ 10 := hs.2.1
  have hc11 : s 1 ≤ 11 := hs.2.2.2.1
  intro j
  induction j with
  | zero =>
    intro N o z r e P ah τ h1 hj hN hr he hP ha1 ha0 hM hS hA hB
    obtain ⟨N, rfl⟩ : ∃ N', N = N' + 1 := ⟨N - 1, by omega⟩
    have hE : ends k (s 4) (s 0) (o + z) o r = true := ends_m (by omega)
    have hE2 : (decide (s 0 ≤ o + z) || stp k (s 4) o z r) = true := by
      rw [ends, Nat.add_sub_cancel_left] at hE
      exact hE
    by_cases hz : lg_cmp (lN (P * 12 ^ 0)) (0 : Int64) = 0
    · refine ⟨τ, by rw [fX6_goesOn, ifp hz], rfl, rfl, fun q _ _ => ?_⟩
      have hP0 : P = 0 := by
        have h2 := (lN_0 (by omega)).mp (lg_0.mp hz)
        simpa using h2
      rw [hP0, Nat.zero_mul, show lN 0 = 0 from rfl, Int64.add_zero]
    · obtain ⟨τ', a1, a2, a3, a4⟩ := m_isFam (S := S) (A := A) (B := B) (τ := τ) (e := e) (V := P * 12 ^ 0) (show o ≤ 10 by omega) (show z ≤ 10 by omega) h1 (by omega) hS hA hB
      refine ⟨τ', ?_, a2, a3, fun q h2 h3 => ?_⟩
      · rw [fX6_goesOn, ifn hz, nI_add, ifn (nI_nle (by omega) (by omega)), m_ends hM hs hk (by omega) (by omega) (by omega), ob, hE2, ifn (show ¬ bI true = 0 by decide), a1, ob]
      · rw [a4 q h2 h3, vv_end hE, Nat.add_sub_cancel_left, Nat.mul_assoc, Nat.mul_comm (12 ^ 0)]
  | succ j ih =>
    intro N o z r e P ah τ h1 hj hN hr he hP ha1 ha0 hM hS hA hB
    obtain ⟨N, rfl⟩ : ∃ N', N = N' + 1 := ⟨N - 1, by omega⟩
    by_cases hz : lg_cmp (lN (P * 12 ^ (j + 1))) (0 : Int64) = 0
    · refine ⟨τ, by rw [fX6_goesOn, ifp hz], rfl, rfl, fun q _ _ => ?_⟩
      have hP0 : P = 0 := by
        have h2 := (lN_0 (by omega)).mp (lg_0.mp hz)
        rcases Nat.mul_eq_zero.mp h2 with h3 | h3
        · exact h3
        · exact absurd h3 (Nat.ne_of_gt (Nat.pow_pos (by omega)))
      rw [hP0, Nat.zero_mul, show lN 0 = 0 from rfl, Int64.add_zero]
    · have e0 : fX6_goesOn (N + 1) (nI k) (nI o) (nI z) (nI r) ah (nI e) (lN (P * 12 ^ (j + 1))) τ = (if bI (decide (s 0 ≤ o + z) || stp k (s 4) o z r) = 0 then fX6_goesOn_37 (fun wa0 wa1 wa2 wa3 wa4 wa5 wa6 wσ => fX6_goesOn N wa0 wa1 wa2 wa3 wa4 wa5 wa6 wσ) (nI k) (nI o) (nI z) (nI r) ah (nI e) (lN (P * 12 ^ (j + 1))) τ else (fX6_isFamily (nI o) (nI z) (lN (P * 12 ^ (j + 1))) (nI e) τ).bind (fun q_5 => some q_5)) := by
        rw [fX6_goesOn, ifn hz, nI_add, ifn (nI_nle (by omega) (by omega)), m_ends hM hs hk (by omega) (by omega) (by omega), ob]
      have hEq : ends k (s 4) (s 0) (o + z) o r = (decide (s 0 ≤ o + z) || stp k (s 4) o z r) := by
        rw [ends, Nat.add_sub_cancel_left]
      cases hE : ends k (s 4) (s 0) (o + z) o r with
      | true =>
        rw [← hEq, hE, ifn (show ¬ bI true = 0 by decide)] at e0
        obtain ⟨τ', a1, a2, a3, a4⟩ := m_isFam (S := S) (A := A) (B := B) (τ := τ) (e := e) (V := P * 12 ^ (j + 1)) (show o ≤ 10 by omega) (show z ≤ 10 by omega) h1 (by omega) hS hA hB
        refine ⟨τ', by rw [e0, a1, ob], a2, a3, fun q h2 h3 => ?_⟩
        rw [a4 q h2 h3, vv_end hE, Nat.add_sub_cancel_left, Nat.mul_assoc, Nat.mul_comm (12 ^ (j + 1))]
      | false =>
        rw [← hEq, hE, ifp (show bI false = 0 from rfl)] at e0
        have ht := twf_le (c := s 1) (L := s 2) (n := o + z) (r := r) hc11
        have hp12 : P * 12 ^ (j + 1) = P * 12 ^ j * 12 := by rw [Nat.pow_succ, Nat.mul_assoc]
        have hdiv : lN (P * 12 ^ (j + 1)) / (12 : Int64) = lN (P * 12 ^ j) := by
          rw [show (12 : Int64) = lN 12 from rfl, pk_lDiv (by omega) (by omega) (by omega), hp12, Nat.mul_div_cancel _ (by omega)]
        have m1 : P * 12 ^ j * twf (s 1) (s 2) (o + z) r = P * twf (s 1) (s 2) (o + z) r * 12 ^ j := by rw [Nat.mul_right_comm]
        have m2 : P * 12 ^ j * (12 - twf (s 1) (s 2) (o + z) r) = P * (12 - twf (s 1) (s 2) (o + z) r) * 12 ^ j := by rw [Nat.mul_right_comm]
        have b1 : P * 12 ^ j * twf (s 1) (s 2) (o + z) r ≤ P * 12 ^ j * 12 := Nat.mul_le_mul_left _ ht
        have b2 : P * 12 ^ j * (12 - twf (s 1) (s 2) (o + z) r) ≤ P * 12 ^ j * 12 := Nat.mul_le_mul_left _ (by omega)
        obtain ⟨τ1, a1, a2, a3, a4⟩ := ih N (o + 1) z (r + 1) e (P * twf (s 1) (s 2) (o + z) r) 1 τ (by omega) (by omega) (by omega) (by omega) he (by omega) ⟨fun _ => ⟨by omega, by omega⟩, fun _ => rfl⟩ ⟨fun q => absurd q (by decide), fun q => by omega⟩ hM hS hA hB
        obtain ⟨τ2, c1, c2, c3, c4⟩ := ih N o (z + 1) 0 e (P * (12 - twf (s 1) (s 2) (o + z) r)) 0 τ1 (by omega) (by omega) (by omega) (by omega) he (by omega) ⟨fun q => absurd q (by decide), fun q => by omega⟩ ⟨fun _ => ⟨by omega, rfl⟩, fun _ => rfl⟩ (MO_1 a2 hM) (by rw [gI_1 a2]; exact hS) (by rw [gI_1 a2]; exact hA) (by rw [gI_1 a2]; exact hB)
        have c1' : fX6_goesOn N (nI k) (nI o) (nI (z + 1)) 0 0 (nI e) (lN (P * (12 - twf (s 1) (s 2) (o + z) r) * 12 ^ j)) τ1 = some τ2 := c1
        have n0 : (0 : Int32) ≤ nI e := nI_pos' (by omega)
        refine ⟨τ2, ?_, c2.trans a2, c3.trans a3, fun q h2 h3 => ?_⟩
        · rw [e0, fX6_goesOn_37, m_tw hM hs (o + z) r ah ha1 ha0, ob, ifp n0, fX6_goesOn_67, hdiv, nI_1, nI_1, nI_1, nI_l (by omega), lN_mul, m1, a1, ob, ifp n0, fX6_goesOn_99, show (12 : Int32) = nI 12 from rfl, pk_sub ht, nI_l (by omega), hdiv, lN_mul, m2, c1', ob]
        · rw [c4 q h2 h3, a4 q h2 h3, vv_go hE, Int64.add_assoc, lN_add, Nat.mul_add, ← Nat.mul_assoc, ← Nat.mul_assoc, show o + 1 + z = o + z + 1 by omega, show o + (z + 1) = o + z + 1 by omega]
theorem m_82L {s : Nat → Nat} {K : Int32} : ∀ (N v : Nat) (τ : Mm), v ≤ 11 → 11 - v < N → ∃ τ', fX6_finds_82 N K (nI v) τ = (fX6_goesOn 12 K 0 0 0 (-9) (-9) (gL τ' 0 9) τ').bind (fun q_2 => some q_2) ∧ τ'.1 = τ.1 ∧ (∀ b, gL τ' 0 b = gL τ 0 b) ∧ (∀ b, v ≤ b → b < 11 → gL τ' 7 b = 0) ∧ (∀ b, b < v → gL τ' 7 b = gL τ 7 b) := by
  intro N
  induction N with
  | zero => intro v τ _ h; omega
  | succ N ih =>
    intro v τ hv hN
    by_cases h8 : v = 11
    · subst h8
      refine ⟨τ, ?_, rfl, fun _ => rfl, fun b h1 h2 => by omega, fun _ _ => rfl⟩
      rw [fX6_finds_82, ifp (show (10 : Int32) < nI 11 by decide)]
    · obtain ⟨τ', a1, a2, a3, a4, a5⟩ := ih (v + 1) (pL τ 7 v 0) (by omega) (by omega)
      refine ⟨τ', ?_, a2, fun b => ?_, fun b h1 h2 => ?_, fun b h1 => ?_⟩
      · rw [fX6_finds_82, ifn (show ¬ (10 : Int32) < nI v from nI_nlt (a := 10) (by omega) (by omega)), ifp (ci_nI (by omega) (by omega)), nI_cl (by omega), nI_1]
        exact a1
      · rw [a3 b, gL_pL, ifn (by omega)]
      · by_cases q : b = v
        · rw [a5 b (by omega), gL_pL, ifp ⟨rfl, q⟩]
        · exact a4 b (by omega) h2
      · rw [a5 b (by omega), gL_pL, ifn (by omega)]
def zer (τ : Mm) : Mm := pL (pL (pL (pL (pL (pL (pL (pL (pL τ 0 10 0) 0 11 0) 0 12 0) 0 13 0) 0 14 0) 0 15 0) 0 16 0) 0 17 0) 0 18 0
theorem m_7L {s : Nat → Nat} {K : Int32} (hm : s 0 ≤ 10) : ∀ (N v : Nat) (τ : Mm), v ≤ s 0 → s 0 - v < N → gI τ 2 0 = nI (s 0) → gL τ 0 9 = lN (12 ^ v) → ∃ τ', fX6_finds_7 N K (nI v) τ = fX6_finds_82 1000 K 0 (zer τ') ∧ τ'.1 = τ.1 ∧ gL τ' 0 9 = lN (12 ^ s 0) := by
  intro N
  induction N with
  | zero => intro v τ _ h; omega
  | succ N ih =>
    intro v τ hv hN h0 h9
    by_cases h8 : v = s 0
    · subst h8
      refine ⟨τ, ?_, rfl, h9⟩
      rw [fX6_finds_7, ifp (by decide), show (0 : Int32).toNatClampNeg = 0 from rfl, h0, ifp (nI_le (Nat.le_refl _) (by omega))]
      rfl
    · have e9 : gL τ 0 9 * (12 : Int64) = lN (12 ^ (v + 1)) := by rw [h9, show (12 : Int64) = lN 12 from rfl, lN_mul, Nat.pow_succ]
      obtain ⟨τ', a1, a2, a3⟩ := ih (v + 1) (pL τ 0 9 (lN (12 ^ (v + 1)))) (by omega) (by omega) h0 (by rw [gL_pL, ifp ⟨rfl, rfl⟩])
      refine ⟨τ', ?_, a2, a3⟩
      rw [fX6_finds_7, ifp (by decide), show (0 : Int32).toNatClampNeg = 0 from rfl, h0, ifn (by rw [nI_leI (by omega) (by omega)]; omega), e9, nI_1]
      exact a1
theorem m_finds {S A B : Int32} {s : Nat → Nat} (hs : Vs s) {k : Nat} (hk : k < 6) {τ : Mm} (hM : MO τ 2 s) (hS : gI τ 0 20 = S) (hA : gI τ 0 21 = A) (hB : gI τ 0 22 = B) :
    ∃ τ', fX6_finds (nI k) τ = some τ' ∧ τ'.1 = τ.1 ∧ gL τ' 0 9 = lN (12 ^ s 0) ∧ ∀ q, 10 ≤ q → q ≤ 30 → q ≠ 19 → gq τ' q = lN (tot k (s 4) (s 0) (s 1) (s 2) (s 0 - 1) (ym S A B q)) := by
  have hm1 : 1 ≤ s 0 := hs.1
  have hm10 : s 0 ≤ 10 := hs.2.1
  have hc11 : s 1 ≤ 11 := hs.2.2.2.1
  obtain ⟨τ1, a1, a2, a3⟩ := m_7L (K := nI k) hm10 1000 0 (pL τ 0 9 1) (by omega) (by omega) hM.1 (by rw [gL_pL, ifp ⟨rfl, rfl⟩]; rfl)
  obtain ⟨τ2, b1, b2, b3, b4, b5⟩ := m_82L (s := s) (K := nI k) 1000 0 (zer τ1) (by omega) (by omega)
  have i2 : τ2.1 = τ.1 := b2.trans a2
  have g9 : gL τ2 0 9 = lN (12 ^ s 0) := by
    rw [b3 9]
    show gL τ1 0 9 = _
    exact a3
  have gz : ∀ q, 10 ≤ q → q ≤ 30 → q ≠ 19 → gq τ2 q = 0 := by
    intro q h1 h2 h3
    unfold gq
    by_cases h20 : q < 20
    · rw [ifp h20, b3 q]
      rcases (show q = 10 ∨ q = 11 ∨ q = 12 ∨ q = 13 ∨ q = 14 ∨ q = 15 ∨ q = 16 ∨ q = 17 ∨ q = 18 by omega) with rfl | rfl | rfl | rfl | rfl | rfl | rfl | rfl | rfl <;> rfl
    · rw [ifn h20]
      exact b4 _ (by omega) (by omega)
  have hM2 : MO τ2 2 s := MO_1 i2 hM
  have hS2 : gI τ2 0 20 = S := by rw [gI_1 i2]; exact hS
  have hA2 : gI τ2 0 21 = A := by rw [gI_1 i2]; exact hA
  have hB2 : gI τ2 0 22 = B := by rw [gI_1 i2]; exact hB
  obtain ⟨j, hj⟩ : ∃ j, s 0 = j + 1 := ⟨s 0 - 1, by omega⟩
  have pw : ∀ P, P ≤ 12 → P * 12 ^ j ≤ 12 ^ 10 := by
    intro P hP
    have h1 : P * 12 ^ j ≤ 12 * 12 ^ j := Nat.mul_le_mul_right _ hP
    have h2 : 12 * 12 ^ j = 12 ^ (j + 1) := by rw [Nat.pow_succ, Nat.mul_comm]
    have h3 : 12 ^ (j + 1) ≤ 12 ^ 10 := Nat.pow_le_pow_right (by omega) (by omega)
    omega
  have hlt : 12 ^ s 0 ≤ 12 ^ 10 := Nat.pow_le_pow_right (by omega) hm10
  have hgt : 0 < 12 ^ s 0 := Nat.pow_pos (by omega)
  have hz : ¬ lg_cmp (lN (12 ^ s 0)) (0 : Int64) = 0 := fun q => absurd ((lN_0 (by omega)).mp (lg_0.mp q)) (by omega)
  have htw := m_tw hM2 hs 0 0 (-9) ⟨fun q => absurd q (by decide), fun q => absurd rfl q.1⟩ ⟨fun q => absurd q (by decide), fun q => absurd rfl q.1⟩
  have htwf : twf (s 1) (s 2) 0 0 = s 1 := by simp [twf]
  rw [htwf] at htw
  have hdiv : lN (12 ^ s 0) / (12 : Int64) = lN (12 ^ j) := by
    rw [show (12 : Int64) = lN 12 from rfl, pk_lDiv (by omega) (by omega) (by omega), hj, Nat.pow_succ, Nat.mul_div_cancel _ (by omega)]
  obtain ⟨τ3, c1, c2, c3, c4⟩ := m_goesOn (S := S) (A := A) (B := B) hs hk j 11 1 0 1 1 (s 1) 1 τ2 (by omega) (by omega) (by omega) (by omega) (by omega) (pw _ (by omega)) ⟨fun _ => ⟨by omega, by omega⟩, fun _ => rfl⟩ ⟨fun q => absurd q (by decide), fun q => by omega⟩ hM2 hS2 hA2 hB2
  obtain ⟨τ4, d1, d2, d3, d4⟩ := m_goesOn (S := S) (A := A) (B := B) hs hk j 11 0 1 0 0 (12 - s 1) 0 τ3 (by omega) (by omega) (by omega) (by omega) (by omega) (pw _ (by omega)) ⟨fun q => absurd q (by decide), fun q => by omega⟩ ⟨fun _ => ⟨by omega, rfl⟩, fun _ => rfl⟩ (MO_1 c2 hM2) (by rw [gI_1 c2]; exact hS2) (by rw [gI_1 c2]; exact hA2) (by rw [gI_1 c2]; exact hB2)
  have c1' : fX6_goesOn 11 (nI k) (0 + 1) 0 (0 + 1) 1 1 (lN (s 1 * 12 ^ j)) τ2 = some τ3 := c1
  have d1' : fX6_goesOn 11 (nI k) 0 (0 + 1) 0 0 0 (lN ((12 - s 1) * 12 ^ j)) τ3 = some τ4 := d1
  have eG : fX6_goesOn 12 (nI k) 0 0 0 (-9) (-9) (gL τ2 0 9) τ2 = some τ4 := by
    rw [g9, fX6_goesOn, ifn hz, ifp (by decide), fX6_goesOn_37, htw, ob, ifn (by decide), fX6_goesOn_67, hdiv, nI_l (by omega), lN_mul, Nat.mul_comm (12 ^ j) (s 1), c1', ob, ifn (by decide), fX6_goesOn_99, show (12 : Int32) = nI 12 from rfl, pk_sub (by omega), nI_l (by omega), hdiv, lN_mul, Nat.mul_comm (12 ^ j) (12 - s 1), d1', ob]
  refine ⟨τ4, ?_, (d2.trans c2).trans i2, (d3.trans c3).trans g9, fun q h1 h2 h3 => ?_⟩
  · have a1' : fX6_finds_7 1000 (nI k) 0 (pL τ 0 9 1) = fX6_finds_82 1000 (nI k) 0 (zer τ1) := a1
    have b1' : fX6_finds_82 1000 (nI k) 0 (zer τ1) = _ := b1
    rw [fX6_finds, a1', b1', eG, ob]
  · rw [d4 q h1 h2, c4 q h1 h2, gz q h1 h2 h3, Int64.zero_add, lN_add, hj]
    rfl
