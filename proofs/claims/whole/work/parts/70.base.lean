/-! THE RELATION OF THE TWO MEMORIES, and plain facts of numbers -/
theorem ob {α β : Type} {a : α} {f : α → Option β} : (some a).bind f = f a := rfl
theorem fa_lt (a b : Int32) : a < b ↔ a.toInt < b.toInt := Int32.lt_iff_toInt_lt
theorem fa_le (a b : Int32) : a ≤ b ↔ a.toInt ≤ b.toInt := Int32.le_iff_toInt_le
theorem fa_eq (a b : Int32) : a = b ↔ a.toInt = b.toInt := Int32.toInt_inj.symm
theorem nlt {a b : Int32} (h : a < b) : ¬ b ≤ a := by rw [fa_le]; rw [fa_lt] at h; omega
theorem nle {a b : Int32} (h : a ≤ b) : ¬ b < a := by rw [fa_lt]; rw [fa_le] at h; omega
theorem lt_of {a b : Int32} (h : ¬ a ≤ b) : b < a := by rw [fa_lt]; rw [fa_le] at h; omega
theorem le_of {a b : Int32} (h : ¬ a < b) : b ≤ a := by rw [fa_le]; rw [fa_lt] at h; omega
theorem ge6 {v : Nat} (h : v < 6) : ¬ (6 : Int32) ≤ nI v := nI_ge (b := 6) h (by omega)
theorem ge8 {v : Nat} (h : v < 8) : ¬ (8 : Int32) ≤ nI v := nI_ge (b := 8) h (by omega)
theorem ge10 {v : Nat} (h : v < 10) : ¬ (10 : Int32) ≤ nI v := nI_ge (b := 10) h (by omega)
theorem ge11 {v : Nat} (h : v < 11) : ¬ (11 : Int32) ≤ nI v := nI_ge (b := 11) h (by omega)
theorem ge12 {v : Nat} (h : v < 12) : ¬ (12 : Int32) ≤ nI v := nI_ge (b := 12) h (by omega)
theorem ge22 {v : Nat} (h : v < 22) : ¬ (22 : Int32) ≤ nI v := nI_ge (b := 22) h (by omega)
theorem ge40 {v : Nat} (h : v < 40) : ¬ (40 : Int32) ≤ nI v := nI_ge (b := 40) h (by omega)
theorem ge64 {v : Nat} (h : v < 64) : ¬ (64 : Int32) ≤ nI v := nI_ge (b := 64) h (by omega)
theorem ge121 {v : Nat} (h : v < 121) : ¬ (121 : Int32) ≤ nI v := nI_ge (b := 121) h (by omega)
theorem ge242 {v : Nat} (h : v < 242) : ¬ (242 : Int32) ≤ nI v := nI_ge (b := 242) h (by omega)
/-- a number from nought to a bound is one of the naturals -/
theorem nI_le_of {x : Int32} {M : Int32} (n : Nat) (hM : M.toInt = n) (h0 : ¬ x < 0) (h1 : x ≤ M) : ∃ j : Nat, j ≤ n ∧ x = nI j := nI_of2 hM h0 h1
theorem nI_cl {n : Nat} (h : n < 2 ^ 31) : (nI n).toNatClampNeg = n := nI_clamp h
theorem ci_nI {n N : Nat} (h : n < N) (hN : N < 2 ^ 31) : ci (nI n) N = true := by
  have h1 : ¬ nI n < 0 := nI_pos (by omega)
  simp [ci, nI_clamp (show n < 2 ^ 31 by omega), h, le_of h1]
theorem ifp {α : Type} {c : Prop} [Decidable c] (h : c) (a b : α) : (if c then a else b) = a := if_pos h
theorem ifn {α : Type} {c : Prop} [Decidable c] (h : ¬ c) (a b : α) : (if c then a else b) = b := if_neg h
/-! what is told: s 0 MOST, 1 CHANCE, 2 LEAN and 5, 3 KIND, 4 FIGURE, 5 how many were seen, 6 + 2 k how many children, 7 + 2 k their sorts -/
def Vs (s : Nat → Nat) : Prop := 1 ≤ s 0 ∧ s 0 ≤ 10 ∧ 1 ≤ s 1 ∧ s 1 ≤ 11 ∧ s 2 ≤ 10 ∧ s 3 < 6 ∧ 1 ≤ s 4 ∧ s 4 ≤ 9 ∧ s 5 ≤ 8 ∧ ∀ k, k < s 5 → 1 ≤ s (6 + 2 * k) ∧ s (6 + 2 * k) ≤ 10 ∧ s (7 + 2 * k) < 1024
def TO (σ : Mm) (i : Nat) (s : Nat → Nat) : Prop := gI σ i 2 = nI (s 0) ∧ gI σ i 3 = nI (s 1) ∧ gI σ i 4 = nI (s 2) - 5 ∧ gI σ i 0 = nI (s 3) ∧ gI σ i 1 = nI (s 4) ∧ gI σ i 5 = nI (s 5) ∧ ∀ k, k < s 5 → gI σ (i + 1) k = nI (s (6 + 2 * k)) ∧ gI σ (i + 2) k = nI (s (7 + 2 * k))
def MO (τ : Mm) (j : Nat) (s : Nat → Nat) : Prop := gI τ j 0 = nI (s 0) ∧ gI τ j 1 = nI (s 1) ∧ gI τ j 2 = nI (s 2) ∧ gI τ j 3 = nI (s 3) ∧ gI τ j 4 = nI (s 4) ∧ gI τ j 5 = nI (s 5) ∧ ∀ k, k < s 5 → gI τ j (6 + 2 * k) = nI (s (6 + 2 * k)) ∧ gI τ j (7 + 2 * k) = nI (s (7 + 2 * k))
def bI (b : Bool) : Int32 := if b then 1 else 0
/-! the laws -/
def stp (k f o z r : Nat) : Bool := match k with
  | 0 => decide (0 < r)
  | 1 => decide (f ≤ o)
  | 2 => decide (o = z + f)
  | 3 => decide (o = z)
  | 4 => decide (f ≤ r)
  | _ => decide (0 < o) && decide (0 < z)
/-- whether a family ends, with n children, o of sort 1, the latest r of sort 1 -/
def ends (k f m n o r : Nat) : Bool := decide (m ≤ n) || stp k f o (n - o) r
/-- of how many twelfths a child behind n is of sort 1, the latest r of sort 1; L is LEAN and 5 -/
def twf (c L n r : Nat) : Nat := if n = 0 then c else if 0 < r then min 12 (c + L - 5) else min 12 (c + 5 - L)
/-- what a measure comes to over all families behind a family that goes on, in parts of 12 to the j; n children and j to come at most -/
def vv (k f m c L : Nat) (μ : Nat → Nat → Nat → Nat) : Nat → Nat → Nat → Nat → Nat → Nat
  | 0, n, e, o, _ => μ e o (n - o)
  | j + 1, n, e, o, r => if ends k f m n o r then μ e o (n - o) * 12 ^ (j + 1) else twf c L n r * vv k f m c L μ j (n + 1) e (o + 1) (r + 1) + (12 - twf c L n r) * vv k f m c L μ j (n + 1) e o 0
/-- over all families, in parts of 12 to the (j + 1) -/
def tot (k f m c L j : Nat) (μ : Nat → Nat → Nat → Nat) : Nat := c * vv k f m c L μ j 1 1 1 1 + (12 - c) * vv k f m c L μ j 1 0 0 0
def sm (f : Nat → Nat) : Nat → Nat
  | 0 => 0
  | n + 1 => sm f n + f n
/-- the cells of a tally's ends: by the sort of the eldest, how many of sort 1, of sort 0 -/
def talOK (k f m c L : Nat) (ee : Nat → Nat) : Prop := ∀ μ : Nat → Nat → Nat → Nat, sm (fun j => ee j * μ (j / 121) (j / 11 % 11) (j % 11)) 242 = tot k f m c L 9 μ
def CV (σ : Mm) (t : Nat) : Prop := gI σ t 2 = -1 ∨ ∃ k f m c L : Nat, ∃ ee : Nat → Nat, (k < 6 ∧ f ≤ 9 ∧ 1 ≤ m ∧ m ≤ 10 ∧ 1 ≤ c ∧ c ≤ 11 ∧ L ≤ 10) ∧ gI σ t 2 = nI k ∧ gI σ t 3 = nI f ∧ gI σ t 4 = nI m ∧ gI σ t 5 = nI c ∧ gI σ t 6 = nI L - 5 ∧ (∀ j, j < 242 → gL σ (t + 2) j = lN (ee j)) ∧ talOK k f m c L ee
def WK (σ : Mm) : Prop := (gH σ = 36 ∧ gN σ = 38) ∨ (gH σ = 38 ∧ gN σ = 36)
def RT (σ : Mm) : Prop := (∀ t, isTal t = true → CV σ t) ∧ WK σ
def VV (s g : Nat → Nat) (im : Bool) (tx : Nat → Nat) (tn rn rb : Nat) : Prop := Vs s ∧ (im = true → Vs g) ∧ tn ≤ 64 ∧ (∀ k, k < tn → tx k < 256) ∧ rn ≤ 10 ∧ rb < 2 ^ rn
def RX (σ : Mm) (s g : Nat → Nat) (im : Bool) (tx : Nat → Nat) (tn rn rb : Nat) (rf : Nat → Nat) : Prop := TO σ 1 s ∧ gI σ 0 3 = bI im ∧ (im = true → TO σ 7 g) ∧ gI σ 10 1 = nI tn ∧ (∀ k, k < tn → gI σ 11 k = nI (tx k)) ∧ gI σ 0 5 = nI rn ∧ gI σ 0 6 = nI rb ∧ ∀ k, k < 6 → gI σ 12 k = nI (rf (k + 1))
def RM (τ : Mm) (s g : Nat → Nat) (im : Bool) (tx : Nat → Nat) (tn rn rb : Nat) (rf : Nat → Nat) : Prop := MO τ 2 s ∧ gI τ 0 4 = bI im ∧ (im = true → MO τ 3 g) ∧ gI τ 0 7 = nI tn ∧ (∀ k, k < tn → gI τ 5 k = nI (tx k)) ∧ gI τ 0 26 = nI rn ∧ (∃ q : Nat, q < 2048 ∧ gI τ 0 27 = nI q ∧ q % 2 ^ rn = rb) ∧ ∀ k, k < 6 → gI τ 1 (k + 1) = nI (rf (k + 1))
def Rel (σ τ : Mm) : Prop := ∃ (s g : Nat → Nat) (im : Bool) (tx : Nat → Nat) (tn rn rb : Nat) (rf : Nat → Nat), VV s g im tx tn rn rb ∧ RX σ s g im tx tn rn rb rf ∧ RT σ ∧ RM τ s g im tx tn rn rb rf
theorem CV_pI {σ : Mm} {i k t : Nat} {v : Int32} (ht : isTal t = true) (hi : i < 14) (h : CV σ t) : CV (pI σ i k v) t := by
  have h1 := tal_iff.mp ht
  have e : gI (pI σ i k v) t = gI σ t := gI_ne (by omega)
  unfold CV at h ⊢
  rw [e]
  exact h
theorem RT_pI {σ : Mm} {i k : Nat} {v : Int32} (hi : i < 14) (h : RT σ) : RT (pI σ i k v) := ⟨fun t ht => CV_pI ht hi (h.1 t ht), h.2⟩
/-! refusals -/
def rfu (rf : Nat → Nat) (c : Nat) : Nat → Nat := fun k => if k = c then rf c + 1 else rf k
theorem x_ref2 (σ : Mm) : fX5_refuse (-2) σ = some (-2, pI σ 12 1 (gI σ 12 1 + 1)) := by rfl
theorem x_ref3 (σ : Mm) : fX5_refuse (-3) σ = some (-3, pI σ 12 2 (gI σ 12 2 + 1)) := by rfl
theorem x_ref4 (σ : Mm) : fX5_refuse (-4) σ = some (-4, pI σ 12 3 (gI σ 12 3 + 1)) := by rfl
theorem x_ref6 (σ : Mm) : fX5_refuse (-6) σ = some (-6, pI σ 12 5 (gI σ 12 5 + 1)) := by rfl
theorem m_ref2 (σ : Mm) : fX6_refuse (-2) σ = some (-2, pI σ 1 2 (gI σ 1 2 + 1)) := by rfl
theorem m_ref3 (σ : Mm) : fX6_refuse (-3) σ = some (-3, pI σ 1 3 (gI σ 1 3 + 1)) := by rfl
theorem m_ref4 (σ : Mm) : fX6_refuse (-4) σ = some (-4, pI σ 1 4 (gI σ 1 4 + 1)) := by rfl
theorem m_ref6 (σ : Mm) : fX6_refuse (-6) σ = some (-6, pI σ 1 6 (gI σ 1 6 + 1)) := by rfl
theorem RX_ref {σ : Mm} {s g tx rf : Nat → Nat} {im : Bool} {tn rn rb : Nat} (c : Nat) (hc : c < 6) (h : RX σ s g im tx tn rn rb rf) : RX (pI σ 12 c (gI σ 12 c + 1)) s g im tx tn rn rb (rfu rf (c + 1)) := by
  obtain ⟨h1, h2, h3, h4, h5, h6, h7, h8⟩ := h
  unfold RX TO
  unfold TO at h1 h3
  simp only [gI_pI]
  refine ⟨by simpa using h1, by simpa using h2, by simpa using h3, by simpa using h4, by simpa using h5, by simpa using h6, by simpa using h7, fun k hk => ?_⟩
  by_cases e : k = c
  · subst e
    simp [rfu, h8 k hk, nI_1]
  · simp [rfu, e, h8 k hk]
theorem RM_ref {τ : Mm} {s g tx rf : Nat → Nat} {im : Bool} {tn rn rb : Nat} (c : Nat) (hc : c < 6) (h : RM τ s g im tx tn rn rb rf) : RM (pI τ 1 (c + 1) (gI τ 1 (c + 1) + 1)) s g im tx tn rn rb (rfu rf (c + 1)) := by
  obtain ⟨h1, h2, h3, h4, h5, h6, h7, h8⟩ := h
  unfold RM MO
  unfold MO at h1 h3
  simp only [gI_pI]
  refine ⟨by simpa using h1, by simpa using h2, by simpa using h3, by simpa using h4, by simpa using h5, by simpa using h6, by simpa using h7, fun k hk => ?_⟩
  by_cases e : k = c
  · subst e
    simp [rfu, h8 k hk, nI_1]
  · simp [rfu, e, h8 k hk]
theorem Rel_ref {σ τ : Mm} (c : Nat) (hc : c < 6) (h : Rel σ τ) : Rel (pI σ 12 c (gI σ 12 c + 1)) (pI τ 1 (c + 1) (gI τ 1 (c + 1) + 1)) := by
  obtain ⟨s, g, im, tx, tn, rn, rb, rf, hV, hX, hT, hM⟩ := h
  exact ⟨s, g, im, tx, tn, rn, rb, _, hV, RX_ref c hc hX, RT_pI (by omega) hT, RM_ref c hc hM⟩
theorem x_refL2 (σ : Mm) : fX5_refuseLong (-2) σ = some (4000000000000000002, pI σ 12 1 (gI σ 12 1 + 1)) := by
  rw [fX5_refuseLong, x_ref2, ob, show (4000000000000000000 : Int64) - (-2 : Int32).toInt64 = 4000000000000000002 by decide]
theorem x_refL4 (σ : Mm) : fX5_refuseLong (-4) σ = some (4000000000000000004, pI σ 12 3 (gI σ 12 3 + 1)) := by
  rw [fX5_refuseLong, x_ref4, ob, show (4000000000000000000 : Int64) - (-4 : Int32).toInt64 = 4000000000000000004 by decide]
theorem x_refL6 (σ : Mm) : fX5_refuseLong (-6) σ = some (4000000000000000006, pI σ 12 5 (gI σ 12 5 + 1)) := by
  rw [fX5_refuseLong, x_ref6, ob, show (4000000000000000000 : Int64) - (-6 : Int32).toInt64 = 4000000000000000006 by decide]
theorem m_refL2 (σ : Mm) : fX6_refuseWide (-2) σ = some (4000000000000000002, pI σ 1 2 (gI σ 1 2 + 1)) := by
  rw [fX6_refuseWide, m_ref2, ob, show (4000000000000000000 : Int64) - (-2 : Int32).toInt64 = 4000000000000000002 by decide]
theorem m_refL4 (σ : Mm) : fX6_refuseWide (-4) σ = some (4000000000000000004, pI σ 1 4 (gI σ 1 4 + 1)) := by
  rw [fX6_refuseWide, m_ref4, ob, show (4000000000000000000 : Int64) - (-4 : Int32).toInt64 = 4000000000000000004 by decide]
theorem m_refL6 (σ : Mm) : fX6_refuseWide (-6) σ = some (4000000000000000006, pI σ 1 6 (gI σ 1 6 + 1)) := by
  rw [fX6_refuseWide, m_ref6, ob, show (4000000000000000000 : Int64) - (-6 : Int32).toInt64 = 4000000000000000006 by decide]
/-! small functions -/
theorem m_isIn (x : Int32) (n : Int32) : fX6_isIn x n = some (if x < 0 ∨ n ≤ x then 0 else 1) := by
  unfold fX6_isIn
  by_cases h1 : x < 0
  · simp [h1]
  · by_cases h2 : n ≤ x <;> simp [h1, h2]
theorem m_within (x a b : Int32) : fX6_within x a b = some (if x < a then -4 else if b < x then -6 else 0) := by
  unfold fX6_within
  by_cases h1 : a ≤ x
  · rw [ifp h1, ifn (nle h1)]
    by_cases h2 : x ≤ b
    · rw [ifp h2, ifn (nle h2)]
    · rw [ifn h2, ifp (lt_of h2)]
  · rw [ifn h1, ifp (lt_of h1)]
theorem x_noSort (x : Int32) : fX5_isNoBit x = some (if x < 0 ∨ 1 < x then 1 else 0) := by
  unfold fX5_isNoBit
  by_cases h1 : x < 0
  · simp [h1]
  · by_cases h2 : x ≤ 1
    · have h3 := nle h2
      simp [h1, h2, h3]
    · have h3 := lt_of h2
      simp [h1, h2, h3]
theorem x_nb1 {x : Int32} (h : x < 0 ∨ (2 : Int32) ≤ x) : fX5_isNoBit x = some 1 := by
  rw [x_noSort, ifp]
  rcases h with h | h
  · exact Or.inl h
  · refine Or.inr ?_
    rw [fa_le] at h
    rw [fa_lt]
    have e1 : (1 : Int32).toInt = 1 := rfl
    have e2 : (2 : Int32).toInt = 2 := rfl
    omega
theorem x_nb0 {x : Int32} (h : ¬ (x < 0 ∨ (2 : Int32) ≤ x)) : fX5_isNoBit x = some 0 := by
  rw [x_noSort, ifn]
  rintro (q | q)
  · exact h (Or.inl q)
  · refine h (Or.inr ?_)
    rw [fa_lt] at q
    rw [fa_le]
    have e1 : (1 : Int32).toInt = 1 := rfl
    have e2 : (2 : Int32).toInt = 2 := rfl
    omega
/-! plain facts of the kit's pages (pasted): fa_, fb_, s_l -/
theorem fb_rng (x : Int32) : -2147483648 ≤ x.toInt ∧ x.toInt < 2147483648 := by
  have h1 := Int32.le_toInt x
  have h2 := Int32.toInt_lt x
  omega
theorem fb_bmod {z : Int} (h1 : -2147483648 ≤ z) (h2 : z < 2147483648) : z.bmod (2 ^ 32) = z := by
  rw [Int.bmod_eq_of_le (by omega) (by omega)]
theorem fb_addI {x y : Int32} (h1 : -2147483648 ≤ x.toInt + y.toInt) (h2 : x.toInt + y.toInt < 2147483648) : (x + y).toInt = x.toInt + y.toInt := by
  rw [Int32.toInt_add, fb_bmod h1 h2]
theorem fb_subI {x y : Int32} (h1 : -2147483648 ≤ x.toInt - y.toInt) (h2 : x.toInt - y.toInt < 2147483648) : (x - y).toInt = x.toInt - y.toInt := by
  rw [Int32.toInt_sub, fb_bmod h1 h2]
theorem s_l : ∀ n, n < 32 → ((nI n &&& 31).toBitVec.smod 32).toNat = n := by decide +kernel
theorem fa_and (a b : Nat) : nI a &&& nI b = nI (a &&& b) := by
  apply Int32.toBitVec_inj.1
  show BitVec.ofNat 32 a &&& BitVec.ofNat 32 b = BitVec.ofNat 32 (a &&& b)
  apply BitVec.eq_of_getLsbD_eq
  intro i hi
  simp [hi]
theorem fa_or (a b : Nat) : nI a ||| nI b = nI (a ||| b) := by
  apply Int32.toBitVec_inj.1
  show BitVec.ofNat 32 a ||| BitVec.ofNat 32 b = BitVec.ofNat 32 (a ||| b)
  apply BitVec.eq_of_getLsbD_eq
  intro i hi
  simp [hi]
theorem fa_mask (n k : Nat) : nI n &&& nI (2 ^ k - 1) = nI (n % 2 ^ k) := by rw [fa_and, Nat.and_two_pow_sub_one_eq_mod]
/-- a low part, and a bit above it -/
theorem or_bit {a n : Nat} (b : Nat) (h : a < 2 ^ n) : nI a ||| nI (b * 2 ^ n) = nI (a + b * 2 ^ n) := by
  rw [fa_or, Nat.or_comm, Nat.mul_comm, ← Nat.two_pow_add_eq_or_of_lt h, Nat.add_comm]
theorem shl_n {a n : Nat} (hn : n < 31) (h : a * 2 ^ n < 2 ^ 32) : nI a <<< (nI n &&& 31) = nI (a * 2 ^ n) := pk_shlN _ n (s_l n (by omega)) h
theorem shr_n {a n : Nat} (hn : n < 31) (ha : a < 2 ^ 31) : nI a >>> (nI n &&& 31) = nI (a / 2 ^ n) := pk_shrN ha _ n (s_l n (by omega))
theorem and_1 (a : Nat) : nI a &&& 1 = nI (a % 2) := by
  have h := fa_mask a 1
  exact h
theorem bI_0 {b : Bool} : bI b = 0 ↔ b = false := by cases b <;> decide
theorem nI_sub_eq {o z f : Nat} (ho : o < 2 ^ 20) (hz : z < 2 ^ 20) (hf : f < 2 ^ 20) : nI o - nI z = nI f ↔ o = z + f := by
  rw [fa_eq, pk_sub_toInt (by omega) (by omega), nI_toInt (by omega)]
  omega
/-- the class's law, and the reference's -/
theorem x_stops {k f o z r : Nat} (hk : k < 6) (hf : f < 2 ^ 20) (ho : o < 2 ^ 20) (hz : z < 2 ^ 20) (hr : r < 2 ^ 20) : fX5_lawStops (nI k) (nI f) (nI o) (nI z) (nI r) = some (bI (stp k f o z r)) := by
  have e0 : ∀ n : Nat, n < 2 ^ 20 → (nI n ≤ 0 ↔ n = 0) := fun n hn => by
    rw [show (0 : Int32) = nI 0 from rfl, nI_leI (by omega) (by omega)]; omega
  rcases (show k = 0 ∨ k = 1 ∨ k = 2 ∨ k = 3 ∨ k = 4 ∨ k = 5 by omega) with rfl | rfl | rfl | rfl | rfl | rfl
  · rw [fX5_lawStops, ifp (by decide)]
    by_cases h : r = 0
    · rw [ifp ((e0 r hr).mpr h)]; simp [stp, bI, h]
    · rw [ifn (fun q => h ((e0 r hr).mp q))]; simp [stp, bI, Nat.pos_of_ne_zero h]
  · rw [fX5_lawStops, ifn (by decide), ifp (by decide)]
    by_cases h : f ≤ o
    · rw [ifn (by rw [nI_ltI (by omega) (by omega)]; omega)]; simp [stp, bI, h]
    · rw [ifp (by rw [nI_ltI (by omega) (by omega)]; omega)]; simp [stp, bI, h]
  · rw [fX5_lawStops, ifn (by decide), ifn (by decide), ifp (by decide)]
    by_cases h : o = z + f
    · rw [ifp ((nI_sub_eq ho hz hf).mpr h)]; simp [stp, bI, h]
    · rw [ifn (fun q => h ((nI_sub_eq ho hz hf).mp q))]; simp [stp, bI, h]
  · rw [fX5_lawStops, ifn (by decide), ifn (by decide), ifn (by decide), ifp (by decide)]
    by_cases h : o = z <;> simp [nI_eq (show o < 2 ^ 31 by omega) (show z < 2 ^ 31 by omega), stp, bI, h]
  · rw [fX5_lawStops, ifn (by decide), ifn (by decide), ifn (by decide), ifn (by decide), ifp (by decide)]
    by_cases h : f ≤ r
    · rw [ifn (by rw [nI_ltI (by omega) (by omega)]; omega)]; simp [stp, bI, h]
    · rw [ifp (by rw [nI_ltI (by omega) (by omega)]; omega)]; simp [stp, bI, h]
  · rw [fX5_lawStops, ifn (by decide), ifn (by decide), ifn (by decide), ifn (by decide), ifn (by decide), ifp (by decide)]
    by_cases h : o = 0
    · rw [ifp ((e0 o ho).mpr h)]; simp [stp, bI, h]
    · rw [ifn (fun q => h ((e0 o ho).mp q))]
      by_cases h2 : z = 0
      · rw [ifp ((e0 z hz).mpr h2)]; simp [stp, bI, h2]
      · rw [ifn (fun q => h2 ((e0 z hz).mp q))]; simp [stp, bI, Nat.pos_of_ne_zero h, Nat.pos_of_ne_zero h2]
theorem m_stops {k f o z r : Nat} (hk : k < 6) (hf : f < 2 ^ 20) (ho : o < 2 ^ 20) (hz : z < 2 ^ 20) (hr : r < 2 ^ 20) : fX6_stopsBy (nI k) (nI f) (nI o) (nI z) (nI r) = some (bI (stp k f o z r)) := by
  have e0 : ∀ n : Nat, n < 2 ^ 20 → (nI n ≤ 0 ↔ n = 0) := fun n hn => by
    rw [show (0 : Int32) = nI 0 from rfl, nI_leI (by omega) (by omega)]; omega
  rcases (show k = 0 ∨ k = 1 ∨ k = 2 ∨ k = 3 ∨ k = 4 ∨ k = 5 by omega) with rfl | rfl | rfl | rfl | rfl | rfl
  · rw [fX6_stopsBy, ifp (by decide)]
    by_cases h : r = 0
    · rw [ifp ((e0 r hr).mpr h)]; simp [stp, bI, h]
    · rw [ifn (fun q => h ((e0 r hr).mp q))]; simp [stp, bI, Nat.pos_of_ne_zero h]
  · rw [fX6_stopsBy, ifn (by decide), ifp (by decide)]
    by_cases h : f ≤ o
    · rw [ifn (by rw [nI_ltI (by omega) (by omega)]; omega)]; simp [stp, bI, h]
    · rw [ifp (by rw [nI_ltI (by omega) (by omega)]; omega)]; simp [stp, bI, h]
  · rw [fX6_stopsBy, ifn (by decide), ifn (by decide), ifp (by decide)]
    by_cases h : o = z + f
    · rw [ifp ((nI_sub_eq ho hz hf).mpr h)]; simp [stp, bI, h]
    · rw [ifn (fun q => h ((nI_sub_eq ho hz hf).mp q))]; simp [stp, bI, h]
  · rw [fX6_stopsBy, ifn (by decide), ifn (by decide), ifn (by decide), ifp (by decide)]
    by_cases h : o = z <;> simp [nI_eq (show o < 2 ^ 31 by omega) (show z < 2 ^ 31 by omega), stp, bI, h]
  · rw [fX6_stopsBy, ifn (by decide), ifn (by decide), ifn (by decide), ifn (by decide), ifp (by decide)]
    by_cases h : f ≤ r
    · rw [ifn (by rw [nI_ltI (by omega) (by omega)]; omega)]; simp [stp, bI, h]
    · rw [ifp (by rw [nI_ltI (by omega) (by omega)]; omega)]; simp [stp, bI, h]
  · rw [fX6_stopsBy, ifn (by decide), ifn (by decide), ifn (by decide), ifn (by decide), ifn (by decide)]
    by_cases h : o = 0
    · rw [ifp ((e0 o ho).mpr h)]; simp [stp, bI, h]
    · rw [ifn (fun q => h ((e0 o ho).mp q))]
      by_cases h2 : z = 0
      · rw [ifp ((e0 z hz).mpr h2)]; simp [stp, bI, h2]
      · rw [ifn (fun q => h2 ((e0 z hz).mp q))]; simp [stp, bI, Nat.pos_of_ne_zero h, Nat.pos_of_ne_zero h2]
/-- the reference's 'ends' -/
theorem m_ends {τ : Mm} {s : Nat → Nat} (h : MO τ 2 s) (hs : Vs s) {k o z r : Nat} (hk : k < 6) (ho : o < 2 ^ 19) (hz : z < 2 ^ 19) (hr : r < 2 ^ 19) : fX6_endsBy (nI k) (nI o) (nI z) (nI r) τ = some (bI (decide (s 0 ≤ o + z) || stp k (s 4) o z r)) := by
  obtain ⟨h0, h1, h2, h3, h4, h5, h6⟩ := h
  obtain ⟨u0, u1, u2, u3, u4, u5, u6, u7, u8, u9⟩ := hs
  rw [fX6_endsBy, ifp (by decide), show (0 : Int32).toNatClampNeg = 0 from rfl, h0, nI_add]
  by_cases h : s 0 ≤ o + z
  · rw [ifp (by rw [nI_leI (by omega) (by omega)]; exact h)]
    simp [h, bI]
  · rw [ifn (by rw [nI_leI (by omega) (by omega)]; exact h), ifp (by decide), show (4 : Int32).toNatClampNeg = 4 from rfl, h4, m_stops hk (by omega) (by omega) (by omega) (by omega), ob]
    cases stp k (s 4) o z r <;> simp [bI, h]
theorem nI_m5 {L : Nat} (h : L ≤ 10) : (nI L - 5).toInt = (L : Int) - 5 := by
  rw [show (5 : Int32) = nI 5 from rfl, pk_sub_toInt (by omega) (by omega)]; rfl
theorem nI_of_toInt {x : Int32} {n : Nat} (hn : n < 2 ^ 31) (h : x.toInt = n) : x = nI n := by
  rw [fa_eq, nI_toInt hn]; exact h
/-- how likely the next child is of sort 1: the class -/
theorem x_chance {c L n r : Nat} (hc1 : 1 ≤ c) (hc : c ≤ 11) (hL : L ≤ 10) (hn : n < 2 ^ 20) (hr : r < 2 ^ 20) : fX5_chanceOfOne (nI c) (nI L - 5) (nI n) (nI r) = some (nI (twf c L n r)) := by
  have t12 : (12 : Int32).toInt = 12 := rfl
  have t0 : (0 : Int32).toInt = 0 := rfl
  have tc : (nI c).toInt = c := nI_toInt (by omega)
  have tL := nI_m5 hL
  by_cases h0 : n = 0
  · subst h0
    rw [fX5_chanceOfOne, ifp (show nI 0 = 0 from rfl)]
    simp [twf]
  · have e0 : ¬ nI n = 0 := nI_ne0 (by omega) (by omega)
    by_cases h1 : r = 0
    · subst h1
      have hs : (nI c - (nI L - 5)).toInt = (c : Int) - ((L : Int) - 5) := by rw [fb_subI (by omega) (by omega), tc, tL]
      rw [fX5_chanceOfOne, ifn e0, ifp (by decide)]
      congr 1
      apply nI_of_toInt (by simp [twf, h0]; omega)
      simp only [fa_lt, hs, t12, t0]
      simp only [twf, h0, if_false, Nat.lt_irrefl]
      split <;> split <;> simp_all <;> omega
    · have hs : (nI c + (nI L - 5)).toInt = (c : Int) + ((L : Int) - 5) := by rw [fb_addI (by omega) (by omega), tc, tL]
      have e1 : ¬ nI r ≤ 0 := nI_nle (by omega) (by omega)
      rw [fX5_chanceOfOne, ifn e0, ifn e1]
      congr 1
      apply nI_of_toInt (by simp [twf, h0, Nat.pos_of_ne_zero h1]; omega)
      simp only [fa_lt, hs, t12, t0]
      simp only [twf, h0, if_false, Nat.pos_of_ne_zero h1, if_true]
      split <;> split <;> simp_all <;> omega
