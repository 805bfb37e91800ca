/-! lots -/
def sd (x : Int32) : Int32 := x * 1664525 + 1013904223
def dr (x : Int32) : Int32 := ((x &&& 2147483647) / 256) - ((x &&& 2147483647) / 256) / 12 * 12
theorem m_drawn (τ : Mm) : fX6_drawn 12 τ = some (dr (sd (gI τ 0 28)), pI τ 0 28 (sd (gI τ 0 28))) := by
  have e : gI (pI τ 0 28 (gI τ 0 28 * 1664525 + 1013904223)) 0 28 = gI τ 0 28 * 1664525 + 1013904223 := by rw [gI_pI, ifp ⟨rfl, rfl⟩]
  rw [fX6_drawn, ifp (by decide), e]
  rfl
theorem x_165 {σ : Mm} {K9 : Int32 → Int32 → Int32 → Int32 → Int32 → Option Int32} {v1 v3 x v5 v6 : Int32} {o n : Nat} (h : o ≤ n) : fX5_countLots_165 σ K9 v1 v3 x v5 v6 (nI o) (nI n) = K9 v1 v3 x (v5 + (if v3 = 1 then nI o else nI (n - o))) (v6 + 1) := by
  rw [fX5_countLots_165]
  by_cases q : v3 = 1
  · rw [ifp q, ifp q, fX5_countLots_182]
  · rw [ifn q, ifn q, fX5_countLots_182, pk_sub h]
section LOTS
variable {σ : Mm} {s : Nat → Nat}
theorem x_lotStep (hs : Vs s) (hTO : TO σ 1 s) {K9 : Int32 → Int32 → Int32 → Int32 → Int32 → Option Int32} {N : Nat} {v1 v3 x v5 v6 : Int32} {o r n : Nat} (hn : n < s 0) (ho : o ≤ n) (hr : r ≤ o) (b : Nat) (hb : b = if nI (twf (s 1) (s 2) n r) ≤ dr (sd x) then 0 else 1) :
    fX5_countLots_27 σ K9 (N + 1) v1 v3 x v5 v6 (nI o) (nI r) (nI n) 0 = fX5_countLots_27 σ K9 N v1 v3 (sd x) v5 v6 (nI (o + b)) (nI (if b = 0 then 0 else r + 1)) (nI (n + 1)) (bI (stp (s 3) (s 4) (o + b) (n + 1 - (o + b)) (if b = 0 then 0 else r + 1))) := by
  obtain ⟨u0, u1, u2, u3, u4, u5, u6, u7, u8, u9⟩ := hs
  obtain ⟨x1, x2, x3, x4, x5, x6, x7⟩ := hTO
  have e0 : fX5_countLots_27 σ K9 (N + 1) v1 v3 x v5 v6 (nI o) (nI r) (nI n) 0 = (if nI (twf (s 1) (s 2) n r) ≤ dr (sd x) then fX5_countLots_99 σ K9 (fun wv1 wv3 wv4 wv5 wv6 wv7 wv8 wv9 wv10 => fX5_countLots_27 σ K9 N wv1 wv3 wv4 wv5 wv6 wv7 wv8 wv9 wv10) v1 v3 (sd x) v5 v6 (nI o) (nI r) (nI n) (0 : Int32) else fX5_countLots_99 σ K9 (fun wv1 wv3 wv4 wv5 wv6 wv7 wv8 wv9 wv10 => fX5_countLots_27 σ K9 N wv1 wv3 wv4 wv5 wv6 wv7 wv8 wv9 wv10) v1 v3 (sd x) v5 v6 (nI o) (nI r) (nI n) (1 : Int32)) := by
    rw [fX5_countLots_27, x1, ifn (by rw [nI_leI (by omega) (by omega)]; omega), ifp rfl, x2, x3, x_chance u2 u3 u4 (by omega) (by omega), ob]
    rfl
  rw [e0]
  by_cases q : nI (twf (s 1) (s 2) n r) ≤ dr (sd x)
  · rw [ifp q] at hb
    subst hb
    rw [ifp q, fX5_countLots_99, ifp rfl, fX5_countLots_116, ifp rfl, fX5_countLots_132, x4, x5, Int32.add_zero, nI_1, pk_sub (show o ≤ n + 1 by omega), ifp rfl, Nat.add_zero]
    have hst := x_stops (k := s 3) (f := s 4) (o := o) (z := n + 1 - o) (r := 0) u5 (by omega) (by omega) (by omega) (by omega)
    have hst' : fX5_lawStops (nI (s 3)) (nI (s 4)) (nI o) (nI (n + 1 - o)) 0 = _ := hst
    rw [hst', ob]
    rfl
  · rw [ifn q] at hb
    subst hb
    rw [ifn q, fX5_countLots_99, ifn (by decide), fX5_countLots_116, ifn (by decide), fX5_countLots_132, x4, x5, nI_1, nI_1, nI_1, pk_sub (show o + 1 ≤ n + 1 by omega), ifn (show ¬ 1 = 0 by omega), x_stops u5 (by omega) (by omega) (by omega) (by omega), ob]
theorem m_lotStep (hs : Vs s) {τ : Mm} (hM : MO τ 2 s) {K49 : Int32 → Int32 → Int32 → Int32 → Mm → Option (Int32 × Mm)} {N : Nat} {v1 v3 x v5 v6 ah : Int32} {o r n : Nat} (hn : n < s 0) (ho : o ≤ n) (hr : r ≤ o) (ha1 : ah = 1 ↔ n ≠ 0 ∧ 0 < r) (ha0 : ah = 0 ↔ n ≠ 0 ∧ r = 0) (hx : gI τ 0 28 = x) (b : Nat) (hb : b = if nI (twf (s 1) (s 2) n r) ≤ dr (sd x) then 0 else 1) :
    fX6_lots_68 K49 (N + 1) v1 v3 v5 v6 (nI o) (nI (n - o)) (nI r) ah τ = (if (decide (s 0 ≤ n + 1) || stp (s 3) (s 4) (o + b) (n + 1 - (o + b)) (if b = 0 then 0 else r + 1)) = true then K49 v1 v3 (v5 + (if v3 = 1 then nI (o + b) else nI (n + 1 - (o + b)))) (v6 + 1) (pI τ 0 28 (sd x)) else fX6_lots_68 K49 N v1 v3 v5 v6 (nI (o + b)) (nI (n + 1 - (o + b))) (nI (if b = 0 then 0 else r + 1)) (nI b) (pI τ 0 28 (sd x))) := by
  have u5 : s 3 < 6 := hs.2.2.2.2.2.1
  have hm10 : s 0 ≤ 10 := hs.2.1
  have hM1 : MO (pI τ 0 28 (sd x)) 2 s := MO_same hM (fun b => by rw [gI_pI, ifn (by omega)])
  have g : ∀ (o' z' r' : Nat) (bb : Int32), o' + z' = n + 1 → r' ≤ o' → fX6_lots_120 K49 (fun wv1 wv3 wv5 wv6 wv7 wv8 wv9 wv10 wσ => fX6_lots_68 K49 N wv1 wv3 wv5 wv6 wv7 wv8 wv9 wv10 wσ) v1 v3 v5 v6 (nI o') (nI z') bb (nI r') (pI τ 0 28 (sd x)) = (if (decide (s 0 ≤ n + 1) || stp (s 3) (s 4) o' z' r') = true then K49 v1 v3 (v5 + (if v3 = 1 then nI o' else nI z')) (v6 + 1) (pI τ 0 28 (sd x)) else fX6_lots_68 K49 N v1 v3 v5 v6 (nI o') (nI z') (nI r') bb (pI τ 0 28 (sd x))) := by
    intro o' z' r' bb h1 h2
    rw [fX6_lots_120, ifp (by decide), show (3 : Int32).toNatClampNeg = 3 from rfl, hM1.2.2.2.1, m_ends hM1 hs u5 (by omega) (by omega) (by omega), ob, h1]
    cases hc : (decide (s 0 ≤ n + 1) || stp (s 3) (s 4) o' z' r') with
    | true =>
      rw [ifn (show ¬ bI true = 0 by decide), ifp rfl]
      by_cases q : v3 = 1
      · rw [ifp q, ifp q, fX6_lots_155]
      · rw [ifn q, ifn q, fX6_lots_155]
    | false => rw [ifp (show bI false = 0 from rfl), ifn (by decide)]
  rw [fX6_lots_68, m_drawn, ob, hx, m_tw hM1 hs n r ah ha1 ha0, ob]
  by_cases q : nI (twf (s 1) (s 2) n r) ≤ dr (sd x)
  · rw [ifp q] at hb
    subst hb
    have g1 := g o (n + 1 - o) 0 0 (by omega) (by omega)
    have e1 : nI (n - o) + ((1 : Int32) - 0) = nI (n + 1 - o) := by
      rw [show (1 : Int32) - 0 = nI 1 from rfl, nI_add]
      congr 1
      omega
    rw [ifp q, fX6_lots_88, ifn (by decide), Int32.add_zero, e1, ifp rfl, Nat.add_zero]
    exact g1
  · rw [ifn q] at hb
    subst hb
    have g1 := g (o + 1) (n + 1 - (o + 1)) (r + 1) 1 (by omega) (by omega)
    have e1 : nI (n - o) + ((1 : Int32) - 1) = nI (n + 1 - (o + 1)) := by
      rw [show (1 : Int32) - 1 = nI 0 from rfl, nI_add]
      congr 1
      omega
    rw [ifn q, fX6_lots_88, ifp rfl, e1, nI_1, nI_1, ifn (show ¬ 1 = 0 by omega)]
    exact g1
theorem lots_in (hs : Vs s) (hTO : TO σ 1 s) {K9 : Int32 → Int32 → Int32 → Int32 → Int32 → Option Int32} {K49 : Int32 → Int32 → Int32 → Int32 → Mm → Option (Int32 × Mm)} {v1 v3 v5 v6 : Int32} : ∀ (d N N' n o r : Nat) (x ah : Int32) (τ : Mm), n + d + 1 = s 0 → d + 1 < N → d < N' → o ≤ n → r ≤ o → MO τ 2 s → gI τ 0 28 = x → (ah = 1 ↔ n ≠ 0 ∧ 0 < r) → (ah = 0 ↔ n ≠ 0 ∧ r = 0) →
    ∃ (x' y : Int32) (τ' : Mm), fX5_countLots_27 σ K9 N v1 v3 x v5 v6 (nI o) (nI r) (nI n) 0 = K9 v1 v3 x' (v5 + y) (v6 + 1) ∧ fX6_lots_68 K49 N' v1 v3 v5 v6 (nI o) (nI (n - o)) (nI r) ah τ = K49 v1 v3 (v5 + y) (v6 + 1) τ' ∧ gI τ' 0 28 = x' ∧ SM τ τ' := by
  have hm10 : s 0 ≤ 10 := hs.2.1
  intro d
  induction d with
  | zero =>
    intro N N' n o r x ah τ hd hN hN' ho hr hM hx ha1 ha0
    obtain ⟨N, rfl⟩ : ∃ k, N = k + 1 + 1 := ⟨N - 2, by omega⟩
    obtain ⟨N', rfl⟩ : ∃ k, N' = k + 1 := ⟨N' - 1, by omega⟩
    obtain ⟨b, hb⟩ : ∃ b : Nat, b = if nI (twf (s 1) (s 2) n r) ≤ dr (sd x) then 0 else 1 := ⟨_, rfl⟩
    have hb1 : b ≤ 1 := by rw [hb]; split <;> omega
    refine ⟨sd x, (if v3 = 1 then nI (o + b) else nI (n + 1 - (o + b))), pI τ 0 28 (sd x), ?_, ?_, by rw [gI_pI, ifp ⟨rfl, rfl⟩], SM_pI SM_rf (by unfold ir; omega)⟩
    · rw [x_lotStep hs hTO (by omega) ho hr b hb, fX5_countLots_27, hTO.1, ifp (nI_le (by omega) (by omega)), x_165 (by omega)]
    · rw [m_lotStep hs hM (by omega) ho hr ha1 ha0 hx b hb, ifp (by rw [decide_eq_true (show s 0 ≤ n + 1 by omega), Bool.true_or])]
  | succ d ih =>
    intro N N' n o r x ah τ hd hN hN' ho hr hM hx ha1 ha0
    obtain ⟨N, rfl⟩ : ∃ k, N = k + 1 := ⟨N - 1, by omega⟩
    obtain ⟨N', rfl⟩ : ∃ k, N' = k + 1 := ⟨N' - 1, by omega⟩
    obtain ⟨b, hb⟩ : ∃ b : Nat, b = if nI (twf (s 1) (s 2) n r) ≤ dr (sd x) then 0 else 1 := ⟨_, rfl⟩
    have hb1 : b ≤ 1 := by rw [hb]; split <;> omega
    have e1 := x_lotStep (K9 := K9) (N := N) (v1 := v1) (v3 := v3) (v5 := v5) (v6 := v6) hs hTO (by omega) ho hr b hb
    have e2 := m_lotStep (K49 := K49) (N := N') (v1 := v1) (v3 := v3) (v5 := v5) (v6 := v6) hs hM (by omega) ho hr ha1 ha0 hx b hb
    have hdm : decide (s 0 ≤ n + 1) = false := decide_eq_false (by omega)
    rw [hdm, Bool.false_or] at e2
    have sm0 : SM τ (pI τ 0 28 (sd x)) := SM_pI SM_rf (by unfold ir; omega)
    cases hst : stp (s 3) (s 4) (o + b) (n + 1 - (o + b)) (if b = 0 then 0 else r + 1) with
    | true =>
      rw [hst] at e1 e2
      obtain ⟨N, rfl⟩ : ∃ k, N = k + 1 := ⟨N - 1, by omega⟩
      refine ⟨sd x, (if v3 = 1 then nI (o + b) else nI (n + 1 - (o + b))), pI τ 0 28 (sd x), ?_, by rw [e2, ifp rfl], by rw [gI_pI, ifp ⟨rfl, rfl⟩], sm0⟩
      rw [e1, fX5_countLots_27, hTO.1, ifn (by rw [nI_leI (by omega) (by omega)]; omega), ifn (show ¬ bI true = 0 by decide), x_165 (by omega)]
    | false =>
      rw [hst] at e1 e2
      rw [ifn (by decide)] at e2
      have hr' : (if b = 0 then 0 else r + 1) ≤ o + b := by
        by_cases q : b = 0
        · rw [ifp q]; omega
        · rw [ifn q]; omega
      have a1 : nI b = 1 ↔ n + 1 ≠ 0 ∧ 0 < (if b = 0 then 0 else r + 1) := by
        rcases (show b = 0 ∨ b = 1 by omega) with q | q
        · rw [q, ifp rfl]; exact ⟨fun w => absurd w (by decide), fun w => by omega⟩
        · rw [q, ifn (by omega)]; exact ⟨fun _ => ⟨by omega, by omega⟩, fun _ => rfl⟩
      have a0 : nI b = 0 ↔ n + 1 ≠ 0 ∧ (if b = 0 then 0 else r + 1) = 0 := by
        rcases (show b = 0 ∨ b = 1 by omega) with q | q
        · rw [q, ifp rfl]; exact ⟨fun _ => ⟨by omega, rfl⟩, fun _ => rfl⟩
        · rw [q, ifn (by omega)]; exact ⟨fun w => absurd w (by decide), fun w => by omega⟩
      obtain ⟨x', y, τ', c1, c2, c3, c4⟩ := ih N N' (n + 1) (o + b) (if b = 0 then 0 else r + 1) (sd x) (nI b) (pI τ 0 28 (sd x)) (by omega) (by omega) (by omega) (by omega) hr' (SM_MO (Or.inl rfl) sm0 hM) (by rw [gI_pI, ifp ⟨rfl, rfl⟩]) a1 a0
      exact ⟨x', y, τ', e1.trans c1, e2.trans c2, c3, SM_tr sm0 c4⟩
theorem lots_out (hs : Vs s) (hTO : TO σ 1 s) {a : Nat} (ha : a ≤ 40) {v3 : Int32} : ∀ (d N i : Nat) (x t : Int32) (τ : Mm), i + d = a → d < N → MO τ 2 s → gI τ 0 28 = x →
    ∃ (r : Int32) (τ' : Mm), fX5_countLots_9 σ N (nI a) v3 x t (nI i) = some r ∧ fX6_lots_49 N (nI a) v3 t (nI i) τ = some (r, τ') ∧ SM τ τ' := by
  intro d
  induction d with
  | zero =>
    intro N i x t τ hd hN hM hx
    obtain ⟨N, rfl⟩ : ∃ k, N = k + 1 := ⟨N - 1, by omega⟩
    refine ⟨t, τ, ?_, ?_, SM_rf⟩
    · rw [fX5_countLots_9, ifp (nI_le (by omega) (by omega))]
    · rw [fX6_lots_49, ifp (nI_le (by omega) (by omega))]
  | succ d ih =>
    intro N i x t τ hd hN hM hx
    obtain ⟨N, rfl⟩ : ∃ k, N = k + 1 := ⟨N - 1, by omega⟩
    have hm1 := hs.1
    have hm10 := hs.2.1
    obtain ⟨x', y, τ1, c1, c2, c3, c4⟩ := lots_in hs hTO (K9 := fun wv1 wv3 wv4 wv5 wv6 => fX5_countLots_9 σ N wv1 wv3 wv4 wv5 wv6) (K49 := fun wv1 wv3 wv5 wv6 wσ => fX6_lots_49 N wv1 wv3 wv5 wv6 wσ) (v1 := nI a) (v3 := v3) (v5 := t) (v6 := nI i) (s 0 - 1) 1000 1000 0 0 0 x (-9) τ (by omega) (by omega) (by omega) (by omega) (by omega) hM hx ⟨fun q => absurd q (by decide), fun q => absurd rfl q.1⟩ ⟨fun q => absurd q (by decide), fun q => absurd rfl q.1⟩
    obtain ⟨r, τ', d1, d2, d3⟩ := ih N (i + 1) x' (t + y) τ1 (by omega) (by omega) (SM_MO (Or.inl rfl) c4 hM) c3
    have c1' : fX5_countLots_27 σ (fun wv1 wv3 wv4 wv5 wv6 => fX5_countLots_9 σ N wv1 wv3 wv4 wv5 wv6) 1000 (nI a) v3 x t (nI i) 0 0 0 0 = _ := c1
    have c2' : fX6_lots_68 (fun wv1 wv3 wv5 wv6 wσ => fX6_lots_49 N wv1 wv3 wv5 wv6 wσ) 1000 (nI a) v3 t (nI i) 0 0 0 (-9) τ = _ := c2
    refine ⟨r, τ', ?_, ?_, SM_tr c4 d3⟩
    · rw [fX5_countLots_9, ifn (by rw [nI_leI (by omega) (by omega)]; omega), c1', nI_1]
      exact d1
    · rw [fX6_lots_49, ifn (by rw [nI_leI (by omega) (by omega)]; omega), c2', nI_1]
      exact d2
end LOTS
theorem G20 : lawG_20 Rel := by
  intro a0 a1 a2 σ τ hR
  have hRel := hR
  obtain ⟨s, g, im, tx, tn, rn, rb, rf, hV, hX, hT, hM⟩ := hR
  by_cases h1 : (1 : Int32) ≤ a0
  · by_cases h2 : a0 ≤ (40 : Int32)
    · obtain ⟨n, hn, rfl⟩ := nI_le_of (M := 40) (x := a0) 40 rfl (by rw [fa_lt]; rw [fa_le] at h1; have e1 : (1 : Int32).toInt = 1 := rfl; have e2 : (0 : Int32).toInt = 0 := rfl; omega) h2
      rcases two a2 with ⟨q1, q2⟩ | ⟨p, hp, rfl⟩
      · refine ⟨-2, _, _, ?_, ?_, Rel_ref 1 (by omega) hRel⟩
        · rw [fX5_lots, ifp h1, ifp h2, x_nsb q1, ob, ifn (by decide), x_ref2]; rfl
        · rw [fX6_lots, m_within, ob, ifn (nle h1), ifn (nle h2), ifp rfl, m_ii0 q2, ob, ifp rfl, fX6_lots_26, ifn (by decide), m_ref2]; rfl
      · have i2 : fX6_isIn (nI p) 2 = some 1 := m_iio (n := 2) (by omega) (by omega)
        have sm0 : SM τ (pI τ 0 28 a1) := SM_pI SM_rf (by unfold ir; omega)
        obtain ⟨r, τ', c1, c2, c3⟩ := lots_out hV.1 hX.1 hn (v3 := nI p) n 1000 0 a1 0 (pI τ 0 28 a1) (by omega) (by omega) (SM_MO (Or.inl rfl) sm0 hM.1) (by rw [gI_pI, ifp ⟨rfl, rfl⟩])
        have c1' : fX5_countLots_9 σ 1000 (nI n) (nI p) a1 0 0 = some r := c1
        have c2' : fX6_lots_49 1000 (nI n) (nI p) 0 0 (pI τ 0 28 a1) = some (r, τ') := c2
        refine ⟨r, σ, τ', ?_, ?_, Rel_of hV hX hT (SM_RM (SM_tr sm0 c3) hM)⟩
        · rw [fX5_lots, ifp h1, ifp h2, x_nso hp, ob, ifp rfl, fX5_countLots, c1', ob]
        · rw [fX6_lots, m_within, ob, ifn (nle h1), ifn (nle h2), ifp rfl, i2, ob, ifn (by decide), fX6_lots_26, ifp rfl, c2']
    · refine ⟨-6, _, _, ?_, ?_, Rel_ref 5 (by omega) hRel⟩
      · rw [fX5_lots, ifp h1, ifn h2, x_ref6]; rfl
      · rw [fX6_lots, m_within, ob, ifn (nle h1), ifp (lt_of h2), ifn (by decide), fX6_lots_26, ifn (by decide), m_ref6]; rfl
  · refine ⟨-4, _, _, ?_, ?_, Rel_ref 3 (by omega) hRel⟩
    · rw [fX5_lots, ifn h1, x_ref4]; rfl
    · rw [fX6_lots, m_within, ob, ifp (lt_of h1), ifn (by decide), fX6_lots_26, ifn (by decide), m_ref4]; rfl
theorem lawG_Rel : lawG Rel := ⟨G0, G1, G2, G3, G4, G5, G6, G7, G8, G9, G10, G11, G12, G13, G14, G15, G16, G17, G18, G19, G20, G21, G22, G23⟩
