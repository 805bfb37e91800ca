/-! a tally told anew, and its sums -/
theorem x_c111 {i : Nat} {v : Int64} {σ : Mm} : fX0_add i 1 1 1 v σ = some (pL σ (i + 1) 133 (gL σ (i + 1) 133 + v)) := x_cadd (e := 1) (o := 1) (r := 1) (by omega) (by omega) (by omega)
theorem x_c000 {i : Nat} {v : Int64} {σ : Mm} : fX0_add i 0 0 0 v σ = some (pL σ (i + 1) 0 (gL σ (i + 1) 0 + v)) := x_cadd (e := 0) (o := 0) (r := 0) (by omega) (by omega) (by omega)
def h0 (c : Nat) : Nat → Nat := up (up (fun _ => 0) 133 c) 0 (12 - c)
theorem x_begin {c : Nat} (hc : c ≤ 11) {σ : Mm} (hW : WK σ) : ∃ σ', fX4_begin (nI c) σ = some σ' ∧ σ'.1 = σ.1 ∧ gH σ' = gH σ ∧ gN σ' = gN σ ∧ Cel σ' (gH σ) (h0 c) ∧ Cel σ' (gN σ) (fun _ => 0) ∧ (∀ a b, a ≠ 37 → a ≠ 39 → gL σ' a b = gL σ a b) := by
  have hW' : (gH σ = 36 ∧ gN σ = 38) ∨ (gH σ = 38 ∧ gN σ = 36) := hW
  have cH : isCel (gH σ) = true := by rw [cel_iff]; omega
  have cN : isCel (gN σ) = true := by rw [cel_iff]; omega
  obtain ⟨σ1, a1, a2, a3, a4, a5, a6⟩ := x_clear (gH σ) σ
  obtain ⟨σ2, b1, b2, b3, b4, b5, b6⟩ := x_clear (gN σ) σ1
  have hc1 : Cel σ2 (gH σ) (fun _ => 0) := fun j hj => by rw [b6 _ _ (by omega), a5 j hj]; rfl
  have hc2 : Cel (pL σ2 (gH σ + 1) 133 (gL σ2 (gH σ + 1) 133 + lN c)) (gH σ) (up (fun _ => 0) 133 c) := by
    refine Cel_up hc1 (fun j => ?_)
    rw [gL_pL]
    by_cases q : j = 133
    · rw [ifp ⟨rfl, q⟩, ifp q]
    · rw [ifn (fun w => q w.2), ifn q]
  have g1 : gH σ2 = gH σ := b3.trans a3
  have g2 : gN σ1 = gN σ := a4
  refine ⟨pL (pL σ2 (gH σ + 1) 133 (gL σ2 (gH σ + 1) 133 + lN c)) (gH σ + 1) 0 (gL (pL σ2 (gH σ + 1) 133 (gL σ2 (gH σ + 1) 133 + lN c)) (gH σ + 1) 0 + lN (12 - c)), ?_, b2.trans a2, g1, b4.trans a4, ?_, ?_, fun a b h1 h2 => ?_⟩
  · rw [fX4_begin, ifp cH, a1, ob, g2, ifp cN, b1, ob, g1, ifp cH, x_c111, ob]
    show (if isCel (gH σ2) = true then _ else none) = _
    rw [g1, ifp cH]
    have e : gH (pL σ2 (gH σ + 1) 133 (gL σ2 (gH σ + 1) 133 + (nI c).toInt64)) = gH σ := g1
    rw [e, x_c000, ob, nI_l (by omega), show (12 : Int32) = nI 12 from rfl, pk_sub (by omega), nI_l (by omega)]
  · refine Cel_up hc2 (fun j => ?_)
    rw [gL_pL]
    by_cases q : j = 0
    · rw [ifp ⟨rfl, q⟩, ifp q]
    · rw [ifn (fun w => q w.2), ifn q]
  · intro j hj
    rw [gL_pL, ifn (by omega), gL_pL, ifn (by omega), b5 j hj]
    rfl
  · rw [gL_pL, ifn (by omega), gL_pL, ifn (by omega), b6 a b (by omega), a6 a b (by omega)]
theorem Ph_0 {k f m c L : Nat} : Ph k f m c L 1 (h0 c) (fun _ => 0) (fun _ => 0) := by
  intro μ
  have h1 := sm_up (y := fun _ => 0) (w := fun j => vv k f m c L μ (10 - 1) 1 (j / 121) (j / 11 % 11) (j % 11)) (a := c) (show 133 < 242 by omega)
  have h2 := sm_up (y := up (fun _ => 0) 133 c) (w := fun j => vv k f m c L μ (10 - 1) 1 (j / 121) (j / 11 % 11) (j % 11)) (a := 12 - c) (show 0 < 242 by omega)
  have h3 : sm (fun j => up (fun _ => 0) 133 c j * vv k f m c L μ (10 - 1) 1 (j / 121) (j / 11 % 11) (j % 11)) 242 = sm (fun j => 0 * vv k f m c L μ (10 - 1) 1 (j / 121) (j / 11 % 11) (j % 11)) 242 + c * vv k f m c L μ 9 1 1 1 1 := h1
  have h4 : sm (fun j => h0 c j * vv k f m c L μ (10 - 1) 1 (j / 121) (j / 11 % 11) (j % 11)) 242 = sm (fun j => up (fun _ => 0) 133 c j * vv k f m c L μ (10 - 1) 1 (j / 121) (j / 11 % 11) (j % 11)) 242 + (12 - c) * vv k f m c L μ 9 1 0 0 0 := h2
  rw [h4, h3, sm_z (F := fun j => 0 * μ (j / 121) (j / 11 % 11) (j % 11)) 242 (fun j _ => Nat.zero_mul _), sm_z (F := fun j => 0 * vv k f m c L μ (9 - 1) (1 + 1) (j / 121) (j / 11 % 11) (j % 11)) 242 (fun j _ => Nat.zero_mul _), sm_z (F := fun j => 0 * vv k f m c L μ (10 - 1) 1 (j / 121) (j / 11 % 11) (j % 11)) 242 (fun j _ => Nat.zero_mul _)]
  unfold tot
  omega
/-- what a tally told anew leaves -/
def TD (σ σ' : Mm) (i : Nat) : Prop := (∀ a b, a ≠ i → gI σ' a b = gI σ a b) ∧ ∀ a b, a ≠ i + 2 → a ≠ 37 → a ≠ 39 → gL σ' a b = gL σ a b
theorem x_43 {i k f m c L : Nat} (hi : isTal i = true) (hk : k < 6) (hf : f ≤ 9) (hm1 : 1 ≤ m) (hm : m ≤ 10) (hc1 : 1 ≤ c) (hc : c ≤ 11) (hLL : L ≤ 10) {σ : Mm} (hW : WK σ) :
    ∃ (σ' : Mm) (ee : Nat → Nat), fX1_retell_43 i (nI k) (nI f) (nI m) (nI c) (nI L - 5) σ = some σ' ∧ TD σ σ' i ∧ WK σ' ∧ PR σ' i k f m c L ∧ Cel σ' (i + 1) ee ∧ talOK k f m c L ee := by
  have hi' := tal_iff.mp hi
  obtain ⟨σ1, a1, a2, a3, a4, a5, a6⟩ := x_clear (i + 1) (pI (pI (pI (pI (pI σ i 2 (nI k)) i 3 (nI f)) i 4 (nI m)) i 5 (nI c)) i 6 (nI L - 5))
  have hP0 : PR (pI (pI (pI (pI (pI σ i 2 (nI k)) i 3 (nI f)) i 4 (nI m)) i 5 (nI c)) i 6 (nI L - 5)) i k f m c L := by
    unfold PR
    simp [gI_pI]
  have hP1 := PR_1 a2 hP0
  have hW1 : WK σ1 := by
    show (gH σ1 = 36 ∧ gN σ1 = 38) ∨ (gH σ1 = 38 ∧ gN σ1 = 36)
    rw [a3, a4]
    exact hW
  obtain ⟨σ2, b1, b2, b3, b4, b5, b6, b7⟩ := x_begin (c := c) hc hW1
  have hW2 : WK σ2 := by
    show (gH σ2 = 36 ∧ gN σ2 = 38) ∨ (gH σ2 = 38 ∧ gN σ2 = 36)
    rw [b3, b4]
    exact hW1
  have hLv : Lv σ2 i k f m c L 1 (h0 c) (h0 c) (fun _ => 0) (fun _ => 0) := by
    refine ⟨hW2, by rw [b3]; exact b5, by rw [b4]; exact b6, fun j hj => ?_, fun j _ q => absurd rfl q, fun _ _ _ => rfl, Ph_0⟩
    rw [b7 _ _ (by omega) (by omega), a5 j hj]
    rfl
  have hS : Sup (h0 c) 1 := by
    intro j hj hne
    unfold h0 up at hne
    by_cases q1 : j = 0
    · subst q1; decide
    · by_cases q2 : j = 133
      · subst q2; decide
      · rw [ifn q1, ifn q2] at hne
        exact absurd rfl hne
  obtain ⟨σ', ee, c1, c2, c3, c4, c5⟩ := x_91 hi hk hf hm hc1 hc hLL hm1 m 1 1000 σ2 (h0 c) (fun _ => 0) (fun _ => 0) (by omega) (by omega) (by omega) (PR_1 b2 hP1) hLv hS (fun _ _ => rfl) (fun q => by omega)
  refine ⟨σ', ee, ?_, ⟨fun a b h => ?_, fun a b h1 h2 h3 => ?_⟩, c3, PR_1 (c2.1.trans b2) hP1, c4, c5⟩
  · have c1' : fX1_retell_91 i 1000 1 σ2 = some σ' := c1
    rw [fX1_retell_43, a1, ob, hP1.2.2.2.1, b1, ob, c1']
  · rw [gI_1 ((c2.1.trans b2).trans a2), gI_pI, ifn (by omega), gI_pI, ifn (by omega), gI_pI, ifn (by omega), gI_pI, ifn (by omega), gI_pI, ifn (by omega)]
  · rw [c2.2 a b h1 h2 h3, b7 a b h2 h3, a6 a b (by omega)]
    rfl
theorem CV_same {σ σ' : Mm} {t : Nat} (h1 : ∀ b, gI σ' t b = gI σ t b) (h2 : ∀ b, gL σ' (t + 2) b = gL σ (t + 2) b) (h : CV σ t) : CV σ' t := by
  unfold CV at h ⊢
  rw [h1 2, h1 3, h1 4, h1 5, h1 6]
  rcases h with h | ⟨k, f, m, c, L, ee, q1, q2, q3, q4, q5, q6, q7, q8⟩
  · exact Or.inl h
  · exact Or.inr ⟨k, f, m, c, L, ee, q1, q2, q3, q4, q5, q6, fun j hj => by rw [h2 j]; exact q7 j hj, q8⟩
theorem nI_m5_inj {L L' : Nat} (h : L ≤ 10) (h' : L' ≤ 10) (e : nI L - 5 = nI L' - 5) : L = L' := by
  rw [fa_eq, nI_m5 h, nI_m5 h'] at e
  omega
theorem x_retell {i k f m c L : Nat} (hi : isTal i = true) (hk : k < 6) (hf : f ≤ 9) (hm1 : 1 ≤ m) (hm : m ≤ 10) (hc1 : 1 ≤ c) (hc : c ≤ 11) (hLL : L ≤ 10) {σ : Mm} (hT : RT σ) :
    ∃ (σ' : Mm) (ee : Nat → Nat), fX1_retell i (nI k) (nI f) (nI m) (nI c) (nI L - 5) σ = some σ' ∧ TD σ σ' i ∧ RT σ' ∧ PR σ' i k f m c L ∧ Cel σ' (i + 1) ee ∧ talOK k f m c L ee := by
  have hi' := tal_iff.mp hi
  by_cases hall : PR σ i k f m c L
  · have hall' := hall
    obtain ⟨p1, p2, p3, p4, p5⟩ := hall
    have e0 : fX1_retell i (nI k) (nI f) (nI m) (nI c) (nI L - 5) σ = some σ := by
      rw [fX1_retell, ifp p1, ifp p2, ifp p3, ifp p4, ifp p5]
    rcases hT.1 i hi with h | ⟨k', f', m', c', L', ee, ⟨q1, q2, q3, q4, q5, q6, q7⟩, r1, r2, r3, r4, r5, r6, r7⟩
    · rw [p1] at h
      exfalso
      rw [fa_eq, nI_toInt (by omega), show (-1 : Int32).toInt = -1 from rfl] at h
      omega
    · rw [p1, nI_eq (by omega) (by omega)] at r1
      rw [p2, nI_eq (by omega) (by omega)] at r2
      rw [p3, nI_eq (by omega) (by omega)] at r3
      rw [p4, nI_eq (by omega) (by omega)] at r4
      have r5' := nI_m5_inj hLL q7 (p5.symm.trans r5)
      subst r1 r2 r3 r4 r5'
      exact ⟨σ, ee, e0, ⟨fun _ _ _ => rfl, fun _ _ _ _ _ => rfl⟩, hT, hall', r6, r7⟩
  · obtain ⟨σ', ee, a1, a2, a3, a4, a5, a6⟩ := x_43 hi hk hf hm1 hm hc1 hc hLL hT.2
    refine ⟨σ', ee, ?_, a2, ⟨fun t ht => ?_, a3⟩, a4, a5, a6⟩
    · rw [fX1_retell]
      by_cases p1 : gI σ i 2 = nI k
      · rw [ifp p1]
        by_cases p2 : gI σ i 3 = nI f
        · rw [ifp p2]
          by_cases p3 : gI σ i 4 = nI m
          · rw [ifp p3]
            by_cases p4 : gI σ i 5 = nI c
            · rw [ifp p4]
              by_cases p5 : gI σ i 6 = nI L - 5
              · exact absurd ⟨p1, p2, p3, p4, p5⟩ hall
              · rw [ifn p5, a1]
            · rw [ifn p4, a1]
          · rw [ifn p3, a1]
        · rw [ifn p2, a1]
      · rw [ifn p1, a1]
    · have ht' := tal_iff.mp ht
      by_cases e : t = i
      · subst e
        exact Or.inr ⟨k, f, m, c, L, ee, ⟨hk, hf, hm1, hm, hc1, hc, hLL⟩, a4.1, a4.2.1, a4.2.2.1, a4.2.2.2.1, a4.2.2.2.2, a5, a6⟩
      · exact CV_same (fun b => a2.1 t b e) (fun b => a2.2 _ b (by omega) (by omega) (by omega)) (hT.1 t ht)
/-! the measures -/
def xms (a b o z : Nat) : Nat := match a with
  | 0 => o + z
  | 1 => o
  | 2 => z
  | 3 => if o ≤ z then 0 else 1
  | 4 => if o = z then 1 else 0
  | 5 => if z ≤ o then 0 else 1
  | 6 => if o + z = 0 then 0 else o * (2520 / (o + z))
  | 7 => if o + z = b then 1 else 0
  | 8 => if o ≤ z then 0 else o + z
  | 9 => if o ≤ 1 then 0 else o
  | _ => if o = z + b then 1 else 0
theorem x_meas {a b o z : Nat} (ha : a ≤ 10) (hb : b ≤ 10) (ho : o ≤ 10) (hz : z ≤ 10) : fX1_measured (nI a) (nI b) (nI o) (nI z) = some (lN (xms a b o z)) := by
  have n0 : (0 : Int64) = lN 0 := rfl
  have n1 : (1 : Int64) = lN 1 := rfl
  rw [fX1_measured, nI_add, nI_l (by omega), nI_l (by omega), nI_l (by omega)]
  rcases (show a = 0 ∨ a = 1 ∨ a = 2 ∨ a = 3 ∨ a = 4 ∨ a = 5 ∨ a = 6 ∨ a = 7 ∨ a = 8 ∨ a = 9 ∨ a = 10 by omega) with rfl | rfl | rfl | rfl | rfl | rfl | rfl | rfl | rfl | rfl | rfl
  · rw [ifp (by decide)]; rfl
  · rw [ifn (by decide), ifp (by decide)]; rfl
  · rw [ifn (by decide), ifn (by decide), ifp (by decide)]; rfl
  · rw [ifn (by decide), ifn (by decide), ifn (by decide), ifp (by decide)]
    by_cases h : o ≤ z
    · rw [ifp (nI_le h (by omega))]; simp [xms, h]; rfl
    · rw [ifn (by rw [nI_leI (by omega) (by omega)]; exact h)]; simp [xms, h]; rfl
  · rw [ifn (by decide), ifn (by decide), ifn (by decide), ifn (by decide), ifp (by decide)]
    by_cases h : o = z
    · rw [ifp (by rw [h])]; simp [xms, h]; rfl
    · rw [ifn (by rw [nI_eq (by omega) (by omega)]; exact h)]; simp [xms, h]; rfl
  · rw [ifn (by decide), ifn (by decide), ifn (by decide), ifn (by decide), ifn (by decide), ifp (by decide)]
    by_cases h : z ≤ o
    · rw [ifp (nI_le h (by omega))]; simp [xms, h]; rfl
    · rw [ifn (by rw [nI_leI (by omega) (by omega)]; exact h)]; simp [xms, h]; rfl
  · rw [ifn (by decide), ifn (by decide), ifn (by decide), ifn (by decide), ifn (by decide), ifn (by decide), ifp (by decide)]
    by_cases h : o + z = 0
    · rw [ifp (by rw [h]; rfl)]; simp [xms, h]; rfl
    · rw [ifn (nI_ne0 (by omega) (by omega)), ifp (nI_ne0 (by omega) (by omega)), show (2520 : Int32) = nI 2520 from rfl, pk_div (by omega) (by omega) (by omega), pk_mul]
      have h1 : 2520 / (o + z) ≤ 2520 := Nat.div_le_self _ _
      have h2 : o * (2520 / (o + z)) ≤ 10 * 2520 := Nat.mul_le_mul ho h1
      rw [nI_l (by omega)]
      show some (lN (o * (2520 / (o + z)))) = some (lN (if o + z = 0 then 0 else o * (2520 / (o + z))))
      rw [ifn h]
  · rw [ifn (by decide), ifn (by decide), ifn (by decide), ifn (by decide), ifn (by decide), ifn (by decide), ifn (by decide), ifp (by decide)]
    by_cases h : o + z = b
    · rw [ifp (by rw [h])]; simp [xms, h]; rfl
    · rw [ifn (by rw [nI_eq (by omega) (by omega)]; exact h)]; simp [xms, h]; rfl
  · rw [ifn (by decide), ifn (by decide), ifn (by decide), ifn (by decide), ifn (by decide), ifn (by decide), ifn (by decide), ifn (by decide), ifp (by decide)]
    by_cases h : o ≤ z
    · rw [ifp (nI_le h (by omega))]; simp [xms, h]; rfl
    · rw [ifn (by rw [nI_leI (by omega) (by omega)]; exact h)]; simp [xms, h]
  · rw [ifn (by decide), ifn (by decide), ifn (by decide), ifn (by decide), ifn (by decide), ifn (by decide), ifn (by decide), ifn (by decide), ifn (by decide), ifp (by decide)]
    by_cases h : o ≤ 1
    · rw [ifp (show nI o ≤ 1 from nI_le (b := 1) h (by omega))]; simp [xms, h]; rfl
    · rw [ifn (show ¬ nI o ≤ 1 from nI_ge (a := 1) (by omega) (by omega))]; simp [xms, h]
  · rw [ifn (by decide), ifn (by decide), ifn (by decide), ifn (by decide), ifn (by decide), ifn (by decide), ifn (by decide), ifn (by decide), ifn (by decide), ifn (by decide), ifp (by decide)]
    by_cases h : o = z + b
    · rw [ifp ((nI_sub_eq (by omega) (by omega) (by omega)).mpr h)]; simp [xms, h]; rfl
    · rw [ifn (fun q => h ((nI_sub_eq (by omega) (by omega) (by omega)).mp q))]; simp [xms, h]; rfl
theorem x_fam {i : Nat} {σ : Mm} {ee : Nat → Nat} (hC : Cel σ (i + 1) ee) {o z : Nat} (ho : o ≤ 10) (hz : z ≤ 10) : fX1_families i (nI o) (nI z) σ = some (lN (ee (pl 0 o z) + ee (pl 1 o z))) := by
  have h1 : fX0_at (i + 1) 0 (nI o) (nI z) σ = some (gL σ (i + 1 + 1) (pl 0 o z)) := x_cat (e := 0) (by omega) ho hz
  have h2 : fX0_at (i + 1) 1 (nI o) (nI z) σ = some (gL σ (i + 1 + 1) (pl 1 o z)) := x_cat (e := 1) (by omega) ho hz
  rw [fX1_families, h1, ob, h2, ob, hC _ (pl_lt (by omega) ho hz), hC _ (pl_lt (by omega) ho hz), lN_add]
section SUM
variable {i m : Nat} {σ : Mm} {ee : Nat → Nat}
def FF (ee : Nat → Nat) (a b o z : Nat) : Nat := (ee (pl 0 o z) + ee (pl 1 o z)) * xms a b o z
theorem x_s17 (K5 : Int32 → Int32 → Int64 → Int32 → Option Int64) (hm : m ≤ 10) (h4 : gI σ i 4 = nI m) (hC : Cel σ (i + 1) ee) {a b o B : Nat} (ha : a ≤ 10) (hb : b ≤ 10) (ho : o ≤ m) : ∀ (N z : Nat), z ≤ m - o + 1 → m - o + 1 - z < N → fX1_sum_17 i σ K5 N (nI a) (nI b) (lN (B + sm (FF ee a b o) z)) (nI o) (nI z) = K5 (nI a) (nI b) (lN (B + sm (FF ee a b o) (m - o + 1))) (nI (o + 1)) := by
  intro N
  induction N with
  | zero => intro z _ h; omega
  | succ N ih =>
    intro z hz hN
    by_cases h8 : z = m - o + 1
    · subst h8
      rw [fX1_sum_17, h4, pk_sub ho, ifp (nI_lt (by omega) (by omega)), nI_1]
    · have hstep := ih (z + 1) (by omega) (by omega)
      have e1 : lN (B + sm (FF ee a b o) z) + lN (ee (pl 0 o z) + ee (pl 1 o z)) * lN (xms a b o z) = lN (B + sm (FF ee a b o) (z + 1)) := by
        rw [lN_mul, lN_add]
        congr 1
        show B + sm (FF ee a b o) z + FF ee a b o z = B + (sm (FF ee a b o) z + FF ee a b o z)
        omega
      rw [fX1_sum_17, h4, pk_sub ho, ifn (by rw [nI_ltI (by omega) (by omega)]; omega), x_fam hC (by omega) (by omega), ob]
      by_cases hz0 : lg_cmp (lN (ee (pl 0 o z) + ee (pl 1 o z))) (0 : Int64) = 0
      · rw [lg_0.mp hz0, Int64.zero_mul, Int64.add_zero] at e1
        rw [ifp hz0, fX1_sum_61, nI_1, e1]
        exact hstep
      · rw [ifn hz0, x_meas ha hb (by omega) (by omega), ob, e1, fX1_sum_61, nI_1]
        exact hstep
theorem x_s5 (hm : m ≤ 10) (h4 : gI σ i 4 = nI m) (hC : Cel σ (i + 1) ee) {a b : Nat} (ha : a ≤ 10) (hb : b ≤ 10) : ∀ (N o : Nat), o ≤ m + 1 → m + 1 - o < N → fX1_sum_5 i σ N (nI a) (nI b) (lN (sm (fun o => sm (FF ee a b o) (m - o + 1)) o)) (nI o) = some (lN (sm (fun o => sm (FF ee a b o) (m - o + 1)) (m + 1))) := by
  intro N
  induction N with
  | zero => intro o _ h; omega
  | succ N ih =>
    intro o ho hN
    by_cases h8 : o = m + 1
    · subst h8
      rw [fX1_sum_5, h4, ifp (nI_lt (by omega) (by omega))]
    · have h17 := x_s17 (fun wv1 wv2 wv3 wv5 => fX1_sum_5 i σ N wv1 wv2 wv3 wv5) hm h4 hC ha hb (show o ≤ m by omega) (B := sm (fun o => sm (FF ee a b o) (m - o + 1)) o) 1000 0 (by omega) (by omega)
      have h17' : fX1_sum_17 i σ (fun wv1 wv2 wv3 wv5 => fX1_sum_5 i σ N wv1 wv2 wv3 wv5) 1000 (nI a) (nI b) (lN (sm (fun o => sm (FF ee a b o) (m - o + 1)) o)) (nI o) 0 = fX1_sum_5 i σ N (nI a) (nI b) (lN (sm (fun o => sm (FF ee a b o) (m - o + 1)) (o + 1))) (nI (o + 1)) := h17
      rw [fX1_sum_5, h4, ifn (by rw [nI_ltI (by omega) (by omega)]; omega), h17']
      exact ih (o + 1) (by omega) (by omega)
theorem x_sum {k f c L : Nat} (hm1 : 1 ≤ m) (hm : m ≤ 10) (h4 : gI σ i 4 = nI m) (hC : Cel σ (i + 1) ee) (hO : talOK k f m c L ee) {a b : Nat} (ha : a ≤ 10) (hb : b ≤ 10) : fX1_sum i (nI a) (nI b) σ = some (lN (tot k f m c L 9 (fun _ o z => xms a b o z))) := by
  have h1 := x_s5 hm h4 hC ha hb 1000 0 (by omega) (by omega)
  rw [← tal_sum hm1 hm hO (xms a b)]
  exact h1
end SUM
