/-! the class's tally: level by level -/
theorem gI_1 {σ σ' : Mm} (h : σ'.1 = σ.1) (a b : Nat) : gI σ' a b = gI σ a b := by
  show σ'.1 a b = σ.1 a b
  rw [h]
theorem x_place {e o r : Nat} (he : e ≤ 1) (ho : o ≤ 10) (hr : r ≤ 10) : fX0_placeOf (nI e) (nI o) (nI r) = some (nI (pl e o r)) := by
  have h1 : ¬ (1 : Int32) < nI e := nI_nlt (a := 1) (b := e) he (by omega)
  rw [fX0_placeOf, ifn (nI_pos (by omega)), ifn h1, ifn (nI_pos (by omega)), ifn (ge11 (by omega)), ifn (nI_pos (by omega)), ifp (show nI r < 11 from (nI_ltI (b := 11) (by omega) (by omega)).mpr (by omega)), show (11 : Int32) = nI 11 from rfl, pk_mul, nI_add, pk_mul, nI_add]
  congr 2
  unfold pl
  omega
theorem x_cat {i e o r : Nat} {σ : Mm} (he : e ≤ 1) (ho : o ≤ 10) (hr : r ≤ 10) : fX0_at i (nI e) (nI o) (nI r) σ = some (gL σ (i + 1) (pl e o r)) := by
  have hp := pl_lt he ho hr
  rw [fX0_at, x_place he ho hr, ob, ifn (nI_pos (by omega)), ifn (ge242 hp), ifp (ci_nI hp (by omega)), nI_cl (by omega)]
theorem x_cadd {i e o r : Nat} {v : Int64} {σ : Mm} (he : e ≤ 1) (ho : o ≤ 10) (hr : r ≤ 10) : fX0_add i (nI e) (nI o) (nI r) v σ = some (pL σ (i + 1) (pl e o r) (gL σ (i + 1) (pl e o r) + v)) := by
  have hp := pl_lt he ho hr
  rw [fX0_add, x_place he ho hr, ob, ifn (nI_pos (by omega)), ifn (ge242 hp), ifp (ci_nI hp (by omega)), ifp (ci_nI hp (by omega)), nI_cl (by omega)]
theorem x_fillL {j : Nat} : ∀ (n v : Nat) (σ : Mm), v ≤ 242 → 242 - v < n → ∃ σ', fJ7_fill_d0a16_6 j n 0 (nI v) (242 : Int32) σ = some σ' ∧ σ'.1 = σ.1 ∧ σ'.2.2 = σ.2.2 ∧ (∀ b, v ≤ b → b < 242 → gL σ' j b = 0) ∧ (∀ a b, ¬ (a = j ∧ v ≤ b ∧ b < 242) → gL σ' a b = gL σ a b) := by
  intro n
  induction n with
  | zero => intro v σ _ h; omega
  | succ n ih =>
    intro v σ hv hn
    by_cases h8 : v = 242
    · subst h8
      refine ⟨σ, ?_, rfl, rfl, fun b h1 h2 => absurd h2 (by omega), fun _ _ _ => rfl⟩
      rw [fJ7_fill_d0a16_6, ifp (show (242 : Int32) ≤ nI 242 by decide)]
    · obtain ⟨σ', e1, e2, e3, e4, e5⟩ := ih (v + 1) (pL σ j v 0) (by omega) (by omega)
      refine ⟨σ', ?_, e2, e3, fun b h1 h2 => ?_, fun a b h => ?_⟩
      · rw [fJ7_fill_d0a16_6, ifn (ge242 (by omega)), ifp (ci_nI (by omega) (by omega)), nI_cl (by omega), nI_1]
        exact e1
      · by_cases q : b = v
        · rw [e5 j b (by omega), gL_pL, ifp ⟨rfl, q⟩]
        · exact e4 b (by omega) h2
      · rw [e5 a b (by omega), gL_pL, ifn (by omega)]
theorem x_clear (i : Nat) (σ : Mm) : ∃ σ', fX0_clear i σ = some σ' ∧ σ'.1 = σ.1 ∧ gH σ' = gH σ ∧ gN σ' = gN σ ∧ (∀ b, b < 242 → gL σ' (i + 1) b = 0) ∧ (∀ a b, a ≠ i + 1 → gL σ' a b = gL σ a b) := by
  obtain ⟨σ', e1, e2, e3, e4, e5⟩ := x_fillL (j := i + 1) 1000 0 σ (by omega) (by omega)
  refine ⟨σ', ?_, e2, ?_, ?_, fun b h => e4 b (by omega) h, fun a b h => e5 a b (by omega)⟩
  · rw [fX0_clear, fJ7_fill_d0a16]
    have e1' : fJ7_fill_d0a16_6 (i + 1) 1000 0 0 242 σ = some σ' := e1
    rw [e1', ob]
  · show σ'.2.2.1 = σ.2.2.1
    rw [e3]
  · show σ'.2.2.2 = σ.2.2.2
    rw [e3]
theorem uN_eq {n : Nat} (h : n ≤ 10) : uN n = lN (12 ^ (10 - n)) := by
  have h1 : ∀ n : Fin 11, uN n.val = lN (12 ^ (10 - n.val)) := by decide +kernel
  exact h1 ⟨n, by omega⟩
def Cel (σ : Mm) (a : Nat) (h : Nat → Nat) : Prop := ∀ j, j < 242 → gL σ (a + 1) j = lN (h j)
def PR (σ : Mm) (i k f m c L : Nat) : Prop := gI σ i 2 = nI k ∧ gI σ i 3 = nI f ∧ gI σ i 4 = nI m ∧ gI σ i 5 = nI c ∧ gI σ i 6 = nI L - 5
def FL (σ σ' : Mm) (i : Nat) : Prop := σ'.1 = σ.1 ∧ ∀ a b, a ≠ i + 2 → a ≠ 37 → a ≠ 39 → gL σ' a b = gL σ a b
theorem FL_rf {σ : Mm} {i : Nat} : FL σ σ i := ⟨rfl, fun _ _ _ _ _ => rfl⟩
theorem FL_tr {σ σ' σ'' : Mm} {i : Nat} (h : FL σ σ' i) (h2 : FL σ' σ'' i) : FL σ σ'' i := ⟨h2.1.trans h.1, fun a b h3 h4 h5 => (h2.2 a b h3 h4 h5).trans (h.2 a b h3 h4 h5)⟩
theorem PR_1 {σ σ' : Mm} {i k f m c L : Nat} (h : σ'.1 = σ.1) (hP : PR σ i k f m c L) : PR σ' i k f m c L := by
  unfold PR at hP ⊢
  simp only [gI_1 h]
  exact hP
def up (y : Nat → Nat) (p a : Nat) : Nat → Nat := fun j => if j = p then y j + a else y j
def dn (y : Nat → Nat) (p : Nat) : Nat → Nat := fun j => if j = p then 0 else y j
/-- what is kept, for every measure -/
def Ph (k f m c L n : Nat) (rem x ee : Nat → Nat) : Prop := ∀ μ : Nat → Nat → Nat → Nat,
  sm (fun j => ee j * μ (j / 121) (j / 11 % 11) (j % 11)) 242 + sm (fun j => rem j * vv k f m c L μ (10 - n) n (j / 121) (j / 11 % 11) (j % 11)) 242 + sm (fun j => x j * vv k f m c L μ (9 - n) (n + 1) (j / 121) (j / 11 % 11) (j % 11)) 242 = tot k f m c L 9 μ
theorem Ph_end {k f m c L n e o r : Nat} {h rem x ee : Nat → Nat} (he : e ≤ 1) (hr : r ≤ o) (ho : o ≤ n) (hn : n ≤ 10) (hE : ends k f m n o r = true) (hrem : rem (pl e o r) = h (pl e o r)) (hP : Ph k f m c L n rem x ee) :
    Ph k f m c L n (dn rem (pl e o r)) x (up ee (pl e o (n - o)) (h (pl e o r) * 12 ^ (10 - n))) := by
  intro μ
  have h1 := hP μ
  have h2 := sm_up (y := ee) (w := fun j => μ (j / 121) (j / 11 % 11) (j % 11)) (a := h (pl e o r) * 12 ^ (10 - n)) (pl_lt he (show o ≤ 10 by omega) (show n - o ≤ 10 by omega))
  have h3 := sm_dn (y := rem) (w := fun j => vv k f m c L μ (10 - n) n (j / 121) (j / 11 % 11) (j % 11)) (pl_lt he (show o ≤ 10 by omega) (show r ≤ 10 by omega))
  rw [pl_e (by omega) (by omega), pl_o (by omega) (by omega), pl_r (by omega)] at h2 h3
  rw [vv_end hE, hrem] at h3
  have h4 : h (pl e o r) * 12 ^ (10 - n) * μ e o (n - o) = h (pl e o r) * (μ e o (n - o) * 12 ^ (10 - n)) := by rw [Nat.mul_assoc, Nat.mul_comm (12 ^ (10 - n))]
  rw [h4] at h2
  show sm (fun j => (if j = pl e o (n - o) then ee j + h (pl e o r) * 12 ^ (10 - n) else ee j) * μ (j / 121) (j / 11 % 11) (j % 11)) 242 + sm (fun j => (if j = pl e o r then 0 else rem j) * vv k f m c L μ (10 - n) n (j / 121) (j / 11 % 11) (j % 11)) 242 + _ = _
  omega
theorem Ph_go {k f m c L n e o r : Nat} {h rem x ee : Nat → Nat} (he : e ≤ 1) (hr : r ≤ o) (ho : o ≤ n) (hn : n < 10) (hE : ends k f m n o r = false) (hrem : rem (pl e o r) = h (pl e o r)) (hP : Ph k f m c L n rem x ee) :
    Ph k f m c L n (dn rem (pl e o r)) (up (up x (pl e (o + 1) (r + 1)) (h (pl e o r) * twf c L n r)) (pl e o 0) (h (pl e o r) * (12 - twf c L n r))) ee := by
  intro μ
  have h1 := hP μ
  have h2 := sm_up (y := x) (w := fun j => vv k f m c L μ (9 - n) (n + 1) (j / 121) (j / 11 % 11) (j % 11)) (a := h (pl e o r) * twf c L n r) (pl_lt he (show o + 1 ≤ 10 by omega) (show r + 1 ≤ 10 by omega))
  have h5 := sm_up (y := up x (pl e (o + 1) (r + 1)) (h (pl e o r) * twf c L n r)) (w := fun j => vv k f m c L μ (9 - n) (n + 1) (j / 121) (j / 11 % 11) (j % 11)) (a := h (pl e o r) * (12 - twf c L n r)) (pl_lt he (show o ≤ 10 by omega) (show 0 ≤ 10 by omega))
  have h3 := sm_dn (y := rem) (w := fun j => vv k f m c L μ (10 - n) n (j / 121) (j / 11 % 11) (j % 11)) (pl_lt he (show o ≤ 10 by omega) (show r ≤ 10 by omega))
  rw [pl_e (by omega) (by omega), pl_o (by omega) (by omega), pl_r (by omega)] at h2 h3 h5
  rw [show 10 - n = (9 - n) + 1 by omega, vv_go hE, hrem] at h3
  rw [show (9 - n) + 1 = 10 - n by omega] at h3
  rw [Nat.mul_add, ← Nat.mul_assoc, ← Nat.mul_assoc] at h3
  show _ + sm (fun j => (if j = pl e o r then 0 else rem j) * vv k f m c L μ (10 - n) n (j / 121) (j / 11 % 11) (j % 11)) 242 + sm (fun j => (if j = pl e o 0 then up x (pl e (o + 1) (r + 1)) (h (pl e o r) * twf c L n r) j + h (pl e o r) * (12 - twf c L n r) else up x (pl e (o + 1) (r + 1)) (h (pl e o r) * twf c L n r) j) * vv k f m c L μ (9 - n) (n + 1) (j / 121) (j / 11 % 11) (j % 11)) 242 = _
  have h6 : sm (fun j => up x (pl e (o + 1) (r + 1)) (h (pl e o r) * twf c L n r) j * vv k f m c L μ (9 - n) (n + 1) (j / 121) (j / 11 % 11) (j % 11)) 242 = _ := h2
  rw [h6] at h5
  omega
/-- a level under way -/
def Lv (σ : Mm) (i k f m c L n : Nat) (h rem x ee : Nat → Nat) : Prop := WK σ ∧ Cel σ (gH σ) h ∧ Cel σ (gN σ) x ∧ Cel σ (i + 1) ee ∧ (∀ j, j < 242 → x j ≠ 0 → j % 11 ≤ j / 11 % 11 ∧ j / 11 % 11 ≤ n + 1) ∧ (m ≤ n → ∀ j, j < 242 → x j = 0) ∧ Ph k f m c L n rem x ee
theorem Cel_up {σ σ' : Mm} {a p : Nat} {h : Nat → Nat} {v : Nat} (hC : Cel σ a h) (e : ∀ j, gL σ' (a + 1) j = if j = p then gL σ (a + 1) p + lN v else gL σ (a + 1) j) : Cel σ' a (up h p v) := by
  intro j hj
  rw [e j]
  unfold up
  by_cases q : j = p
  · rw [ifp q, ifp q, ← q, hC j hj, lN_add]
  · rw [ifn q, ifn q, hC j hj]
theorem Cel_same {σ σ' : Mm} {a : Nat} {h : Nat → Nat} (hC : Cel σ a h) (e : ∀ j, gL σ' (a + 1) j = gL σ (a + 1) j) : Cel σ' a h := fun j hj => by rw [e j, hC j hj]
theorem Cel_up0 {σ : Mm} {a p : Nat} {h : Nat → Nat} {v : Nat} (hC : Cel σ a h) (e : lN v = 0) : Cel σ a (up h p v) := by
  intro j hj
  unfold up
  by_cases q : j = p
  · rw [ifp q, ← lN_add, e, Int64.add_zero]
    exact hC j hj
  · rw [ifn q]
    exact hC j hj
theorem x_goOn {i k f m c L : Nat} (hi : isTal i = true) (hk : k < 6) (hf : f ≤ 9) (hm : m ≤ 10) (hc1 : 1 ≤ c) (hc : c ≤ 11) (hLL : L ≤ 10) {σ : Mm} (hPR : PR σ i k f m c L) {n e o r : Nat} (he : e ≤ 1) (hr : r ≤ o) (ho : o ≤ n) (hn : n ≤ m) (hn1 : 1 ≤ n) {h rem x ee : Nat → Nat} (hL : Lv σ i k f m c L n h rem x ee) (hrem : rem (pl e o r) = h (pl e o r)) :
    ∃ (σ' : Mm) (x' ee' : Nat → Nat), fX1_goOn i (nI e) (nI n) (nI o) (nI r) σ = some σ' ∧ FL σ σ' i ∧ gH σ' = gH σ ∧ gN σ' = gN σ ∧ Lv σ' i k f m c L n h (dn rem (pl e o r)) x' ee' := by
  obtain ⟨l1, l2, l3, l4, l5, l6, l7⟩ := hL
  obtain ⟨p1, p2, p3, p4, p5⟩ := hPR
  have hi' := tal_iff.mp hi
  have hp := pl_lt he (show o ≤ 10 by omega) (show r ≤ 10 by omega)
  have hW : (gH σ = 36 ∧ gN σ = 38) ∨ (gH σ = 38 ∧ gN σ = 36) := l1
  have cH : isCel (gH σ) = true := by rw [cel_iff]; omega
  have cN : isCel (gN σ) = true := by rw [cel_iff]; omega
  have hv : gL σ (gH σ + 1) (pl e o r) = lN (h (pl e o r)) := l2 _ hp
  have htw := twf_le (c := c) (L := L) (n := n) (r := r) hc
  have e0 : fX1_goOn i (nI e) (nI n) (nI o) (nI r) σ = (if (lg_cmp (lN (h (pl e o r))) (0 : Int64)) = 0 then some σ else (if ends k f m n o r then some (pL σ (i + 2) (pl e o (n - o)) (gL σ (i + 2) (pl e o (n - o)) + lN (h (pl e o r) * 12 ^ (10 - n)))) else some (pL (pL σ (gN σ + 1) (pl e (o + 1) (r + 1)) (gL σ (gN σ + 1) (pl e (o + 1) (r + 1)) + lN (h (pl e o r) * twf c L n r))) (gN σ + 1) (pl e o 0) (gL (pL σ (gN σ + 1) (pl e (o + 1) (r + 1)) (gL σ (gN σ + 1) (pl e (o + 1) (r + 1)) + lN (h (pl e o r) * twf c L n r))) (gN σ + 1) (pl e o 0) + lN (h (pl e o r) * (12 - twf c L n r)))))) := by
    have h56 : fX1_goOn_56 i (nI e) (nI n) (nI o) (lN (h (pl e o r))) (nI (n - o)) σ = some (pL σ (i + 2) (pl e o (n - o)) (gL σ (i + 2) (pl e o (n - o)) + lN (h (pl e o r) * 12 ^ (10 - n)))) := by
      rw [fX1_goOn_56, ifn (nI_pos (by omega)), ifn (ge11 (by omega)), ifp (ci_nI (by omega) (by omega)), nI_cl (by omega), fX1_goOn_77, x_cadd he (by omega) (by omega), ob, uN_eq (by omega), lN_mul]
    rw [fX1_goOn, ifp cH, x_cat he (by omega) (by omega), ob, hv, p1, p2, p3, p4, p5, pk_sub ho, h56]
    by_cases hz : lg_cmp (lN (h (pl e o r))) (0 : Int64) = 0
    · rw [ifp hz, ifp hz]
    · rw [ifn hz, ifn hz]
      by_cases hmn : m ≤ n
      · rw [ifp (nI_le hmn (by omega)), ifp (ends_m hmn)]
      · have hE : ends k f m n o r = stp k f o (n - o) r := by simp [ends, hmn]
        rw [ifn (by rw [nI_leI (by omega) (by omega)]; exact hmn), x_stops hk (by omega) (by omega) (by omega) (by omega), ob, hE]
        cases hst : stp k f o (n - o) r with
        | true => rw [ifn (show ¬ bI true = 0 by decide), ifp rfl]
        | false =>
          rw [ifp (show bI false = 0 from rfl), ifn (by decide), x_chance hc1 hc hLL (by omega) (by omega), ob, ifp cN, nI_1, nI_1, x_cadd he (by omega) (by omega), ob]
          have gn : gN (pL σ (gN σ + 1) (pl e (o + 1) (r + 1)) (gL σ (gN σ + 1) (pl e (o + 1) (r + 1)) + lN (h (pl e o r)) * (nI (twf c L n r)).toInt64)) = gN σ := rfl
          rw [gn, ifp cN, show (0 : Int32) = nI 0 from rfl, x_cadd he (by omega) (by omega), ob, show (12 : Int32) = nI 12 from rfl, pk_sub htw, nI_l (by omega), nI_l (by omega), lN_mul, lN_mul]
  by_cases hE : ends k f m n o r = true
  · have hPh := Ph_end he hr ho (by omega) hE hrem l7
    by_cases hz : lg_cmp (lN (h (pl e o r))) (0 : Int64) = 0
    · refine ⟨σ, x, _, by rw [e0, ifp hz], FL_rf, rfl, rfl, l1, l2, l3, Cel_up0 l4 ?_, l5, l6, hPh⟩
      rw [← lN_mul, lg_0.mp hz, Int64.zero_mul]
    · have e1 := e0
      rw [ifn hz, ifp hE] at e1
      refine ⟨_, x, _, e1, ⟨rfl, fun a b h1 _ _ => by rw [gL_pL, ifn (fun q => h1 q.1)]⟩, rfl, rfl, l1, ?_, ?_, Cel_up l4 (fun j => ?_), l5, l6, hPh⟩
      · refine Cel_same l2 (fun j => ?_)
        show gL (pL σ _ _ _) (gH σ + 1) j = _
        rw [gL_pL, ifn (by omega)]
        rfl
      · refine Cel_same l3 (fun j => ?_)
        show gL (pL σ _ _ _) (gN σ + 1) j = _
        rw [gL_pL, ifn (by omega)]
        rfl
      · rw [gL_pL]
        by_cases q : j = pl e o (n - o)
        · rw [ifp ⟨rfl, q⟩, ifp q]
        · rw [ifn (fun w => q w.2), ifn q]
  · have hE' : ends k f m n o r = false := by simpa using hE
    have hmn : ¬ m ≤ n := fun q => hE (ends_m q)
    have hPh := Ph_go he hr ho (by omega) hE' hrem l7
    have hsup : ∀ j, j < 242 → up (up x (pl e (o + 1) (r + 1)) (h (pl e o r) * twf c L n r)) (pl e o 0) (h (pl e o r) * (12 - twf c L n r)) j ≠ 0 → j % 11 ≤ j / 11 % 11 ∧ j / 11 % 11 ≤ n + 1 := by
      intro j hj hne
      by_cases q1 : j = pl e o 0
      · rw [q1, pl_o (by omega) (by omega), pl_r (by omega)]; omega
      · by_cases q2 : j = pl e (o + 1) (r + 1)
        · rw [q2, pl_o (by omega) (by omega), pl_r (by omega)]; omega
        · unfold up at hne
          rw [ifn q1, ifn q2] at hne
          exact l5 j hj hne
    by_cases hz : lg_cmp (lN (h (pl e o r))) (0 : Int64) = 0
    · have z0 := lg_0.mp hz
      refine ⟨σ, _, ee, by rw [e0, ifp hz], FL_rf, rfl, rfl, l1, l2, Cel_up0 (Cel_up0 l3 ?_) ?_, l4, hsup, fun q => absurd q hmn, hPh⟩
      · rw [← lN_mul, z0, Int64.zero_mul]
      · rw [← lN_mul, z0, Int64.zero_mul]
    · have hC1 : Cel (pL σ (gN σ + 1) (pl e (o + 1) (r + 1)) (gL σ (gN σ + 1) (pl e (o + 1) (r + 1)) + lN (h (pl e o r) * twf c L n r))) (gN σ) (up x (pl e (o + 1) (r + 1)) (h (pl e o r) * twf c L n r)) := by
        refine Cel_up l3 (fun j => ?_)
        rw [gL_pL]
        by_cases q : j = pl e (o + 1) (r + 1)
        · rw [ifp ⟨rfl, q⟩, ifp q]
        · rw [ifn (fun w => q w.2), ifn q]
      have e1 := e0
      rw [ifn hz, ifn hE] at e1
      refine ⟨_, _, ee, e1, ⟨rfl, fun a b _ h2 h3 => ?_⟩, rfl, rfl, l1, ?_, ?_, ?_, hsup, fun q => absurd q hmn, hPh⟩
      · rw [gL_pL, ifn (by omega), gL_pL, ifn (by omega)]
      · refine Cel_same l2 (fun j => ?_)
        show gL (pL (pL σ _ _ _) _ _ _) (gH σ + 1) j = _
        rw [gL_pL, ifn (by omega), gL_pL, ifn (by omega)]
        rfl
      · refine Cel_up hC1 (fun j => ?_)
        show gL (pL (pL σ _ _ _) _ _ _) (gN σ + 1) j = _
        rw [gL_pL]
        by_cases q : j = pl e o 0
        · rw [ifp ⟨rfl, q⟩, ifp q]
          rfl
        · rw [ifn (fun w => q w.2), ifn q]
          rfl
      · refine Cel_same l4 (fun j => ?_)
        rw [gL_pL, ifn (by omega), gL_pL, ifn (by omega)]
/-- how far a level has got -/
def RP (h rem : Nat → Nat) (o r : Nat) : Prop := ∀ j, j < 242 → ((j / 11 % 11 < o ∨ (j / 11 % 11 = o ∧ j % 11 < r)) → rem j = 0) ∧ (¬ (j / 11 % 11 < o ∨ (j / 11 % 11 = o ∧ j % 11 < r)) → rem j = h j)
def Sup (h : Nat → Nat) (n : Nat) : Prop := ∀ j, j < 242 → h j ≠ 0 → j % 11 ≤ j / 11 % 11 ∧ j / 11 % 11 ≤ n
theorem x_113 {i k f m c L : Nat} (hi : isTal i = true) (hk : k < 6) (hf : f ≤ 9) (hm : m ≤ 10) (hc1 : 1 ≤ c) (hc : c ≤ 11) (hLL : L ≤ 10) (K91 : Int32 → Mm → Option Mm) (K103 : Int32 → Int32 → Mm → Option Mm) {n o : Nat} (ho : o ≤ n) (hn : n ≤ m) (hn1 : 1 ≤ n) {h : Nat → Nat} : ∀ (N r : Nat) (σ : Mm) (rem x ee : Nat → Nat), r ≤ o + 1 → o + 1 - r < N → PR σ i k f m c L → Lv σ i k f m c L n h rem x ee → RP h rem o r →
    ∃ (σ' : Mm) (rem' x' ee' : Nat → Nat), fX1_retell_113 i K91 K103 N (nI n) (nI o) (nI r) σ = K103 (nI n) (nI (o + 1)) σ' ∧ FL σ σ' i ∧ gH σ' = gH σ ∧ gN σ' = gN σ ∧ Lv σ' i k f m c L n h rem' x' ee' ∧ RP h rem' o (o + 1) := by
  intro N
  induction N with
  | zero => intro r σ rem x ee _ h; omega
  | succ N ih =>
    intro r σ rem x ee hr hN hPR hL hRP
    by_cases h8 : r = o + 1
    · subst h8
      refine ⟨σ, rem, x, ee, ?_, FL_rf, rfl, rfl, hL, hRP⟩
      rw [fX1_retell_113, ifp (nI_lt (by omega) (by omega)), nI_1]
    · have hro : r ≤ o := by omega
      have r0 : rem (pl 0 o r) = h (pl 0 o r) := (hRP _ (pl_lt (by omega) (by omega) (by omega))).2 (by rw [pl_o (by omega) (by omega), pl_r (by omega)]; omega)
      obtain ⟨σ1, x1, ee1, a1, a2, a3, a4, a5⟩ := x_goOn hi hk hf hm hc1 hc hLL hPR (e := 0) (by omega) hro ho hn hn1 hL r0
      have r1 : dn rem (pl 0 o r) (pl 1 o r) = h (pl 1 o r) := by
        unfold dn
        rw [ifn (by unfold pl; omega)]
        exact (hRP _ (pl_lt (by omega) (by omega) (by omega))).2 (by rw [pl_o (by omega) (by omega), pl_r (by omega)]; omega)
      have hPR1 := PR_1 a2.1 hPR
      obtain ⟨σ2, x2, ee2, b1, b2, b3, b4, b5⟩ := x_goOn hi hk hf hm hc1 hc hLL hPR1 (e := 1) (by omega) hro ho hn hn1 a5 r1
      have hRP2 : RP h (dn (dn rem (pl 0 o r)) (pl 1 o r)) o (r + 1) := by
        intro j hj
        have q := hRP j hj
        unfold dn
        constructor
        · intro h1
          by_cases e1 : j = pl 1 o r
          · rw [ifp e1]
          · by_cases e0 : j = pl 0 o r
            · rw [ifn e1, ifp e0]
            · rw [ifn e1, ifn e0]
              refine q.1 ?_
              unfold pl at e1 e0
              omega
        · intro h1
          have e1 : ¬ j = pl 1 o r := fun w => h1 (by rw [w, pl_o (by omega) (by omega), pl_r (by omega)]; omega)
          have e0 : ¬ j = pl 0 o r := fun w => h1 (by rw [w, pl_o (by omega) (by omega), pl_r (by omega)]; omega)
          rw [ifn e1, ifn e0]
          exact q.2 (by omega)
      obtain ⟨σ', rem', x', ee', c1, c2, c3, c4, c5, c6⟩ := ih (r + 1) σ2 _ x2 ee2 (by omega) (by omega) (PR_1 b2.1 hPR1) b5 hRP2
      refine ⟨σ', rem', x', ee', ?_, FL_tr (FL_tr a2 b2) c2, (c3.trans b3).trans a3, (c4.trans b4).trans a4, c5, c6⟩
      have a1' : fX1_goOn i 0 (nI n) (nI o) (nI r) σ = some σ1 := a1
      have b1' : fX1_goOn i 1 (nI n) (nI o) (nI r) σ1 = some σ2 := b1
      rw [fX1_retell_113, ifn (by rw [nI_ltI (by omega) (by omega)]; omega), a1', ob, b1', ob, nI_1]
      exact c1
theorem RP_next {h rem : Nat → Nat} {n o : Nat} (hS : Sup h n) (hR : RP h rem o (o + 1)) : RP h rem (o + 1) 0 := by
  intro j hj
  have q := hR j hj
  have s := hS j hj
  constructor
  · intro h1
    by_cases h2 : j / 11 % 11 < o ∨ (j / 11 % 11 = o ∧ j % 11 < o + 1)
    · exact q.1 h2
    · rw [q.2 h2]
      by_cases h3 : h j = 0
      · exact h3
      · have := s h3
        omega
  · intro h1
    exact q.2 (by omega)
theorem x_103 {i k f m c L : Nat} (hi : isTal i = true) (hk : k < 6) (hf : f ≤ 9) (hm : m ≤ 10) (hc1 : 1 ≤ c) (hc : c ≤ 11) (hLL : L ≤ 10) (K91 : Int32 → Mm → Option Mm) {n : Nat} (hn : n ≤ m) (hn1 : 1 ≤ n) {h : Nat → Nat} (hS : Sup h n) : ∀ (N o : Nat) (σ : Mm) (rem x ee : Nat → Nat), o ≤ n + 1 → n + 1 - o < N → PR σ i k f m c L → Lv σ i k f m c L n h rem x ee → RP h rem o 0 →
    ∃ (σ' : Mm) (rem' x' ee' : Nat → Nat), fX1_retell_103 i K91 N (nI n) (nI o) σ = (fX4_stepOn σ').bind (fun q_5 => K91 (nI (n + 1)) q_5) ∧ FL σ σ' i ∧ Lv σ' i k f m c L n h rem' x' ee' ∧ RP h rem' (n + 1) 0 := by
  intro N
  induction N with
  | zero => intro o σ rem x ee _ h; omega
  | succ N ih =>
    intro o σ rem x ee ho hN hPR hL hRP
    by_cases h8 : o = n + 1
    · subst h8
      refine ⟨σ, rem, x, ee, ?_, FL_rf, hL, hRP⟩
      rw [fX1_retell_103, ifp (nI_lt (by omega) (by omega)), nI_1]
    · have hon : o ≤ n := by omega
      obtain ⟨σ1, rem1, x1, ee1, a1, a2, a3, a4, a5, a6⟩ := x_113 hi hk hf hm hc1 hc hLL K91 (fun wv6 wv7 wσ => fX1_retell_103 i K91 N wv6 wv7 wσ) hon hn hn1 1000 0 σ rem x ee (by omega) (by omega) hPR hL hRP
      obtain ⟨σ', rem', x', ee', b1, b2, b3, b4⟩ := ih (o + 1) σ1 rem1 x1 ee1 (by omega) (by omega) (PR_1 a2.1 hPR) a5 (RP_next hS a6)
      refine ⟨σ', rem', x', ee', ?_, FL_tr a2 b2, b3, b4⟩
      have a1' : fX1_retell_113 i K91 (fun wv6 wv7 wσ => fX1_retell_103 i K91 N wv6 wv7 wσ) 1000 (nI n) (nI o) 0 σ = fX1_retell_103 i K91 N (nI n) (nI (o + 1)) σ1 := a1
      rw [fX1_retell_103, ifn (by rw [nI_ltI (by omega) (by omega)]; omega), a1', b1]
theorem x_91 {i k f m c L : Nat} (hi : isTal i = true) (hk : k < 6) (hf : f ≤ 9) (hm : m ≤ 10) (hc1 : 1 ≤ c) (hc : c ≤ 11) (hLL : L ≤ 10) (hm1 : 1 ≤ m) : ∀ (d n N : Nat) (σ : Mm) (h x ee : Nat → Nat), n + d = m + 1 → d < N → 1 ≤ n → PR σ i k f m c L → Lv σ i k f m c L n h h x ee → Sup h n → (∀ j, j < 242 → x j = 0) → (m < n → ∀ j, j < 242 → h j = 0) →
    ∃ (σ' : Mm) (ee' : Nat → Nat), fX1_retell_91 i N (nI n) σ = some σ' ∧ FL σ σ' i ∧ WK σ' ∧ Cel σ' (i + 1) ee' ∧ talOK k f m c L ee' := by
  intro d
  induction d with
  | zero =>
    intro n N σ h x ee hd hN hn1 hPR hL hS hx hh
    obtain ⟨N, rfl⟩ : ∃ N', N = N' + 1 := ⟨N - 1, by omega⟩
    refine ⟨σ, ee, ?_, FL_rf, hL.1, hL.2.2.2.1, ?_⟩
    · rw [fX1_retell_91, hPR.2.2.1, ifp (nI_lt (by omega) (by omega))]
    · intro μ
      have h1 := hL.2.2.2.2.2.2 μ
      rw [sm_z (F := fun j => h j * vv k f m c L μ (10 - n) n (j / 121) (j / 11 % 11) (j % 11)) 242 (fun j hj => by
        show h j * _ = 0
        rw [hh (by omega) j hj, Nat.zero_mul]), sm_z (F := fun j => x j * vv k f m c L μ (9 - n) (n + 1) (j / 121) (j / 11 % 11) (j % 11)) 242 (fun j hj => by
        show x j * _ = 0
        rw [hx j hj, Nat.zero_mul])] at h1
      omega
  | succ d ih =>
    intro n N σ h x ee hd hN hn1 hPR hL hS hx hh
    obtain ⟨N, rfl⟩ : ∃ N', N = N' + 1 := ⟨N - 1, by omega⟩
    have hRP0 : RP h h 0 0 := fun j hj => ⟨fun q => by omega, fun _ => rfl⟩
    obtain ⟨σ1, rem1, x1, ee1, a1, a2, a3, a4⟩ := x_103 hi hk hf hm hc1 hc hLL (fun wv6 wσ => fX1_retell_91 i N wv6 wσ) (n := n) (by omega) hn1 hS 1000 0 σ h x ee (by omega) (by omega) hPR hL hRP0
    obtain ⟨l1, l2, l3, l4, l5, l6, l7⟩ := a3
    have hW : (gH σ1 = 36 ∧ gN σ1 = 38) ∨ (gH σ1 = 38 ∧ gN σ1 = 36) := l1
    have hi' := tal_iff.mp hi
    have cH : isCel (gH σ1) = true := by rw [cel_iff]; omega
    have cN : isCel (gN σ1) = true := by rw [cel_iff]; omega
    obtain ⟨σ2, b1, b2, b3, b4, b5, b6⟩ := x_clear (gH σ1) (pN (pH σ1 (gN σ1)) (gH σ1))
    have eS : fX4_stepOn σ1 = some σ2 := by
      rw [fX4_stepOn, ifp cH, ifp cN]
      show (if isCel (gH σ1) = true then (fX0_clear (gH σ1) (pN (pH σ1 (gN σ1)) (gH σ1))).bind (fun q_4 => some q_4) else none) = some σ2
      rw [ifp cH, b1, ob]
    have g1 : gH σ2 = gN σ1 := b3
    have g2 : gN σ2 = gH σ1 := b4
    have hz : ∀ j, j < 242 → rem1 j = 0 := by
      intro j hj
      have q := a4 j hj
      by_cases h1 : j / 11 % 11 < n + 1 ∨ (j / 11 % 11 = n + 1 ∧ j % 11 < 0)
      · exact q.1 h1
      · rw [q.2 h1]
        by_cases h3 : h j = 0
        · exact h3
        · have := hS j hj h3
          omega
    have F2 : FL σ1 σ2 i := ⟨b2, fun a b h1 h2 h3 => by rw [b6 a b (by omega)]; rfl⟩
    have hLn : Lv σ2 i k f m c L (n + 1) x1 x1 (fun _ => 0) ee1 := by
      refine ⟨?_, ?_, ?_, ?_, fun j _ q => absurd rfl q, fun _ _ _ => rfl, ?_⟩
      · show (gH σ2 = 36 ∧ gN σ2 = 38) ∨ (gH σ2 = 38 ∧ gN σ2 = 36)
        rw [g1, g2]
        omega
      · intro j hj
        rw [g1, b6 _ _ (by omega)]
        exact l3 j hj
      · intro j hj
        rw [g2, b5 j hj]
        rfl
      · intro j hj
        rw [b6 _ _ (by omega)]
        exact l4 j hj
      · intro μ
        have h1 := l7 μ
        rw [sm_z (F := fun j => rem1 j * vv k f m c L μ (10 - n) n (j / 121) (j / 11 % 11) (j % 11)) 242 (fun j hj => by
          show rem1 j * _ = 0
          rw [hz j hj, Nat.zero_mul]), Nat.add_zero] at h1
        rw [sm_z (F := fun j => 0 * vv k f m c L μ (9 - (n + 1)) (n + 1 + 1) (j / 121) (j / 11 % 11) (j % 11)) 242 (fun j hj => Nat.zero_mul _), Nat.add_zero, show 10 - (n + 1) = 9 - n by omega]
        exact h1
    obtain ⟨σ', ee', c1, c2, c3, c4, c5⟩ := ih (n + 1) N σ2 x1 (fun _ => 0) ee1 (by omega) (by omega) (by omega) (PR_1 (b2.trans a2.1) hPR) hLn l5 (fun _ _ => rfl) (fun q => l6 (by omega))
    refine ⟨σ', ee', ?_, FL_tr (FL_tr a2 F2) c2, c3, c4, c5⟩
    have a1' : fX1_retell_103 i (fun wv6 wσ => fX1_retell_91 i N wv6 wσ) 1000 (nI n) 0 σ = (fX4_stepOn σ1).bind (fun q_5 => fX1_retell_91 i N (nI (n + 1)) q_5) := a1
    rw [fX1_retell_91, hPR.2.2.1, ifn (by rw [nI_ltI (by omega) (by omega)]; omega), a1', eS, ob, c1]
