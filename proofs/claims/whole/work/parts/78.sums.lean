/-! sums, and what a measure comes to -/
theorem sm_congr {F G : Nat → Nat} : ∀ N, (∀ j, j < N → F j = G j) → sm F N = sm G N
  | 0, _ => rfl
  | N + 1, h => by
    simp only [sm]
    rw [sm_congr N (fun j hj => h j (by omega)), h N (by omega)]
theorem sm_add {F G : Nat → Nat} : ∀ N, sm (fun j => F j + G j) N = sm F N + sm G N
  | 0 => rfl
  | N + 1 => by
    simp only [sm]
    rw [sm_add N]
    omega
theorem sm_z {F : Nat → Nat} : ∀ N, (∀ j, j < N → F j = 0) → sm F N = 0
  | 0, _ => rfl
  | N + 1, h => by
    simp only [sm]
    rw [sm_z N (fun j hj => h j (by omega)), h N (by omega)]
theorem sm_pt {p a : Nat} : ∀ N, p < N → sm (fun j => if j = p then a else 0) N = a
  | 0, h => by omega
  | N + 1, h => by
    simp only [sm]
    by_cases e : N = p
    · subst e
      rw [sm_z N (fun j hj => ifn (by omega) _ _), ifp rfl]
      omega
    · rw [sm_pt N (by omega), ifn e]
      omega
theorem sm_up {y w : Nat → Nat} {p a N : Nat} (hp : p < N) : sm (fun j => (if j = p then y j + a else y j) * w j) N = sm (fun j => y j * w j) N + a * w p := by
  have h : sm (fun j => (if j = p then y j + a else y j) * w j) N = sm (fun j => y j * w j + (if j = p then a * w p else 0)) N := by
    apply sm_congr
    intro j _
    show (if j = p then y j + a else y j) * w j = y j * w j + (if j = p then a * w p else 0)
    by_cases e : j = p
    · rw [ifp e, ifp e, e, Nat.add_mul]
    · rw [ifn e, ifn e, Nat.add_zero]
  rw [h, sm_add, sm_pt N hp]
theorem sm_dn {y w : Nat → Nat} {p N : Nat} (hp : p < N) : sm (fun j => (if j = p then 0 else y j) * w j) N + y p * w p = sm (fun j => y j * w j) N := by
  have h : sm (fun j => y j * w j) N = sm (fun j => (if j = p then 0 else y j) * w j + (if j = p then y p * w p else 0)) N := by
    apply sm_congr
    intro j _
    show y j * w j = (if j = p then 0 else y j) * w j + (if j = p then y p * w p else 0)
    by_cases e : j = p
    · rw [ifp e, ifp e, e, Nat.zero_mul, Nat.zero_add]
    · rw [ifn e, ifn e, Nat.add_zero]
  rw [h, sm_add, sm_pt N hp]
theorem sm_cut {F : Nat → Nat} {a : Nat} : ∀ b, a ≤ b → (∀ j, a ≤ j → j < b → F j = 0) → sm F b = sm F a
  | 0, h, _ => by rw [show a = 0 by omega]
  | b + 1, h, hz => by
    by_cases e : a = b + 1
    · rw [e]
    · simp only [sm]
      rw [sm_cut b (by omega) (fun j h1 h2 => hz j h1 (by omega)), hz b (by omega) (by omega)]
      omega
theorem sm_app {F : Nat → Nat} (a : Nat) : ∀ b, sm F (a + b) = sm F a + sm (fun j => F (a + j)) b
  | 0 => rfl
  | b + 1 => by
    show sm F (a + b) + F (a + b) = sm F a + (sm (fun j => F (a + j)) b + F (a + b))
    rw [sm_app a b]
    omega
theorem sm_blk {F : Nat → Nat} (b : Nat) : ∀ a, sm F (a * b) = sm (fun i => sm (fun j => F (i * b + j)) b) a
  | 0 => by rw [Nat.zero_mul]; rfl
  | a + 1 => by
    rw [Nat.succ_mul, sm_app]
    show sm F (a * b) + _ = _ + _
    rw [sm_blk b a]
/-! what a measure comes to -/
section VV
variable {k f m c L : Nat} {μ ν : Nat → Nat → Nat → Nat}
theorem vv_end {j n e o r : Nat} (h : ends k f m n o r = true) : vv k f m c L μ j n e o r = μ e o (n - o) * 12 ^ j := by
  cases j with
  | zero => simp [vv]
  | succ j => rw [vv, ifp h]
theorem vv_go {j n e o r : Nat} (h : ends k f m n o r = false) : vv k f m c L μ (j + 1) n e o r = twf c L n r * vv k f m c L μ j (n + 1) e (o + 1) (r + 1) + (12 - twf c L n r) * vv k f m c L μ j (n + 1) e o 0 := by
  rw [vv, ifn (by rw [h]; decide)]
theorem ends_m {n o r : Nat} (h : m ≤ n) : ends k f m n o r = true := by simp [ends, h]
theorem vv_shift (d : Nat) : ∀ j n e o r, m ≤ n + j → vv k f m c L μ (j + d) n e o r = vv k f m c L μ j n e o r * 12 ^ d
  | 0, n, e, o, r, h => by
    have he : ends k f m n o r = true := ends_m (by omega)
    rw [vv_end he, vv_end he, Nat.zero_add, Nat.pow_zero, Nat.mul_one]
  | j + 1, n, e, o, r, h => by
    cases he : ends k f m n o r with
    | true => rw [vv_end he, vv_end he, Nat.pow_add, Nat.mul_assoc]
    | false =>
      rw [show j + 1 + d = (j + d) + 1 by omega, vv_go he, vv_go he, vv_shift d j _ _ _ _ (by omega), vv_shift d j _ _ _ _ (by omega), Nat.add_mul, Nat.mul_assoc, Nat.mul_assoc]
theorem vv_add : ∀ j n e o r, vv k f m c L (fun a b d => μ a b d + ν a b d) j n e o r = vv k f m c L μ j n e o r + vv k f m c L ν j n e o r
  | 0, n, e, o, r => by simp [vv]
  | j + 1, n, e, o, r => by
    cases he : ends k f m n o r with
    | true => rw [vv_end he, vv_end he, vv_end he, Nat.add_mul]
    | false =>
      rw [vv_go he, vv_go he, vv_go he, vv_add j, vv_add j, Nat.mul_add, Nat.mul_add]
      omega
theorem vv_le {B : Nat} (hc : c ≤ 11) (hB : ∀ e o z, μ e o z ≤ B) : ∀ j n e o r, vv k f m c L μ j n e o r ≤ B * 12 ^ j
  | 0, n, e, o, r => by simp [vv]; exact hB _ _ _
  | j + 1, n, e, o, r => by
    cases he : ends k f m n o r with
    | true => rw [vv_end he]; exact Nat.mul_le_mul_right _ (hB _ _ _)
    | false =>
      have ht := twf_le (c := c) (L := L) (n := n) (r := r) hc
      rw [vv_go he]
      have h1 := Nat.mul_le_mul_left (twf c L n r) (vv_le hc hB j (n + 1) e (o + 1) (r + 1))
      have h2 := Nat.mul_le_mul_left (12 - twf c L n r) (vv_le hc hB j (n + 1) e o 0)
      have h3 : twf c L n r * (B * 12 ^ j) + (12 - twf c L n r) * (B * 12 ^ j) = B * 12 ^ (j + 1) := by
        rw [← Nat.add_mul, show twf c L n r + (12 - twf c L n r) = 12 by omega, Nat.pow_succ, Nat.mul_comm 12, Nat.mul_assoc]
      omega
theorem vv_one (hc : c ≤ 11) : ∀ j n e o r, vv k f m c L (fun _ _ _ => 1) j n e o r = 12 ^ j
  | 0, n, e, o, r => by simp [vv]
  | j + 1, n, e, o, r => by
    cases he : ends k f m n o r with
    | true => rw [vv_end he, Nat.one_mul]
    | false =>
      have ht := twf_le (c := c) (L := L) (n := n) (r := r) hc
      rw [vv_go he, vv_one hc j, vv_one hc j, ← Nat.add_mul, show twf c L n r + (12 - twf c L n r) = 12 by omega, Nat.pow_succ, Nat.mul_comm]
/-- only families that can be count -/
theorem vv_congr (h : ∀ e o z, 1 ≤ o + z → o + z ≤ m → μ e o z = ν e o z) : ∀ j n e o r, 1 ≤ n → n ≤ m → o ≤ n → m ≤ n + j → vv k f m c L μ j n e o r = vv k f m c L ν j n e o r
  | 0, n, e, o, r, h1, h2, h3, h4 => by
    simp only [vv]
    exact h _ _ _ (by omega) (by omega)
  | j + 1, n, e, o, r, h1, h2, h3, h4 => by
    cases he : ends k f m n o r with
    | true => rw [vv_end he, vv_end he, h _ _ _ (by omega) (by omega)]
    | false =>
      have hn : n < m := by
        by_cases q : m ≤ n
        · rw [ends_m q] at he; cases he
        · omega
      rw [vv_go he, vv_go he, vv_congr h j (n + 1) e (o + 1) (r + 1) (by omega) (by omega) (by omega) (by omega), vv_congr h j (n + 1) e o 0 (by omega) (by omega) (by omega) (by omega)]
theorem tot_congr (hm1 : 1 ≤ m) {j : Nat} (hj : m ≤ j + 1) (h : ∀ e o z, 1 ≤ o + z → o + z ≤ m → μ e o z = ν e o z) : tot k f m c L j μ = tot k f m c L j ν := by
  unfold tot
  rw [vv_congr h j 1 1 1 1 (by omega) (by omega) (by omega) (by omega), vv_congr h j 1 0 0 0 (by omega) (by omega) (by omega) (by omega)]
theorem tot_shift (hm1 : 1 ≤ m) {j d : Nat} (hj : m ≤ j + 1) : tot k f m c L (j + d) μ = tot k f m c L j μ * 12 ^ d := by
  unfold tot
  rw [vv_shift d j 1 1 1 1 (by omega), vv_shift d j 1 0 0 0 (by omega), Nat.add_mul, Nat.mul_assoc, Nat.mul_assoc]
theorem tot_add {j : Nat} : tot k f m c L j (fun a b d => μ a b d + ν a b d) = tot k f m c L j μ + tot k f m c L j ν := by
  unfold tot
  rw [vv_add, vv_add, Nat.mul_add, Nat.mul_add]
  omega
theorem tot_le {B : Nat} (hc : c ≤ 11) (hB : ∀ e o z, μ e o z ≤ B) {j : Nat} : tot k f m c L j μ ≤ B * 12 ^ (j + 1) := by
  unfold tot
  have h1 := Nat.mul_le_mul_left c (vv_le (k := k) (f := f) (m := m) (L := L) hc hB j 1 1 1 1)
  have h2 := Nat.mul_le_mul_left (12 - c) (vv_le (k := k) (f := f) (m := m) (L := L) hc hB j 1 0 0 0)
  have h3 : c * (B * 12 ^ j) + (12 - c) * (B * 12 ^ j) = B * 12 ^ (j + 1) := by
    rw [← Nat.add_mul, show c + (12 - c) = 12 by omega, Nat.pow_succ, Nat.mul_comm 12, Nat.mul_assoc]
  omega
theorem tot_one (hc : c ≤ 11) {j : Nat} : tot k f m c L j (fun _ _ _ => 1) = 12 ^ (j + 1) := by
  unfold tot
  rw [vv_one hc, vv_one hc, ← Nat.add_mul, show c + (12 - c) = 12 by omega, Nat.pow_succ, Nat.mul_comm]
theorem vv_nil : ∀ j n e o r, vv k f m c L (fun _ _ _ => 0) j n e o r = 0
  | 0, n, e, o, r => rfl
  | j + 1, n, e, o, r => by
    cases he : ends k f m n o r with
    | true => rw [vv_end he, Nat.zero_mul]
    | false => rw [vv_go he, vv_nil j, vv_nil j, Nat.mul_zero, Nat.mul_zero]
theorem tot_nil {j : Nat} : tot k f m c L j (fun _ _ _ => 0) = 0 := by
  unfold tot
  rw [vv_nil, vv_nil, Nat.mul_zero, Nat.mul_zero]
theorem vv_mul (a : Nat) : ∀ j n e o r, vv k f m c L (fun x y z => μ x y z * a) j n e o r = vv k f m c L μ j n e o r * a
  | 0, n, e, o, r => rfl
  | j + 1, n, e, o, r => by
    cases he : ends k f m n o r with
    | true => rw [vv_end he, vv_end he, Nat.mul_right_comm]
    | false => rw [vv_go he, vv_go he, vv_mul a j, vv_mul a j, Nat.add_mul, Nat.mul_assoc, Nat.mul_assoc]
theorem tot_mul (a : Nat) {j : Nat} : tot k f m c L j (fun x y z => μ x y z * a) = tot k f m c L j μ * a := by
  unfold tot
  rw [vv_mul, vv_mul, Nat.add_mul, Nat.mul_assoc, Nat.mul_assoc]
end VV
/-- the place of a cell -/
def pl (e o r : Nat) : Nat := e * 121 + o * 11 + r
theorem pl_lt {e o r : Nat} (he : e ≤ 1) (ho : o ≤ 10) (hr : r ≤ 10) : pl e o r < 242 := by unfold pl; omega
theorem pl_e {e o r : Nat} (ho : o ≤ 10) (hr : r ≤ 10) : pl e o r / 121 = e := by unfold pl; omega
theorem pl_o {e o r : Nat} (ho : o ≤ 10) (hr : r ≤ 10) : pl e o r / 11 % 11 = o := by unfold pl; omega
theorem pl_r {e o r : Nat} (hr : r ≤ 10) : pl e o r % 11 = r := by unfold pl; omega
/-- one end's cell, of the tally -/
theorem tal_cell {k f m c L : Nat} {ee : Nat → Nat} (h : talOK k f m c L ee) {e o z : Nat} (he : e ≤ 1) (ho : o ≤ 10) (hz : z ≤ 10) : ee (pl e o z) = tot k f m c L 9 (fun e' o' z' => if e' = e ∧ o' = o ∧ z' = z then 1 else 0) := by
  rw [← h]
  have h1 : sm (fun j => ee j * (if j / 121 = e ∧ j / 11 % 11 = o ∧ j % 11 = z then 1 else 0)) 242 = sm (fun j => if j = pl e o z then ee (pl e o z) else 0) 242 := by
    apply sm_congr
    intro j hj
    show ee j * (if j / 121 = e ∧ j / 11 % 11 = o ∧ j % 11 = z then 1 else 0) = if j = pl e o z then ee (pl e o z) else 0
    by_cases q : j = pl e o z
    · rw [ifp q, ifp (by rw [q, pl_e ho hz, pl_o ho hz, pl_r hz]; exact ⟨rfl, rfl, rfl⟩), Nat.mul_one, q]
    · rw [ifn q, ifn (fun w => q (by unfold pl; omega)), Nat.mul_zero]
  rw [h1, sm_pt 242 (pl_lt he ho hz)]
/-- a cell that no family can come to -/
theorem tal_zero {k f m c L : Nat} {ee : Nat → Nat} (hm1 : 1 ≤ m) (hm : m ≤ 10) (h : talOK k f m c L ee) {e o z : Nat} (he : e ≤ 1) (ho : o ≤ 10) (hz : z ≤ 10) (hoz : m < o + z ∨ o + z = 0) : ee (pl e o z) = 0 := by
  rw [tal_cell h he ho hz, tot_congr (ν := fun _ _ _ => 0) hm1 (by omega) (fun e' o' z' h1 h2 => ifn (by omega) _ _), tot_nil]
/-- the double sum over a tally -/
theorem tal_sum {k f m c L : Nat} {ee : Nat → Nat} (hm1 : 1 ≤ m) (hm : m ≤ 10) (h : talOK k f m c L ee) (M : Nat → Nat → Nat) : sm (fun o => sm (fun z => (ee (pl 0 o z) + ee (pl 1 o z)) * M o z) (m - o + 1)) (m + 1) = tot k f m c L 9 (fun _ o z => M o z) := by
  rw [← h]
  have h0 : ∀ e o z, e ≤ 1 → o ≤ 10 → z ≤ 10 → m < o + z → ee (pl e o z) = 0 := fun e o z he ho hz hw => tal_zero hm1 hm h he ho hz (Or.inl hw)
  have e1 : sm (fun j => ee j * M (j / 11 % 11) (j % 11)) (2 * 121) = sm (fun e => sm (fun t => ee (e * 121 + t) * M ((e * 121 + t) / 11 % 11) ((e * 121 + t) % 11)) 121) 2 := sm_blk 121 2
  have e2 : ∀ e, e < 2 → sm (fun t => ee (e * 121 + t) * M ((e * 121 + t) / 11 % 11) ((e * 121 + t) % 11)) (11 * 11) = sm (fun o => sm (fun z => ee (pl e o z) * M o z) (m - o + 1)) (m + 1) := by
    intro e he
    rw [sm_blk 11 11]
    have e3 : ∀ o, o < 11 → sm (fun j => ee (e * 121 + (o * 11 + j)) * M ((e * 121 + (o * 11 + j)) / 11 % 11) ((e * 121 + (o * 11 + j)) % 11)) 11 = sm (fun z => ee (pl e o z) * M o z) 11 := by
      intro o ho
      apply sm_congr
      intro z hz
      have q : e * 121 + (o * 11 + z) = pl e o z := by unfold pl; omega
      show ee (e * 121 + (o * 11 + z)) * M ((e * 121 + (o * 11 + z)) / 11 % 11) ((e * 121 + (o * 11 + z)) % 11) = ee (pl e o z) * M o z
      rw [q, pl_o (by omega) (by omega), pl_r (by omega)]
    rw [sm_congr 11 e3, sm_cut (a := m + 1) 11 (by omega) (fun o h1 h2 => sm_z 11 (fun z hz => by
      show ee (pl e o z) * M o z = 0
      rw [h0 e o z (by omega) (by omega) (by omega) (by omega), Nat.zero_mul]))]
    apply sm_congr
    intro o ho
    exact sm_cut (a := m - o + 1) 11 (by omega) (fun z h1 h2 => by
      show ee (pl e o z) * M o z = 0
      rw [h0 e o z (by omega) (by omega) (by omega) (by omega), Nat.zero_mul])
  have e4 : sm (fun e => sm (fun t => ee (e * 121 + t) * M ((e * 121 + t) / 11 % 11) ((e * 121 + t) % 11)) 121) 2 = sm (fun o => sm (fun z => ee (pl 0 o z) * M o z) (m - o + 1)) (m + 1) + sm (fun o => sm (fun z => ee (pl 1 o z) * M o z) (m - o + 1)) (m + 1) := by
    show 0 + _ + _ = _
    rw [Nat.zero_add]
    have a0 := e2 0 (by omega)
    have a1 := e2 1 (by omega)
    exact Eq.trans (congrArg (fun x => x + _) a0) (congrArg (fun x => _ + x) a1)
  have e5 : sm (fun o => sm (fun z => (ee (pl 0 o z) + ee (pl 1 o z)) * M o z) (m - o + 1)) (m + 1) = sm (fun o => sm (fun z => ee (pl 0 o z) * M o z) (m - o + 1) + sm (fun z => ee (pl 1 o z) * M o z) (m - o + 1)) (m + 1) := by
    apply sm_congr
    intro o _
    show sm (fun z => (ee (pl 0 o z) + ee (pl 1 o z)) * M o z) (m - o + 1) = sm (fun z => ee (pl 0 o z) * M o z) (m - o + 1) + sm (fun z => ee (pl 1 o z) * M o z) (m - o + 1)
    rw [← sm_add]
    apply sm_congr
    intro z _
    exact Nat.add_mul _ _ _
  rw [e5, sm_add, ← e4, ← e1]
