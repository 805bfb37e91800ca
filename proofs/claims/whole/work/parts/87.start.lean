/-! THE LAW'S START: both objects are made, then its loop -/
def tld (b : Nat) : Int32 := if b = 1 then 1 else if b = 2 then 5 else if b = 3 then 6 else 0
def sg0 : Mm := (fun a b => if isTold a = true then tld b else if isTal a = true then (if b = 2 then -1 else 0) else 0, fun _ _ => 0, 36, 38)
def tu0 : Mm := (fun a => if a = 2 then upd (upd (upd (upd (fun _ => 0) (0 : Int32).toNatClampNeg 5) (1 : Int32).toNatClampNeg 6) (2 : Int32).toNatClampNeg 5) (4 : Int32).toNatClampNeg 1 else fun _ => 0, fun _ _ => 0, 0, 0)
def ss0 (k : Nat) : Nat := if k = 0 then 5 else if k = 1 then 6 else if k = 2 then 5 else if k = 4 then 1 else 0
theorem Rel_0 : Rel sg0 tu0 := by
  refine Rel_of (s := ss0) (g := fun _ => 0) (im := false) (tx := fun _ => 0) (tn := 0) (rn := 0) (rb := 0) (rf := fun _ => 0) ?_ ?_ ?_ ?_
  · exact ⟨⟨by decide, by decide, by decide, by decide, by decide, by decide, by decide, by decide, by decide, fun k hk => absurd hk (Nat.not_lt_zero k)⟩, fun q => (by cases q), by decide, fun k hk => absurd hk (Nat.not_lt_zero k), by decide, by decide⟩
  · refine ⟨⟨by decide, by decide, by decide, by decide, by decide, by decide, fun k hk => absurd hk (Nat.not_lt_zero k)⟩, by decide, fun q => (by cases q), by decide, fun k hk => absurd hk (Nat.not_lt_zero k), by decide, by decide, fun k _ => rfl⟩
  · refine ⟨fun t ht => Or.inl ?_, Or.inl ⟨rfl, rfl⟩⟩
    have h1 := tal_iff.mp ht
    have h2 : ¬ isTold t = true := by rw [told_iff]; omega
    show (if isTold t = true then tld 2 else if isTal t = true then (if (2 : Nat) = 2 then (-1 : Int32) else 0) else 0) = -1
    rw [ifn h2, ifp ht, ifp rfl]
  · refine ⟨⟨by decide, by decide, by decide, by decide, by decide, by decide, fun k hk => absurd hk (Nat.not_lt_zero k)⟩, by decide, fun q => (by cases q), by decide, fun k hk => absurd hk (Nat.not_lt_zero k), by decide, ⟨0, by decide, by decide, rfl⟩, fun k _ => rfl⟩
/-! where each cell stands in the list that the constructors give -/
def pos (i : Nat) : Nat := if i ≤ 13 then i else if i ≤ 34 then i + 5 else i - 21
def pom (i : Nat) : Nat := 40 + i
theorem pos_inj {i j : Nat} (hi : i < 40) (hj : j < 40) (h : pos i = pos j) : i = j := by
  unfold pos at h
  by_cases a1 : i ≤ 13 <;> by_cases b1 : j ≤ 13 <;> by_cases a2 : i ≤ 34 <;> by_cases b2 : j ≤ 34 <;> simp [a1, b1, a2, b2] at h <;> omega
theorem pos_lt {i : Nat} (hi : i < 40) : pos i < 40 := by
  unfold pos
  by_cases a1 : i ≤ 13 <;> by_cases a2 : i ≤ 34 <;> simp [a1, a2] <;> omega
def PX (ws : va_W) (p : Nat → Nat) (ad : Nat → Nat) (ce : Nat → va_E) (i : Nat) : Prop := ∃ e : va_E, ws[p i]? = some (ad i, e) ∧ ∀ (D : va_G) (H : Heap), va_at D vwCl (ad i, e) H → va_at D vwCl (ad i, ce i) H
theorem PX_wl {ws : va_W} {p ad : Nat → Nat} {ce : Nat → va_E} {N : Nat} {D : va_G} {H : Heap} (h : ∀ i, i < N → PX ws p ad ce i) (hP : va_P D vwCl ws H) : va_P D vwCl (wl N ad ce) H := by
  intro k x hx
  obtain ⟨hi, rfl⟩ := wl_inv hx
  obtain ⟨e, h1, h2⟩ := h k hi
  exact h2 D H (hP _ _ h1)
theorem PX_in {ws : va_W} {p ad : Nat → Nat} {ce : Nat → va_E} {N : Nat} {A : Nat → Prop} (h : ∀ i, i < N → PX ws p ad ce i) (hD : va_D A ws) (i : Nat) (hi : i < N) : A (ad i) := by
  obtain ⟨e, h1, -⟩ := h i hi
  exact hD.2 _ _ h1
theorem PX_ap {ws : va_W} {p q ad be : Nat → Nat} {ce de : Nat → va_E} {N M : Nat} {A : Nat → Prop} (h : ∀ i, i < N → PX ws p ad ce i) (h' : ∀ i, i < M → PX ws q be de i) (hD : va_D A ws) {i j : Nat} (hi : i < N) (hj : j < M) (e : ad i = be j) : p i = q j := by
  obtain ⟨e1, h1, -⟩ := h i hi
  obtain ⟨e2, h2, -⟩ := h' j hj
  exact hD.1 _ _ _ _ h1 h2 e
theorem ltS {P : Nat → Prop} {n : Nat} (h : ∀ i, i < n → P i) (hn : P n) : ∀ i, i < n + 1 → P i := by
  intro i hi
  by_cases e : i = n
  · rw [e]; exact hn
  · exact h i (by omega)
theorem arrV_same {c : ClassId} {N : Nat} {f g : Nat → Value} (h : ∀ k, k < N → f k = g k) : arrV c N f = arrV c N g := by
  unfold arrV
  rw [show (fun j : Fin N => f j.val) = (fun j : Fin N => g j.val) from funext fun j => h j.val j.isLt]
theorem at_tl {D : va_G} {H : Heap} {a : Nat} {cO : ClassId} {f g : Nat → Option Nat} (h : va_at D vwCl (a, .inl (cO, 6, .inr (.inr (.inr (.inr f))))) H) (hfg : ∀ k, k < 6 → f k = g k) : va_at D vwCl (a, .inl (cO, 6, .inr (.inr (.inr (.inr g))))) H := by
  have h1 : H[a]? = some (arrV cO 6 (fun j => va_rf (f j))) := h
  have h3 : arrV cO 6 (fun j => va_rf (f j)) = arrV cO 6 (fun j => va_rf (g j)) := arrV_same (fun k hk => congrArg va_rf (hfg k hk))
  have h2 : H[a]? = some (arrV cO 6 (fun j => va_rf (g j))) := by rw [h1, h3]
  exact h2
def adX (q0 : Nat) (u : Nat × Nat × Nat × Nat × Nat × Nat × Nat × Nat × Nat × Nat × Nat × Nat × Nat × Nat × Nat × Nat × Nat × Nat × Nat × Nat × Nat × Nat × Nat × Nat × Nat × Nat × Nat × Nat × Nat × Nat × Nat × Nat × Nat × Nat × Nat × Nat × Nat × Nat × Nat) : List Nat := (q0 : Nat) :: u.1 :: u.2.1 :: u.2.2.1 :: u.2.2.2.1 :: u.2.2.2.2.1 :: u.2.2.2.2.2.1 :: u.2.2.2.2.2.2.1 :: u.2.2.2.2.2.2.2.1 :: u.2.2.2.2.2.2.2.2.1 :: u.2.2.2.2.2.2.2.2.2.1 :: u.2.2.2.2.2.2.2.2.2.2.1 :: u.2.2.2.2.2.2.2.2.2.2.2.1 :: u.2.2.2.2.2.2.2.2.2.2.2.2.1 :: u.2.2.2.2.2.2.2.2.2.2.2.2.2.2.2.2.2.2.1 :: u.2.2.2.2.2.2.2.2.2.2.2.2.2.2.2.2.2.2.2.1 :: u.2.2.2.2.2.2.2.2.2.2.2.2.2.2.2.2.2.2.2.2.1 :: u.2.2.2.2.2.2.2.2.2.2.2.2.2.2.2.2.2.2.2.2.2.1 :: u.2.2.2.2.2.2.2.2.2.2.2.2.2.2.2.2.2.2.2.2.2.2.1 :: u.2.2.2.2.2.2.2.2.2.2.2.2.2.2.2.2.2.2.2.2.2.2.2.1 :: u.2.2.2.2.2.2.2.2.2.2.2.2.2.2.2.2.2.2.2.2.2.2.2.2.1 :: u.2.2.2.2.2.2.2.2.2.2.2.2.2.2.2.2.2.2.2.2.2.2.2.2.2.1 :: u.2.2.2.2.2.2.2.2.2.2.2.2.2.2.2.2.2.2.2.2.2.2.2.2.2.2.1 :: u.2.2.2.2.2.2.2.2.2.2.2.2.2.2.2.2.2.2.2.2.2.2.2.2.2.2.2.1 :: u.2.2.2.2.2.2.2.2.2.2.2.2.2.2.2.2.2.2.2.2.2.2.2.2.2.2.2.2.1 :: u.2.2.2.2.2.2.2.2.2.2.2.2.2.2.2.2.2.2.2.2.2.2.2.2.2.2.2.2.2.1 :: u.2.2.2.2.2.2.2.2.2.2.2.2.2.2.2.2.2.2.2.2.2.2.2.2.2.2.2.2.2.2.1 :: u.2.2.2.2.2.2.2.2.2.2.2.2.2.2.2.2.2.2.2.2.2.2.2.2.2.2.2.2.2.2.2.1 :: u.2.2.2.2.2.2.2.2.2.2.2.2.2.2.2.2.2.2.2.2.2.2.2.2.2.2.2.2.2.2.2.2.1 :: u.2.2.2.2.2.2.2.2.2.2.2.2.2.2.2.2.2.2.2.2.2.2.2.2.2.2.2.2.2.2.2.2.2.1 :: u.2.2.2.2.2.2.2.2.2.2.2.2.2.2.2.2.2.2.2.2.2.2.2.2.2.2.2.2.2.2.2.2.2.2.1 :: u.2.2.2.2.2.2.2.2.2.2.2.2.2.2.2.2.2.2.2.2.2.2.2.2.2.2.2.2.2.2.2.2.2.2.2.1 :: u.2.2.2.2.2.2.2.2.2.2.2.2.2.2.2.2.2.2.2.2.2.2.2.2.2.2.2.2.2.2.2.2.2.2.2.2.1 :: u.2.2.2.2.2.2.2.2.2.2.2.2.2.2.2.2.2.2.2.2.2.2.2.2.2.2.2.2.2.2.2.2.2.2.2.2.2.1 :: u.2.2.2.2.2.2.2.2.2.2.2.2.2.2.2.2.2.2.2.2.2.2.2.2.2.2.2.2.2.2.2.2.2.2.2.2.2.2 :: u.2.2.2.2.2.2.2.2.2.2.2.2.2.1 :: u.2.2.2.2.2.2.2.2.2.2.2.2.2.2.1 :: u.2.2.2.2.2.2.2.2.2.2.2.2.2.2.2.1 :: u.2.2.2.2.2.2.2.2.2.2.2.2.2.2.2.2.1 :: u.2.2.2.2.2.2.2.2.2.2.2.2.2.2.2.2.2.1 :: []
def adM (q8 : Nat) (v : Nat × Nat × Nat × Nat × Nat × Nat × Nat) : List Nat := [q8, v.1, v.2.1, v.2.2.1, v.2.2.2.1, v.2.2.2.2.1, v.2.2.2.2.2.1, v.2.2.2.2.2.2]
section ST
variable {D : va_G} {cI cJ cO : ClassId} {t q0 q8 : Nat} {u : Nat × Nat × Nat × Nat × Nat × Nat × Nat × Nat × Nat × Nat × Nat × Nat × Nat × Nat × Nat × Nat × Nat × Nat × Nat × Nat × Nat × Nat × Nat × Nat × Nat × Nat × Nat × Nat × Nat × Nat × Nat × Nat × Nat × Nat × Nat × Nat × Nat × Nat × Nat} {v : Nat × Nat × Nat × Nat × Nat × Nat × Nat}
set_option maxRecDepth 100000 in
set_option maxHeartbeats 4000000 in
theorem pX_0 : PX (wwX5 ((D, (fun _ => 0), (cI, cJ, cO), t) : Cx) q0 u ++ wwX6 ((D, (fun _ => 0), (cI, cJ, cO), t) : Cx) q8 v) pos (fun i => (adX q0 u).getD i 0) (ceX ((D, (fun i => (adX q0 u).getD i 0), (cI, cJ, cO), t) : Cx) sg0) 0 := ⟨ceX ((D, (fun i => (adX q0 u).getD i 0), (cI, cJ, cO), t) : Cx) sg0 0, rfl, fun _ _ h => h⟩
set_option maxRecDepth 100000 in
set_option maxHeartbeats 4000000 in
theorem pX_1 : PX (wwX5 ((D, (fun _ => 0), (cI, cJ, cO), t) : Cx) q0 u ++ wwX6 ((D, (fun _ => 0), (cI, cJ, cO), t) : Cx) q8 v) pos (fun i => (adX q0 u).getD i 0) (ceX ((D, (fun i => (adX q0 u).getD i 0), (cI, cJ, cO), t) : Cx) sg0) 1 := ⟨ceX ((D, (fun i => (adX q0 u).getD i 0), (cI, cJ, cO), t) : Cx) sg0 1, rfl, fun _ _ h => h⟩
set_option maxRecDepth 100000 in
set_option maxHeartbeats 4000000 in
theorem pX_2 : PX (wwX5 ((D, (fun _ => 0), (cI, cJ, cO), t) : Cx) q0 u ++ wwX6 ((D, (fun _ => 0), (cI, cJ, cO), t) : Cx) q8 v) pos (fun i => (adX q0 u).getD i 0) (ceX ((D, (fun i => (adX q0 u).getD i 0), (cI, cJ, cO), t) : Cx) sg0) 2 := ⟨ceX ((D, (fun i => (adX q0 u).getD i 0), (cI, cJ, cO), t) : Cx) sg0 2, rfl, fun _ _ h => h⟩
set_option maxRecDepth 100000 in
set_option maxHeartbeats 4000000 in
theorem pX_3 : PX (wwX5 ((D, (fun _ => 0), (cI, cJ, cO), t) : Cx) q0 u ++ wwX6 ((D, (fun _ => 0), (cI, cJ, cO), t) : Cx) q8 v) pos (fun i => (adX q0 u).getD i 0) (ceX ((D, (fun i => (adX q0 u).getD i 0), (cI, cJ, cO), t) : Cx) sg0) 3 := ⟨ceX ((D, (fun i => (adX q0 u).getD i 0), (cI, cJ, cO), t) : Cx) sg0 3, rfl, fun _ _ h => h⟩
set_option maxRecDepth 100000 in
set_option maxHeartbeats 4000000 in
theorem pX_4 : PX (wwX5 ((D, (fun _ => 0), (cI, cJ, cO), t) : Cx) q0 u ++ wwX6 ((D, (fun _ => 0), (cI, cJ, cO), t) : Cx) q8 v) pos (fun i => (adX q0 u).getD i 0) (ceX ((D, (fun i => (adX q0 u).getD i 0), (cI, cJ, cO), t) : Cx) sg0) 4 := ⟨ceX ((D, (fun i => (adX q0 u).getD i 0), (cI, cJ, cO), t) : Cx) sg0 4, rfl, fun _ _ h => h⟩
set_option maxRecDepth 100000 in
set_option maxHeartbeats 4000000 in
theorem pX_5 : PX (wwX5 ((D, (fun _ => 0), (cI, cJ, cO), t) : Cx) q0 u ++ wwX6 ((D, (fun _ => 0), (cI, cJ, cO), t) : Cx) q8 v) pos (fun i => (adX q0 u).getD i 0) (ceX ((D, (fun i => (adX q0 u).getD i 0), (cI, cJ, cO), t) : Cx) sg0) 5 := ⟨ceX ((D, (fun i => (adX q0 u).getD i 0), (cI, cJ, cO), t) : Cx) sg0 5, rfl, fun _ _ h => h⟩
set_option maxRecDepth 100000 in
set_option maxHeartbeats 4000000 in
theorem pX_6 : PX (wwX5 ((D, (fun _ => 0), (cI, cJ, cO), t) : Cx) q0 u ++ wwX6 ((D, (fun _ => 0), (cI, cJ, cO), t) : Cx) q8 v) pos (fun i => (adX q0 u).getD i 0) (ceX ((D, (fun i => (adX q0 u).getD i 0), (cI, cJ, cO), t) : Cx) sg0) 6 := ⟨ceX ((D, (fun i => (adX q0 u).getD i 0), (cI, cJ, cO), t) : Cx) sg0 6, rfl, fun _ _ h => h⟩
set_option maxRecDepth 100000 in
set_option maxHeartbeats 4000000 in
theorem pX_7 : PX (wwX5 ((D, (fun _ => 0), (cI, cJ, cO), t) : Cx) q0 u ++ wwX6 ((D, (fun _ => 0), (cI, cJ, cO), t) : Cx) q8 v) pos (fun i => (adX q0 u).getD i 0) (ceX ((D, (fun i => (adX q0 u).getD i 0), (cI, cJ, cO), t) : Cx) sg0) 7 := ⟨ceX ((D, (fun i => (adX q0 u).getD i 0), (cI, cJ, cO), t) : Cx) sg0 7, rfl, fun _ _ h => h⟩
set_option maxRecDepth 100000 in
set_option maxHeartbeats 4000000 in
theorem pX_8 : PX (wwX5 ((D, (fun _ => 0), (cI, cJ, cO), t) : Cx) q0 u ++ wwX6 ((D, (fun _ => 0), (cI, cJ, cO), t) : Cx) q8 v) pos (fun i => (adX q0 u).getD i 0) (ceX ((D, (fun i => (adX q0 u).getD i 0), (cI, cJ, cO), t) : Cx) sg0) 8 := ⟨ceX ((D, (fun i => (adX q0 u).getD i 0), (cI, cJ, cO), t) : Cx) sg0 8, rfl, fun _ _ h => h⟩
set_option maxRecDepth 100000 in
set_option maxHeartbeats 4000000 in
theorem pX_9 : PX (wwX5 ((D, (fun _ => 0), (cI, cJ, cO), t) : Cx) q0 u ++ wwX6 ((D, (fun _ => 0), (cI, cJ, cO), t) : Cx) q8 v) pos (fun i => (adX q0 u).getD i 0) (ceX ((D, (fun i => (adX q0 u).getD i 0), (cI, cJ, cO), t) : Cx) sg0) 9 := ⟨ceX ((D, (fun i => (adX q0 u).getD i 0), (cI, cJ, cO), t) : Cx) sg0 9, rfl, fun _ _ h => h⟩
set_option maxRecDepth 100000 in
set_option maxHeartbeats 4000000 in
theorem pX_10 : PX (wwX5 ((D, (fun _ => 0), (cI, cJ, cO), t) : Cx) q0 u ++ wwX6 ((D, (fun _ => 0), (cI, cJ, cO), t) : Cx) q8 v) pos (fun i => (adX q0 u).getD i 0) (ceX ((D, (fun i => (adX q0 u).getD i 0), (cI, cJ, cO), t) : Cx) sg0) 10 := ⟨ceX ((D, (fun i => (adX q0 u).getD i 0), (cI, cJ, cO), t) : Cx) sg0 10, rfl, fun _ _ h => h⟩
set_option maxRecDepth 100000 in
set_option maxHeartbeats 4000000 in
theorem pX_11 : PX (wwX5 ((D, (fun _ => 0), (cI, cJ, cO), t) : Cx) q0 u ++ wwX6 ((D, (fun _ => 0), (cI, cJ, cO), t) : Cx) q8 v) pos (fun i => (adX q0 u).getD i 0) (ceX ((D, (fun i => (adX q0 u).getD i 0), (cI, cJ, cO), t) : Cx) sg0) 11 := ⟨ceX ((D, (fun i => (adX q0 u).getD i 0), (cI, cJ, cO), t) : Cx) sg0 11, rfl, fun _ _ h => h⟩
set_option maxRecDepth 100000 in
set_option maxHeartbeats 4000000 in
theorem pX_12 : PX (wwX5 ((D, (fun _ => 0), (cI, cJ, cO), t) : Cx) q0 u ++ wwX6 ((D, (fun _ => 0), (cI, cJ, cO), t) : Cx) q8 v) pos (fun i => (adX q0 u).getD i 0) (ceX ((D, (fun i => (adX q0 u).getD i 0), (cI, cJ, cO), t) : Cx) sg0) 12 := ⟨ceX ((D, (fun i => (adX q0 u).getD i 0), (cI, cJ, cO), t) : Cx) sg0 12, rfl, fun _ _ h => h⟩
set_option maxRecDepth 100000 in
set_option maxHeartbeats 4000000 in
theorem pX_13 : PX (wwX5 ((D, (fun _ => 0), (cI, cJ, cO), t) : Cx) q0 u ++ wwX6 ((D, (fun _ => 0), (cI, cJ, cO), t) : Cx) q8 v) pos (fun i => (adX q0 u).getD i 0) (ceX ((D, (fun i => (adX q0 u).getD i 0), (cI, cJ, cO), t) : Cx) sg0) 13 := by
  refine ⟨_, rfl, fun D' H h => ?_⟩
  rw [cXT]
  refine at_tl h (fun k hk => ?_)
  rcases (show k = 0 ∨ k = 1 ∨ k = 2 ∨ k = 3 ∨ k = 4 ∨ k = 5 by omega) with rfl | rfl | rfl | rfl | rfl | rfl <;> rfl
set_option maxRecDepth 100000 in
set_option maxHeartbeats 4000000 in
theorem pX_14 : PX (wwX5 ((D, (fun _ => 0), (cI, cJ, cO), t) : Cx) q0 u ++ wwX6 ((D, (fun _ => 0), (cI, cJ, cO), t) : Cx) q8 v) pos (fun i => (adX q0 u).getD i 0) (ceX ((D, (fun i => (adX q0 u).getD i 0), (cI, cJ, cO), t) : Cx) sg0) 14 := ⟨ceX ((D, (fun i => (adX q0 u).getD i 0), (cI, cJ, cO), t) : Cx) sg0 14, rfl, fun _ _ h => h⟩
set_option maxRecDepth 100000 in
set_option maxHeartbeats 4000000 in
theorem pX_15 : PX (wwX5 ((D, (fun _ => 0), (cI, cJ, cO), t) : Cx) q0 u ++ wwX6 ((D, (fun _ => 0), (cI, cJ, cO), t) : Cx) q8 v) pos (fun i => (adX q0 u).getD i 0) (ceX ((D, (fun i => (adX q0 u).getD i 0), (cI, cJ, cO), t) : Cx) sg0) 15 := ⟨ceX ((D, (fun i => (adX q0 u).getD i 0), (cI, cJ, cO), t) : Cx) sg0 15, rfl, fun _ _ h => h⟩
set_option maxRecDepth 100000 in
set_option maxHeartbeats 4000000 in
theorem pX_16 : PX (wwX5 ((D, (fun _ => 0), (cI, cJ, cO), t) : Cx) q0 u ++ wwX6 ((D, (fun _ => 0), (cI, cJ, cO), t) : Cx) q8 v) pos (fun i => (adX q0 u).getD i 0) (ceX ((D, (fun i => (adX q0 u).getD i 0), (cI, cJ, cO), t) : Cx) sg0) 16 := ⟨ceX ((D, (fun i => (adX q0 u).getD i 0), (cI, cJ, cO), t) : Cx) sg0 16, rfl, fun _ _ h => h⟩
set_option maxRecDepth 100000 in
set_option maxHeartbeats 4000000 in
theorem pX_17 : PX (wwX5 ((D, (fun _ => 0), (cI, cJ, cO), t) : Cx) q0 u ++ wwX6 ((D, (fun _ => 0), (cI, cJ, cO), t) : Cx) q8 v) pos (fun i => (adX q0 u).getD i 0) (ceX ((D, (fun i => (adX q0 u).getD i 0), (cI, cJ, cO), t) : Cx) sg0) 17 := ⟨ceX ((D, (fun i => (adX q0 u).getD i 0), (cI, cJ, cO), t) : Cx) sg0 17, rfl, fun _ _ h => h⟩
set_option maxRecDepth 100000 in
set_option maxHeartbeats 4000000 in
theorem pX_18 : PX (wwX5 ((D, (fun _ => 0), (cI, cJ, cO), t) : Cx) q0 u ++ wwX6 ((D, (fun _ => 0), (cI, cJ, cO), t) : Cx) q8 v) pos (fun i => (adX q0 u).getD i 0) (ceX ((D, (fun i => (adX q0 u).getD i 0), (cI, cJ, cO), t) : Cx) sg0) 18 := ⟨ceX ((D, (fun i => (adX q0 u).getD i 0), (cI, cJ, cO), t) : Cx) sg0 18, rfl, fun _ _ h => h⟩
set_option maxRecDepth 100000 in
set_option maxHeartbeats 4000000 in
theorem pX_19 : PX (wwX5 ((D, (fun _ => 0), (cI, cJ, cO), t) : Cx) q0 u ++ wwX6 ((D, (fun _ => 0), (cI, cJ, cO), t) : Cx) q8 v) pos (fun i => (adX q0 u).getD i 0) (ceX ((D, (fun i => (adX q0 u).getD i 0), (cI, cJ, cO), t) : Cx) sg0) 19 := ⟨ceX ((D, (fun i => (adX q0 u).getD i 0), (cI, cJ, cO), t) : Cx) sg0 19, rfl, fun _ _ h => h⟩
set_option maxRecDepth 100000 in
set_option maxHeartbeats 4000000 in
theorem pX_20 : PX (wwX5 ((D, (fun _ => 0), (cI, cJ, cO), t) : Cx) q0 u ++ wwX6 ((D, (fun _ => 0), (cI, cJ, cO), t) : Cx) q8 v) pos (fun i => (adX q0 u).getD i 0) (ceX ((D, (fun i => (adX q0 u).getD i 0), (cI, cJ, cO), t) : Cx) sg0) 20 := ⟨ceX ((D, (fun i => (adX q0 u).getD i 0), (cI, cJ, cO), t) : Cx) sg0 20, rfl, fun _ _ h => h⟩
set_option maxRecDepth 100000 in
set_option maxHeartbeats 4000000 in
theorem pX_21 : PX (wwX5 ((D, (fun _ => 0), (cI, cJ, cO), t) : Cx) q0 u ++ wwX6 ((D, (fun _ => 0), (cI, cJ, cO), t) : Cx) q8 v) pos (fun i => (adX q0 u).getD i 0) (ceX ((D, (fun i => (adX q0 u).getD i 0), (cI, cJ, cO), t) : Cx) sg0) 21 := ⟨ceX ((D, (fun i => (adX q0 u).getD i 0), (cI, cJ, cO), t) : Cx) sg0 21, rfl, fun _ _ h => h⟩
set_option maxRecDepth 100000 in
set_option maxHeartbeats 4000000 in
theorem pX_22 : PX (wwX5 ((D, (fun _ => 0), (cI, cJ, cO), t) : Cx) q0 u ++ wwX6 ((D, (fun _ => 0), (cI, cJ, cO), t) : Cx) q8 v) pos (fun i => (adX q0 u).getD i 0) (ceX ((D, (fun i => (adX q0 u).getD i 0), (cI, cJ, cO), t) : Cx) sg0) 22 := ⟨ceX ((D, (fun i => (adX q0 u).getD i 0), (cI, cJ, cO), t) : Cx) sg0 22, rfl, fun _ _ h => h⟩
set_option maxRecDepth 100000 in
set_option maxHeartbeats 4000000 in
theorem pX_23 : PX (wwX5 ((D, (fun _ => 0), (cI, cJ, cO), t) : Cx) q0 u ++ wwX6 ((D, (fun _ => 0), (cI, cJ, cO), t) : Cx) q8 v) pos (fun i => (adX q0 u).getD i 0) (ceX ((D, (fun i => (adX q0 u).getD i 0), (cI, cJ, cO), t) : Cx) sg0) 23 := ⟨ceX ((D, (fun i => (adX q0 u).getD i 0), (cI, cJ, cO), t) : Cx) sg0 23, rfl, fun _ _ h => h⟩
set_option maxRecDepth 100000 in
set_option maxHeartbeats 4000000 in
theorem pX_24 : PX (wwX5 ((D, (fun _ => 0), (cI, cJ, cO), t) : Cx) q0 u ++ wwX6 ((D, (fun _ => 0), (cI, cJ, cO), t) : Cx) q8 v) pos (fun i => (adX q0 u).getD i 0) (ceX ((D, (fun i => (adX q0 u).getD i 0), (cI, cJ, cO), t) : Cx) sg0) 24 := ⟨ceX ((D, (fun i => (adX q0 u).getD i 0), (cI, cJ, cO), t) : Cx) sg0 24, rfl, fun _ _ h => h⟩
set_option maxRecDepth 100000 in
set_option maxHeartbeats 4000000 in
theorem pX_25 : PX (wwX5 ((D, (fun _ => 0), (cI, cJ, cO), t) : Cx) q0 u ++ wwX6 ((D, (fun _ => 0), (cI, cJ, cO), t) : Cx) q8 v) pos (fun i => (adX q0 u).getD i 0) (ceX ((D, (fun i => (adX q0 u).getD i 0), (cI, cJ, cO), t) : Cx) sg0) 25 := ⟨ceX ((D, (fun i => (adX q0 u).getD i 0), (cI, cJ, cO), t) : Cx) sg0 25, rfl, fun _ _ h => h⟩
set_option maxRecDepth 100000 in
set_option maxHeartbeats 4000000 in
theorem pX_26 : PX (wwX5 ((D, (fun _ => 0), (cI, cJ, cO), t) : Cx) q0 u ++ wwX6 ((D, (fun _ => 0), (cI, cJ, cO), t) : Cx) q8 v) pos (fun i => (adX q0 u).getD i 0) (ceX ((D, (fun i => (adX q0 u).getD i 0), (cI, cJ, cO), t) : Cx) sg0) 26 := ⟨ceX ((D, (fun i => (adX q0 u).getD i 0), (cI, cJ, cO), t) : Cx) sg0 26, rfl, fun _ _ h => h⟩
set_option maxRecDepth 100000 in
set_option maxHeartbeats 4000000 in
theorem pX_27 : PX (wwX5 ((D, (fun _ => 0), (cI, cJ, cO), t) : Cx) q0 u ++ wwX6 ((D, (fun _ => 0), (cI, cJ, cO), t) : Cx) q8 v) pos (fun i => (adX q0 u).getD i 0) (ceX ((D, (fun i => (adX q0 u).getD i 0), (cI, cJ, cO), t) : Cx) sg0) 27 := ⟨ceX ((D, (fun i => (adX q0 u).getD i 0), (cI, cJ, cO), t) : Cx) sg0 27, rfl, fun _ _ h => h⟩
set_option maxRecDepth 100000 in
set_option maxHeartbeats 4000000 in
theorem pX_28 : PX (wwX5 ((D, (fun _ => 0), (cI, cJ, cO), t) : Cx) q0 u ++ wwX6 ((D, (fun _ => 0), (cI, cJ, cO), t) : Cx) q8 v) pos (fun i => (adX q0 u).getD i 0) (ceX ((D, (fun i => (adX q0 u).getD i 0), (cI, cJ, cO), t) : Cx) sg0) 28 := ⟨ceX ((D, (fun i => (adX q0 u).getD i 0), (cI, cJ, cO), t) : Cx) sg0 28, rfl, fun _ _ h => h⟩
set_option maxRecDepth 100000 in
set_option maxHeartbeats 4000000 in
theorem pX_29 : PX (wwX5 ((D, (fun _ => 0), (cI, cJ, cO), t) : Cx) q0 u ++ wwX6 ((D, (fun _ => 0), (cI, cJ, cO), t) : Cx) q8 v) pos (fun i => (adX q0 u).getD i 0) (ceX ((D, (fun i => (adX q0 u).getD i 0), (cI, cJ, cO), t) : Cx) sg0) 29 := ⟨ceX ((D, (fun i => (adX q0 u).getD i 0), (cI, cJ, cO), t) : Cx) sg0 29, rfl, fun _ _ h => h⟩
set_option maxRecDepth 100000 in
set_option maxHeartbeats 4000000 in
theorem pX_30 : PX (wwX5 ((D, (fun _ => 0), (cI, cJ, cO), t) : Cx) q0 u ++ wwX6 ((D, (fun _ => 0), (cI, cJ, cO), t) : Cx) q8 v) pos (fun i => (adX q0 u).getD i 0) (ceX ((D, (fun i => (adX q0 u).getD i 0), (cI, cJ, cO), t) : Cx) sg0) 30 := ⟨ceX ((D, (fun i => (adX q0 u).getD i 0), (cI, cJ, cO), t) : Cx) sg0 30, rfl, fun _ _ h => h⟩
set_option maxRecDepth 100000 in
set_option maxHeartbeats 4000000 in
theorem pX_31 : PX (wwX5 ((D, (fun _ => 0), (cI, cJ, cO), t) : Cx) q0 u ++ wwX6 ((D, (fun _ => 0), (cI, cJ, cO), t) : Cx) q8 v) pos (fun i => (adX q0 u).getD i 0) (ceX ((D, (fun i => (adX q0 u).getD i 0), (cI, cJ, cO), t) : Cx) sg0) 31 := ⟨ceX ((D, (fun i => (adX q0 u).getD i 0), (cI, cJ, cO), t) : Cx) sg0 31, rfl, fun _ _ h => h⟩
set_option maxRecDepth 100000 in
set_option maxHeartbeats 4000000 in
theorem pX_32 : PX (wwX5 ((D, (fun _ => 0), (cI, cJ, cO), t) : Cx) q0 u ++ wwX6 ((D, (fun _ => 0), (cI, cJ, cO), t) : Cx) q8 v) pos (fun i => (adX q0 u).getD i 0) (ceX ((D, (fun i => (adX q0 u).getD i 0), (cI, cJ, cO), t) : Cx) sg0) 32 := ⟨ceX ((D, (fun i => (adX q0 u).getD i 0), (cI, cJ, cO), t) : Cx) sg0 32, rfl, fun _ _ h => h⟩
set_option maxRecDepth 100000 in
set_option maxHeartbeats 4000000 in
theorem pX_33 : PX (wwX5 ((D, (fun _ => 0), (cI, cJ, cO), t) : Cx) q0 u ++ wwX6 ((D, (fun _ => 0), (cI, cJ, cO), t) : Cx) q8 v) pos (fun i => (adX q0 u).getD i 0) (ceX ((D, (fun i => (adX q0 u).getD i 0), (cI, cJ, cO), t) : Cx) sg0) 33 := ⟨ceX ((D, (fun i => (adX q0 u).getD i 0), (cI, cJ, cO), t) : Cx) sg0 33, rfl, fun _ _ h => h⟩
set_option maxRecDepth 100000 in
set_option maxHeartbeats 4000000 in
theorem pX_34 : PX (wwX5 ((D, (fun _ => 0), (cI, cJ, cO), t) : Cx) q0 u ++ wwX6 ((D, (fun _ => 0), (cI, cJ, cO), t) : Cx) q8 v) pos (fun i => (adX q0 u).getD i 0) (ceX ((D, (fun i => (adX q0 u).getD i 0), (cI, cJ, cO), t) : Cx) sg0) 34 := ⟨ceX ((D, (fun i => (adX q0 u).getD i 0), (cI, cJ, cO), t) : Cx) sg0 34, rfl, fun _ _ h => h⟩
set_option maxRecDepth 100000 in
set_option maxHeartbeats 4000000 in
theorem pX_35 : PX (wwX5 ((D, (fun _ => 0), (cI, cJ, cO), t) : Cx) q0 u ++ wwX6 ((D, (fun _ => 0), (cI, cJ, cO), t) : Cx) q8 v) pos (fun i => (adX q0 u).getD i 0) (ceX ((D, (fun i => (adX q0 u).getD i 0), (cI, cJ, cO), t) : Cx) sg0) 35 := ⟨ceX ((D, (fun i => (adX q0 u).getD i 0), (cI, cJ, cO), t) : Cx) sg0 35, rfl, fun _ _ h => h⟩
set_option maxRecDepth 100000 in
set_option maxHeartbeats 4000000 in
theorem pX_36 : PX (wwX5 ((D, (fun _ => 0), (cI, cJ, cO), t) : Cx) q0 u ++ wwX6 ((D, (fun _ => 0), (cI, cJ, cO), t) : Cx) q8 v) pos (fun i => (adX q0 u).getD i 0) (ceX ((D, (fun i => (adX q0 u).getD i 0), (cI, cJ, cO), t) : Cx) sg0) 36 := ⟨ceX ((D, (fun i => (adX q0 u).getD i 0), (cI, cJ, cO), t) : Cx) sg0 36, rfl, fun _ _ h => h⟩
set_option maxRecDepth 100000 in
set_option maxHeartbeats 4000000 in
theorem pX_37 : PX (wwX5 ((D, (fun _ => 0), (cI, cJ, cO), t) : Cx) q0 u ++ wwX6 ((D, (fun _ => 0), (cI, cJ, cO), t) : Cx) q8 v) pos (fun i => (adX q0 u).getD i 0) (ceX ((D, (fun i => (adX q0 u).getD i 0), (cI, cJ, cO), t) : Cx) sg0) 37 := ⟨ceX ((D, (fun i => (adX q0 u).getD i 0), (cI, cJ, cO), t) : Cx) sg0 37, rfl, fun _ _ h => h⟩
set_option maxRecDepth 100000 in
set_option maxHeartbeats 4000000 in
theorem pX_38 : PX (wwX5 ((D, (fun _ => 0), (cI, cJ, cO), t) : Cx) q0 u ++ wwX6 ((D, (fun _ => 0), (cI, cJ, cO), t) : Cx) q8 v) pos (fun i => (adX q0 u).getD i 0) (ceX ((D, (fun i => (adX q0 u).getD i 0), (cI, cJ, cO), t) : Cx) sg0) 38 := ⟨ceX ((D, (fun i => (adX q0 u).getD i 0), (cI, cJ, cO), t) : Cx) sg0 38, rfl, fun _ _ h => h⟩
set_option maxRecDepth 100000 in
set_option maxHeartbeats 4000000 in
theorem pX_39 : PX (wwX5 ((D, (fun _ => 0), (cI, cJ, cO), t) : Cx) q0 u ++ wwX6 ((D, (fun _ => 0), (cI, cJ, cO), t) : Cx) q8 v) pos (fun i => (adX q0 u).getD i 0) (ceX ((D, (fun i => (adX q0 u).getD i 0), (cI, cJ, cO), t) : Cx) sg0) 39 := ⟨ceX ((D, (fun i => (adX q0 u).getD i 0), (cI, cJ, cO), t) : Cx) sg0 39, rfl, fun _ _ h => h⟩
theorem pX_all : ∀ i, i < 40 → PX (wwX5 ((D, (fun _ => 0), (cI, cJ, cO), t) : Cx) q0 u ++ wwX6 ((D, (fun _ => 0), (cI, cJ, cO), t) : Cx) q8 v) pos (fun i => (adX q0 u).getD i 0) (ceX ((D, (fun i => (adX q0 u).getD i 0), (cI, cJ, cO), t) : Cx) sg0) i := by
  have c0 : ∀ i, i < 0 → PX (wwX5 ((D, (fun _ => 0), (cI, cJ, cO), t) : Cx) q0 u ++ wwX6 ((D, (fun _ => 0), (cI, cJ, cO), t) : Cx) q8 v) pos (fun i => (adX q0 u).getD i 0) (ceX ((D, (fun i => (adX q0 u).getD i 0), (cI, cJ, cO), t) : Cx) sg0) i := fun i hi => absurd hi (Nat.not_lt_zero i)
  have c1 := ltS c0 pX_0
  have c2 := ltS c1 pX_1
  have c3 := ltS c2 pX_2
  have c4 := ltS c3 pX_3
  have c5 := ltS c4 pX_4
  have c6 := ltS c5 pX_5
  have c7 := ltS c6 pX_6
  have c8 := ltS c7 pX_7
  have c9 := ltS c8 pX_8
  have c10 := ltS c9 pX_9
  have c11 := ltS c10 pX_10
  have c12 := ltS c11 pX_11
  have c13 := ltS c12 pX_12
  have c14 := ltS c13 pX_13
  have c15 := ltS c14 pX_14
  have c16 := ltS c15 pX_15
  have c17 := ltS c16 pX_16
  have c18 := ltS c17 pX_17
  have c19 := ltS c18 pX_18
  have c20 := ltS c19 pX_19
  have c21 := ltS c20 pX_20
  have c22 := ltS c21 pX_21
  have c23 := ltS c22 pX_22
  have c24 := ltS c23 pX_23
  have c25 := ltS c24 pX_24
  have c26 := ltS c25 pX_25
  have c27 := ltS c26 pX_26
  have c28 := ltS c27 pX_27
  have c29 := ltS c28 pX_28
  have c30 := ltS c29 pX_29
  have c31 := ltS c30 pX_30
  have c32 := ltS c31 pX_31
  have c33 := ltS c32 pX_32
  have c34 := ltS c33 pX_33
  have c35 := ltS c34 pX_34
  have c36 := ltS c35 pX_35
  have c37 := ltS c36 pX_36
  have c38 := ltS c37 pX_37
  have c39 := ltS c38 pX_38
  have c40 := ltS c39 pX_39
  exact c40
set_option maxRecDepth 100000 in
set_option maxHeartbeats 4000000 in
theorem pM_0 : PX (wwX5 ((D, (fun _ => 0), (cI, cJ, cO), t) : Cx) q0 u ++ wwX6 ((D, (fun _ => 0), (cI, cJ, cO), t) : Cx) q8 v) pom (fun i => (adM q8 v).getD i 0) (ceM ((D, (fun i => (adM q8 v).getD i 0), (cI, cJ, cO), t) : Cx) tu0) 0 := ⟨ceM ((D, (fun i => (adM q8 v).getD i 0), (cI, cJ, cO), t) : Cx) tu0 0, rfl, fun _ _ h => h⟩
set_option maxRecDepth 100000 in
set_option maxHeartbeats 4000000 in
theorem pM_1 : PX (wwX5 ((D, (fun _ => 0), (cI, cJ, cO), t) : Cx) q0 u ++ wwX6 ((D, (fun _ => 0), (cI, cJ, cO), t) : Cx) q8 v) pom (fun i => (adM q8 v).getD i 0) (ceM ((D, (fun i => (adM q8 v).getD i 0), (cI, cJ, cO), t) : Cx) tu0) 1 := ⟨ceM ((D, (fun i => (adM q8 v).getD i 0), (cI, cJ, cO), t) : Cx) tu0 1, rfl, fun _ _ h => h⟩
set_option maxRecDepth 100000 in
set_option maxHeartbeats 4000000 in
theorem pM_2 : PX (wwX5 ((D, (fun _ => 0), (cI, cJ, cO), t) : Cx) q0 u ++ wwX6 ((D, (fun _ => 0), (cI, cJ, cO), t) : Cx) q8 v) pom (fun i => (adM q8 v).getD i 0) (ceM ((D, (fun i => (adM q8 v).getD i 0), (cI, cJ, cO), t) : Cx) tu0) 2 := ⟨ceM ((D, (fun i => (adM q8 v).getD i 0), (cI, cJ, cO), t) : Cx) tu0 2, rfl, fun _ _ h => h⟩
set_option maxRecDepth 100000 in
set_option maxHeartbeats 4000000 in
theorem pM_3 : PX (wwX5 ((D, (fun _ => 0), (cI, cJ, cO), t) : Cx) q0 u ++ wwX6 ((D, (fun _ => 0), (cI, cJ, cO), t) : Cx) q8 v) pom (fun i => (adM q8 v).getD i 0) (ceM ((D, (fun i => (adM q8 v).getD i 0), (cI, cJ, cO), t) : Cx) tu0) 3 := ⟨ceM ((D, (fun i => (adM q8 v).getD i 0), (cI, cJ, cO), t) : Cx) tu0 3, rfl, fun _ _ h => h⟩
set_option maxRecDepth 100000 in
set_option maxHeartbeats 4000000 in
theorem pM_4 : PX (wwX5 ((D, (fun _ => 0), (cI, cJ, cO), t) : Cx) q0 u ++ wwX6 ((D, (fun _ => 0), (cI, cJ, cO), t) : Cx) q8 v) pom (fun i => (adM q8 v).getD i 0) (ceM ((D, (fun i => (adM q8 v).getD i 0), (cI, cJ, cO), t) : Cx) tu0) 4 := ⟨ceM ((D, (fun i => (adM q8 v).getD i 0), (cI, cJ, cO), t) : Cx) tu0 4, rfl, fun _ _ h => h⟩
set_option maxRecDepth 100000 in
set_option maxHeartbeats 4000000 in
theorem pM_5 : PX (wwX5 ((D, (fun _ => 0), (cI, cJ, cO), t) : Cx) q0 u ++ wwX6 ((D, (fun _ => 0), (cI, cJ, cO), t) : Cx) q8 v) pom (fun i => (adM q8 v).getD i 0) (ceM ((D, (fun i => (adM q8 v).getD i 0), (cI, cJ, cO), t) : Cx) tu0) 5 := ⟨ceM ((D, (fun i => (adM q8 v).getD i 0), (cI, cJ, cO), t) : Cx) tu0 5, rfl, fun _ _ h => h⟩
set_option maxRecDepth 100000 in
set_option maxHeartbeats 4000000 in
theorem pM_6 : PX (wwX5 ((D, (fun _ => 0), (cI, cJ, cO), t) : Cx) q0 u ++ wwX6 ((D, (fun _ => 0), (cI, cJ, cO), t) : Cx) q8 v) pom (fun i => (adM q8 v).getD i 0) (ceM ((D, (fun i => (adM q8 v).getD i 0), (cI, cJ, cO), t) : Cx) tu0) 6 := ⟨ceM ((D, (fun i => (adM q8 v).getD i 0), (cI, cJ, cO), t) : Cx) tu0 6, rfl, fun _ _ h => h⟩
set_option maxRecDepth 100000 in
set_option maxHeartbeats 4000000 in
theorem pM_7 : PX (wwX5 ((D, (fun _ => 0), (cI, cJ, cO), t) : Cx) q0 u ++ wwX6 ((D, (fun _ => 0), (cI, cJ, cO), t) : Cx) q8 v) pom (fun i => (adM q8 v).getD i 0) (ceM ((D, (fun i => (adM q8 v).getD i 0), (cI, cJ, cO), t) : Cx) tu0) 7 := ⟨ceM ((D, (fun i => (adM q8 v).getD i 0), (cI, cJ, cO), t) : Cx) tu0 7, rfl, fun _ _ h => h⟩
theorem pM_all : ∀ i, i < 8 → PX (wwX5 ((D, (fun _ => 0), (cI, cJ, cO), t) : Cx) q0 u ++ wwX6 ((D, (fun _ => 0), (cI, cJ, cO), t) : Cx) q8 v) pom (fun i => (adM q8 v).getD i 0) (ceM ((D, (fun i => (adM q8 v).getD i 0), (cI, cJ, cO), t) : Cx) tu0) i := by
  have c0 : ∀ i, i < 0 → PX (wwX5 ((D, (fun _ => 0), (cI, cJ, cO), t) : Cx) q0 u ++ wwX6 ((D, (fun _ => 0), (cI, cJ, cO), t) : Cx) q8 v) pom (fun i => (adM q8 v).getD i 0) (ceM ((D, (fun i => (adM q8 v).getD i 0), (cI, cJ, cO), t) : Cx) tu0) i := fun i hi => absurd hi (Nat.not_lt_zero i)
  have c1 := ltS c0 pM_0
  have c2 := ltS c1 pM_1
  have c3 := ltS c2 pM_2
  have c4 := ltS c3 pM_3
  have c5 := ltS c4 pM_4
  have c6 := ltS c5 pM_5
  have c7 := ltS c6 pM_6
  have c8 := ltS c7 pM_7
  exact c8
end ST
/-! what the tables say: the classes, UNITS, the nest mates -/
set_option maxRecDepth 100000 in
theorem st_K {b : Nat} {s : State} (hts0 : ∀ w ∈ lw_tbl, w.before #[Value.ref b] s = true) (hts : ∀ w ∈ wsL_law, w.before #[Value.ref b] s = true) : ∃ (D : va_G) (cI cJ cO : ClassId), va_K D vwCl [(cI, .int), (cJ, .long), (cO, .object "TillOneOfSort$Tally")] s := by
  obtain ⟨c0, i0, h0⟩ := u_known (C := RX0) (T := TX0) (N := 1) (n := 1) hts inlX0 (hts (.instantiable RX0 1) (by decide +kernel))
  obtain ⟨c1, i1, h1⟩ := u_known (C := RX1) (T := TX1) (N := 7) (n := 7) hts inlX1 (hts (.instantiable RX1 7) (by decide +kernel))
  obtain ⟨c2, i2, h2⟩ := u_known (C := RX2) (T := TX2) (N := 2) (n := 2) hts inlX2 (hts (.instantiable RX2 2) (by decide +kernel))
  obtain ⟨c3, i3, h3⟩ := u_known (C := RX3) (T := TX3) (N := 8) (n := 8) hts inlX3 (hts (.instantiable RX3 8) (by decide +kernel))
  obtain ⟨c4, i4, h4⟩ := u_known (C := RX4) (T := TX4) (N := 2) (n := 2) hts inlX4 (hts (.instantiable RX4 2) (by decide +kernel))
  obtain ⟨c5, i5, h5⟩ := u_known (C := RX5) (T := TX5) (N := 10) (n := 10) hts inlX5 (hts (.instantiable RX5 10) (by decide +kernel))
  obtain ⟨c6, i6, h6⟩ := u_known (C := RX6) (T := TX6) (N := 29) (n := 29) hts inlX6 (hts (.instantiable RX6 29) (by decide +kernel))
  obtain ⟨cI, kI, pI, a1, a2, a3⟩ := Cond.arrayClass_spec (hts (.arrayClass .int) (by decide +kernel))
  obtain ⟨cJ, kJ, pJ, b1, b2, b3⟩ := Cond.arrayClass_spec (hts (.arrayClass .long) (by decide +kernel))
  obtain ⟨pO, cO, kO, d1, d2, d3, d4, d5⟩ := Cond.arrayOver_spec (hts0 (.arrayOver (.object "TillOneOfSort$Tally")) (by decide +kernel))
  refine ⟨(fun k => if k = 0 then c0 else if k = 1 then c1 else if k = 2 then c2 else if k = 3 then c3 else if k = 4 then c4 else if k = 5 then c5 else c6, fun k => if k = 0 then i0 else if k = 1 then i1 else if k = 2 then i2 else if k = 3 then i3 else if k = 4 then i4 else if k = 5 then i5 else i6), cI, cJ, cO, fun k q hq => ?_, fun k q hq => ?_⟩
  · match k, hq with
    | 0, hq => cases hq; exact h0
    | 1, hq => cases hq; exact h1
    | 2, hq => cases hq; exact h2
    | 3, hq => cases hq; exact h3
    | 4, hq => cases hq; exact h4
    | 5, hq => cases hq; exact h5
    | 6, hq => cases hq; exact h6
    | k + 7, hq => exact absurd (List.getElem?_eq_some_iff.mp hq).1 (by show ¬ (k + 7 < 7); omega)
  · match k, hq with
    | 0, hq => cases hq; exact ⟨fun n z => ⟨(fun k h => by cases h), kI, a2, pI, a3⟩, a1⟩
    | 1, hq => cases hq; exact ⟨fun n z => ⟨(fun k h => by cases h), kJ, b2, pJ, b3⟩, b1⟩
    | 2, hq => cases hq; exact ⟨fun n z => ⟨(fun k h => by cases h), kO, d3, pO, d4⟩, kO, pO, d3, d4, d1, d5⟩
    | k + 3, hq => exact absurd (List.getElem?_eq_some_iff.mp hq).1 (by show ¬ (k + 3 < 3); omega)
set_option maxRecDepth 100000 in
theorem st_U {b : Nat} {s : State} (hts : ∀ w ∈ lw_tbl, w.before #[Value.ref b] s = true) (hgv : (Jvm.Cond.and given_1 narrow_1).before #[Value.ref b] s = true) : ∃ t : Nat, va_Z "TillOneOfSort" "UNITS" "[J" (.ref t) (fun q : Nat => s.heap.size ≤ q) s s.heap ∧ va_T .long t 11 (fun j => .long (uN j)) (fun q : Nat => s.heap.size ≤ q) s s.heap := by
  have hs := flat_of_before _ hgv
  have hel : ∀ j : Nat, j < 11 → (Term.elem (.static "TillOneOfSort" "UNITS" "[J") (.int (Int32.ofNat j))).eval #[Value.ref b] s none [] s = some (.long (uN j)) := by
    intro j hj
    rcases (show j = 0 ∨ j = 1 ∨ j = 2 ∨ j = 3 ∨ j = 4 ∨ j = 5 ∨ j = 6 ∨ j = 7 ∨ j = 8 ∨ j = 9 ∨ j = 10 by omega) with rfl | rfl | rfl | rfl | rfl | rfl | rfl | rfl | rfl | rfl | rfl
    · exact va_eqtl (hs (.eq (.elem (.static "TillOneOfSort" "UNITS" "[J") (.int (Int32.ofNat 0))) (.long (uN 0))) (by decide +kernel))
    · exact va_eqtl (hs (.eq (.elem (.static "TillOneOfSort" "UNITS" "[J") (.int (Int32.ofNat 1))) (.long (uN 1))) (by decide +kernel))
    · exact va_eqtl (hs (.eq (.elem (.static "TillOneOfSort" "UNITS" "[J") (.int (Int32.ofNat 2))) (.long (uN 2))) (by decide +kernel))
    · exact va_eqtl (hs (.eq (.elem (.static "TillOneOfSort" "UNITS" "[J") (.int (Int32.ofNat 3))) (.long (uN 3))) (by decide +kernel))
    · exact va_eqtl (hs (.eq (.elem (.static "TillOneOfSort" "UNITS" "[J") (.int (Int32.ofNat 4))) (.long (uN 4))) (by decide +kernel))
    · exact va_eqtl (hs (.eq (.elem (.static "TillOneOfSort" "UNITS" "[J") (.int (Int32.ofNat 5))) (.long (uN 5))) (by decide +kernel))
    · exact va_eqtl (hs (.eq (.elem (.static "TillOneOfSort" "UNITS" "[J") (.int (Int32.ofNat 6))) (.long (uN 6))) (by decide +kernel))
    · exact va_eqtl (hs (.eq (.elem (.static "TillOneOfSort" "UNITS" "[J") (.int (Int32.ofNat 7))) (.long (uN 7))) (by decide +kernel))
    · exact va_eqtl (hs (.eq (.elem (.static "TillOneOfSort" "UNITS" "[J") (.int (Int32.ofNat 8))) (.long (uN 8))) (by decide +kernel))
    · exact va_eqtl (hs (.eq (.elem (.static "TillOneOfSort" "UNITS" "[J") (.int (Int32.ofNat 9))) (.long (uN 9))) (by decide +kernel))
    · exact va_eqtl (hs (.eq (.elem (.static "TillOneOfSort" "UNITS" "[J") (.int (Int32.ofNat 10))) (.long (uN 10))) (by decide +kernel))
  have hlen : (Term.length (.static "TillOneOfSort" "UNITS" "[J")).eval #[Value.ref b] s none [] s = some (.int (Int32.ofNat 11)) := va_eqt (hs (.eq (.length (.static "TillOneOfSort" "UNITS" "[J")) (.int (Int32.ofNat 11))) (by decide +kernel))
  obtain ⟨t, ht, hT⟩ := va_Tof (tm := (.static "TillOneOfSort" "UNITS" "[J")) (ty := .long) (N := 11) (f := fun j => .long (uN j)) (A := fun q : Nat => s.heap.size ≤ q) (by decide) (hs (.arrayOf (.static "TillOneOfSort" "UNITS" "[J") .long) (by decide +kernel)) hlen hel (fun a ha => Nat.not_le.mpr ha)
  exact ⟨t, va_Zof (hts (.laysStatic "TillOneOfSort" "UNITS" "[J") (by decide +kernel)) (hts (.initialized "TillOneOfSort") (by decide +kernel)) ht (fun a ha => Nat.not_le.mpr ha), hT⟩
set_option maxRecDepth 100000 in
theorem nestL_in : ∀ w ∈ nestL, w ∈ lw_tbl := by decide +kernel
theorem nestL_on : ∀ w ∈ nestL, w.onTables = true := by decide +kernel
theorem st_N {b : Nat} {s : State} (hts : ∀ w ∈ lw_tbl, w.before #[Value.ref b] s = true) : nestOK s := fun w hw => va_Nw.of (nestL_on w hw) (hts w (nestL_in w hw))
set_option maxHeartbeats 80000000 in
set_option maxRecDepth 100000 in
theorem whole_start {p : Program} {e : Env} {s : State} {m : MethodId} {below : List Frame} {meth : Method} {c : Code} (l : Launch) (_ : l.flags = flags0) {b L : Nat} {xs : Nat → Int32} (hL : L ≤ 3072) (C0 : lw_At p s m meth c b L xs) : W p l e room_1 s m #[Value.ref b] below meth c s.heap [] 0 0 (lw_Z below #[Value.ref b] s) (entryFrame m ([Value.ref b] : List Value).toArray 4) := by
  obtain ⟨hx, hb, hr, hml, hown, hts0, hXs, hbl, hlocks, hgv⟩ := id C0
  have hts : ∀ w ∈ wsL_law, w.before #[Value.ref b] s = true := fun w h => hts0 w (wsL_law_in w h)
  have hA : ∀ q : Nat, s.heap.size ≤ q → (fun q : Nat => s.heap.size ≤ q) q := fun _ h => h
  obtain ⟨D, cI, cJ, cO, hK⟩ := st_K hts0 hts
  obtain ⟨t, hZ, hT⟩ := st_U hts0 hgv
  have hNs : nestOK s := st_N hts0
  have hAO : va_AO "TillOneOfSort$Tally" s := va_AO.of (hts0 (.arrayOver (.object "TillOneOfSort$Tally")) (by decide +kernel))
  have hS : va_S (fun q : Nat => s.heap.size ≤ q) s.heap s.heap [] := va_S.rf
  have hK : va_K (((D, (fun _ => 0), (cI, cJ, cO), t) : Cx)).1 vwCl (tyC ((D, (fun _ => 0), (cI, cJ, cO), t) : Cx)) s := hK
  have hP : va_P (((D, (fun _ => 0), (cI, cJ, cO), t) : Cx)).1 vwCl [] s.heap := fun k q h => by simp at h
  have hD : va_D (fun q : Nat => s.heap.size ≤ q) [] := ⟨fun i j p q h => by simp at h, fun k q h => by simp at h⟩
  have hl := lv_entry ([.ref b]) (n := 4) (Nat.le_of_ble_eq_true rfl)
  rw [lg_entry_eq]
  generalize (lg_sl ([.ref b]) ++ List.replicate (4 - (lg_sl ([.ref b])).length) Slot.unset).toArray = ls at hl ⊢
  have hl : lv_has ls 4 [(0, .ref b)] := hl
  refine va_new (ci := 5) (fs := [.null, .null, .null, .int 0, .null, .int 0, .int 0, .null, .null, .null]) (C := RX5) (T := TX5) (N := 10) hx hb hts inlX5 tyX5 tyX5_ok hown (hts (.classLink RL 7 RX5) (by decide +kernel)) (hts (.instantiable RX5 10) (by decide +kernel)) (hts (.initialized RX5) (by decide +kernel)) hK hP hD hS hA rfl (fun j hj => by rcases (show j = 0 ∨ j = 1 ∨ j = 2 ∨ j = 3 ∨ j = 4 ∨ j = 5 ∨ j = 6 ∨ j = 7 ∨ j = 8 ∨ j = 9 by omega) with rfl | rfl | rfl | rfl | rfl | rfl | rfl | rfl | rfl | rfl <;> rfl) (Nat.le_of_ble_eq_true rfl) (Nat.le_of_ble_eq_true rfl) dL_law_0 (fun q0 H hP hD hS => ?_)
  have hP : va_P (((D, (fun _ => 0), (cI, cJ, cO), t) : Cx)).1 vwCl [(q0, .inr (5, [.null, .null, .null, .int 0, .null, .int 0, .int 0, .null, .null, .null]))] H := hP
  have hD : va_D (fun q : Nat => s.heap.size ≤ q) [(q0, .inr (5, [.null, .null, .null, .int 0, .null, .int 0, .int 0, .null, .null, .null]))] := hD
  refine W.widen (k := 1) (n := 10) (Nat.le_of_ble_eq_true rfl) (Nat.le_of_ble_eq_true rfl) ?_
  refine lv_dup hx hb dL_law_3 rfl ?_
  refine x_callI (z := ((D, (fun _ => 0), (cI, cJ, cO), t) : Cx)) (wr := []) (q := q0) (va_runI (As := []) (rest := [.ref q0]) ⟨hx, hb, hml, hown, hts⟩ (kX5_init l ((D, (fun _ => 0), (cI, cJ, cO), t) : Cx) q0 H.size) (cwI 0 hts gL_law_X5_init rfl rfl rfl (hts (.initialized RX5) (by decide +kernel)) (hts (.methodLink RL 9 yX5_init) (by decide +kernel)) (hts (.instanceMethod yX5_init) (by decide +kernel)) rfl (by decide +kernel) ⟨Nat.le_of_ble_eq_true rfl, Nat.le_of_ble_eq_true rfl⟩) (piI (z := ((D, (fun _ => 0), (cI, cJ, cO), t) : Cx)) (wr := []) (q := q0) hP hK hD hNs hAO) rfl rfl hl.1 rfl (lv_room (Nat.le_of_ble_eq_true rfl)) dL_law_4 ⟨Nat.le_of_ble_eq_true rfl, Nat.le_of_ble_eq_true rfl⟩) hP hD hS hA (fun u H locs hP hD hS => ?_)
  have hP : va_P (((D, (fun _ => 0), (cI, cJ, cO), t) : Cx)).1 vwCl (wwX5 ((D, (fun _ => 0), (cI, cJ, cO), t) : Cx) q0 u) H := hP
  have hD : va_D (fun q : Nat => s.heap.size ≤ q) (wwX5 ((D, (fun _ => 0), (cI, cJ, cO), t) : Cx) q0 u) := hD
  refine W.widen (k := 40) (n := 2398) (Nat.le_of_ble_eq_true rfl) (Nat.le_of_ble_eq_true rfl) ?_
  refine lv_astore_n (lv' := [(1, .ref q0), (0, .ref b)]) hx hb dL_law_7 rfl hl (by decide) rfl (fun ls hl => ?_)
  refine va_new (ci := 6) (fs := [.null, .null, .null, .null, .int 0, .null, .null, .int 0, .int 0, .long 0, .long 0, .long 0, .long 0, .long 0, .long 0, .long 0, .long 0, .long 0, .long 0, .null, .int 0, .int 0, .int 0, .int 0, .int 0, .int 0, .int 0, .int 0, .int 0]) (C := RX6) (T := TX6) (N := 29) hx hb hts inlX6 tyX6 tyX6_ok hown (hts (.classLink RL 10 RX6) (by decide +kernel)) (hts (.instantiable RX6 29) (by decide +kernel)) (hts (.initialized RX6) (by decide +kernel)) hK hP hD hS hA rfl (fun j hj => by rcases (show j = 0 ∨ j = 1 ∨ j = 2 ∨ j = 3 ∨ j = 4 ∨ j = 5 ∨ j = 6 ∨ j = 7 ∨ j = 8 ∨ j = 9 ∨ j = 10 ∨ j = 11 ∨ j = 12 ∨ j = 13 ∨ j = 14 ∨ j = 15 ∨ j = 16 ∨ j = 17 ∨ j = 18 ∨ j = 19 ∨ j = 20 ∨ j = 21 ∨ j = 22 ∨ j = 23 ∨ j = 24 ∨ j = 25 ∨ j = 26 ∨ j = 27 ∨ j = 28 by omega) with rfl | rfl | rfl | rfl | rfl | rfl | rfl | rfl | rfl | rfl | rfl | rfl | rfl | rfl | rfl | rfl | rfl | rfl | rfl | rfl | rfl | rfl | rfl | rfl | rfl | rfl | rfl | rfl | rfl <;> rfl) (Nat.le_of_ble_eq_true rfl) (Nat.le_of_ble_eq_true rfl) dL_law_8 (fun q8 H hP hD hS => ?_)
  refine W.widen (k := 41) (n := 2427) (Nat.le_of_ble_eq_true rfl) (Nat.le_of_ble_eq_true rfl) ?_
  refine lv_dup hx hb dL_law_11 rfl ?_
  refine x_callI (z := ((D, (fun _ => 0), (cI, cJ, cO), t) : Cx)) (wr := wwX5 ((D, (fun _ => 0), (cI, cJ, cO), t) : Cx) q0 u) (q := q8) (va_runI (As := []) (rest := [.ref q8]) ⟨hx, hb, hml, hown, hts⟩ (kX6_init l ((D, (fun _ => 0), (cI, cJ, cO), t) : Cx) q8 H.size) (cwI 0 hts gL_law_X6_init rfl rfl rfl (hts (.initialized RX6) (by decide +kernel)) (hts (.methodLink RL 12 yX6_init) (by decide +kernel)) (hts (.instanceMethod yX6_init) (by decide +kernel)) rfl (by decide +kernel) ⟨Nat.le_of_ble_eq_true rfl, Nat.le_of_ble_eq_true rfl⟩) (piI (z := ((D, (fun _ => 0), (cI, cJ, cO), t) : Cx)) (wr := wwX5 ((D, (fun _ => 0), (cI, cJ, cO), t) : Cx) q0 u) (q := q8) hP hK hD hNs hAO) rfl rfl hl.1 rfl (lv_room (Nat.le_of_ble_eq_true rfl)) dL_law_12 ⟨Nat.le_of_ble_eq_true rfl, Nat.le_of_ble_eq_true rfl⟩) hP hD hS hA (fun v H locs hP hD hS => ?_)
  have hP : va_P D vwCl (wwX5 ((D, (fun _ => 0), (cI, cJ, cO), t) : Cx) q0 u ++ wwX6 ((D, (fun _ => 0), (cI, cJ, cO), t) : Cx) q8 v) H := hP
  have hD : va_D (fun q : Nat => s.heap.size ≤ q) (wwX5 ((D, (fun _ => 0), (cI, cJ, cO), t) : Cx) q0 u ++ wwX6 ((D, (fun _ => 0), (cI, cJ, cO), t) : Cx) q8 v) := hD
  refine W.widen (k := 600000) (n := 7302250) (Nat.le_of_ble_eq_true rfl) (Nat.le_of_ble_eq_true rfl) ?_
  refine lv_astore_n (lv' := [(2, .ref q8), (1, .ref q0), (0, .ref b)]) hx hb dL_law_15 rfl hl (by decide) rfl (fun ls hl => ?_)
  refine lv_iconst (v := 0) hx hb dL_law_16 (by decide) ?_
  refine lv_istore_n (lv' := [(3, .int 0), (2, .ref q8), (1, .ref q0), (0, .ref b)]) hx hb dL_law_17 rfl hl (by decide) rfl (fun ls hl => ?_)
  have hX : ∀ i, i < 40 → PX (wwX5 ((D, (fun _ => 0), (cI, cJ, cO), t) : Cx) q0 u ++ wwX6 ((D, (fun _ => 0), (cI, cJ, cO), t) : Cx) q8 v) pos (fun i => (adX q0 u).getD i 0) (ceX ((D, (fun i => (adX q0 u).getD i 0), (cI, cJ, cO), t) : Cx) sg0) i := pX_all
  have hM : ∀ i, i < 8 → PX (wwX5 ((D, (fun _ => 0), (cI, cJ, cO), t) : Cx) q0 u ++ wwX6 ((D, (fun _ => 0), (cI, cJ, cO), t) : Cx) q8 v) pom (fun i => (adM q8 v).getD i 0) (ceM ((D, (fun i => (adM q8 v).getD i 0), (cI, cJ, cO), t) : Cx) tu0) i := pM_all
  have hPX := PX_wl hX hP
  have hPM := PX_wl hM hP
  have hn : nI 0 = 0 := rfl
  refine law_loop hL C0 ((D, (fun i => (adX q0 u).getD i 0), (cI, cJ, cO), t) : Cx) ((D, (fun i => (adM q8 v).getD i 0), (cI, cJ, cO), t) : Cx) (fun i j hi hj e => pos_inj hi hj (PX_ap hX hX hD hi hj e)) (fun i j hi hj e => ?_) hK hK ⟨hNs, hZ, hT⟩ ⟨hNs, hZ, hT⟩ (fun q hq => ?_) (fun q hq => ?_) (fun i hi hq => ?_) (fun i hi hq => ?_) Rel lawG_Rel (L + 1) 0 (Nat.zero_le _) (by omega) sg0 tu0 Rel_0 H locs hPX hPM hS ls (lv_sub hl [3, 2, 1, 0] rfl)
  · have h : 40 + i = 40 + j := PX_ap hM hM hD hi hj e
    omega
  · obtain ⟨i, hi, rfl⟩ := hq
    exact PX_in hX hD i hi
  · obtain ⟨i, hi, rfl⟩ := hq
    exact PX_in hM hD i hi
  · obtain ⟨j, hj, e⟩ := hq
    have h : 40 + i = pos j := PX_ap hM hX hD hi hj e
    have h2 := pos_lt hj
    omega
  · obtain ⟨j, hj, e⟩ := hq
    have h : pos i = 40 + j := PX_ap hX hM hD hi hj e
    have h2 := pos_lt hi
    omega
