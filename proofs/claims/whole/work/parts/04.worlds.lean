/-! THE CELLS OF THE CLASS (40) -/
def isTold (i : Nat) : Bool := i == 1 || i == 4 || i == 7
def isI8 (i : Nat) : Bool := i == 2 || i == 3 || i == 5 || i == 6 || i == 8 || i == 9
def isTal (i : Nat) : Bool := Nat.ble 14 i && Nat.ble i 32 && i % 3 == 2
def isCel (i : Nat) : Bool := (Nat.ble 14 i && Nat.ble i 34 && i % 3 == 0) || i == 36 || i == 38
def isJr (i : Nat) : Bool := (Nat.ble 14 i && Nat.ble i 34 && i % 3 == 1) || i == 37 || i == 39
theorem told_iff {i : Nat} : isTold i = true ↔ i = 1 ∨ i = 4 ∨ i = 7 := by simp [isTold, or_assoc]
theorem i8_iff {i : Nat} : isI8 i = true ↔ i = 2 ∨ i = 3 ∨ i = 5 ∨ i = 6 ∨ i = 8 ∨ i = 9 := by simp [isI8, or_assoc]
theorem tal_iff {i : Nat} : isTal i = true ↔ 14 ≤ i ∧ i ≤ 32 ∧ i % 3 = 2 := by simp [isTal, and_assoc]
theorem cel_iff {i : Nat} : isCel i = true ↔ (14 ≤ i ∧ i ≤ 34 ∧ i % 3 = 0) ∨ i = 36 ∨ i = 38 := by simp [isCel, and_assoc, or_assoc]
theorem jr_iff {i : Nat} : isJr i = true ↔ (14 ≤ i ∧ i ≤ 34 ∧ i % 3 = 1) ∨ i = 37 ∨ i = 39 := by simp [isJr, and_assoc, or_assoc]
theorem i8_a {i : Nat} (h : isTold i = true) : isI8 (i + 1) = true := by rw [told_iff] at h; rw [i8_iff]; omega
theorem i8_b {i : Nat} (h : isTold i = true) : isI8 (i + 2) = true := by rw [told_iff] at h; rw [i8_iff]; omega
theorem cel_t {i : Nat} (h : isTal i = true) : isCel (i + 1) = true := by rw [tal_iff] at h; rw [cel_iff]; omega
theorem jr_c {i : Nat} (h : isCel i = true) : isJr (i + 1) = true := by rw [cel_iff] at h; rw [jr_iff]; omega
theorem tal_ix {x : Int32} (h : ci x 6 = true) : isTal (14 + 3 * x.toNatClampNeg) = true := by
  simp only [ci, Bool.and_eq_true, decide_eq_true_eq] at h
  rw [tal_iff]; omega
theorem told_lt {i : Nat} (h : isTold i = true) : i < 40 := by rw [told_iff] at h; omega
theorem i8_lt {i : Nat} (h : isI8 i = true) : i < 40 := by rw [i8_iff] at h; omega
theorem tal_lt {i : Nat} (h : isTal i = true) : i < 40 := by rw [tal_iff] at h; omega
theorem cel_lt {i : Nat} (h : isCel i = true) : i < 40 := by rw [cel_iff] at h; omega
theorem jr_lt {i : Nat} (h : isJr i = true) : i < 40 := by rw [jr_iff] at h; omega
abbrev fs5 (z : Cx) (σ : Mm) (i : Nat) : List Value := [.ref (z.2.1 1), .ref (z.2.1 4), .ref (z.2.1 7), .int (gI σ i 3), .ref (z.2.1 10), .int (gI σ i 5), .int (gI σ i 6), .ref (z.2.1 12), .ref (z.2.1 13), .ref (z.2.1 32)]
abbrev fs3 (z : Cx) (σ : Mm) (i : Nat) : List Value := [.int (gI σ i 0), .int (gI σ i 1), .int (gI σ i 2), .int (gI σ i 3), .int (gI σ i 4), .int (gI σ i 5), .ref (z.2.1 (i + 1)), .ref (z.2.1 (i + 2))]
abbrev fs2 (z : Cx) (σ : Mm) (i : Nat) : List Value := [.ref (z.2.1 11), .int (gI σ i 1)]
abbrev fs1 (z : Cx) (σ : Mm) (i : Nat) : List Value := [.ref (z.2.1 35), .ref (z.2.1 (i + 1)), .int (gI σ i 2), .int (gI σ i 3), .int (gI σ i 4), .int (gI σ i 5), .int (gI σ i 6)]
abbrev fs4 (z : Cx) (σ : Mm) : List Value := [.ref (z.2.1 (gH σ)), .ref (z.2.1 (gN σ))]
abbrev fs0 (z : Cx) (i : Nat) : List Value := [.ref (z.2.1 (i + 1))]
def ceX (z : Cx) (σ : Mm) (i : Nat) : va_E :=
  if isTold i = true then .inr (3, fs3 z σ i)
  else if isI8 i = true then .inl (z.2.2.1.1, 8, .inl (gI σ i))
  else if isTal i = true then .inr (1, fs1 z σ i)
  else if isCel i = true then .inr (0, fs0 z i)
  else if isJr i = true then .inl (z.2.2.1.2.1, 242, .inr (.inl (gL σ i)))
  else if i = 0 then .inr (5, fs5 z σ i)
  else if i = 10 then .inr (2, fs2 z σ i)
  else if i = 11 then .inl (z.2.2.1.1, 64, .inl (gI σ i))
  else if i = 12 then .inl (z.2.2.1.1, 6, .inl (gI σ i))
  else if i = 13 then .inl (z.2.2.1.2.2, 6, .inr (.inr (.inr (.inr (fun k => some (z.2.1 (14 + 3 * k)))))))
  else .inr (4, fs4 z σ)
theorem cX3 {z : Cx} {σ : Mm} {i : Nat} (h : isTold i = true) : ceX z σ i = .inr (3, fs3 z σ i) := by rw [ceX, if_pos h]
theorem cXI8 {z : Cx} {σ : Mm} {i : Nat} (h : isI8 i = true) : ceX z σ i = .inl (z.2.2.1.1, 8, .inl (gI σ i)) := by
  rw [ceX, if_neg (by rw [i8_iff] at h; rw [told_iff]; omega), if_pos h]
theorem cX1 {z : Cx} {σ : Mm} {i : Nat} (h : isTal i = true) : ceX z σ i = .inr (1, fs1 z σ i) := by
  have h' := tal_iff.mp h
  rw [ceX, if_neg (by rw [told_iff]; omega), if_neg (by rw [i8_iff]; omega), if_pos h]
theorem cX0 {z : Cx} {σ : Mm} {i : Nat} (h : isCel i = true) : ceX z σ i = .inr (0, fs0 z i) := by
  have h' := cel_iff.mp h
  rw [ceX, if_neg (by rw [told_iff]; omega), if_neg (by rw [i8_iff]; omega), if_neg (by rw [tal_iff]; omega), if_pos h]
theorem cXJ {z : Cx} {σ : Mm} {i : Nat} (h : isJr i = true) : ceX z σ i = .inl (z.2.2.1.2.1, 242, .inr (.inl (gL σ i))) := by
  have h' := jr_iff.mp h
  rw [ceX, if_neg (by rw [told_iff]; omega), if_neg (by rw [i8_iff]; omega), if_neg (by rw [tal_iff]; omega), if_neg (by rw [cel_iff]; omega), if_pos h]
theorem cX5 {z : Cx} {σ : Mm} : ceX z σ 0 = .inr (5, fs5 z σ 0) := rfl
theorem cX2 {z : Cx} {σ : Mm} : ceX z σ 10 = .inr (2, fs2 z σ 10) := rfl
theorem cX4 {z : Cx} {σ : Mm} : ceX z σ 35 = .inr (4, fs4 z σ) := rfl
theorem cXI64 {z : Cx} {σ : Mm} : ceX z σ 11 = .inl (z.2.2.1.1, 64, .inl (gI σ 11)) := rfl
theorem cXI6 {z : Cx} {σ : Mm} : ceX z σ 12 = .inl (z.2.2.1.1, 6, .inl (gI σ 12)) := rfl
theorem cXT {z : Cx} {σ : Mm} : ceX z σ 13 = .inl (z.2.2.1.2.2, 6, .inr (.inr (.inr (.inr (fun k => some (z.2.1 (14 + 3 * k))))))) := rfl
theorem gI_ne {σ : Mm} {i k j : Nat} {v : Int32} (h : ¬ j = i) : gI (pI σ i k v) j = gI σ j := by funext b; rw [gI_pI, if_neg (fun q => h q.1)]
theorem gL_ne {σ : Mm} {i k j : Nat} {v : Int64} (h : ¬ j = i) : gL (pL σ i k v) j = gL σ j := by funext b; rw [gL_pL, if_neg (fun q => h q.1)]
theorem gI_up {σ : Mm} {i k : Nat} {v : Int32} : upd (gI σ i) k v = gI (pI σ i k v) i := by
  funext b
  rw [gI_pI]
  by_cases hb : b = k <;> simp [upd, hb]
theorem gL_up {σ : Mm} {i k : Nat} {v : Int64} : vp_updL (gL σ i) k v = gL (pL σ i k v) i := by
  funext b
  rw [gL_pL]
  by_cases hb : b = k <;> simp [vp_updL, hb]
theorem ceX_pI {z : Cx} {σ : Mm} {i k j : Nat} {v : Int32} (h : ¬ j = i) : ceX z (pI σ i k v) j = ceX z σ j := by
  unfold ceX fs5 fs3 fs2 fs1 fs4
  rw [gI_ne h]
  rfl
theorem ceX_pL {z : Cx} {σ : Mm} {i k j : Nat} {v : Int64} (h : ¬ j = i) : ceX z (pL σ i k v) j = ceX z σ j := by
  unfold ceX fs5 fs3 fs2 fs1 fs4
  rw [gL_ne h]
  rfl
theorem sX3 {z : Cx} {σ : Mm} {i : Nat} (h : isTold i = true) {k : Nat} (hk : k < 6) {v : Int32} : (wl 40 z.2.1 (ceX z σ)).set i (z.2.1 i, .inr (3, (fs3 z σ i).set k (.int v))) = wl 40 z.2.1 (ceX z (pI σ i k v)) := wl_set fun j _ => by
  by_cases e : j = i
  · subst e
    rw [if_pos rfl, cX3 h]
    rcases (show k = 0 ∨ k = 1 ∨ k = 2 ∨ k = 3 ∨ k = 4 ∨ k = 5 by omega) with rfl | rfl | rfl | rfl | rfl | rfl <;> simp [gI_pI]
  · rw [if_neg e, ceX_pI e]
theorem sX1 {z : Cx} {σ : Mm} {i : Nat} (h : isTal i = true) {k : Nat} (h2 : 2 ≤ k) (hk : k < 7) {v : Int32} : (wl 40 z.2.1 (ceX z σ)).set i (z.2.1 i, .inr (1, (fs1 z σ i).set k (.int v))) = wl 40 z.2.1 (ceX z (pI σ i k v)) := wl_set fun j _ => by
  by_cases e : j = i
  · subst e
    rw [if_pos rfl, cX1 h]
    rcases (show k = 2 ∨ k = 3 ∨ k = 4 ∨ k = 5 ∨ k = 6 by omega) with rfl | rfl | rfl | rfl | rfl <;> simp [gI_pI]
  · rw [if_neg e, ceX_pI e]
theorem sX5 {z : Cx} {σ : Mm} {k : Nat} (h : k = 3 ∨ k = 5 ∨ k = 6) {v : Int32} : (wl 40 z.2.1 (ceX z σ)).set 0 (z.2.1 0, .inr (5, (fs5 z σ 0).set k (.int v))) = wl 40 z.2.1 (ceX z (pI σ 0 k v)) := wl_set fun j _ => by
  by_cases e : j = 0
  · subst e
    rw [if_pos rfl, cX5]
    rcases h with rfl | rfl | rfl <;> simp [gI_pI]
  · rw [if_neg e, ceX_pI e]
theorem sX2 {z : Cx} {σ : Mm} {v : Int32} : (wl 40 z.2.1 (ceX z σ)).set 10 (z.2.1 10, .inr (2, (fs2 z σ 10).set 1 (.int v))) = wl 40 z.2.1 (ceX z (pI σ 10 1 v)) := wl_set fun j _ => by
  by_cases e : j = 10
  · subst e
    rw [if_pos rfl, cX2]
    simp [gI_pI]
  · rw [if_neg e, ceX_pI e]
theorem sX4h {z : Cx} {σ : Mm} {v : Nat} : (wl 40 z.2.1 (ceX z σ)).set 35 (z.2.1 35, .inr (4, (fs4 z σ).set 0 (.ref (z.2.1 v)))) = wl 40 z.2.1 (ceX z (pH σ v)) := wl_set fun j _ => by
  by_cases e : j = 35
  · subst e
    rw [if_pos rfl, cX4]
    simp [gH_pH, gN_pH]
  · rw [if_neg e]
    by_cases h1 : isTold j = true
    · rw [cX3 h1, cX3 h1]; rfl
    · by_cases h2 : isI8 j = true
      · rw [cXI8 h2, cXI8 h2]; rfl
      · by_cases h3 : isTal j = true
        · rw [cX1 h3, cX1 h3]; rfl
        · by_cases h4 : isCel j = true
          · rw [cX0 h4, cX0 h4]
          · by_cases h5 : isJr j = true
            · rw [cXJ h5, cXJ h5]; rfl
            · rw [told_iff] at h1; rw [i8_iff] at h2; rw [tal_iff] at h3; rw [cel_iff] at h4; rw [jr_iff] at h5
              rcases (show j = 0 ∨ j = 10 ∨ j = 11 ∨ j = 12 ∨ j = 13 by omega) with rfl | rfl | rfl | rfl | rfl <;> rfl
theorem sX4n {z : Cx} {σ : Mm} {v : Nat} : (wl 40 z.2.1 (ceX z σ)).set 35 (z.2.1 35, .inr (4, (fs4 z σ).set 1 (.ref (z.2.1 v)))) = wl 40 z.2.1 (ceX z (pN σ v)) := wl_set fun j _ => by
  by_cases e : j = 35
  · subst e
    rw [if_pos rfl, cX4]
    simp [gH_pN, gN_pN]
  · rw [if_neg e]
    by_cases h1 : isTold j = true
    · rw [cX3 h1, cX3 h1]; rfl
    · by_cases h2 : isI8 j = true
      · rw [cXI8 h2, cXI8 h2]; rfl
      · by_cases h3 : isTal j = true
        · rw [cX1 h3, cX1 h3]; rfl
        · by_cases h4 : isCel j = true
          · rw [cX0 h4, cX0 h4]
          · by_cases h5 : isJr j = true
            · rw [cXJ h5, cXJ h5]; rfl
            · rw [told_iff] at h1; rw [i8_iff] at h2; rw [tal_iff] at h3; rw [cel_iff] at h4; rw [jr_iff] at h5
              rcases (show j = 0 ∨ j = 10 ∨ j = 11 ∨ j = 12 ∨ j = 13 by omega) with rfl | rfl | rfl | rfl | rfl <;> rfl
theorem sXI8 {z : Cx} {σ : Mm} {i : Nat} (h : isI8 i = true) {k : Nat} {v : Int32} : (wl 40 z.2.1 (ceX z σ)).set i (z.2.1 i, .inl (z.2.2.1.1, 8, .inl (upd (gI σ i) k v))) = wl 40 z.2.1 (ceX z (pI σ i k v)) := wl_set fun j _ => by
  by_cases e : j = i
  · subst e
    rw [if_pos rfl, cXI8 h, gI_up]
  · rw [if_neg e, ceX_pI e]
theorem sXI64 {z : Cx} {σ : Mm} {k : Nat} {v : Int32} : (wl 40 z.2.1 (ceX z σ)).set 11 (z.2.1 11, .inl (z.2.2.1.1, 64, .inl (upd (gI σ 11) k v))) = wl 40 z.2.1 (ceX z (pI σ 11 k v)) := wl_set fun j _ => by
  by_cases e : j = 11
  · subst e
    rw [if_pos rfl, cXI64, gI_up]
  · rw [if_neg e, ceX_pI e]
theorem sXI6 {z : Cx} {σ : Mm} {k : Nat} {v : Int32} : (wl 40 z.2.1 (ceX z σ)).set 12 (z.2.1 12, .inl (z.2.2.1.1, 6, .inl (upd (gI σ 12) k v))) = wl 40 z.2.1 (ceX z (pI σ 12 k v)) := wl_set fun j _ => by
  by_cases e : j = 12
  · subst e
    rw [if_pos rfl, cXI6, gI_up]
  · rw [if_neg e, ceX_pI e]
theorem sXJ {z : Cx} {σ : Mm} {i : Nat} (h : isJr i = true) {k : Nat} {v : Int64} : (wl 40 z.2.1 (ceX z σ)).set i (z.2.1 i, .inl (z.2.2.1.2.1, 242, .inr (.inl (vp_updL (gL σ i) k v)))) = wl 40 z.2.1 (ceX z (pL σ i k v)) := wl_set fun j _ => by
  by_cases e : j = i
  · subst e
    rw [if_pos rfl, cXJ h, gL_up]
  · rw [if_neg e, ceX_pL e]
/-! THE CELLS OF THE REFERENCE (8) -/
def isI22 (i : Nat) : Bool := i == 2 || i == 3 || i == 4
theorem i22_iff {i : Nat} : isI22 i = true ↔ i = 2 ∨ i = 3 ∨ i = 4 := by simp [isI22, or_assoc]
theorem i22_lt {i : Nat} (h : isI22 i = true) : i < 8 := by rw [i22_iff] at h; omega
abbrev fs6 (z : Cx) (σ : Mm) (i : Nat) : List Value := [.ref (z.2.1 1), .ref (z.2.1 2), .ref (z.2.1 3), .ref (z.2.1 4), .int (gI σ i 4), .ref (z.2.1 5), .ref (z.2.1 6), .int (gI σ i 7), .int (gI σ i 8), .long (gL σ i 9), .long (gL σ i 10), .long (gL σ i 11), .long (gL σ i 12), .long (gL σ i 13), .long (gL σ i 14), .long (gL σ i 15), .long (gL σ i 16), .long (gL σ i 17), .long (gL σ i 18), .ref (z.2.1 7), .int (gI σ i 20), .int (gI σ i 21), .int (gI σ i 22), .int (gI σ i 23), .int (gI σ i 24), .int (gI σ i 25), .int (gI σ i 26), .int (gI σ i 27), .int (gI σ i 28)]
def ceM (z : Cx) (σ : Mm) (i : Nat) : va_E :=
  if isI22 i = true then .inl (z.2.2.1.1, 22, .inl (gI σ i))
  else if i = 0 then .inr (6, fs6 z σ i)
  else if i = 1 then .inl (z.2.2.1.1, 7, .inl (gI σ i))
  else if i = 5 then .inl (z.2.2.1.1, 64, .inl (gI σ i))
  else if i = 6 then .inl (z.2.2.1.1, 2, .inl (gI σ i))
  else .inl (z.2.2.1.2.1, 11, .inr (.inl (gL σ i)))
theorem cMI22 {z : Cx} {σ : Mm} {i : Nat} (h : isI22 i = true) : ceM z σ i = .inl (z.2.2.1.1, 22, .inl (gI σ i)) := by rw [ceM, if_pos h]
theorem cX6 {z : Cx} {σ : Mm} : ceM z σ 0 = .inr (6, fs6 z σ 0) := rfl
theorem cMI7 {z : Cx} {σ : Mm} : ceM z σ 1 = .inl (z.2.2.1.1, 7, .inl (gI σ 1)) := rfl
theorem cMI64 {z : Cx} {σ : Mm} : ceM z σ 5 = .inl (z.2.2.1.1, 64, .inl (gI σ 5)) := rfl
theorem cMI2 {z : Cx} {σ : Mm} : ceM z σ 6 = .inl (z.2.2.1.1, 2, .inl (gI σ 6)) := rfl
theorem cMJ {z : Cx} {σ : Mm} : ceM z σ 7 = .inl (z.2.2.1.2.1, 11, .inr (.inl (gL σ 7))) := rfl
theorem ceM_pI {z : Cx} {σ : Mm} {i k j : Nat} {v : Int32} (h : ¬ j = i) : ceM z (pI σ i k v) j = ceM z σ j := by
  unfold ceM fs6
  rw [gI_ne h]
  rfl
theorem ceM_pL {z : Cx} {σ : Mm} {i k j : Nat} {v : Int64} (h : ¬ j = i) : ceM z (pL σ i k v) j = ceM z σ j := by
  unfold ceM fs6
  rw [gL_ne h]
  rfl
theorem sX6I {z : Cx} {σ : Mm} {k : Nat} (h : k = 4 ∨ k = 7 ∨ k = 8 ∨ k = 20 ∨ k = 21 ∨ k = 22 ∨ k = 23 ∨ k = 24 ∨ k = 25 ∨ k = 26 ∨ k = 27 ∨ k = 28) {v : Int32} : (wl 8 z.2.1 (ceM z σ)).set 0 (z.2.1 0, .inr (6, (fs6 z σ 0).set k (.int v))) = wl 8 z.2.1 (ceM z (pI σ 0 k v)) := wl_set fun j _ => by
  by_cases e : j = 0
  · subst e
    rw [if_pos rfl, cX6]
    rcases h with rfl | rfl | rfl | rfl | rfl | rfl | rfl | rfl | rfl | rfl | rfl | rfl <;> rfl
  · rw [if_neg e, ceM_pI e]
theorem sX6L {z : Cx} {σ : Mm} {k : Nat} (h : k = 9 ∨ k = 10 ∨ k = 11 ∨ k = 12 ∨ k = 13 ∨ k = 14 ∨ k = 15 ∨ k = 16 ∨ k = 17 ∨ k = 18) {v : Int64} : (wl 8 z.2.1 (ceM z σ)).set 0 (z.2.1 0, .inr (6, (fs6 z σ 0).set k (.long v))) = wl 8 z.2.1 (ceM z (pL σ 0 k v)) := wl_set fun j _ => by
  by_cases e : j = 0
  · subst e
    rw [if_pos rfl, cX6]
    rcases h with rfl | rfl | rfl | rfl | rfl | rfl | rfl | rfl | rfl | rfl <;> rfl
  · rw [if_neg e, ceM_pL e]
theorem sMI22 {z : Cx} {σ : Mm} {i : Nat} (h : isI22 i = true) {k : Nat} {v : Int32} : (wl 8 z.2.1 (ceM z σ)).set i (z.2.1 i, .inl (z.2.2.1.1, 22, .inl (upd (gI σ i) k v))) = wl 8 z.2.1 (ceM z (pI σ i k v)) := wl_set fun j _ => by
  by_cases e : j = i
  · subst e
    rw [if_pos rfl, cMI22 h, gI_up]
  · rw [if_neg e, ceM_pI e]
theorem sMI7 {z : Cx} {σ : Mm} {k : Nat} {v : Int32} : (wl 8 z.2.1 (ceM z σ)).set 1 (z.2.1 1, .inl (z.2.2.1.1, 7, .inl (upd (gI σ 1) k v))) = wl 8 z.2.1 (ceM z (pI σ 1 k v)) := wl_set fun j _ => by
  by_cases e : j = 1
  · subst e
    rw [if_pos rfl, cMI7, gI_up]
  · rw [if_neg e, ceM_pI e]
theorem sMI64 {z : Cx} {σ : Mm} {k : Nat} {v : Int32} : (wl 8 z.2.1 (ceM z σ)).set 5 (z.2.1 5, .inl (z.2.2.1.1, 64, .inl (upd (gI σ 5) k v))) = wl 8 z.2.1 (ceM z (pI σ 5 k v)) := wl_set fun j _ => by
  by_cases e : j = 5
  · subst e
    rw [if_pos rfl, cMI64, gI_up]
  · rw [if_neg e, ceM_pI e]
theorem sMI2 {z : Cx} {σ : Mm} {k : Nat} {v : Int32} : (wl 8 z.2.1 (ceM z σ)).set 6 (z.2.1 6, .inl (z.2.2.1.1, 2, .inl (upd (gI σ 6) k v))) = wl 8 z.2.1 (ceM z (pI σ 6 k v)) := wl_set fun j _ => by
  by_cases e : j = 6
  · subst e
    rw [if_pos rfl, cMI2, gI_up]
  · rw [if_neg e, ceM_pI e]
theorem sMJ {z : Cx} {σ : Mm} {k : Nat} {v : Int64} : (wl 8 z.2.1 (ceM z σ)).set 7 (z.2.1 7, .inl (z.2.2.1.2.1, 11, .inr (.inl (vp_updL (gL σ 7) k v)))) = wl 8 z.2.1 (ceM z (pL σ 7 k v)) := wl_set fun j _ => by
  by_cases e : j = 7
  · subst e
    rw [if_pos rfl, cMJ, gL_up]
  · rw [if_neg e, ceM_pL e]
