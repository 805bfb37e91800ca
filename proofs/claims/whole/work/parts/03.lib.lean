/-! THE WORLDS OF THE CLASS AND OF THE REFERENCE: a memory of ints and longs by (number of the cell, place), the cells at addresses that are variables; contracts that give one memory for another -/
abbrev Mm : Type := (Nat → Nat → Int32) × (Nat → Nat → Int64) × Nat × Nat
def gI (σ : Mm) (i k : Nat) : Int32 := σ.1 i k
def gL (σ : Mm) (i k : Nat) : Int64 := σ.2.1 i k
def gH (σ : Mm) : Nat := σ.2.2.1
def gN (σ : Mm) : Nat := σ.2.2.2
def pI (σ : Mm) (i k : Nat) (v : Int32) : Mm := (fun a b => if a = i ∧ b = k then v else σ.1 a b, σ.2)
def pL (σ : Mm) (i k : Nat) (v : Int64) : Mm := (σ.1, fun a b => if a = i ∧ b = k then v else σ.2.1 a b, σ.2.2)
def pH (σ : Mm) (v : Nat) : Mm := (σ.1, σ.2.1, v, σ.2.2.2)
def pN (σ : Mm) (v : Nat) : Mm := (σ.1, σ.2.1, σ.2.2.1, v)
theorem gI_pI {σ : Mm} {i k a b : Nat} {v : Int32} : gI (pI σ i k v) a b = if a = i ∧ b = k then v else gI σ a b := rfl
theorem gL_pL {σ : Mm} {i k a b : Nat} {v : Int64} : gL (pL σ i k v) a b = if a = i ∧ b = k then v else gL σ a b := rfl
theorem gL_pI {σ : Mm} {i k a b : Nat} {v : Int32} : gL (pI σ i k v) a b = gL σ a b := rfl
theorem gI_pL {σ : Mm} {i k a b : Nat} {v : Int64} : gI (pL σ i k v) a b = gI σ a b := rfl
theorem gH_pI {σ : Mm} {i k : Nat} {v : Int32} : gH (pI σ i k v) = gH σ := rfl
theorem gN_pI {σ : Mm} {i k : Nat} {v : Int32} : gN (pI σ i k v) = gN σ := rfl
theorem gH_pL {σ : Mm} {i k : Nat} {v : Int64} : gH (pL σ i k v) = gH σ := rfl
theorem gN_pL {σ : Mm} {i k : Nat} {v : Int64} : gN (pL σ i k v) = gN σ := rfl
theorem gI_pH {σ : Mm} {v a b : Nat} : gI (pH σ v) a b = gI σ a b := rfl
theorem gL_pH {σ : Mm} {v a b : Nat} : gL (pH σ v) a b = gL σ a b := rfl
theorem gH_pH {σ : Mm} {v : Nat} : gH (pH σ v) = v := rfl
theorem gN_pH {σ : Mm} {v : Nat} : gN (pH σ v) = gN σ := rfl
theorem gI_pN {σ : Mm} {v a b : Nat} : gI (pN σ v) a b = gI σ a b := rfl
theorem gL_pN {σ : Mm} {v a b : Nat} : gL (pN σ v) a b = gL σ a b := rfl
theorem gH_pN {σ : Mm} {v : Nat} : gH (pN σ v) = gH σ := rfl
theorem gN_pN {σ : Mm} {v : Nat} : gN (pN σ v) = v := rfl
/-- class numbers and field places; addresses; the classes of the arrays of int, of long, of Tally; the address of UNITS -/
abbrev Cx : Type := va_G × (Nat → Nat) × (ClassId × ClassId × ClassId) × Nat
abbrev tyC (z : Cx) : List (ClassId × FieldType) := [(z.2.2.1.1, .int), (z.2.2.1.2.1, .long), (z.2.2.1.2.2, .object "TillOneOfSort$Tally")]
def wl (N : Nat) (ad : Nat → Nat) (ce : Nat → va_E) : va_W := (List.range N).map (fun i => (ad i, ce i))
theorem wl_get {N : Nat} {ad : Nat → Nat} {ce : Nat → va_E} {i : Nat} (h : i < N) : (wl N ad ce)[i]? = some (ad i, ce i) := by
  simp [wl, h]
theorem wl_at {N : Nat} {ad : Nat → Nat} {ce : Nat → va_E} {i : Nat} {e : va_E} (h : i < N) (he : ce i = e) : (wl N ad ce)[i]? = some (ad i, e) := by
  rw [wl_get h, he]
theorem wl_inv {N : Nat} {ad : Nat → Nat} {ce : Nat → va_E} {i : Nat} {q : Nat × va_E} (h : (wl N ad ce)[i]? = some q) : i < N ∧ q = (ad i, ce i) := by
  have hi : i < N := by
    have h1 := (List.getElem?_eq_some_iff.mp h).1
    simpa [wl] using h1
  rw [wl_get hi] at h
  exact ⟨hi, (Option.some.inj h).symm⟩
theorem wl_set {N : Nat} {ad : Nat → Nat} {ce ce' : Nat → va_E} {i : Nat} {e : va_E} (h : ∀ j, j < N → (if j = i then e else ce j) = ce' j) : (wl N ad ce).set i (ad i, e) = wl N ad ce' := by
  apply List.ext_getElem?
  intro j
  by_cases hj : j < N
  · rw [wl_get hj, ← h j hj, List.getElem?_set]
    by_cases hij : i = j
    · subst hij
      have : i < (wl N ad ce).length := by simpa [wl] using hj
      simp [this]
    · have : ¬ j = i := fun q => hij q.symm
      rw [if_neg hij, wl_get hj, if_neg this]
  · rw [List.getElem?_eq_none (by simpa [wl] using Nat.not_lt.mp hj), List.getElem?_eq_none (by simpa [wl] using Nat.not_lt.mp hj)]
def okC (N : Nat) (z : Cx) : Prop := ∀ i j, i < N → j < N → z.2.1 i = z.2.1 j → i = j
def aG (N : Nat) (z : Cx) : Nat → Prop := fun q => ∃ i, i < N ∧ q = z.2.1 i
theorem wl_D {N : Nat} {z : Cx} (h : okC N z) (ce : Nat → va_E) : va_D (aG N z) (wl N z.2.1 ce) := by
  refine ⟨fun i j p q hp hq hpq => ?_, fun k q hq => ?_⟩
  · obtain ⟨h1, rfl⟩ := wl_inv hp
    obtain ⟨h2, rfl⟩ := wl_inv hq
    exact h i j h1 h2 hpq
  · obtain ⟨h1, rfl⟩ := wl_inv hq
    exact ⟨k, h1, rfl⟩
/-! what the tables say of members that nest mates reach, and of UNITS -/
def nestL : List Cond := [.fieldLinkNest "TillOneOfSort" 122 "TillOneOfSort$Told" "chance" "I" "TillOneOfSort", .fieldLinkNest "TillOneOfSort" 125 "TillOneOfSort$Told" "lean" "I" "TillOneOfSort", .fieldLinkNest "TillOneOfSort" 157 "TillOneOfSort$Told" "families" "I" "TillOneOfSort", .fieldLinkNest "TillOneOfSort" 192 "TillOneOfSort$Told" "most" "I" "TillOneOfSort", .fieldLinkNest "TillOneOfSort" 53 "TillOneOfSort$Text" "length" "I" "TillOneOfSort", .fieldLinkNest "TillOneOfSort" 68 "TillOneOfSort$Told" "kind" "I" "TillOneOfSort", .fieldLinkNest "TillOneOfSort" 71 "TillOneOfSort$Told" "figure" "I" "TillOneOfSort", .fieldLinkNest "TillOneOfSort$Tally" 54 "TillOneOfSort$Walk" "here" "LTillOneOfSort$Cells;" "TillOneOfSort", .fieldLinkNest "TillOneOfSort$Tally" 65 "TillOneOfSort" "UNITS" "[J" "TillOneOfSort", .fieldLinkNest "TillOneOfSort$Tally" 77 "TillOneOfSort$Walk" "next" "LTillOneOfSort$Cells;" "TillOneOfSort", .methodLinkNest "TillOneOfSort$Tally" 61 yX5_lawStops "TillOneOfSort", .methodLinkNest "TillOneOfSort$Tally" 73 yX5_chanceOfOne "TillOneOfSort", .methodLinkNest "TillOneOfSort$Told" 73 yX5_lawStops "TillOneOfSort", .methodLinkNest "TillOneOfSort" 9 yX3_init "TillOneOfSort", .methodLinkNest "TillOneOfSort" 24 yX2_init "TillOneOfSort", .methodLinkNest "TillOneOfSort" 41 yX4_init "TillOneOfSort", .methodLinkNest "TillOneOfSort$Tally" 11 yX0_init "TillOneOfSort", .methodLinkNest "TillOneOfSort$Walk" 11 yX0_init "TillOneOfSort"]
def nestOK (U : State) : Prop := ∀ w ∈ nestL, va_Nw w U
theorem nestOK.warm {s U : State} (hW : s.WarmedH U.vm) (h : nestOK s) : nestOK U := by
  intro w hw
  have h1 := h w hw
  simp only [nestL, List.mem_cons, List.not_mem_nil, or_false] at hw
  rcases hw with rfl | rfl | rfl | rfl | rfl | rfl | rfl | rfl | rfl | rfl | rfl | rfl | rfl | rfl | rfl | rfl | rfl | rfl <;> first | exact va_Nw.warmF hW h1 | exact va_Nw.warmM hW h1
theorem nestOK.at {args : Array Value} {s : State} {w : Cond} (h : nestOK s) (hw : w ∈ nestL) (ho : w.onTables = true) : w.before args s = true := va_Nw.use ho (h w hw)
def un : List Int64 := [61917364224, 5159780352, 429981696, 35831808, 2985984, 248832, 20736, 1728, 144, 12, 1]
def uN (j : Nat) : Int64 := un.getD j 0
def en (z : Cx) (A : Nat → Prop) (U : State) : Prop := nestOK U ∧ va_Z "TillOneOfSort" "UNITS" "[J" (.ref z.2.2.2) A U U.heap ∧ va_T .long z.2.2.2 11 (fun j => .long (uN j)) A U U.heap
theorem en.go {z : Cx} {A : Nat → Prop} {s U : State} {H : Heap} {locs : List Loc} (h : en z A s) (hS : va_S A s.heap H locs) (hU : U.heap = H) (hW : s.WarmedH U.vm) : en z A U := by
  obtain ⟨h1, h2, h3⟩ := h
  refine ⟨h1.warm hW, ?_, ?_⟩
  · rw [hU]
    exact (h2.moved hW.alike).kept hS.2.1
  · rw [hU]
    exact (h3.moved hW.alike).kept hS.2.1
theorem nestOK.blind {a : Array Value} {U : State} {g : JFrame} {mk : MethodId} (h1 : nestOK U) : nestOK (U.calling g mk a) := by
    intro w hw
    have h4 := h1 w hw
    have ho : w.onTables = true := by
      simp only [nestL, List.mem_cons, List.not_mem_nil, or_false] at hw
      rcases hw with rfl | rfl | rfl | rfl | rfl | rfl | rfl | rfl | rfl | rfl | rfl | rfl | rfl | rfl | rfl | rfl | rfl | rfl <;> rfl
    exact va_tabs (u := U) (U := U.calling g mk a) ho rfl h4
theorem en.blind {z : Cx} {A : Nat → Prop} {a : Array Value} {U : State} {g : JFrame} {mk : MethodId} (h : en z A U) : en z A (U.calling g mk a) := by
  obtain ⟨h1, h2, h3⟩ := h
  refine ⟨h1.blind, ?_, ?_⟩
  · exact va_Z.moved (u := U) (U := U.calling g mk a) (Vm.Alike.refl U.vm) h2
  · exact va_T.moved (u := U) (U := U.calling g mk a) (Vm.Alike.refl U.vm) h3
/-! contracts -/
def pcG (N : Nat) (ce : Cx → Mm → Nat → va_E) (z : Cx) (σ : Mm) (as : List Value) : Array Value → State → Prop := va_Pc as (fun U => va_P z.1 vwCl (wl N z.2.1 (ce z σ)) U.heap ∧ va_K z.1 vwCl (tyC z) U ∧ en z (aG N z) U)
def qcG (N : Nat) (ce : Cx → Mm → Nat → va_E) (z : Cx) (σ : Mm) (rv : Option Value) : Array Value → State → Outcome → State → Prop := fun _ st oc t => oc = .returned rv ∧ va_P z.1 vwCl (wl N z.2.1 (ce z σ)) t.heap ∧ va_F (aG N z) st t
def qcS (rv : Option Value) : Array Value → State → Outcome → State → Prop := fun _ st oc t => oc = .returned rv ∧ t.heap = st.heap
abbrev KG (N : Nat) (ce : Cx → Mm → Nat → va_E) (l : Launch) (y : MethodName) (ws : List Cond) (fr lo : Nat) (as : List Value) (z : Cx) (σ σ' : Mm) (rv : Option Value) : Prop := Met l y ws ({ frames := fr, cells := 0, slots := 0, locals := lo }) (pcG N ce z σ as) (qcG N ce z σ' rv) 0 0 (aG N z)
abbrev KS (l : Launch) (y : MethodName) (ws : List Cond) (fr lo : Nat) (as : List Value) (rv : Option Value) : Prop := Met l y ws ({ frames := fr, cells := 0, slots := 0, locals := lo }) (va_Pc as (fun _ => True)) (qcS rv) 0 0 (fun _ => False)
theorem pcG.blind {N : Nat} {ce : Cx → Mm → Nat → va_E} {z : Cx} {σ : Mm} {as : List Value} : FrameBlind (pcG N ce z σ as) := by
  intro a U g mk q
  obtain ⟨h1, h2, h3, h4⟩ := q
  exact ⟨h1, h2, va_K.moved (u := U) (U := U.calling g mk a) (Vm.Alike.refl U.vm) h3, h4.blind⟩
theorem pcS.blind {as : List Value} : FrameBlind (va_Pc as (fun _ => True)) := fun _ _ _ _ q => q
section XB
variable {N : Nat} {ce : Cx → Mm → Nat → va_E} {z : Cx} {σ : Mm} {s : State} {H : Heap} {locs : List Loc} {A0 : Nat → Prop}
theorem pvG {C : String} {b : Addr} {As : List Value} (hK : va_K z.1 vwCl (tyC z) s) (hP : va_P z.1 vwCl (wl N z.2.1 (ce z σ)) H) (hE : en z (aG N z) s) (hS : va_S (aG N z) s.heap H locs) (hr : ∃ cell : Cell, H[b]? = some cell ∧ cell.vm.isStatics = false ∧ s.vm.findClass C = some cell.cls) : PreV s H C b (pcG N ce z σ (.ref b :: As)) As :=
  ⟨pcG.blind, hr, fun U hU hW => ⟨rfl, by rw [hU]; exact hP, hK.moved hW.alike, hE.go hS hU hW⟩⟩
theorem psG {As : List Value} (hK : va_K z.1 vwCl (tyC z) s) (hP : va_P z.1 vwCl (wl N z.2.1 (ce z σ)) H) (hE : en z (aG N z) s) (hS : va_S (aG N z) s.heap H locs) : PreS s H (pcG N ce z σ As) As :=
  ⟨pcG.blind, fun U hU hW => ⟨rfl, by rw [hU]; exact hP, hK.moved hW.alike, hE.go hS hU hW⟩⟩
theorem psS {As : List Value} : PreS s H (va_Pc As (fun _ => True)) As := ⟨pcS.blind, fun _ _ _ => ⟨rfl, trivial⟩⟩
end XB
section XC
variable {p : Program} {l : Launch} {e : Env} {R : Room} {s : State} {m : MethodId} {args : Array Value} {below : List Frame} {meth : Method} {c : Code} {H : Heap} {locs : List Loc} {cells slots : Nat} {Q : State → Prop}
variable {pc : Nat} {ls : Array Slot} {rest st0 : List Value} {a : Array Value} {N : Nat} {ce : Cx → Mm → Nat → va_E} {z : Cx} {σ : Mm} {rv : Option Value}
theorem x_callG {H0 : Heap} (hr : va_Run p l e R s m args below meth c H locs cells slots 0 0 (F0 m pc ls st0) rest (qcG N ce z σ rv a) (aG N z)) (hS : va_S (aG N z) H0 H locs)
    (kk : ∀ (H1 : Heap) (locs1 : List Loc), va_P z.1 vwCl (wl N z.2.1 (ce z σ)) H1 → va_S (aG N z) H0 H1 locs1 → W p l e R s m args below meth c H1 locs1 cells slots Q (F0 m (pc + 3) ls (rv.toList ++ rest))) : W p l e R s m args below meth c H locs cells slots Q (F0 m pc ls st0) := by
  intro T hT X
  obtain ⟨v, st₀, t, T', L, h0, X', hL, e1, e2, ⟨hv, hp, hz, hk⟩, st⟩ := hr T hT X
  have hv : v = rv := by injection hv
  subst hv
  rw [h0] at hz hk
  obtain ⟨t2, a1, b1⟩ := kk T'.heap (locs ++ L) (by rw [e1]; exact hp) ⟨Nat.le_trans hS.1 (by rw [e1]; exact hz), fun q h1 h2 => by rw [e1, hk q (Nat.lt_of_lt_of_le h1 hS.1) h2]; exact hS.2.1 q h1 h2, fun q hq => by
      rcases List.mem_append.mp hq with h | h
      · exact hS.2.2 q h
      · exact hL q h⟩ T' rfl X'
  exact ⟨t2, st t2 a1, b1⟩
theorem x_callGi {H0 : Heap} {v : Int32} (hr : va_Run p l e R s m args below meth c H locs cells slots 0 0 (F0 m pc ls st0) rest (qcG N ce z σ (some (.int v)) a) (aG N z)) (hS : va_S (aG N z) H0 H locs)
    (kk : ∀ (H1 : Heap) (locs1 : List Loc), va_P z.1 vwCl (wl N z.2.1 (ce z σ)) H1 → va_S (aG N z) H0 H1 locs1 → W p l e R s m args below meth c H1 locs1 cells slots Q (F0 m (pc + 3) ls (.int v :: rest))) : W p l e R s m args below meth c H locs cells slots Q (F0 m pc ls st0) := x_callG hr hS kk
theorem x_callGl {H0 : Heap} {v : Int64} (hr : va_Run p l e R s m args below meth c H locs cells slots 0 0 (F0 m pc ls st0) rest (qcG N ce z σ (some (.long v)) a) (aG N z)) (hS : va_S (aG N z) H0 H locs)
    (kk : ∀ (H1 : Heap) (locs1 : List Loc), va_P z.1 vwCl (wl N z.2.1 (ce z σ)) H1 → va_S (aG N z) H0 H1 locs1 → W p l e R s m args below meth c H1 locs1 cells slots Q (F0 m (pc + 3) ls (.long v :: rest))) : W p l e R s m args below meth c H locs cells slots Q (F0 m pc ls st0) := x_callG hr hS kk
theorem x_callGr {H0 : Heap} {v : Nat} (hr : va_Run p l e R s m args below meth c H locs cells slots 0 0 (F0 m pc ls st0) rest (qcG N ce z σ (some (.ref v)) a) (aG N z)) (hS : va_S (aG N z) H0 H locs)
    (kk : ∀ (H1 : Heap) (locs1 : List Loc), va_P z.1 vwCl (wl N z.2.1 (ce z σ)) H1 → va_S (aG N z) H0 H1 locs1 → W p l e R s m args below meth c H1 locs1 cells slots Q (F0 m (pc + 3) ls (.ref v :: rest))) : W p l e R s m args below meth c H locs cells slots Q (F0 m pc ls st0) := x_callG hr hS kk
theorem x_callGv {H0 : Heap} (hr : va_Run p l e R s m args below meth c H locs cells slots 0 0 (F0 m pc ls st0) rest (qcG N ce z σ none a) (aG N z)) (hS : va_S (aG N z) H0 H locs)
    (kk : ∀ (H1 : Heap) (locs1 : List Loc), va_P z.1 vwCl (wl N z.2.1 (ce z σ)) H1 → va_S (aG N z) H0 H1 locs1 → W p l e R s m args below meth c H1 locs1 cells slots Q (F0 m (pc + 3) ls rest)) : W p l e R s m args below meth c H locs cells slots Q (F0 m pc ls st0) := x_callG hr hS kk
theorem x_callS (hr : va_Run p l e R s m args below meth c H locs cells slots 0 0 (F0 m pc ls st0) rest (qcS rv a) (fun _ => False))
    (kk : W p l e R s m args below meth c H locs cells slots Q (F0 m (pc + 3) ls (rv.toList ++ rest))) : W p l e R s m args below meth c H locs cells slots Q (F0 m pc ls st0) := by
  intro T hT X
  obtain ⟨v, st₀, t, T', L, h0, X', hL, e1, e2, ⟨hv, hh⟩, st⟩ := hr T hT X
  have hv : v = rv := by injection hv
  subst hv
  obtain ⟨t2, a1, b1⟩ := kk T' (by rw [e1, hh, h0]) (Stand.forget X' (fun q h => (hL q h).elim))
  exact ⟨t2, st t2 a1, b1⟩
theorem x_callSi {v : Int32} (hr : va_Run p l e R s m args below meth c H locs cells slots 0 0 (F0 m pc ls st0) rest (qcS (some (.int v)) a) (fun _ => False))
    (kk : W p l e R s m args below meth c H locs cells slots Q (F0 m (pc + 3) ls (.int v :: rest))) : W p l e R s m args below meth c H locs cells slots Q (F0 m pc ls st0) := x_callS hr kk
theorem x_callSl {v : Int64} (hr : va_Run p l e R s m args below meth c H locs cells slots 0 0 (F0 m pc ls st0) rest (qcS (some (.long v)) a) (fun _ => False))
    (kk : W p l e R s m args below meth c H locs cells slots Q (F0 m (pc + 3) ls (.long v :: rest))) : W p l e R s m args below meth c H locs cells slots Q (F0 m pc ls st0) := x_callS hr kk
end XC
section XR
variable {p : Program} {l : Launch} {e : Env} {R : Room} {s : State} {m : MethodId} {args : Array Value} {below : List Frame} {meth : Method} {c : Code} {H : Heap} {locs : List Loc} {cc : ByteArray} {pc : Nat} {ls : Array Slot}
variable {N : Nat} {ce : Cx → Mm → Nat → va_E} {z : Cx} {σ σ' : Mm}
theorem x_iret {v r : Int32} (hx : p.tables.exec = Jvm.exec) (hb : c.code = cc) (hr : meth.sig.returnType = some .int) (hlocks : meth.locks = false) (hP : va_P z.1 vwCl (wl N z.2.1 (ce z σ)) H) (hS : va_S (aG N z) s.heap H locs) (hdg : decode cc pc = .ok (.ireturn, 1)) (h1 : v = r) (h2 : σ = σ') : W p l e R s m args below meth c H locs 0 0 (MQ below (qcG N ce z σ' (some (.int r))) args s 0 0 (aG N z)) (F0 m pc ls [.int v]) := by
  subst h1; subst h2
  exact W.iret hx hb hr (fun t ht _ => ⟨rfl, by rw [ht]; exact hP, hS.F ht⟩) hS.2.2 hdg hlocks
theorem x_zret {v r : Int32} (hx : p.tables.exec = Jvm.exec) (hb : c.code = cc) (hr : meth.sig.returnType = some .boolean) (hlocks : meth.locks = false) (hP : va_P z.1 vwCl (wl N z.2.1 (ce z σ)) H) (hS : va_S (aG N z) s.heap H locs) (hdg : decode cc pc = .ok (.ireturn, 1)) (hn : narrow .boolean (.int v) = .int v) (h1 : v = r) (h2 : σ = σ') : W p l e R s m args below meth c H locs 0 0 (MQ below (qcG N ce z σ' (some (.int r))) args s 0 0 (aG N z)) (F0 m pc ls [.int v]) := by
  subst h1; subst h2
  exact W.zret hx hb hr hn (fun t ht _ => ⟨rfl, by rw [ht]; exact hP, hS.F ht⟩) hS.2.2 hdg hlocks
theorem x_lret {v r : Int64} (hx : p.tables.exec = Jvm.exec) (hb : c.code = cc) (hr : meth.sig.returnType = some .long) (hlocks : meth.locks = false) (hP : va_P z.1 vwCl (wl N z.2.1 (ce z σ)) H) (hS : va_S (aG N z) s.heap H locs) (hdg : decode cc pc = .ok (.lreturn, 1)) (h1 : v = r) (h2 : σ = σ') : W p l e R s m args below meth c H locs 0 0 (MQ below (qcG N ce z σ' (some (.long r))) args s 0 0 (aG N z)) (F0 m pc ls [.long v]) := by
  subst h1; subst h2
  exact W.lret hx hb hr (fun t ht _ => ⟨rfl, by rw [ht]; exact hP, hS.F ht⟩) hS.2.2 hdg hlocks
theorem x_vret (hx : p.tables.exec = Jvm.exec) (hb : c.code = cc) (hr : meth.sig.returnType = none) (hlocks : meth.locks = false) (hP : va_P z.1 vwCl (wl N z.2.1 (ce z σ)) H) (hS : va_S (aG N z) s.heap H locs) (hdg : decode cc pc = .ok (.return_, 1)) (h2 : σ = σ') : W p l e R s m args below meth c H locs 0 0 (MQ below (qcG N ce z σ' none) args s 0 0 (aG N z)) (F0 m pc ls []) := by
  subst h2
  exact W.vret hx hb hr (fun t ht _ => ⟨rfl, by rw [ht]; exact hP, hS.F ht⟩) hS.2.2 hdg hlocks
theorem x_aret {rt : String} {v r : Nat} (hx : p.tables.exec = Jvm.exec) (hb : c.code = cc) (hr : meth.sig.returnType = some (.object rt)) (hlocks : meth.locks = false) (hP : va_P z.1 vwCl (wl N z.2.1 (ce z σ)) H) (hS : va_S (aG N z) s.heap H locs) (hdg : decode cc pc = .ok (.areturn, 1)) (h1 : v = r) (h2 : σ = σ') : W p l e R s m args below meth c H locs 0 0 (MQ below (qcG N ce z σ' (some (.ref (z.2.1 r)))) args s 0 0 (aG N z)) (F0 m pc ls [.ref (z.2.1 v)]) := by
  subst h1; subst h2
  exact W.aret hx hb hr (Or.inl ⟨_, rfl⟩) (Or.inr ⟨_, rfl⟩) (fun t ht _ => ⟨rfl, by rw [ht]; exact hP, hS.F ht⟩) hS.2.2 hdg hlocks
theorem xs_iret {v r : Int32} (hx : p.tables.exec = Jvm.exec) (hb : c.code = cc) (hr : meth.sig.returnType = some .int) (hlocks : meth.locks = false) (hdg : decode cc pc = .ok (.ireturn, 1)) (h1 : v = r) : W p l e R s m args below meth c s.heap [] 0 0 (MQ below (qcS (some (.int r))) args s 0 0 (fun _ => False)) (F0 m pc ls [.int v]) := by
  subst h1
  exact W.iret hx hb hr (fun t ht _ => ⟨rfl, ht⟩) (fun _ h => nomatch h) hdg hlocks
theorem xs_zret {v r : Int32} (hx : p.tables.exec = Jvm.exec) (hb : c.code = cc) (hr : meth.sig.returnType = some .boolean) (hlocks : meth.locks = false) (hdg : decode cc pc = .ok (.ireturn, 1)) (hn : narrow .boolean (.int v) = .int v) (h1 : v = r) : W p l e R s m args below meth c s.heap [] 0 0 (MQ below (qcS (some (.int r))) args s 0 0 (fun _ => False)) (F0 m pc ls [.int v]) := by
  subst h1
  exact W.zret hx hb hr hn (fun t ht _ => ⟨rfl, ht⟩) (fun _ h => nomatch h) hdg hlocks
theorem xs_lret {v r : Int64} (hx : p.tables.exec = Jvm.exec) (hb : c.code = cc) (hr : meth.sig.returnType = some .long) (hlocks : meth.locks = false) (hdg : decode cc pc = .ok (.lreturn, 1)) (h1 : v = r) : W p l e R s m args below meth c s.heap [] 0 0 (MQ below (qcS (some (.long r))) args s 0 0 (fun _ => False)) (F0 m pc ls [.long v]) := by
  subst h1
  exact W.lret hx hb hr (fun t ht _ => ⟨rfl, ht⟩) (fun _ h => nomatch h) hdg hlocks
end XR
/-! plain helps -/
theorem x_nb {x : Int32} (h : x &&& 1 = x) : narrow .boolean (.int x) = .int x := by
  show Value.int (x &&& 1) = .int x
  rw [h]
def ci (i : Int32) (n : Nat) : Bool := decide (0 ≤ i) && decide (i.toNatClampNeg < n)
theorem ci_in {i : Int32} {n : Nat} (h : ci i n = true) : vp_in i n := by
  simp only [ci, Bool.and_eq_true, decide_eq_true_eq] at h
  rintro (h1 | h1)
  · exact absurd h.1 (by rw [Int32.le_iff_toInt_le]; rw [Int32.lt_iff_toInt_lt] at h1; omega)
  · omega
theorem x_ck {α : Type} {c : Prop} [Decidable c] {A : Option α} {r : α} (h : (if c then A else none) = some r) : c ∧ A = some r := by
  by_cases hc : c
  · rw [if_pos hc] at h; exact ⟨hc, h⟩
  · rw [if_neg hc] at h; cases h
theorem x_bd {α β : Type} {a : Option α} {g : α → Option β} {r : β} (h : a.bind g = some r) : ∃ q, a = some q ∧ g q = some r := Option.bind_eq_some_iff.mp h
theorem x_sw {x : Int32} {lo hi : Int} (h : ∀ k : Int, lo ≤ k → k ≤ hi → x.toInt ≠ k) : x.toInt < lo ∨ hi < x.toInt := by
  rcases Int.lt_or_le x.toInt lo with h1 | h1
  · exact Or.inl h1
  · rcases Int.lt_or_le hi x.toInt with h2 | h2
    · exact Or.inr h2
    · exact absurd rfl (h _ h1 h2)
theorem x_ne {x k : Int32} {a : Int} (h : ¬ x = k) (hk : a = k.toInt) : x.toInt ≠ a := fun e => h (Int32.toInt_inj.mp (e.trans hk))
section XT
variable {p : Program} {l : Launch} {e : Env} {R : Room} {s : State} {m : MethodId} {args : Array Value} {below : List Frame} {meth : Method} {c : Code} {H : Heap} {locs : List Loc} {cells slots : Nat} {Q : State → Prop} {cc : ByteArray} {pc : Nat} {ls : Array Slot} {rest : List Value}
/-- a switch to its default: out of its range, or at a place that goes there -/
theorem x_tableD (hexec : p.tables.exec = Jvm.exec) (hb : c.code = cc) {dflt lo hi : Int} {offs : Array Int} {len : Nat} {x : Int32} {tgt : Nat} (hdg : decode cc pc = .ok (.tableswitch dflt lo hi offs, len)) (h : ∀ k : Int, lo ≤ k → k ≤ hi → x.toInt ≠ k ∨ offs[(k - lo).toNat]? = some dflt) (ht : (pc : Int) + dflt = (tgt : Int))
    (k : W p l e R s m args below meth c H locs cells slots Q (F0 m tgt ls rest)) : W p l e R s m args below meth c H locs cells slots Q (F0 m pc ls (.int x :: rest)) := by
  by_cases h1 : x.toInt < lo
  · exact lv_tableOut hexec hb hdg (Or.inl h1) ht k
  · by_cases h2 : hi < x.toInt
    · exact lv_tableOut hexec hb hdg (Or.inr h2) ht k
    · rcases h x.toInt (Int.not_lt.mp h1) (Int.not_lt.mp h2) with h3 | h3
      · exact absurd rfl h3
      · exact lv_tableIn hexec hb hdg h1 h2 h3 ht k
end XT
