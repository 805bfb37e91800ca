/-! FOR THE CONSTRUCTORS: worlds as lists that grow -/
def pcI (z : Cx) (as : List Value) (sz : Nat) (ws : va_W) : Array Value → State → Prop := va_Pc as (fun U => U.heap.size = sz ∧ va_P z.1 vwCl ws U.heap ∧ va_K z.1 vwCl (tyC z) U ∧ va_D (fun _ => True) ws ∧ nestOK U ∧ va_AO "TillOneOfSort$Tally" U)
def qcI {S : Type} (z : Cx) (A : Nat → Prop) (wf : S → va_W) : Array Value → State → Outcome → State → Prop := va_Qv (fun _ : S => True) (fun u t => va_P z.1 vwCl (wf u) t.heap ∧ va_D A (wf u)) A
theorem pcI.blind {z : Cx} {as : List Value} {sz : Nat} {ws : va_W} : FrameBlind (pcI z as sz ws) := by
  intro a U g mk q
  obtain ⟨h1, h2, h3, h4, h5, h6, h7⟩ := q
  exact ⟨h1, h2, h3, va_K.moved (u := U) (U := U.calling g mk a) (Vm.Alike.refl U.vm) h4, h5, h6.blind, va_AO.moved (u := U) (U := U.calling g mk a) (Vm.Alike.refl U.vm) h7⟩
theorem wl_last {wr : va_W} {q : Nat} {e : va_E} : (wr ++ [(q, e)])[wr.length]? = some (q, e) := by simp
section XI
variable {z : Cx} {s : State} {H : Heap} {wr : va_W} {q : Nat} {e : va_E} {A0 : Nat → Prop}
theorem piI {b : Addr} {As : List Value} (hP : va_P z.1 vwCl (wr ++ [(q, e)]) H) (hK : va_K z.1 vwCl (tyC z) s) (hD : va_D A0 (wr ++ [(q, e)])) (hN : nestOK s) (hO : va_AO "TillOneOfSort$Tally" s) : PreS s H (pcI z (.ref b :: As) H.size [(q, e)]) (.ref b :: As) := by
  refine ⟨pcI.blind, fun U hU hW => ⟨rfl, by rw [hU], ?_, hK.moved hW.alike, ?_, hN.warm hW, hO.moved hW.alike⟩⟩
  · rw [hU]
    intro k x hx
    have hk : k = 0 := by
      have := (List.getElem?_eq_some_iff.mp hx).1
      simp at this
      exact this
    subst hk
    cases hx
    exact hP wr.length _ wl_last
  · refine ⟨fun i j x y hx hy _ => ?_, fun _ _ _ => trivial⟩
    have h1 := (List.getElem?_eq_some_iff.mp hx).1
    have h2 := (List.getElem?_eq_some_iff.mp hy).1
    simp at h1 h2
    omega
variable {p : Program} {l : Launch} {ev : Env} {R : Room} {m : MethodId} {args : Array Value} {below : List Frame} {meth : Method} {c : Code} {locs : List Loc} {cells slots : Nat} {Q : State → Prop} {pc : Nat} {ls : Array Slot} {rest st0 : List Value} {a : Array Value} {H0 : Heap} {mc ms : Nat}
theorem x_callI {S : Type} {wf : S → va_W} (hr : va_Run p l ev R s m args below meth c H locs cells slots mc ms (F0 m pc ls st0) rest (qcI z (va_A [(q, e)] H.size) wf a) (va_A [(q, e)] H.size)) (hP : va_P z.1 vwCl (wr ++ [(q, e)]) H) (hD : va_D A0 (wr ++ [(q, e)])) (hS : va_S A0 H0 H locs) (hA : ∀ x, H0.size ≤ x → A0 x)
    (kk : ∀ (u : S) (H1 : Heap) (locs1 : List Loc), va_P z.1 vwCl (wr ++ wf u) H1 → va_D A0 (wr ++ wf u) → va_S A0 H0 H1 locs1 → W p l ev R s m args below meth c H1 locs1 (cells + mc) (slots + ms) Q (F0 m (pc + 3) ls rest)) : W p l ev R s m args below meth c H locs cells slots Q (F0 m pc ls st0) := by
  have hC : [wr.length].map (fun i => (wr ++ [(q, e)])[i]?) = [(q, e)].map some := by simp
  have hRr : (List.range wr.length).map (fun i => (wr ++ [(q, e)])[i]?) = wr.map some := by
    apply List.ext_getElem?
    intro k
    by_cases hk : k < wr.length
    · simp [hk, List.getElem?_append_left hk]
    · simp [hk]
  have hFc := va_free (wc := [(q, e)]) hD hS hA [wr.length] hC
  have hn : va_nd (List.range wr.length) = true := by
    have h : ∀ l : List Nat, l.Nodup → va_nd l = true := by
      intro l
      induction l with
      | nil => intro _; rfl
      | cons x xs ih =>
        intro hx
        rw [List.nodup_cons] at hx
        simp only [va_nd]
        simp [hx.1, ih hx.2]
    exact h _ List.nodup_range
  refine va_callv hr hS (fun x _ h => hFc x h) hFc (fun u t H1 locs1 ht hvm _ hB _ hk1 hS1 => ?_)
  obtain ⟨hP1, hD1⟩ := hB
  rw [ht] at hP1
  obtain ⟨h1, h2⟩ := va_join (wr := wr) (w1 := wf u) hP hD [wr.length] (List.range wr.length) hC hRr hn (fun i hi => by
    have := List.mem_range.mp hi
    simp; omega) hk1 hFc hP1 hD1
  exact kk u H1 locs1 h1 h2 hS1
end XI
section XN
variable {p : Program} {l : Launch} {ev : Env} {R : Room} {s : State} {m : MethodId} {args : Array Value} {below : List Frame} {meth : Method} {c : Code} {H : Heap} {locs : List Loc} {cells slots : Nat} {Q : State → Prop} {pc : Nat} {ls : Array Slot} {rest : List Value} {H0 : Heap} {cc : ByteArray} {z : Cx} {ws : va_W} {A : Nat → Prop}
theorem x_newaI (hexec : p.tables.exec = Jvm.exec) (hb : c.code = cc) (harr : (Cond.arrayClass .int).before args s = true) (hK : va_K z.1 vwCl (tyC z) s) (hP : va_P z.1 vwCl ws H) (hD : va_D A ws) (hS : va_S A H0 H locs) (hA : ∀ q, H0.size ≤ q → A q)
    {n : Int32} {N' : Nat} (hn : ¬ n < 0) (hN : n.toNatClampNeg = N') (hbytes : N' * componentBytes .int ≤ 536870912) (hcells : cells + 1 ≤ R.cells) (hslots : slots + N' ≤ R.slots) (hdg : decode cc pc = .ok (.newarray .int, 2))
    (kk : ∀ (q : Nat) (H1 : Heap), va_P z.1 vwCl (ws ++ [(q, .inl (z.2.2.1.1, N', .inl (fun _ => 0)))]) H1 → va_D A (ws ++ [(q, .inl (z.2.2.1.1, N', .inl (fun _ => 0)))]) → va_S A H0 H1 locs →
      W p l ev R s m args below meth c H1 locs (cells + 1) (slots + N') Q (F0 m (pc + 2) ls (.ref q :: rest))) : W p l ev R s m args below meth c H locs cells slots Q (F0 m pc ls (.int n :: rest)) := by
  refine va_newa (atype := .int) (ty := .int) (N' := N') (a0 := (N', .inl (fun _ => 0))) hexec hb harr rfl hK hP hD hS hA (fun cA => by first | rfl | simp [vp_cell]) hn hN hbytes hcells hslots hdg (fun q cA H1 hK1 hP1 hD1 hS1 => ?_)
  have e1 : s.vm.findClass ("[" ++ (FieldType.int).toString) = some cA := (hK1.2 3 (cA, .int) rfl).2
  have e2 : s.vm.findClass ("[" ++ (FieldType.int).toString) = some z.2.2.1.1 := (hK.2 0 (z.2.2.1.1, .int) rfl).2
  have e3 : cA = z.2.2.1.1 := Option.some.inj (e1.symm.trans e2)
  subst e3
  exact kk q H1 hP1 hD1 hS1
theorem x_newaJ (hexec : p.tables.exec = Jvm.exec) (hb : c.code = cc) (harr : (Cond.arrayClass .long).before args s = true) (hK : va_K z.1 vwCl (tyC z) s) (hP : va_P z.1 vwCl ws H) (hD : va_D A ws) (hS : va_S A H0 H locs) (hA : ∀ q, H0.size ≤ q → A q)
    {n : Int32} {N' : Nat} (hn : ¬ n < 0) (hN : n.toNatClampNeg = N') (hbytes : N' * componentBytes .long ≤ 536870912) (hcells : cells + 1 ≤ R.cells) (hslots : slots + N' ≤ R.slots) (hdg : decode cc pc = .ok (.newarray .long, 2))
    (kk : ∀ (q : Nat) (H1 : Heap), va_P z.1 vwCl (ws ++ [(q, .inl (z.2.2.1.2.1, N', .inr (.inl (fun _ => 0))))]) H1 → va_D A (ws ++ [(q, .inl (z.2.2.1.2.1, N', .inr (.inl (fun _ => 0))))]) → va_S A H0 H1 locs →
      W p l ev R s m args below meth c H1 locs (cells + 1) (slots + N') Q (F0 m (pc + 2) ls (.ref q :: rest))) : W p l ev R s m args below meth c H locs cells slots Q (F0 m pc ls (.int n :: rest)) := by
  refine va_newa (atype := .long) (ty := .long) (N' := N') (a0 := (N', .inr (.inl (fun _ => 0)))) hexec hb harr rfl hK hP hD hS hA (fun cA => by first | rfl | simp [vp_cell]) hn hN hbytes hcells hslots hdg (fun q cA H1 hK1 hP1 hD1 hS1 => ?_)
  have e1 : s.vm.findClass ("[" ++ (FieldType.long).toString) = some cA := (hK1.2 3 (cA, .long) rfl).2
  have e2 : s.vm.findClass ("[" ++ (FieldType.long).toString) = some z.2.2.1.2.1 := (hK.2 1 (z.2.2.1.2.1, .long) rfl).2
  have e3 : cA = z.2.2.1.2.1 := Option.some.inj (e1.symm.trans e2)
  subst e3
  exact kk q H1 hP1 hD1 hS1
theorem x_newq (hexec : p.tables.exec = Jvm.exec) (hb : c.code = cc) {own : String} {index : Nat} (hown : s.vm.findClass own = some m.cls) (hclink : (Cond.classLink own index "TillOneOfSort$Tally").before args s = true) (hover : va_AO "TillOneOfSort$Tally" s) (hK : va_K z.1 vwCl (tyC z) s) (hP : va_P z.1 vwCl ws H) (hD : va_D A ws) (hS : va_S A H0 H locs) (hA : ∀ q, H0.size ≤ q → A q)
    {n : Int32} {N' : Nat} (hn : ¬ n < 0) (hN : n.toNatClampNeg = N') (hbytes : N' * 4 ≤ 536870912) (hcells : cells + 1 ≤ R.cells) (hslots : slots + N' ≤ R.slots) (hdg : decode cc pc = .ok (.anewarray index, 3))
    (kk : ∀ (q : Nat) (H1 : Heap), va_P z.1 vwCl (ws ++ [(q, .inl (z.2.2.1.2.2, N', .inr (.inr (.inr (.inr (fun _ => none))))))]) H1 → va_D A (ws ++ [(q, .inl (z.2.2.1.2.2, N', .inr (.inr (.inr (.inr (fun _ => none))))))]) → va_S A H0 H1 locs →
      W p l ev R s m args below meth c H1 locs (cells + 1) (slots + N') Q (F0 m (pc + 3) ls (.ref q :: rest))) : W p l ev R s m args below meth c H locs cells slots Q (F0 m pc ls (.int n :: rest)) := by
  refine va_newq (N' := N') hexec hb hown hclink hover hK hP hD hS hA hn hN hbytes hcells hslots hdg (fun q cA H1 hK1 hP1 hD1 hS1 => ?_)
  obtain ⟨_, _, _, _, _, e1⟩ := (hK1.2 3 (cA, .object "TillOneOfSort$Tally") rfl).2
  obtain ⟨_, _, _, _, _, e2⟩ := (hK.2 2 (z.2.2.1.2.2, .object "TillOneOfSort$Tally") rfl).2
  have e3 : cA = z.2.2.1.2.2 := Option.some.inj (e1.symm.trans e2)
  subst e3
  exact kk q H1 hP1 hD1 hS1
end XN
