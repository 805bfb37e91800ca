set_option maxHeartbeats 40000000 in
set_option maxRecDepth 100000 in
theorem kX2_isSign (l : Launch) {a0 : Int32}  {r : Int32} (hf : fX2_isSign a0 = some r) : KS l yX2_isSign wsX2_isSign (0) (0) [.int a0] (some (.int r)) := by
  rw [fX2_isSign] at hf
  refine Met.ofW (cc := cX2_isSign) (maxL := 1) (ret := (some .boolean)) (by decide) rfl ?_
  intro p e s m args below meth c s₁ B hml hv
  obtain ⟨rfl, -⟩ := hv
  have hx := B.exec
  have hb := B.bytes
  have hr := B.returns
  have hts := atoms_spec (ws := wsX2_isSign) B.pre
  have hown : s.vm.findClass RX2 = some m.cls := findClass_of_methodNamed B.named
  have hlocks := B.notSynchronized
  have hl := lv_entry ([.int a0]) (n := 1) (Nat.le_of_ble_eq_true rfl)
  rw [lg_entry_eq]
  generalize (lg_sl ([.int a0]) ++ List.replicate (1 - (lg_sl ([.int a0])).length) Slot.unset).toArray = ls at hl ⊢
  have hl : lv_has ls 1 [(0, .int a0)] := hl
  refine lv_iload_n hx hb dX2_isSign_0 rfl (lv_at hl 0 rfl) ?_
  refine lv_bipush (v := (43 : Int32)) hx hb dX2_isSign_1 (by decide) ?_
  refine lv_icmp_eq (tgt := 12) hx hb dX2_isSign_3 (by decide) (fun c_1001 => ?_) (fun c_1001 => ?_)
  · have hf := (if_pos c_1001).symm.trans hf
    refine lv_iconst (v := (1 : Int32)) hx hb dX2_isSign_12 (by decide) ?_
    refine lv_goto (tgt := 17) hx hb dX2_isSign_13 (by decide) ?_
    exact xs_zret hx hb hr hlocks dX2_isSign_17 rfl (Option.some.inj hf)
  · have hf := (if_neg c_1001).symm.trans hf
    refine lv_iload_n hx hb dX2_isSign_6 rfl (lv_at hl 0 rfl) ?_
    refine lv_bipush (v := (45 : Int32)) hx hb dX2_isSign_7 (by decide) ?_
    refine lv_icmp_ne (tgt := 16) hx hb dX2_isSign_9 (by decide) (fun c_1002 => ?_) (fun c_1002 => ?_)
    · have hf := (if_neg c_1002).symm.trans hf
      refine lv_iconst (v := (0 : Int32)) hx hb dX2_isSign_16 (by decide) ?_
      exact xs_zret hx hb hr hlocks dX2_isSign_17 rfl (Option.some.inj hf)
    · have hf := (if_pos c_1002).symm.trans hf
      refine lv_iconst (v := (1 : Int32)) hx hb dX2_isSign_12 (by decide) ?_
      refine lv_goto (tgt := 17) hx hb dX2_isSign_13 (by decide) ?_
      exact xs_zret hx hb hr hlocks dX2_isSign_17 rfl (Option.some.inj hf)
set_option maxHeartbeats 40000000 in
set_option maxRecDepth 100000 in
theorem kX2_kindAt (l : Launch) (z : Cx) (hz : okC 40 z) {a0 : Int32}  {σ : Mm} {r : Int32} (hf : fX2_kindAt a0 σ = some r) : KG 40 ceX l yX2_kindAt wsX2_kindAt (1) (21) [.ref (z.2.1 10), .int a0] z σ σ (some (.int r)) := by
  rw [fX2_kindAt] at hf
  refine Met.ofW (cc := cX2_kindAt) (maxL := 2) (ret := (some .int)) (by decide) rfl ?_
  intro p e s m args below meth c s₁ B hml hv
  obtain ⟨rfl, hP, hK, hE⟩ := hv
  have hx := B.exec
  have hb := B.bytes
  have hr := B.returns
  have hts := atoms_spec (ws := wsX2_kindAt) B.pre
  have hown : s.vm.findClass RX2 = some m.cls := findClass_of_methodNamed B.named
  have hlocks := B.notSynchronized
  have hS : va_S (aG 40 z) s.heap s.heap [] := va_S.rf
  have hl := lv_entry ([.ref (z.2.1 10), .int a0]) (n := 2) (Nat.le_of_ble_eq_true rfl)
  rw [lg_entry_eq]
  generalize (lg_sl ([.ref (z.2.1 10), .int a0]) ++ List.replicate (2 - (lg_sl ([.ref (z.2.1 10), .int a0])).length) Slot.unset).toArray = ls at hl ⊢
  have hl : lv_has ls 2 [(0, .ref (z.2.1 10)), (1, .int a0)] := hl
  refine lv_aload_n hx hb dX2_kindAt_0 rfl (lv_at hl 0 rfl) ?_
  refine lv_iload_n hx hb dX2_kindAt_1 rfl (lv_at hl 1 rfl) ?_
  obtain ⟨q_1001, hq_1001, hf⟩ := x_bd hf
  refine x_callGi (va_runV (As := [.int a0]) (rest := []) ⟨hx, hb, hml, hown, hts⟩ (kX2_at l z hz hq_1001) (cwV 1 hts gX2_kindAt_X2_at rfl rfl rfl (by decide +kernel) ⟨Nat.le_of_ble_eq_true rfl, Nat.le_of_ble_eq_true rfl⟩) (pvG hK hP hE hS (va_recv hK hP (ci := 2) (q0 := 10) rfl (wl_at (by decide) cX2))) rfl rfl hl.1 rfl (lv_room (Nat.le_of_ble_eq_true rfl)) dX2_kindAt_2 ⟨Nat.zero_le _, Nat.zero_le _⟩) hS (fun H locs hP hS => ?_)
  by_cases c_1002 : q_1001 = (97 : Int32)
  · have hf := (if_pos c_1002).symm.trans hf
    refine lv_tableIn (off := 99) (tgt := 104) hx hb dX2_kindAt_5 (by rw [c_1002]; decide) (by rw [c_1002]; decide) (by rw [c_1002]; rfl) (by decide) ?_
    refine lv_iconst (v := (2 : Int32)) hx hb dX2_kindAt_104 (by decide) ?_
    exact x_iret hx hb hr hlocks hP hS dX2_kindAt_105 (Option.some.inj hf) rfl
  · have hf := (if_neg c_1002).symm.trans hf
    by_cases c_1003 : q_1001 = (98 : Int32)
    · have hf := (if_pos c_1003).symm.trans hf
      refine lv_tableIn (off := 105) (tgt := 110) hx hb dX2_kindAt_5 (by rw [c_1003]; decide) (by rw [c_1003]; decide) (by rw [c_1003]; rfl) (by decide) ?_
      refine lv_iconst (v := (5 : Int32)) hx hb dX2_kindAt_110 (by decide) ?_
      exact x_iret hx hb hr hlocks hP hS dX2_kindAt_111 (Option.some.inj hf) rfl
    · have hf := (if_neg c_1003).symm.trans hf
      by_cases c_1004 : q_1001 = (99 : Int32)
      · have hf := (if_pos c_1004).symm.trans hf
        refine lv_tableIn (off := 97) (tgt := 102) hx hb dX2_kindAt_5 (by rw [c_1004]; decide) (by rw [c_1004]; decide) (by rw [c_1004]; rfl) (by decide) ?_
        refine lv_iconst (v := (1 : Int32)) hx hb dX2_kindAt_102 (by decide) ?_
        exact x_iret hx hb hr hlocks hP hS dX2_kindAt_103 (Option.some.inj hf) rfl
      · have hf := (if_neg c_1004).symm.trans hf
        by_cases c_1005 : q_1001 = (101 : Int32)
        · have hf := (if_pos c_1005).symm.trans hf
          refine lv_tableIn (off := 101) (tgt := 106) hx hb dX2_kindAt_5 (by rw [c_1005]; decide) (by rw [c_1005]; decide) (by rw [c_1005]; rfl) (by decide) ?_
          refine lv_iconst (v := (3 : Int32)) hx hb dX2_kindAt_106 (by decide) ?_
          exact x_iret hx hb hr hlocks hP hS dX2_kindAt_107 (Option.some.inj hf) rfl
        · have hf := (if_neg c_1005).symm.trans hf
          by_cases c_1006 : q_1001 = (114 : Int32)
          · have hf := (if_pos c_1006).symm.trans hf
            refine lv_tableIn (off := 103) (tgt := 108) hx hb dX2_kindAt_5 (by rw [c_1006]; decide) (by rw [c_1006]; decide) (by rw [c_1006]; rfl) (by decide) ?_
            refine lv_iconst (v := (4 : Int32)) hx hb dX2_kindAt_108 (by decide) ?_
            exact x_iret hx hb hr hlocks hP hS dX2_kindAt_109 (Option.some.inj hf) rfl
          · have hf := (if_neg c_1006).symm.trans hf
            by_cases c_1007 : q_1001 = (116 : Int32)
            · have hf := (if_pos c_1007).symm.trans hf
              refine lv_tableIn (off := 95) (tgt := 100) hx hb dX2_kindAt_5 (by rw [c_1007]; decide) (by rw [c_1007]; decide) (by rw [c_1007]; rfl) (by decide) ?_
              refine lv_iconst (v := (0 : Int32)) hx hb dX2_kindAt_100 (by decide) ?_
              exact x_iret hx hb hr hlocks hP hS dX2_kindAt_101 (Option.some.inj hf) rfl
            · have hf := (if_neg c_1007).symm.trans hf
              refine x_tableD (tgt := 112) hx hb dX2_kindAt_5 (fun k h1 h2 => ?_) (by decide) ?_
              · rcases (show k = 97 ∨ k = 98 ∨ k = 99 ∨ k = 100 ∨ k = 101 ∨ k = 102 ∨ k = 103 ∨ k = 104 ∨ k = 105 ∨ k = 106 ∨ k = 107 ∨ k = 108 ∨ k = 109 ∨ k = 110 ∨ k = 111 ∨ k = 112 ∨ k = 113 ∨ k = 114 ∨ k = 115 ∨ k = 116 by omega) with rfl | rfl | rfl | rfl | rfl | rfl | rfl | rfl | rfl | rfl | rfl | rfl | rfl | rfl | rfl | rfl | rfl | rfl | rfl | rfl
                · exact Or.inl (x_ne c_1002 (by decide))
                · exact Or.inl (x_ne c_1003 (by decide))
                · exact Or.inl (x_ne c_1004 (by decide))
                · exact Or.inr rfl
                · exact Or.inl (x_ne c_1005 (by decide))
                · exact Or.inr rfl
                · exact Or.inr rfl
                · exact Or.inr rfl
                · exact Or.inr rfl
                · exact Or.inr rfl
                · exact Or.inr rfl
                · exact Or.inr rfl
                · exact Or.inr rfl
                · exact Or.inr rfl
                · exact Or.inr rfl
                · exact Or.inr rfl
                · exact Or.inr rfl
                · exact Or.inl (x_ne c_1006 (by decide))
                · exact Or.inr rfl
                · exact Or.inl (x_ne c_1007 (by decide))
              · refine lv_iconst (v := (-1 : Int32)) hx hb dX2_kindAt_112 (by decide) ?_
                exact x_iret hx hb hr hlocks hP hS dX2_kindAt_113 (Option.some.inj hf) rfl
set_option maxHeartbeats 40000000 in
set_option maxRecDepth 100000 in
theorem kX2_endOfStatement (l : Launch) (z : Cx) (hz : okC 40 z) {a0 : Int32}  {σ : Mm} {r : Int32} (hf : fX2_endOfStatement a0 σ = some r) : KG 40 ceX l yX2_endOfStatement wsX2_endOfStatement (2) (45) [.ref (z.2.1 10), .int a0] z σ σ (some (.int r)) := by
  rw [fX2_endOfStatement] at hf
  refine Met.ofW (cc := cX2_endOfStatement) (maxL := 3) (ret := (some .int)) (by decide) rfl ?_
  intro p e s m args below meth c s₁ B hml hv
  obtain ⟨rfl, hP, hK, hE⟩ := hv
  have hx := B.exec
  have hb := B.bytes
  have hr := B.returns
  have hts := atoms_spec (ws := wsX2_endOfStatement) B.pre
  have hown : s.vm.findClass RX2 = some m.cls := findClass_of_methodNamed B.named
  have hlocks := B.notSynchronized
  have hS : va_S (aG 40 z) s.heap s.heap [] := va_S.rf
  have hl := lv_entry ([.ref (z.2.1 10), .int a0]) (n := 3) (Nat.le_of_ble_eq_true rfl)
  rw [lg_entry_eq]
  generalize (lg_sl ([.ref (z.2.1 10), .int a0]) ++ List.replicate (3 - (lg_sl ([.ref (z.2.1 10), .int a0])).length) Slot.unset).toArray = ls at hl ⊢
  have hl : lv_has ls 3 [(0, .ref (z.2.1 10)), (1, .int a0)] := hl
  have j_168 : ∀ (v2 : Int32) (H : Heap) (locs : List Loc) (ls : Array Slot), va_P z.1 vwCl (wl 40 z.2.1 (ceX z σ)) H → va_S (aG 40 z) s.heap H locs → lv_has ls 3 [(0, .ref (z.2.1 10)), (2, .int v2)] → fX2_endOfStatement_168 σ v2 = some r → W p l e (headSpec wsX2_endOfStatement ({ frames := 2, cells := 0, slots := 0, locals := 45 })).room s m ([.ref (z.2.1 10), .int a0] : List Value).toArray below meth c H locs 0 0 (MQ below (qcG 40 ceX z σ (some (.int r))) ([.ref (z.2.1 10), .int a0] : List Value).toArray s 0 0 (aG 40 z)) (F0 m 168 ls []) := by
    intro v2 H locs ls hP hS hl hf
    rw [fX2_endOfStatement_168] at hf
    refine lv_iload_n hx hb dX2_endOfStatement_168 rfl (lv_at hl 1 rfl) ?_
    refine lv_if_ge (tgt := 174) hx hb dX2_endOfStatement_169 (by decide) (fun c_17 => ?_) (fun c_17 => ?_)
    · have hf := (if_pos c_17).symm.trans hf
      refine lv_aload_n hx hb dX2_endOfStatement_174 rfl (lv_at hl 0 rfl) ?_
      refine lv_iload_n hx hb dX2_endOfStatement_175 rfl (lv_at hl 1 rfl) ?_
      obtain ⟨q_18, hq_18, hf⟩ := x_bd hf
      refine x_callGi (va_runV (As := [.int v2]) (rest := []) ⟨hx, hb, hml, hown, hts⟩ (kX2_at l z hz hq_18) (cwV 1 hts gX2_endOfStatement_X2_at rfl rfl rfl (by decide +kernel) ⟨Nat.le_of_ble_eq_true rfl, Nat.le_of_ble_eq_true rfl⟩) (pvG hK hP hE hS (va_recv hK hP (ci := 2) (q0 := 10) rfl (wl_at (by decide) cX2))) rfl rfl hl.1 rfl (lv_room (Nat.le_of_ble_eq_true rfl)) dX2_endOfStatement_176 ⟨Nat.zero_le _, Nat.zero_le _⟩) hS (fun H locs hP hS => ?_)
      refine lv_bipush (v := (59 : Int32)) hx hb dX2_endOfStatement_179 (by decide) ?_
      refine lv_icmp_ne (tgt := 190) hx hb dX2_endOfStatement_181 (by decide) (fun c_19 => ?_) (fun c_19 => ?_)
      · have hf := (if_neg c_19).symm.trans hf
        refine lv_iconst (v := (-1 : Int32)) hx hb dX2_endOfStatement_190 (by decide) ?_
        refine lv_iload_n hx hb dX2_endOfStatement_191 rfl (lv_at hl 1 rfl) ?_
        refine lv_isub hx hb dX2_endOfStatement_192 ?_
        exact x_iret hx hb hr hlocks hP hS dX2_endOfStatement_193 (Option.some.inj hf) rfl
      · have hf := (if_pos c_19).symm.trans hf
        refine lv_iload_n hx hb dX2_endOfStatement_184 rfl (lv_at hl 1 rfl) ?_
        refine lv_iconst (v := (1 : Int32)) hx hb dX2_endOfStatement_185 (by decide) ?_
        refine lv_iadd hx hb dX2_endOfStatement_186 ?_
        refine lv_goto (tgt := 193) hx hb dX2_endOfStatement_187 (by decide) ?_
        exact x_iret hx hb hr hlocks hP hS dX2_endOfStatement_193 (Option.some.inj hf) rfl
    · have hf := (if_neg c_17).symm.trans hf
      refine lv_iload_n hx hb dX2_endOfStatement_172 rfl (lv_at hl 1 rfl) ?_
      exact x_iret hx hb hr hlocks hP hS dX2_endOfStatement_173 (Option.some.inj hf) rfl
  have j_96 : ∀ (t0 : Int32) (H : Heap) (locs : List Loc) (ls : Array Slot), va_P z.1 vwCl (wl 40 z.2.1 (ceX z σ)) H → va_S (aG 40 z) s.heap H locs → lv_has ls 3 [(0, .ref (z.2.1 10))] → fX2_endOfStatement_96 σ t0 = some r → W p l e (headSpec wsX2_endOfStatement ({ frames := 2, cells := 0, slots := 0, locals := 45 })).room s m ([.ref (z.2.1 10), .int a0] : List Value).toArray below meth c H locs 0 0 (MQ below (qcG 40 ceX z σ (some (.int r))) ([.ref (z.2.1 10), .int a0] : List Value).toArray s 0 0 (aG 40 z)) (F0 m 96 ls [.int t0]) := by
    intro t0 H locs ls hP hS hl hf
    rw [fX2_endOfStatement_96] at hf
    refine lv_istore_n (lv' := [(2, .int t0), (0, .ref (z.2.1 10))]) hx hb dX2_endOfStatement_96 rfl hl (by decide) rfl (fun ls hl => ?_)
    refine lv_goto (tgt := 168) hx hb dX2_endOfStatement_97 (by decide) ?_
    exact j_168 t0 _ _ _ hP hS (lv_sub hl [1, 0] rfl) hf
  have j_145 : ∀ (t0 : Int32) (H : Heap) (locs : List Loc) (ls : Array Slot), va_P z.1 vwCl (wl 40 z.2.1 (ceX z σ)) H → va_S (aG 40 z) s.heap H locs → lv_has ls 3 [(0, .ref (z.2.1 10))] → fX2_endOfStatement_145 σ t0 = some r → W p l e (headSpec wsX2_endOfStatement ({ frames := 2, cells := 0, slots := 0, locals := 45 })).room s m ([.ref (z.2.1 10), .int a0] : List Value).toArray below meth c H locs 0 0 (MQ below (qcG 40 ceX z σ (some (.int r))) ([.ref (z.2.1 10), .int a0] : List Value).toArray s 0 0 (aG 40 z)) (F0 m 145 ls [.int t0]) := by
    intro t0 H locs ls hP hS hl hf
    rw [fX2_endOfStatement_145] at hf
    refine lv_istore_n (lv' := [(2, .int t0), (0, .ref (z.2.1 10))]) hx hb dX2_endOfStatement_145 rfl hl (by decide) rfl (fun ls hl => ?_)
    refine lv_goto (tgt := 168) hx hb dX2_endOfStatement_146 (by decide) ?_
    exact j_168 t0 _ _ _ hP hS (lv_sub hl [1, 0] rfl) hf
  refine lv_aload_n hx hb dX2_endOfStatement_0 rfl (lv_at hl 0 rfl) ?_
  refine lv_iload_n hx hb dX2_endOfStatement_1 rfl (lv_at hl 1 rfl) ?_
  obtain ⟨q_1001, hq_1001, hf⟩ := x_bd hf
  refine x_callGi (va_runV (As := [.int a0]) (rest := []) ⟨hx, hb, hml, hown, hts⟩ (kX2_at l z hz hq_1001) (cwV 1 hts gX2_endOfStatement_X2_at rfl rfl rfl (by decide +kernel) ⟨Nat.le_of_ble_eq_true rfl, Nat.le_of_ble_eq_true rfl⟩) (pvG hK hP hE hS (va_recv hK hP (ci := 2) (q0 := 10) rfl (wl_at (by decide) cX2))) rfl rfl hl.1 rfl (lv_room (Nat.le_of_ble_eq_true rfl)) dX2_endOfStatement_2 ⟨Nat.zero_le _, Nat.zero_le _⟩) hS (fun H locs hP hS => ?_)
  by_cases c_1002 : q_1001 = (99 : Int32)
  · have hf := (if_pos c_1002).symm.trans hf
    refine lv_tableIn (off := 95) (tgt := 100) hx hb dX2_endOfStatement_5 (by rw [c_1002]; decide) (by rw [c_1002]; decide) (by rw [c_1002]; rfl) (by decide) ?_
    refine lv_aload_n hx hb dX2_endOfStatement_100 rfl (lv_at hl 0 rfl) ?_
    refine lv_iload_n hx hb dX2_endOfStatement_101 rfl (lv_at hl 1 rfl) ?_
    refine lv_iconst (v := (1 : Int32)) hx hb dX2_endOfStatement_102 (by decide) ?_
    refine lv_iadd hx hb dX2_endOfStatement_103 ?_
    refine lv_bipush (v := (57 : Int32)) hx hb dX2_endOfStatement_104 (by decide) ?_
    refine lv_iconst (v := (2 : Int32)) hx hb dX2_endOfStatement_106 (by decide) ?_
    obtain ⟨q_1016, hq_1016, hf⟩ := x_bd hf
    refine x_callGi (va_runV (As := [.int (a0 + (1 : Int32)), .int (57 : Int32), .int (2 : Int32)]) (rest := []) ⟨hx, hb, hml, hown, hts⟩ (kX2_endOfDigits l z hz hq_1016) (cwV 3 hts gX2_endOfStatement_X2_endOfDigits rfl rfl rfl (by decide +kernel) ⟨Nat.le_of_ble_eq_true rfl, Nat.le_of_ble_eq_true rfl⟩) (pvG hK hP hE hS (va_recv hK hP (ci := 2) (q0 := 10) rfl (wl_at (by decide) cX2))) rfl rfl hl.1 rfl (lv_room (Nat.le_of_ble_eq_true rfl)) dX2_endOfStatement_107 ⟨Nat.zero_le _, Nat.zero_le _⟩) hS (fun H locs hP hS => ?_)
    refine lv_istore_n (lv' := [(2, .int q_1016), (0, .ref (z.2.1 10)), (1, .int a0)]) hx hb dX2_endOfStatement_110 rfl hl (by decide) rfl (fun ls hl => ?_)
    refine lv_goto (tgt := 168) hx hb dX2_endOfStatement_111 (by decide) ?_
    exact j_168 q_1016 _ _ _ hP hS (lv_sub hl [1, 0] rfl) hf
  · have hf := (if_neg c_1002).symm.trans hf
    by_cases c_1003 : q_1001 = (102 : Int32)
    · have hf := (if_pos c_1003).symm.trans hf
      refine lv_tableIn (off := 144) (tgt := 149) hx hb dX2_endOfStatement_5 (by rw [c_1003]; decide) (by rw [c_1003]; decide) (by rw [c_1003]; rfl) (by decide) ?_
      refine lv_aload_n hx hb dX2_endOfStatement_149 rfl (lv_at hl 0 rfl) ?_
      refine lv_iload_n hx hb dX2_endOfStatement_150 rfl (lv_at hl 1 rfl) ?_
      refine lv_iconst (v := (1 : Int32)) hx hb dX2_endOfStatement_151 (by decide) ?_
      refine lv_iadd hx hb dX2_endOfStatement_152 ?_
      refine lv_bipush (v := (49 : Int32)) hx hb dX2_endOfStatement_153 (by decide) ?_
      refine lv_bipush (v := (10 : Int32)) hx hb dX2_endOfStatement_155 (by decide) ?_
      obtain ⟨q_1015, hq_1015, hf⟩ := x_bd hf
      refine x_callGi (va_runV (As := [.int (a0 + (1 : Int32)), .int (49 : Int32), .int (10 : Int32)]) (rest := []) ⟨hx, hb, hml, hown, hts⟩ (kX2_endOfDigits l z hz hq_1015) (cwV 3 hts gX2_endOfStatement_X2_endOfDigits rfl rfl rfl (by decide +kernel) ⟨Nat.le_of_ble_eq_true rfl, Nat.le_of_ble_eq_true rfl⟩) (pvG hK hP hE hS (va_recv hK hP (ci := 2) (q0 := 10) rfl (wl_at (by decide) cX2))) rfl rfl hl.1 rfl (lv_room (Nat.le_of_ble_eq_true rfl)) dX2_endOfStatement_157 ⟨Nat.zero_le _, Nat.zero_le _⟩) hS (fun H locs hP hS => ?_)
      refine lv_istore_n (lv' := [(2, .int q_1015), (0, .ref (z.2.1 10)), (1, .int a0)]) hx hb dX2_endOfStatement_160 rfl hl (by decide) rfl (fun ls hl => ?_)
      refine lv_goto (tgt := 168) hx hb dX2_endOfStatement_161 (by decide) ?_
      exact j_168 q_1015 _ _ _ hP hS (lv_sub hl [1, 0] rfl) hf
    · have hf := (if_neg c_1003).symm.trans hf
      by_cases c_1004 : q_1001 = (108 : Int32)
      · have hf := (if_pos c_1004).symm.trans hf
        refine lv_tableIn (off := 63) (tgt := 68) hx hb dX2_endOfStatement_5 (by rw [c_1004]; decide) (by rw [c_1004]; decide) (by rw [c_1004]; rfl) (by decide) ?_
        refine lv_aload_n hx hb dX2_endOfStatement_68 rfl (lv_at hl 0 rfl) ?_
        refine lv_iload_n hx hb dX2_endOfStatement_69 rfl (lv_at hl 1 rfl) ?_
        refine lv_iconst (v := (1 : Int32)) hx hb dX2_endOfStatement_70 (by decide) ?_
        refine lv_iadd hx hb dX2_endOfStatement_71 ?_
        obtain ⟨q_1012, hq_1012, hf⟩ := x_bd hf
        refine x_callGi (va_runV (As := [.int (a0 + (1 : Int32))]) (rest := []) ⟨hx, hb, hml, hown, hts⟩ (kX2_kindAt l z hz hq_1012) (cwV 1 hts gX2_endOfStatement_X2_kindAt rfl rfl rfl (by decide +kernel) ⟨Nat.le_of_ble_eq_true rfl, Nat.le_of_ble_eq_true rfl⟩) (pvG hK hP hE hS (va_recv hK hP (ci := 2) (q0 := 10) rfl (wl_at (by decide) cX2))) rfl rfl hl.1 rfl (lv_room (Nat.le_of_ble_eq_true rfl)) dX2_endOfStatement_72 ⟨Nat.zero_le _, Nat.zero_le _⟩) hS (fun H locs hP hS => ?_)
        refine lv_if_ge (tgt := 86) hx hb dX2_endOfStatement_75 (by decide) (fun c_1013 => ?_) (fun c_1013 => ?_)
        · have hf := (if_pos c_1013).symm.trans hf
          refine lv_aload_n hx hb dX2_endOfStatement_86 rfl (lv_at hl 0 rfl) ?_
          refine lv_iload_n hx hb dX2_endOfStatement_87 rfl (lv_at hl 1 rfl) ?_
          refine lv_iconst (v := (2 : Int32)) hx hb dX2_endOfStatement_88 (by decide) ?_
          refine lv_iadd hx hb dX2_endOfStatement_89 ?_
          refine lv_bipush (v := (57 : Int32)) hx hb dX2_endOfStatement_90 (by decide) ?_
          refine lv_iconst (v := (1 : Int32)) hx hb dX2_endOfStatement_92 (by decide) ?_
          obtain ⟨q_1014, hq_1014, hf⟩ := x_bd hf
          refine x_callGi (va_runV (As := [.int (a0 + (2 : Int32)), .int (57 : Int32), .int (1 : Int32)]) (rest := []) ⟨hx, hb, hml, hown, hts⟩ (kX2_endOfDigits l z hz hq_1014) (cwV 3 hts gX2_endOfStatement_X2_endOfDigits rfl rfl rfl (by decide +kernel) ⟨Nat.le_of_ble_eq_true rfl, Nat.le_of_ble_eq_true rfl⟩) (pvG hK hP hE hS (va_recv hK hP (ci := 2) (q0 := 10) rfl (wl_at (by decide) cX2))) rfl rfl hl.1 rfl (lv_room (Nat.le_of_ble_eq_true rfl)) dX2_endOfStatement_93 ⟨Nat.zero_le _, Nat.zero_le _⟩) hS (fun H locs hP hS => ?_)
          exact j_96 q_1014 _ _ _ hP hS (lv_sub hl [0] rfl) hf
        · have hf := (if_neg c_1013).symm.trans hf
          refine lv_iconst (v := (-1 : Int32)) hx hb dX2_endOfStatement_78 (by decide) ?_
          refine lv_iload_n hx hb dX2_endOfStatement_79 rfl (lv_at hl 1 rfl) ?_
          refine lv_iconst (v := (1 : Int32)) hx hb dX2_endOfStatement_80 (by decide) ?_
          refine lv_iadd hx hb dX2_endOfStatement_81 ?_
          refine lv_isub hx hb dX2_endOfStatement_82 ?_
          refine lv_goto (tgt := 96) hx hb dX2_endOfStatement_83 (by decide) ?_
          exact j_96 ((-1 : Int32) - (a0 + (1 : Int32))) _ _ _ hP hS (lv_sub hl [0] rfl) hf
      · have hf := (if_neg c_1004).symm.trans hf
        by_cases c_1005 : q_1001 = (109 : Int32)
        · have hf := (if_pos c_1005).symm.trans hf
          refine lv_tableIn (off := 95) (tgt := 100) hx hb dX2_endOfStatement_5 (by rw [c_1005]; decide) (by rw [c_1005]; decide) (by rw [c_1005]; rfl) (by decide) ?_
          refine lv_aload_n hx hb dX2_endOfStatement_100 rfl (lv_at hl 0 rfl) ?_
          refine lv_iload_n hx hb dX2_endOfStatement_101 rfl (lv_at hl 1 rfl) ?_
          refine lv_iconst (v := (1 : Int32)) hx hb dX2_endOfStatement_102 (by decide) ?_
          refine lv_iadd hx hb dX2_endOfStatement_103 ?_
          refine lv_bipush (v := (57 : Int32)) hx hb dX2_endOfStatement_104 (by decide) ?_
          refine lv_iconst (v := (2 : Int32)) hx hb dX2_endOfStatement_106 (by decide) ?_
          obtain ⟨q_1011, hq_1011, hf⟩ := x_bd hf
          refine x_callGi (va_runV (As := [.int (a0 + (1 : Int32)), .int (57 : Int32), .int (2 : Int32)]) (rest := []) ⟨hx, hb, hml, hown, hts⟩ (kX2_endOfDigits l z hz hq_1011) (cwV 3 hts gX2_endOfStatement_X2_endOfDigits rfl rfl rfl (by decide +kernel) ⟨Nat.le_of_ble_eq_true rfl, Nat.le_of_ble_eq_true rfl⟩) (pvG hK hP hE hS (va_recv hK hP (ci := 2) (q0 := 10) rfl (wl_at (by decide) cX2))) rfl rfl hl.1 rfl (lv_room (Nat.le_of_ble_eq_true rfl)) dX2_endOfStatement_107 ⟨Nat.zero_le _, Nat.zero_le _⟩) hS (fun H locs hP hS => ?_)
          refine lv_istore_n (lv' := [(2, .int q_1011), (0, .ref (z.2.1 10)), (1, .int a0)]) hx hb dX2_endOfStatement_110 rfl hl (by decide) rfl (fun ls hl => ?_)
          refine lv_goto (tgt := 168) hx hb dX2_endOfStatement_111 (by decide) ?_
          exact j_168 q_1011 _ _ _ hP hS (lv_sub hl [1, 0] rfl) hf
        · have hf := (if_neg c_1005).symm.trans hf
          by_cases c_1006 : q_1001 = (110 : Int32)
          · have hf := (if_pos c_1006).symm.trans hf
            refine lv_tableIn (off := 109) (tgt := 114) hx hb dX2_endOfStatement_5 (by rw [c_1006]; decide) (by rw [c_1006]; decide) (by rw [c_1006]; rfl) (by decide) ?_
            refine lv_aload_n hx hb dX2_endOfStatement_114 rfl (lv_at hl 0 rfl) ?_
            refine lv_iload_n hx hb dX2_endOfStatement_115 rfl (lv_at hl 1 rfl) ?_
            refine lv_iconst (v := (1 : Int32)) hx hb dX2_endOfStatement_116 (by decide) ?_
            refine lv_iadd hx hb dX2_endOfStatement_117 ?_
            obtain ⟨q_1007, hq_1007, hf⟩ := x_bd hf
            refine x_callGi (va_runV (As := [.int (a0 + (1 : Int32))]) (rest := []) ⟨hx, hb, hml, hown, hts⟩ (kX2_at l z hz hq_1007) (cwV 1 hts gX2_endOfStatement_X2_at rfl rfl rfl (by decide +kernel) ⟨Nat.le_of_ble_eq_true rfl, Nat.le_of_ble_eq_true rfl⟩) (pvG hK hP hE hS (va_recv hK hP (ci := 2) (q0 := 10) rfl (wl_at (by decide) cX2))) rfl rfl hl.1 rfl (lv_room (Nat.le_of_ble_eq_true rfl)) dX2_endOfStatement_118 ⟨Nat.zero_le _, Nat.zero_le _⟩) hS (fun H locs hP hS => ?_)
            obtain ⟨q_1008, hq_1008, hf⟩ := x_bd hf
            refine x_callSi (va_runS (As := [.int q_1007]) (rest := []) ⟨hx, hb, hml, hown, hts⟩ (kX2_isSign l hq_1008) (va_cwS 1 hts gX2_endOfStatement_X2_isSign rfl rfl rfl (by decide +kernel) ⟨Nat.le_of_ble_eq_true rfl, Nat.le_of_ble_eq_true rfl⟩) psS rfl rfl hl.1 rfl (lv_room (Nat.le_of_ble_eq_true rfl)) dX2_endOfStatement_121 ⟨Nat.zero_le _, Nat.zero_le _⟩) ?_
            refine lv_if_eq (tgt := 140) hx hb dX2_endOfStatement_124 (by decide) (fun c_1009 => ?_) (fun c_1009 => ?_)
            · have hf := (if_pos c_1009).symm.trans hf
              refine lv_iconst (v := (-1 : Int32)) hx hb dX2_endOfStatement_140 (by decide) ?_
              refine lv_iload_n hx hb dX2_endOfStatement_141 rfl (lv_at hl 1 rfl) ?_
              refine lv_iconst (v := (1 : Int32)) hx hb dX2_endOfStatement_142 (by decide) ?_
              refine lv_iadd hx hb dX2_endOfStatement_143 ?_
              refine lv_isub hx hb dX2_endOfStatement_144 ?_
              exact j_145 ((-1 : Int32) - (a0 + (1 : Int32))) _ _ _ hP hS (lv_sub hl [0] rfl) hf
            · have hf := (if_neg c_1009).symm.trans hf
              refine lv_aload_n hx hb dX2_endOfStatement_127 rfl (lv_at hl 0 rfl) ?_
              refine lv_iload_n hx hb dX2_endOfStatement_128 rfl (lv_at hl 1 rfl) ?_
              refine lv_iconst (v := (2 : Int32)) hx hb dX2_endOfStatement_129 (by decide) ?_
              refine lv_iadd hx hb dX2_endOfStatement_130 ?_
              refine lv_bipush (v := (57 : Int32)) hx hb dX2_endOfStatement_131 (by decide) ?_
              refine lv_iconst (v := (1 : Int32)) hx hb dX2_endOfStatement_133 (by decide) ?_
              obtain ⟨q_1010, hq_1010, hf⟩ := x_bd hf
              refine x_callGi (va_runV (As := [.int (a0 + (2 : Int32)), .int (57 : Int32), .int (1 : Int32)]) (rest := []) ⟨hx, hb, hml, hown, hts⟩ (kX2_endOfDigits l z hz hq_1010) (cwV 3 hts gX2_endOfStatement_X2_endOfDigits rfl rfl rfl (by decide +kernel) ⟨Nat.le_of_ble_eq_true rfl, Nat.le_of_ble_eq_true rfl⟩) (pvG hK hP hE hS (va_recv hK hP (ci := 2) (q0 := 10) rfl (wl_at (by decide) cX2))) rfl rfl hl.1 rfl (lv_room (Nat.le_of_ble_eq_true rfl)) dX2_endOfStatement_134 ⟨Nat.zero_le _, Nat.zero_le _⟩) hS (fun H locs hP hS => ?_)
              refine lv_goto (tgt := 145) hx hb dX2_endOfStatement_137 (by decide) ?_
              exact j_145 q_1010 _ _ _ hP hS (lv_sub hl [0] rfl) hf
          · have hf := (if_neg c_1006).symm.trans hf
            refine x_tableD (tgt := 164) hx hb dX2_endOfStatement_5 (fun k h1 h2 => ?_) (by decide) ?_
            · rcases (show k = 99 ∨ k = 100 ∨ k = 101 ∨ k = 102 ∨ k = 103 ∨ k = 104 ∨ k = 105 ∨ k = 106 ∨ k = 107 ∨ k = 108 ∨ k = 109 ∨ k = 110 by omega) with rfl | rfl | rfl | rfl | rfl | rfl | rfl | rfl | rfl | rfl | rfl | rfl
              · exact Or.inl (x_ne c_1002 (by decide))
              · exact Or.inr rfl
              · exact Or.inr rfl
              · exact Or.inl (x_ne c_1003 (by decide))
              · exact Or.inr rfl
              · exact Or.inr rfl
              · exact Or.inr rfl
              · exact Or.inr rfl
              · exact Or.inr rfl
              · exact Or.inl (x_ne c_1004 (by decide))
              · exact Or.inl (x_ne c_1005 (by decide))
              · exact Or.inl (x_ne c_1006 (by decide))
            · refine lv_iconst (v := (-1 : Int32)) hx hb dX2_endOfStatement_164 (by decide) ?_
              refine lv_iload_n hx hb dX2_endOfStatement_165 rfl (lv_at hl 1 rfl) ?_
              refine lv_isub hx hb dX2_endOfStatement_166 ?_
              refine lv_istore_n (lv' := [(2, .int ((-1 : Int32) - a0)), (0, .ref (z.2.1 10)), (1, .int a0)]) hx hb dX2_endOfStatement_167 rfl hl (by decide) rfl (fun ls hl => ?_)
              exact j_168 ((-1 : Int32) - a0) _ _ _ hP hS (lv_sub hl [1, 0] rfl) hf
set_option maxHeartbeats 40000000 in
set_option maxRecDepth 100000 in
theorem kX2_firstFault (l : Launch) (z : Cx) (hz : okC 40 z)   {σ : Mm} {r : Int32} (hf : fX2_firstFault σ = some r) : KG 40 ceX l yX2_firstFault wsX2_firstFault (3) (67) [.ref (z.2.1 10)] z σ σ (some (.int r)) := by
  rw [fX2_firstFault] at hf
  refine Met.ofW (cc := cX2_firstFault) (maxL := 4) (ret := (some .int)) (by decide) rfl ?_
  intro p e s m args below meth c s₁ B hml hv
  obtain ⟨rfl, hP, hK, hE⟩ := hv
  have hx := B.exec
  have hb := B.bytes
  have hr := B.returns
  have hts := atoms_spec (ws := wsX2_firstFault) B.pre
  have hown : s.vm.findClass RX2 = some m.cls := findClass_of_methodNamed B.named
  have hlocks := B.notSynchronized
  have in_X2 : ∀ w ∈ wsX20, w ∈ wsX2_firstFault := by decide +kernel
  have hS : va_S (aG 40 z) s.heap s.heap [] := va_S.rf
  have hl := lv_entry ([.ref (z.2.1 10)]) (n := 4) (Nat.le_of_ble_eq_true rfl)
  rw [lg_entry_eq]
  generalize (lg_sl ([.ref (z.2.1 10)]) ++ List.replicate (4 - (lg_sl ([.ref (z.2.1 10)])).length) Slot.unset).toArray = ls at hl ⊢
  have hl : lv_has ls 4 [(0, .ref (z.2.1 10))] := hl
  have L_4 : ∀ (n_4 : Nat) (v1 : Int32) (v2 : Int32) (H : Heap) (locs : List Loc) (ls : Array Slot), va_P z.1 vwCl (wl 40 z.2.1 (ceX z σ)) H → va_S (aG 40 z) s.heap H locs → lv_has ls 4 [(0, .ref (z.2.1 10)), (1, .int v1), (2, .int v2)] → fX2_firstFault_4 σ n_4 v1 v2 = some r → W p l e (headSpec wsX2_firstFault ({ frames := 3, cells := 0, slots := 0, locals := 67 })).room s m ([.ref (z.2.1 10)] : List Value).toArray below meth c H locs 0 0 (MQ below (qcG 40 ceX z σ (some (.int r))) ([.ref (z.2.1 10)] : List Value).toArray s 0 0 (aG 40 z)) (F0 m 4 ls []) := by
    intro n_4
    induction n_4 with
    | zero =>
      intro v1 v2 H locs ls hP hS hl hf
      rw [fX2_firstFault_4] at hf
      cases hf
    | succ n_4 ih_4 =>
      intro v1 v2 H locs ls hP hS hl hf
      rw [fX2_firstFault_4] at hf
      refine lv_aload_n hx hb dX2_firstFault_4 rfl (lv_at hl 0 rfl) ?_
      refine lv_iload_n hx hb dX2_firstFault_5 rfl (lv_at hl 1 rfl) ?_
      obtain ⟨q_1, hq_1, hf⟩ := x_bd hf
      refine x_callGi (va_runV (As := [.int v1]) (rest := []) ⟨hx, hb, hml, hown, hts⟩ (kX2_endOfStatement l z hz hq_1) (cwV 1 hts gX2_firstFault_X2_endOfStatement rfl rfl rfl (by decide +kernel) ⟨Nat.le_of_ble_eq_true rfl, Nat.le_of_ble_eq_true rfl⟩) (pvG hK hP hE hS (va_recv hK hP (ci := 2) (q0 := 10) rfl (wl_at (by decide) cX2))) rfl rfl hl.1 rfl (lv_room (Nat.le_of_ble_eq_true rfl)) dX2_firstFault_6 ⟨Nat.zero_le _, Nat.zero_le _⟩) hS (fun H locs hP hS => ?_)
      refine lv_istore_n (lv' := [(3, .int q_1), (0, .ref (z.2.1 10)), (1, .int v1), (2, .int v2)]) hx hb dX2_firstFault_9 rfl hl (by decide) rfl (fun ls hl => ?_)
      refine lv_iload_n hx hb dX2_firstFault_10 rfl (lv_at hl 0 rfl) ?_
      refine lv_if_ge (tgt := 18) hx hb dX2_firstFault_11 (by decide) (fun c_2 => ?_) (fun c_2 => ?_)
      · have hf := (if_pos c_2).symm.trans hf
        refine lv_iload_n hx hb dX2_firstFault_18 rfl (lv_at hl 0 rfl) ?_
        refine lv_istore_n (lv' := [(1, .int q_1), (3, .int q_1), (0, .ref (z.2.1 10)), (2, .int v2)]) hx hb dX2_firstFault_19 rfl hl (by decide) rfl (fun ls hl => ?_)
        refine lv_iinc (v := (v2 + (1 : Int32))) (lv' := [(2, .int (v2 + (1 : Int32))), (1, .int q_1), (3, .int q_1), (0, .ref (z.2.1 10))]) hx hb dX2_firstFault_20 hl (k := 3) rfl rfl (by decide) rfl (fun ls hl => ?_)
        refine lv_iload_n hx hb dX2_firstFault_23 rfl (lv_at hl 1 rfl) ?_
        refine lv_aload_n hx hb dX2_firstFault_24 rfl (lv_at hl 3 rfl) ?_
        refine va_get (D := z.1) (ci := 2) (v := .int (gI σ 10 1)) (C := RX2) (T := TX2) (N := 2) hx hb hts in_X2 hown hK hP 10 (wl_at (by decide) cX2) rfl 1 (by decide) (hts (.fieldLink RX2 15 "TillOneOfSort$Text" "length" "I") (by decide +kernel)) (fun _ h9 => h9) rfl dX2_firstFault_25 ?_
        refine lv_icmp_ge (tgt := 37) hx hb dX2_firstFault_28 (by decide) (fun c_3 => ?_) (fun c_3 => ?_)
        · have hf := (if_pos c_3).symm.trans hf
          refine lv_iconst (v := (-1 : Int32)) hx hb dX2_firstFault_37 (by decide) ?_
          exact x_iret hx hb hr hlocks hP hS dX2_firstFault_38 (Option.some.inj hf) rfl
        · have hf := (if_neg c_3).symm.trans hf
          refine lv_iload_n hx hb dX2_firstFault_31 rfl (lv_at hl 0 rfl) ?_
          refine lv_bipush (v := (64 : Int32)) hx hb dX2_firstFault_32 (by decide) ?_
          refine lv_icmp_lt (tgt := 4) hx hb dX2_firstFault_34 (by decide) (fun c_4 => ?_) (fun c_4 => ?_)
          · have hf := (if_pos c_4).symm.trans hf
            exact ih_4 q_1 (v2 + (1 : Int32)) _ _ _ hP hS (lv_sub hl [3, 1, 0] rfl) hf
          · have hf := (if_neg c_4).symm.trans hf
            refine lv_iconst (v := (-1 : Int32)) hx hb dX2_firstFault_37 (by decide) ?_
            exact x_iret hx hb hr hlocks hP hS dX2_firstFault_38 (Option.some.inj hf) rfl
      · have hf := (if_neg c_2).symm.trans hf
        refine lv_iconst (v := (-1 : Int32)) hx hb dX2_firstFault_14 (by decide) ?_
        refine lv_iload_n hx hb dX2_firstFault_15 rfl (lv_at hl 0 rfl) ?_
        refine lv_isub hx hb dX2_firstFault_16 ?_
        exact x_iret hx hb hr hlocks hP hS dX2_firstFault_17 (Option.some.inj hf) rfl
  refine lv_iconst (v := (0 : Int32)) hx hb dX2_firstFault_0 (by decide) ?_
  refine lv_istore_n (lv' := [(1, .int (0 : Int32)), (0, .ref (z.2.1 10))]) hx hb dX2_firstFault_1 rfl hl (by decide) rfl (fun ls hl => ?_)
  refine lv_iconst (v := (0 : Int32)) hx hb dX2_firstFault_2 (by decide) ?_
  refine lv_istore_n (lv' := [(2, .int (0 : Int32)), (1, .int (0 : Int32)), (0, .ref (z.2.1 10))]) hx hb dX2_firstFault_3 rfl hl (by decide) rfl (fun ls hl => ?_)
  exact L_4 1000 (0 : Int32) (0 : Int32) _ _ _ hP hS (lv_sub hl [2, 1, 0] rfl) hf
set_option maxHeartbeats 40000000 in
set_option maxRecDepth 100000 in
theorem kX2_numberAt (l : Launch) (z : Cx) (hz : okC 40 z) {a0 : Int32} {a1 : Int32}  {σ : Mm} {r : Int32} (hf : fX2_numberAt a0 a1 σ = some r) : KG 40 ceX l yX2_numberAt wsX2_numberAt (1) (21) [.ref (z.2.1 10), .int a0, .int a1] z σ σ (some (.int r)) := by
  rw [fX2_numberAt] at hf
  refine Met.ofW (cc := cX2_numberAt) (maxL := 5) (ret := (some .int)) (by decide) rfl ?_
  intro p e s m args below meth c s₁ B hml hv
  obtain ⟨rfl, hP, hK, hE⟩ := hv
  have hx := B.exec
  have hb := B.bytes
  have hr := B.returns
  have hts := atoms_spec (ws := wsX2_numberAt) B.pre
  have hown : s.vm.findClass RX2 = some m.cls := findClass_of_methodNamed B.named
  have hlocks := B.notSynchronized
  have hS : va_S (aG 40 z) s.heap s.heap [] := va_S.rf
  have hl := lv_entry ([.ref (z.2.1 10), .int a0, .int a1]) (n := 5) (Nat.le_of_ble_eq_true rfl)
  rw [lg_entry_eq]
  generalize (lg_sl ([.ref (z.2.1 10), .int a0, .int a1]) ++ List.replicate (5 - (lg_sl ([.ref (z.2.1 10), .int a0, .int a1])).length) Slot.unset).toArray = ls at hl ⊢
  have hl : lv_has ls 5 [(0, .ref (z.2.1 10)), (1, .int a0), (2, .int a1)] := hl
  have L_5 : ∀ (n_5 : Nat) (v2 : Int32) (v3 : Int32) (v4 : Int32) (H : Heap) (locs : List Loc) (ls : Array Slot), va_P z.1 vwCl (wl 40 z.2.1 (ceX z σ)) H → va_S (aG 40 z) s.heap H locs → lv_has ls 5 [(0, .ref (z.2.1 10)), (2, .int v2), (3, .int v3), (4, .int v4)] → fX2_numberAt_5 σ n_5 v2 v3 v4 = some r → W p l e (headSpec wsX2_numberAt ({ frames := 1, cells := 0, slots := 0, locals := 21 })).room s m ([.ref (z.2.1 10), .int a0, .int a1] : List Value).toArray below meth c H locs 0 0 (MQ below (qcG 40 ceX z σ (some (.int r))) ([.ref (z.2.1 10), .int a0, .int a1] : List Value).toArray s 0 0 (aG 40 z)) (F0 m 5 ls []) := by
    intro n_5
    induction n_5 with
    | zero =>
      intro v2 v3 v4 H locs ls hP hS hl hf
      rw [fX2_numberAt_5] at hf
      cases hf
    | succ n_5 ih_5 =>
      intro v2 v3 v4 H locs ls hP hS hl hf
      rw [fX2_numberAt_5] at hf
      refine lv_iload hx hb dX2_numberAt_5 (lv_at hl 3 rfl) ?_
      refine lv_iload_n hx hb dX2_numberAt_7 rfl (lv_at hl 1 rfl) ?_
      refine lv_icmp_ge (tgt := 32) hx hb dX2_numberAt_8 (by decide) (fun c_1 => ?_) (fun c_1 => ?_)
      · have hf := (if_pos c_1).symm.trans hf
        refine lv_iload_n hx hb dX2_numberAt_32 rfl (lv_at hl 2 rfl) ?_
        exact x_iret hx hb hr hlocks hP hS dX2_numberAt_33 (Option.some.inj hf) rfl
      · have hf := (if_neg c_1).symm.trans hf
        refine lv_bipush (v := (10 : Int32)) hx hb dX2_numberAt_11 (by decide) ?_
        refine lv_iload_n hx hb dX2_numberAt_13 rfl (lv_at hl 2 rfl) ?_
        refine lv_imul hx hb dX2_numberAt_14 ?_
        refine lv_aload_n hx hb dX2_numberAt_15 rfl (lv_at hl 0 rfl) ?_
        refine lv_iload hx hb dX2_numberAt_16 (lv_at hl 3 rfl) ?_
        obtain ⟨q_2, hq_2, hf⟩ := x_bd hf
        refine x_callGi (va_runV (As := [.int v4]) (rest := [.int ((10 : Int32) * v3)]) ⟨hx, hb, hml, hown, hts⟩ (kX2_at l z hz hq_2) (cwV 1 hts gX2_numberAt_X2_at rfl rfl rfl (by decide +kernel) ⟨Nat.le_of_ble_eq_true rfl, Nat.le_of_ble_eq_true rfl⟩) (pvG hK hP hE hS (va_recv hK hP (ci := 2) (q0 := 10) rfl (wl_at (by decide) cX2))) rfl rfl hl.1 rfl (lv_room (Nat.le_of_ble_eq_true rfl)) dX2_numberAt_18 ⟨Nat.zero_le _, Nat.zero_le _⟩) hS (fun H locs hP hS => ?_)
        refine lv_iadd hx hb dX2_numberAt_21 ?_
        refine lv_bipush (v := (48 : Int32)) hx hb dX2_numberAt_22 (by decide) ?_
        refine lv_isub hx hb dX2_numberAt_24 ?_
        refine lv_istore_n (lv' := [(3, .int ((((10 : Int32) * v3) + q_2) - (48 : Int32))), (0, .ref (z.2.1 10)), (2, .int v2), (4, .int v4)]) hx hb dX2_numberAt_25 rfl hl (by decide) rfl (fun ls hl => ?_)
        refine lv_iinc (v := (v4 + (1 : Int32))) (lv' := [(4, .int (v4 + (1 : Int32))), (3, .int ((((10 : Int32) * v3) + q_2) - (48 : Int32))), (0, .ref (z.2.1 10)), (2, .int v2)]) hx hb dX2_numberAt_26 hl (k := 3) rfl rfl (by decide) rfl (fun ls hl => ?_)
        refine lv_goto (tgt := 5) hx hb dX2_numberAt_29 (by decide) ?_
        exact ih_5 v2 ((((10 : Int32) * v3) + q_2) - (48 : Int32)) (v4 + (1 : Int32)) _ _ _ hP hS (lv_sub hl [2, 3, 1, 0] rfl) hf
  refine lv_iconst (v := (0 : Int32)) hx hb dX2_numberAt_0 (by decide) ?_
  refine lv_istore_n (lv' := [(3, .int (0 : Int32)), (0, .ref (z.2.1 10)), (1, .int a0), (2, .int a1)]) hx hb dX2_numberAt_1 rfl hl (by decide) rfl (fun ls hl => ?_)
  refine lv_iload_n hx hb dX2_numberAt_2 rfl (lv_at hl 2 rfl) ?_
  refine lv_istore (lv' := [(4, .int a0), (3, .int (0 : Int32)), (0, .ref (z.2.1 10)), (1, .int a0), (2, .int a1)]) hx hb dX2_numberAt_3 hl (by decide) rfl (fun ls hl => ?_)
  exact L_5 1000 a1 (0 : Int32) a0 _ _ _ hP hS (lv_sub hl [2, 4, 1, 0] rfl) hf
set_option maxHeartbeats 40000000 in
set_option maxRecDepth 100000 in
theorem kX3_lengthOf (l : Launch) (z : Cx) (hz : okC 40 z) {i : Nat} {a0 : Int32} (hi : isTold i = true) {σ : Mm} {r : Int32} (hf : fX3_lengthOf i a0 σ = some r) : KG 40 ceX l yX3_lengthOf wsX3_lengthOf (0) (0) [.ref (z.2.1 i), .int a0] z σ σ (some (.int r)) := by
  rw [fX3_lengthOf] at hf
  refine Met.ofW (cc := cX3_lengthOf) (maxL := 2) (ret := (some .int)) (by decide) rfl ?_
  intro p e s m args below meth c s₁ B hml hv
  obtain ⟨rfl, hP, hK, hE⟩ := hv
  have hx := B.exec
  have hb := B.bytes
  have hr := B.returns
  have hts := atoms_spec (ws := wsX3_lengthOf) B.pre
  have hown : s.vm.findClass RX3 = some m.cls := findClass_of_methodNamed B.named
  have hlocks := B.notSynchronized
  have in_X3 : ∀ w ∈ wsX30, w ∈ wsX3_lengthOf := by decide +kernel
  have hS : va_S (aG 40 z) s.heap s.heap [] := va_S.rf
  have hl := lv_entry ([.ref (z.2.1 i), .int a0]) (n := 2) (Nat.le_of_ble_eq_true rfl)
  rw [lg_entry_eq]
  generalize (lg_sl ([.ref (z.2.1 i), .int a0]) ++ List.replicate (2 - (lg_sl ([.ref (z.2.1 i), .int a0])).length) Slot.unset).toArray = ls at hl ⊢
  have hl : lv_has ls 2 [(0, .ref (z.2.1 i)), (1, .int a0)] := hl
  refine lv_iload_n hx hb dX3_lengthOf_0 rfl (lv_at hl 1 rfl) ?_
  refine lv_if_lt (tgt := 22) hx hb dX3_lengthOf_1 (by decide) (fun c_1001 => ?_) (fun c_1001 => ?_)
  · have hf := (if_pos c_1001).symm.trans hf
    refine lv_iconst (v := (0 : Int32)) hx hb dX3_lengthOf_22 (by decide) ?_
    exact x_iret hx hb hr hlocks hP hS dX3_lengthOf_23 (Option.some.inj hf) rfl
  · have hf := (if_neg c_1001).symm.trans hf
    refine lv_iload_n hx hb dX3_lengthOf_4 rfl (lv_at hl 1 rfl) ?_
    refine lv_aload_n hx hb dX3_lengthOf_5 rfl (lv_at hl 0 rfl) ?_
    refine va_get (D := z.1) (ci := 3) (v := .ref (z.2.1 (i + 1))) (C := RX3) (T := TX3) (N := 8) hx hb hts in_X3 hown hK hP i (wl_at (told_lt hi) (cX3 hi)) rfl 6 (by decide) (hts (.fieldLink RX3 24 "TillOneOfSort$Told" "lengths" "[I") (by decide +kernel)) (fun _ h9 => h9) rfl dX3_lengthOf_6 ?_
    refine va_alen (v := (8 : Int32)) hx hb hK hP (i + 1) 0 (wl_at (i8_lt (i8_a hi)) (cXI8 (i8_a hi))) rfl rfl dX3_lengthOf_9 ?_
    refine lv_icmp_ge (tgt := 22) hx hb dX3_lengthOf_10 (by decide) (fun c_1002 => ?_) (fun c_1002 => ?_)
    · have hf := (if_pos c_1002).symm.trans hf
      refine lv_iconst (v := (0 : Int32)) hx hb dX3_lengthOf_22 (by decide) ?_
      exact x_iret hx hb hr hlocks hP hS dX3_lengthOf_23 (Option.some.inj hf) rfl
    · have hf := (if_neg c_1002).symm.trans hf
      refine lv_aload_n hx hb dX3_lengthOf_13 rfl (lv_at hl 0 rfl) ?_
      refine va_get (D := z.1) (ci := 3) (v := .ref (z.2.1 (i + 1))) (C := RX3) (T := TX3) (N := 8) hx hb hts in_X3 hown hK hP i (wl_at (told_lt hi) (cX3 hi)) rfl 6 (by decide) (hts (.fieldLink RX3 24 "TillOneOfSort$Told" "lengths" "[I") (by decide +kernel)) (fun _ h9 => h9) rfl dX3_lengthOf_14 ?_
      refine lv_iload_n hx hb dX3_lengthOf_17 rfl (lv_at hl 1 rfl) ?_
      obtain ⟨c_1003, hf⟩ := x_ck hf
      refine va_iald hx hb hK hP (i + 1) 0 (wl_at (i8_lt (i8_a hi)) (cXI8 (i8_a hi))) rfl (ci_in c_1003) dX3_lengthOf_18 ?_
      refine lv_goto (tgt := 23) hx hb dX3_lengthOf_19 (by decide) ?_
      exact x_iret hx hb hr hlocks hP hS dX3_lengthOf_23 (Option.some.inj hf) rfl
set_option maxHeartbeats 40000000 in
set_option maxRecDepth 100000 in
theorem kX3_sortsOf (l : Launch) (z : Cx) (hz : okC 40 z) {i : Nat} {a0 : Int32} (hi : isTold i = true) {σ : Mm} {r : Int32} (hf : fX3_sortsOf i a0 σ = some r) : KG 40 ceX l yX3_sortsOf wsX3_sortsOf (0) (0) [.ref (z.2.1 i), .int a0] z σ σ (some (.int r)) := by
  rw [fX3_sortsOf] at hf
  refine Met.ofW (cc := cX3_sortsOf) (maxL := 2) (ret := (some .int)) (by decide) rfl ?_
  intro p e s m args below meth c s₁ B hml hv
  obtain ⟨rfl, hP, hK, hE⟩ := hv
  have hx := B.exec
  have hb := B.bytes
  have hr := B.returns
  have hts := atoms_spec (ws := wsX3_sortsOf) B.pre
  have hown : s.vm.findClass RX3 = some m.cls := findClass_of_methodNamed B.named
  have hlocks := B.notSynchronized
  have in_X3 : ∀ w ∈ wsX30, w ∈ wsX3_sortsOf := by decide +kernel
  have hS : va_S (aG 40 z) s.heap s.heap [] := va_S.rf
  have hl := lv_entry ([.ref (z.2.1 i), .int a0]) (n := 2) (Nat.le_of_ble_eq_true rfl)
  rw [lg_entry_eq]
  generalize (lg_sl ([.ref (z.2.1 i), .int a0]) ++ List.replicate (2 - (lg_sl ([.ref (z.2.1 i), .int a0])).length) Slot.unset).toArray = ls at hl ⊢
  have hl : lv_has ls 2 [(0, .ref (z.2.1 i)), (1, .int a0)] := hl
  refine lv_iload_n hx hb dX3_sortsOf_0 rfl (lv_at hl 1 rfl) ?_
  refine lv_if_lt (tgt := 22) hx hb dX3_sortsOf_1 (by decide) (fun c_1001 => ?_) (fun c_1001 => ?_)
  · have hf := (if_pos c_1001).symm.trans hf
    refine lv_iconst (v := (0 : Int32)) hx hb dX3_sortsOf_22 (by decide) ?_
    exact x_iret hx hb hr hlocks hP hS dX3_sortsOf_23 (Option.some.inj hf) rfl
  · have hf := (if_neg c_1001).symm.trans hf
    refine lv_iload_n hx hb dX3_sortsOf_4 rfl (lv_at hl 1 rfl) ?_
    refine lv_aload_n hx hb dX3_sortsOf_5 rfl (lv_at hl 0 rfl) ?_
    refine va_get (D := z.1) (ci := 3) (v := .ref (z.2.1 (i + 2))) (C := RX3) (T := TX3) (N := 8) hx hb hts in_X3 hown hK hP i (wl_at (told_lt hi) (cX3 hi)) rfl 7 (by decide) (hts (.fieldLink RX3 28 "TillOneOfSort$Told" "sorts" "[I") (by decide +kernel)) (fun _ h9 => h9) rfl dX3_sortsOf_6 ?_
    refine va_alen (v := (8 : Int32)) hx hb hK hP (i + 2) 0 (wl_at (i8_lt (i8_b hi)) (cXI8 (i8_b hi))) rfl rfl dX3_sortsOf_9 ?_
    refine lv_icmp_ge (tgt := 22) hx hb dX3_sortsOf_10 (by decide) (fun c_1002 => ?_) (fun c_1002 => ?_)
    · have hf := (if_pos c_1002).symm.trans hf
      refine lv_iconst (v := (0 : Int32)) hx hb dX3_sortsOf_22 (by decide) ?_
      exact x_iret hx hb hr hlocks hP hS dX3_sortsOf_23 (Option.some.inj hf) rfl
    · have hf := (if_neg c_1002).symm.trans hf
      refine lv_aload_n hx hb dX3_sortsOf_13 rfl (lv_at hl 0 rfl) ?_
      refine va_get (D := z.1) (ci := 3) (v := .ref (z.2.1 (i + 2))) (C := RX3) (T := TX3) (N := 8) hx hb hts in_X3 hown hK hP i (wl_at (told_lt hi) (cX3 hi)) rfl 7 (by decide) (hts (.fieldLink RX3 28 "TillOneOfSort$Told" "sorts" "[I") (by decide +kernel)) (fun _ h9 => h9) rfl dX3_sortsOf_14 ?_
      refine lv_iload_n hx hb dX3_sortsOf_17 rfl (lv_at hl 1 rfl) ?_
      obtain ⟨c_1003, hf⟩ := x_ck hf
      refine va_iald hx hb hK hP (i + 2) 0 (wl_at (i8_lt (i8_b hi)) (cXI8 (i8_b hi))) rfl (ci_in c_1003) dX3_sortsOf_18 ?_
      refine lv_goto (tgt := 23) hx hb dX3_sortsOf_19 (by decide) ?_
      exact x_iret hx hb hr hlocks hP hS dX3_sortsOf_23 (Option.some.inj hf) rfl
set_option maxHeartbeats 40000000 in
set_option maxRecDepth 100000 in
theorem kX3_copy (l : Launch) (z : Cx) (hz : okC 40 z) {i : Nat} {j : Nat} (hi : isTold i = true) (hj : isTold j = true) {σ σ' : Mm} (hf : fX3_copy i j σ = some σ') : KG 40 ceX l yX3_copy wsX3_copy (1) (21) [.ref (z.2.1 i), .ref (z.2.1 j)] z σ σ' none := by
  rw [fX3_copy] at hf
  refine Met.ofW (cc := cX3_copy) (maxL := 3) (ret := none) (by decide) rfl ?_
  intro p e s m args below meth c s₁ B hml hv
  obtain ⟨rfl, hP, hK, hE⟩ := hv
  have hx := B.exec
  have hb := B.bytes
  have hr := B.returns
  have hts := atoms_spec (ws := wsX3_copy) B.pre
  have hown : s.vm.findClass RX3 = some m.cls := findClass_of_methodNamed B.named
  have hlocks := B.notSynchronized
  have in_X3 : ∀ w ∈ wsX30, w ∈ wsX3_copy := by decide +kernel
  have hS : va_S (aG 40 z) s.heap s.heap [] := va_S.rf
  have hl := lv_entry ([.ref (z.2.1 i), .ref (z.2.1 j)]) (n := 3) (Nat.le_of_ble_eq_true rfl)
  rw [lg_entry_eq]
  generalize (lg_sl ([.ref (z.2.1 i), .ref (z.2.1 j)]) ++ List.replicate (3 - (lg_sl ([.ref (z.2.1 i), .ref (z.2.1 j)])).length) Slot.unset).toArray = ls at hl ⊢
  have hl : lv_has ls 3 [(0, .ref (z.2.1 i)), (1, .ref (z.2.1 j))] := hl
  have L_50 : ∀ (n_50 : Nat) (v2 : Int32) (σ : Mm) (H : Heap) (locs : List Loc) (ls : Array Slot), va_P z.1 vwCl (wl 40 z.2.1 (ceX z σ)) H → va_S (aG 40 z) s.heap H locs → lv_has ls 3 [(0, .ref (z.2.1 i)), (1, .ref (z.2.1 j)), (2, .int v2)] → fX3_copy_50 i j n_50 v2 σ = some σ' → W p l e (headSpec wsX3_copy ({ frames := 1, cells := 0, slots := 0, locals := 21 })).room s m ([.ref (z.2.1 i), .ref (z.2.1 j)] : List Value).toArray below meth c H locs 0 0 (MQ below (qcG 40 ceX z σ' none) ([.ref (z.2.1 i), .ref (z.2.1 j)] : List Value).toArray s 0 0 (aG 40 z)) (F0 m 50 ls []) := by
    intro n_50
    induction n_50 with
    | zero =>
      intro v2 σ H locs ls hP hS hl hf
      rw [fX3_copy_50] at hf
      cases hf
    | succ n_50 ih_50 =>
      intro v2 σ H locs ls hP hS hl hf
      rw [fX3_copy_50] at hf
      refine lv_iload_n hx hb dX3_copy_50 rfl (lv_at hl 2 rfl) ?_
      refine lv_aload_n hx hb dX3_copy_51 rfl (lv_at hl 0 rfl) ?_
      refine va_get (D := z.1) (ci := 3) (v := .ref (z.2.1 (i + 1))) (C := RX3) (T := TX3) (N := 8) hx hb hts in_X3 hown hK hP i (wl_at (told_lt hi) (cX3 hi)) rfl 6 (by decide) (hts (.fieldLink RX3 24 "TillOneOfSort$Told" "lengths" "[I") (by decide +kernel)) (fun _ h9 => h9) rfl dX3_copy_52 ?_
      refine va_alen (v := (8 : Int32)) hx hb hK hP (i + 1) 0 (wl_at (i8_lt (i8_a hi)) (cXI8 (i8_a hi))) rfl rfl dX3_copy_55 ?_
      refine lv_icmp_ge (tgt := 96) hx hb dX3_copy_56 (by decide) (fun c_1 => ?_) (fun c_1 => ?_)
      · have hf := (if_pos c_1).symm.trans hf
        exact x_vret hx hb hr hlocks hP hS dX3_copy_96 (Option.some.inj hf)
      · have hf := (if_neg c_1).symm.trans hf
        refine lv_iload_n hx hb dX3_copy_59 rfl (lv_at hl 2 rfl) ?_
        refine lv_aload_n hx hb dX3_copy_60 rfl (lv_at hl 0 rfl) ?_
        refine va_get (D := z.1) (ci := 3) (v := .ref (z.2.1 (i + 2))) (C := RX3) (T := TX3) (N := 8) hx hb hts in_X3 hown hK hP i (wl_at (told_lt hi) (cX3 hi)) rfl 7 (by decide) (hts (.fieldLink RX3 28 "TillOneOfSort$Told" "sorts" "[I") (by decide +kernel)) (fun _ h9 => h9) rfl dX3_copy_61 ?_
        refine va_alen (v := (8 : Int32)) hx hb hK hP (i + 2) 0 (wl_at (i8_lt (i8_b hi)) (cXI8 (i8_b hi))) rfl rfl dX3_copy_64 ?_
        refine lv_icmp_ge (tgt := 96) hx hb dX3_copy_65 (by decide) (fun c_2 => ?_) (fun c_2 => ?_)
        · have hf := (if_pos c_2).symm.trans hf
          exact x_vret hx hb hr hlocks hP hS dX3_copy_96 (Option.some.inj hf)
        · have hf := (if_neg c_2).symm.trans hf
          refine lv_aload_n hx hb dX3_copy_68 rfl (lv_at hl 0 rfl) ?_
          refine va_get (D := z.1) (ci := 3) (v := .ref (z.2.1 (i + 1))) (C := RX3) (T := TX3) (N := 8) hx hb hts in_X3 hown hK hP i (wl_at (told_lt hi) (cX3 hi)) rfl 6 (by decide) (hts (.fieldLink RX3 24 "TillOneOfSort$Told" "lengths" "[I") (by decide +kernel)) (fun _ h9 => h9) rfl dX3_copy_69 ?_
          refine lv_iload_n hx hb dX3_copy_72 rfl (lv_at hl 2 rfl) ?_
          refine lv_aload_n hx hb dX3_copy_73 rfl (lv_at hl 1 rfl) ?_
          refine lv_iload_n hx hb dX3_copy_74 rfl (lv_at hl 2 rfl) ?_
          obtain ⟨q_3, hq_3, hf⟩ := x_bd hf
          refine x_callGi (va_runV (As := [.int v2]) (rest := [.int v2, .ref (z.2.1 (i + 1))]) ⟨hx, hb, hml, hown, hts⟩ (kX3_lengthOf l z hz hj hq_3) (cwV 1 hts gX3_copy_X3_lengthOf rfl rfl rfl (by decide +kernel) ⟨Nat.le_of_ble_eq_true rfl, Nat.le_of_ble_eq_true rfl⟩) (pvG hK hP hE hS (va_recv hK hP (ci := 3) (q0 := j) rfl (wl_at (told_lt hj) (cX3 hj)))) rfl rfl hl.1 rfl (lv_room (Nat.le_of_ble_eq_true rfl)) dX3_copy_75 ⟨Nat.zero_le _, Nat.zero_le _⟩) hS (fun H locs hP hS => ?_)
          obtain ⟨c_4, hf⟩ := x_ck hf
          refine va_iast hx hb hK hP (wl_D hz _) hS (i + 1) 0 (wl_at (i8_lt (i8_a hi)) (cXI8 (i8_a hi))) rfl (ci_in c_4) dX3_copy_78 (fun H locs hP _ hS => ?_)
          rw [(sXI8 (i8_a hi))] at hP
          refine lv_aload_n hx hb dX3_copy_79 rfl (lv_at hl 0 rfl) ?_
          refine va_get (D := z.1) (ci := 3) (v := .ref (z.2.1 (i + 2))) (C := RX3) (T := TX3) (N := 8) hx hb hts in_X3 hown hK hP i (wl_at (told_lt hi) (cX3 hi)) rfl 7 (by decide) (hts (.fieldLink RX3 28 "TillOneOfSort$Told" "sorts" "[I") (by decide +kernel)) (fun _ h9 => h9) rfl dX3_copy_80 ?_
          refine lv_iload_n hx hb dX3_copy_83 rfl (lv_at hl 2 rfl) ?_
          refine lv_aload_n hx hb dX3_copy_84 rfl (lv_at hl 1 rfl) ?_
          refine lv_iload_n hx hb dX3_copy_85 rfl (lv_at hl 2 rfl) ?_
          obtain ⟨q_5, hq_5, hf⟩ := x_bd hf
          refine x_callGi (va_runV (As := [.int v2]) (rest := [.int v2, .ref (z.2.1 (i + 2))]) ⟨hx, hb, hml, hown, hts⟩ (kX3_sortsOf l z hz hj hq_5) (cwV 1 hts gX3_copy_X3_sortsOf rfl rfl rfl (by decide +kernel) ⟨Nat.le_of_ble_eq_true rfl, Nat.le_of_ble_eq_true rfl⟩) (pvG hK hP hE hS (va_recv hK hP (ci := 3) (q0 := j) rfl (wl_at (told_lt hj) (cX3 hj)))) rfl rfl hl.1 rfl (lv_room (Nat.le_of_ble_eq_true rfl)) dX3_copy_86 ⟨Nat.zero_le _, Nat.zero_le _⟩) hS (fun H locs hP hS => ?_)
          obtain ⟨c_6, hf⟩ := x_ck hf
          refine va_iast hx hb hK hP (wl_D hz _) hS (i + 2) 0 (wl_at (i8_lt (i8_b hi)) (cXI8 (i8_b hi))) rfl (ci_in c_6) dX3_copy_89 (fun H locs hP _ hS => ?_)
          rw [(sXI8 (i8_b hi))] at hP
          refine lv_iinc (v := (v2 + (1 : Int32))) (lv' := [(2, .int (v2 + (1 : Int32))), (0, .ref (z.2.1 i)), (1, .ref (z.2.1 j))]) hx hb dX3_copy_90 hl (k := 2) rfl rfl (by decide) rfl (fun ls hl => ?_)
          refine lv_goto (tgt := 50) hx hb dX3_copy_93 (by decide) ?_
          exact ih_50 (v2 + (1 : Int32)) (pI (pI σ (i + 1) v2.toNatClampNeg q_3) (i + 2) v2.toNatClampNeg q_5) _ _ _ hP hS (lv_sub hl [1, 2, 0] rfl) hf
  refine lv_aload_n hx hb dX3_copy_0 rfl (lv_at hl 0 rfl) ?_
  refine lv_aload_n hx hb dX3_copy_1 rfl (lv_at hl 1 rfl) ?_
  refine va_get (D := z.1) (ci := 3) (v := .int (gI σ j 0)) (C := RX3) (T := TX3) (N := 8) hx hb hts in_X3 hown hK hP j (wl_at (told_lt hj) (cX3 hj)) rfl 0 (by decide) (hts (.fieldLink RX3 9 "TillOneOfSort$Told" "kind" "I") (by decide +kernel)) (fun _ h9 => h9) rfl dX3_copy_2 ?_
  refine va_put (D := z.1) (ci := 3) (v := .int (gI σ j 0)) (ty := .int) (C := RX3) (T := TX3) (N := 8) hx hb hts in_X3 tyX3 tyX3_ok nmX3 hown hK hP (wl_D hz _) hS i (wl_at (told_lt hi) (cX3 hi)) rfl 0 (by decide) (hts (.fieldLink RX3 9 "TillOneOfSort$Told" "kind" "I") (by decide +kernel)) (fun _ h9 => h9) rfl (by decide +kernel) rfl rfl (Nat.le_of_ble_eq_true rfl) dX3_copy_5 (fun H locs hP _ hS => ?_)
  rw [sX3 hi (by decide)] at hP
  refine lv_aload_n hx hb dX3_copy_8 rfl (lv_at hl 0 rfl) ?_
  refine lv_aload_n hx hb dX3_copy_9 rfl (lv_at hl 1 rfl) ?_
  refine va_get (D := z.1) (ci := 3) (v := .int (gI (pI σ i 0 (gI σ j 0)) j 1)) (C := RX3) (T := TX3) (N := 8) hx hb hts in_X3 hown hK hP j (wl_at (told_lt hj) (cX3 hj)) rfl 1 (by decide) (hts (.fieldLink RX3 15 "TillOneOfSort$Told" "figure" "I") (by decide +kernel)) (fun _ h9 => h9) rfl dX3_copy_10 ?_
  refine va_put (D := z.1) (ci := 3) (v := .int (gI (pI σ i 0 (gI σ j 0)) j 1)) (ty := .int) (C := RX3) (T := TX3) (N := 8) hx hb hts in_X3 tyX3 tyX3_ok nmX3 hown hK hP (wl_D hz _) hS i (wl_at (told_lt hi) (cX3 hi)) rfl 1 (by decide) (hts (.fieldLink RX3 15 "TillOneOfSort$Told" "figure" "I") (by decide +kernel)) (fun _ h9 => h9) rfl (by decide +kernel) rfl rfl (Nat.le_of_ble_eq_true rfl) dX3_copy_13 (fun H locs hP _ hS => ?_)
  rw [sX3 hi (by decide)] at hP
  refine lv_aload_n hx hb dX3_copy_16 rfl (lv_at hl 0 rfl) ?_
  refine lv_aload_n hx hb dX3_copy_17 rfl (lv_at hl 1 rfl) ?_
  refine va_get (D := z.1) (ci := 3) (v := .int (gI (pI (pI σ i 0 (gI σ j 0)) i 1 (gI (pI σ i 0 (gI σ j 0)) j 1)) j 2)) (C := RX3) (T := TX3) (N := 8) hx hb hts in_X3 hown hK hP j (wl_at (told_lt hj) (cX3 hj)) rfl 2 (by decide) (hts (.fieldLink RX3 18 "TillOneOfSort$Told" "most" "I") (by decide +kernel)) (fun _ h9 => h9) rfl dX3_copy_18 ?_
  refine va_put (D := z.1) (ci := 3) (v := .int (gI (pI (pI σ i 0 (gI σ j 0)) i 1 (gI (pI σ i 0 (gI σ j 0)) j 1)) j 2)) (ty := .int) (C := RX3) (T := TX3) (N := 8) hx hb hts in_X3 tyX3 tyX3_ok nmX3 hown hK hP (wl_D hz _) hS i (wl_at (told_lt hi) (cX3 hi)) rfl 2 (by decide) (hts (.fieldLink RX3 18 "TillOneOfSort$Told" "most" "I") (by decide +kernel)) (fun _ h9 => h9) rfl (by decide +kernel) rfl rfl (Nat.le_of_ble_eq_true rfl) dX3_copy_21 (fun H locs hP _ hS => ?_)
  rw [sX3 hi (by decide)] at hP
  refine lv_aload_n hx hb dX3_copy_24 rfl (lv_at hl 0 rfl) ?_
  refine lv_aload_n hx hb dX3_copy_25 rfl (lv_at hl 1 rfl) ?_
  refine va_get (D := z.1) (ci := 3) (v := .int (gI (pI (pI (pI σ i 0 (gI σ j 0)) i 1 (gI (pI σ i 0 (gI σ j 0)) j 1)) i 2 (gI (pI (pI σ i 0 (gI σ j 0)) i 1 (gI (pI σ i 0 (gI σ j 0)) j 1)) j 2)) j 3)) (C := RX3) (T := TX3) (N := 8) hx hb hts in_X3 hown hK hP j (wl_at (told_lt hj) (cX3 hj)) rfl 3 (by decide) (hts (.fieldLink RX3 21 "TillOneOfSort$Told" "chance" "I") (by decide +kernel)) (fun _ h9 => h9) rfl dX3_copy_26 ?_
  refine va_put (D := z.1) (ci := 3) (v := .int (gI (pI (pI (pI σ i 0 (gI σ j 0)) i 1 (gI (pI σ i 0 (gI σ j 0)) j 1)) i 2 (gI (pI (pI σ i 0 (gI σ j 0)) i 1 (gI (pI σ i 0 (gI σ j 0)) j 1)) j 2)) j 3)) (ty := .int) (C := RX3) (T := TX3) (N := 8) hx hb hts in_X3 tyX3 tyX3_ok nmX3 hown hK hP (wl_D hz _) hS i (wl_at (told_lt hi) (cX3 hi)) rfl 3 (by decide) (hts (.fieldLink RX3 21 "TillOneOfSort$Told" "chance" "I") (by decide +kernel)) (fun _ h9 => h9) rfl (by decide +kernel) rfl rfl (Nat.le_of_ble_eq_true rfl) dX3_copy_29 (fun H locs hP _ hS => ?_)
  rw [sX3 hi (by decide)] at hP
  refine lv_aload_n hx hb dX3_copy_32 rfl (lv_at hl 0 rfl) ?_
  refine lv_aload_n hx hb dX3_copy_33 rfl (lv_at hl 1 rfl) ?_
  refine va_get (D := z.1) (ci := 3) (v := .int (gI (pI (pI (pI (pI σ i 0 (gI σ j 0)) i 1 (gI (pI σ i 0 (gI σ j 0)) j 1)) i 2 (gI (pI (pI σ i 0 (gI σ j 0)) i 1 (gI (pI σ i 0 (gI σ j 0)) j 1)) j 2)) i 3 (gI (pI (pI (pI σ i 0 (gI σ j 0)) i 1 (gI (pI σ i 0 (gI σ j 0)) j 1)) i 2 (gI (pI (pI σ i 0 (gI σ j 0)) i 1 (gI (pI σ i 0 (gI σ j 0)) j 1)) j 2)) j 3)) j 4)) (C := RX3) (T := TX3) (N := 8) hx hb hts in_X3 hown hK hP j (wl_at (told_lt hj) (cX3 hj)) rfl 4 (by decide) (hts (.fieldLink RX3 31 "TillOneOfSort$Told" "lean" "I") (by decide +kernel)) (fun _ h9 => h9) rfl dX3_copy_34 ?_
  refine va_put (D := z.1) (ci := 3) (v := .int (gI (pI (pI (pI (pI σ i 0 (gI σ j 0)) i 1 (gI (pI σ i 0 (gI σ j 0)) j 1)) i 2 (gI (pI (pI σ i 0 (gI σ j 0)) i 1 (gI (pI σ i 0 (gI σ j 0)) j 1)) j 2)) i 3 (gI (pI (pI (pI σ i 0 (gI σ j 0)) i 1 (gI (pI σ i 0 (gI σ j 0)) j 1)) i 2 (gI (pI (pI σ i 0 (gI σ j 0)) i 1 (gI (pI σ i 0 (gI σ j 0)) j 1)) j 2)) j 3)) j 4)) (ty := .int) (C := RX3) (T := TX3) (N := 8) hx hb hts in_X3 tyX3 tyX3_ok nmX3 hown hK hP (wl_D hz _) hS i (wl_at (told_lt hi) (cX3 hi)) rfl 4 (by decide) (hts (.fieldLink RX3 31 "TillOneOfSort$Told" "lean" "I") (by decide +kernel)) (fun _ h9 => h9) rfl (by decide +kernel) rfl rfl (Nat.le_of_ble_eq_true rfl) dX3_copy_37 (fun H locs hP _ hS => ?_)
  rw [sX3 hi (by decide)] at hP
  refine lv_aload_n hx hb dX3_copy_40 rfl (lv_at hl 0 rfl) ?_
  refine lv_aload_n hx hb dX3_copy_41 rfl (lv_at hl 1 rfl) ?_
  refine va_get (D := z.1) (ci := 3) (v := .int (gI (pI (pI (pI (pI (pI σ i 0 (gI σ j 0)) i 1 (gI (pI σ i 0 (gI σ j 0)) j 1)) i 2 (gI (pI (pI σ i 0 (gI σ j 0)) i 1 (gI (pI σ i 0 (gI σ j 0)) j 1)) j 2)) i 3 (gI (pI (pI (pI σ i 0 (gI σ j 0)) i 1 (gI (pI σ i 0 (gI σ j 0)) j 1)) i 2 (gI (pI (pI σ i 0 (gI σ j 0)) i 1 (gI (pI σ i 0 (gI σ j 0)) j 1)) j 2)) j 3)) i 4 (gI (pI (pI (pI (pI σ i 0 (gI σ j 0)) i 1 (gI (pI σ i 0 (gI σ j 0)) j 1)) i 2 (gI (pI (pI σ i 0 (gI σ j 0)) i 1 (gI (pI σ i 0 (gI σ j 0)) j 1)) j 2)) i 3 (gI (pI (pI (pI σ i 0 (gI σ j 0)) i 1 (gI (pI σ i 0 (gI σ j 0)) j 1)) i 2 (gI (pI (pI σ i 0 (gI σ j 0)) i 1 (gI (pI σ i 0 (gI σ j 0)) j 1)) j 2)) j 3)) j 4)) j 5)) (C := RX3) (T := TX3) (N := 8) hx hb hts in_X3 hown hK hP j (wl_at (told_lt hj) (cX3 hj)) rfl 5 (by decide) (hts (.fieldLink RX3 34 "TillOneOfSort$Told" "families" "I") (by decide +kernel)) (fun _ h9 => h9) rfl dX3_copy_42 ?_
  refine va_put (D := z.1) (ci := 3) (v := .int (gI (pI (pI (pI (pI (pI σ i 0 (gI σ j 0)) i 1 (gI (pI σ i 0 (gI σ j 0)) j 1)) i 2 (gI (pI (pI σ i 0 (gI σ j 0)) i 1 (gI (pI σ i 0 (gI σ j 0)) j 1)) j 2)) i 3 (gI (pI (pI (pI σ i 0 (gI σ j 0)) i 1 (gI (pI σ i 0 (gI σ j 0)) j 1)) i 2 (gI (pI (pI σ i 0 (gI σ j 0)) i 1 (gI (pI σ i 0 (gI σ j 0)) j 1)) j 2)) j 3)) i 4 (gI (pI (pI (pI (pI σ i 0 (gI σ j 0)) i 1 (gI (pI σ i 0 (gI σ j 0)) j 1)) i 2 (gI (pI (pI σ i 0 (gI σ j 0)) i 1 (gI (pI σ i 0 (gI σ j 0)) j 1)) j 2)) i 3 (gI (pI (pI (pI σ i 0 (gI σ j 0)) i 1 (gI (pI σ i 0 (gI σ j 0)) j 1)) i 2 (gI (pI (pI σ i 0 (gI σ j 0)) i 1 (gI (pI σ i 0 (gI σ j 0)) j 1)) j 2)) j 3)) j 4)) j 5)) (ty := .int) (C := RX3) (T := TX3) (N := 8) hx hb hts in_X3 tyX3 tyX3_ok nmX3 hown hK hP (wl_D hz _) hS i (wl_at (told_lt hi) (cX3 hi)) rfl 5 (by decide) (hts (.fieldLink RX3 34 "TillOneOfSort$Told" "families" "I") (by decide +kernel)) (fun _ h9 => h9) rfl (by decide +kernel) rfl rfl (Nat.le_of_ble_eq_true rfl) dX3_copy_45 (fun H locs hP _ hS => ?_)
  rw [sX3 hi (by decide)] at hP
  refine lv_iconst (v := (0 : Int32)) hx hb dX3_copy_48 (by decide) ?_
  refine lv_istore_n (lv' := [(2, .int (0 : Int32)), (0, .ref (z.2.1 i)), (1, .ref (z.2.1 j))]) hx hb dX3_copy_49 rfl hl (by decide) rfl (fun ls hl => ?_)
  exact L_50 1000 (0 : Int32) (pI (pI (pI (pI (pI (pI σ i 0 (gI σ j 0)) i 1 (gI (pI σ i 0 (gI σ j 0)) j 1)) i 2 (gI (pI (pI σ i 0 (gI σ j 0)) i 1 (gI (pI σ i 0 (gI σ j 0)) j 1)) j 2)) i 3 (gI (pI (pI (pI σ i 0 (gI σ j 0)) i 1 (gI (pI σ i 0 (gI σ j 0)) j 1)) i 2 (gI (pI (pI σ i 0 (gI σ j 0)) i 1 (gI (pI σ i 0 (gI σ j 0)) j 1)) j 2)) j 3)) i 4 (gI (pI (pI (pI (pI σ i 0 (gI σ j 0)) i 1 (gI (pI σ i 0 (gI σ j 0)) j 1)) i 2 (gI (pI (pI σ i 0 (gI σ j 0)) i 1 (gI (pI σ i 0 (gI σ j 0)) j 1)) j 2)) i 3 (gI (pI (pI (pI σ i 0 (gI σ j 0)) i 1 (gI (pI σ i 0 (gI σ j 0)) j 1)) i 2 (gI (pI (pI σ i 0 (gI σ j 0)) i 1 (gI (pI σ i 0 (gI σ j 0)) j 1)) j 2)) j 3)) j 4)) i 5 (gI (pI (pI (pI (pI (pI σ i 0 (gI σ j 0)) i 1 (gI (pI σ i 0 (gI σ j 0)) j 1)) i 2 (gI (pI (pI σ i 0 (gI σ j 0)) i 1 (gI (pI σ i 0 (gI σ j 0)) j 1)) j 2)) i 3 (gI (pI (pI (pI σ i 0 (gI σ j 0)) i 1 (gI (pI σ i 0 (gI σ j 0)) j 1)) i 2 (gI (pI (pI σ i 0 (gI σ j 0)) i 1 (gI (pI σ i 0 (gI σ j 0)) j 1)) j 2)) j 3)) i 4 (gI (pI (pI (pI (pI σ i 0 (gI σ j 0)) i 1 (gI (pI σ i 0 (gI σ j 0)) j 1)) i 2 (gI (pI (pI σ i 0 (gI σ j 0)) i 1 (gI (pI σ i 0 (gI σ j 0)) j 1)) j 2)) i 3 (gI (pI (pI (pI σ i 0 (gI σ j 0)) i 1 (gI (pI σ i 0 (gI σ j 0)) j 1)) i 2 (gI (pI (pI σ i 0 (gI σ j 0)) i 1 (gI (pI σ i 0 (gI σ j 0)) j 1)) j 2)) j 3)) j 4)) j 5)) _ _ _ hP hS (lv_sub hl [1, 2, 0] rfl) hf
set_option maxHeartbeats 40000000 in
set_option maxRecDepth 100000 in
theorem kX3_least (l : Launch) {a0 : Int32}  {r : Int32} (hf : fX3_least a0 = some r) : KS l yX3_least wsX3_least (0) (0) [.int a0] (some (.int r)) := by
  rw [fX3_least] at hf
  refine Met.ofW (cc := cX3_least) (maxL := 1) (ret := (some .int)) (by decide) rfl ?_
  intro p e s m args below meth c s₁ B hml hv
  obtain ⟨rfl, -⟩ := hv
  have hx := B.exec
  have hb := B.bytes
  have hr := B.returns
  have hts := atoms_spec (ws := wsX3_least) B.pre
  have hown : s.vm.findClass RX3 = some m.cls := findClass_of_methodNamed B.named
  have hlocks := B.notSynchronized
  have hl := lv_entry ([.int a0]) (n := 1) (Nat.le_of_ble_eq_true rfl)
  rw [lg_entry_eq]
  generalize (lg_sl ([.int a0]) ++ List.replicate (1 - (lg_sl ([.int a0])).length) Slot.unset).toArray = ls at hl ⊢
  have hl : lv_has ls 1 [(0, .int a0)] := hl
  refine lv_iload_n hx hb dX3_least_0 rfl (lv_at hl 0 rfl) ?_
  refine lv_iconst (v := (2 : Int32)) hx hb dX3_least_1 (by decide) ?_
  refine lv_icmp_ne (tgt := 9) hx hb dX3_least_2 (by decide) (fun c_1001 => ?_) (fun c_1001 => ?_)
  · have hf := (if_neg c_1001).symm.trans hf
    refine lv_iconst (v := (1 : Int32)) hx hb dX3_least_9 (by decide) ?_
    exact xs_iret hx hb hr hlocks dX3_least_10 (Option.some.inj hf)
  · have hf := (if_pos c_1001).symm.trans hf
    refine lv_iconst (v := (0 : Int32)) hx hb dX3_least_5 (by decide) ?_
    refine lv_goto (tgt := 10) hx hb dX3_least_6 (by decide) ?_
    exact xs_iret hx hb hr hlocks dX3_least_10 (Option.some.inj hf)
set_option maxHeartbeats 40000000 in
set_option maxRecDepth 100000 in
theorem kX3_greatest (l : Launch) {a0 : Int32}  {r : Int32} (hf : fX3_greatest a0 = some r) : KS l yX3_greatest wsX3_greatest (0) (0) [.int a0] (some (.int r)) := by
  rw [fX3_greatest] at hf
  refine Met.ofW (cc := cX3_greatest) (maxL := 1) (ret := (some .int)) (by decide) rfl ?_
  intro p e s m args below meth c s₁ B hml hv
  obtain ⟨rfl, -⟩ := hv
  have hx := B.exec
  have hb := B.bytes
  have hr := B.returns
  have hts := atoms_spec (ws := wsX3_greatest) B.pre
  have hown : s.vm.findClass RX3 = some m.cls := findClass_of_methodNamed B.named
  have hlocks := B.notSynchronized
  have hl := lv_entry ([.int a0]) (n := 1) (Nat.le_of_ble_eq_true rfl)
  rw [lg_entry_eq]
  generalize (lg_sl ([.int a0]) ++ List.replicate (1 - (lg_sl ([.int a0])).length) Slot.unset).toArray = ls at hl ⊢
  have hl : lv_has ls 1 [(0, .int a0)] := hl
  refine lv_iload_n hx hb dX3_greatest_0 rfl (lv_at hl 0 rfl) ?_
  refine lv_iconst (v := (1 : Int32)) hx hb dX3_greatest_1 (by decide) ?_
  refine lv_icmp_ne (tgt := 10) hx hb dX3_greatest_2 (by decide) (fun c_1001 => ?_) (fun c_1001 => ?_)
  · have hf := (if_neg c_1001).symm.trans hf
    refine lv_bipush (v := (10 : Int32)) hx hb dX3_greatest_10 (by decide) ?_
    exact xs_iret hx hb hr hlocks dX3_greatest_12 (Option.some.inj hf)
  · have hf := (if_pos c_1001).symm.trans hf
    refine lv_bipush (v := (11 : Int32)) hx hb dX3_greatest_5 (by decide) ?_
    refine lv_goto (tgt := 12) hx hb dX3_greatest_7 (by decide) ?_
    exact xs_iret hx hb hr hlocks dX3_greatest_12 (Option.some.inj hf)
set_option maxHeartbeats 40000000 in
set_option maxRecDepth 100000 in
theorem kX3_number (l : Launch) (z : Cx) (hz : okC 40 z) {i : Nat} {a0 : Int32} (hi : isTold i = true) {σ : Mm} {r : Int32} (hf : fX3_number i a0 σ = some r) : KG 40 ceX l yX3_number wsX3_number (0) (0) [.ref (z.2.1 i), .int a0] z σ σ (some (.int r)) := by
  rw [fX3_number] at hf
  refine Met.ofW (cc := cX3_number) (maxL := 2) (ret := (some .int)) (by decide) rfl ?_
  intro p e s m args below meth c s₁ B hml hv
  obtain ⟨rfl, hP, hK, hE⟩ := hv
  have hx := B.exec
  have hb := B.bytes
  have hr := B.returns
  have hts := atoms_spec (ws := wsX3_number) B.pre
  have hown : s.vm.findClass RX3 = some m.cls := findClass_of_methodNamed B.named
  have hlocks := B.notSynchronized
  have in_X3 : ∀ w ∈ wsX30, w ∈ wsX3_number := by decide +kernel
  have hS : va_S (aG 40 z) s.heap s.heap [] := va_S.rf
  have hl := lv_entry ([.ref (z.2.1 i), .int a0]) (n := 2) (Nat.le_of_ble_eq_true rfl)
  rw [lg_entry_eq]
  generalize (lg_sl ([.ref (z.2.1 i), .int a0]) ++ List.replicate (2 - (lg_sl ([.ref (z.2.1 i), .int a0])).length) Slot.unset).toArray = ls at hl ⊢
  have hl : lv_has ls 2 [(0, .ref (z.2.1 i)), (1, .int a0)] := hl
  refine lv_iload_n hx hb dX3_number_0 rfl (lv_at hl 1 rfl) ?_
  refine lv_iconst (v := (2 : Int32)) hx hb dX3_number_1 (by decide) ?_
  refine lv_icmp_ne (tgt := 12) hx hb dX3_number_2 (by decide) (fun c_1001 => ?_) (fun c_1001 => ?_)
  · have hf := (if_neg c_1001).symm.trans hf
    refine lv_iload_n hx hb dX3_number_12 rfl (lv_at hl 1 rfl) ?_
    refine lv_iconst (v := (1 : Int32)) hx hb dX3_number_13 (by decide) ?_
    refine lv_icmp_ne (tgt := 24) hx hb dX3_number_14 (by decide) (fun c_1002 => ?_) (fun c_1002 => ?_)
    · have hf := (if_neg c_1002).symm.trans hf
      refine lv_aload_n hx hb dX3_number_24 rfl (lv_at hl 0 rfl) ?_
      refine va_get (D := z.1) (ci := 3) (v := .int (gI σ i 2)) (C := RX3) (T := TX3) (N := 8) hx hb hts in_X3 hown hK hP i (wl_at (told_lt hi) (cX3 hi)) rfl 2 (by decide) (hts (.fieldLink RX3 18 "TillOneOfSort$Told" "most" "I") (by decide +kernel)) (fun _ h9 => h9) rfl dX3_number_25 ?_
      exact x_iret hx hb hr hlocks hP hS dX3_number_28 (Option.some.inj hf) rfl
    · have hf := (if_pos c_1002).symm.trans hf
      refine lv_aload_n hx hb dX3_number_17 rfl (lv_at hl 0 rfl) ?_
      refine va_get (D := z.1) (ci := 3) (v := .int (gI σ i 3)) (C := RX3) (T := TX3) (N := 8) hx hb hts in_X3 hown hK hP i (wl_at (told_lt hi) (cX3 hi)) rfl 3 (by decide) (hts (.fieldLink RX3 21 "TillOneOfSort$Told" "chance" "I") (by decide +kernel)) (fun _ h9 => h9) rfl dX3_number_18 ?_
      refine lv_goto (tgt := 28) hx hb dX3_number_21 (by decide) ?_
      exact x_iret hx hb hr hlocks hP hS dX3_number_28 (Option.some.inj hf) rfl
  · have hf := (if_pos c_1001).symm.trans hf
    refine lv_iconst (v := (5 : Int32)) hx hb dX3_number_5 (by decide) ?_
    refine lv_aload_n hx hb dX3_number_6 rfl (lv_at hl 0 rfl) ?_
    refine va_get (D := z.1) (ci := 3) (v := .int (gI σ i 4)) (C := RX3) (T := TX3) (N := 8) hx hb hts in_X3 hown hK hP i (wl_at (told_lt hi) (cX3 hi)) rfl 4 (by decide) (hts (.fieldLink RX3 31 "TillOneOfSort$Told" "lean" "I") (by decide +kernel)) (fun _ h9 => h9) rfl dX3_number_7 ?_
    refine lv_iadd hx hb dX3_number_10 ?_
    exact x_iret hx hb hr hlocks hP hS dX3_number_11 (Option.some.inj hf) rfl
set_option maxHeartbeats 40000000 in
set_option maxRecDepth 100000 in
theorem kX3_tellNumber (l : Launch) (z : Cx) (hz : okC 40 z) {i : Nat} {a0 : Int32} {a1 : Int32} (hi : isTold i = true) {σ σ' : Mm} {r : Int32} (hf : fX3_tellNumber i a0 a1 σ = some (r, σ')) : KG 40 ceX l yX3_tellNumber wsX3_tellNumber (1) (20) [.ref (z.2.1 i), .int a0, .int a1] z σ σ' (some (.int r)) := by
  rw [fX3_tellNumber] at hf
  refine Met.ofW (cc := cX3_tellNumber) (maxL := 3) (ret := (some .boolean)) (by decide) rfl ?_
  intro p e s m args below meth c s₁ B hml hv
  obtain ⟨rfl, hP, hK, hE⟩ := hv
  have hx := B.exec
  have hb := B.bytes
  have hr := B.returns
  have hts := atoms_spec (ws := wsX3_tellNumber) B.pre
  have hown : s.vm.findClass RX3 = some m.cls := findClass_of_methodNamed B.named
  have hlocks := B.notSynchronized
  have in_X3 : ∀ w ∈ wsX30, w ∈ wsX3_tellNumber := by decide +kernel
  have hS : va_S (aG 40 z) s.heap s.heap [] := va_S.rf
  have hl := lv_entry ([.ref (z.2.1 i), .int a0, .int a1]) (n := 3) (Nat.le_of_ble_eq_true rfl)
  rw [lg_entry_eq]
  generalize (lg_sl ([.ref (z.2.1 i), .int a0, .int a1]) ++ List.replicate (3 - (lg_sl ([.ref (z.2.1 i), .int a0, .int a1])).length) Slot.unset).toArray = ls at hl ⊢
  have hl : lv_has ls 3 [(0, .ref (z.2.1 i)), (1, .int a0), (2, .int a1)] := hl
  refine lv_iload_n hx hb dX3_tellNumber_0 rfl (lv_at hl 2 rfl) ?_
  refine lv_iload_n hx hb dX3_tellNumber_1 rfl (lv_at hl 1 rfl) ?_
  obtain ⟨q_1001, hq_1001, hf⟩ := x_bd hf
  refine x_callSi (va_runS (As := [.int a0]) (rest := [.int a1]) ⟨hx, hb, hml, hown, hts⟩ (kX3_least l hq_1001) (va_cwS 1 hts gX3_tellNumber_X3_least rfl rfl rfl (by decide +kernel) ⟨Nat.le_of_ble_eq_true rfl, Nat.le_of_ble_eq_true rfl⟩) psS rfl rfl hl.1 rfl (lv_room (Nat.le_of_ble_eq_true rfl)) dX3_tellNumber_2 ⟨Nat.zero_le _, Nat.zero_le _⟩) ?_
  refine lv_icmp_lt (tgt := 16) hx hb dX3_tellNumber_5 (by decide) (fun c_1002 => ?_) (fun c_1002 => ?_)
  · have hf := (if_pos c_1002).symm.trans hf
    refine lv_iconst (v := (0 : Int32)) hx hb dX3_tellNumber_16 (by decide) ?_
    exact x_zret hx hb hr hlocks hP hS dX3_tellNumber_17 rfl (Prod.mk.inj (Option.some.inj hf)).1 (Prod.mk.inj (Option.some.inj hf)).2
  · have hf := (if_neg c_1002).symm.trans hf
    refine lv_iload_n hx hb dX3_tellNumber_8 rfl (lv_at hl 2 rfl) ?_
    refine lv_iload_n hx hb dX3_tellNumber_9 rfl (lv_at hl 1 rfl) ?_
    obtain ⟨q_1003, hq_1003, hf⟩ := x_bd hf
    refine x_callSi (va_runS (As := [.int a0]) (rest := [.int a1]) ⟨hx, hb, hml, hown, hts⟩ (kX3_greatest l hq_1003) (va_cwS 1 hts gX3_tellNumber_X3_greatest rfl rfl rfl (by decide +kernel) ⟨Nat.le_of_ble_eq_true rfl, Nat.le_of_ble_eq_true rfl⟩) psS rfl rfl hl.1 rfl (lv_room (Nat.le_of_ble_eq_true rfl)) dX3_tellNumber_10 ⟨Nat.zero_le _, Nat.zero_le _⟩) ?_
    refine lv_icmp_le (tgt := 18) hx hb dX3_tellNumber_13 (by decide) (fun c_1004 => ?_) (fun c_1004 => ?_)
    · have hf := (if_pos c_1004).symm.trans hf
      refine lv_iload_n hx hb dX3_tellNumber_18 rfl (lv_at hl 1 rfl) ?_
      refine lv_iconst (v := (2 : Int32)) hx hb dX3_tellNumber_19 (by decide) ?_
      refine lv_icmp_ne (tgt := 33) hx hb dX3_tellNumber_20 (by decide) (fun c_1005 => ?_) (fun c_1005 => ?_)
      · have hf := (if_neg c_1005).symm.trans hf
        refine lv_iload_n hx hb dX3_tellNumber_33 rfl (lv_at hl 1 rfl) ?_
        refine lv_iconst (v := (1 : Int32)) hx hb dX3_tellNumber_34 (by decide) ?_
        refine lv_icmp_ne (tgt := 46) hx hb dX3_tellNumber_35 (by decide) (fun c_1006 => ?_) (fun c_1006 => ?_)
        · have hf := (if_neg c_1006).symm.trans hf
          refine lv_aload_n hx hb dX3_tellNumber_46 rfl (lv_at hl 0 rfl) ?_
          refine lv_iload_n hx hb dX3_tellNumber_47 rfl (lv_at hl 2 rfl) ?_
          refine va_put (D := z.1) (ci := 3) (v := .int a1) (ty := .int) (C := RX3) (T := TX3) (N := 8) hx hb hts in_X3 tyX3 tyX3_ok nmX3 hown hK hP (wl_D hz _) hS i (wl_at (told_lt hi) (cX3 hi)) rfl 2 (by decide) (hts (.fieldLink RX3 18 "TillOneOfSort$Told" "most" "I") (by decide +kernel)) (fun _ h9 => h9) rfl (by decide +kernel) rfl rfl (Nat.le_of_ble_eq_true rfl) dX3_tellNumber_48 (fun H locs hP _ hS => ?_)
          rw [sX3 hi (by decide)] at hP
          refine lv_iconst (v := (1 : Int32)) hx hb dX3_tellNumber_51 (by decide) ?_
          exact x_zret hx hb hr hlocks hP hS dX3_tellNumber_52 rfl (Prod.mk.inj (Option.some.inj hf)).1 (Prod.mk.inj (Option.some.inj hf)).2
        · have hf := (if_pos c_1006).symm.trans hf
          refine lv_aload_n hx hb dX3_tellNumber_38 rfl (lv_at hl 0 rfl) ?_
          refine lv_iload_n hx hb dX3_tellNumber_39 rfl (lv_at hl 2 rfl) ?_
          refine va_put (D := z.1) (ci := 3) (v := .int a1) (ty := .int) (C := RX3) (T := TX3) (N := 8) hx hb hts in_X3 tyX3 tyX3_ok nmX3 hown hK hP (wl_D hz _) hS i (wl_at (told_lt hi) (cX3 hi)) rfl 3 (by decide) (hts (.fieldLink RX3 21 "TillOneOfSort$Told" "chance" "I") (by decide +kernel)) (fun _ h9 => h9) rfl (by decide +kernel) rfl rfl (Nat.le_of_ble_eq_true rfl) dX3_tellNumber_40 (fun H locs hP _ hS => ?_)
          rw [sX3 hi (by decide)] at hP
          refine lv_goto (tgt := 51) hx hb dX3_tellNumber_43 (by decide) ?_
          refine lv_iconst (v := (1 : Int32)) hx hb dX3_tellNumber_51 (by decide) ?_
          exact x_zret hx hb hr hlocks hP hS dX3_tellNumber_52 rfl (Prod.mk.inj (Option.some.inj hf)).1 (Prod.mk.inj (Option.some.inj hf)).2
      · have hf := (if_pos c_1005).symm.trans hf
        refine lv_aload_n hx hb dX3_tellNumber_23 rfl (lv_at hl 0 rfl) ?_
        refine lv_iload_n hx hb dX3_tellNumber_24 rfl (lv_at hl 2 rfl) ?_
        refine lv_iconst (v := (5 : Int32)) hx hb dX3_tellNumber_25 (by decide) ?_
        refine lv_isub hx hb dX3_tellNumber_26 ?_
        refine va_put (D := z.1) (ci := 3) (v := .int (a1 - (5 : Int32))) (ty := .int) (C := RX3) (T := TX3) (N := 8) hx hb hts in_X3 tyX3 tyX3_ok nmX3 hown hK hP (wl_D hz _) hS i (wl_at (told_lt hi) (cX3 hi)) rfl 4 (by decide) (hts (.fieldLink RX3 31 "TillOneOfSort$Told" "lean" "I") (by decide +kernel)) (fun _ h9 => h9) rfl (by decide +kernel) rfl rfl (Nat.le_of_ble_eq_true rfl) dX3_tellNumber_27 (fun H locs hP _ hS => ?_)
        rw [sX3 hi (by decide)] at hP
        refine lv_goto (tgt := 51) hx hb dX3_tellNumber_30 (by decide) ?_
        refine lv_iconst (v := (1 : Int32)) hx hb dX3_tellNumber_51 (by decide) ?_
        exact x_zret hx hb hr hlocks hP hS dX3_tellNumber_52 rfl (Prod.mk.inj (Option.some.inj hf)).1 (Prod.mk.inj (Option.some.inj hf)).2
    · have hf := (if_neg c_1004).symm.trans hf
      refine lv_iconst (v := (0 : Int32)) hx hb dX3_tellNumber_16 (by decide) ?_
      exact x_zret hx hb hr hlocks hP hS dX3_tellNumber_17 rfl (Prod.mk.inj (Option.some.inj hf)).1 (Prod.mk.inj (Option.some.inj hf)).2
set_option maxHeartbeats 40000000 in
set_option maxRecDepth 100000 in
theorem kX3_takeFamily (l : Launch) (z : Cx) (hz : okC 40 z) {i : Nat} {a1 : Int32} {a2 : Int32} (hi : isTold i = true) {σ σ' : Mm} {r : Int32} (hf : fX3_takeFamily i a1 a2 σ = some (r, σ')) : KG 40 ceX l yX3_takeFamily wsX3_takeFamily (1) (21) [.ref (z.2.1 i), .ref (z.2.1 10), .int a1, .int a2] z σ σ' (some (.int r)) := by
  rw [fX3_takeFamily] at hf
  refine Met.ofW (cc := cX3_takeFamily) (maxL := 6) (ret := (some .boolean)) (by decide) rfl ?_
  intro p e s m args below meth c s₁ B hml hv
  obtain ⟨rfl, hP, hK, hE⟩ := hv
  have hx := B.exec
  have hb := B.bytes
  have hr := B.returns
  have hts := atoms_spec (ws := wsX3_takeFamily) B.pre
  have hown : s.vm.findClass RX3 = some m.cls := findClass_of_methodNamed B.named
  have hlocks := B.notSynchronized
  have in_X3 : ∀ w ∈ wsX30, w ∈ wsX3_takeFamily := by decide +kernel
  have hS : va_S (aG 40 z) s.heap s.heap [] := va_S.rf
  have hl := lv_entry ([.ref (z.2.1 i), .ref (z.2.1 10), .int a1, .int a2]) (n := 6) (Nat.le_of_ble_eq_true rfl)
  rw [lg_entry_eq]
  generalize (lg_sl ([.ref (z.2.1 i), .ref (z.2.1 10), .int a1, .int a2]) ++ List.replicate (6 - (lg_sl ([.ref (z.2.1 i), .ref (z.2.1 10), .int a1, .int a2])).length) Slot.unset).toArray = ls at hl ⊢
  have hl : lv_has ls 6 [(0, .ref (z.2.1 i)), (1, .ref (z.2.1 10)), (2, .int a1), (3, .int a2)] := hl
  have L_39 : ∀ (n_39 : Nat) (v2 : Int32) (v3 : Int32) (v4 : Int32) (v5 : Int32) (σ : Mm) (H : Heap) (locs : List Loc) (ls : Array Slot), va_P z.1 vwCl (wl 40 z.2.1 (ceX z σ)) H → va_S (aG 40 z) s.heap H locs → lv_has ls 6 [(0, .ref (z.2.1 i)), (1, .ref (z.2.1 10)), (2, .int v2), (3, .int v3), (4, .int v4), (5, .int v5)] → fX3_takeFamily_39 i n_39 v2 v3 v4 v5 σ = some (r, σ') → W p l e (headSpec wsX3_takeFamily ({ frames := 1, cells := 0, slots := 0, locals := 21 })).room s m ([.ref (z.2.1 i), .ref (z.2.1 10), .int a1, .int a2] : List Value).toArray below meth c H locs 0 0 (MQ below (qcG 40 ceX z σ' (some (.int r))) ([.ref (z.2.1 i), .ref (z.2.1 10), .int a1, .int a2] : List Value).toArray s 0 0 (aG 40 z)) (F0 m 39 ls []) := by
    intro n_39
    induction n_39 with
    | zero =>
      intro v2 v3 v4 v5 σ H locs ls hP hS hl hf
      rw [fX3_takeFamily_39] at hf
      cases hf
    | succ n_39 ih_39 =>
      have j_67 : ∀ (v2 : Int32) (v3 : Int32) (v4 : Int32) (v5 : Int32) (σ : Mm) (H : Heap) (locs : List Loc) (ls : Array Slot), va_P z.1 vwCl (wl 40 z.2.1 (ceX z σ)) H → va_S (aG 40 z) s.heap H locs → lv_has ls 6 [(0, .ref (z.2.1 i)), (1, .ref (z.2.1 10)), (2, .int v2), (3, .int v3), (4, .int v4), (5, .int v5)] → fX3_takeFamily_67 i (fun wv2 wv3 wv4 wv5 wσ => fX3_takeFamily_39 i n_39 wv2 wv3 wv4 wv5 wσ) v2 v3 v4 v5 σ = some (r, σ') → W p l e (headSpec wsX3_takeFamily ({ frames := 1, cells := 0, slots := 0, locals := 21 })).room s m ([.ref (z.2.1 i), .ref (z.2.1 10), .int a1, .int a2] : List Value).toArray below meth c H locs 0 0 (MQ below (qcG 40 ceX z σ' (some (.int r))) ([.ref (z.2.1 i), .ref (z.2.1 10), .int a1, .int a2] : List Value).toArray s 0 0 (aG 40 z)) (F0 m 67 ls []) := by
        intro v2 v3 v4 v5 σ H locs ls hP hS hl hf
        rw [fX3_takeFamily_67] at hf
        refine lv_iinc (v := (v5 + (1 : Int32))) (lv' := [(5, .int (v5 + (1 : Int32))), (0, .ref (z.2.1 i)), (1, .ref (z.2.1 10)), (2, .int v2), (3, .int v3), (4, .int v4)]) hx hb dX3_takeFamily_67 hl (k := 5) rfl rfl (by decide) rfl (fun ls hl => ?_)
        refine lv_goto (tgt := 39) hx hb dX3_takeFamily_70 (by decide) ?_
        exact ih_39 v2 v3 v4 (v5 + (1 : Int32)) σ _ _ _ hP hS (lv_sub hl [1, 2, 3, 4, 5, 0] rfl) hf
      intro v2 v3 v4 v5 σ H locs ls hP hS hl hf
      rw [fX3_takeFamily_39] at hf
      refine lv_iload hx hb dX3_takeFamily_39 (lv_at hl 5 rfl) ?_
      refine lv_iload_n hx hb dX3_takeFamily_41 rfl (lv_at hl 3 rfl) ?_
      refine lv_icmp_ge (tgt := 73) hx hb dX3_takeFamily_42 (by decide) (fun c_4 => ?_) (fun c_4 => ?_)
      · have hf := (if_pos c_4).symm.trans hf
        refine lv_aload_n hx hb dX3_takeFamily_73 rfl (lv_at hl 0 rfl) ?_
        refine va_get (D := z.1) (ci := 3) (v := .ref (z.2.1 (i + 1))) (C := RX3) (T := TX3) (N := 8) hx hb hts in_X3 hown hK hP i (wl_at (told_lt hi) (cX3 hi)) rfl 6 (by decide) (hts (.fieldLink RX3 24 "TillOneOfSort$Told" "lengths" "[I") (by decide +kernel)) (fun _ h9 => h9) rfl dX3_takeFamily_74 ?_
        refine lv_aload_n hx hb dX3_takeFamily_77 rfl (lv_at hl 0 rfl) ?_
        refine va_get (D := z.1) (ci := 3) (v := .int (gI σ i 5)) (C := RX3) (T := TX3) (N := 8) hx hb hts in_X3 hown hK hP i (wl_at (told_lt hi) (cX3 hi)) rfl 5 (by decide) (hts (.fieldLink RX3 34 "TillOneOfSort$Told" "families" "I") (by decide +kernel)) (fun _ h9 => h9) rfl dX3_takeFamily_78 ?_
        refine lv_iload_n hx hb dX3_takeFamily_81 rfl (lv_at hl 3 rfl) ?_
        refine lv_iload_n hx hb dX3_takeFamily_82 rfl (lv_at hl 2 rfl) ?_
        refine lv_isub hx hb dX3_takeFamily_83 ?_
        obtain ⟨c_5, hf⟩ := x_ck hf
        refine va_iast hx hb hK hP (wl_D hz _) hS (i + 1) 0 (wl_at (i8_lt (i8_a hi)) (cXI8 (i8_a hi))) rfl (ci_in c_5) dX3_takeFamily_84 (fun H locs hP _ hS => ?_)
        rw [(sXI8 (i8_a hi))] at hP
        refine lv_aload_n hx hb dX3_takeFamily_85 rfl (lv_at hl 0 rfl) ?_
        refine va_get (D := z.1) (ci := 3) (v := .ref (z.2.1 (i + 2))) (C := RX3) (T := TX3) (N := 8) hx hb hts in_X3 hown hK hP i (wl_at (told_lt hi) (cX3 hi)) rfl 7 (by decide) (hts (.fieldLink RX3 28 "TillOneOfSort$Told" "sorts" "[I") (by decide +kernel)) (fun _ h9 => h9) rfl dX3_takeFamily_86 ?_
        refine lv_aload_n hx hb dX3_takeFamily_89 rfl (lv_at hl 0 rfl) ?_
        refine va_get (D := z.1) (ci := 3) (v := .int (gI (pI σ (i + 1) (gI σ i 5).toNatClampNeg (v3 - v2)) i 5)) (C := RX3) (T := TX3) (N := 8) hx hb hts in_X3 hown hK hP i (wl_at (told_lt hi) (cX3 hi)) rfl 5 (by decide) (hts (.fieldLink RX3 34 "TillOneOfSort$Told" "families" "I") (by decide +kernel)) (fun _ h9 => h9) rfl dX3_takeFamily_90 ?_
        refine lv_iload hx hb dX3_takeFamily_93 (lv_at hl 4 rfl) ?_
        obtain ⟨c_6, hf⟩ := x_ck hf
        refine va_iast hx hb hK hP (wl_D hz _) hS (i + 2) 0 (wl_at (i8_lt (i8_b hi)) (cXI8 (i8_b hi))) rfl (ci_in c_6) dX3_takeFamily_95 (fun H locs hP _ hS => ?_)
        rw [(sXI8 (i8_b hi))] at hP
        refine lv_aload_n hx hb dX3_takeFamily_96 rfl (lv_at hl 0 rfl) ?_
        refine lv_dup hx hb dX3_takeFamily_97 rfl ?_
        refine va_get (D := z.1) (ci := 3) (v := .int (gI (pI (pI σ (i + 1) (gI σ i 5).toNatClampNeg (v3 - v2)) (i + 2) (gI (pI σ (i + 1) (gI σ i 5).toNatClampNeg (v3 - v2)) i 5).toNatClampNeg v4) i 5)) (C := RX3) (T := TX3) (N := 8) hx hb hts in_X3 hown hK hP i (wl_at (told_lt hi) (cX3 hi)) rfl 5 (by decide) (hts (.fieldLink RX3 34 "TillOneOfSort$Told" "families" "I") (by decide +kernel)) (fun _ h9 => h9) rfl dX3_takeFamily_98 ?_
        refine lv_iconst (v := (1 : Int32)) hx hb dX3_takeFamily_101 (by decide) ?_
        refine lv_iadd hx hb dX3_takeFamily_102 ?_
        refine va_put (D := z.1) (ci := 3) (v := .int ((gI (pI (pI σ (i + 1) (gI σ i 5).toNatClampNeg (v3 - v2)) (i + 2) (gI (pI σ (i + 1) (gI σ i 5).toNatClampNeg (v3 - v2)) i 5).toNatClampNeg v4) i 5) + (1 : Int32))) (ty := .int) (C := RX3) (T := TX3) (N := 8) hx hb hts in_X3 tyX3 tyX3_ok nmX3 hown hK hP (wl_D hz _) hS i (wl_at (told_lt hi) (cX3 hi)) rfl 5 (by decide) (hts (.fieldLink RX3 34 "TillOneOfSort$Told" "families" "I") (by decide +kernel)) (fun _ h9 => h9) rfl (by decide +kernel) rfl rfl (Nat.le_of_ble_eq_true rfl) dX3_takeFamily_103 (fun H locs hP _ hS => ?_)
        rw [sX3 hi (by decide)] at hP
        refine lv_iconst (v := (1 : Int32)) hx hb dX3_takeFamily_106 (by decide) ?_
        exact x_zret hx hb hr hlocks hP hS dX3_takeFamily_107 rfl (Prod.mk.inj (Option.some.inj hf)).1 (Prod.mk.inj (Option.some.inj hf)).2
      · have hf := (if_neg c_4).symm.trans hf
        refine lv_aload_n hx hb dX3_takeFamily_45 rfl (lv_at hl 1 rfl) ?_
        refine lv_iload hx hb dX3_takeFamily_46 (lv_at hl 5 rfl) ?_
        obtain ⟨q_7, hq_7, hf⟩ := x_bd hf
        refine x_callGi (va_runV (As := [.int v5]) (rest := []) ⟨hx, hb, hml, hown, hts⟩ (kX2_at l z hz hq_7) (cwV 1 hts gX3_takeFamily_X2_at rfl rfl rfl (by decide +kernel) ⟨Nat.le_of_ble_eq_true rfl, Nat.le_of_ble_eq_true rfl⟩) (pvG hK hP hE hS (va_recv hK hP (ci := 2) (q0 := 10) rfl (wl_at (by decide) cX2))) rfl rfl hl.1 rfl (lv_room (Nat.le_of_ble_eq_true rfl)) dX3_takeFamily_48 ⟨Nat.zero_le _, Nat.zero_le _⟩) hS (fun H locs hP hS => ?_)
        refine lv_bipush (v := (49 : Int32)) hx hb dX3_takeFamily_51 (by decide) ?_
        refine lv_icmp_ne (tgt := 67) hx hb dX3_takeFamily_53 (by decide) (fun c_8 => ?_) (fun c_8 => ?_)
        · have hf := (if_neg c_8).symm.trans hf
          exact j_67 v2 v3 v4 v5 σ _ _ _ hP hS (lv_sub hl [0, 1, 2, 3, 4, 5] rfl) hf
        · have hf := (if_pos c_8).symm.trans hf
          refine lv_iload hx hb dX3_takeFamily_56 (lv_at hl 4 rfl) ?_
          refine lv_iconst (v := (1 : Int32)) hx hb dX3_takeFamily_58 (by decide) ?_
          refine lv_iload hx hb dX3_takeFamily_59 (lv_at hl 5 rfl) ?_
          refine lv_iload_n hx hb dX3_takeFamily_61 rfl (lv_at hl 2 rfl) ?_
          refine lv_isub hx hb dX3_takeFamily_62 ?_
          refine lv_ishl hx hb dX3_takeFamily_63 ?_
          refine lv_ior hx hb dX3_takeFamily_64 ?_
          refine lv_istore (lv' := [(4, .int (v4 ||| ((1 : Int32) <<< ((v5 - v2) &&& 31)))), (0, .ref (z.2.1 i)), (1, .ref (z.2.1 10)), (2, .int v2), (3, .int v3), (5, .int v5)]) hx hb dX3_takeFamily_65 hl (by decide) rfl (fun ls hl => ?_)
          exact j_67 v2 v3 (v4 ||| ((1 : Int32) <<< ((v5 - v2) &&& 31))) v5 σ _ _ _ hP hS (lv_sub hl [1, 2, 3, 4, 0, 5] rfl) hf
  refine lv_aload_n hx hb dX3_takeFamily_0 rfl (lv_at hl 0 rfl) ?_
  refine va_get (D := z.1) (ci := 3) (v := .int (gI σ i 5)) (C := RX3) (T := TX3) (N := 8) hx hb hts in_X3 hown hK hP i (wl_at (told_lt hi) (cX3 hi)) rfl 5 (by decide) (hts (.fieldLink RX3 34 "TillOneOfSort$Told" "families" "I") (by decide +kernel)) (fun _ h9 => h9) rfl dX3_takeFamily_1 ?_
  refine lv_if_lt (tgt := 31) hx hb dX3_takeFamily_4 (by decide) (fun c_1001 => ?_) (fun c_1001 => ?_)
  · have hf := (if_pos c_1001).symm.trans hf
    refine lv_iconst (v := (0 : Int32)) hx hb dX3_takeFamily_31 (by decide) ?_
    exact x_zret hx hb hr hlocks hP hS dX3_takeFamily_32 rfl (Prod.mk.inj (Option.some.inj hf)).1 (Prod.mk.inj (Option.some.inj hf)).2
  · have hf := (if_neg c_1001).symm.trans hf
    refine lv_aload_n hx hb dX3_takeFamily_7 rfl (lv_at hl 0 rfl) ?_
    refine va_get (D := z.1) (ci := 3) (v := .int (gI σ i 5)) (C := RX3) (T := TX3) (N := 8) hx hb hts in_X3 hown hK hP i (wl_at (told_lt hi) (cX3 hi)) rfl 5 (by decide) (hts (.fieldLink RX3 34 "TillOneOfSort$Told" "families" "I") (by decide +kernel)) (fun _ h9 => h9) rfl dX3_takeFamily_8 ?_
    refine lv_aload_n hx hb dX3_takeFamily_11 rfl (lv_at hl 0 rfl) ?_
    refine va_get (D := z.1) (ci := 3) (v := .ref (z.2.1 (i + 1))) (C := RX3) (T := TX3) (N := 8) hx hb hts in_X3 hown hK hP i (wl_at (told_lt hi) (cX3 hi)) rfl 6 (by decide) (hts (.fieldLink RX3 24 "TillOneOfSort$Told" "lengths" "[I") (by decide +kernel)) (fun _ h9 => h9) rfl dX3_takeFamily_12 ?_
    refine va_alen (v := (8 : Int32)) hx hb hK hP (i + 1) 0 (wl_at (i8_lt (i8_a hi)) (cXI8 (i8_a hi))) rfl rfl dX3_takeFamily_15 ?_
    refine lv_icmp_ge (tgt := 31) hx hb dX3_takeFamily_16 (by decide) (fun c_1002 => ?_) (fun c_1002 => ?_)
    · have hf := (if_pos c_1002).symm.trans hf
      refine lv_iconst (v := (0 : Int32)) hx hb dX3_takeFamily_31 (by decide) ?_
      exact x_zret hx hb hr hlocks hP hS dX3_takeFamily_32 rfl (Prod.mk.inj (Option.some.inj hf)).1 (Prod.mk.inj (Option.some.inj hf)).2
    · have hf := (if_neg c_1002).symm.trans hf
      refine lv_aload_n hx hb dX3_takeFamily_19 rfl (lv_at hl 0 rfl) ?_
      refine va_get (D := z.1) (ci := 3) (v := .int (gI σ i 5)) (C := RX3) (T := TX3) (N := 8) hx hb hts in_X3 hown hK hP i (wl_at (told_lt hi) (cX3 hi)) rfl 5 (by decide) (hts (.fieldLink RX3 34 "TillOneOfSort$Told" "families" "I") (by decide +kernel)) (fun _ h9 => h9) rfl dX3_takeFamily_20 ?_
      refine lv_aload_n hx hb dX3_takeFamily_23 rfl (lv_at hl 0 rfl) ?_
      refine va_get (D := z.1) (ci := 3) (v := .ref (z.2.1 (i + 2))) (C := RX3) (T := TX3) (N := 8) hx hb hts in_X3 hown hK hP i (wl_at (told_lt hi) (cX3 hi)) rfl 7 (by decide) (hts (.fieldLink RX3 28 "TillOneOfSort$Told" "sorts" "[I") (by decide +kernel)) (fun _ h9 => h9) rfl dX3_takeFamily_24 ?_
      refine va_alen (v := (8 : Int32)) hx hb hK hP (i + 2) 0 (wl_at (i8_lt (i8_b hi)) (cXI8 (i8_b hi))) rfl rfl dX3_takeFamily_27 ?_
      refine lv_icmp_lt (tgt := 33) hx hb dX3_takeFamily_28 (by decide) (fun c_1003 => ?_) (fun c_1003 => ?_)
      · have hf := (if_pos c_1003).symm.trans hf
        refine lv_iconst (v := (0 : Int32)) hx hb dX3_takeFamily_33 (by decide) ?_
        refine lv_istore (lv' := [(4, .int (0 : Int32)), (0, .ref (z.2.1 i)), (1, .ref (z.2.1 10)), (2, .int a1), (3, .int a2)]) hx hb dX3_takeFamily_34 hl (by decide) rfl (fun ls hl => ?_)
        refine lv_iload_n hx hb dX3_takeFamily_36 rfl (lv_at hl 3 rfl) ?_
        refine lv_istore (lv' := [(5, .int a1), (4, .int (0 : Int32)), (0, .ref (z.2.1 i)), (1, .ref (z.2.1 10)), (2, .int a1), (3, .int a2)]) hx hb dX3_takeFamily_37 hl (by decide) rfl (fun ls hl => ?_)
        exact L_39 1000 a1 a2 (0 : Int32) a1 σ _ _ _ hP hS (lv_sub hl [2, 3, 4, 5, 1, 0] rfl) hf
      · have hf := (if_neg c_1003).symm.trans hf
        refine lv_iconst (v := (0 : Int32)) hx hb dX3_takeFamily_31 (by decide) ?_
        exact x_zret hx hb hr hlocks hP hS dX3_takeFamily_32 rfl (Prod.mk.inj (Option.some.inj hf)).1 (Prod.mk.inj (Option.some.inj hf)).2
set_option maxHeartbeats 40000000 in
set_option maxRecDepth 100000 in
theorem kX3_takeLaw (l : Launch) (z : Cx) (hz : okC 40 z) {i : Nat} {a0 : Int32} {a1 : Int32} (hi : isTold i = true) {σ σ' : Mm} {r : Int32} (hf : fX3_takeLaw i a0 a1 σ = some (r, σ')) : KG 40 ceX l yX3_takeLaw wsX3_takeLaw (0) (0) [.ref (z.2.1 i), .int a0, .int a1] z σ σ' (some (.int r)) := by
  rw [fX3_takeLaw] at hf
  refine Met.ofW (cc := cX3_takeLaw) (maxL := 3) (ret := (some .boolean)) (by decide) rfl ?_
  intro p e s m args below meth c s₁ B hml hv
  obtain ⟨rfl, hP, hK, hE⟩ := hv
  have hx := B.exec
  have hb := B.bytes
  have hr := B.returns
  have hts := atoms_spec (ws := wsX3_takeLaw) B.pre
  have hown : s.vm.findClass RX3 = some m.cls := findClass_of_methodNamed B.named
  have hlocks := B.notSynchronized
  have in_X3 : ∀ w ∈ wsX30, w ∈ wsX3_takeLaw := by decide +kernel
  have hS : va_S (aG 40 z) s.heap s.heap [] := va_S.rf
  have hl := lv_entry ([.ref (z.2.1 i), .int a0, .int a1]) (n := 3) (Nat.le_of_ble_eq_true rfl)
  rw [lg_entry_eq]
  generalize (lg_sl ([.ref (z.2.1 i), .int a0, .int a1]) ++ List.replicate (3 - (lg_sl ([.ref (z.2.1 i), .int a0, .int a1])).length) Slot.unset).toArray = ls at hl ⊢
  have hl : lv_has ls 3 [(0, .ref (z.2.1 i)), (1, .int a0), (2, .int a1)] := hl
  refine lv_iload_n hx hb dX3_takeLaw_0 rfl (lv_at hl 1 rfl) ?_
  refine lv_if_lt (tgt := 15) hx hb dX3_takeLaw_1 (by decide) (fun c_1001 => ?_) (fun c_1001 => ?_)
  · have hf := (if_pos c_1001).symm.trans hf
    refine lv_iconst (v := (0 : Int32)) hx hb dX3_takeLaw_15 (by decide) ?_
    exact x_zret hx hb hr hlocks hP hS dX3_takeLaw_16 rfl (Prod.mk.inj (Option.some.inj hf)).1 (Prod.mk.inj (Option.some.inj hf)).2
  · have hf := (if_neg c_1001).symm.trans hf
    refine lv_iload_n hx hb dX3_takeLaw_4 rfl (lv_at hl 2 rfl) ?_
    refine lv_iconst (v := (1 : Int32)) hx hb dX3_takeLaw_5 (by decide) ?_
    refine lv_icmp_lt (tgt := 15) hx hb dX3_takeLaw_6 (by decide) (fun c_1002 => ?_) (fun c_1002 => ?_)
    · have hf := (if_pos c_1002).symm.trans hf
      refine lv_iconst (v := (0 : Int32)) hx hb dX3_takeLaw_15 (by decide) ?_
      exact x_zret hx hb hr hlocks hP hS dX3_takeLaw_16 rfl (Prod.mk.inj (Option.some.inj hf)).1 (Prod.mk.inj (Option.some.inj hf)).2
    · have hf := (if_neg c_1002).symm.trans hf
      refine lv_iload_n hx hb dX3_takeLaw_9 rfl (lv_at hl 2 rfl) ?_
      refine lv_bipush (v := (9 : Int32)) hx hb dX3_takeLaw_10 (by decide) ?_
      refine lv_icmp_le (tgt := 17) hx hb dX3_takeLaw_12 (by decide) (fun c_1003 => ?_) (fun c_1003 => ?_)
      · have hf := (if_pos c_1003).symm.trans hf
        refine lv_aload_n hx hb dX3_takeLaw_17 rfl (lv_at hl 0 rfl) ?_
        refine lv_iload_n hx hb dX3_takeLaw_18 rfl (lv_at hl 1 rfl) ?_
        refine va_put (D := z.1) (ci := 3) (v := .int a0) (ty := .int) (C := RX3) (T := TX3) (N := 8) hx hb hts in_X3 tyX3 tyX3_ok nmX3 hown hK hP (wl_D hz _) hS i (wl_at (told_lt hi) (cX3 hi)) rfl 0 (by decide) (hts (.fieldLink RX3 9 "TillOneOfSort$Told" "kind" "I") (by decide +kernel)) (fun _ h9 => h9) rfl (by decide +kernel) rfl rfl (Nat.le_of_ble_eq_true rfl) dX3_takeLaw_19 (fun H locs hP _ hS => ?_)
        rw [sX3 hi (by decide)] at hP
        refine lv_aload_n hx hb dX3_takeLaw_22 rfl (lv_at hl 0 rfl) ?_
        refine lv_iload_n hx hb dX3_takeLaw_23 rfl (lv_at hl 2 rfl) ?_
        refine va_put (D := z.1) (ci := 3) (v := .int a1) (ty := .int) (C := RX3) (T := TX3) (N := 8) hx hb hts in_X3 tyX3 tyX3_ok nmX3 hown hK hP (wl_D hz _) hS i (wl_at (told_lt hi) (cX3 hi)) rfl 1 (by decide) (hts (.fieldLink RX3 15 "TillOneOfSort$Told" "figure" "I") (by decide +kernel)) (fun _ h9 => h9) rfl (by decide +kernel) rfl rfl (Nat.le_of_ble_eq_true rfl) dX3_takeLaw_24 (fun H locs hP _ hS => ?_)
        rw [sX3 hi (by decide)] at hP
        refine lv_iconst (v := (1 : Int32)) hx hb dX3_takeLaw_27 (by decide) ?_
        exact x_zret hx hb hr hlocks hP hS dX3_takeLaw_28 rfl (Prod.mk.inj (Option.some.inj hf)).1 (Prod.mk.inj (Option.some.inj hf)).2
      · have hf := (if_neg c_1003).symm.trans hf
        refine lv_iconst (v := (0 : Int32)) hx hb dX3_takeLaw_15 (by decide) ?_
        exact x_zret hx hb hr hlocks hP hS dX3_takeLaw_16 rfl (Prod.mk.inj (Option.some.inj hf)).1 (Prod.mk.inj (Option.some.inj hf)).2
set_option maxHeartbeats 40000000 in
set_option maxRecDepth 100000 in
theorem kX3_take (l : Launch) (z : Cx) (hz : okC 40 z) {i : Nat} {a1 : Int32} {a2 : Int32} (hi : isTold i = true) {σ σ' : Mm} {r : Int32} (hf : fX3_take i a1 a2 σ = some (r, σ')) : KG 40 ceX l yX3_take wsX3_take (2) (46) [.ref (z.2.1 i), .ref (z.2.1 10), .int a1, .int a2] z σ σ' (some (.int r)) := by
  rw [fX3_take] at hf
  refine Met.ofW (cc := cX3_take) (maxL := 7) (ret := (some .boolean)) (by decide) rfl ?_
  intro p e s m args below meth c s₁ B hml hv
  obtain ⟨rfl, hP, hK, hE⟩ := hv
  have hx := B.exec
  have hb := B.bytes
  have hr := B.returns
  have hts := atoms_spec (ws := wsX3_take) B.pre
  have hown : s.vm.findClass RX3 = some m.cls := findClass_of_methodNamed B.named
  have hlocks := B.notSynchronized
  have hS : va_S (aG 40 z) s.heap s.heap [] := va_S.rf
  have hl := lv_entry ([.ref (z.2.1 i), .ref (z.2.1 10), .int a1, .int a2]) (n := 7) (Nat.le_of_ble_eq_true rfl)
  rw [lg_entry_eq]
  generalize (lg_sl ([.ref (z.2.1 i), .ref (z.2.1 10), .int a1, .int a2]) ++ List.replicate (7 - (lg_sl ([.ref (z.2.1 i), .ref (z.2.1 10), .int a1, .int a2])).length) Slot.unset).toArray = ls at hl ⊢
  have hl : lv_has ls 7 [(0, .ref (z.2.1 i)), (1, .ref (z.2.1 10)), (2, .int a1), (3, .int a2)] := hl
  have j_154 : ∀ (t0 : Int32) (σ : Mm) (H : Heap) (locs : List Loc) (ls : Array Slot), va_P z.1 vwCl (wl 40 z.2.1 (ceX z σ)) H → va_S (aG 40 z) s.heap H locs → lv_has ls 7 [(0, .ref (z.2.1 i))] → fX3_take_154 i t0 σ = some (r, σ') → W p l e (headSpec wsX3_take ({ frames := 2, cells := 0, slots := 0, locals := 46 })).room s m ([.ref (z.2.1 i), .ref (z.2.1 10), .int a1, .int a2] : List Value).toArray below meth c H locs 0 0 (MQ below (qcG 40 ceX z σ' (some (.int r))) ([.ref (z.2.1 i), .ref (z.2.1 10), .int a1, .int a2] : List Value).toArray s 0 0 (aG 40 z)) (F0 m 154 ls [.int t0]) := by
    intro t0 σ H locs ls hP hS hl hf
    rw [fX3_take_154] at hf
    refine lv_istore (lv' := [(6, .int t0), (0, .ref (z.2.1 i))]) hx hb dX3_take_154 hl (by decide) rfl (fun ls hl => ?_)
    refine lv_aload_n hx hb dX3_take_156 rfl (lv_at hl 1 rfl) ?_
    refine lv_iconst (v := (2 : Int32)) hx hb dX3_take_157 (by decide) ?_
    refine lv_iconst (v := (5 : Int32)) hx hb dX3_take_158 (by decide) ?_
    refine lv_iload hx hb dX3_take_159 (lv_at hl 0 rfl) ?_
    refine lv_iadd hx hb dX3_take_161 ?_
    obtain ⟨q_22, hq_22, hf⟩ := x_bd hf
    refine x_callGi (va_runV (As := [.int (2 : Int32), .int ((5 : Int32) + t0)]) (rest := []) ⟨hx, hb, hml, hown, hts⟩ (kX3_tellNumber l z hz hi hq_22) (cwV 2 hts gX3_take_X3_tellNumber rfl rfl rfl (by decide +kernel) ⟨Nat.le_of_ble_eq_true rfl, Nat.le_of_ble_eq_true rfl⟩) (pvG hK hP hE hS (va_recv hK hP (ci := 3) (q0 := i) rfl (wl_at (told_lt hi) (cX3 hi)))) rfl rfl hl.1 rfl (lv_room (Nat.le_of_ble_eq_true rfl)) dX3_take_162 ⟨Nat.zero_le _, Nat.zero_le _⟩) hS (fun H locs hP hS => ?_)
    obtain ⟨c_23, hf⟩ := x_ck hf
    exact x_zret hx hb hr hlocks hP hS dX3_take_165 (x_nb c_23) (Prod.mk.inj (Option.some.inj hf)).1 (Prod.mk.inj (Option.some.inj hf)).2
  refine lv_iload_n hx hb dX3_take_0 rfl (lv_at hl 3 rfl) ?_
  refine lv_iconst (v := (1 : Int32)) hx hb dX3_take_1 (by decide) ?_
  refine lv_isub hx hb dX3_take_2 ?_
  refine lv_istore (lv' := [(4, .int (a2 - (1 : Int32))), (0, .ref (z.2.1 i)), (1, .ref (z.2.1 10)), (2, .int a1), (3, .int a2)]) hx hb dX3_take_3 hl (by decide) rfl (fun ls hl => ?_)
  refine lv_aload_n hx hb dX3_take_5 rfl (lv_at hl 2 rfl) ?_
  refine lv_iload_n hx hb dX3_take_6 rfl (lv_at hl 3 rfl) ?_
  obtain ⟨q_1001, hq_1001, hf⟩ := x_bd hf
  refine x_callGi (va_runV (As := [.int a1]) (rest := []) ⟨hx, hb, hml, hown, hts⟩ (kX2_at l z hz hq_1001) (cwV 1 hts gX3_take_X2_at rfl rfl rfl (by decide +kernel) ⟨Nat.le_of_ble_eq_true rfl, Nat.le_of_ble_eq_true rfl⟩) (pvG hK hP hE hS (va_recv hK hP (ci := 2) (q0 := 10) rfl (wl_at (by decide) cX2))) rfl rfl hl.1 rfl (lv_room (Nat.le_of_ble_eq_true rfl)) dX3_take_7 ⟨Nat.zero_le _, Nat.zero_le _⟩) hS (fun H locs hP hS => ?_)
  by_cases c_1002 : q_1001 = (99 : Int32)
  · have hf := (if_pos c_1002).symm.trans hf
    refine lv_tableIn (off := 98) (tgt := 108) hx hb dX3_take_10 (by rw [c_1002]; decide) (by rw [c_1002]; decide) (by rw [c_1002]; rfl) (by decide) ?_
    refine lv_aload_n hx hb dX3_take_108 rfl (lv_at hl 1 rfl) ?_
    refine lv_iconst (v := (1 : Int32)) hx hb dX3_take_109 (by decide) ?_
    refine lv_aload_n hx hb dX3_take_110 rfl (lv_at hl 2 rfl) ?_
    refine lv_iload_n hx hb dX3_take_111 rfl (lv_at hl 3 rfl) ?_
    refine lv_iconst (v := (1 : Int32)) hx hb dX3_take_112 (by decide) ?_
    refine lv_iadd hx hb dX3_take_113 ?_
    refine lv_iload hx hb dX3_take_114 (lv_at hl 0 rfl) ?_
    obtain ⟨q_1019, hq_1019, hf⟩ := x_bd hf
    refine x_callGi (va_runV (As := [.int (a1 + (1 : Int32)), .int (a2 - (1 : Int32))]) (rest := [.int (1 : Int32), .ref (z.2.1 i)]) ⟨hx, hb, hml, hown, hts⟩ (kX2_numberAt l z hz hq_1019) (cwV 2 hts gX3_take_X2_numberAt rfl rfl rfl (by decide +kernel) ⟨Nat.le_of_ble_eq_true rfl, Nat.le_of_ble_eq_true rfl⟩) (pvG hK hP hE hS (va_recv hK hP (ci := 2) (q0 := 10) rfl (wl_at (by decide) cX2))) rfl rfl hl.1 rfl (lv_room (Nat.le_of_ble_eq_true rfl)) dX3_take_116 ⟨Nat.zero_le _, Nat.zero_le _⟩) hS (fun H locs hP hS => ?_)
    obtain ⟨q_1020, hq_1020, hf⟩ := x_bd hf
    refine x_callGi (va_runV (As := [.int (1 : Int32), .int q_1019]) (rest := []) ⟨hx, hb, hml, hown, hts⟩ (kX3_tellNumber l z hz hi hq_1020) (cwV 2 hts gX3_take_X3_tellNumber rfl rfl rfl (by decide +kernel) ⟨Nat.le_of_ble_eq_true rfl, Nat.le_of_ble_eq_true rfl⟩) (pvG hK hP hE hS (va_recv hK hP (ci := 3) (q0 := i) rfl (wl_at (told_lt hi) (cX3 hi)))) rfl rfl hl.1 rfl (lv_room (Nat.le_of_ble_eq_true rfl)) dX3_take_119 ⟨Nat.zero_le _, Nat.zero_le _⟩) hS (fun H locs hP hS => ?_)
    obtain ⟨c_1021, hf⟩ := x_ck hf
    exact x_zret hx hb hr hlocks hP hS dX3_take_122 (x_nb c_1021) (Prod.mk.inj (Option.some.inj hf)).1 (Prod.mk.inj (Option.some.inj hf)).2
  · have hf := (if_neg c_1002).symm.trans hf
    by_cases c_1003 : q_1001 = (102 : Int32)
    · have hf := (if_pos c_1003).symm.trans hf
      refine lv_tableIn (off := 156) (tgt := 166) hx hb dX3_take_10 (by rw [c_1003]; decide) (by rw [c_1003]; decide) (by rw [c_1003]; rfl) (by decide) ?_
      refine lv_aload_n hx hb dX3_take_166 rfl (lv_at hl 1 rfl) ?_
      refine lv_aload_n hx hb dX3_take_167 rfl (lv_at hl 2 rfl) ?_
      refine lv_iload_n hx hb dX3_take_168 rfl (lv_at hl 3 rfl) ?_
      refine lv_iconst (v := (1 : Int32)) hx hb dX3_take_169 (by decide) ?_
      refine lv_iadd hx hb dX3_take_170 ?_
      refine lv_iload hx hb dX3_take_171 (lv_at hl 0 rfl) ?_
      obtain ⟨q_1017, hq_1017, hf⟩ := x_bd hf
      refine x_callGi (va_runV (As := [.ref (z.2.1 10), .int (a1 + (1 : Int32)), .int (a2 - (1 : Int32))]) (rest := []) ⟨hx, hb, hml, hown, hts⟩ (kX3_takeFamily l z hz hi hq_1017) (cwV 3 hts gX3_take_X3_takeFamily rfl rfl rfl (by decide +kernel) ⟨Nat.le_of_ble_eq_true rfl, Nat.le_of_ble_eq_true rfl⟩) (pvG hK hP hE hS (va_recv hK hP (ci := 3) (q0 := i) rfl (wl_at (told_lt hi) (cX3 hi)))) rfl rfl hl.1 rfl (lv_room (Nat.le_of_ble_eq_true rfl)) dX3_take_173 ⟨Nat.zero_le _, Nat.zero_le _⟩) hS (fun H locs hP hS => ?_)
      obtain ⟨c_1018, hf⟩ := x_ck hf
      exact x_zret hx hb hr hlocks hP hS dX3_take_176 (x_nb c_1018) (Prod.mk.inj (Option.some.inj hf)).1 (Prod.mk.inj (Option.some.inj hf)).2
    · have hf := (if_neg c_1003).symm.trans hf
      by_cases c_1004 : q_1001 = (108 : Int32)
      · have hf := (if_pos c_1004).symm.trans hf
        refine lv_tableIn (off := 62) (tgt := 72) hx hb dX3_take_10 (by rw [c_1004]; decide) (by rw [c_1004]; decide) (by rw [c_1004]; rfl) (by decide) ?_
        refine lv_aload_n hx hb dX3_take_72 rfl (lv_at hl 1 rfl) ?_
        refine lv_aload_n hx hb dX3_take_73 rfl (lv_at hl 2 rfl) ?_
        refine lv_iload_n hx hb dX3_take_74 rfl (lv_at hl 3 rfl) ?_
        refine lv_iconst (v := (1 : Int32)) hx hb dX3_take_75 (by decide) ?_
        refine lv_iadd hx hb dX3_take_76 ?_
        obtain ⟨q_1013, hq_1013, hf⟩ := x_bd hf
        refine x_callGi (va_runV (As := [.int (a1 + (1 : Int32))]) (rest := [.ref (z.2.1 i)]) ⟨hx, hb, hml, hown, hts⟩ (kX2_kindAt l z hz hq_1013) (cwV 1 hts gX3_take_X2_kindAt rfl rfl rfl (by decide +kernel) ⟨Nat.le_of_ble_eq_true rfl, Nat.le_of_ble_eq_true rfl⟩) (pvG hK hP hE hS (va_recv hK hP (ci := 2) (q0 := 10) rfl (wl_at (by decide) cX2))) rfl rfl hl.1 rfl (lv_room (Nat.le_of_ble_eq_true rfl)) dX3_take_77 ⟨Nat.zero_le _, Nat.zero_le _⟩) hS (fun H locs hP hS => ?_)
        refine lv_aload_n hx hb dX3_take_80 rfl (lv_at hl 2 rfl) ?_
        refine lv_iload_n hx hb dX3_take_81 rfl (lv_at hl 3 rfl) ?_
        refine lv_iconst (v := (2 : Int32)) hx hb dX3_take_82 (by decide) ?_
        refine lv_iadd hx hb dX3_take_83 ?_
        refine lv_iload hx hb dX3_take_84 (lv_at hl 0 rfl) ?_
        obtain ⟨q_1014, hq_1014, hf⟩ := x_bd hf
        refine x_callGi (va_runV (As := [.int (a1 + (2 : Int32)), .int (a2 - (1 : Int32))]) (rest := [.int q_1013, .ref (z.2.1 i)]) ⟨hx, hb, hml, hown, hts⟩ (kX2_numberAt l z hz hq_1014) (cwV 2 hts gX3_take_X2_numberAt rfl rfl rfl (by decide +kernel) ⟨Nat.le_of_ble_eq_true rfl, Nat.le_of_ble_eq_true rfl⟩) (pvG hK hP hE hS (va_recv hK hP (ci := 2) (q0 := 10) rfl (wl_at (by decide) cX2))) rfl rfl hl.1 rfl (lv_room (Nat.le_of_ble_eq_true rfl)) dX3_take_86 ⟨Nat.zero_le _, Nat.zero_le _⟩) hS (fun H locs hP hS => ?_)
        obtain ⟨q_1015, hq_1015, hf⟩ := x_bd hf
        refine x_callGi (va_runV (As := [.int q_1013, .int q_1014]) (rest := []) ⟨hx, hb, hml, hown, hts⟩ (kX3_takeLaw l z hz hi hq_1015) (cwV 2 hts gX3_take_X3_takeLaw rfl rfl rfl (by decide +kernel) ⟨Nat.le_of_ble_eq_true rfl, Nat.le_of_ble_eq_true rfl⟩) (pvG hK hP hE hS (va_recv hK hP (ci := 3) (q0 := i) rfl (wl_at (told_lt hi) (cX3 hi)))) rfl rfl hl.1 rfl (lv_room (Nat.le_of_ble_eq_true rfl)) dX3_take_89 ⟨Nat.zero_le _, Nat.zero_le _⟩) hS (fun H locs hP hS => ?_)
        obtain ⟨c_1016, hf⟩ := x_ck hf
        exact x_zret hx hb hr hlocks hP hS dX3_take_92 (x_nb c_1016) (Prod.mk.inj (Option.some.inj hf)).1 (Prod.mk.inj (Option.some.inj hf)).2
      · have hf := (if_neg c_1004).symm.trans hf
        by_cases c_1005 : q_1001 = (109 : Int32)
        · have hf := (if_pos c_1005).symm.trans hf
          refine lv_tableIn (off := 83) (tgt := 93) hx hb dX3_take_10 (by rw [c_1005]; decide) (by rw [c_1005]; decide) (by rw [c_1005]; rfl) (by decide) ?_
          refine lv_aload_n hx hb dX3_take_93 rfl (lv_at hl 1 rfl) ?_
          refine lv_iconst (v := (0 : Int32)) hx hb dX3_take_94 (by decide) ?_
          refine lv_aload_n hx hb dX3_take_95 rfl (lv_at hl 2 rfl) ?_
          refine lv_iload_n hx hb dX3_take_96 rfl (lv_at hl 3 rfl) ?_
          refine lv_iconst (v := (1 : Int32)) hx hb dX3_take_97 (by decide) ?_
          refine lv_iadd hx hb dX3_take_98 ?_
          refine lv_iload hx hb dX3_take_99 (lv_at hl 0 rfl) ?_
          obtain ⟨q_1010, hq_1010, hf⟩ := x_bd hf
          refine x_callGi (va_runV (As := [.int (a1 + (1 : Int32)), .int (a2 - (1 : Int32))]) (rest := [.int (0 : Int32), .ref (z.2.1 i)]) ⟨hx, hb, hml, hown, hts⟩ (kX2_numberAt l z hz hq_1010) (cwV 2 hts gX3_take_X2_numberAt rfl rfl rfl (by decide +kernel) ⟨Nat.le_of_ble_eq_true rfl, Nat.le_of_ble_eq_true rfl⟩) (pvG hK hP hE hS (va_recv hK hP (ci := 2) (q0 := 10) rfl (wl_at (by decide) cX2))) rfl rfl hl.1 rfl (lv_room (Nat.le_of_ble_eq_true rfl)) dX3_take_101 ⟨Nat.zero_le _, Nat.zero_le _⟩) hS (fun H locs hP hS => ?_)
          obtain ⟨q_1011, hq_1011, hf⟩ := x_bd hf
          refine x_callGi (va_runV (As := [.int (0 : Int32), .int q_1010]) (rest := []) ⟨hx, hb, hml, hown, hts⟩ (kX3_tellNumber l z hz hi hq_1011) (cwV 2 hts gX3_take_X3_tellNumber rfl rfl rfl (by decide +kernel) ⟨Nat.le_of_ble_eq_true rfl, Nat.le_of_ble_eq_true rfl⟩) (pvG hK hP hE hS (va_recv hK hP (ci := 3) (q0 := i) rfl (wl_at (told_lt hi) (cX3 hi)))) rfl rfl hl.1 rfl (lv_room (Nat.le_of_ble_eq_true rfl)) dX3_take_104 ⟨Nat.zero_le _, Nat.zero_le _⟩) hS (fun H locs hP hS => ?_)
          obtain ⟨c_1012, hf⟩ := x_ck hf
          exact x_zret hx hb hr hlocks hP hS dX3_take_107 (x_nb c_1012) (Prod.mk.inj (Option.some.inj hf)).1 (Prod.mk.inj (Option.some.inj hf)).2
        · have hf := (if_neg c_1005).symm.trans hf
          by_cases c_1006 : q_1001 = (110 : Int32)
          · have hf := (if_pos c_1006).symm.trans hf
            refine lv_tableIn (off := 113) (tgt := 123) hx hb dX3_take_10 (by rw [c_1006]; decide) (by rw [c_1006]; decide) (by rw [c_1006]; rfl) (by decide) ?_
            refine lv_aload_n hx hb dX3_take_123 rfl (lv_at hl 2 rfl) ?_
            refine lv_iload_n hx hb dX3_take_124 rfl (lv_at hl 3 rfl) ?_
            refine lv_iconst (v := (2 : Int32)) hx hb dX3_take_125 (by decide) ?_
            refine lv_iadd hx hb dX3_take_126 ?_
            refine lv_iload hx hb dX3_take_127 (lv_at hl 0 rfl) ?_
            obtain ⟨q_1007, hq_1007, hf⟩ := x_bd hf
            refine x_callGi (va_runV (As := [.int (a1 + (2 : Int32)), .int (a2 - (1 : Int32))]) (rest := []) ⟨hx, hb, hml, hown, hts⟩ (kX2_numberAt l z hz hq_1007) (cwV 2 hts gX3_take_X2_numberAt rfl rfl rfl (by decide +kernel) ⟨Nat.le_of_ble_eq_true rfl, Nat.le_of_ble_eq_true rfl⟩) (pvG hK hP hE hS (va_recv hK hP (ci := 2) (q0 := 10) rfl (wl_at (by decide) cX2))) rfl rfl hl.1 rfl (lv_room (Nat.le_of_ble_eq_true rfl)) dX3_take_129 ⟨Nat.zero_le _, Nat.zero_le _⟩) hS (fun H locs hP hS => ?_)
            refine lv_istore (lv' := [(5, .int q_1007), (4, .int (a2 - (1 : Int32))), (0, .ref (z.2.1 i)), (1, .ref (z.2.1 10)), (2, .int a1), (3, .int a2)]) hx hb dX3_take_132 hl (by decide) rfl (fun ls hl => ?_)
            refine lv_aload_n hx hb dX3_take_134 rfl (lv_at hl 3 rfl) ?_
            refine lv_iload_n hx hb dX3_take_135 rfl (lv_at hl 4 rfl) ?_
            refine lv_iconst (v := (1 : Int32)) hx hb dX3_take_136 (by decide) ?_
            refine lv_iadd hx hb dX3_take_137 ?_
            obtain ⟨q_1008, hq_1008, hf⟩ := x_bd hf
            refine x_callGi (va_runV (As := [.int (a1 + (1 : Int32))]) (rest := []) ⟨hx, hb, hml, hown, hts⟩ (kX2_at l z hz hq_1008) (cwV 1 hts gX3_take_X2_at rfl rfl rfl (by decide +kernel) ⟨Nat.le_of_ble_eq_true rfl, Nat.le_of_ble_eq_true rfl⟩) (pvG hK hP hE hS (va_recv hK hP (ci := 2) (q0 := 10) rfl (wl_at (by decide) cX2))) rfl rfl hl.1 rfl (lv_room (Nat.le_of_ble_eq_true rfl)) dX3_take_138 ⟨Nat.zero_le _, Nat.zero_le _⟩) hS (fun H locs hP hS => ?_)
            refine lv_bipush (v := (45 : Int32)) hx hb dX3_take_141 (by decide) ?_
            refine lv_icmp_ne (tgt := 152) hx hb dX3_take_143 (by decide) (fun c_1009 => ?_) (fun c_1009 => ?_)
            · have hf := (if_neg c_1009).symm.trans hf
              refine lv_iload hx hb dX3_take_152 (lv_at hl 0 rfl) ?_
              exact j_154 q_1007 σ _ _ _ hP hS (lv_sub hl [2] rfl) hf
            · have hf := (if_pos c_1009).symm.trans hf
              refine lv_iload hx hb dX3_take_146 (lv_at hl 0 rfl) ?_
              refine lv_ineg hx hb dX3_take_148 ?_
              refine lv_goto (tgt := 154) hx hb dX3_take_149 (by decide) ?_
              exact j_154 (-q_1007) σ _ _ _ hP hS (lv_sub hl [2] rfl) hf
          · have hf := (if_neg c_1006).symm.trans hf
            refine x_tableD (tgt := 177) hx hb dX3_take_10 (fun k h1 h2 => ?_) (by decide) ?_
            · rcases (show k = 99 ∨ k = 100 ∨ k = 101 ∨ k = 102 ∨ k = 103 ∨ k = 104 ∨ k = 105 ∨ k = 106 ∨ k = 107 ∨ k = 108 ∨ k = 109 ∨ k = 110 by omega) with rfl | rfl | rfl | rfl | rfl | rfl | rfl | rfl | rfl | rfl | rfl | rfl
              · exact Or.inl (x_ne c_1002 (by decide))
              · exact Or.inr rfl
              · exact Or.inr rfl
              · exact Or.inl (x_ne c_1003 (by decide))
              · exact Or.inr rfl
              · exact Or.inr rfl
              · exact Or.inr rfl
              · exact Or.inr rfl
              · exact Or.inr rfl
              · exact Or.inl (x_ne c_1004 (by decide))
              · exact Or.inl (x_ne c_1005 (by decide))
              · exact Or.inl (x_ne c_1006 (by decide))
            · refine lv_iconst (v := (0 : Int32)) hx hb dX3_take_177 (by decide) ?_
              exact x_zret hx hb hr hlocks hP hS dX3_take_178 rfl (Prod.mk.inj (Option.some.inj hf)).1 (Prod.mk.inj (Option.some.inj hf)).2
set_option maxHeartbeats 40000000 in
set_option maxRecDepth 100000 in
theorem kX3_stopPlace (l : Launch) (z : Cx) (hz : okC 40 z) {i : Nat} {a0 : Int32} {a1 : Int32} {a2 : Int32} (hi : isTold i = true) {σ : Mm} {r : Int32} (hf : fX3_stopPlace i a0 a1 a2 σ = some r) : KG 40 ceX l yX3_stopPlace wsX3_stopPlace (1) (24) [.ref (z.2.1 i), .int a0, .int a1, .int a2] z σ σ (some (.int r)) := by
  rw [fX3_stopPlace] at hf
  refine Met.ofW (cc := cX3_stopPlace) (maxL := 8) (ret := (some .int)) (by decide) rfl ?_
  intro p e s m args below meth c s₁ B hml hv
  obtain ⟨rfl, hP, hK, hE⟩ := hv
  have hx := B.exec
  have hb := B.bytes
  have hr := B.returns
  have hts := atoms_spec (ws := wsX3_stopPlace) B.pre
  have hown : s.vm.findClass RX3 = some m.cls := findClass_of_methodNamed B.named
  have hlocks := B.notSynchronized
  have in_X3 : ∀ w ∈ wsX30, w ∈ wsX3_stopPlace := by decide +kernel
  have hS : va_S (aG 40 z) s.heap s.heap [] := va_S.rf
  have hl := lv_entry ([.ref (z.2.1 i), .int a0, .int a1, .int a2]) (n := 8) (Nat.le_of_ble_eq_true rfl)
  rw [lg_entry_eq]
  generalize (lg_sl ([.ref (z.2.1 i), .int a0, .int a1, .int a2]) ++ List.replicate (8 - (lg_sl ([.ref (z.2.1 i), .int a0, .int a1, .int a2])).length) Slot.unset).toArray = ls at hl ⊢
  have hl : lv_has ls 8 [(0, .ref (z.2.1 i)), (1, .int a0), (2, .int a1), (3, .int a2)] := hl
  have L_9 : ∀ (n_9 : Nat) (v1 : Int32) (v2 : Int32) (v3 : Int32) (v4 : Int32) (v5 : Int32) (v6 : Int32) (H : Heap) (locs : List Loc) (ls : Array Slot), va_P z.1 vwCl (wl 40 z.2.1 (ceX z σ)) H → va_S (aG 40 z) s.heap H locs → lv_has ls 8 [(0, .ref (z.2.1 i)), (1, .int v1), (2, .int v2), (3, .int v3), (4, .int v4), (5, .int v5), (6, .int v6)] → fX3_stopPlace_9 i σ n_9 v1 v2 v3 v4 v5 v6 = some r → W p l e (headSpec wsX3_stopPlace ({ frames := 1, cells := 0, slots := 0, locals := 24 })).room s m ([.ref (z.2.1 i), .int a0, .int a1, .int a2] : List Value).toArray below meth c H locs 0 0 (MQ below (qcG 40 ceX z σ (some (.int r))) ([.ref (z.2.1 i), .int a0, .int a1, .int a2] : List Value).toArray s 0 0 (aG 40 z)) (F0 m 9 ls []) := by
    intro n_9
    induction n_9 with
    | zero =>
      intro v1 v2 v3 v4 v5 v6 H locs ls hP hS hl hf
      rw [fX3_stopPlace_9] at hf
      cases hf
    | succ n_9 ih_9 =>
      have j_60 : ∀ (v1 : Int32) (v2 : Int32) (v3 : Int32) (v4 : Int32) (v6 : Int32) (t0 : Int32) (H : Heap) (locs : List Loc) (ls : Array Slot), va_P z.1 vwCl (wl 40 z.2.1 (ceX z σ)) H → va_S (aG 40 z) s.heap H locs → lv_has ls 8 [(0, .ref (z.2.1 i)), (1, .int v1), (2, .int v2), (3, .int v3), (4, .int v4), (6, .int v6)] → fX3_stopPlace_60 i σ (fun wv1 wv2 wv3 wv4 wv5 wv6 => fX3_stopPlace_9 i σ n_9 wv1 wv2 wv3 wv4 wv5 wv6) v1 v2 v3 v4 v6 t0 = some r → W p l e (headSpec wsX3_stopPlace ({ frames := 1, cells := 0, slots := 0, locals := 24 })).room s m ([.ref (z.2.1 i), .int a0, .int a1, .int a2] : List Value).toArray below meth c H locs 0 0 (MQ below (qcG 40 ceX z σ (some (.int r))) ([.ref (z.2.1 i), .int a0, .int a1, .int a2] : List Value).toArray s 0 0 (aG 40 z)) (F0 m 60 ls [.int t0]) := by
        intro v1 v2 v3 v4 v6 t0 H locs ls hP hS hl hf
        rw [fX3_stopPlace_60] at hf
        refine lv_istore (lv' := [(5, .int t0), (0, .ref (z.2.1 i)), (1, .int v1), (2, .int v2), (3, .int v3), (4, .int v4), (6, .int v6)]) hx hb dX3_stopPlace_60 hl (by decide) rfl (fun ls hl => ?_)
        refine lv_iload hx hb dX3_stopPlace_62 (lv_at hl 6 rfl) ?_
        refine lv_iconst (v := (1 : Int32)) hx hb dX3_stopPlace_64 (by decide) ?_
        refine lv_iadd hx hb dX3_stopPlace_65 ?_
        refine lv_aload_n hx hb dX3_stopPlace_66 rfl (lv_at hl 1 rfl) ?_
        refine va_get (D := z.1) (ci := 3) (v := .int (gI σ i 2)) (C := RX3) (T := TX3) (N := 8) hx hb hts in_X3 hown hK hP i (wl_at (told_lt hi) (cX3 hi)) rfl 2 (by decide) (hts (.fieldLink RX3 18 "TillOneOfSort$Told" "most" "I") (by decide +kernel)) (fun _ h9 => h9) rfl dX3_stopPlace_67 ?_
        refine lv_icmp_ge (tgt := 95) hx hb dX3_stopPlace_70 (by decide) (fun c_3 => ?_) (fun c_3 => ?_)
        · have hf := (if_pos c_3).symm.trans hf
          refine lv_iload hx hb dX3_stopPlace_95 (lv_at hl 6 rfl) ?_
          exact x_iret hx hb hr hlocks hP hS dX3_stopPlace_97 (Option.some.inj hf) rfl
        · have hf := (if_neg c_3).symm.trans hf
          refine lv_iload_n hx hb dX3_stopPlace_73 rfl (lv_at hl 2 rfl) ?_
          refine lv_aload_n hx hb dX3_stopPlace_74 rfl (lv_at hl 1 rfl) ?_
          refine va_get (D := z.1) (ci := 3) (v := .int (gI σ i 1)) (C := RX3) (T := TX3) (N := 8) hx hb hts in_X3 hown hK hP i (wl_at (told_lt hi) (cX3 hi)) rfl 1 (by decide) (hts (.fieldLink RX3 15 "TillOneOfSort$Told" "figure" "I") (by decide +kernel)) (fun _ h9 => h9) rfl dX3_stopPlace_75 ?_
          refine lv_iload hx hb dX3_stopPlace_78 (lv_at hl 5 rfl) ?_
          refine lv_iload hx hb dX3_stopPlace_80 (lv_at hl 6 rfl) ?_
          refine lv_iconst (v := (1 : Int32)) hx hb dX3_stopPlace_82 (by decide) ?_
          refine lv_iadd hx hb dX3_stopPlace_83 ?_
          refine lv_iload hx hb dX3_stopPlace_84 (lv_at hl 5 rfl) ?_
          refine lv_isub hx hb dX3_stopPlace_86 ?_
          refine lv_iload hx hb dX3_stopPlace_87 (lv_at hl 0 rfl) ?_
          obtain ⟨q_4, hq_4, hf⟩ := x_bd hf
          refine x_callSi (va_runSN (As := [.int v1, .int (gI σ i 1), .int v4, .int ((v6 + (1 : Int32)) - v4), .int t0]) (rest := []) ⟨hx, hb, hml, hown, hts⟩ (kX5_lawStops l hq_4) ⟨va_cnB 5 hts gX3_stopPlace_X5_lawStops_n73 rfl rfl rfl (hE.1 _ (List.mem_of_getElem? (i := 12) rfl)) (hts (.initialized RX5) (by decide +kernel)) (by decide +kernel) ⟨Nat.le_of_ble_eq_true rfl, Nat.le_of_ble_eq_true rfl⟩, hts (.static yX5_lawStops) (by decide +kernel), trivial⟩ psS rfl rfl hl.1 rfl (lv_room (Nat.le_of_ble_eq_true rfl)) dX3_stopPlace_89 ⟨Nat.zero_le _, Nat.zero_le _⟩) ?_
          refine lv_if_eq (tgt := 98) hx hb dX3_stopPlace_92 (by decide) (fun c_5 => ?_) (fun c_5 => ?_)
          · have hf := (if_pos c_5).symm.trans hf
            refine lv_iinc (v := (v6 + (1 : Int32))) (lv' := [(6, .int (v6 + (1 : Int32))), (5, .int t0), (0, .ref (z.2.1 i)), (1, .int v1), (2, .int v2), (3, .int v3), (4, .int v4)]) hx hb dX3_stopPlace_98 hl (k := 6) rfl rfl (by decide) rfl (fun ls hl => ?_)
            refine lv_goto (tgt := 9) hx hb dX3_stopPlace_101 (by decide) ?_
            exact ih_9 v1 v2 v3 v4 t0 (v6 + (1 : Int32)) _ _ _ hP hS (lv_sub hl [2, 3, 4, 5, 6, 1, 0] rfl) hf
          · have hf := (if_neg c_5).symm.trans hf
            refine lv_iload hx hb dX3_stopPlace_95 (lv_at hl 6 rfl) ?_
            exact x_iret hx hb hr hlocks hP hS dX3_stopPlace_97 (Option.some.inj hf) rfl
      have j_44 : ∀ (v1 : Int32) (v2 : Int32) (v3 : Int32) (v5 : Int32) (v6 : Int32) (v7 : Int32) (t0 : Int32) (t1 : Int32) (H : Heap) (locs : List Loc) (ls : Array Slot), va_P z.1 vwCl (wl 40 z.2.1 (ceX z σ)) H → va_S (aG 40 z) s.heap H locs → lv_has ls 8 [(0, .ref (z.2.1 i)), (1, .int v1), (2, .int v2), (3, .int v3), (5, .int v5), (6, .int v6), (7, .int v7)] → fX3_stopPlace_44 i σ (fun wv1 wv2 wv3 wv4 wv5 wv6 => fX3_stopPlace_9 i σ n_9 wv1 wv2 wv3 wv4 wv5 wv6) v1 v2 v3 v5 v6 v7 t0 t1 = some r → W p l e (headSpec wsX3_stopPlace ({ frames := 1, cells := 0, slots := 0, locals := 24 })).room s m ([.ref (z.2.1 i), .int a0, .int a1, .int a2] : List Value).toArray below meth c H locs 0 0 (MQ below (qcG 40 ceX z σ (some (.int r))) ([.ref (z.2.1 i), .int a0, .int a1, .int a2] : List Value).toArray s 0 0 (aG 40 z)) (F0 m 44 ls [.int t0, .int t1]) := by
        intro v1 v2 v3 v5 v6 v7 t0 t1 H locs ls hP hS hl hf
        rw [fX3_stopPlace_44] at hf
        refine lv_iadd hx hb dX3_stopPlace_44 ?_
        refine lv_istore (lv' := [(4, .int (t1 + t0)), (0, .ref (z.2.1 i)), (1, .int v1), (2, .int v2), (3, .int v3), (5, .int v5), (6, .int v6), (7, .int v7)]) hx hb dX3_stopPlace_45 hl (by decide) rfl (fun ls hl => ?_)
        refine lv_iload hx hb dX3_stopPlace_47 (lv_at hl 7 rfl) ?_
        refine lv_if_eq (tgt := 59) hx hb dX3_stopPlace_49 (by decide) (fun c_6 => ?_) (fun c_6 => ?_)
        · have hf := (if_pos c_6).symm.trans hf
          refine lv_iconst (v := (0 : Int32)) hx hb dX3_stopPlace_59 (by decide) ?_
          exact j_60 v1 v2 v3 (t1 + t0) v6 (0 : Int32) _ _ _ hP hS (lv_sub hl [1, 2, 3, 4, 0, 6] rfl) hf
        · have hf := (if_neg c_6).symm.trans hf
          refine lv_iload hx hb dX3_stopPlace_52 (lv_at hl 5 rfl) ?_
          refine lv_iconst (v := (1 : Int32)) hx hb dX3_stopPlace_54 (by decide) ?_
          refine lv_iadd hx hb dX3_stopPlace_55 ?_
          refine lv_goto (tgt := 60) hx hb dX3_stopPlace_56 (by decide) ?_
          exact j_60 v1 v2 v3 (t1 + t0) v6 (v5 + (1 : Int32)) _ _ _ hP hS (lv_sub hl [1, 2, 3, 4, 0, 6] rfl) hf
      have j_30 : ∀ (v1 : Int32) (v2 : Int32) (v3 : Int32) (v4 : Int32) (v5 : Int32) (v6 : Int32) (t0 : Int32) (H : Heap) (locs : List Loc) (ls : Array Slot), va_P z.1 vwCl (wl 40 z.2.1 (ceX z σ)) H → va_S (aG 40 z) s.heap H locs → lv_has ls 8 [(0, .ref (z.2.1 i)), (1, .int v1), (2, .int v2), (3, .int v3), (4, .int v4), (5, .int v5), (6, .int v6)] → fX3_stopPlace_30 i σ (fun wv1 wv2 wv3 wv4 wv5 wv6 => fX3_stopPlace_9 i σ n_9 wv1 wv2 wv3 wv4 wv5 wv6) v1 v2 v3 v4 v5 v6 t0 = some r → W p l e (headSpec wsX3_stopPlace ({ frames := 1, cells := 0, slots := 0, locals := 24 })).room s m ([.ref (z.2.1 i), .int a0, .int a1, .int a2] : List Value).toArray below meth c H locs 0 0 (MQ below (qcG 40 ceX z σ (some (.int r))) ([.ref (z.2.1 i), .int a0, .int a1, .int a2] : List Value).toArray s 0 0 (aG 40 z)) (F0 m 30 ls [.int t0]) := by
        intro v1 v2 v3 v4 v5 v6 t0 H locs ls hP hS hl hf
        rw [fX3_stopPlace_30] at hf
        refine lv_istore (lv' := [(7, .int t0), (0, .ref (z.2.1 i)), (1, .int v1), (2, .int v2), (3, .int v3), (4, .int v4), (5, .int v5), (6, .int v6)]) hx hb dX3_stopPlace_30 hl (by decide) rfl (fun ls hl => ?_)
        refine lv_iload hx hb dX3_stopPlace_32 (lv_at hl 5 rfl) ?_
        refine lv_iload hx hb dX3_stopPlace_34 (lv_at hl 0 rfl) ?_
        refine lv_if_eq (tgt := 43) hx hb dX3_stopPlace_36 (by decide) (fun c_7 => ?_) (fun c_7 => ?_)
        · have hf := (if_pos c_7).symm.trans hf
          refine lv_iconst (v := (0 : Int32)) hx hb dX3_stopPlace_43 (by decide) ?_
          exact j_44 v1 v2 v3 v5 v6 t0 (0 : Int32) v4 _ _ _ hP hS (lv_sub hl [1, 2, 3, 4, 6, 7, 0] rfl) hf
        · have hf := (if_neg c_7).symm.trans hf
          refine lv_iconst (v := (1 : Int32)) hx hb dX3_stopPlace_39 (by decide) ?_
          refine lv_goto (tgt := 44) hx hb dX3_stopPlace_40 (by decide) ?_
          exact j_44 v1 v2 v3 v5 v6 t0 (1 : Int32) v4 _ _ _ hP hS (lv_sub hl [1, 2, 3, 4, 6, 7, 0] rfl) hf
      intro v1 v2 v3 v4 v5 v6 H locs ls hP hS hl hf
      rw [fX3_stopPlace_9] at hf
      refine lv_iload hx hb dX3_stopPlace_9 (lv_at hl 6 rfl) ?_
      refine lv_iload_n hx hb dX3_stopPlace_11 rfl (lv_at hl 2 rfl) ?_
      refine lv_icmp_ge (tgt := 104) hx hb dX3_stopPlace_12 (by decide) (fun c_1 => ?_) (fun c_1 => ?_)
      · have hf := (if_pos c_1).symm.trans hf
        refine lv_iload_n hx hb dX3_stopPlace_104 rfl (lv_at hl 2 rfl) ?_
        exact x_iret hx hb hr hlocks hP hS dX3_stopPlace_105 (Option.some.inj hf) rfl
      · have hf := (if_neg c_1).symm.trans hf
        refine lv_iload_n hx hb dX3_stopPlace_15 rfl (lv_at hl 3 rfl) ?_
        refine lv_iload hx hb dX3_stopPlace_16 (lv_at hl 6 rfl) ?_
        refine lv_ishr hx hb dX3_stopPlace_18 ?_
        refine lv_iconst (v := (1 : Int32)) hx hb dX3_stopPlace_19 (by decide) ?_
        refine lv_iand hx hb dX3_stopPlace_20 ?_
        refine lv_iconst (v := (1 : Int32)) hx hb dX3_stopPlace_21 (by decide) ?_
        refine lv_icmp_ne (tgt := 29) hx hb dX3_stopPlace_22 (by decide) (fun c_2 => ?_) (fun c_2 => ?_)
        · have hf := (if_neg c_2).symm.trans hf
          refine lv_iconst (v := (0 : Int32)) hx hb dX3_stopPlace_29 (by decide) ?_
          exact j_30 v1 v2 v3 v4 v5 v6 (0 : Int32) _ _ _ hP hS (lv_sub hl [0, 1, 2, 3, 4, 5, 6] rfl) hf
        · have hf := (if_pos c_2).symm.trans hf
          refine lv_iconst (v := (1 : Int32)) hx hb dX3_stopPlace_25 (by decide) ?_
          refine lv_goto (tgt := 30) hx hb dX3_stopPlace_26 (by decide) ?_
          exact j_30 v1 v2 v3 v4 v5 v6 (1 : Int32) _ _ _ hP hS (lv_sub hl [0, 1, 2, 3, 4, 5, 6] rfl) hf
  refine lv_iconst (v := (0 : Int32)) hx hb dX3_stopPlace_0 (by decide) ?_
  refine lv_istore (lv' := [(4, .int (0 : Int32)), (0, .ref (z.2.1 i)), (1, .int a0), (2, .int a1), (3, .int a2)]) hx hb dX3_stopPlace_1 hl (by decide) rfl (fun ls hl => ?_)
  refine lv_iconst (v := (0 : Int32)) hx hb dX3_stopPlace_3 (by decide) ?_
  refine lv_istore (lv' := [(5, .int (0 : Int32)), (4, .int (0 : Int32)), (0, .ref (z.2.1 i)), (1, .int a0), (2, .int a1), (3, .int a2)]) hx hb dX3_stopPlace_4 hl (by decide) rfl (fun ls hl => ?_)
  refine lv_iconst (v := (0 : Int32)) hx hb dX3_stopPlace_6 (by decide) ?_
  refine lv_istore (lv' := [(6, .int (0 : Int32)), (5, .int (0 : Int32)), (4, .int (0 : Int32)), (0, .ref (z.2.1 i)), (1, .int a0), (2, .int a1), (3, .int a2)]) hx hb dX3_stopPlace_7 hl (by decide) rfl (fun ls hl => ?_)
  exact L_9 1000 a0 a1 a2 (0 : Int32) (0 : Int32) (0 : Int32) _ _ _ hP hS (lv_sub hl [3, 4, 5, 6, 2, 1, 0] rfl) hf
