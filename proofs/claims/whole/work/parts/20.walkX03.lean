set_option maxHeartbeats 40000000 in
set_option maxRecDepth 100000 in
theorem kX5_size (l : Launch) (z : Cx) (hz : okC 40 z) {a0 : Int32} {a1 : Int32}  {σ σ' : Mm} {r : Int64} (hf : fX5_size a0 a1 σ = some (r, σ')) : KG 40 ceX l yX5_size wsX5_size (6) (147) [.ref (z.2.1 0), .int a0, .int a1] z σ σ' (some (.long r)) := by
  rw [fX5_size] at hf
  refine Met.ofW (cc := cX5_size) (maxL := 3) (ret := (some .long)) (by decide) rfl ?_
  intro p e s m args below meth c s₁ B hml hv
  obtain ⟨rfl, hP, hK, hE⟩ := hv
  have hx := B.exec
  have hb := B.bytes
  have hr := B.returns
  have hts := atoms_spec (ws := wsX5_size) B.pre
  have hown : s.vm.findClass RX5 = some m.cls := findClass_of_methodNamed B.named
  have hlocks := B.notSynchronized
  have hS : va_S (aG 40 z) s.heap s.heap [] := va_S.rf
  have hl := lv_entry ([.ref (z.2.1 0), .int a0, .int a1]) (n := 3) (Nat.le_of_ble_eq_true rfl)
  rw [lg_entry_eq]
  generalize (lg_sl ([.ref (z.2.1 0), .int a0, .int a1]) ++ List.replicate (3 - (lg_sl ([.ref (z.2.1 0), .int a0, .int a1])).length) Slot.unset).toArray = ls at hl ⊢
  have hl : lv_has ls 3 [(0, .ref (z.2.1 0)), (1, .int a0), (2, .int a1)] := hl
  refine lv_iload_n hx hb dX5_size_0 rfl (lv_at hl 1 rfl) ?_
  refine lv_iconst (v := (1 : Int32)) hx hb dX5_size_1 (by decide) ?_
  refine lv_icmp_ge (tgt := 12) hx hb dX5_size_2 (by decide) (fun c_1001 => ?_) (fun c_1001 => ?_)
  · have hf := (if_pos c_1001).symm.trans hf
    refine lv_iload_n hx hb dX5_size_12 rfl (lv_at hl 1 rfl) ?_
    refine lv_bipush (v := (10 : Int32)) hx hb dX5_size_13 (by decide) ?_
    refine lv_icmp_le (tgt := 25) hx hb dX5_size_15 (by decide) (fun c_1002 => ?_) (fun c_1002 => ?_)
    · have hf := (if_pos c_1002).symm.trans hf
      refine lv_iload_n hx hb dX5_size_25 rfl (lv_at hl 2 rfl) ?_
      obtain ⟨q_1003, hq_1003, hf⟩ := x_bd hf
      refine x_callSi (va_runS (As := [.int a1]) (rest := []) ⟨hx, hb, hml, hown, hts⟩ (kX5_isNoBit l hq_1003) (va_cwS 1 hts gX5_size_X5_isNoBit rfl rfl rfl (by decide +kernel) ⟨Nat.le_of_ble_eq_true rfl, Nat.le_of_ble_eq_true rfl⟩) psS rfl rfl hl.1 rfl (lv_room (Nat.le_of_ble_eq_true rfl)) dX5_size_26 ⟨Nat.zero_le _, Nat.zero_le _⟩) ?_
      refine lv_if_eq (tgt := 39) hx hb dX5_size_29 (by decide) (fun c_1004 => ?_) (fun c_1004 => ?_)
      · have hf := (if_pos c_1004).symm.trans hf
        refine lv_aload_n hx hb dX5_size_39 rfl (lv_at hl 0 rfl) ?_
        obtain ⟨q_1005, hq_1005, hf⟩ := x_bd hf
        obtain ⟨c_1006, hf⟩ := x_ck hf
        refine x_callGr (va_runV (As := []) (rest := []) ⟨hx, hb, hml, hown, hts⟩ (kX5_tallyNow l z hz hq_1005) (cwV 0 hts gX5_size_X5_tallyNow rfl rfl rfl (by decide +kernel) ⟨Nat.le_of_ble_eq_true rfl, Nat.le_of_ble_eq_true rfl⟩) (pvG hK hP hE hS (va_recv hK hP (ci := 5) (q0 := 0) rfl (wl_at (by decide) cX5))) rfl rfl hl.1 rfl (lv_room (Nat.le_of_ble_eq_true rfl)) dX5_size_40 ⟨Nat.zero_le _, Nat.zero_le _⟩) hS (fun H locs hP hS => ?_)
        refine lv_bipush (v := (7 : Int32)) hx hb dX5_size_43 (by decide) ?_
        refine lv_iload_n hx hb dX5_size_45 rfl (lv_at hl 1 rfl) ?_
        obtain ⟨q_1007, hq_1007, hf⟩ := x_bd hf
        refine x_callGl (va_runV (As := [.int (7 : Int32), .int a0]) (rest := []) ⟨hx, hb, hml, hown, hts⟩ (kX1_sum l z hz c_1006 hq_1007) (cwV 2 hts gX5_size_X1_sum rfl rfl rfl (by decide +kernel) ⟨Nat.le_of_ble_eq_true rfl, Nat.le_of_ble_eq_true rfl⟩) (pvG hK hP hE hS (va_recv hK hP (ci := 1) (q0 := q_1005.1) rfl (wl_at (tal_lt c_1006) (cX1 c_1006)))) rfl rfl hl.1 rfl (lv_room (Nat.le_of_ble_eq_true rfl)) dX5_size_46 ⟨Nat.zero_le _, Nat.zero_le _⟩) hS (fun H locs hP hS => ?_)
        refine lv_ldc2 (v := (61917364224 : Int64)) hx hb hown (hts (.constantLong RX5 107 (61917364224 : Int64)) (by decide +kernel)) dX5_size_49 ?_
        refine lv_iload_n hx hb dX5_size_52 rfl (lv_at hl 2 rfl) ?_
        obtain ⟨q_1008, hq_1008, hf⟩ := x_bd hf
        refine x_callSl (va_runS (As := [.long q_1007, .long (61917364224 : Int64), .int a1]) (rest := []) ⟨hx, hb, hml, hown, hts⟩ (kX5_fraction l hq_1008) (va_cwS 3 hts gX5_size_X5_fraction rfl rfl rfl (by decide +kernel) ⟨Nat.le_of_ble_eq_true rfl, Nat.le_of_ble_eq_true rfl⟩) psS rfl rfl hl.1 rfl (lv_room (Nat.le_of_ble_eq_true rfl)) dX5_size_53 ⟨Nat.zero_le _, Nat.zero_le _⟩) ?_
        exact x_lret hx hb hr hlocks hP hS dX5_size_56 (Prod.mk.inj (Option.some.inj hf)).1 (Prod.mk.inj (Option.some.inj hf)).2
      · have hf := (if_neg c_1004).symm.trans hf
        refine lv_aload_n hx hb dX5_size_32 rfl (lv_at hl 0 rfl) ?_
        refine lv_bipush (v := (-2 : Int32)) hx hb dX5_size_33 (by decide) ?_
        obtain ⟨q_1009, hq_1009, hf⟩ := x_bd hf
        refine x_callGl (va_runV (As := [.int (-2 : Int32)]) (rest := []) ⟨hx, hb, hml, hown, hts⟩ (kX5_refuseLong l z hz hq_1009) (cwV 1 hts gX5_size_X5_refuseLong rfl rfl rfl (by decide +kernel) ⟨Nat.le_of_ble_eq_true rfl, Nat.le_of_ble_eq_true rfl⟩) (pvG hK hP hE hS (va_recv hK hP (ci := 5) (q0 := 0) rfl (wl_at (by decide) cX5))) rfl rfl hl.1 rfl (lv_room (Nat.le_of_ble_eq_true rfl)) dX5_size_35 ⟨Nat.zero_le _, Nat.zero_le _⟩) hS (fun H locs hP hS => ?_)
        exact x_lret hx hb hr hlocks hP hS dX5_size_38 (Prod.mk.inj (Option.some.inj hf)).1 (Prod.mk.inj (Option.some.inj hf)).2
    · have hf := (if_neg c_1002).symm.trans hf
      refine lv_aload_n hx hb dX5_size_18 rfl (lv_at hl 0 rfl) ?_
      refine lv_bipush (v := (-6 : Int32)) hx hb dX5_size_19 (by decide) ?_
      obtain ⟨q_1010, hq_1010, hf⟩ := x_bd hf
      refine x_callGl (va_runV (As := [.int (-6 : Int32)]) (rest := []) ⟨hx, hb, hml, hown, hts⟩ (kX5_refuseLong l z hz hq_1010) (cwV 1 hts gX5_size_X5_refuseLong rfl rfl rfl (by decide +kernel) ⟨Nat.le_of_ble_eq_true rfl, Nat.le_of_ble_eq_true rfl⟩) (pvG hK hP hE hS (va_recv hK hP (ci := 5) (q0 := 0) rfl (wl_at (by decide) cX5))) rfl rfl hl.1 rfl (lv_room (Nat.le_of_ble_eq_true rfl)) dX5_size_21 ⟨Nat.zero_le _, Nat.zero_le _⟩) hS (fun H locs hP hS => ?_)
      exact x_lret hx hb hr hlocks hP hS dX5_size_24 (Prod.mk.inj (Option.some.inj hf)).1 (Prod.mk.inj (Option.some.inj hf)).2
  · have hf := (if_neg c_1001).symm.trans hf
    refine lv_aload_n hx hb dX5_size_5 rfl (lv_at hl 0 rfl) ?_
    refine lv_bipush (v := (-4 : Int32)) hx hb dX5_size_6 (by decide) ?_
    obtain ⟨q_1011, hq_1011, hf⟩ := x_bd hf
    refine x_callGl (va_runV (As := [.int (-4 : Int32)]) (rest := []) ⟨hx, hb, hml, hown, hts⟩ (kX5_refuseLong l z hz hq_1011) (cwV 1 hts gX5_size_X5_refuseLong rfl rfl rfl (by decide +kernel) ⟨Nat.le_of_ble_eq_true rfl, Nat.le_of_ble_eq_true rfl⟩) (pvG hK hP hE hS (va_recv hK hP (ci := 5) (q0 := 0) rfl (wl_at (by decide) cX5))) rfl rfl hl.1 rfl (lv_room (Nat.le_of_ble_eq_true rfl)) dX5_size_8 ⟨Nat.zero_le _, Nat.zero_le _⟩) hS (fun H locs hP hS => ?_)
    exact x_lret hx hb hr hlocks hP hS dX5_size_11 (Prod.mk.inj (Option.some.inj hf)).1 (Prod.mk.inj (Option.some.inj hf)).2
set_option maxHeartbeats 40000000 in
set_option maxRecDepth 100000 in
theorem kX5_met (l : Launch) (z : Cx) (hz : okC 40 z) {a0 : Int32} {a1 : Int32}  {σ σ' : Mm} {r : Int64} (hf : fX5_met a0 a1 σ = some (r, σ')) : KG 40 ceX l yX5_met wsX5_met (6) (147) [.ref (z.2.1 0), .int a0, .int a1] z σ σ' (some (.long r)) := by
  rw [fX5_met] at hf
  refine Met.ofW (cc := cX5_met) (maxL := 5) (ret := (some .long)) (by decide) rfl ?_
  intro p e s m args below meth c s₁ B hml hv
  obtain ⟨rfl, hP, hK, hE⟩ := hv
  have hx := B.exec
  have hb := B.bytes
  have hr := B.returns
  have hts := atoms_spec (ws := wsX5_met) B.pre
  have hown : s.vm.findClass RX5 = some m.cls := findClass_of_methodNamed B.named
  have hlocks := B.notSynchronized
  have hS : va_S (aG 40 z) s.heap s.heap [] := va_S.rf
  have hl := lv_entry ([.ref (z.2.1 0), .int a0, .int a1]) (n := 5) (Nat.le_of_ble_eq_true rfl)
  rw [lg_entry_eq]
  generalize (lg_sl ([.ref (z.2.1 0), .int a0, .int a1]) ++ List.replicate (5 - (lg_sl ([.ref (z.2.1 0), .int a0, .int a1])).length) Slot.unset).toArray = ls at hl ⊢
  have hl : lv_has ls 5 [(0, .ref (z.2.1 0)), (1, .int a0), (2, .int a1)] := hl
  have j_14 : ∀ (σ : Mm) (H : Heap) (locs : List Loc) (ls : Array Slot), va_P z.1 vwCl (wl 40 z.2.1 (ceX z σ)) H → va_S (aG 40 z) s.heap H locs → lv_has ls 5 [(0, .ref (z.2.1 0))] → fX5_met_14 σ = some (r, σ') → W p l e (headSpec wsX5_met ({ frames := 6, cells := 0, slots := 0, locals := 147 })).room s m ([.ref (z.2.1 0), .int a0, .int a1] : List Value).toArray below meth c H locs 0 0 (MQ below (qcG 40 ceX z σ' (some (.long r))) ([.ref (z.2.1 0), .int a0, .int a1] : List Value).toArray s 0 0 (aG 40 z)) (F0 m 14 ls []) := by
    intro σ H locs ls hP hS hl hf
    rw [fX5_met_14] at hf
    refine lv_aload_n hx hb dX5_met_14 rfl (lv_at hl 0 rfl) ?_
    refine lv_bipush (v := (-2 : Int32)) hx hb dX5_met_15 (by decide) ?_
    obtain ⟨q_8, hq_8, hf⟩ := x_bd hf
    refine x_callGl (va_runV (As := [.int (-2 : Int32)]) (rest := []) ⟨hx, hb, hml, hown, hts⟩ (kX5_refuseLong l z hz hq_8) (cwV 1 hts gX5_met_X5_refuseLong rfl rfl rfl (by decide +kernel) ⟨Nat.le_of_ble_eq_true rfl, Nat.le_of_ble_eq_true rfl⟩) (pvG hK hP hE hS (va_recv hK hP (ci := 5) (q0 := 0) rfl (wl_at (by decide) cX5))) rfl rfl hl.1 rfl (lv_room (Nat.le_of_ble_eq_true rfl)) dX5_met_17 ⟨Nat.zero_le _, Nat.zero_le _⟩) hS (fun H locs hP hS => ?_)
    exact x_lret hx hb hr hlocks hP hS dX5_met_20 (Prod.mk.inj (Option.some.inj hf)).1 (Prod.mk.inj (Option.some.inj hf)).2
  have j_37 : ∀ (v2 : Int32) (v3 : Nat) (t0 : Int32) (σ : Mm) (H : Heap) (locs : List Loc) (ls : Array Slot), isTal v3 = true → va_P z.1 vwCl (wl 40 z.2.1 (ceX z σ)) H → va_S (aG 40 z) s.heap H locs → lv_has ls 5 [(2, .int v2), (3, .ref (z.2.1 v3))] → fX5_met_37 v2 v3 t0 σ = some (r, σ') → W p l e (headSpec wsX5_met ({ frames := 6, cells := 0, slots := 0, locals := 147 })).room s m ([.ref (z.2.1 0), .int a0, .int a1] : List Value).toArray below meth c H locs 0 0 (MQ below (qcG 40 ceX z σ' (some (.long r))) ([.ref (z.2.1 0), .int a0, .int a1] : List Value).toArray s 0 0 (aG 40 z)) (F0 m 37 ls [.int t0]) := by
    intro v2 v3 t0 σ H locs ls hv3 hP hS hl hf
    rw [fX5_met_37] at hf
    refine lv_istore (lv' := [(4, .int t0), (2, .int v2), (3, .ref (z.2.1 v3))]) hx hb dX5_met_37 hl (by decide) rfl (fun ls hl => ?_)
    refine lv_aload_n hx hb dX5_met_39 rfl (lv_at hl 2 rfl) ?_
    refine lv_iload hx hb dX5_met_40 (lv_at hl 0 rfl) ?_
    refine lv_iconst (v := (0 : Int32)) hx hb dX5_met_42 (by decide) ?_
    obtain ⟨q_9, hq_9, hf⟩ := x_bd hf
    refine x_callGl (va_runV (As := [.int t0, .int (0 : Int32)]) (rest := []) ⟨hx, hb, hml, hown, hts⟩ (kX1_sum l z hz hv3 hq_9) (cwV 2 hts gX5_met_X1_sum rfl rfl rfl (by decide +kernel) ⟨Nat.le_of_ble_eq_true rfl, Nat.le_of_ble_eq_true rfl⟩) (pvG hK hP hE hS (va_recv hK hP (ci := 1) (q0 := v3) rfl (wl_at (tal_lt hv3) (cX1 hv3)))) rfl rfl hl.1 rfl (lv_room (Nat.le_of_ble_eq_true rfl)) dX5_met_43 ⟨Nat.zero_le _, Nat.zero_le _⟩) hS (fun H locs hP hS => ?_)
    refine lv_aload_n hx hb dX5_met_46 rfl (lv_at hl 2 rfl) ?_
    refine lv_iconst (v := (0 : Int32)) hx hb dX5_met_47 (by decide) ?_
    refine lv_iconst (v := (0 : Int32)) hx hb dX5_met_48 (by decide) ?_
    obtain ⟨q_10, hq_10, hf⟩ := x_bd hf
    refine x_callGl (va_runV (As := [.int (0 : Int32), .int (0 : Int32)]) (rest := [.long q_9]) ⟨hx, hb, hml, hown, hts⟩ (kX1_sum l z hz hv3 hq_10) (cwV 2 hts gX5_met_X1_sum rfl rfl rfl (by decide +kernel) ⟨Nat.le_of_ble_eq_true rfl, Nat.le_of_ble_eq_true rfl⟩) (pvG hK hP hE hS (va_recv hK hP (ci := 1) (q0 := v3) rfl (wl_at (tal_lt hv3) (cX1 hv3)))) rfl rfl hl.1 rfl (lv_room (Nat.le_of_ble_eq_true rfl)) dX5_met_49 ⟨Nat.zero_le _, Nat.zero_le _⟩) hS (fun H locs hP hS => ?_)
    refine lv_iload_n hx hb dX5_met_52 rfl (lv_at hl 1 rfl) ?_
    obtain ⟨q_11, hq_11, hf⟩ := x_bd hf
    refine x_callSl (va_runS (As := [.long q_9, .long q_10, .int v2]) (rest := []) ⟨hx, hb, hml, hown, hts⟩ (kX5_fraction l hq_11) (va_cwS 3 hts gX5_met_X5_fraction rfl rfl rfl (by decide +kernel) ⟨Nat.le_of_ble_eq_true rfl, Nat.le_of_ble_eq_true rfl⟩) psS rfl rfl hl.1 rfl (lv_room (Nat.le_of_ble_eq_true rfl)) dX5_met_53 ⟨Nat.zero_le _, Nat.zero_le _⟩) ?_
    exact x_lret hx hb hr hlocks hP hS dX5_met_56 (Prod.mk.inj (Option.some.inj hf)).1 (Prod.mk.inj (Option.some.inj hf)).2
  refine lv_iload_n hx hb dX5_met_0 rfl (lv_at hl 1 rfl) ?_
  obtain ⟨q_1001, hq_1001, hf⟩ := x_bd hf
  refine x_callSi (va_runS (As := [.int a0]) (rest := []) ⟨hx, hb, hml, hown, hts⟩ (kX5_isNoBit l hq_1001) (va_cwS 1 hts gX5_met_X5_isNoBit rfl rfl rfl (by decide +kernel) ⟨Nat.le_of_ble_eq_true rfl, Nat.le_of_ble_eq_true rfl⟩) psS rfl rfl hl.1 rfl (lv_room (Nat.le_of_ble_eq_true rfl)) dX5_met_1 ⟨Nat.zero_le _, Nat.zero_le _⟩) ?_
  refine lv_if_ne (tgt := 14) hx hb dX5_met_4 (by decide) (fun c_1002 => ?_) (fun c_1002 => ?_)
  · have hf := (if_neg c_1002).symm.trans hf
    exact j_14 σ _ _ _ hP hS (lv_sub hl [0] rfl) hf
  · have hf := (if_pos c_1002).symm.trans hf
    refine lv_iload_n hx hb dX5_met_7 rfl (lv_at hl 2 rfl) ?_
    obtain ⟨q_1003, hq_1003, hf⟩ := x_bd hf
    refine x_callSi (va_runS (As := [.int a1]) (rest := []) ⟨hx, hb, hml, hown, hts⟩ (kX5_isNoBit l hq_1003) (va_cwS 1 hts gX5_met_X5_isNoBit rfl rfl rfl (by decide +kernel) ⟨Nat.le_of_ble_eq_true rfl, Nat.le_of_ble_eq_true rfl⟩) psS rfl rfl hl.1 rfl (lv_room (Nat.le_of_ble_eq_true rfl)) dX5_met_8 ⟨Nat.zero_le _, Nat.zero_le _⟩) ?_
    refine lv_if_eq (tgt := 21) hx hb dX5_met_11 (by decide) (fun c_1004 => ?_) (fun c_1004 => ?_)
    · have hf := (if_pos c_1004).symm.trans hf
      refine lv_aload_n hx hb dX5_met_21 rfl (lv_at hl 0 rfl) ?_
      obtain ⟨q_1005, hq_1005, hf⟩ := x_bd hf
      obtain ⟨c_1006, hf⟩ := x_ck hf
      refine x_callGr (va_runV (As := []) (rest := []) ⟨hx, hb, hml, hown, hts⟩ (kX5_tallyNow l z hz hq_1005) (cwV 0 hts gX5_met_X5_tallyNow rfl rfl rfl (by decide +kernel) ⟨Nat.le_of_ble_eq_true rfl, Nat.le_of_ble_eq_true rfl⟩) (pvG hK hP hE hS (va_recv hK hP (ci := 5) (q0 := 0) rfl (wl_at (by decide) cX5))) rfl rfl hl.1 rfl (lv_room (Nat.le_of_ble_eq_true rfl)) dX5_met_22 ⟨Nat.zero_le _, Nat.zero_le _⟩) hS (fun H locs hP hS => ?_)
      refine lv_astore_n (lv' := [(3, .ref (z.2.1 q_1005.1)), (0, .ref (z.2.1 0)), (1, .int a0), (2, .int a1)]) hx hb dX5_met_25 rfl hl (by decide) rfl (fun ls hl => ?_)
      refine lv_iload_n hx hb dX5_met_26 rfl (lv_at hl 2 rfl) ?_
      refine lv_if_ne (tgt := 35) hx hb dX5_met_27 (by decide) (fun c_1007 => ?_) (fun c_1007 => ?_)
      · have hf := (if_neg c_1007).symm.trans hf
        refine lv_bipush (v := (9 : Int32)) hx hb dX5_met_35 (by decide) ?_
        exact j_37 a1 q_1005.1 (9 : Int32) q_1005.2 _ _ _ c_1006 hP hS (lv_sub hl [3, 0] rfl) hf
      · have hf := (if_pos c_1007).symm.trans hf
        refine lv_bipush (v := (8 : Int32)) hx hb dX5_met_30 (by decide) ?_
        refine lv_goto (tgt := 37) hx hb dX5_met_32 (by decide) ?_
        exact j_37 a1 q_1005.1 (8 : Int32) q_1005.2 _ _ _ c_1006 hP hS (lv_sub hl [3, 0] rfl) hf
    · have hf := (if_neg c_1004).symm.trans hf
      exact j_14 σ _ _ _ hP hS (lv_sub hl [0] rfl) hf
set_option maxHeartbeats 40000000 in
set_option maxRecDepth 100000 in
theorem kX5_says (l : Launch) (z : Cx) (hz : okC 40 z) {a0 : Int32} {a1 : Int32} {a2 : Int32} {a3 : Int32} {a4 : Int32}  {σ σ' : Mm} {r : Int64} (hf : fX5_says a0 a1 a2 a3 a4 σ = some (r, σ')) : KG 40 ceX l yX5_says wsX5_says (6) (147) [.ref (z.2.1 0), .int a0, .int a1, .int a2, .int a3, .int a4] z σ σ' (some (.long r)) := by
  rw [fX5_says] at hf
  refine Met.ofW (cc := cX5_says) (maxL := 11) (ret := (some .long)) (by decide) rfl ?_
  intro p e s m args below meth c s₁ B hml hv
  obtain ⟨rfl, hP, hK, hE⟩ := hv
  have hx := B.exec
  have hb := B.bytes
  have hr := B.returns
  have hts := atoms_spec (ws := wsX5_says) B.pre
  have hown : s.vm.findClass RX5 = some m.cls := findClass_of_methodNamed B.named
  have hlocks := B.notSynchronized
  have hS : va_S (aG 40 z) s.heap s.heap [] := va_S.rf
  have hl := lv_entry ([.ref (z.2.1 0), .int a0, .int a1, .int a2, .int a3, .int a4]) (n := 11) (Nat.le_of_ble_eq_true rfl)
  rw [lg_entry_eq]
  generalize (lg_sl ([.ref (z.2.1 0), .int a0, .int a1, .int a2, .int a3, .int a4]) ++ List.replicate (11 - (lg_sl ([.ref (z.2.1 0), .int a0, .int a1, .int a2, .int a3, .int a4])).length) Slot.unset).toArray = ls at hl ⊢
  have hl : lv_has ls 11 [(0, .ref (z.2.1 0)), (1, .int a0), (2, .int a1), (3, .int a2), (4, .int a3), (5, .int a4)] := hl
  have j_8 : ∀ (σ : Mm) (H : Heap) (locs : List Loc) (ls : Array Slot), va_P z.1 vwCl (wl 40 z.2.1 (ceX z σ)) H → va_S (aG 40 z) s.heap H locs → lv_has ls 11 [(0, .ref (z.2.1 0))] → fX5_says_8 σ = some (r, σ') → W p l e (headSpec wsX5_says ({ frames := 6, cells := 0, slots := 0, locals := 147 })).room s m ([.ref (z.2.1 0), .int a0, .int a1, .int a2, .int a3, .int a4] : List Value).toArray below meth c H locs 0 0 (MQ below (qcG 40 ceX z σ' (some (.long r))) ([.ref (z.2.1 0), .int a0, .int a1, .int a2, .int a3, .int a4] : List Value).toArray s 0 0 (aG 40 z)) (F0 m 8 ls []) := by
    intro σ H locs ls hP hS hl hf
    rw [fX5_says_8] at hf
    refine lv_aload_n hx hb dX5_says_8 rfl (lv_at hl 0 rfl) ?_
    refine lv_bipush (v := (-4 : Int32)) hx hb dX5_says_9 (by decide) ?_
    obtain ⟨q_15, hq_15, hf⟩ := x_bd hf
    refine x_callGl (va_runV (As := [.int (-4 : Int32)]) (rest := []) ⟨hx, hb, hml, hown, hts⟩ (kX5_refuseLong l z hz hq_15) (cwV 1 hts gX5_says_X5_refuseLong rfl rfl rfl (by decide +kernel) ⟨Nat.le_of_ble_eq_true rfl, Nat.le_of_ble_eq_true rfl⟩) (pvG hK hP hE hS (va_recv hK hP (ci := 5) (q0 := 0) rfl (wl_at (by decide) cX5))) rfl rfl hl.1 rfl (lv_room (Nat.le_of_ble_eq_true rfl)) dX5_says_11 ⟨Nat.zero_le _, Nat.zero_le _⟩) hS (fun H locs hP hS => ?_)
    exact x_lret hx hb hr hlocks hP hS dX5_says_14 (Prod.mk.inj (Option.some.inj hf)).1 (Prod.mk.inj (Option.some.inj hf)).2
  have j_27 : ∀ (σ : Mm) (H : Heap) (locs : List Loc) (ls : Array Slot), va_P z.1 vwCl (wl 40 z.2.1 (ceX z σ)) H → va_S (aG 40 z) s.heap H locs → lv_has ls 11 [(0, .ref (z.2.1 0))] → fX5_says_27 σ = some (r, σ') → W p l e (headSpec wsX5_says ({ frames := 6, cells := 0, slots := 0, locals := 147 })).room s m ([.ref (z.2.1 0), .int a0, .int a1, .int a2, .int a3, .int a4] : List Value).toArray below meth c H locs 0 0 (MQ below (qcG 40 ceX z σ' (some (.long r))) ([.ref (z.2.1 0), .int a0, .int a1, .int a2, .int a3, .int a4] : List Value).toArray s 0 0 (aG 40 z)) (F0 m 27 ls []) := by
    intro σ H locs ls hP hS hl hf
    rw [fX5_says_27] at hf
    refine lv_aload_n hx hb dX5_says_27 rfl (lv_at hl 0 rfl) ?_
    refine lv_bipush (v := (-6 : Int32)) hx hb dX5_says_28 (by decide) ?_
    obtain ⟨q_16, hq_16, hf⟩ := x_bd hf
    refine x_callGl (va_runV (As := [.int (-6 : Int32)]) (rest := []) ⟨hx, hb, hml, hown, hts⟩ (kX5_refuseLong l z hz hq_16) (cwV 1 hts gX5_says_X5_refuseLong rfl rfl rfl (by decide +kernel) ⟨Nat.le_of_ble_eq_true rfl, Nat.le_of_ble_eq_true rfl⟩) (pvG hK hP hE hS (va_recv hK hP (ci := 5) (q0 := 0) rfl (wl_at (by decide) cX5))) rfl rfl hl.1 rfl (lv_room (Nat.le_of_ble_eq_true rfl)) dX5_says_30 ⟨Nat.zero_le _, Nat.zero_le _⟩) hS (fun H locs hP hS => ?_)
    exact x_lret hx hb hr hlocks hP hS dX5_says_33 (Prod.mk.inj (Option.some.inj hf)).1 (Prod.mk.inj (Option.some.inj hf)).2
  have j_57 : ∀ (σ : Mm) (H : Heap) (locs : List Loc) (ls : Array Slot), va_P z.1 vwCl (wl 40 z.2.1 (ceX z σ)) H → va_S (aG 40 z) s.heap H locs → lv_has ls 11 [(0, .ref (z.2.1 0))] → fX5_says_57 σ = some (r, σ') → W p l e (headSpec wsX5_says ({ frames := 6, cells := 0, slots := 0, locals := 147 })).room s m ([.ref (z.2.1 0), .int a0, .int a1, .int a2, .int a3, .int a4] : List Value).toArray below meth c H locs 0 0 (MQ below (qcG 40 ceX z σ' (some (.long r))) ([.ref (z.2.1 0), .int a0, .int a1, .int a2, .int a3, .int a4] : List Value).toArray s 0 0 (aG 40 z)) (F0 m 57 ls []) := by
    intro σ H locs ls hP hS hl hf
    rw [fX5_says_57] at hf
    refine lv_aload_n hx hb dX5_says_57 rfl (lv_at hl 0 rfl) ?_
    refine lv_bipush (v := (-2 : Int32)) hx hb dX5_says_58 (by decide) ?_
    obtain ⟨q_17, hq_17, hf⟩ := x_bd hf
    refine x_callGl (va_runV (As := [.int (-2 : Int32)]) (rest := []) ⟨hx, hb, hml, hown, hts⟩ (kX5_refuseLong l z hz hq_17) (cwV 1 hts gX5_says_X5_refuseLong rfl rfl rfl (by decide +kernel) ⟨Nat.le_of_ble_eq_true rfl, Nat.le_of_ble_eq_true rfl⟩) (pvG hK hP hE hS (va_recv hK hP (ci := 5) (q0 := 0) rfl (wl_at (by decide) cX5))) rfl rfl hl.1 rfl (lv_room (Nat.le_of_ble_eq_true rfl)) dX5_says_60 ⟨Nat.zero_le _, Nat.zero_le _⟩) hS (fun H locs hP hS => ?_)
    exact x_lret hx hb hr hlocks hP hS dX5_says_63 (Prod.mk.inj (Option.some.inj hf)).1 (Prod.mk.inj (Option.some.inj hf)).2
  have j_103 : ∀ (v1 : Int32) (v4 : Int32) (v5 : Int32) (v6 : Nat) (v7 : Int32) (v8 : Int32) (t0 : Int32) (t1 : Int64) (σ : Mm) (H : Heap) (locs : List Loc) (ls : Array Slot), isTal v6 = true → va_P z.1 vwCl (wl 40 z.2.1 (ceX z σ)) H → va_S (aG 40 z) s.heap H locs → lv_has ls 11 [(1, .int v1), (4, .int v4), (5, .int v5), (6, .ref (z.2.1 v6)), (7, .int v7), (8, .int v8)] → fX5_says_103 v1 v4 v5 v6 v7 v8 t0 t1 σ = some (r, σ') → W p l e (headSpec wsX5_says ({ frames := 6, cells := 0, slots := 0, locals := 147 })).room s m ([.ref (z.2.1 0), .int a0, .int a1, .int a2, .int a3, .int a4] : List Value).toArray below meth c H locs 0 0 (MQ below (qcG 40 ceX z σ' (some (.long r))) ([.ref (z.2.1 0), .int a0, .int a1, .int a2, .int a3, .int a4] : List Value).toArray s 0 0 (aG 40 z)) (F0 m 103 ls [.int t0, .long t1]) := by
    intro v1 v4 v5 v6 v7 v8 t0 t1 σ H locs ls hv6 hP hS hl hf
    rw [fX5_says_103] at hf
    refine lv_i2l (v := t0.toInt64) hx hb dX5_says_103 rfl ?_
    refine lv_lmul hx hb dX5_says_104 ?_
    refine lv_lstore (lv' := [(9, .long (t1 * (t0.toInt64))), (1, .int v1), (4, .int v4), (5, .int v5), (6, .ref (z.2.1 v6)), (7, .int v7), (8, .int v8)]) hx hb dX5_says_105 hl (by decide) rfl (fun ls hl => ?_)
    refine lv_iload hx hb dX5_says_107 (lv_at hl 2 rfl) ?_
    refine lv_if_ne (tgt := 127) hx hb dX5_says_109 (by decide) (fun c_18 => ?_) (fun c_18 => ?_)
    · have hf := (if_neg c_18).symm.trans hf
      refine lv_aload hx hb dX5_says_127 (lv_at hl 4 rfl) ?_
      refine lv_iload_n hx hb dX5_says_129 rfl (lv_at hl 1 rfl) ?_
      refine lv_iload hx hb dX5_says_130 (lv_at hl 5 rfl) ?_
      refine lv_iload hx hb dX5_says_132 (lv_at hl 6 rfl) ?_
      obtain ⟨q_19, hq_19, hf⟩ := x_bd hf
      refine x_callGl (va_runV (As := [.int v1, .int v7, .int v8]) (rest := []) ⟨hx, hb, hml, hown, hts⟩ (kX1_familiesFrom l z hz hv6 hq_19) (cwV 3 hts gX5_says_X1_familiesFrom rfl rfl rfl (by decide +kernel) ⟨Nat.le_of_ble_eq_true rfl, Nat.le_of_ble_eq_true rfl⟩) (pvG hK hP hE hS (va_recv hK hP (ci := 1) (q0 := v6) rfl (wl_at (tal_lt hv6) (cX1 hv6)))) rfl rfl hl.1 rfl (lv_room (Nat.le_of_ble_eq_true rfl)) dX5_says_134 ⟨Nat.zero_le _, Nat.zero_le _⟩) hS (fun H locs hP hS => ?_)
      refine lv_lload hx hb dX5_says_137 (lv_at hl 0 rfl) ?_
      refine lv_iload hx hb dX5_says_139 (lv_at hl 3 rfl) ?_
      obtain ⟨q_20, hq_20, hf⟩ := x_bd hf
      refine x_callSl (va_runS (As := [.long q_19, .long (t1 * (t0.toInt64)), .int v5]) (rest := []) ⟨hx, hb, hml, hown, hts⟩ (kX5_fraction l hq_20) (va_cwS 3 hts gX5_says_X5_fraction rfl rfl rfl (by decide +kernel) ⟨Nat.le_of_ble_eq_true rfl, Nat.le_of_ble_eq_true rfl⟩) psS rfl rfl hl.1 rfl (lv_room (Nat.le_of_ble_eq_true rfl)) dX5_says_141 ⟨Nat.zero_le _, Nat.zero_le _⟩) ?_
      exact x_lret hx hb hr hlocks hP hS dX5_says_144 (Prod.mk.inj (Option.some.inj hf)).1 (Prod.mk.inj (Option.some.inj hf)).2
    · have hf := (if_pos c_18).symm.trans hf
      refine lv_lload hx hb dX5_says_112 (lv_at hl 0 rfl) ?_
      refine lv_aload hx hb dX5_says_114 (lv_at hl 4 rfl) ?_
      refine lv_iconst (v := (0 : Int32)) hx hb dX5_says_116 (by decide) ?_
      refine lv_iconst (v := (0 : Int32)) hx hb dX5_says_117 (by decide) ?_
      obtain ⟨q_21, hq_21, hf⟩ := x_bd hf
      refine x_callGl (va_runV (As := [.int (0 : Int32), .int (0 : Int32)]) (rest := [.long (t1 * (t0.toInt64))]) ⟨hx, hb, hml, hown, hts⟩ (kX1_sum l z hz hv6 hq_21) (cwV 2 hts gX5_says_X1_sum rfl rfl rfl (by decide +kernel) ⟨Nat.le_of_ble_eq_true rfl, Nat.le_of_ble_eq_true rfl⟩) (pvG hK hP hE hS (va_recv hK hP (ci := 1) (q0 := v6) rfl (wl_at (tal_lt hv6) (cX1 hv6)))) rfl rfl hl.1 rfl (lv_room (Nat.le_of_ble_eq_true rfl)) dX5_says_118 ⟨Nat.zero_le _, Nat.zero_le _⟩) hS (fun H locs hP hS => ?_)
      refine lv_iload hx hb dX5_says_121 (lv_at hl 3 rfl) ?_
      obtain ⟨q_22, hq_22, hf⟩ := x_bd hf
      refine x_callSl (va_runS (As := [.long (t1 * (t0.toInt64)), .long q_21, .int v5]) (rest := []) ⟨hx, hb, hml, hown, hts⟩ (kX5_fraction l hq_22) (va_cwS 3 hts gX5_says_X5_fraction rfl rfl rfl (by decide +kernel) ⟨Nat.le_of_ble_eq_true rfl, Nat.le_of_ble_eq_true rfl⟩) psS rfl rfl hl.1 rfl (lv_room (Nat.le_of_ble_eq_true rfl)) dX5_says_123 ⟨Nat.zero_le _, Nat.zero_le _⟩) ?_
      exact x_lret hx hb hr hlocks hP hS dX5_says_126 (Prod.mk.inj (Option.some.inj hf)).1 (Prod.mk.inj (Option.some.inj hf)).2
  refine lv_iload_n hx hb dX5_says_0 rfl (lv_at hl 2 rfl) ?_
  refine lv_if_lt (tgt := 8) hx hb dX5_says_1 (by decide) (fun c_1001 => ?_) (fun c_1001 => ?_)
  · have hf := (if_pos c_1001).symm.trans hf
    exact j_8 σ _ _ _ hP hS (lv_sub hl [0] rfl) hf
  · have hf := (if_neg c_1001).symm.trans hf
    refine lv_iload_n hx hb dX5_says_4 rfl (lv_at hl 3 rfl) ?_
    refine lv_if_ge (tgt := 15) hx hb dX5_says_5 (by decide) (fun c_1002 => ?_) (fun c_1002 => ?_)
    · have hf := (if_pos c_1002).symm.trans hf
      refine lv_iload_n hx hb dX5_says_15 rfl (lv_at hl 2 rfl) ?_
      refine lv_bipush (v := (9 : Int32)) hx hb dX5_says_16 (by decide) ?_
      refine lv_icmp_gt (tgt := 27) hx hb dX5_says_18 (by decide) (fun c_1003 => ?_) (fun c_1003 => ?_)
      · have hf := (if_pos c_1003).symm.trans hf
        exact j_27 σ _ _ _ hP hS (lv_sub hl [0] rfl) hf
      · have hf := (if_neg c_1003).symm.trans hf
        refine lv_iload_n hx hb dX5_says_21 rfl (lv_at hl 3 rfl) ?_
        refine lv_bipush (v := (9 : Int32)) hx hb dX5_says_22 (by decide) ?_
        refine lv_icmp_le (tgt := 34) hx hb dX5_says_24 (by decide) (fun c_1004 => ?_) (fun c_1004 => ?_)
        · have hf := (if_pos c_1004).symm.trans hf
          refine lv_iload_n hx hb dX5_says_34 rfl (lv_at hl 1 rfl) ?_
          obtain ⟨q_1005, hq_1005, hf⟩ := x_bd hf
          refine x_callSi (va_runS (As := [.int a0]) (rest := []) ⟨hx, hb, hml, hown, hts⟩ (kX5_isNoBit l hq_1005) (va_cwS 1 hts gX5_says_X5_isNoBit rfl rfl rfl (by decide +kernel) ⟨Nat.le_of_ble_eq_true rfl, Nat.le_of_ble_eq_true rfl⟩) psS rfl rfl hl.1 rfl (lv_room (Nat.le_of_ble_eq_true rfl)) dX5_says_35 ⟨Nat.zero_le _, Nat.zero_le _⟩) ?_
          refine lv_if_ne (tgt := 57) hx hb dX5_says_38 (by decide) (fun c_1006 => ?_) (fun c_1006 => ?_)
          · have hf := (if_neg c_1006).symm.trans hf
            exact j_57 σ _ _ _ hP hS (lv_sub hl [0] rfl) hf
          · have hf := (if_pos c_1006).symm.trans hf
            refine lv_iload hx hb dX5_says_41 (lv_at hl 4 rfl) ?_
            obtain ⟨q_1007, hq_1007, hf⟩ := x_bd hf
            refine x_callSi (va_runS (As := [.int a3]) (rest := []) ⟨hx, hb, hml, hown, hts⟩ (kX5_isNoBit l hq_1007) (va_cwS 1 hts gX5_says_X5_isNoBit rfl rfl rfl (by decide +kernel) ⟨Nat.le_of_ble_eq_true rfl, Nat.le_of_ble_eq_true rfl⟩) psS rfl rfl hl.1 rfl (lv_room (Nat.le_of_ble_eq_true rfl)) dX5_says_43 ⟨Nat.zero_le _, Nat.zero_le _⟩) ?_
            refine lv_if_ne (tgt := 57) hx hb dX5_says_46 (by decide) (fun c_1008 => ?_) (fun c_1008 => ?_)
            · have hf := (if_neg c_1008).symm.trans hf
              exact j_57 σ _ _ _ hP hS (lv_sub hl [0] rfl) hf
            · have hf := (if_pos c_1008).symm.trans hf
              refine lv_iload hx hb dX5_says_49 (lv_at hl 5 rfl) ?_
              obtain ⟨q_1009, hq_1009, hf⟩ := x_bd hf
              refine x_callSi (va_runS (As := [.int a4]) (rest := []) ⟨hx, hb, hml, hown, hts⟩ (kX5_isNoBit l hq_1009) (va_cwS 1 hts gX5_says_X5_isNoBit rfl rfl rfl (by decide +kernel) ⟨Nat.le_of_ble_eq_true rfl, Nat.le_of_ble_eq_true rfl⟩) psS rfl rfl hl.1 rfl (lv_room (Nat.le_of_ble_eq_true rfl)) dX5_says_51 ⟨Nat.zero_le _, Nat.zero_le _⟩) ?_
              refine lv_if_eq (tgt := 64) hx hb dX5_says_54 (by decide) (fun c_1010 => ?_) (fun c_1010 => ?_)
              · have hf := (if_pos c_1010).symm.trans hf
                refine lv_aload_n hx hb dX5_says_64 rfl (lv_at hl 0 rfl) ?_
                obtain ⟨q_1011, hq_1011, hf⟩ := x_bd hf
                obtain ⟨c_1012, hf⟩ := x_ck hf
                refine x_callGr (va_runV (As := []) (rest := []) ⟨hx, hb, hml, hown, hts⟩ (kX5_tallyNow l z hz hq_1011) (cwV 0 hts gX5_says_X5_tallyNow rfl rfl rfl (by decide +kernel) ⟨Nat.le_of_ble_eq_true rfl, Nat.le_of_ble_eq_true rfl⟩) (pvG hK hP hE hS (va_recv hK hP (ci := 5) (q0 := 0) rfl (wl_at (by decide) cX5))) rfl rfl hl.1 rfl (lv_room (Nat.le_of_ble_eq_true rfl)) dX5_says_65 ⟨Nat.zero_le _, Nat.zero_le _⟩) hS (fun H locs hP hS => ?_)
                refine lv_astore (lv' := [(6, .ref (z.2.1 q_1011.1)), (0, .ref (z.2.1 0)), (1, .int a0), (2, .int a1), (3, .int a2), (4, .int a3), (5, .int a4)]) hx hb dX5_says_68 hl (by decide) rfl (fun ls hl => ?_)
                refine lv_iload_n hx hb dX5_says_70 rfl (lv_at hl 3 rfl) ?_
                refine lv_iload_n hx hb dX5_says_71 rfl (lv_at hl 2 rfl) ?_
                refine lv_iadd hx hb dX5_says_72 ?_
                refine lv_istore (lv' := [(7, .int (a1 + a0)), (6, .ref (z.2.1 q_1011.1)), (0, .ref (z.2.1 0)), (1, .int a0), (2, .int a1), (3, .int a2), (4, .int a3), (5, .int a4)]) hx hb dX5_says_73 hl (by decide) rfl (fun ls hl => ?_)
                refine lv_iload_n hx hb dX5_says_75 rfl (lv_at hl 5 rfl) ?_
                refine lv_iconst (v := (1 : Int32)) hx hb dX5_says_76 (by decide) ?_
                refine lv_iadd hx hb dX5_says_77 ?_
                refine lv_iload_n hx hb dX5_says_78 rfl (lv_at hl 3 rfl) ?_
                refine lv_isub hx hb dX5_says_79 ?_
                refine lv_istore (lv' := [(8, .int ((a2 + (1 : Int32)) - a0)), (7, .int (a1 + a0)), (6, .ref (z.2.1 q_1011.1)), (0, .ref (z.2.1 0)), (1, .int a0), (2, .int a1), (3, .int a2), (4, .int a3), (5, .int a4)]) hx hb dX5_says_80 hl (by decide) rfl (fun ls hl => ?_)
                refine lv_aload hx hb dX5_says_82 (lv_at hl 2 rfl) ?_
                refine lv_iload hx hb dX5_says_84 (lv_at hl 1 rfl) ?_
                refine lv_iload hx hb dX5_says_86 (lv_at hl 0 rfl) ?_
                obtain ⟨q_1013, hq_1013, hf⟩ := x_bd hf
                refine x_callGl (va_runV (As := [.int (a1 + a0), .int ((a2 + (1 : Int32)) - a0)]) (rest := []) ⟨hx, hb, hml, hown, hts⟩ (kX1_families l z hz c_1012 hq_1013) (cwV 2 hts gX5_says_X1_families rfl rfl rfl (by decide +kernel) ⟨Nat.le_of_ble_eq_true rfl, Nat.le_of_ble_eq_true rfl⟩) (pvG hK hP hE hS (va_recv hK hP (ci := 1) (q0 := q_1011.1) rfl (wl_at (tal_lt c_1012) (cX1 c_1012)))) rfl rfl hl.1 rfl (lv_room (Nat.le_of_ble_eq_true rfl)) dX5_says_88 ⟨Nat.zero_le _, Nat.zero_le _⟩) hS (fun H locs hP hS => ?_)
                refine lv_iload_n hx hb dX5_says_91 rfl (lv_at hl 4 rfl) ?_
                refine lv_iconst (v := (1 : Int32)) hx hb dX5_says_92 (by decide) ?_
                refine lv_icmp_ne (tgt := 101) hx hb dX5_says_93 (by decide) (fun c_1014 => ?_) (fun c_1014 => ?_)
                · have hf := (if_neg c_1014).symm.trans hf
                  refine lv_iload hx hb dX5_says_101 (lv_at hl 0 rfl) ?_
                  exact j_103 a0 a3 a4 q_1011.1 (a1 + a0) ((a2 + (1 : Int32)) - a0) ((a2 + (1 : Int32)) - a0) q_1013 q_1011.2 _ _ _ c_1012 hP hS (lv_sub hl [4, 7, 8, 2, 1, 0] rfl) hf
                · have hf := (if_pos c_1014).symm.trans hf
                  refine lv_iload hx hb dX5_says_96 (lv_at hl 1 rfl) ?_
                  refine lv_goto (tgt := 103) hx hb dX5_says_98 (by decide) ?_
                  exact j_103 a0 a3 a4 q_1011.1 (a1 + a0) ((a2 + (1 : Int32)) - a0) (a1 + a0) q_1013 q_1011.2 _ _ _ c_1012 hP hS (lv_sub hl [4, 7, 8, 2, 1, 0] rfl) hf
              · have hf := (if_neg c_1010).symm.trans hf
                exact j_57 σ _ _ _ hP hS (lv_sub hl [0] rfl) hf
        · have hf := (if_neg c_1004).symm.trans hf
          exact j_27 σ _ _ _ hP hS (lv_sub hl [0] rfl) hf
    · have hf := (if_neg c_1002).symm.trans hf
      exact j_8 σ _ _ _ hP hS (lv_sub hl [0] rfl) hf
set_option maxHeartbeats 40000000 in
set_option maxRecDepth 100000 in
theorem kX5_trial (l : Launch) (z : Cx) (hz : okC 40 z) {a0 : Int32} {a1 : Int32} {a2 : Int32}  {σ σ' : Mm} {r : Int64} (hf : fX5_trial a0 a1 a2 σ = some (r, σ')) : KG 40 ceX l yX5_trial wsX5_trial (4) (105) [.ref (z.2.1 0), .int a0, .int a1, .int a2] z σ σ' (some (.long r)) := by
  rw [fX5_trial] at hf
  refine Met.ofW (cc := cX5_trial) (maxL := 4) (ret := (some .long)) (by decide) rfl ?_
  intro p e s m args below meth c s₁ B hml hv
  obtain ⟨rfl, hP, hK, hE⟩ := hv
  have hx := B.exec
  have hb := B.bytes
  have hr := B.returns
  have hts := atoms_spec (ws := wsX5_trial) B.pre
  have hown : s.vm.findClass RX5 = some m.cls := findClass_of_methodNamed B.named
  have hlocks := B.notSynchronized
  have in_X3 : ∀ w ∈ wsX30, w ∈ wsX5_trial := by decide +kernel
  have in_X5 : ∀ w ∈ wsX50, w ∈ wsX5_trial := by decide +kernel
  have hS : va_S (aG 40 z) s.heap s.heap [] := va_S.rf
  have hl := lv_entry ([.ref (z.2.1 0), .int a0, .int a1, .int a2]) (n := 4) (Nat.le_of_ble_eq_true rfl)
  rw [lg_entry_eq]
  generalize (lg_sl ([.ref (z.2.1 0), .int a0, .int a1, .int a2]) ++ List.replicate (4 - (lg_sl ([.ref (z.2.1 0), .int a0, .int a1, .int a2])).length) Slot.unset).toArray = ls at hl ⊢
  have hl : lv_has ls 4 [(0, .ref (z.2.1 0)), (1, .int a0), (2, .int a1), (3, .int a2)] := hl
  have j_10 : ∀ (σ : Mm) (H : Heap) (locs : List Loc) (ls : Array Slot), va_P z.1 vwCl (wl 40 z.2.1 (ceX z σ)) H → va_S (aG 40 z) s.heap H locs → lv_has ls 4 [(0, .ref (z.2.1 0))] → fX5_trial_10 σ = some (r, σ') → W p l e (headSpec wsX5_trial ({ frames := 4, cells := 0, slots := 0, locals := 105 })).room s m ([.ref (z.2.1 0), .int a0, .int a1, .int a2] : List Value).toArray below meth c H locs 0 0 (MQ below (qcG 40 ceX z σ' (some (.long r))) ([.ref (z.2.1 0), .int a0, .int a1, .int a2] : List Value).toArray s 0 0 (aG 40 z)) (F0 m 10 ls []) := by
    intro σ H locs ls hP hS hl hf
    rw [fX5_trial_10] at hf
    refine lv_aload_n hx hb dX5_trial_10 rfl (lv_at hl 0 rfl) ?_
    refine lv_bipush (v := (-4 : Int32)) hx hb dX5_trial_11 (by decide) ?_
    obtain ⟨q_11, hq_11, hf⟩ := x_bd hf
    refine x_callGl (va_runV (As := [.int (-4 : Int32)]) (rest := []) ⟨hx, hb, hml, hown, hts⟩ (kX5_refuseLong l z hz hq_11) (cwV 1 hts gX5_trial_X5_refuseLong rfl rfl rfl (by decide +kernel) ⟨Nat.le_of_ble_eq_true rfl, Nat.le_of_ble_eq_true rfl⟩) (pvG hK hP hE hS (va_recv hK hP (ci := 5) (q0 := 0) rfl (wl_at (by decide) cX5))) rfl rfl hl.1 rfl (lv_room (Nat.le_of_ble_eq_true rfl)) dX5_trial_13 ⟨Nat.zero_le _, Nat.zero_le _⟩) hS (fun H locs hP hS => ?_)
    exact x_lret hx hb hr hlocks hP hS dX5_trial_16 (Prod.mk.inj (Option.some.inj hf)).1 (Prod.mk.inj (Option.some.inj hf)).2
  have j_29 : ∀ (σ : Mm) (H : Heap) (locs : List Loc) (ls : Array Slot), va_P z.1 vwCl (wl 40 z.2.1 (ceX z σ)) H → va_S (aG 40 z) s.heap H locs → lv_has ls 4 [(0, .ref (z.2.1 0))] → fX5_trial_29 σ = some (r, σ') → W p l e (headSpec wsX5_trial ({ frames := 4, cells := 0, slots := 0, locals := 105 })).room s m ([.ref (z.2.1 0), .int a0, .int a1, .int a2] : List Value).toArray below meth c H locs 0 0 (MQ below (qcG 40 ceX z σ' (some (.long r))) ([.ref (z.2.1 0), .int a0, .int a1, .int a2] : List Value).toArray s 0 0 (aG 40 z)) (F0 m 29 ls []) := by
    intro σ H locs ls hP hS hl hf
    rw [fX5_trial_29] at hf
    refine lv_aload_n hx hb dX5_trial_29 rfl (lv_at hl 0 rfl) ?_
    refine lv_bipush (v := (-6 : Int32)) hx hb dX5_trial_30 (by decide) ?_
    obtain ⟨q_12, hq_12, hf⟩ := x_bd hf
    refine x_callGl (va_runV (As := [.int (-6 : Int32)]) (rest := []) ⟨hx, hb, hml, hown, hts⟩ (kX5_refuseLong l z hz hq_12) (cwV 1 hts gX5_trial_X5_refuseLong rfl rfl rfl (by decide +kernel) ⟨Nat.le_of_ble_eq_true rfl, Nat.le_of_ble_eq_true rfl⟩) (pvG hK hP hE hS (va_recv hK hP (ci := 5) (q0 := 0) rfl (wl_at (by decide) cX5))) rfl rfl hl.1 rfl (lv_room (Nat.le_of_ble_eq_true rfl)) dX5_trial_32 ⟨Nat.zero_le _, Nat.zero_le _⟩) hS (fun H locs hP hS => ?_)
    exact x_lret hx hb hr hlocks hP hS dX5_trial_35 (Prod.mk.inj (Option.some.inj hf)).1 (Prod.mk.inj (Option.some.inj hf)).2
  refine lv_iload_n hx hb dX5_trial_0 rfl (lv_at hl 1 rfl) ?_
  refine lv_iconst (v := (1 : Int32)) hx hb dX5_trial_1 (by decide) ?_
  refine lv_icmp_lt (tgt := 10) hx hb dX5_trial_2 (by decide) (fun c_1001 => ?_) (fun c_1001 => ?_)
  · have hf := (if_pos c_1001).symm.trans hf
    exact j_10 σ _ _ _ hP hS (lv_sub hl [0] rfl) hf
  · have hf := (if_neg c_1001).symm.trans hf
    refine lv_iload_n hx hb dX5_trial_5 rfl (lv_at hl 2 rfl) ?_
    refine lv_iconst (v := (1 : Int32)) hx hb dX5_trial_6 (by decide) ?_
    refine lv_icmp_ge (tgt := 17) hx hb dX5_trial_7 (by decide) (fun c_1002 => ?_) (fun c_1002 => ?_)
    · have hf := (if_pos c_1002).symm.trans hf
      refine lv_iload_n hx hb dX5_trial_17 rfl (lv_at hl 1 rfl) ?_
      refine lv_bipush (v := (10 : Int32)) hx hb dX5_trial_18 (by decide) ?_
      refine lv_icmp_gt (tgt := 29) hx hb dX5_trial_20 (by decide) (fun c_1003 => ?_) (fun c_1003 => ?_)
      · have hf := (if_pos c_1003).symm.trans hf
        exact j_29 σ _ _ _ hP hS (lv_sub hl [0] rfl) hf
      · have hf := (if_neg c_1003).symm.trans hf
        refine lv_iload_n hx hb dX5_trial_23 rfl (lv_at hl 2 rfl) ?_
        refine lv_bipush (v := (9 : Int32)) hx hb dX5_trial_24 (by decide) ?_
        refine lv_icmp_le (tgt := 36) hx hb dX5_trial_26 (by decide) (fun c_1004 => ?_) (fun c_1004 => ?_)
        · have hf := (if_pos c_1004).symm.trans hf
          refine lv_iload_n hx hb dX5_trial_36 rfl (lv_at hl 3 rfl) ?_
          obtain ⟨q_1005, hq_1005, hf⟩ := x_bd hf
          refine x_callSi (va_runS (As := [.int a2]) (rest := []) ⟨hx, hb, hml, hown, hts⟩ (kX5_isNoBit l hq_1005) (va_cwS 1 hts gX5_trial_X5_isNoBit rfl rfl rfl (by decide +kernel) ⟨Nat.le_of_ble_eq_true rfl, Nat.le_of_ble_eq_true rfl⟩) psS rfl rfl hl.1 rfl (lv_room (Nat.le_of_ble_eq_true rfl)) dX5_trial_37 ⟨Nat.zero_le _, Nat.zero_le _⟩) ?_
          refine lv_if_eq (tgt := 50) hx hb dX5_trial_40 (by decide) (fun c_1006 => ?_) (fun c_1006 => ?_)
          · have hf := (if_pos c_1006).symm.trans hf
            refine lv_aload_n hx hb dX5_trial_50 rfl (lv_at hl 0 rfl) ?_
            refine va_get (D := z.1) (ci := 5) (v := .ref (z.2.1 32)) (C := RX5) (T := TX5) (N := 10) hx hb hts in_X5 hown hK hP 0 (wl_at (by decide) cX5) rfl 9 (by decide) (hts (.fieldLink RX5 45 "TillOneOfSort" "spare" "LTillOneOfSort$Tally;") (by decide +kernel)) (fun _ h9 => h9) rfl dX5_trial_51 ?_
            refine lv_iconst (v := (2 : Int32)) hx hb dX5_trial_54 (by decide) ?_
            refine lv_iload_n hx hb dX5_trial_55 rfl (lv_at hl 2 rfl) ?_
            refine lv_iload_n hx hb dX5_trial_56 rfl (lv_at hl 1 rfl) ?_
            refine lv_aload_n hx hb dX5_trial_57 rfl (lv_at hl 0 rfl) ?_
            refine va_get (D := z.1) (ci := 5) (v := .ref (z.2.1 1)) (C := RX5) (T := TX5) (N := 10) hx hb hts in_X5 hown hK hP 0 (wl_at (by decide) cX5) rfl 0 (by decide) (hts (.fieldLink RX5 10 "TillOneOfSort" "told" "LTillOneOfSort$Told;") (by decide +kernel)) (fun _ h9 => h9) rfl dX5_trial_58 ?_
            refine va_getN (D := z.1) (ci := 3) (v := .int (gI σ 1 3)) (C := RX3) (T := TX3) (N := 8) hx hb hts in_X3 hown hK hP 1 (wl_at (told_lt (rfl : isTold 1 = true)) (cX3 (rfl : isTold 1 = true))) rfl 3 (by decide) (hE.1.at (List.mem_of_getElem? (i := 0) rfl) rfl) (fun _ h9 => h9) rfl dX5_trial_61 ?_
            refine lv_aload_n hx hb dX5_trial_64 rfl (lv_at hl 0 rfl) ?_
            refine va_get (D := z.1) (ci := 5) (v := .ref (z.2.1 1)) (C := RX5) (T := TX5) (N := 10) hx hb hts in_X5 hown hK hP 0 (wl_at (by decide) cX5) rfl 0 (by decide) (hts (.fieldLink RX5 10 "TillOneOfSort" "told" "LTillOneOfSort$Told;") (by decide +kernel)) (fun _ h9 => h9) rfl dX5_trial_65 ?_
            refine va_getN (D := z.1) (ci := 3) (v := .int (gI σ 1 4)) (C := RX3) (T := TX3) (N := 8) hx hb hts in_X3 hown hK hP 1 (wl_at (told_lt (rfl : isTold 1 = true)) (cX3 (rfl : isTold 1 = true))) rfl 4 (by decide) (hE.1.at (List.mem_of_getElem? (i := 1) rfl) rfl) (fun _ h9 => h9) rfl dX5_trial_68 ?_
            obtain ⟨q_1007, hq_1007, hf⟩ := x_bd hf
            refine x_callGv (va_runV (As := [.int (2 : Int32), .int a1, .int a0, .int (gI σ 1 3), .int (gI σ 1 4)]) (rest := []) ⟨hx, hb, hml, hown, hts⟩ (kX1_retell l z hz (rfl : isTal 32 = true) hq_1007) (cwV 5 hts gX5_trial_X1_retell rfl rfl rfl (by decide +kernel) ⟨Nat.le_of_ble_eq_true rfl, Nat.le_of_ble_eq_true rfl⟩) (pvG hK hP hE hS (va_recv hK hP (ci := 1) (q0 := 32) rfl (wl_at (tal_lt (rfl : isTal 32 = true)) (cX1 (rfl : isTal 32 = true))))) rfl rfl hl.1 rfl (lv_room (Nat.le_of_ble_eq_true rfl)) dX5_trial_71 ⟨Nat.zero_le _, Nat.zero_le _⟩) hS (fun H locs hP hS => ?_)
            refine lv_aload_n hx hb dX5_trial_74 rfl (lv_at hl 0 rfl) ?_
            refine va_get (D := z.1) (ci := 5) (v := .ref (z.2.1 32)) (C := RX5) (T := TX5) (N := 10) hx hb hts in_X5 hown hK hP 0 (wl_at (by decide) cX5) rfl 9 (by decide) (hts (.fieldLink RX5 45 "TillOneOfSort" "spare" "LTillOneOfSort$Tally;") (by decide +kernel)) (fun _ h9 => h9) rfl dX5_trial_75 ?_
            refine lv_bipush (v := (10 : Int32)) hx hb dX5_trial_78 (by decide) ?_
            refine lv_iload_n hx hb dX5_trial_80 rfl (lv_at hl 2 rfl) ?_
            obtain ⟨q_1008, hq_1008, hf⟩ := x_bd hf
            refine x_callGl (va_runV (As := [.int (10 : Int32), .int a1]) (rest := []) ⟨hx, hb, hml, hown, hts⟩ (kX1_sum l z hz (rfl : isTal 32 = true) hq_1008) (cwV 2 hts gX5_trial_X1_sum rfl rfl rfl (by decide +kernel) ⟨Nat.le_of_ble_eq_true rfl, Nat.le_of_ble_eq_true rfl⟩) (pvG hK hP hE hS (va_recv hK hP (ci := 1) (q0 := 32) rfl (wl_at (tal_lt (rfl : isTal 32 = true)) (cX1 (rfl : isTal 32 = true))))) rfl rfl hl.1 rfl (lv_room (Nat.le_of_ble_eq_true rfl)) dX5_trial_81 ⟨Nat.zero_le _, Nat.zero_le _⟩) hS (fun H locs hP hS => ?_)
            refine lv_ldc2 (v := (61917364224 : Int64)) hx hb hown (hts (.constantLong RX5 107 (61917364224 : Int64)) (by decide +kernel)) dX5_trial_84 ?_
            refine lv_iload_n hx hb dX5_trial_87 rfl (lv_at hl 3 rfl) ?_
            obtain ⟨q_1009, hq_1009, hf⟩ := x_bd hf
            refine x_callSl (va_runS (As := [.long q_1008, .long (61917364224 : Int64), .int a2]) (rest := []) ⟨hx, hb, hml, hown, hts⟩ (kX5_fraction l hq_1009) (va_cwS 3 hts gX5_trial_X5_fraction rfl rfl rfl (by decide +kernel) ⟨Nat.le_of_ble_eq_true rfl, Nat.le_of_ble_eq_true rfl⟩) psS rfl rfl hl.1 rfl (lv_room (Nat.le_of_ble_eq_true rfl)) dX5_trial_88 ⟨Nat.zero_le _, Nat.zero_le _⟩) ?_
            exact x_lret hx hb hr hlocks hP hS dX5_trial_91 (Prod.mk.inj (Option.some.inj hf)).1 (Prod.mk.inj (Option.some.inj hf)).2
          · have hf := (if_neg c_1006).symm.trans hf
            refine lv_aload_n hx hb dX5_trial_43 rfl (lv_at hl 0 rfl) ?_
            refine lv_bipush (v := (-2 : Int32)) hx hb dX5_trial_44 (by decide) ?_
            obtain ⟨q_1010, hq_1010, hf⟩ := x_bd hf
            refine x_callGl (va_runV (As := [.int (-2 : Int32)]) (rest := []) ⟨hx, hb, hml, hown, hts⟩ (kX5_refuseLong l z hz hq_1010) (cwV 1 hts gX5_trial_X5_refuseLong rfl rfl rfl (by decide +kernel) ⟨Nat.le_of_ble_eq_true rfl, Nat.le_of_ble_eq_true rfl⟩) (pvG hK hP hE hS (va_recv hK hP (ci := 5) (q0 := 0) rfl (wl_at (by decide) cX5))) rfl rfl hl.1 rfl (lv_room (Nat.le_of_ble_eq_true rfl)) dX5_trial_46 ⟨Nat.zero_le _, Nat.zero_le _⟩) hS (fun H locs hP hS => ?_)
            exact x_lret hx hb hr hlocks hP hS dX5_trial_49 (Prod.mk.inj (Option.some.inj hf)).1 (Prod.mk.inj (Option.some.inj hf)).2
        · have hf := (if_neg c_1004).symm.trans hf
          exact j_29 σ _ _ _ hP hS (lv_sub hl [0] rfl) hf
    · have hf := (if_neg c_1002).symm.trans hf
      exact j_10 σ _ _ _ hP hS (lv_sub hl [0] rfl) hf
set_option maxHeartbeats 40000000 in
set_option maxRecDepth 100000 in
theorem kX5_row (l : Launch) (z : Cx) (hz : okC 40 z) {a0 : Int32}  {σ σ' : Mm} {r : Int32} (hf : fX5_row a0 σ = some (r, σ')) : KG 40 ceX l yX5_row wsX5_row (1) (22) [.ref (z.2.1 0), .int a0] z σ σ' (some (.int r)) := by
  rw [fX5_row] at hf
  refine Met.ofW (cc := cX5_row) (maxL := 2) (ret := (some .int)) (by decide) rfl ?_
  intro p e s m args below meth c s₁ B hml hv
  obtain ⟨rfl, hP, hK, hE⟩ := hv
  have hx := B.exec
  have hb := B.bytes
  have hr := B.returns
  have hts := atoms_spec (ws := wsX5_row) B.pre
  have hown : s.vm.findClass RX5 = some m.cls := findClass_of_methodNamed B.named
  have hlocks := B.notSynchronized
  have in_X5 : ∀ w ∈ wsX50, w ∈ wsX5_row := by decide +kernel
  have hS : va_S (aG 40 z) s.heap s.heap [] := va_S.rf
  have hl := lv_entry ([.ref (z.2.1 0), .int a0]) (n := 2) (Nat.le_of_ble_eq_true rfl)
  rw [lg_entry_eq]
  generalize (lg_sl ([.ref (z.2.1 0), .int a0]) ++ List.replicate (2 - (lg_sl ([.ref (z.2.1 0), .int a0])).length) Slot.unset).toArray = ls at hl ⊢
  have hl : lv_has ls 2 [(0, .ref (z.2.1 0)), (1, .int a0)] := hl
  refine lv_iload_n hx hb dX5_row_0 rfl (lv_at hl 1 rfl) ?_
  obtain ⟨q_1001, hq_1001, hf⟩ := x_bd hf
  refine x_callSi (va_runS (As := [.int a0]) (rest := []) ⟨hx, hb, hml, hown, hts⟩ (kX5_isNoBit l hq_1001) (va_cwS 1 hts gX5_row_X5_isNoBit rfl rfl rfl (by decide +kernel) ⟨Nat.le_of_ble_eq_true rfl, Nat.le_of_ble_eq_true rfl⟩) psS rfl rfl hl.1 rfl (lv_room (Nat.le_of_ble_eq_true rfl)) dX5_row_1 ⟨Nat.zero_le _, Nat.zero_le _⟩) ?_
  refine lv_if_eq (tgt := 14) hx hb dX5_row_4 (by decide) (fun c_1002 => ?_) (fun c_1002 => ?_)
  · have hf := (if_pos c_1002).symm.trans hf
    refine lv_aload_n hx hb dX5_row_14 rfl (lv_at hl 0 rfl) ?_
    refine va_get (D := z.1) (ci := 5) (v := .int (gI σ 0 5)) (C := RX5) (T := TX5) (N := 10) hx hb hts in_X5 hown hK hP 0 (wl_at (by decide) cX5) rfl 5 (by decide) (hts (.fieldLink RX5 132 "TillOneOfSort" "rowLength" "I") (by decide +kernel)) (fun _ h9 => h9) rfl dX5_row_15 ?_
    refine lv_bipush (v := (10 : Int32)) hx hb dX5_row_18 (by decide) ?_
    refine lv_icmp_lt (tgt := 30) hx hb dX5_row_20 (by decide) (fun c_1003 => ?_) (fun c_1003 => ?_)
    · have hf := (if_pos c_1003).symm.trans hf
      refine lv_aload_n hx hb dX5_row_30 rfl (lv_at hl 0 rfl) ?_
      refine lv_dup hx hb dX5_row_31 rfl ?_
      refine va_get (D := z.1) (ci := 5) (v := .int (gI σ 0 6)) (C := RX5) (T := TX5) (N := 10) hx hb hts in_X5 hown hK hP 0 (wl_at (by decide) cX5) rfl 6 (by decide) (hts (.fieldLink RX5 135 "TillOneOfSort" "rowSorts" "I") (by decide +kernel)) (fun _ h9 => h9) rfl dX5_row_32 ?_
      refine lv_iload_n hx hb dX5_row_35 rfl (lv_at hl 1 rfl) ?_
      refine lv_aload_n hx hb dX5_row_36 rfl (lv_at hl 0 rfl) ?_
      refine va_get (D := z.1) (ci := 5) (v := .int (gI σ 0 5)) (C := RX5) (T := TX5) (N := 10) hx hb hts in_X5 hown hK hP 0 (wl_at (by decide) cX5) rfl 5 (by decide) (hts (.fieldLink RX5 132 "TillOneOfSort" "rowLength" "I") (by decide +kernel)) (fun _ h9 => h9) rfl dX5_row_37 ?_
      refine lv_ishl hx hb dX5_row_40 ?_
      refine lv_ior hx hb dX5_row_41 ?_
      refine va_put (D := z.1) (ci := 5) (v := .int ((gI σ 0 6) ||| (a0 <<< ((gI σ 0 5) &&& 31)))) (ty := .int) (C := RX5) (T := TX5) (N := 10) hx hb hts in_X5 tyX5 tyX5_ok nmX5 hown hK hP (wl_D hz _) hS 0 (wl_at (by decide) cX5) rfl 6 (by decide) (hts (.fieldLink RX5 135 "TillOneOfSort" "rowSorts" "I") (by decide +kernel)) (fun _ h9 => h9) rfl (by decide +kernel) rfl rfl (Nat.le_of_ble_eq_true rfl) dX5_row_42 (fun H locs hP _ hS => ?_)
      rw [sX5 (by decide)] at hP
      refine lv_aload_n hx hb dX5_row_45 rfl (lv_at hl 0 rfl) ?_
      refine lv_dup hx hb dX5_row_46 rfl ?_
      refine va_get (D := z.1) (ci := 5) (v := .int (gI (pI σ 0 6 ((gI σ 0 6) ||| (a0 <<< ((gI σ 0 5) &&& 31)))) 0 5)) (C := RX5) (T := TX5) (N := 10) hx hb hts in_X5 hown hK hP 0 (wl_at (by decide) cX5) rfl 5 (by decide) (hts (.fieldLink RX5 132 "TillOneOfSort" "rowLength" "I") (by decide +kernel)) (fun _ h9 => h9) rfl dX5_row_47 ?_
      refine lv_iconst (v := (1 : Int32)) hx hb dX5_row_50 (by decide) ?_
      refine lv_iadd hx hb dX5_row_51 ?_
      refine va_put (D := z.1) (ci := 5) (v := .int ((gI (pI σ 0 6 ((gI σ 0 6) ||| (a0 <<< ((gI σ 0 5) &&& 31)))) 0 5) + (1 : Int32))) (ty := .int) (C := RX5) (T := TX5) (N := 10) hx hb hts in_X5 tyX5 tyX5_ok nmX5 hown hK hP (wl_D hz _) hS 0 (wl_at (by decide) cX5) rfl 5 (by decide) (hts (.fieldLink RX5 132 "TillOneOfSort" "rowLength" "I") (by decide +kernel)) (fun _ h9 => h9) rfl (by decide +kernel) rfl rfl (Nat.le_of_ble_eq_true rfl) dX5_row_52 (fun H locs hP _ hS => ?_)
      rw [sX5 (by decide)] at hP
      refine lv_aload_n hx hb dX5_row_55 rfl (lv_at hl 0 rfl) ?_
      refine va_get (D := z.1) (ci := 5) (v := .int (gI (pI (pI σ 0 6 ((gI σ 0 6) ||| (a0 <<< ((gI σ 0 5) &&& 31)))) 0 5 ((gI (pI σ 0 6 ((gI σ 0 6) ||| (a0 <<< ((gI σ 0 5) &&& 31)))) 0 5) + (1 : Int32))) 0 5)) (C := RX5) (T := TX5) (N := 10) hx hb hts in_X5 hown hK hP 0 (wl_at (by decide) cX5) rfl 5 (by decide) (hts (.fieldLink RX5 132 "TillOneOfSort" "rowLength" "I") (by decide +kernel)) (fun _ h9 => h9) rfl dX5_row_56 ?_
      exact x_iret hx hb hr hlocks hP hS dX5_row_59 (Prod.mk.inj (Option.some.inj hf)).1 (Prod.mk.inj (Option.some.inj hf)).2
    · have hf := (if_neg c_1003).symm.trans hf
      refine lv_aload_n hx hb dX5_row_23 rfl (lv_at hl 0 rfl) ?_
      refine lv_bipush (v := (-6 : Int32)) hx hb dX5_row_24 (by decide) ?_
      obtain ⟨q_1004, hq_1004, hf⟩ := x_bd hf
      refine x_callGi (va_runV (As := [.int (-6 : Int32)]) (rest := []) ⟨hx, hb, hml, hown, hts⟩ (kX5_refuse l z hz hq_1004) (cwV 1 hts gX5_row_X5_refuse rfl rfl rfl (by decide +kernel) ⟨Nat.le_of_ble_eq_true rfl, Nat.le_of_ble_eq_true rfl⟩) (pvG hK hP hE hS (va_recv hK hP (ci := 5) (q0 := 0) rfl (wl_at (by decide) cX5))) rfl rfl hl.1 rfl (lv_room (Nat.le_of_ble_eq_true rfl)) dX5_row_26 ⟨Nat.zero_le _, Nat.zero_le _⟩) hS (fun H locs hP hS => ?_)
      exact x_iret hx hb hr hlocks hP hS dX5_row_29 (Prod.mk.inj (Option.some.inj hf)).1 (Prod.mk.inj (Option.some.inj hf)).2
  · have hf := (if_neg c_1002).symm.trans hf
    refine lv_aload_n hx hb dX5_row_7 rfl (lv_at hl 0 rfl) ?_
    refine lv_bipush (v := (-2 : Int32)) hx hb dX5_row_8 (by decide) ?_
    obtain ⟨q_1005, hq_1005, hf⟩ := x_bd hf
    refine x_callGi (va_runV (As := [.int (-2 : Int32)]) (rest := []) ⟨hx, hb, hml, hown, hts⟩ (kX5_refuse l z hz hq_1005) (cwV 1 hts gX5_row_X5_refuse rfl rfl rfl (by decide +kernel) ⟨Nat.le_of_ble_eq_true rfl, Nat.le_of_ble_eq_true rfl⟩) (pvG hK hP hE hS (va_recv hK hP (ci := 5) (q0 := 0) rfl (wl_at (by decide) cX5))) rfl rfl hl.1 rfl (lv_room (Nat.le_of_ble_eq_true rfl)) dX5_row_10 ⟨Nat.zero_le _, Nat.zero_le _⟩) hS (fun H locs hP hS => ?_)
    exact x_iret hx hb hr hlocks hP hS dX5_row_13 (Prod.mk.inj (Option.some.inj hf)).1 (Prod.mk.inj (Option.some.inj hf)).2
set_option maxHeartbeats 40000000 in
set_option maxRecDepth 100000 in
theorem kJ6_bitCount_0f7a4 (l : Launch) {a0 : Int32}  {r : Int32} (hf : fJ6_bitCount_0f7a4 a0 = some r) : KS l yJ6_bitCount_0f7a4 wsJ6_bitCount_0f7a4 (0) (0) [.int a0] (some (.int r)) := by
  rw [fJ6_bitCount_0f7a4] at hf
  refine Met.ofW (cc := cJ6_bitCount_0f7a4) (maxL := 1) (ret := (some .int)) (by decide) rfl ?_
  intro p e s m args below meth c s₁ B hml hv
  obtain ⟨rfl, -⟩ := hv
  have hx := B.exec
  have hb := B.bytes
  have hr := B.returns
  have hts := atoms_spec (ws := wsJ6_bitCount_0f7a4) B.pre
  have hown : s.vm.findClass RJ6 = some m.cls := findClass_of_methodNamed B.named
  have hlocks := B.notSynchronized
  have hl := lv_entry ([.int a0]) (n := 1) (Nat.le_of_ble_eq_true rfl)
  rw [lg_entry_eq]
  generalize (lg_sl ([.int a0]) ++ List.replicate (1 - (lg_sl ([.int a0])).length) Slot.unset).toArray = ls at hl ⊢
  have hl : lv_has ls 1 [(0, .int a0)] := hl
  refine lv_iload_n hx hb dJ6_bitCount_0f7a4_0 rfl (lv_at hl 0 rfl) ?_
  refine lv_iload_n hx hb dJ6_bitCount_0f7a4_1 rfl (lv_at hl 0 rfl) ?_
  refine lv_iconst (v := (1 : Int32)) hx hb dJ6_bitCount_0f7a4_2 (by decide) ?_
  refine lv_iushr (v := (a0.toUInt32 >>> ((1 : Int32).toUInt32 &&& Int32.toUInt32 31)).toInt32) hx hb dJ6_bitCount_0f7a4_3 rfl ?_
  refine lv_ldcw (v := (1431655765 : Int32)) hx hb hown (hts (.constant RJ6 265 (1431655765 : Int32)) (by decide +kernel)) dJ6_bitCount_0f7a4_4 ?_
  refine lv_iand hx hb dJ6_bitCount_0f7a4_7 ?_
  refine lv_isub hx hb dJ6_bitCount_0f7a4_8 ?_
  refine lv_istore_n (lv' := [(0, .int (a0 - (((a0.toUInt32 >>> ((1 : Int32).toUInt32 &&& Int32.toUInt32 31)).toInt32) &&& (1431655765 : Int32))))]) hx hb dJ6_bitCount_0f7a4_9 rfl hl (by decide) rfl (fun ls hl => ?_)
  refine lv_iload_n hx hb dJ6_bitCount_0f7a4_10 rfl (lv_at hl 0 rfl) ?_
  refine lv_ldcw (v := (858993459 : Int32)) hx hb hown (hts (.constant RJ6 266 (858993459 : Int32)) (by decide +kernel)) dJ6_bitCount_0f7a4_11 ?_
  refine lv_iand hx hb dJ6_bitCount_0f7a4_14 ?_
  refine lv_iload_n hx hb dJ6_bitCount_0f7a4_15 rfl (lv_at hl 0 rfl) ?_
  refine lv_iconst (v := (2 : Int32)) hx hb dJ6_bitCount_0f7a4_16 (by decide) ?_
  refine lv_iushr (v := ((a0 - (((a0.toUInt32 >>> ((1 : Int32).toUInt32 &&& Int32.toUInt32 31)).toInt32) &&& (1431655765 : Int32))).toUInt32 >>> ((2 : Int32).toUInt32 &&& Int32.toUInt32 31)).toInt32) hx hb dJ6_bitCount_0f7a4_17 rfl ?_
  refine lv_ldcw (v := (858993459 : Int32)) hx hb hown (hts (.constant RJ6 266 (858993459 : Int32)) (by decide +kernel)) dJ6_bitCount_0f7a4_18 ?_
  refine lv_iand hx hb dJ6_bitCount_0f7a4_21 ?_
  refine lv_iadd hx hb dJ6_bitCount_0f7a4_22 ?_
  refine lv_istore_n (lv' := [(0, .int (((a0 - (((a0.toUInt32 >>> ((1 : Int32).toUInt32 &&& Int32.toUInt32 31)).toInt32) &&& (1431655765 : Int32))) &&& (858993459 : Int32)) + ((((a0 - (((a0.toUInt32 >>> ((1 : Int32).toUInt32 &&& Int32.toUInt32 31)).toInt32) &&& (1431655765 : Int32))).toUInt32 >>> ((2 : Int32).toUInt32 &&& Int32.toUInt32 31)).toInt32) &&& (858993459 : Int32))))]) hx hb dJ6_bitCount_0f7a4_23 rfl hl (by decide) rfl (fun ls hl => ?_)
  refine lv_iload_n hx hb dJ6_bitCount_0f7a4_24 rfl (lv_at hl 0 rfl) ?_
  refine lv_iload_n hx hb dJ6_bitCount_0f7a4_25 rfl (lv_at hl 0 rfl) ?_
  refine lv_iconst (v := (4 : Int32)) hx hb dJ6_bitCount_0f7a4_26 (by decide) ?_
  refine lv_iushr (v := ((((a0 - (((a0.toUInt32 >>> ((1 : Int32).toUInt32 &&& Int32.toUInt32 31)).toInt32) &&& (1431655765 : Int32))) &&& (858993459 : Int32)) + ((((a0 - (((a0.toUInt32 >>> ((1 : Int32).toUInt32 &&& Int32.toUInt32 31)).toInt32) &&& (1431655765 : Int32))).toUInt32 >>> ((2 : Int32).toUInt32 &&& Int32.toUInt32 31)).toInt32) &&& (858993459 : Int32))).toUInt32 >>> ((4 : Int32).toUInt32 &&& Int32.toUInt32 31)).toInt32) hx hb dJ6_bitCount_0f7a4_27 rfl ?_
  refine lv_iadd hx hb dJ6_bitCount_0f7a4_28 ?_
  refine lv_ldcw (v := (252645135 : Int32)) hx hb hown (hts (.constant RJ6 267 (252645135 : Int32)) (by decide +kernel)) dJ6_bitCount_0f7a4_29 ?_
  refine lv_iand hx hb dJ6_bitCount_0f7a4_32 ?_
  refine lv_istore_n (lv' := [(0, .int (((((a0 - (((a0.toUInt32 >>> ((1 : Int32).toUInt32 &&& Int32.toUInt32 31)).toInt32) &&& (1431655765 : Int32))) &&& (858993459 : Int32)) + ((((a0 - (((a0.toUInt32 >>> ((1 : Int32).toUInt32 &&& Int32.toUInt32 31)).toInt32) &&& (1431655765 : Int32))).toUInt32 >>> ((2 : Int32).toUInt32 &&& Int32.toUInt32 31)).toInt32) &&& (858993459 : Int32))) + (((((a0 - (((a0.toUInt32 >>> ((1 : Int32).toUInt32 &&& Int32.toUInt32 31)).toInt32) &&& (1431655765 : Int32))) &&& (858993459 : Int32)) + ((((a0 - (((a0.toUInt32 >>> ((1 : Int32).toUInt32 &&& Int32.toUInt32 31)).toInt32) &&& (1431655765 : Int32))).toUInt32 >>> ((2 : Int32).toUInt32 &&& Int32.toUInt32 31)).toInt32) &&& (858993459 : Int32))).toUInt32 >>> ((4 : Int32).toUInt32 &&& Int32.toUInt32 31)).toInt32)) &&& (252645135 : Int32)))]) hx hb dJ6_bitCount_0f7a4_33 rfl hl (by decide) rfl (fun ls hl => ?_)
  refine lv_iload_n hx hb dJ6_bitCount_0f7a4_34 rfl (lv_at hl 0 rfl) ?_
  refine lv_iload_n hx hb dJ6_bitCount_0f7a4_35 rfl (lv_at hl 0 rfl) ?_
  refine lv_bipush (v := (8 : Int32)) hx hb dJ6_bitCount_0f7a4_36 (by decide) ?_
  refine lv_iushr (v := ((((((a0 - (((a0.toUInt32 >>> ((1 : Int32).toUInt32 &&& Int32.toUInt32 31)).toInt32) &&& (1431655765 : Int32))) &&& (858993459 : Int32)) + ((((a0 - (((a0.toUInt32 >>> ((1 : Int32).toUInt32 &&& Int32.toUInt32 31)).toInt32) &&& (1431655765 : Int32))).toUInt32 >>> ((2 : Int32).toUInt32 &&& Int32.toUInt32 31)).toInt32) &&& (858993459 : Int32))) + (((((a0 - (((a0.toUInt32 >>> ((1 : Int32).toUInt32 &&& Int32.toUInt32 31)).toInt32) &&& (1431655765 : Int32))) &&& (858993459 : Int32)) + ((((a0 - (((a0.toUInt32 >>> ((1 : Int32).toUInt32 &&& Int32.toUInt32 31)).toInt32) &&& (1431655765 : Int32))).toUInt32 >>> ((2 : Int32).toUInt32 &&& Int32.toUInt32 31)).toInt32) &&& (858993459 : Int32))).toUInt32 >>> ((4 : Int32).toUInt32 &&& Int32.toUInt32 31)).toInt32)) &&& (252645135 : Int32)).toUInt32 >>> ((8 : Int32).toUInt32 &&& Int32.toUInt32 31)).toInt32) hx hb dJ6_bitCount_0f7a4_38 rfl ?_
  refine lv_iadd hx hb dJ6_bitCount_0f7a4_39 ?_
  refine lv_istore_n (lv' := [(0, .int ((((((a0 - (((a0.toUInt32 >>> ((1 : Int32).toUInt32 &&& Int32.toUInt32 31)).toInt32) &&& (1431655765 : Int32))) &&& (858993459 : Int32)) + ((((a0 - (((a0.toUInt32 >>> ((1 : Int32).toUInt32 &&& Int32.toUInt32 31)).toInt32) &&& (1431655765 : Int32))).toUInt32 >>> ((2 : Int32).toUInt32 &&& Int32.toUInt32 31)).toInt32) &&& (858993459 : Int32))) + (((((a0 - (((a0.toUInt32 >>> ((1 : Int32).toUInt32 &&& Int32.toUInt32 31)).toInt32) &&& (1431655765 : Int32))) &&& (858993459 : Int32)) + ((((a0 - (((a0.toUInt32 >>> ((1 : Int32).toUInt32 &&& Int32.toUInt32 31)).toInt32) &&& (1431655765 : Int32))).toUInt32 >>> ((2 : Int32).toUInt32 &&& Int32.toUInt32 31)).toInt32) &&& (858993459 : Int32))).toUInt32 >>> ((4 : Int32).toUInt32 &&& Int32.toUInt32 31)).toInt32)) &&& (252645135 : Int32)) + (((((((a0 - (((a0.toUInt32 >>> ((1 : Int32).toUInt32 &&& Int32.toUInt32 31)).toInt32) &&& (1431655765 : Int32))) &&& (858993459 : Int32)) + ((((a0 - (((a0.toUInt32 >>> ((1 : Int32).toUInt32 &&& Int32.toUInt32 31)).toInt32) &&& (1431655765 : Int32))).toUInt32 >>> ((2 : Int32).toUInt32 &&& Int32.toUInt32 31)).toInt32) &&& (858993459 : Int32))) + (((((a0 - (((a0.toUInt32 >>> ((1 : Int32).toUInt32 &&& Int32.toUInt32 31)).toInt32) &&& (1431655765 : Int32))) &&& (858993459 : Int32)) + ((((a0 - (((a0.toUInt32 >>> ((1 : Int32).toUInt32 &&& Int32.toUInt32 31)).toInt32) &&& (1431655765 : Int32))).toUInt32 >>> ((2 : Int32).toUInt32 &&& Int32.toUInt32 31)).toInt32) &&& (858993459 : Int32))).toUInt32 >>> ((4 : Int32).toUInt32 &&& Int32.toUInt32 31)).toInt32)) &&& (252645135 : Int32)).toUInt32 >>> ((8 : Int32).toUInt32 &&& Int32.toUInt32 31)).toInt32)))]) hx hb dJ6_bitCount_0f7a4_40 rfl hl (by decide) rfl (fun ls hl => ?_)
  refine lv_iload_n hx hb dJ6_bitCount_0f7a4_41 rfl (lv_at hl 0 rfl) ?_
  refine lv_iload_n hx hb dJ6_bitCount_0f7a4_42 rfl (lv_at hl 0 rfl) ?_
  refine lv_bipush (v := (16 : Int32)) hx hb dJ6_bitCount_0f7a4_43 (by decide) ?_
  refine lv_iushr (v := (((((((a0 - (((a0.toUInt32 >>> ((1 : Int32).toUInt32 &&& Int32.toUInt32 31)).toInt32) &&& (1431655765 : Int32))) &&& (858993459 : Int32)) + ((((a0 - (((a0.toUInt32 >>> ((1 : Int32).toUInt32 &&& Int32.toUInt32 31)).toInt32) &&& (1431655765 : Int32))).toUInt32 >>> ((2 : Int32).toUInt32 &&& Int32.toUInt32 31)).toInt32) &&& (858993459 : Int32))) + (((((a0 - (((a0.toUInt32 >>> ((1 : Int32).toUInt32 &&& Int32.toUInt32 31)).toInt32) &&& (1431655765 : Int32))) &&& (858993459 : Int32)) + ((((a0 - (((a0.toUInt32 >>> ((1 : Int32).toUInt32 &&& Int32.toUInt32 31)).toInt32) &&& (1431655765 : Int32))).toUInt32 >>> ((2 : Int32).toUInt32 &&& Int32.toUInt32 31)).toInt32) &&& (858993459 : Int32))).toUInt32 >>> ((4 : Int32).toUInt32 &&& Int32.toUInt32 31)).toInt32)) &&& (252645135 : Int32)) + (((((((a0 - (((a0.toUInt32 >>> ((1 : Int32).toUInt32 &&& Int32.toUInt32 31)).toInt32) &&& (1431655765 : Int32))) &&& (858993459 : Int32)) + ((((a0 - (((a0.toUInt32 >>> ((1 : Int32).toUInt32 &&& Int32.toUInt32 31)).toInt32) &&& (1431655765 : Int32))).toUInt32 >>> ((2 : Int32).toUInt32 &&& Int32.toUInt32 31)).toInt32) &&& (858993459 : Int32))) + (((((a0 - (((a0.toUInt32 >>> ((1 : Int32).toUInt32 &&& Int32.toUInt32 31)).toInt32) &&& (1431655765 : Int32))) &&& (858993459 : Int32)) + ((((a0 - (((a0.toUInt32 >>> ((1 : Int32).toUInt32 &&& Int32.toUInt32 31)).toInt32) &&& (1431655765 : Int32))).toUInt32 >>> ((2 : Int32).toUInt32 &&& Int32.toUInt32 31)).toInt32) &&& (858993459 : Int32))).toUInt32 >>> ((4 : Int32).toUInt32 &&& Int32.toUInt32 31)).toInt32)) &&& (252645135 : Int32)).toUInt32 >>> ((8 : Int32).toUInt32 &&& Int32.toUInt32 31)).toInt32)).toUInt32 >>> ((16 : Int32).toUInt32 &&& Int32.toUInt32 31)).toInt32) hx hb dJ6_bitCount_0f7a4_45 rfl ?_
  refine lv_iadd hx hb dJ6_bitCount_0f7a4_46 ?_
  refine lv_istore_n (lv' := [(0, .int (((((((a0 - (((a0.toUInt32 >>> ((1 : Int32).toUInt32 &&& Int32.toUInt32 31)).toInt32) &&& (1431655765 : Int32))) &&& (858993459 : Int32)) + ((((a0 - (((a0.toUInt32 >>> ((1 : Int32).toUInt32 &&& Int32.toUInt32 31)).toInt32) &&& (1431655765 : Int32))).toUInt32 >>> ((2 : Int32).toUInt32 &&& Int32.toUInt32 31)).toInt32) &&& (858993459 : Int32))) + (((((a0 - (((a0.toUInt32 >>> ((1 : Int32).toUInt32 &&& Int32.toUInt32 31)).toInt32) &&& (1431655765 : Int32))) &&& (858993459 : Int32)) + ((((a0 - (((a0.toUInt32 >>> ((1 : Int32).toUInt32 &&& Int32.toUInt32 31)).toInt32) &&& (1431655765 : Int32))).toUInt32 >>> ((2 : Int32).toUInt32 &&& Int32.toUInt32 31)).toInt32) &&& (858993459 : Int32))).toUInt32 >>> ((4 : Int32).toUInt32 &&& Int32.toUInt32 31)).toInt32)) &&& (252645135 : Int32)) + (((((((a0 - (((a0.toUInt32 >>> ((1 : Int32).toUInt32 &&& Int32.toUInt32 31)).toInt32) &&& (1431655765 : Int32))) &&& (858993459 : Int32)) + ((((a0 - (((a0.toUInt32 >>> ((1 : Int32).toUInt32 &&& Int32.toUInt32 31)).toInt32) &&& (1431655765 : Int32))).toUInt32 >>> ((2 : Int32).toUInt32 &&& Int32.toUInt32 31)).toInt32) &&& (858993459 : Int32))) + (((((a0 - (((a0.toUInt32 >>> ((1 : Int32).toUInt32 &&& Int32.toUInt32 31)).toInt32) &&& (1431655765 : Int32))) &&& (858993459 : Int32)) + ((((a0 - (((a0.toUInt32 >>> ((1 : Int32).toUInt32 &&& Int32.toUInt32 31)).toInt32) &&& (1431655765 : Int32))).toUInt32 >>> ((2 : Int32).toUInt32 &&& Int32.toUInt32 31)).toInt32) &&& (858993459 : Int32))).toUInt32 >>> ((4 : Int32).toUInt32 &&& Int32.toUInt32 31)).toInt32)) &&& (252645135 : Int32)).toUInt32 >>> ((8 : Int32).toUInt32 &&& Int32.toUInt32 31)).toInt32)) + ((((((((a0 - (((a0.toUInt32 >>> ((1 : Int32).toUInt32 &&& Int32.toUInt32 31)).toInt32) &&& (1431655765 : Int32))) &&& (858993459 : Int32)) + ((((a0 - (((a0.toUInt32 >>> ((1 : Int32).toUInt32 &&& Int32.toUInt32 31)).toInt32) &&& (1431655765 : Int32))).toUInt32 >>> ((2 : Int32).toUInt32 &&& Int32.toUInt32 31)).toInt32) &&& (858993459 : Int32))) + (((((a0 - (((a0.toUInt32 >>> ((1 : Int32).toUInt32 &&& Int32.toUInt32 31)).toInt32) &&& (1431655765 : Int32))) &&& (858993459 : Int32)) + ((((a0 - (((a0.toUInt32 >>> ((1 : Int32).toUInt32 &&& Int32.toUInt32 31)).toInt32) &&& (1431655765 : Int32))).toUInt32 >>> ((2 : Int32).toUInt32 &&& Int32.toUInt32 31)).toInt32) &&& (858993459 : Int32))).toUInt32 >>> ((4 : Int32).toUInt32 &&& Int32.toUInt32 31)).toInt32)) &&& (252645135 : Int32)) + (((((((a0 - (((a0.toUInt32 >>> ((1 : Int32).toUInt32 &&& Int32.toUInt32 31)).toInt32) &&& (1431655765 : Int32))) &&& (858993459 : Int32)) + ((((a0 - (((a0.toUInt32 >>> ((1 : Int32).toUInt32 &&& Int32.toUInt32 31)).toInt32) &&& (1431655765 : Int32))).toUInt32 >>> ((2 : Int32).toUInt32 &&& Int32.toUInt32 31)).toInt32) &&& (858993459 : Int32))) + (((((a0 - (((a0.toUInt32 >>> ((1 : Int32).toUInt32 &&& Int32.toUInt32 31)).toInt32) &&& (1431655765 : Int32))) &&& (858993459 : Int32)) + ((((a0 - (((a0.toUInt32 >>> ((1 : Int32).toUInt32 &&& Int32.toUInt32 31)).toInt32) &&& (1431655765 : Int32))).toUInt32 >>> ((2 : Int32).toUInt32 &&& Int32.toUInt32 31)).toInt32) &&& (858993459 : Int32))).toUInt32 >>> ((4 : Int32).toUInt32 &&& Int32.toUInt32 31)).toInt32)) &&& (252645135 : Int32)).toUInt32 >>> ((8 : Int32).toUInt32 &&& Int32.toUInt32 31)).toInt32)).toUInt32 >>> ((16 : Int32).toUInt32 &&& Int32.toUInt32 31)).toInt32)))]) hx hb dJ6_bitCount_0f7a4_47 rfl hl (by decide) rfl (fun ls hl => ?_)
  refine lv_iload_n hx hb dJ6_bitCount_0f7a4_48 rfl (lv_at hl 0 rfl) ?_
  refine lv_bipush (v := (63 : Int32)) hx hb dJ6_bitCount_0f7a4_49 (by decide) ?_
  refine lv_iand hx hb dJ6_bitCount_0f7a4_51 ?_
  exact xs_iret hx hb hr hlocks dJ6_bitCount_0f7a4_52 (Option.some.inj hf)
set_option maxHeartbeats 40000000 in
set_option maxRecDepth 100000 in
theorem kX5_latestOnes (l : Launch) {a0 : Int32} {a1 : Int32}  {r : Int32} (hf : fX5_latestOnes a0 a1 = some r) : KS l yX5_latestOnes wsX5_latestOnes (0) (0) [.int a0, .int a1] (some (.int r)) := by
  rw [fX5_latestOnes] at hf
  refine Met.ofW (cc := cX5_latestOnes) (maxL := 4) (ret := (some .int)) (by decide) rfl ?_
  intro p e s m args below meth c s₁ B hml hv
  obtain ⟨rfl, -⟩ := hv
  have hx := B.exec
  have hb := B.bytes
  have hr := B.returns
  have hts := atoms_spec (ws := wsX5_latestOnes) B.pre
  have hown : s.vm.findClass RX5 = some m.cls := findClass_of_methodNamed B.named
  have hlocks := B.notSynchronized
  have hl := lv_entry ([.int a0, .int a1]) (n := 4) (Nat.le_of_ble_eq_true rfl)
  rw [lg_entry_eq]
  generalize (lg_sl ([.int a0, .int a1]) ++ List.replicate (4 - (lg_sl ([.int a0, .int a1])).length) Slot.unset).toArray = ls at hl ⊢
  have hl : lv_has ls 4 [(0, .int a0), (1, .int a1)] := hl
  have L_4 : ∀ (n_4 : Nat) (v0 : Int32) (v1 : Int32) (v2 : Int32) (v3 : Int32) (ls : Array Slot), lv_has ls 4 [(0, .int v0), (1, .int v1), (2, .int v2), (3, .int v3)] → fX5_latestOnes_4 n_4 v0 v1 v2 v3 = some r → W p l e (headSpec wsX5_latestOnes ({ frames := 0, cells := 0, slots := 0, locals := 0 })).room s m ([.int a0, .int a1] : List Value).toArray below meth c s.heap [] 0 0 (MQ below (qcS (some (.int r))) ([.int a0, .int a1] : List Value).toArray s 0 0 (fun _ => False)) (F0 m 4 ls []) := by
    intro n_4
    induction n_4 with
    | zero =>
      intro v0 v1 v2 v3 ls hl hf
      rw [fX5_latestOnes_4] at hf
      cases hf
    | succ n_4 ih_4 =>
      have j_25 : ∀ (v0 : Int32) (v1 : Int32) (v3 : Int32) (t0 : Int32) (ls : Array Slot), lv_has ls 4 [(0, .int v0), (1, .int v1), (3, .int v3)] → fX5_latestOnes_25 (fun wv0 wv1 wv2 wv3 => fX5_latestOnes_4 n_4 wv0 wv1 wv2 wv3) v0 v1 v3 t0 = some r → W p l e (headSpec wsX5_latestOnes ({ frames := 0, cells := 0, slots := 0, locals := 0 })).room s m ([.int a0, .int a1] : List Value).toArray below meth c s.heap [] 0 0 (MQ below (qcS (some (.int r))) ([.int a0, .int a1] : List Value).toArray s 0 0 (fun _ => False)) (F0 m 25 ls [.int t0]) := by
        intro v0 v1 v3 t0 ls hl hf
        rw [fX5_latestOnes_25] at hf
        refine lv_istore_n (lv' := [(2, .int t0), (0, .int v0), (1, .int v1), (3, .int v3)]) hx hb dX5_latestOnes_25 rfl hl (by decide) rfl (fun ls hl => ?_)
        refine lv_iinc (v := (v3 + (1 : Int32))) (lv' := [(3, .int (v3 + (1 : Int32))), (2, .int t0), (0, .int v0), (1, .int v1)]) hx hb dX5_latestOnes_26 hl (k := 3) rfl rfl (by decide) rfl (fun ls hl => ?_)
        refine lv_goto (tgt := 4) hx hb dX5_latestOnes_29 (by decide) ?_
        exact ih_4 v0 v1 t0 (v3 + (1 : Int32)) _ (lv_sub hl [2, 3, 1, 0] rfl) hf
      intro v0 v1 v2 v3 ls hl hf
      rw [fX5_latestOnes_4] at hf
      refine lv_iload_n hx hb dX5_latestOnes_4 rfl (lv_at hl 3 rfl) ?_
      refine lv_iload_n hx hb dX5_latestOnes_5 rfl (lv_at hl 0 rfl) ?_
      refine lv_icmp_ge (tgt := 32) hx hb dX5_latestOnes_6 (by decide) (fun c_1 => ?_) (fun c_1 => ?_)
      · have hf := (if_pos c_1).symm.trans hf
        refine lv_iload_n hx hb dX5_latestOnes_32 rfl (lv_at hl 2 rfl) ?_
        exact xs_iret hx hb hr hlocks dX5_latestOnes_33 (Option.some.inj hf)
      · have hf := (if_neg c_1).symm.trans hf
        refine lv_iload_n hx hb dX5_latestOnes_9 rfl (lv_at hl 1 rfl) ?_
        refine lv_iload_n hx hb dX5_latestOnes_10 rfl (lv_at hl 3 rfl) ?_
        refine lv_ishr hx hb dX5_latestOnes_11 ?_
        refine lv_iconst (v := (1 : Int32)) hx hb dX5_latestOnes_12 (by decide) ?_
        refine lv_iand hx hb dX5_latestOnes_13 ?_
        refine lv_iconst (v := (1 : Int32)) hx hb dX5_latestOnes_14 (by decide) ?_
        refine lv_icmp_ne (tgt := 24) hx hb dX5_latestOnes_15 (by decide) (fun c_2 => ?_) (fun c_2 => ?_)
        · have hf := (if_neg c_2).symm.trans hf
          refine lv_iconst (v := (0 : Int32)) hx hb dX5_latestOnes_24 (by decide) ?_
          exact j_25 v0 v1 v3 (0 : Int32) _ (lv_sub hl [0, 1, 3] rfl) hf
        · have hf := (if_pos c_2).symm.trans hf
          refine lv_iload_n hx hb dX5_latestOnes_18 rfl (lv_at hl 2 rfl) ?_
          refine lv_iconst (v := (1 : Int32)) hx hb dX5_latestOnes_19 (by decide) ?_
          refine lv_iadd hx hb dX5_latestOnes_20 ?_
          refine lv_goto (tgt := 25) hx hb dX5_latestOnes_21 (by decide) ?_
          exact j_25 v0 v1 v3 (v2 + (1 : Int32)) _ (lv_sub hl [0, 1, 3] rfl) hf
  refine lv_iconst (v := (0 : Int32)) hx hb dX5_latestOnes_0 (by decide) ?_
  refine lv_istore_n (lv' := [(2, .int (0 : Int32)), (0, .int a0), (1, .int a1)]) hx hb dX5_latestOnes_1 rfl hl (by decide) rfl (fun ls hl => ?_)
  refine lv_iconst (v := (0 : Int32)) hx hb dX5_latestOnes_2 (by decide) ?_
  refine lv_istore_n (lv' := [(3, .int (0 : Int32)), (2, .int (0 : Int32)), (0, .int a0), (1, .int a1)]) hx hb dX5_latestOnes_3 rfl hl (by decide) rfl (fun ls hl => ?_)
  exact L_4 1000 a0 a1 (0 : Int32) (0 : Int32) _ (lv_sub hl [2, 3, 1, 0] rfl) hf
set_option maxHeartbeats 40000000 in
set_option maxRecDepth 100000 in
theorem kX5_lastInTwelfths (l : Launch) (z : Cx) (hz : okC 40 z)   {σ : Mm} {r : Int32} (hf : fX5_lastInTwelfths σ = some r) : KG 40 ceX l yX5_lastInTwelfths wsX5_lastInTwelfths (2) (51) [.ref (z.2.1 0)] z σ σ (some (.int r)) := by
  rw [fX5_lastInTwelfths] at hf
  refine Met.ofW (cc := cX5_lastInTwelfths) (maxL := 6) (ret := (some .int)) (by decide) rfl ?_
  intro p e s m args below meth c s₁ B hml hv
  obtain ⟨rfl, hP, hK, hE⟩ := hv
  have hx := B.exec
  have hb := B.bytes
  have hr := B.returns
  have hts := atoms_spec (ws := wsX5_lastInTwelfths) B.pre
  have hown : s.vm.findClass RX5 = some m.cls := findClass_of_methodNamed B.named
  have hlocks := B.notSynchronized
  have in_X3 : ∀ w ∈ wsX30, w ∈ wsX5_lastInTwelfths := by decide +kernel
  have in_X5 : ∀ w ∈ wsX50, w ∈ wsX5_lastInTwelfths := by decide +kernel
  have hS : va_S (aG 40 z) s.heap s.heap [] := va_S.rf
  have hl := lv_entry ([.ref (z.2.1 0)]) (n := 6) (Nat.le_of_ble_eq_true rfl)
  rw [lg_entry_eq]
  generalize (lg_sl ([.ref (z.2.1 0)]) ++ List.replicate (6 - (lg_sl ([.ref (z.2.1 0)])).length) Slot.unset).toArray = ls at hl ⊢
  have hl : lv_has ls 6 [(0, .ref (z.2.1 0))] := hl
  have j_138 : ∀ (v1 : Int32) (v2 : Int32) (v4 : Int32) (v5 : Int32) (H : Heap) (locs : List Loc) (ls : Array Slot), va_P z.1 vwCl (wl 40 z.2.1 (ceX z σ)) H → va_S (aG 40 z) s.heap H locs → lv_has ls 6 [(0, .ref (z.2.1 0)), (1, .int v1), (2, .int v2), (4, .int v4), (5, .int v5)] → fX5_lastInTwelfths_138 σ v1 v2 v4 v5 = some r → W p l e (headSpec wsX5_lastInTwelfths ({ frames := 2, cells := 0, slots := 0, locals := 51 })).room s m ([.ref (z.2.1 0)] : List Value).toArray below meth c H locs 0 0 (MQ below (qcG 40 ceX z σ (some (.int r))) ([.ref (z.2.1 0)] : List Value).toArray s 0 0 (aG 40 z)) (F0 m 138 ls []) := by
    intro v1 v2 v4 v5 H locs ls hP hS hl hf
    rw [fX5_lastInTwelfths_138] at hf
    refine lv_aload_n hx hb dX5_lastInTwelfths_138 rfl (lv_at hl 0 rfl) ?_
    refine va_get (D := z.1) (ci := 5) (v := .ref (z.2.1 1)) (C := RX5) (T := TX5) (N := 10) hx hb hts in_X5 hown hK hP 0 (wl_at (by decide) cX5) rfl 0 (by decide) (hts (.fieldLink RX5 10 "TillOneOfSort" "told" "LTillOneOfSort$Told;") (by decide +kernel)) (fun _ h9 => h9) rfl dX5_lastInTwelfths_139 ?_
    refine va_getN (D := z.1) (ci := 3) (v := .int (gI σ 1 0)) (C := RX3) (T := TX3) (N := 8) hx hb hts in_X3 hown hK hP 1 (wl_at (told_lt (rfl : isTold 1 = true)) (cX3 (rfl : isTold 1 = true))) rfl 0 (by decide) (hE.1.at (List.mem_of_getElem? (i := 5) rfl) rfl) (fun _ h9 => h9) rfl dX5_lastInTwelfths_142 ?_
    refine lv_aload_n hx hb dX5_lastInTwelfths_145 rfl (lv_at hl 0 rfl) ?_
    refine va_get (D := z.1) (ci := 5) (v := .ref (z.2.1 1)) (C := RX5) (T := TX5) (N := 10) hx hb hts in_X5 hown hK hP 0 (wl_at (by decide) cX5) rfl 0 (by decide) (hts (.fieldLink RX5 10 "TillOneOfSort" "told" "LTillOneOfSort$Told;") (by decide +kernel)) (fun _ h9 => h9) rfl dX5_lastInTwelfths_146 ?_
    refine va_getN (D := z.1) (ci := 3) (v := .int (gI σ 1 1)) (C := RX3) (T := TX3) (N := 8) hx hb hts in_X3 hown hK hP 1 (wl_at (told_lt (rfl : isTold 1 = true)) (cX3 (rfl : isTold 1 = true))) rfl 1 (by decide) (hE.1.at (List.mem_of_getElem? (i := 6) rfl) rfl) (fun _ h9 => h9) rfl dX5_lastInTwelfths_149 ?_
    refine lv_iload_n hx hb dX5_lastInTwelfths_152 rfl (lv_at hl 1 rfl) ?_
    refine lv_iload_n hx hb dX5_lastInTwelfths_153 rfl (lv_at hl 2 rfl) ?_
    refine lv_iconst (v := (1 : Int32)) hx hb dX5_lastInTwelfths_154 (by decide) ?_
    refine lv_iadd hx hb dX5_lastInTwelfths_155 ?_
    refine lv_iconst (v := (0 : Int32)) hx hb dX5_lastInTwelfths_156 (by decide) ?_
    obtain ⟨q_9, hq_9, hf⟩ := x_bd hf
    refine x_callSi (va_runS (As := [.int (gI σ 1 0), .int (gI σ 1 1), .int v1, .int (v2 + (1 : Int32)), .int (0 : Int32)]) (rest := []) ⟨hx, hb, hml, hown, hts⟩ (kX5_lawStops l hq_9) (va_cwS 5 hts gX5_lastInTwelfths_X5_lawStops rfl rfl rfl (by decide +kernel) ⟨Nat.le_of_ble_eq_true rfl, Nat.le_of_ble_eq_true rfl⟩) psS rfl rfl hl.1 rfl (lv_room (Nat.le_of_ble_eq_true rfl)) dX5_lastInTwelfths_157 ⟨Nat.zero_le _, Nat.zero_le _⟩) ?_
    refine lv_if_eq (tgt := 173) hx hb dX5_lastInTwelfths_160 (by decide) (fun c_10 => ?_) (fun c_10 => ?_)
    · have hf := (if_pos c_10).symm.trans hf
      refine lv_iload hx hb dX5_lastInTwelfths_173 (lv_at hl 4 rfl) ?_
      exact x_iret hx hb hr hlocks hP hS dX5_lastInTwelfths_175 (Option.some.inj hf) rfl
    · have hf := (if_neg c_10).symm.trans hf
      refine lv_iload hx hb dX5_lastInTwelfths_163 (lv_at hl 4 rfl) ?_
      refine lv_bipush (v := (12 : Int32)) hx hb dX5_lastInTwelfths_165 (by decide) ?_
      refine lv_iload hx hb dX5_lastInTwelfths_167 (lv_at hl 3 rfl) ?_
      refine lv_isub hx hb dX5_lastInTwelfths_169 ?_
      refine lv_iadd hx hb dX5_lastInTwelfths_170 ?_
      refine lv_istore (lv' := [(5, .int (v5 + ((12 : Int32) - v4))), (0, .ref (z.2.1 0)), (1, .int v1), (2, .int v2), (4, .int v4)]) hx hb dX5_lastInTwelfths_171 hl (by decide) rfl (fun ls hl => ?_)
      refine lv_iload hx hb dX5_lastInTwelfths_173 (lv_at hl 0 rfl) ?_
      exact x_iret hx hb hr hlocks hP hS dX5_lastInTwelfths_175 (Option.some.inj hf) rfl
  refine lv_aload_n hx hb dX5_lastInTwelfths_0 rfl (lv_at hl 0 rfl) ?_
  refine va_get (D := z.1) (ci := 5) (v := .ref (z.2.1 1)) (C := RX5) (T := TX5) (N := 10) hx hb hts in_X5 hown hK hP 0 (wl_at (by decide) cX5) rfl 0 (by decide) (hts (.fieldLink RX5 10 "TillOneOfSort" "told" "LTillOneOfSort$Told;") (by decide +kernel)) (fun _ h9 => h9) rfl dX5_lastInTwelfths_1 ?_
  refine lv_aload_n hx hb dX5_lastInTwelfths_4 rfl (lv_at hl 0 rfl) ?_
  refine va_get (D := z.1) (ci := 5) (v := .ref (z.2.1 1)) (C := RX5) (T := TX5) (N := 10) hx hb hts in_X5 hown hK hP 0 (wl_at (by decide) cX5) rfl 0 (by decide) (hts (.fieldLink RX5 10 "TillOneOfSort" "told" "LTillOneOfSort$Told;") (by decide +kernel)) (fun _ h9 => h9) rfl dX5_lastInTwelfths_5 ?_
  refine va_getN (D := z.1) (ci := 3) (v := .int (gI σ 1 0)) (C := RX3) (T := TX3) (N := 8) hx hb hts in_X3 hown hK hP 1 (wl_at (told_lt (rfl : isTold 1 = true)) (cX3 (rfl : isTold 1 = true))) rfl 0 (by decide) (hE.1.at (List.mem_of_getElem? (i := 5) rfl) rfl) (fun _ h9 => h9) rfl dX5_lastInTwelfths_8 ?_
  refine lv_aload_n hx hb dX5_lastInTwelfths_11 rfl (lv_at hl 0 rfl) ?_
  refine va_get (D := z.1) (ci := 5) (v := .int (gI σ 0 5)) (C := RX5) (T := TX5) (N := 10) hx hb hts in_X5 hown hK hP 0 (wl_at (by decide) cX5) rfl 5 (by decide) (hts (.fieldLink RX5 132 "TillOneOfSort" "rowLength" "I") (by decide +kernel)) (fun _ h9 => h9) rfl dX5_lastInTwelfths_12 ?_
  refine lv_aload_n hx hb dX5_lastInTwelfths_15 rfl (lv_at hl 0 rfl) ?_
  refine va_get (D := z.1) (ci := 5) (v := .int (gI σ 0 6)) (C := RX5) (T := TX5) (N := 10) hx hb hts in_X5 hown hK hP 0 (wl_at (by decide) cX5) rfl 6 (by decide) (hts (.fieldLink RX5 135 "TillOneOfSort" "rowSorts" "I") (by decide +kernel)) (fun _ h9 => h9) rfl dX5_lastInTwelfths_16 ?_
  obtain ⟨q_1001, hq_1001, hf⟩ := x_bd hf
  refine x_callGi (va_runV (As := [.int (gI σ 1 0), .int (gI σ 0 5), .int (gI σ 0 6)]) (rest := []) ⟨hx, hb, hml, hown, hts⟩ (kX3_stopPlace l z hz (rfl : isTold 1 = true) hq_1001) (cwV 3 hts gX5_lastInTwelfths_X3_stopPlace rfl rfl rfl (by decide +kernel) ⟨Nat.le_of_ble_eq_true rfl, Nat.le_of_ble_eq_true rfl⟩) (pvG hK hP hE hS (va_recv hK hP (ci := 3) (q0 := 1) rfl (wl_at (told_lt (rfl : isTold 1 = true)) (cX3 (rfl : isTold 1 = true))))) rfl rfl hl.1 rfl (lv_room (Nat.le_of_ble_eq_true rfl)) dX5_lastInTwelfths_19 ⟨Nat.zero_le _, Nat.zero_le _⟩) hS (fun H locs hP hS => ?_)
  refine lv_aload_n hx hb dX5_lastInTwelfths_22 rfl (lv_at hl 0 rfl) ?_
  refine va_get (D := z.1) (ci := 5) (v := .int (gI σ 0 5)) (C := RX5) (T := TX5) (N := 10) hx hb hts in_X5 hown hK hP 0 (wl_at (by decide) cX5) rfl 5 (by decide) (hts (.fieldLink RX5 132 "TillOneOfSort" "rowLength" "I") (by decide +kernel)) (fun _ h9 => h9) rfl dX5_lastInTwelfths_23 ?_
  refine lv_icmp_ge (tgt := 31) hx hb dX5_lastInTwelfths_26 (by decide) (fun c_1002 => ?_) (fun c_1002 => ?_)
  · have hf := (if_pos c_1002).symm.trans hf
    refine lv_aload_n hx hb dX5_lastInTwelfths_31 rfl (lv_at hl 0 rfl) ?_
    refine va_get (D := z.1) (ci := 5) (v := .int (gI σ 0 5)) (C := RX5) (T := TX5) (N := 10) hx hb hts in_X5 hown hK hP 0 (wl_at (by decide) cX5) rfl 5 (by decide) (hts (.fieldLink RX5 132 "TillOneOfSort" "rowLength" "I") (by decide +kernel)) (fun _ h9 => h9) rfl dX5_lastInTwelfths_32 ?_
    refine lv_iconst (v := (1 : Int32)) hx hb dX5_lastInTwelfths_35 (by decide) ?_
    refine lv_iadd hx hb dX5_lastInTwelfths_36 ?_
    refine lv_aload_n hx hb dX5_lastInTwelfths_37 rfl (lv_at hl 0 rfl) ?_
    refine va_get (D := z.1) (ci := 5) (v := .ref (z.2.1 1)) (C := RX5) (T := TX5) (N := 10) hx hb hts in_X5 hown hK hP 0 (wl_at (by decide) cX5) rfl 0 (by decide) (hts (.fieldLink RX5 10 "TillOneOfSort" "told" "LTillOneOfSort$Told;") (by decide +kernel)) (fun _ h9 => h9) rfl dX5_lastInTwelfths_38 ?_
    refine va_getN (D := z.1) (ci := 3) (v := .int (gI σ 1 2)) (C := RX3) (T := TX3) (N := 8) hx hb hts in_X3 hown hK hP 1 (wl_at (told_lt (rfl : isTold 1 = true)) (cX3 (rfl : isTold 1 = true))) rfl 2 (by decide) (hE.1.at (List.mem_of_getElem? (i := 3) rfl) rfl) (fun _ h9 => h9) rfl dX5_lastInTwelfths_41 ?_
    refine lv_icmp_lt (tgt := 50) hx hb dX5_lastInTwelfths_44 (by decide) (fun c_1003 => ?_) (fun c_1003 => ?_)
    · have hf := (if_pos c_1003).symm.trans hf
      refine lv_aload_n hx hb dX5_lastInTwelfths_50 rfl (lv_at hl 0 rfl) ?_
      refine va_get (D := z.1) (ci := 5) (v := .int (gI σ 0 6)) (C := RX5) (T := TX5) (N := 10) hx hb hts in_X5 hown hK hP 0 (wl_at (by decide) cX5) rfl 6 (by decide) (hts (.fieldLink RX5 135 "TillOneOfSort" "rowSorts" "I") (by decide +kernel)) (fun _ h9 => h9) rfl dX5_lastInTwelfths_51 ?_
      obtain ⟨q_1004, hq_1004, hf⟩ := x_bd hf
      refine x_callSi (va_runS (As := [.int (gI σ 0 6)]) (rest := []) ⟨hx, hb, hml, hown, hts⟩ (kJ6_bitCount_0f7a4 l hq_1004) (va_cwS 1 hts gX5_lastInTwelfths_J6_bitCount_0f7a4 rfl rfl rfl (by decide +kernel) ⟨Nat.le_of_ble_eq_true rfl, Nat.le_of_ble_eq_true rfl⟩) psS rfl rfl hl.1 rfl (lv_room (Nat.le_of_ble_eq_true rfl)) dX5_lastInTwelfths_54 ⟨Nat.zero_le _, Nat.zero_le _⟩) ?_
      refine lv_istore_n (lv' := [(1, .int q_1004), (0, .ref (z.2.1 0))]) hx hb dX5_lastInTwelfths_57 rfl hl (by decide) rfl (fun ls hl => ?_)
      refine lv_aload_n hx hb dX5_lastInTwelfths_58 rfl (lv_at hl 1 rfl) ?_
      refine va_get (D := z.1) (ci := 5) (v := .int (gI σ 0 5)) (C := RX5) (T := TX5) (N := 10) hx hb hts in_X5 hown hK hP 0 (wl_at (by decide) cX5) rfl 5 (by decide) (hts (.fieldLink RX5 132 "TillOneOfSort" "rowLength" "I") (by decide +kernel)) (fun _ h9 => h9) rfl dX5_lastInTwelfths_59 ?_
      refine lv_iload_n hx hb dX5_lastInTwelfths_62 rfl (lv_at hl 0 rfl) ?_
      refine lv_isub hx hb dX5_lastInTwelfths_63 ?_
      refine lv_istore_n (lv' := [(2, .int ((gI σ 0 5) - q_1004)), (1, .int q_1004), (0, .ref (z.2.1 0))]) hx hb dX5_lastInTwelfths_64 rfl hl (by decide) rfl (fun ls hl => ?_)
      refine lv_aload_n hx hb dX5_lastInTwelfths_65 rfl (lv_at hl 2 rfl) ?_
      refine va_get (D := z.1) (ci := 5) (v := .int (gI σ 0 5)) (C := RX5) (T := TX5) (N := 10) hx hb hts in_X5 hown hK hP 0 (wl_at (by decide) cX5) rfl 5 (by decide) (hts (.fieldLink RX5 132 "TillOneOfSort" "rowLength" "I") (by decide +kernel)) (fun _ h9 => h9) rfl dX5_lastInTwelfths_66 ?_
      refine lv_aload_n hx hb dX5_lastInTwelfths_69 rfl (lv_at hl 2 rfl) ?_
      refine va_get (D := z.1) (ci := 5) (v := .int (gI σ 0 6)) (C := RX5) (T := TX5) (N := 10) hx hb hts in_X5 hown hK hP 0 (wl_at (by decide) cX5) rfl 6 (by decide) (hts (.fieldLink RX5 135 "TillOneOfSort" "rowSorts" "I") (by decide +kernel)) (fun _ h9 => h9) rfl dX5_lastInTwelfths_70 ?_
      obtain ⟨q_1005, hq_1005, hf⟩ := x_bd hf
      refine x_callSi (va_runS (As := [.int (gI σ 0 5), .int (gI σ 0 6)]) (rest := []) ⟨hx, hb, hml, hown, hts⟩ (kX5_latestOnes l hq_1005) (va_cwS 2 hts gX5_lastInTwelfths_X5_latestOnes rfl rfl rfl (by decide +kernel) ⟨Nat.le_of_ble_eq_true rfl, Nat.le_of_ble_eq_true rfl⟩) psS rfl rfl hl.1 rfl (lv_room (Nat.le_of_ble_eq_true rfl)) dX5_lastInTwelfths_73 ⟨Nat.zero_le _, Nat.zero_le _⟩) ?_
      refine lv_istore_n (lv' := [(3, .int q_1005), (2, .int ((gI σ 0 5) - q_1004)), (1, .int q_1004), (0, .ref (z.2.1 0))]) hx hb dX5_lastInTwelfths_76 rfl hl (by decide) rfl (fun ls hl => ?_)
      refine lv_aload_n hx hb dX5_lastInTwelfths_77 rfl (lv_at hl 3 rfl) ?_
      refine va_get (D := z.1) (ci := 5) (v := .ref (z.2.1 1)) (C := RX5) (T := TX5) (N := 10) hx hb hts in_X5 hown hK hP 0 (wl_at (by decide) cX5) rfl 0 (by decide) (hts (.fieldLink RX5 10 "TillOneOfSort" "told" "LTillOneOfSort$Told;") (by decide +kernel)) (fun _ h9 => h9) rfl dX5_lastInTwelfths_78 ?_
      refine va_getN (D := z.1) (ci := 3) (v := .int (gI σ 1 3)) (C := RX3) (T := TX3) (N := 8) hx hb hts in_X3 hown hK hP 1 (wl_at (told_lt (rfl : isTold 1 = true)) (cX3 (rfl : isTold 1 = true))) rfl 3 (by decide) (hE.1.at (List.mem_of_getElem? (i := 0) rfl) rfl) (fun _ h9 => h9) rfl dX5_lastInTwelfths_81 ?_
      refine lv_aload_n hx hb dX5_lastInTwelfths_84 rfl (lv_at hl 3 rfl) ?_
      refine va_get (D := z.1) (ci := 5) (v := .ref (z.2.1 1)) (C := RX5) (T := TX5) (N := 10) hx hb hts in_X5 hown hK hP 0 (wl_at (by decide) cX5) rfl 0 (by decide) (hts (.fieldLink RX5 10 "TillOneOfSort" "told" "LTillOneOfSort$Told;") (by decide +kernel)) (fun _ h9 => h9) rfl dX5_lastInTwelfths_85 ?_
      refine va_getN (D := z.1) (ci := 3) (v := .int (gI σ 1 4)) (C := RX3) (T := TX3) (N := 8) hx hb hts in_X3 hown hK hP 1 (wl_at (told_lt (rfl : isTold 1 = true)) (cX3 (rfl : isTold 1 = true))) rfl 4 (by decide) (hE.1.at (List.mem_of_getElem? (i := 1) rfl) rfl) (fun _ h9 => h9) rfl dX5_lastInTwelfths_88 ?_
      refine lv_aload_n hx hb dX5_lastInTwelfths_91 rfl (lv_at hl 3 rfl) ?_
      refine va_get (D := z.1) (ci := 5) (v := .int (gI σ 0 5)) (C := RX5) (T := TX5) (N := 10) hx hb hts in_X5 hown hK hP 0 (wl_at (by decide) cX5) rfl 5 (by decide) (hts (.fieldLink RX5 132 "TillOneOfSort" "rowLength" "I") (by decide +kernel)) (fun _ h9 => h9) rfl dX5_lastInTwelfths_92 ?_
      refine lv_iload_n hx hb dX5_lastInTwelfths_95 rfl (lv_at hl 0 rfl) ?_
      obtain ⟨q_1006, hq_1006, hf⟩ := x_bd hf
      refine x_callSi (va_runS (As := [.int (gI σ 1 3), .int (gI σ 1 4), .int (gI σ 0 5), .int q_1005]) (rest := []) ⟨hx, hb, hml, hown, hts⟩ (kX5_chanceOfOne l hq_1006) (va_cwS 4 hts gX5_lastInTwelfths_X5_chanceOfOne rfl rfl rfl (by decide +kernel) ⟨Nat.le_of_ble_eq_true rfl, Nat.le_of_ble_eq_true rfl⟩) psS rfl rfl hl.1 rfl (lv_room (Nat.le_of_ble_eq_true rfl)) dX5_lastInTwelfths_96 ⟨Nat.zero_le _, Nat.zero_le _⟩) ?_
      refine lv_istore (lv' := [(4, .int q_1006), (3, .int q_1005), (2, .int ((gI σ 0 5) - q_1004)), (1, .int q_1004), (0, .ref (z.2.1 0))]) hx hb dX5_lastInTwelfths_99 hl (by decide) rfl (fun ls hl => ?_)
      refine lv_iconst (v := (0 : Int32)) hx hb dX5_lastInTwelfths_101 (by decide) ?_
      refine lv_istore (lv' := [(5, .int (0 : Int32)), (4, .int q_1006), (3, .int q_1005), (2, .int ((gI σ 0 5) - q_1004)), (1, .int q_1004), (0, .ref (z.2.1 0))]) hx hb dX5_lastInTwelfths_102 hl (by decide) rfl (fun ls hl => ?_)
      refine lv_aload_n hx hb dX5_lastInTwelfths_104 rfl (lv_at hl 5 rfl) ?_
      refine va_get (D := z.1) (ci := 5) (v := .ref (z.2.1 1)) (C := RX5) (T := TX5) (N := 10) hx hb hts in_X5 hown hK hP 0 (wl_at (by decide) cX5) rfl 0 (by decide) (hts (.fieldLink RX5 10 "TillOneOfSort" "told" "LTillOneOfSort$Told;") (by decide +kernel)) (fun _ h9 => h9) rfl dX5_lastInTwelfths_105 ?_
      refine va_getN (D := z.1) (ci := 3) (v := .int (gI σ 1 0)) (C := RX3) (T := TX3) (N := 8) hx hb hts in_X3 hown hK hP 1 (wl_at (told_lt (rfl : isTold 1 = true)) (cX3 (rfl : isTold 1 = true))) rfl 0 (by decide) (hE.1.at (List.mem_of_getElem? (i := 5) rfl) rfl) (fun _ h9 => h9) rfl dX5_lastInTwelfths_108 ?_
      refine lv_aload_n hx hb dX5_lastInTwelfths_111 rfl (lv_at hl 5 rfl) ?_
      refine va_get (D := z.1) (ci := 5) (v := .ref (z.2.1 1)) (C := RX5) (T := TX5) (N := 10) hx hb hts in_X5 hown hK hP 0 (wl_at (by decide) cX5) rfl 0 (by decide) (hts (.fieldLink RX5 10 "TillOneOfSort" "told" "LTillOneOfSort$Told;") (by decide +kernel)) (fun _ h9 => h9) rfl dX5_lastInTwelfths_112 ?_
      refine va_getN (D := z.1) (ci := 3) (v := .int (gI σ 1 1)) (C := RX3) (T := TX3) (N := 8) hx hb hts in_X3 hown hK hP 1 (wl_at (told_lt (rfl : isTold 1 = true)) (cX3 (rfl : isTold 1 = true))) rfl 1 (by decide) (hE.1.at (List.mem_of_getElem? (i := 6) rfl) rfl) (fun _ h9 => h9) rfl dX5_lastInTwelfths_115 ?_
      refine lv_iload_n hx hb dX5_lastInTwelfths_118 rfl (lv_at hl 4 rfl) ?_
      refine lv_iconst (v := (1 : Int32)) hx hb dX5_lastInTwelfths_119 (by decide) ?_
      refine lv_iadd hx hb dX5_lastInTwelfths_120 ?_
      refine lv_iload_n hx hb dX5_lastInTwelfths_121 rfl (lv_at hl 3 rfl) ?_
      refine lv_iload_n hx hb dX5_lastInTwelfths_122 rfl (lv_at hl 2 rfl) ?_
      refine lv_iconst (v := (1 : Int32)) hx hb dX5_lastInTwelfths_123 (by decide) ?_
      refine lv_iadd hx hb dX5_lastInTwelfths_124 ?_
      obtain ⟨q_1007, hq_1007, hf⟩ := x_bd hf
      refine x_callSi (va_runS (As := [.int (gI σ 1 0), .int (gI σ 1 1), .int (q_1004 + (1 : Int32)), .int ((gI σ 0 5) - q_1004), .int (q_1005 + (1 : Int32))]) (rest := []) ⟨hx, hb, hml, hown, hts⟩ (kX5_lawStops l hq_1007) (va_cwS 5 hts gX5_lastInTwelfths_X5_lawStops rfl rfl rfl (by decide +kernel) ⟨Nat.le_of_ble_eq_true rfl, Nat.le_of_ble_eq_true rfl⟩) psS rfl rfl hl.1 rfl (lv_room (Nat.le_of_ble_eq_true rfl)) dX5_lastInTwelfths_125 ⟨Nat.zero_le _, Nat.zero_le _⟩) ?_
      refine lv_if_eq (tgt := 138) hx hb dX5_lastInTwelfths_128 (by decide) (fun c_1008 => ?_) (fun c_1008 => ?_)
      · have hf := (if_pos c_1008).symm.trans hf
        exact j_138 q_1004 ((gI σ 0 5) - q_1004) q_1006 (0 : Int32) _ _ _ hP hS (lv_sub hl [5, 4, 3, 1, 0] rfl) hf
      · have hf := (if_neg c_1008).symm.trans hf
        refine lv_iload hx hb dX5_lastInTwelfths_131 (lv_at hl 0 rfl) ?_
        refine lv_iload hx hb dX5_lastInTwelfths_133 (lv_at hl 1 rfl) ?_
        refine lv_iadd hx hb dX5_lastInTwelfths_135 ?_
        refine lv_istore (lv' := [(5, .int ((0 : Int32) + q_1006)), (4, .int q_1006), (3, .int q_1005), (2, .int ((gI σ 0 5) - q_1004)), (1, .int q_1004), (0, .ref (z.2.1 0))]) hx hb dX5_lastInTwelfths_136 hl (by decide) rfl (fun ls hl => ?_)
        exact j_138 q_1004 ((gI σ 0 5) - q_1004) q_1006 ((0 : Int32) + q_1006) _ _ _ hP hS (lv_sub hl [5, 4, 3, 1, 0] rfl) hf
    · have hf := (if_neg c_1003).symm.trans hf
      refine lv_bipush (v := (12 : Int32)) hx hb dX5_lastInTwelfths_47 (by decide) ?_
      exact x_iret hx hb hr hlocks hP hS dX5_lastInTwelfths_49 (Option.some.inj hf) rfl
  · have hf := (if_neg c_1002).symm.trans hf
    refine lv_iconst (v := (0 : Int32)) hx hb dX5_lastInTwelfths_29 (by decide) ?_
    exact x_iret hx hb hr hlocks hP hS dX5_lastInTwelfths_30 (Option.some.inj hf) rfl
set_option maxHeartbeats 40000000 in
set_option maxRecDepth 100000 in
theorem kX5_gone (l : Launch) (z : Cx) (hz : okC 40 z) {a0 : Int32}  {σ σ' : Mm} {r : Int64} (hf : fX5_gone a0 σ = some (r, σ')) : KG 40 ceX l yX5_gone wsX5_gone (3) (76) [.ref (z.2.1 0), .int a0] z σ σ' (some (.long r)) := by
  rw [fX5_gone] at hf
  refine Met.ofW (cc := cX5_gone) (maxL := 2) (ret := (some .long)) (by decide) rfl ?_
  intro p e s m args below meth c s₁ B hml hv
  obtain ⟨rfl, hP, hK, hE⟩ := hv
  have hx := B.exec
  have hb := B.bytes
  have hr := B.returns
  have hts := atoms_spec (ws := wsX5_gone) B.pre
  have hown : s.vm.findClass RX5 = some m.cls := findClass_of_methodNamed B.named
  have hlocks := B.notSynchronized
  have hS : va_S (aG 40 z) s.heap s.heap [] := va_S.rf
  have hl := lv_entry ([.ref (z.2.1 0), .int a0]) (n := 2) (Nat.le_of_ble_eq_true rfl)
  rw [lg_entry_eq]
  generalize (lg_sl ([.ref (z.2.1 0), .int a0]) ++ List.replicate (2 - (lg_sl ([.ref (z.2.1 0), .int a0])).length) Slot.unset).toArray = ls at hl ⊢
  have hl : lv_has ls 2 [(0, .ref (z.2.1 0)), (1, .int a0)] := hl
  refine lv_iload_n hx hb dX5_gone_0 rfl (lv_at hl 1 rfl) ?_
  obtain ⟨q_1001, hq_1001, hf⟩ := x_bd hf
  refine x_callSi (va_runS (As := [.int a0]) (rest := []) ⟨hx, hb, hml, hown, hts⟩ (kX5_isNoBit l hq_1001) (va_cwS 1 hts gX5_gone_X5_isNoBit rfl rfl rfl (by decide +kernel) ⟨Nat.le_of_ble_eq_true rfl, Nat.le_of_ble_eq_true rfl⟩) psS rfl rfl hl.1 rfl (lv_room (Nat.le_of_ble_eq_true rfl)) dX5_gone_1 ⟨Nat.zero_le _, Nat.zero_le _⟩) ?_
  refine lv_if_eq (tgt := 14) hx hb dX5_gone_4 (by decide) (fun c_1002 => ?_) (fun c_1002 => ?_)
  · have hf := (if_pos c_1002).symm.trans hf
    refine lv_aload_n hx hb dX5_gone_14 rfl (lv_at hl 0 rfl) ?_
    obtain ⟨q_1003, hq_1003, hf⟩ := x_bd hf
    refine x_callGi (va_runV (As := []) (rest := []) ⟨hx, hb, hml, hown, hts⟩ (kX5_lastInTwelfths l z hz hq_1003) (cwV 0 hts gX5_gone_X5_lastInTwelfths rfl rfl rfl (by decide +kernel) ⟨Nat.le_of_ble_eq_true rfl, Nat.le_of_ble_eq_true rfl⟩) (pvG hK hP hE hS (va_recv hK hP (ci := 5) (q0 := 0) rfl (wl_at (by decide) cX5))) rfl rfl hl.1 rfl (lv_room (Nat.le_of_ble_eq_true rfl)) dX5_gone_15 ⟨Nat.zero_le _, Nat.zero_le _⟩) hS (fun H locs hP hS => ?_)
    refine lv_i2l (v := q_1003.toInt64) hx hb dX5_gone_18 rfl ?_
    refine lv_ldc2 (v := (12 : Int64)) hx hb hown (hts (.constantLong RX5 141 (12 : Int64)) (by decide +kernel)) dX5_gone_19 ?_
    refine lv_iload_n hx hb dX5_gone_22 rfl (lv_at hl 1 rfl) ?_
    obtain ⟨q_1004, hq_1004, hf⟩ := x_bd hf
    refine x_callSl (va_runS (As := [.long (q_1003.toInt64), .long (12 : Int64), .int a0]) (rest := []) ⟨hx, hb, hml, hown, hts⟩ (kX5_fraction l hq_1004) (va_cwS 3 hts gX5_gone_X5_fraction rfl rfl rfl (by decide +kernel) ⟨Nat.le_of_ble_eq_true rfl, Nat.le_of_ble_eq_true rfl⟩) psS rfl rfl hl.1 rfl (lv_room (Nat.le_of_ble_eq_true rfl)) dX5_gone_23 ⟨Nat.zero_le _, Nat.zero_le _⟩) ?_
    exact x_lret hx hb hr hlocks hP hS dX5_gone_26 (Prod.mk.inj (Option.some.inj hf)).1 (Prod.mk.inj (Option.some.inj hf)).2
  · have hf := (if_neg c_1002).symm.trans hf
    refine lv_aload_n hx hb dX5_gone_7 rfl (lv_at hl 0 rfl) ?_
    refine lv_bipush (v := (-2 : Int32)) hx hb dX5_gone_8 (by decide) ?_
    obtain ⟨q_1005, hq_1005, hf⟩ := x_bd hf
    refine x_callGl (va_runV (As := [.int (-2 : Int32)]) (rest := []) ⟨hx, hb, hml, hown, hts⟩ (kX5_refuseLong l z hz hq_1005) (cwV 1 hts gX5_gone_X5_refuseLong rfl rfl rfl (by decide +kernel) ⟨Nat.le_of_ble_eq_true rfl, Nat.le_of_ble_eq_true rfl⟩) (pvG hK hP hE hS (va_recv hK hP (ci := 5) (q0 := 0) rfl (wl_at (by decide) cX5))) rfl rfl hl.1 rfl (lv_room (Nat.le_of_ble_eq_true rfl)) dX5_gone_10 ⟨Nat.zero_le _, Nat.zero_le _⟩) hS (fun H locs hP hS => ?_)
    exact x_lret hx hb hr hlocks hP hS dX5_gone_13 (Prod.mk.inj (Option.some.inj hf)).1 (Prod.mk.inj (Option.some.inj hf)).2
set_option maxHeartbeats 40000000 in
set_option maxRecDepth 100000 in
theorem kX5_compareFractions (l : Launch) {a0 : Int64} {a1 : Int64} {a2 : Int64} {a3 : Int64}  {r : Int32} (hf : fX5_compareFractions a0 a1 a2 a3 = some r) : KS l yX5_compareFractions wsX5_compareFractions (0) (0) [.long a0, .long a1, .long a2, .long a3] (some (.int r)) := by
  rw [fX5_compareFractions] at hf
  refine Met.ofW (cc := cX5_compareFractions) (maxL := 21) (ret := (some .int)) (by decide) rfl ?_
  intro p e s m args below meth c s₁ B hml hv
  obtain ⟨rfl, -⟩ := hv
  have hx := B.exec
  have hb := B.bytes
  have hr := B.returns
  have hts := atoms_spec (ws := wsX5_compareFractions) B.pre
  have hown : s.vm.findClass RX5 = some m.cls := findClass_of_methodNamed B.named
  have hlocks := B.notSynchronized
  have hl := lv_entry ([.long a0, .long a1, .long a2, .long a3]) (n := 21) (Nat.le_of_ble_eq_true rfl)
  rw [lg_entry_eq]
  generalize (lg_sl ([.long a0, .long a1, .long a2, .long a3]) ++ List.replicate (21 - (lg_sl ([.long a0, .long a1, .long a2, .long a3])).length) Slot.unset).toArray = ls at hl ⊢
  have hl : lv_has ls 21 [(0, .long a0), (2, .long a1), (4, .long a2), (6, .long a3)] := hl
  have j_51 : ∀ (v14 : Int64) (t0 : Int32) (ls : Array Slot), lv_has ls 21 [(14, .long v14)] → fX5_compareFractions_51 v14 t0 = some r → W p l e (headSpec wsX5_compareFractions ({ frames := 0, cells := 0, slots := 0, locals := 0 })).room s m ([.long a0, .long a1, .long a2, .long a3] : List Value).toArray below meth c s.heap [] 0 0 (MQ below (qcS (some (.int r))) ([.long a0, .long a1, .long a2, .long a3] : List Value).toArray s 0 0 (fun _ => False)) (F0 m 51 ls [.int t0]) := by
    intro v14 t0 ls hl hf
    rw [fX5_compareFractions_51] at hf
    refine lv_lload hx hb dX5_compareFractions_51 (lv_at hl 0 rfl) ?_
    refine lv_lconst (v := (0 : Int64)) hx hb dX5_compareFractions_53 rfl ?_
    refine W.lcmp hx hb dX5_compareFractions_54 ?_
    refine lv_if_ne (tgt := 62) hx hb dX5_compareFractions_55 (by decide) (fun c_1 => ?_) (fun c_1 => ?_)
    · have hf := (if_neg c_1).symm.trans hf
      refine lv_iconst (v := (0 : Int32)) hx hb dX5_compareFractions_62 (by decide) ?_
      refine lv_isub hx hb dX5_compareFractions_63 ?_
      exact xs_iret hx hb hr hlocks dX5_compareFractions_64 (Option.some.inj hf)
    · have hf := (if_pos c_1).symm.trans hf
      refine lv_iconst (v := (1 : Int32)) hx hb dX5_compareFractions_58 (by decide) ?_
      refine lv_goto (tgt := 63) hx hb dX5_compareFractions_59 (by decide) ?_
      refine lv_isub hx hb dX5_compareFractions_63 ?_
      exact xs_iret hx hb hr hlocks dX5_compareFractions_64 (Option.some.inj hf)
  have j_39 : ∀ (v10 : Int64) (v14 : Int64) (ls : Array Slot), lv_has ls 21 [(10, .long v10), (14, .long v14)] → fX5_compareFractions_39 v10 v14 = some r → W p l e (headSpec wsX5_compareFractions ({ frames := 0, cells := 0, slots := 0, locals := 0 })).room s m ([.long a0, .long a1, .long a2, .long a3] : List Value).toArray below meth c s.heap [] 0 0 (MQ below (qcS (some (.int r))) ([.long a0, .long a1, .long a2, .long a3] : List Value).toArray s 0 0 (fun _ => False)) (F0 m 39 ls []) := by
    intro v10 v14 ls hl hf
    rw [fX5_compareFractions_39] at hf
    refine lv_lload hx hb dX5_compareFractions_39 (lv_at hl 0 rfl) ?_
    refine lv_lconst (v := (0 : Int64)) hx hb dX5_compareFractions_41 rfl ?_
    refine W.lcmp hx hb dX5_compareFractions_42 ?_
    refine lv_if_ne (tgt := 50) hx hb dX5_compareFractions_43 (by decide) (fun c_2 => ?_) (fun c_2 => ?_)
    · have hf := (if_neg c_2).symm.trans hf
      refine lv_iconst (v := (0 : Int32)) hx hb dX5_compareFractions_50 (by decide) ?_
      exact j_51 v14 (0 : Int32) _ (lv_sub hl [1] rfl) hf
    · have hf := (if_pos c_2).symm.trans hf
      refine lv_iconst (v := (1 : Int32)) hx hb dX5_compareFractions_46 (by decide) ?_
      refine lv_goto (tgt := 51) hx hb dX5_compareFractions_47 (by decide) ?_
      exact j_51 v14 (1 : Int32) _ (lv_sub hl [1] rfl) hf
  have L_17 : ∀ (n_17 : Nat) (v8 : Int64) (v10 : Int64) (v12 : Int64) (v14 : Int64) (v16 : Int32) (ls : Array Slot), lv_has ls 21 [(8, .long v8), (10, .long v10), (12, .long v12), (14, .long v14), (16, .int v16)] → fX5_compareFractions_17 n_17 v8 v10 v12 v14 v16 = some r → W p l e (headSpec wsX5_compareFractions ({ frames := 0, cells := 0, slots := 0, locals := 0 })).room s m ([.long a0, .long a1, .long a2, .long a3] : List Value).toArray below meth c s.heap [] 0 0 (MQ below (qcS (some (.int r))) ([.long a0, .long a1, .long a2, .long a3] : List Value).toArray s 0 0 (fun _ => False)) (F0 m 17 ls []) := by
    intro n_17
    induction n_17 with
    | zero =>
      intro v8 v10 v12 v14 v16 ls hl hf
      rw [fX5_compareFractions_17] at hf
      cases hf
    | succ n_17 ih_17 =>
      intro v8 v10 v12 v14 v16 ls hl hf
      rw [fX5_compareFractions_17] at hf
      refine lv_iload hx hb dX5_compareFractions_17 (lv_at hl 4 rfl) ?_
      refine lv_sipush (v := (200 : Int32)) hx hb dX5_compareFractions_19 (by decide) ?_
      refine lv_icmp_ge (tgt := 135) hx hb dX5_compareFractions_22 (by decide) (fun c_3 => ?_) (fun c_3 => ?_)
      · have hf := (if_pos c_3).symm.trans hf
        refine lv_iconst (v := (0 : Int32)) hx hb dX5_compareFractions_135 (by decide) ?_
        exact xs_iret hx hb hr hlocks dX5_compareFractions_136 (Option.some.inj hf)
      · have hf := (if_neg c_3).symm.trans hf
        refine lv_lload hx hb dX5_compareFractions_25 (lv_at hl 1 rfl) ?_
        refine lv_lconst (v := (0 : Int64)) hx hb dX5_compareFractions_27 rfl ?_
        refine W.lcmp hx hb dX5_compareFractions_28 ?_
        refine lv_if_eq (tgt := 39) hx hb dX5_compareFractions_29 (by decide) (fun c_4 => ?_) (fun c_4 => ?_)
        · have hf := (if_pos c_4).symm.trans hf
          exact j_39 v10 v14 _ (lv_sub hl [1, 3] rfl) hf
        · have hf := (if_neg c_4).symm.trans hf
          refine lv_lload hx hb dX5_compareFractions_32 (lv_at hl 3 rfl) ?_
          refine lv_lconst (v := (0 : Int64)) hx hb dX5_compareFractions_34 rfl ?_
          refine W.lcmp hx hb dX5_compareFractions_35 ?_
          refine lv_if_ne (tgt := 65) hx hb dX5_compareFractions_36 (by decide) (fun c_5 => ?_) (fun c_5 => ?_)
          · have hf := (if_neg c_5).symm.trans hf
            refine lv_lload hx hb dX5_compareFractions_65 (lv_at hl 0 rfl) ?_
            refine lv_lload hx hb dX5_compareFractions_67 (lv_at hl 1 rfl) ?_
            obtain ⟨c_6, hf⟩ := x_ck hf
            refine lv_ldiv hx hb dX5_compareFractions_69 c_6 ?_
            refine lv_lload hx hb dX5_compareFractions_70 (lv_at hl 2 rfl) ?_
            refine lv_lload hx hb dX5_compareFractions_72 (lv_at hl 3 rfl) ?_
            obtain ⟨c_7, hf⟩ := x_ck hf
            refine lv_ldiv hx hb dX5_compareFractions_74 c_7 ?_
            refine W.lcmp hx hb dX5_compareFractions_75 ?_
            refine lv_if_eq (tgt := 99) hx hb dX5_compareFractions_76 (by decide) (fun c_8 => ?_) (fun c_8 => ?_)
            · have hf := (if_pos c_8).symm.trans hf
              refine lv_lload hx hb dX5_compareFractions_99 (lv_at hl 0 rfl) ?_
              refine lv_lload hx hb dX5_compareFractions_101 (lv_at hl 1 rfl) ?_
              obtain ⟨c_9, hf⟩ := x_ck hf
              refine lv_lrem hx hb dX5_compareFractions_103 c_9 ?_
              refine lv_lstore (lv' := [(17, .long (v8 - v8 / v10 * v10)), (8, .long v8), (10, .long v10), (12, .long v12), (14, .long v14), (16, .int v16)]) hx hb dX5_compareFractions_104 hl (by decide) rfl (fun ls hl => ?_)
              refine lv_lload hx hb dX5_compareFractions_106 (lv_at hl 3 rfl) ?_
              refine lv_lload hx hb dX5_compareFractions_108 (lv_at hl 4 rfl) ?_
              obtain ⟨c_10, hf⟩ := x_ck hf
              refine lv_lrem hx hb dX5_compareFractions_110 c_10 ?_
              refine lv_lstore (lv' := [(19, .long (v12 - v12 / v14 * v14)), (17, .long (v8 - v8 / v10 * v10)), (8, .long v8), (10, .long v10), (12, .long v12), (14, .long v14), (16, .int v16)]) hx hb dX5_compareFractions_111 hl (by decide) rfl (fun ls hl => ?_)
              refine lv_lload hx hb dX5_compareFractions_113 (lv_at hl 5 rfl) ?_
              refine lv_lstore (lv' := [(8, .long v14), (19, .long (v12 - v12 / v14 * v14)), (17, .long (v8 - v8 / v10 * v10)), (10, .long v10), (12, .long v12), (14, .long v14), (16, .int v16)]) hx hb dX5_compareFractions_115 hl (by decide) rfl (fun ls hl => ?_)
              refine lv_lload hx hb dX5_compareFractions_117 (lv_at hl 3 rfl) ?_
              refine lv_lstore (lv' := [(12, .long v10), (8, .long v14), (19, .long (v12 - v12 / v14 * v14)), (17, .long (v8 - v8 / v10 * v10)), (10, .long v10), (14, .long v14), (16, .int v16)]) hx hb dX5_compareFractions_119 hl (by decide) rfl (fun ls hl => ?_)
              refine lv_lload hx hb dX5_compareFractions_121 (lv_at hl 2 rfl) ?_
              refine lv_lstore (lv' := [(10, .long (v12 - v12 / v14 * v14)), (12, .long v10), (8, .long v14), (19, .long (v12 - v12 / v14 * v14)), (17, .long (v8 - v8 / v10 * v10)), (14, .long v14), (16, .int v16)]) hx hb dX5_compareFractions_123 hl (by decide) rfl (fun ls hl => ?_)
              refine lv_lload hx hb dX5_compareFractions_125 (lv_at hl 4 rfl) ?_
              refine lv_lstore (lv' := [(14, .long (v8 - v8 / v10 * v10)), (10, .long (v12 - v12 / v14 * v14)), (12, .long v10), (8, .long v14), (19, .long (v12 - v12 / v14 * v14)), (17, .long (v8 - v8 / v10 * v10)), (16, .int v16)]) hx hb dX5_compareFractions_127 hl (by decide) rfl (fun ls hl => ?_)
              refine lv_iinc (v := (v16 + (1 : Int32))) (lv' := [(16, .int (v16 + (1 : Int32))), (14, .long (v8 - v8 / v10 * v10)), (10, .long (v12 - v12 / v14 * v14)), (12, .long v10), (8, .long v14), (19, .long (v12 - v12 / v14 * v14)), (17, .long (v8 - v8 / v10 * v10))]) hx hb dX5_compareFractions_129 hl (k := 6) rfl rfl (by decide) rfl (fun ls hl => ?_)
              refine lv_goto (tgt := 17) hx hb dX5_compareFractions_132 (by decide) ?_
              exact ih_17 v14 (v12 - v12 / v14 * v14) v10 (v8 - v8 / v10 * v10) (v16 + (1 : Int32)) _ (lv_sub hl [4, 2, 3, 1, 0] rfl) hf
            · have hf := (if_neg c_8).symm.trans hf
              refine lv_lload hx hb dX5_compareFractions_79 (lv_at hl 0 rfl) ?_
              refine lv_lload hx hb dX5_compareFractions_81 (lv_at hl 1 rfl) ?_
              obtain ⟨c_11, hf⟩ := x_ck hf
              refine lv_ldiv hx hb dX5_compareFractions_83 c_11 ?_
              refine lv_lload hx hb dX5_compareFractions_84 (lv_at hl 2 rfl) ?_
              refine lv_lload hx hb dX5_compareFractions_86 (lv_at hl 3 rfl) ?_
              obtain ⟨c_12, hf⟩ := x_ck hf
              refine lv_ldiv hx hb dX5_compareFractions_88 c_12 ?_
              refine W.lcmp hx hb dX5_compareFractions_89 ?_
              refine lv_if_le (tgt := 97) hx hb dX5_compareFractions_90 (by decide) (fun c_13 => ?_) (fun c_13 => ?_)
              · have hf := (if_pos c_13).symm.trans hf
                refine lv_iconst (v := (-1 : Int32)) hx hb dX5_compareFractions_97 (by decide) ?_
                exact xs_iret hx hb hr hlocks dX5_compareFractions_98 (Option.some.inj hf)
              · have hf := (if_neg c_13).symm.trans hf
                refine lv_iconst (v := (1 : Int32)) hx hb dX5_compareFractions_93 (by decide) ?_
                refine lv_goto (tgt := 98) hx hb dX5_compareFractions_94 (by decide) ?_
                exact xs_iret hx hb hr hlocks dX5_compareFractions_98 (Option.some.inj hf)
          · have hf := (if_pos c_5).symm.trans hf
            exact j_39 v10 v14 _ (lv_sub hl [1, 3] rfl) hf
  refine lv_lload_n hx hb dX5_compareFractions_0 rfl (lv_at hl 0 rfl) ?_
  refine lv_lstore (lv' := [(8, .long a0), (0, .long a0), (2, .long a1), (4, .long a2), (6, .long a3)]) hx hb dX5_compareFractions_1 hl (by decide) rfl (fun ls hl => ?_)
  refine lv_lload_n hx hb dX5_compareFractions_3 rfl (lv_at hl 2 rfl) ?_
  refine lv_lstore (lv' := [(10, .long a1), (8, .long a0), (0, .long a0), (2, .long a1), (4, .long a2), (6, .long a3)]) hx hb dX5_compareFractions_4 hl (by decide) rfl (fun ls hl => ?_)
  refine lv_lload hx hb dX5_compareFractions_6 (lv_at hl 4 rfl) ?_
  refine lv_lstore (lv' := [(12, .long a2), (10, .long a1), (8, .long a0), (0, .long a0), (2, .long a1), (4, .long a2), (6, .long a3)]) hx hb dX5_compareFractions_8 hl (by decide) rfl (fun ls hl => ?_)
  refine lv_lload hx hb dX5_compareFractions_10 (lv_at hl 6 rfl) ?_
  refine lv_lstore (lv' := [(14, .long a3), (12, .long a2), (10, .long a1), (8, .long a0), (0, .long a0), (2, .long a1), (4, .long a2), (6, .long a3)]) hx hb dX5_compareFractions_12 hl (by decide) rfl (fun ls hl => ?_)
  refine lv_iconst (v := (0 : Int32)) hx hb dX5_compareFractions_14 (by decide) ?_
  refine lv_istore (lv' := [(16, .int (0 : Int32)), (14, .long a3), (12, .long a2), (10, .long a1), (8, .long a0), (0, .long a0), (2, .long a1), (4, .long a2), (6, .long a3)]) hx hb dX5_compareFractions_15 hl (by decide) rfl (fun ls hl => ?_)
  exact L_17 1000 a0 a1 a2 a3 (0 : Int32) _ (lv_sub hl [4, 3, 2, 1, 0] rfl) hf
set_option maxHeartbeats 40000000 in
set_option maxRecDepth 100000 in
theorem kX5_compareAll (l : Launch) (z : Cx) (hz : okC 40 z) {a0 : Int32} {a1 : Int32}  {σ σ' : Mm} {r : Int32} (hf : fX5_compareAll a0 a1 σ = some (r, σ')) : KG 40 ceX l yX5_compareAll wsX5_compareAll (5) (127) [.ref (z.2.1 0), .int a0, .int a1] z σ σ' (some (.int r)) := by
  rw [fX5_compareAll] at hf
  refine Met.ofW (cc := cX5_compareAll) (maxL := 5) (ret := (some .int)) (by decide) rfl ?_
  intro p e s m args below meth c s₁ B hml hv
  obtain ⟨rfl, hP, hK, hE⟩ := hv
  have hx := B.exec
  have hb := B.bytes
  have hr := B.returns
  have hts := atoms_spec (ws := wsX5_compareAll) B.pre
  have hown : s.vm.findClass RX5 = some m.cls := findClass_of_methodNamed B.named
  have hlocks := B.notSynchronized
  have hS : va_S (aG 40 z) s.heap s.heap [] := va_S.rf
  have hl := lv_entry ([.ref (z.2.1 0), .int a0, .int a1]) (n := 5) (Nat.le_of_ble_eq_true rfl)
  rw [lg_entry_eq]
  generalize (lg_sl ([.ref (z.2.1 0), .int a0, .int a1]) ++ List.replicate (5 - (lg_sl ([.ref (z.2.1 0), .int a0, .int a1])).length) Slot.unset).toArray = ls at hl ⊢
  have hl : lv_has ls 5 [(0, .ref (z.2.1 0)), (1, .int a0), (2, .int a1)] := hl
  refine lv_aload_n hx hb dX5_compareAll_0 rfl (lv_at hl 0 rfl) ?_
  refine lv_iload_n hx hb dX5_compareAll_1 rfl (lv_at hl 1 rfl) ?_
  obtain ⟨q_1001, hq_1001, hf⟩ := x_bd hf
  obtain ⟨c_1002, hf⟩ := x_ck hf
  refine x_callGr (va_runV (As := [.int a0]) (rest := []) ⟨hx, hb, hml, hown, hts⟩ (kX5_tallyOf l z hz hq_1001) (cwV 1 hts gX5_compareAll_X5_tallyOf rfl rfl rfl (by decide +kernel) ⟨Nat.le_of_ble_eq_true rfl, Nat.le_of_ble_eq_true rfl⟩) (pvG hK hP hE hS (va_recv hK hP (ci := 5) (q0 := 0) rfl (wl_at (by decide) cX5))) rfl rfl hl.1 rfl (lv_room (Nat.le_of_ble_eq_true rfl)) dX5_compareAll_2 ⟨Nat.zero_le _, Nat.zero_le _⟩) hS (fun H locs hP hS => ?_)
  refine lv_astore_n (lv' := [(3, .ref (z.2.1 q_1001.1)), (0, .ref (z.2.1 0)), (1, .int a0), (2, .int a1)]) hx hb dX5_compareAll_5 rfl hl (by decide) rfl (fun ls hl => ?_)
  refine lv_aload_n hx hb dX5_compareAll_6 rfl (lv_at hl 1 rfl) ?_
  refine lv_iload_n hx hb dX5_compareAll_7 rfl (lv_at hl 3 rfl) ?_
  obtain ⟨q_1003, hq_1003, hf⟩ := x_bd hf
  obtain ⟨c_1004, hf⟩ := x_ck hf
  refine x_callGr (va_runV (As := [.int a1]) (rest := []) ⟨hx, hb, hml, hown, hts⟩ (kX5_tallyOf l z hz hq_1003) (cwV 1 hts gX5_compareAll_X5_tallyOf rfl rfl rfl (by decide +kernel) ⟨Nat.le_of_ble_eq_true rfl, Nat.le_of_ble_eq_true rfl⟩) (pvG hK hP hE hS (va_recv hK hP (ci := 5) (q0 := 0) rfl (wl_at (by decide) cX5))) rfl rfl hl.1 rfl (lv_room (Nat.le_of_ble_eq_true rfl)) dX5_compareAll_8 ⟨Nat.zero_le _, Nat.zero_le _⟩) hS (fun H locs hP hS => ?_)
  refine lv_astore (lv' := [(4, .ref (z.2.1 q_1003.1)), (3, .ref (z.2.1 q_1001.1)), (0, .ref (z.2.1 0)), (1, .int a0), (2, .int a1)]) hx hb dX5_compareAll_11 hl (by decide) rfl (fun ls hl => ?_)
  refine lv_aload_n hx hb dX5_compareAll_13 rfl (lv_at hl 1 rfl) ?_
  refine lv_iconst (v := (1 : Int32)) hx hb dX5_compareAll_14 (by decide) ?_
  refine lv_iconst (v := (0 : Int32)) hx hb dX5_compareAll_15 (by decide) ?_
  obtain ⟨q_1005, hq_1005, hf⟩ := x_bd hf
  refine x_callGl (va_runV (As := [.int (1 : Int32), .int (0 : Int32)]) (rest := []) ⟨hx, hb, hml, hown, hts⟩ (kX1_sum l z hz c_1002 hq_1005) (cwV 2 hts gX5_compareAll_X1_sum rfl rfl rfl (by decide +kernel) ⟨Nat.le_of_ble_eq_true rfl, Nat.le_of_ble_eq_true rfl⟩) (pvG hK hP hE hS (va_recv hK hP (ci := 1) (q0 := q_1001.1) rfl (wl_at (tal_lt c_1002) (cX1 c_1002)))) rfl rfl hl.1 rfl (lv_room (Nat.le_of_ble_eq_true rfl)) dX5_compareAll_16 ⟨Nat.zero_le _, Nat.zero_le _⟩) hS (fun H locs hP hS => ?_)
  refine lv_aload_n hx hb dX5_compareAll_19 rfl (lv_at hl 1 rfl) ?_
  refine lv_iconst (v := (0 : Int32)) hx hb dX5_compareAll_20 (by decide) ?_
  refine lv_iconst (v := (0 : Int32)) hx hb dX5_compareAll_21 (by decide) ?_
  obtain ⟨q_1006, hq_1006, hf⟩ := x_bd hf
  refine x_callGl (va_runV (As := [.int (0 : Int32), .int (0 : Int32)]) (rest := [.long q_1005]) ⟨hx, hb, hml, hown, hts⟩ (kX1_sum l z hz c_1002 hq_1006) (cwV 2 hts gX5_compareAll_X1_sum rfl rfl rfl (by decide +kernel) ⟨Nat.le_of_ble_eq_true rfl, Nat.le_of_ble_eq_true rfl⟩) (pvG hK hP hE hS (va_recv hK hP (ci := 1) (q0 := q_1001.1) rfl (wl_at (tal_lt c_1002) (cX1 c_1002)))) rfl rfl hl.1 rfl (lv_room (Nat.le_of_ble_eq_true rfl)) dX5_compareAll_22 ⟨Nat.zero_le _, Nat.zero_le _⟩) hS (fun H locs hP hS => ?_)
  refine lv_aload hx hb dX5_compareAll_25 (lv_at hl 0 rfl) ?_
  refine lv_iconst (v := (1 : Int32)) hx hb dX5_compareAll_27 (by decide) ?_
  refine lv_iconst (v := (0 : Int32)) hx hb dX5_compareAll_28 (by decide) ?_
  obtain ⟨q_1007, hq_1007, hf⟩ := x_bd hf
  refine x_callGl (va_runV (As := [.int (1 : Int32), .int (0 : Int32)]) (rest := [.long q_1006, .long q_1005]) ⟨hx, hb, hml, hown, hts⟩ (kX1_sum l z hz c_1004 hq_1007) (cwV 2 hts gX5_compareAll_X1_sum rfl rfl rfl (by decide +kernel) ⟨Nat.le_of_ble_eq_true rfl, Nat.le_of_ble_eq_true rfl⟩) (pvG hK hP hE hS (va_recv hK hP (ci := 1) (q0 := q_1003.1) rfl (wl_at (tal_lt c_1004) (cX1 c_1004)))) rfl rfl hl.1 rfl (lv_room (Nat.le_of_ble_eq_true rfl)) dX5_compareAll_29 ⟨Nat.zero_le _, Nat.zero_le _⟩) hS (fun H locs hP hS => ?_)
  refine lv_aload hx hb dX5_compareAll_32 (lv_at hl 0 rfl) ?_
  refine lv_iconst (v := (0 : Int32)) hx hb dX5_compareAll_34 (by decide) ?_
  refine lv_iconst (v := (0 : Int32)) hx hb dX5_compareAll_35 (by decide) ?_
  obtain ⟨q_1008, hq_1008, hf⟩ := x_bd hf
  refine x_callGl (va_runV (As := [.int (0 : Int32), .int (0 : Int32)]) (rest := [.long q_1007, .long q_1006, .long q_1005]) ⟨hx, hb, hml, hown, hts⟩ (kX1_sum l z hz c_1004 hq_1008) (cwV 2 hts gX5_compareAll_X1_sum rfl rfl rfl (by decide +kernel) ⟨Nat.le_of_ble_eq_true rfl, Nat.le_of_ble_eq_true rfl⟩) (pvG hK hP hE hS (va_recv hK hP (ci := 1) (q0 := q_1003.1) rfl (wl_at (tal_lt c_1004) (cX1 c_1004)))) rfl rfl hl.1 rfl (lv_room (Nat.le_of_ble_eq_true rfl)) dX5_compareAll_36 ⟨Nat.zero_le _, Nat.zero_le _⟩) hS (fun H locs hP hS => ?_)
  obtain ⟨q_1009, hq_1009, hf⟩ := x_bd hf
  refine x_callSi (va_runS (As := [.long q_1005, .long q_1006, .long q_1007, .long q_1008]) (rest := []) ⟨hx, hb, hml, hown, hts⟩ (kX5_compareFractions l hq_1009) (va_cwS 4 hts gX5_compareAll_X5_compareFractions rfl rfl rfl (by decide +kernel) ⟨Nat.le_of_ble_eq_true rfl, Nat.le_of_ble_eq_true rfl⟩) psS rfl rfl hl.1 rfl (lv_room (Nat.le_of_ble_eq_true rfl)) dX5_compareAll_39 ⟨Nat.zero_le _, Nat.zero_le _⟩) ?_
  exact x_iret hx hb hr hlocks hP hS dX5_compareAll_42 (Prod.mk.inj (Option.some.inj hf)).1 (Prod.mk.inj (Option.some.inj hf)).2
set_option maxHeartbeats 40000000 in
set_option maxRecDepth 100000 in
theorem kX5_shift (l : Launch) (z : Cx) (hz : okC 40 z) {a0 : Int32}  {σ σ' : Mm} {r : Int32} (hf : fX5_shift a0 σ = some (r, σ')) : KG 40 ceX l yX5_shift wsX5_shift (6) (151) [.ref (z.2.1 0), .int a0] z σ σ' (some (.int r)) := by
  rw [fX5_shift] at hf
  refine Met.ofW (cc := cX5_shift) (maxL := 5) (ret := (some .int)) (by decide) rfl ?_
  intro p e s m args below meth c s₁ B hml hv
  obtain ⟨rfl, hP, hK, hE⟩ := hv
  have hx := B.exec
  have hb := B.bytes
  have hr := B.returns
  have hts := atoms_spec (ws := wsX5_shift) B.pre
  have hown : s.vm.findClass RX5 = some m.cls := findClass_of_methodNamed B.named
  have hlocks := B.notSynchronized
  have hS : va_S (aG 40 z) s.heap s.heap [] := va_S.rf
  have hl := lv_entry ([.ref (z.2.1 0), .int a0]) (n := 5) (Nat.le_of_ble_eq_true rfl)
  rw [lg_entry_eq]
  generalize (lg_sl ([.ref (z.2.1 0), .int a0]) ++ List.replicate (5 - (lg_sl ([.ref (z.2.1 0), .int a0])).length) Slot.unset).toArray = ls at hl ⊢
  have hl : lv_has ls 5 [(0, .ref (z.2.1 0)), (1, .int a0)] := hl
  have L_18 : ∀ (n_18 : Nat) (v1 : Int32) (v2 : Int32) (v3 : Int32) (σ : Mm) (H : Heap) (locs : List Loc) (ls : Array Slot), va_P z.1 vwCl (wl 40 z.2.1 (ceX z σ)) H → va_S (aG 40 z) s.heap H locs → lv_has ls 5 [(0, .ref (z.2.1 0)), (1, .int v1), (2, .int v2), (3, .int v3)] → fX5_shift_18 n_18 v1 v2 v3 σ = some (r, σ') → W p l e (headSpec wsX5_shift ({ frames := 6, cells := 0, slots := 0, locals := 151 })).room s m ([.ref (z.2.1 0), .int a0] : List Value).toArray below meth c H locs 0 0 (MQ below (qcG 40 ceX z σ' (some (.int r))) ([.ref (z.2.1 0), .int a0] : List Value).toArray s 0 0 (aG 40 z)) (F0 m 18 ls []) := by
    intro n_18
    induction n_18 with
    | zero =>
      intro v1 v2 v3 σ H locs ls hP hS hl hf
      rw [fX5_shift_18] at hf
      cases hf
    | succ n_18 ih_18 =>
      have j_51 : ∀ (v1 : Int32) (v2 : Int32) (v3 : Int32) (σ : Mm) (H : Heap) (locs : List Loc) (ls : Array Slot), va_P z.1 vwCl (wl 40 z.2.1 (ceX z σ)) H → va_S (aG 40 z) s.heap H locs → lv_has ls 5 [(0, .ref (z.2.1 0)), (1, .int v1), (2, .int v2), (3, .int v3)] → fX5_shift_51 (fun wv1 wv2 wv3 wσ => fX5_shift_18 n_18 wv1 wv2 wv3 wσ) v1 v2 v3 σ = some (r, σ') → W p l e (headSpec wsX5_shift ({ frames := 6, cells := 0, slots := 0, locals := 151 })).room s m ([.ref (z.2.1 0), .int a0] : List Value).toArray below meth c H locs 0 0 (MQ below (qcG 40 ceX z σ' (some (.int r))) ([.ref (z.2.1 0), .int a0] : List Value).toArray s 0 0 (aG 40 z)) (F0 m 51 ls []) := by
        intro v1 v2 v3 σ H locs ls hP hS hl hf
        rw [fX5_shift_51] at hf
        refine lv_iinc (v := (v3 + (1 : Int32))) (lv' := [(3, .int (v3 + (1 : Int32))), (0, .ref (z.2.1 0)), (1, .int v1), (2, .int v2)]) hx hb dX5_shift_51 hl (k := 3) rfl rfl (by decide) rfl (fun ls hl => ?_)
        refine lv_goto (tgt := 18) hx hb dX5_shift_54 (by decide) ?_
        exact ih_18 v1 v2 (v3 + (1 : Int32)) σ _ _ _ hP hS (lv_sub hl [1, 2, 3, 0] rfl) hf
      have j_49 : ∀ (v1 : Int32) (v3 : Int32) (σ : Mm) (H : Heap) (locs : List Loc) (ls : Array Slot), va_P z.1 vwCl (wl 40 z.2.1 (ceX z σ)) H → va_S (aG 40 z) s.heap H locs → lv_has ls 5 [(0, .ref (z.2.1 0)), (1, .int v1), (3, .int v3)] → fX5_shift_49 (fun wv1 wv2 wv3 wσ => fX5_shift_18 n_18 wv1 wv2 wv3 wσ) v1 v3 σ = some (r, σ') → W p l e (headSpec wsX5_shift ({ frames := 6, cells := 0, slots := 0, locals := 151 })).room s m ([.ref (z.2.1 0), .int a0] : List Value).toArray below meth c H locs 0 0 (MQ below (qcG 40 ceX z σ' (some (.int r))) ([.ref (z.2.1 0), .int a0] : List Value).toArray s 0 0 (aG 40 z)) (F0 m 49 ls []) := by
        intro v1 v3 σ H locs ls hP hS hl hf
        rw [fX5_shift_49] at hf
        refine lv_iload_n hx hb dX5_shift_49 rfl (lv_at hl 2 rfl) ?_
        refine lv_istore_n (lv' := [(2, .int v3), (0, .ref (z.2.1 0)), (1, .int v1), (3, .int v3)]) hx hb dX5_shift_50 rfl hl (by decide) rfl (fun ls hl => ?_)
        exact j_51 v1 v3 v3 σ _ _ _ hP hS (lv_sub hl [1, 2, 0, 3] rfl) hf
      intro v1 v2 v3 σ H locs ls hP hS hl hf
      rw [fX5_shift_18] at hf
      refine lv_iload_n hx hb dX5_shift_18 rfl (lv_at hl 3 rfl) ?_
      refine lv_bipush (v := (6 : Int32)) hx hb dX5_shift_19 (by decide) ?_
      refine lv_icmp_ge (tgt := 57) hx hb dX5_shift_21 (by decide) (fun c_4 => ?_) (fun c_4 => ?_)
      · have hf := (if_pos c_4).symm.trans hf
        refine lv_iload_n hx hb dX5_shift_57 rfl (lv_at hl 2 rfl) ?_
        exact x_iret hx hb hr hlocks hP hS dX5_shift_58 (Prod.mk.inj (Option.some.inj hf)).1 (Prod.mk.inj (Option.some.inj hf)).2
      · have hf := (if_neg c_4).symm.trans hf
        refine lv_aload_n hx hb dX5_shift_24 rfl (lv_at hl 0 rfl) ?_
        refine lv_iload_n hx hb dX5_shift_25 rfl (lv_at hl 3 rfl) ?_
        refine lv_iload_n hx hb dX5_shift_26 rfl (lv_at hl 2 rfl) ?_
        obtain ⟨q_5, hq_5, hf⟩ := x_bd hf
        refine x_callGi (va_runV (As := [.int v3, .int v2]) (rest := []) ⟨hx, hb, hml, hown, hts⟩ (kX5_compareAll l z hz hq_5) (cwV 2 hts gX5_shift_X5_compareAll rfl rfl rfl (by decide +kernel) ⟨Nat.le_of_ble_eq_true rfl, Nat.le_of_ble_eq_true rfl⟩) (pvG hK hP hE hS (va_recv hK hP (ci := 5) (q0 := 0) rfl (wl_at (by decide) cX5))) rfl rfl hl.1 rfl (lv_room (Nat.le_of_ble_eq_true rfl)) dX5_shift_27 ⟨Nat.zero_le _, Nat.zero_le _⟩) hS (fun H locs hP hS => ?_)
        refine lv_istore (lv' := [(4, .int q_5.1), (0, .ref (z.2.1 0)), (1, .int v1), (2, .int v2), (3, .int v3)]) hx hb dX5_shift_30 hl (by decide) rfl (fun ls hl => ?_)
        refine lv_iload_n hx hb dX5_shift_32 rfl (lv_at hl 2 rfl) ?_
        refine lv_if_ne (tgt := 44) hx hb dX5_shift_33 (by decide) (fun c_6 => ?_) (fun c_6 => ?_)
        · have hf := (if_neg c_6).symm.trans hf
          refine lv_iload hx hb dX5_shift_44 (lv_at hl 0 rfl) ?_
          refine lv_if_ge (tgt := 51) hx hb dX5_shift_46 (by decide) (fun c_7 => ?_) (fun c_7 => ?_)
          · have hf := (if_pos c_7).symm.trans hf
            exact j_51 v1 v2 v3 q_5.2 _ _ _ hP hS (lv_sub hl [1, 2, 3, 4] rfl) hf
          · have hf := (if_neg c_7).symm.trans hf
            exact j_49 v1 v3 q_5.2 _ _ _ hP hS (lv_sub hl [1, 2, 4] rfl) hf
        · have hf := (if_pos c_6).symm.trans hf
          refine lv_iload hx hb dX5_shift_36 (lv_at hl 0 rfl) ?_
          refine lv_if_le (tgt := 51) hx hb dX5_shift_38 (by decide) (fun c_8 => ?_) (fun c_8 => ?_)
          · have hf := (if_pos c_8).symm.trans hf
            exact j_51 v1 v2 v3 q_5.2 _ _ _ hP hS (lv_sub hl [1, 2, 3, 4] rfl) hf
          · have hf := (if_neg c_8).symm.trans hf
            refine lv_goto (tgt := 49) hx hb dX5_shift_41 (by decide) ?_
            exact j_49 v1 v3 q_5.2 _ _ _ hP hS (lv_sub hl [1, 2, 4] rfl) hf
  refine lv_iload_n hx hb dX5_shift_0 rfl (lv_at hl 1 rfl) ?_
  obtain ⟨q_1001, hq_1001, hf⟩ := x_bd hf
  refine x_callSi (va_runS (As := [.int a0]) (rest := []) ⟨hx, hb, hml, hown, hts⟩ (kX5_isNoBit l hq_1001) (va_cwS 1 hts gX5_shift_X5_isNoBit rfl rfl rfl (by decide +kernel) ⟨Nat.le_of_ble_eq_true rfl, Nat.le_of_ble_eq_true rfl⟩) psS rfl rfl hl.1 rfl (lv_room (Nat.le_of_ble_eq_true rfl)) dX5_shift_1 ⟨Nat.zero_le _, Nat.zero_le _⟩) ?_
  refine lv_if_eq (tgt := 14) hx hb dX5_shift_4 (by decide) (fun c_1002 => ?_) (fun c_1002 => ?_)
  · have hf := (if_pos c_1002).symm.trans hf
    refine lv_iconst (v := (0 : Int32)) hx hb dX5_shift_14 (by decide) ?_
    refine lv_istore_n (lv' := [(2, .int (0 : Int32)), (0, .ref (z.2.1 0)), (1, .int a0)]) hx hb dX5_shift_15 rfl hl (by decide) rfl (fun ls hl => ?_)
    refine lv_iconst (v := (1 : Int32)) hx hb dX5_shift_16 (by decide) ?_
    refine lv_istore_n (lv' := [(3, .int (1 : Int32)), (2, .int (0 : Int32)), (0, .ref (z.2.1 0)), (1, .int a0)]) hx hb dX5_shift_17 rfl hl (by decide) rfl (fun ls hl => ?_)
    exact L_18 1000 a0 (0 : Int32) (1 : Int32) σ _ _ _ hP hS (lv_sub hl [2, 3, 1, 0] rfl) hf
  · have hf := (if_neg c_1002).symm.trans hf
    refine lv_aload_n hx hb dX5_shift_7 rfl (lv_at hl 0 rfl) ?_
    refine lv_bipush (v := (-2 : Int32)) hx hb dX5_shift_8 (by decide) ?_
    obtain ⟨q_1003, hq_1003, hf⟩ := x_bd hf
    refine x_callGi (va_runV (As := [.int (-2 : Int32)]) (rest := []) ⟨hx, hb, hml, hown, hts⟩ (kX5_refuse l z hz hq_1003) (cwV 1 hts gX5_shift_X5_refuse rfl rfl rfl (by decide +kernel) ⟨Nat.le_of_ble_eq_true rfl, Nat.le_of_ble_eq_true rfl⟩) (pvG hK hP hE hS (va_recv hK hP (ci := 5) (q0 := 0) rfl (wl_at (by decide) cX5))) rfl rfl hl.1 rfl (lv_room (Nat.le_of_ble_eq_true rfl)) dX5_shift_10 ⟨Nat.zero_le _, Nat.zero_le _⟩) hS (fun H locs hP hS => ?_)
    exact x_iret hx hb hr hlocks hP hS dX5_shift_13 (Prod.mk.inj (Option.some.inj hf)).1 (Prod.mk.inj (Option.some.inj hf)).2
