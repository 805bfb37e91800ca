set_option maxHeartbeats 40000000 in
set_option maxRecDepth 100000 in
theorem kX6_share (l : Launch) (z : Cx) (hz : okC 8 z) {a0 : Int32}  {σ σ' : Mm} {r : Int64} (hf : fX6_share a0 σ = some (r, σ')) : KG 8 ceM l yX6_share wsX6_share (202) (4649) [.ref (z.2.1 0), .int a0] z σ σ' (some (.long r)) := by
  rw [fX6_share] at hf
  refine Met.ofW (cc := cX6_share) (maxL := 2) (ret := (some .long)) (by decide) rfl ?_
  intro p e s m args below meth c s₁ B hml hv
  obtain ⟨rfl, hP, hK, hE⟩ := hv
  have hx := B.exec
  have hb := B.bytes
  have hr := B.returns
  have hts := atoms_spec (ws := wsX6_share) B.pre
  have hown : s.vm.findClass RX6 = some m.cls := findClass_of_methodNamed B.named
  have hlocks := B.notSynchronized
  have in_X6 : ∀ w ∈ wsX60, w ∈ wsX6_share := by decide +kernel
  have hS : va_S (aG 8 z) s.heap s.heap [] := va_S.rf
  have hl := lv_entry ([.ref (z.2.1 0), .int a0]) (n := 2) (Nat.le_of_ble_eq_true rfl)
  rw [lg_entry_eq]
  generalize (lg_sl ([.ref (z.2.1 0), .int a0]) ++ List.replicate (2 - (lg_sl ([.ref (z.2.1 0), .int a0])).length) Slot.unset).toArray = ls at hl ⊢
  have hl : lv_has ls 2 [(0, .ref (z.2.1 0)), (1, .int a0)] := hl
  refine lv_iload_n hx hb dX6_share_0 rfl (lv_at hl 1 rfl) ?_
  obtain ⟨q_1001, hq_1001, hf⟩ := x_bd hf
  refine x_callSi (va_runS (As := [.int a0]) (rest := []) ⟨hx, hb, hml, hown, hts⟩ (kX6_isPart l hq_1001) (va_cwS 1 hts gX6_share_X6_isPart rfl rfl rfl (by decide +kernel) ⟨Nat.le_of_ble_eq_true rfl, Nat.le_of_ble_eq_true rfl⟩) psS rfl rfl hl.1 rfl (lv_room (Nat.le_of_ble_eq_true rfl)) dX6_share_1 ⟨Nat.zero_le _, Nat.zero_le _⟩) ?_
  refine lv_if_ne (tgt := 14) hx hb dX6_share_4 (by decide) (fun c_1002 => ?_) (fun c_1002 => ?_)
  · have hf := (if_neg c_1002).symm.trans hf
    refine lv_aload_n hx hb dX6_share_14 rfl (lv_at hl 0 rfl) ?_
    refine lv_aload_n hx hb dX6_share_15 rfl (lv_at hl 0 rfl) ?_
    refine va_get (D := z.1) (ci := 6) (v := .ref (z.2.1 2)) (C := RX6) (T := TX6) (N := 29) hx hb hts in_X6 hown hK hP 0 (wl_at (by decide) cX6) rfl 1 (by decide) (hts (.fieldLink RX6 13 "TillOneOfSortModel" "s" "[I") (by decide +kernel)) (fun _ h9 => h9) rfl dX6_share_16 ?_
    refine lv_iconst (v := (3 : Int32)) hx hb dX6_share_19 (by decide) ?_
    obtain ⟨c_1003, hf⟩ := x_ck hf
    refine va_iald hx hb hK hP 2 0 (wl_at (i22_lt (rfl : isI22 2 = true)) (cMI22 (rfl : isI22 2 = true))) rfl (ci_in c_1003) dX6_share_20 ?_
    obtain ⟨q_1004, hq_1004, hf⟩ := x_bd hf
    refine x_callGv (va_runV (As := [.int (gI σ 2 (3 : Int32).toNatClampNeg)]) (rest := []) ⟨hx, hb, hml, hown, hts⟩ (kX6_finds l z hz hq_1004) (cwV 1 hts gX6_share_X6_finds rfl rfl rfl (by decide +kernel) ⟨Nat.le_of_ble_eq_true rfl, Nat.le_of_ble_eq_true rfl⟩) (pvG hK hP hE hS (va_recv hK hP (ci := 6) (q0 := 0) rfl (wl_at (by decide) cX6))) rfl rfl hl.1 rfl (lv_room (Nat.le_of_ble_eq_true rfl)) dX6_share_21 ⟨Nat.zero_le _, Nat.zero_le _⟩) hS (fun H locs hP hS => ?_)
    refine lv_aload_n hx hb dX6_share_24 rfl (lv_at hl 0 rfl) ?_
    refine va_get (D := z.1) (ci := 6) (v := .long (gL q_1004 0 12)) (C := RX6) (T := TX6) (N := 29) hx hb hts in_X6 hown hK hP 0 (wl_at (by decide) cX6) rfl 12 (by decide) (hts (.fieldLink RX6 101 "TillOneOfSortModel" "shares" "J") (by decide +kernel)) (fun _ h9 => h9) rfl dX6_share_25 ?_
    refine lv_aload_n hx hb dX6_share_28 rfl (lv_at hl 0 rfl) ?_
    refine va_get (D := z.1) (ci := 6) (v := .long (gL q_1004 0 9)) (C := RX6) (T := TX6) (N := 29) hx hb hts in_X6 hown hK hP 0 (wl_at (by decide) cX6) rfl 9 (by decide) (hts (.fieldLink RX6 148 "TillOneOfSortModel" "whole" "J") (by decide +kernel)) (fun _ h9 => h9) rfl dX6_share_29 ?_
    refine lv_ldc2 (v := (2520 : Int64)) hx hb hown (hts (.constantLong RX6 170 (2520 : Int64)) (by decide +kernel)) dX6_share_32 ?_
    refine lv_lmul hx hb dX6_share_35 ?_
    refine lv_iload_n hx hb dX6_share_36 rfl (lv_at hl 1 rfl) ?_
    obtain ⟨q_1005, hq_1005, hf⟩ := x_bd hf
    refine x_callSl (va_runS (As := [.long (gL q_1004 0 12), .long ((gL q_1004 0 9) * (2520 : Int64)), .int a0]) (rest := []) ⟨hx, hb, hml, hown, hts⟩ (kX6_part l hq_1005) (va_cwS 3 hts gX6_share_X6_part rfl rfl rfl (by decide +kernel) ⟨Nat.le_of_ble_eq_true rfl, Nat.le_of_ble_eq_true rfl⟩) psS rfl rfl hl.1 rfl (lv_room (Nat.le_of_ble_eq_true rfl)) dX6_share_37 ⟨Nat.zero_le _, Nat.zero_le _⟩) ?_
    exact x_lret hx hb hr hlocks hP hS dX6_share_40 (Prod.mk.inj (Option.some.inj hf)).1 (Prod.mk.inj (Option.some.inj hf)).2
  · have hf := (if_pos c_1002).symm.trans hf
    refine lv_aload_n hx hb dX6_share_7 rfl (lv_at hl 0 rfl) ?_
    refine lv_bipush (v := (-2 : Int32)) hx hb dX6_share_8 (by decide) ?_
    obtain ⟨q_1006, hq_1006, hf⟩ := x_bd hf
    refine x_callGl (va_runV (As := [.int (-2 : Int32)]) (rest := []) ⟨hx, hb, hml, hown, hts⟩ (kX6_refuseWide l z hz hq_1006) (cwV 1 hts gX6_share_X6_refuseWide rfl rfl rfl (by decide +kernel) ⟨Nat.le_of_ble_eq_true rfl, Nat.le_of_ble_eq_true rfl⟩) (pvG hK hP hE hS (va_recv hK hP (ci := 6) (q0 := 0) rfl (wl_at (by decide) cX6))) rfl rfl hl.1 rfl (lv_room (Nat.le_of_ble_eq_true rfl)) dX6_share_10 ⟨Nat.zero_le _, Nat.zero_le _⟩) hS (fun H locs hP hS => ?_)
    exact x_lret hx hb hr hlocks hP hS dX6_share_13 (Prod.mk.inj (Option.some.inj hf)).1 (Prod.mk.inj (Option.some.inj hf)).2
set_option maxHeartbeats 40000000 in
set_option maxRecDepth 100000 in
theorem kX6_all (l : Launch) (z : Cx) (hz : okC 8 z) {a0 : Int32}  {σ σ' : Mm} {r : Int64} (hf : fX6_all a0 σ = some (r, σ')) : KG 8 ceM l yX6_all wsX6_all (202) (4649) [.ref (z.2.1 0), .int a0] z σ σ' (some (.long r)) := by
  rw [fX6_all] at hf
  refine Met.ofW (cc := cX6_all) (maxL := 2) (ret := (some .long)) (by decide) rfl ?_
  intro p e s m args below meth c s₁ B hml hv
  obtain ⟨rfl, hP, hK, hE⟩ := hv
  have hx := B.exec
  have hb := B.bytes
  have hr := B.returns
  have hts := atoms_spec (ws := wsX6_all) B.pre
  have hown : s.vm.findClass RX6 = some m.cls := findClass_of_methodNamed B.named
  have hlocks := B.notSynchronized
  have in_X6 : ∀ w ∈ wsX60, w ∈ wsX6_all := by decide +kernel
  have hS : va_S (aG 8 z) s.heap s.heap [] := va_S.rf
  have hl := lv_entry ([.ref (z.2.1 0), .int a0]) (n := 2) (Nat.le_of_ble_eq_true rfl)
  rw [lg_entry_eq]
  generalize (lg_sl ([.ref (z.2.1 0), .int a0]) ++ List.replicate (2 - (lg_sl ([.ref (z.2.1 0), .int a0])).length) Slot.unset).toArray = ls at hl ⊢
  have hl : lv_has ls 2 [(0, .ref (z.2.1 0)), (1, .int a0)] := hl
  refine lv_iload_n hx hb dX6_all_0 rfl (lv_at hl 1 rfl) ?_
  obtain ⟨q_1001, hq_1001, hf⟩ := x_bd hf
  refine x_callSi (va_runS (As := [.int a0]) (rest := []) ⟨hx, hb, hml, hown, hts⟩ (kX6_isPart l hq_1001) (va_cwS 1 hts gX6_all_X6_isPart rfl rfl rfl (by decide +kernel) ⟨Nat.le_of_ble_eq_true rfl, Nat.le_of_ble_eq_true rfl⟩) psS rfl rfl hl.1 rfl (lv_room (Nat.le_of_ble_eq_true rfl)) dX6_all_1 ⟨Nat.zero_le _, Nat.zero_le _⟩) ?_
  refine lv_if_ne (tgt := 14) hx hb dX6_all_4 (by decide) (fun c_1002 => ?_) (fun c_1002 => ?_)
  · have hf := (if_neg c_1002).symm.trans hf
    refine lv_aload_n hx hb dX6_all_14 rfl (lv_at hl 0 rfl) ?_
    refine lv_aload_n hx hb dX6_all_15 rfl (lv_at hl 0 rfl) ?_
    refine va_get (D := z.1) (ci := 6) (v := .ref (z.2.1 2)) (C := RX6) (T := TX6) (N := 29) hx hb hts in_X6 hown hK hP 0 (wl_at (by decide) cX6) rfl 1 (by decide) (hts (.fieldLink RX6 13 "TillOneOfSortModel" "s" "[I") (by decide +kernel)) (fun _ h9 => h9) rfl dX6_all_16 ?_
    refine lv_iconst (v := (3 : Int32)) hx hb dX6_all_19 (by decide) ?_
    obtain ⟨c_1003, hf⟩ := x_ck hf
    refine va_iald hx hb hK hP 2 0 (wl_at (i22_lt (rfl : isI22 2 = true)) (cMI22 (rfl : isI22 2 = true))) rfl (ci_in c_1003) dX6_all_20 ?_
    obtain ⟨q_1004, hq_1004, hf⟩ := x_bd hf
    refine x_callGv (va_runV (As := [.int (gI σ 2 (3 : Int32).toNatClampNeg)]) (rest := []) ⟨hx, hb, hml, hown, hts⟩ (kX6_finds l z hz hq_1004) (cwV 1 hts gX6_all_X6_finds rfl rfl rfl (by decide +kernel) ⟨Nat.le_of_ble_eq_true rfl, Nat.le_of_ble_eq_true rfl⟩) (pvG hK hP hE hS (va_recv hK hP (ci := 6) (q0 := 0) rfl (wl_at (by decide) cX6))) rfl rfl hl.1 rfl (lv_room (Nat.le_of_ble_eq_true rfl)) dX6_all_21 ⟨Nat.zero_le _, Nat.zero_le _⟩) hS (fun H locs hP hS => ?_)
    refine lv_aload_n hx hb dX6_all_24 rfl (lv_at hl 0 rfl) ?_
    refine va_get (D := z.1) (ci := 6) (v := .long (gL q_1004 0 11)) (C := RX6) (T := TX6) (N := 29) hx hb hts in_X6 hown hK hP 0 (wl_at (by decide) cX6) rfl 11 (by decide) (hts (.fieldLink RX6 98 "TillOneOfSortModel" "ones" "J") (by decide +kernel)) (fun _ h9 => h9) rfl dX6_all_25 ?_
    refine lv_aload_n hx hb dX6_all_28 rfl (lv_at hl 0 rfl) ?_
    refine va_get (D := z.1) (ci := 6) (v := .long (gL q_1004 0 10)) (C := RX6) (T := TX6) (N := 29) hx hb hts in_X6 hown hK hP 0 (wl_at (by decide) cX6) rfl 10 (by decide) (hts (.fieldLink RX6 94 "TillOneOfSortModel" "children" "J") (by decide +kernel)) (fun _ h9 => h9) rfl dX6_all_29 ?_
    refine lv_iload_n hx hb dX6_all_32 rfl (lv_at hl 1 rfl) ?_
    obtain ⟨q_1005, hq_1005, hf⟩ := x_bd hf
    refine x_callSl (va_runS (As := [.long (gL q_1004 0 11), .long (gL q_1004 0 10), .int a0]) (rest := []) ⟨hx, hb, hml, hown, hts⟩ (kX6_part l hq_1005) (va_cwS 3 hts gX6_all_X6_part rfl rfl rfl (by decide +kernel) ⟨Nat.le_of_ble_eq_true rfl, Nat.le_of_ble_eq_true rfl⟩) psS rfl rfl hl.1 rfl (lv_room (Nat.le_of_ble_eq_true rfl)) dX6_all_33 ⟨Nat.zero_le _, Nat.zero_le _⟩) ?_
    exact x_lret hx hb hr hlocks hP hS dX6_all_36 (Prod.mk.inj (Option.some.inj hf)).1 (Prod.mk.inj (Option.some.inj hf)).2
  · have hf := (if_pos c_1002).symm.trans hf
    refine lv_aload_n hx hb dX6_all_7 rfl (lv_at hl 0 rfl) ?_
    refine lv_bipush (v := (-2 : Int32)) hx hb dX6_all_8 (by decide) ?_
    obtain ⟨q_1006, hq_1006, hf⟩ := x_bd hf
    refine x_callGl (va_runV (As := [.int (-2 : Int32)]) (rest := []) ⟨hx, hb, hml, hown, hts⟩ (kX6_refuseWide l z hz hq_1006) (cwV 1 hts gX6_all_X6_refuseWide rfl rfl rfl (by decide +kernel) ⟨Nat.le_of_ble_eq_true rfl, Nat.le_of_ble_eq_true rfl⟩) (pvG hK hP hE hS (va_recv hK hP (ci := 6) (q0 := 0) rfl (wl_at (by decide) cX6))) rfl rfl hl.1 rfl (lv_room (Nat.le_of_ble_eq_true rfl)) dX6_all_10 ⟨Nat.zero_le _, Nat.zero_le _⟩) hS (fun H locs hP hS => ?_)
    exact x_lret hx hb hr hlocks hP hS dX6_all_13 (Prod.mk.inj (Option.some.inj hf)).1 (Prod.mk.inj (Option.some.inj hf)).2
set_option maxHeartbeats 40000000 in
set_option maxRecDepth 100000 in
theorem kX6_more (l : Launch) (z : Cx) (hz : okC 8 z) {a0 : Int32} {a1 : Int32}  {σ σ' : Mm} {r : Int64} (hf : fX6_more a0 a1 σ = some (r, σ')) : KG 8 ceM l yX6_more wsX6_more (202) (4649) [.ref (z.2.1 0), .int a0, .int a1] z σ σ' (some (.long r)) := by
  rw [fX6_more] at hf
  refine Met.ofW (cc := cX6_more) (maxL := 3) (ret := (some .long)) (by decide) rfl ?_
  intro p e s m args below meth c s₁ B hml hv
  obtain ⟨rfl, hP, hK, hE⟩ := hv
  have hx := B.exec
  have hb := B.bytes
  have hr := B.returns
  have hts := atoms_spec (ws := wsX6_more) B.pre
  have hown : s.vm.findClass RX6 = some m.cls := findClass_of_methodNamed B.named
  have hlocks := B.notSynchronized
  have in_X6 : ∀ w ∈ wsX60, w ∈ wsX6_more := by decide +kernel
  have hS : va_S (aG 8 z) s.heap s.heap [] := va_S.rf
  have hl := lv_entry ([.ref (z.2.1 0), .int a0, .int a1]) (n := 3) (Nat.le_of_ble_eq_true rfl)
  rw [lg_entry_eq]
  generalize (lg_sl ([.ref (z.2.1 0), .int a0, .int a1]) ++ List.replicate (3 - (lg_sl ([.ref (z.2.1 0), .int a0, .int a1])).length) Slot.unset).toArray = ls at hl ⊢
  have hl : lv_has ls 3 [(0, .ref (z.2.1 0)), (1, .int a0), (2, .int a1)] := hl
  have j_15 : ∀ (σ : Mm) (H : Heap) (locs : List Loc) (ls : Array Slot), va_P z.1 vwCl (wl 8 z.2.1 (ceM z σ)) H → va_S (aG 8 z) s.heap H locs → lv_has ls 3 [(0, .ref (z.2.1 0))] → fX6_more_15 σ = some (r, σ') → W p l e (headSpec wsX6_more ({ frames := 202, cells := 0, slots := 0, locals := 4649 })).room s m ([.ref (z.2.1 0), .int a0, .int a1] : List Value).toArray below meth c H locs 0 0 (MQ below (qcG 8 ceM z σ' (some (.long r))) ([.ref (z.2.1 0), .int a0, .int a1] : List Value).toArray s 0 0 (aG 8 z)) (F0 m 15 ls []) := by
    intro σ H locs ls hP hS hl hf
    rw [fX6_more_15] at hf
    refine lv_aload_n hx hb dX6_more_15 rfl (lv_at hl 0 rfl) ?_
    refine lv_bipush (v := (-2 : Int32)) hx hb dX6_more_16 (by decide) ?_
    obtain ⟨q_9, hq_9, hf⟩ := x_bd hf
    refine x_callGl (va_runV (As := [.int (-2 : Int32)]) (rest := []) ⟨hx, hb, hml, hown, hts⟩ (kX6_refuseWide l z hz hq_9) (cwV 1 hts gX6_more_X6_refuseWide rfl rfl rfl (by decide +kernel) ⟨Nat.le_of_ble_eq_true rfl, Nat.le_of_ble_eq_true rfl⟩) (pvG hK hP hE hS (va_recv hK hP (ci := 6) (q0 := 0) rfl (wl_at (by decide) cX6))) rfl rfl hl.1 rfl (lv_room (Nat.le_of_ble_eq_true rfl)) dX6_more_18 ⟨Nat.zero_le _, Nat.zero_le _⟩) hS (fun H locs hP hS => ?_)
    exact x_lret hx hb hr hlocks hP hS dX6_more_21 (Prod.mk.inj (Option.some.inj hf)).1 (Prod.mk.inj (Option.some.inj hf)).2
  have j_69 : ∀ (v2 : Int32) (t0 : Int64) (σ : Mm) (H : Heap) (locs : List Loc) (ls : Array Slot), va_P z.1 vwCl (wl 8 z.2.1 (ceM z σ)) H → va_S (aG 8 z) s.heap H locs → lv_has ls 3 [(0, .ref (z.2.1 0)), (2, .int v2)] → fX6_more_69 v2 t0 σ = some (r, σ') → W p l e (headSpec wsX6_more ({ frames := 202, cells := 0, slots := 0, locals := 4649 })).room s m ([.ref (z.2.1 0), .int a0, .int a1] : List Value).toArray below meth c H locs 0 0 (MQ below (qcG 8 ceM z σ' (some (.long r))) ([.ref (z.2.1 0), .int a0, .int a1] : List Value).toArray s 0 0 (aG 8 z)) (F0 m 69 ls [.long t0]) := by
    intro v2 t0 σ H locs ls hP hS hl hf
    rw [fX6_more_69] at hf
    refine lv_aload_n hx hb dX6_more_69 rfl (lv_at hl 0 rfl) ?_
    refine va_get (D := z.1) (ci := 6) (v := .long (gL σ 0 9)) (C := RX6) (T := TX6) (N := 29) hx hb hts in_X6 hown hK hP 0 (wl_at (by decide) cX6) rfl 9 (by decide) (hts (.fieldLink RX6 148 "TillOneOfSortModel" "whole" "J") (by decide +kernel)) (fun _ h9 => h9) rfl dX6_more_70 ?_
    refine lv_iload_n hx hb dX6_more_73 rfl (lv_at hl 1 rfl) ?_
    obtain ⟨q_10, hq_10, hf⟩ := x_bd hf
    refine x_callSl (va_runS (As := [.long t0, .long (gL σ 0 9), .int v2]) (rest := []) ⟨hx, hb, hml, hown, hts⟩ (kX6_part l hq_10) (va_cwS 3 hts gX6_more_X6_part rfl rfl rfl (by decide +kernel) ⟨Nat.le_of_ble_eq_true rfl, Nat.le_of_ble_eq_true rfl⟩) psS rfl rfl hl.1 rfl (lv_room (Nat.le_of_ble_eq_true rfl)) dX6_more_74 ⟨Nat.zero_le _, Nat.zero_le _⟩) ?_
    exact x_lret hx hb hr hlocks hP hS dX6_more_77 (Prod.mk.inj (Option.some.inj hf)).1 (Prod.mk.inj (Option.some.inj hf)).2
  refine lv_iload_n hx hb dX6_more_0 rfl (lv_at hl 1 rfl) ?_
  refine lv_iconst (v := (3 : Int32)) hx hb dX6_more_1 (by decide) ?_
  obtain ⟨q_1001, hq_1001, hf⟩ := x_bd hf
  refine x_callSi (va_runS (As := [.int a0, .int (3 : Int32)]) (rest := []) ⟨hx, hb, hml, hown, hts⟩ (kX6_isIn l hq_1001) (va_cwS 2 hts gX6_more_X6_isIn rfl rfl rfl (by decide +kernel) ⟨Nat.le_of_ble_eq_true rfl, Nat.le_of_ble_eq_true rfl⟩) psS rfl rfl hl.1 rfl (lv_room (Nat.le_of_ble_eq_true rfl)) dX6_more_2 ⟨Nat.zero_le _, Nat.zero_le _⟩) ?_
  refine lv_if_eq (tgt := 15) hx hb dX6_more_5 (by decide) (fun c_1002 => ?_) (fun c_1002 => ?_)
  · have hf := (if_pos c_1002).symm.trans hf
    exact j_15 σ _ _ _ hP hS (lv_sub hl [0] rfl) hf
  · have hf := (if_neg c_1002).symm.trans hf
    refine lv_iload_n hx hb dX6_more_8 rfl (lv_at hl 2 rfl) ?_
    obtain ⟨q_1003, hq_1003, hf⟩ := x_bd hf
    refine x_callSi (va_runS (As := [.int a1]) (rest := []) ⟨hx, hb, hml, hown, hts⟩ (kX6_isPart l hq_1003) (va_cwS 1 hts gX6_more_X6_isPart rfl rfl rfl (by decide +kernel) ⟨Nat.le_of_ble_eq_true rfl, Nat.le_of_ble_eq_true rfl⟩) psS rfl rfl hl.1 rfl (lv_room (Nat.le_of_ble_eq_true rfl)) dX6_more_9 ⟨Nat.zero_le _, Nat.zero_le _⟩) ?_
    refine lv_if_ne (tgt := 22) hx hb dX6_more_12 (by decide) (fun c_1004 => ?_) (fun c_1004 => ?_)
    · have hf := (if_neg c_1004).symm.trans hf
      refine lv_aload_n hx hb dX6_more_22 rfl (lv_at hl 0 rfl) ?_
      refine lv_aload_n hx hb dX6_more_23 rfl (lv_at hl 0 rfl) ?_
      refine va_get (D := z.1) (ci := 6) (v := .ref (z.2.1 2)) (C := RX6) (T := TX6) (N := 29) hx hb hts in_X6 hown hK hP 0 (wl_at (by decide) cX6) rfl 1 (by decide) (hts (.fieldLink RX6 13 "TillOneOfSortModel" "s" "[I") (by decide +kernel)) (fun _ h9 => h9) rfl dX6_more_24 ?_
      refine lv_iconst (v := (3 : Int32)) hx hb dX6_more_27 (by decide) ?_
      obtain ⟨c_1005, hf⟩ := x_ck hf
      refine va_iald hx hb hK hP 2 0 (wl_at (i22_lt (rfl : isI22 2 = true)) (cMI22 (rfl : isI22 2 = true))) rfl (ci_in c_1005) dX6_more_28 ?_
      obtain ⟨q_1006, hq_1006, hf⟩ := x_bd hf
      refine x_callGv (va_runV (As := [.int (gI σ 2 (3 : Int32).toNatClampNeg)]) (rest := []) ⟨hx, hb, hml, hown, hts⟩ (kX6_finds l z hz hq_1006) (cwV 1 hts gX6_more_X6_finds rfl rfl rfl (by decide +kernel) ⟨Nat.le_of_ble_eq_true rfl, Nat.le_of_ble_eq_true rfl⟩) (pvG hK hP hE hS (va_recv hK hP (ci := 6) (q0 := 0) rfl (wl_at (by decide) cX6))) rfl rfl hl.1 rfl (lv_room (Nat.le_of_ble_eq_true rfl)) dX6_more_29 ⟨Nat.zero_le _, Nat.zero_le _⟩) hS (fun H locs hP hS => ?_)
      refine lv_iload_n hx hb dX6_more_32 rfl (lv_at hl 1 rfl) ?_
      refine lv_if_ne (tgt := 43) hx hb dX6_more_33 (by decide) (fun c_1007 => ?_) (fun c_1007 => ?_)
      · have hf := (if_neg c_1007).symm.trans hf
        refine lv_iload_n hx hb dX6_more_43 rfl (lv_at hl 1 rfl) ?_
        refine lv_iconst (v := (1 : Int32)) hx hb dX6_more_44 (by decide) ?_
        refine lv_icmp_ne (tgt := 55) hx hb dX6_more_45 (by decide) (fun c_1008 => ?_) (fun c_1008 => ?_)
        · have hf := (if_neg c_1008).symm.trans hf
          refine lv_aload_n hx hb dX6_more_55 rfl (lv_at hl 0 rfl) ?_
          refine va_get (D := z.1) (ci := 6) (v := .long (gL q_1006 0 9)) (C := RX6) (T := TX6) (N := 29) hx hb hts in_X6 hown hK hP 0 (wl_at (by decide) cX6) rfl 9 (by decide) (hts (.fieldLink RX6 148 "TillOneOfSortModel" "whole" "J") (by decide +kernel)) (fun _ h9 => h9) rfl dX6_more_56 ?_
          refine lv_aload_n hx hb dX6_more_59 rfl (lv_at hl 0 rfl) ?_
          refine va_get (D := z.1) (ci := 6) (v := .long (gL q_1006 0 13)) (C := RX6) (T := TX6) (N := 29) hx hb hts in_X6 hown hK hP 0 (wl_at (by decide) cX6) rfl 13 (by decide) (hts (.fieldLink RX6 104 "TillOneOfSortModel" "more" "J") (by decide +kernel)) (fun _ h9 => h9) rfl dX6_more_60 ?_
          refine lv_lsub hx hb dX6_more_63 ?_
          refine lv_aload_n hx hb dX6_more_64 rfl (lv_at hl 0 rfl) ?_
          refine va_get (D := z.1) (ci := 6) (v := .long (gL q_1006 0 14)) (C := RX6) (T := TX6) (N := 29) hx hb hts in_X6 hown hK hP 0 (wl_at (by decide) cX6) rfl 14 (by decide) (hts (.fieldLink RX6 107 "TillOneOfSortModel" "alike" "J") (by decide +kernel)) (fun _ h9 => h9) rfl dX6_more_65 ?_
          refine lv_lsub hx hb dX6_more_68 ?_
          exact j_69 a1 (((gL q_1006 0 9) - (gL q_1006 0 13)) - (gL q_1006 0 14)) q_1006 _ _ _ hP hS (lv_sub hl [0, 2] rfl) hf
        · have hf := (if_pos c_1008).symm.trans hf
          refine lv_aload_n hx hb dX6_more_48 rfl (lv_at hl 0 rfl) ?_
          refine va_get (D := z.1) (ci := 6) (v := .long (gL q_1006 0 14)) (C := RX6) (T := TX6) (N := 29) hx hb hts in_X6 hown hK hP 0 (wl_at (by decide) cX6) rfl 14 (by decide) (hts (.fieldLink RX6 107 "TillOneOfSortModel" "alike" "J") (by decide +kernel)) (fun _ h9 => h9) rfl dX6_more_49 ?_
          refine lv_goto (tgt := 69) hx hb dX6_more_52 (by decide) ?_
          exact j_69 a1 (gL q_1006 0 14) q_1006 _ _ _ hP hS (lv_sub hl [0, 2] rfl) hf
      · have hf := (if_pos c_1007).symm.trans hf
        refine lv_aload_n hx hb dX6_more_36 rfl (lv_at hl 0 rfl) ?_
        refine va_get (D := z.1) (ci := 6) (v := .long (gL q_1006 0 13)) (C := RX6) (T := TX6) (N := 29) hx hb hts in_X6 hown hK hP 0 (wl_at (by decide) cX6) rfl 13 (by decide) (hts (.fieldLink RX6 104 "TillOneOfSortModel" "more" "J") (by decide +kernel)) (fun _ h9 => h9) rfl dX6_more_37 ?_
        refine lv_goto (tgt := 69) hx hb dX6_more_40 (by decide) ?_
        exact j_69 a1 (gL q_1006 0 13) q_1006 _ _ _ hP hS (lv_sub hl [0, 2] rfl) hf
    · have hf := (if_pos c_1004).symm.trans hf
      exact j_15 σ _ _ _ hP hS (lv_sub hl [0] rfl) hf
set_option maxHeartbeats 40000000 in
set_option maxRecDepth 100000 in
theorem kX6_size (l : Launch) (z : Cx) (hz : okC 8 z) {a0 : Int32} {a1 : Int32}  {σ σ' : Mm} {r : Int64} (hf : fX6_size a0 a1 σ = some (r, σ')) : KG 8 ceM l yX6_size wsX6_size (202) (4649) [.ref (z.2.1 0), .int a0, .int a1] z σ σ' (some (.long r)) := by
  rw [fX6_size] at hf
  refine Met.ofW (cc := cX6_size) (maxL := 4) (ret := (some .long)) (by decide) rfl ?_
  intro p e s m args below meth c s₁ B hml hv
  obtain ⟨rfl, hP, hK, hE⟩ := hv
  have hx := B.exec
  have hb := B.bytes
  have hr := B.returns
  have hts := atoms_spec (ws := wsX6_size) B.pre
  have hown : s.vm.findClass RX6 = some m.cls := findClass_of_methodNamed B.named
  have hlocks := B.notSynchronized
  have in_X6 : ∀ w ∈ wsX60, w ∈ wsX6_size := by decide +kernel
  have hS : va_S (aG 8 z) s.heap s.heap [] := va_S.rf
  have hl := lv_entry ([.ref (z.2.1 0), .int a0, .int a1]) (n := 4) (Nat.le_of_ble_eq_true rfl)
  rw [lg_entry_eq]
  generalize (lg_sl ([.ref (z.2.1 0), .int a0, .int a1]) ++ List.replicate (4 - (lg_sl ([.ref (z.2.1 0), .int a0, .int a1])).length) Slot.unset).toArray = ls at hl ⊢
  have hl : lv_has ls 4 [(0, .ref (z.2.1 0)), (1, .int a0), (2, .int a1)] := hl
  have j_22 : ∀ (v1 : Int32) (v2 : Int32) (v3 : Int32) (σ : Mm) (H : Heap) (locs : List Loc) (ls : Array Slot), va_P z.1 vwCl (wl 8 z.2.1 (ceM z σ)) H → va_S (aG 8 z) s.heap H locs → lv_has ls 4 [(0, .ref (z.2.1 0)), (1, .int v1), (2, .int v2), (3, .int v3)] → fX6_size_22 v1 v2 v3 σ = some (r, σ') → W p l e (headSpec wsX6_size ({ frames := 202, cells := 0, slots := 0, locals := 4649 })).room s m ([.ref (z.2.1 0), .int a0, .int a1] : List Value).toArray below meth c H locs 0 0 (MQ below (qcG 8 ceM z σ' (some (.long r))) ([.ref (z.2.1 0), .int a0, .int a1] : List Value).toArray s 0 0 (aG 8 z)) (F0 m 22 ls []) := by
    intro v1 v2 v3 σ H locs ls hP hS hl hf
    rw [fX6_size_22] at hf
    refine lv_iload_n hx hb dX6_size_22 rfl (lv_at hl 3 rfl) ?_
    refine lv_if_eq (tgt := 32) hx hb dX6_size_23 (by decide) (fun c_5 => ?_) (fun c_5 => ?_)
    · have hf := (if_pos c_5).symm.trans hf
      refine lv_aload_n hx hb dX6_size_32 rfl (lv_at hl 0 rfl) ?_
      refine lv_aload_n hx hb dX6_size_33 rfl (lv_at hl 0 rfl) ?_
      refine va_get (D := z.1) (ci := 6) (v := .ref (z.2.1 2)) (C := RX6) (T := TX6) (N := 29) hx hb hts in_X6 hown hK hP 0 (wl_at (by decide) cX6) rfl 1 (by decide) (hts (.fieldLink RX6 13 "TillOneOfSortModel" "s" "[I") (by decide +kernel)) (fun _ h9 => h9) rfl dX6_size_34 ?_
      refine lv_iconst (v := (3 : Int32)) hx hb dX6_size_37 (by decide) ?_
      obtain ⟨c_6, hf⟩ := x_ck hf
      refine va_iald hx hb hK hP 2 0 (wl_at (i22_lt (rfl : isI22 2 = true)) (cMI22 (rfl : isI22 2 = true))) rfl (ci_in c_6) dX6_size_38 ?_
      obtain ⟨q_7, hq_7, hf⟩ := x_bd hf
      refine x_callGv (va_runV (As := [.int (gI σ 2 (3 : Int32).toNatClampNeg)]) (rest := []) ⟨hx, hb, hml, hown, hts⟩ (kX6_finds l z hz hq_7) (cwV 1 hts gX6_size_X6_finds rfl rfl rfl (by decide +kernel) ⟨Nat.le_of_ble_eq_true rfl, Nat.le_of_ble_eq_true rfl⟩) (pvG hK hP hE hS (va_recv hK hP (ci := 6) (q0 := 0) rfl (wl_at (by decide) cX6))) rfl rfl hl.1 rfl (lv_room (Nat.le_of_ble_eq_true rfl)) dX6_size_39 ⟨Nat.zero_le _, Nat.zero_le _⟩) hS (fun H locs hP hS => ?_)
      refine lv_aload_n hx hb dX6_size_42 rfl (lv_at hl 0 rfl) ?_
      refine va_get (D := z.1) (ci := 6) (v := .ref (z.2.1 7)) (C := RX6) (T := TX6) (N := 29) hx hb hts in_X6 hown hK hP 0 (wl_at (by decide) cX6) rfl 19 (by decide) (hts (.fieldLink RX6 28 "TillOneOfSortModel" "sized" "[J") (by decide +kernel)) (fun _ h9 => h9) rfl dX6_size_43 ?_
      refine lv_iload_n hx hb dX6_size_46 rfl (lv_at hl 1 rfl) ?_
      obtain ⟨c_8, hf⟩ := x_ck hf
      refine va_lald hx hb hK hP 7 1 (wl_at (by decide) cMJ) rfl (ci_in c_8) dX6_size_47 ?_
      refine lv_aload_n hx hb dX6_size_48 rfl (lv_at hl 0 rfl) ?_
      refine va_get (D := z.1) (ci := 6) (v := .long (gL q_7 0 9)) (C := RX6) (T := TX6) (N := 29) hx hb hts in_X6 hown hK hP 0 (wl_at (by decide) cX6) rfl 9 (by decide) (hts (.fieldLink RX6 148 "TillOneOfSortModel" "whole" "J") (by decide +kernel)) (fun _ h9 => h9) rfl dX6_size_49 ?_
      refine lv_iload_n hx hb dX6_size_52 rfl (lv_at hl 2 rfl) ?_
      obtain ⟨q_9, hq_9, hf⟩ := x_bd hf
      refine x_callSl (va_runS (As := [.long (gL q_7 7 v1.toNatClampNeg), .long (gL q_7 0 9), .int v2]) (rest := []) ⟨hx, hb, hml, hown, hts⟩ (kX6_part l hq_9) (va_cwS 3 hts gX6_size_X6_part rfl rfl rfl (by decide +kernel) ⟨Nat.le_of_ble_eq_true rfl, Nat.le_of_ble_eq_true rfl⟩) psS rfl rfl hl.1 rfl (lv_room (Nat.le_of_ble_eq_true rfl)) dX6_size_53 ⟨Nat.zero_le _, Nat.zero_le _⟩) ?_
      exact x_lret hx hb hr hlocks hP hS dX6_size_56 (Prod.mk.inj (Option.some.inj hf)).1 (Prod.mk.inj (Option.some.inj hf)).2
    · have hf := (if_neg c_5).symm.trans hf
      refine lv_aload_n hx hb dX6_size_26 rfl (lv_at hl 0 rfl) ?_
      refine lv_iload_n hx hb dX6_size_27 rfl (lv_at hl 3 rfl) ?_
      obtain ⟨q_10, hq_10, hf⟩ := x_bd hf
      refine x_callGl (va_runV (As := [.int v3]) (rest := []) ⟨hx, hb, hml, hown, hts⟩ (kX6_refuseWide l z hz hq_10) (cwV 1 hts gX6_size_X6_refuseWide rfl rfl rfl (by decide +kernel) ⟨Nat.le_of_ble_eq_true rfl, Nat.le_of_ble_eq_true rfl⟩) (pvG hK hP hE hS (va_recv hK hP (ci := 6) (q0 := 0) rfl (wl_at (by decide) cX6))) rfl rfl hl.1 rfl (lv_room (Nat.le_of_ble_eq_true rfl)) dX6_size_28 ⟨Nat.zero_le _, Nat.zero_le _⟩) hS (fun H locs hP hS => ?_)
      exact x_lret hx hb hr hlocks hP hS dX6_size_31 (Prod.mk.inj (Option.some.inj hf)).1 (Prod.mk.inj (Option.some.inj hf)).2
  refine lv_iload_n hx hb dX6_size_0 rfl (lv_at hl 1 rfl) ?_
  refine lv_iconst (v := (1 : Int32)) hx hb dX6_size_1 (by decide) ?_
  refine lv_bipush (v := (10 : Int32)) hx hb dX6_size_2 (by decide) ?_
  obtain ⟨q_1001, hq_1001, hf⟩ := x_bd hf
  refine x_callSi (va_runS (As := [.int a0, .int (1 : Int32), .int (10 : Int32)]) (rest := []) ⟨hx, hb, hml, hown, hts⟩ (kX6_within l hq_1001) (va_cwS 3 hts gX6_size_X6_within rfl rfl rfl (by decide +kernel) ⟨Nat.le_of_ble_eq_true rfl, Nat.le_of_ble_eq_true rfl⟩) psS rfl rfl hl.1 rfl (lv_room (Nat.le_of_ble_eq_true rfl)) dX6_size_4 ⟨Nat.zero_le _, Nat.zero_le _⟩) ?_
  refine lv_istore_n (lv' := [(3, .int q_1001), (0, .ref (z.2.1 0)), (1, .int a0), (2, .int a1)]) hx hb dX6_size_7 rfl hl (by decide) rfl (fun ls hl => ?_)
  refine lv_iload_n hx hb dX6_size_8 rfl (lv_at hl 0 rfl) ?_
  refine lv_if_ne (tgt := 22) hx hb dX6_size_9 (by decide) (fun c_1002 => ?_) (fun c_1002 => ?_)
  · have hf := (if_neg c_1002).symm.trans hf
    exact j_22 a0 a1 q_1001 σ _ _ _ hP hS (lv_sub hl [1, 2, 3, 0] rfl) hf
  · have hf := (if_pos c_1002).symm.trans hf
    refine lv_iload_n hx hb dX6_size_12 rfl (lv_at hl 3 rfl) ?_
    obtain ⟨q_1003, hq_1003, hf⟩ := x_bd hf
    refine x_callSi (va_runS (As := [.int a1]) (rest := []) ⟨hx, hb, hml, hown, hts⟩ (kX6_isPart l hq_1003) (va_cwS 1 hts gX6_size_X6_isPart rfl rfl rfl (by decide +kernel) ⟨Nat.le_of_ble_eq_true rfl, Nat.le_of_ble_eq_true rfl⟩) psS rfl rfl hl.1 rfl (lv_room (Nat.le_of_ble_eq_true rfl)) dX6_size_13 ⟨Nat.zero_le _, Nat.zero_le _⟩) ?_
    refine lv_if_ne (tgt := 22) hx hb dX6_size_16 (by decide) (fun c_1004 => ?_) (fun c_1004 => ?_)
    · have hf := (if_neg c_1004).symm.trans hf
      exact j_22 a0 a1 q_1001 σ _ _ _ hP hS (lv_sub hl [1, 2, 3, 0] rfl) hf
    · have hf := (if_pos c_1004).symm.trans hf
      refine lv_bipush (v := (-2 : Int32)) hx hb dX6_size_19 (by decide) ?_
      refine lv_istore_n (lv' := [(3, .int (-2 : Int32)), (0, .ref (z.2.1 0)), (1, .int a0), (2, .int a1)]) hx hb dX6_size_21 rfl hl (by decide) rfl (fun ls hl => ?_)
      exact j_22 a0 a1 (-2 : Int32) σ _ _ _ hP hS (lv_sub hl [1, 2, 3, 0] rfl) hf
set_option maxHeartbeats 40000000 in
set_option maxRecDepth 100000 in
theorem kX6_met (l : Launch) (z : Cx) (hz : okC 8 z) {a0 : Int32} {a1 : Int32}  {σ σ' : Mm} {r : Int64} (hf : fX6_met a0 a1 σ = some (r, σ')) : KG 8 ceM l yX6_met wsX6_met (202) (4649) [.ref (z.2.1 0), .int a0, .int a1] z σ σ' (some (.long r)) := by
  rw [fX6_met] at hf
  refine Met.ofW (cc := cX6_met) (maxL := 3) (ret := (some .long)) (by decide) rfl ?_
  intro p e s m args below meth c s₁ B hml hv
  obtain ⟨rfl, hP, hK, hE⟩ := hv
  have hx := B.exec
  have hb := B.bytes
  have hr := B.returns
  have hts := atoms_spec (ws := wsX6_met) B.pre
  have hown : s.vm.findClass RX6 = some m.cls := findClass_of_methodNamed B.named
  have hlocks := B.notSynchronized
  have in_X6 : ∀ w ∈ wsX60, w ∈ wsX6_met := by decide +kernel
  have hS : va_S (aG 8 z) s.heap s.heap [] := va_S.rf
  have hl := lv_entry ([.ref (z.2.1 0), .int a0, .int a1]) (n := 3) (Nat.le_of_ble_eq_true rfl)
  rw [lg_entry_eq]
  generalize (lg_sl ([.ref (z.2.1 0), .int a0, .int a1]) ++ List.replicate (3 - (lg_sl ([.ref (z.2.1 0), .int a0, .int a1])).length) Slot.unset).toArray = ls at hl ⊢
  have hl : lv_has ls 3 [(0, .ref (z.2.1 0)), (1, .int a0), (2, .int a1)] := hl
  have j_15 : ∀ (σ : Mm) (H : Heap) (locs : List Loc) (ls : Array Slot), va_P z.1 vwCl (wl 8 z.2.1 (ceM z σ)) H → va_S (aG 8 z) s.heap H locs → lv_has ls 3 [(0, .ref (z.2.1 0))] → fX6_met_15 σ = some (r, σ') → W p l e (headSpec wsX6_met ({ frames := 202, cells := 0, slots := 0, locals := 4649 })).room s m ([.ref (z.2.1 0), .int a0, .int a1] : List Value).toArray below meth c H locs 0 0 (MQ below (qcG 8 ceM z σ' (some (.long r))) ([.ref (z.2.1 0), .int a0, .int a1] : List Value).toArray s 0 0 (aG 8 z)) (F0 m 15 ls []) := by
    intro σ H locs ls hP hS hl hf
    rw [fX6_met_15] at hf
    refine lv_aload_n hx hb dX6_met_15 rfl (lv_at hl 0 rfl) ?_
    refine lv_bipush (v := (-2 : Int32)) hx hb dX6_met_16 (by decide) ?_
    obtain ⟨q_8, hq_8, hf⟩ := x_bd hf
    refine x_callGl (va_runV (As := [.int (-2 : Int32)]) (rest := []) ⟨hx, hb, hml, hown, hts⟩ (kX6_refuseWide l z hz hq_8) (cwV 1 hts gX6_met_X6_refuseWide rfl rfl rfl (by decide +kernel) ⟨Nat.le_of_ble_eq_true rfl, Nat.le_of_ble_eq_true rfl⟩) (pvG hK hP hE hS (va_recv hK hP (ci := 6) (q0 := 0) rfl (wl_at (by decide) cX6))) rfl rfl hl.1 rfl (lv_room (Nat.le_of_ble_eq_true rfl)) dX6_met_18 ⟨Nat.zero_le _, Nat.zero_le _⟩) hS (fun H locs hP hS => ?_)
    exact x_lret hx hb hr hlocks hP hS dX6_met_21 (Prod.mk.inj (Option.some.inj hf)).1 (Prod.mk.inj (Option.some.inj hf)).2
  have j_47 : ∀ (v2 : Int32) (t0 : Int64) (σ : Mm) (H : Heap) (locs : List Loc) (ls : Array Slot), va_P z.1 vwCl (wl 8 z.2.1 (ceM z σ)) H → va_S (aG 8 z) s.heap H locs → lv_has ls 3 [(0, .ref (z.2.1 0)), (2, .int v2)] → fX6_met_47 v2 t0 σ = some (r, σ') → W p l e (headSpec wsX6_met ({ frames := 202, cells := 0, slots := 0, locals := 4649 })).room s m ([.ref (z.2.1 0), .int a0, .int a1] : List Value).toArray below meth c H locs 0 0 (MQ below (qcG 8 ceM z σ' (some (.long r))) ([.ref (z.2.1 0), .int a0, .int a1] : List Value).toArray s 0 0 (aG 8 z)) (F0 m 47 ls [.long t0]) := by
    intro v2 t0 σ H locs ls hP hS hl hf
    rw [fX6_met_47] at hf
    refine lv_aload_n hx hb dX6_met_47 rfl (lv_at hl 0 rfl) ?_
    refine va_get (D := z.1) (ci := 6) (v := .long (gL σ 0 10)) (C := RX6) (T := TX6) (N := 29) hx hb hts in_X6 hown hK hP 0 (wl_at (by decide) cX6) rfl 10 (by decide) (hts (.fieldLink RX6 94 "TillOneOfSortModel" "children" "J") (by decide +kernel)) (fun _ h9 => h9) rfl dX6_met_48 ?_
    refine lv_iload_n hx hb dX6_met_51 rfl (lv_at hl 1 rfl) ?_
    obtain ⟨q_9, hq_9, hf⟩ := x_bd hf
    refine x_callSl (va_runS (As := [.long t0, .long (gL σ 0 10), .int v2]) (rest := []) ⟨hx, hb, hml, hown, hts⟩ (kX6_part l hq_9) (va_cwS 3 hts gX6_met_X6_part rfl rfl rfl (by decide +kernel) ⟨Nat.le_of_ble_eq_true rfl, Nat.le_of_ble_eq_true rfl⟩) psS rfl rfl hl.1 rfl (lv_room (Nat.le_of_ble_eq_true rfl)) dX6_met_52 ⟨Nat.zero_le _, Nat.zero_le _⟩) ?_
    exact x_lret hx hb hr hlocks hP hS dX6_met_55 (Prod.mk.inj (Option.some.inj hf)).1 (Prod.mk.inj (Option.some.inj hf)).2
  refine lv_iload_n hx hb dX6_met_0 rfl (lv_at hl 1 rfl) ?_
  refine lv_iconst (v := (2 : Int32)) hx hb dX6_met_1 (by decide) ?_
  obtain ⟨q_1001, hq_1001, hf⟩ := x_bd hf
  refine x_callSi (va_runS (As := [.int a0, .int (2 : Int32)]) (rest := []) ⟨hx, hb, hml, hown, hts⟩ (kX6_isIn l hq_1001) (va_cwS 2 hts gX6_met_X6_isIn rfl rfl rfl (by decide +kernel) ⟨Nat.le_of_ble_eq_true rfl, Nat.le_of_ble_eq_true rfl⟩) psS rfl rfl hl.1 rfl (lv_room (Nat.le_of_ble_eq_true rfl)) dX6_met_2 ⟨Nat.zero_le _, Nat.zero_le _⟩) ?_
  refine lv_if_eq (tgt := 15) hx hb dX6_met_5 (by decide) (fun c_1002 => ?_) (fun c_1002 => ?_)
  · have hf := (if_pos c_1002).symm.trans hf
    exact j_15 σ _ _ _ hP hS (lv_sub hl [0] rfl) hf
  · have hf := (if_neg c_1002).symm.trans hf
    refine lv_iload_n hx hb dX6_met_8 rfl (lv_at hl 2 rfl) ?_
    obtain ⟨q_1003, hq_1003, hf⟩ := x_bd hf
    refine x_callSi (va_runS (As := [.int a1]) (rest := []) ⟨hx, hb, hml, hown, hts⟩ (kX6_isPart l hq_1003) (va_cwS 1 hts gX6_met_X6_isPart rfl rfl rfl (by decide +kernel) ⟨Nat.le_of_ble_eq_true rfl, Nat.le_of_ble_eq_true rfl⟩) psS rfl rfl hl.1 rfl (lv_room (Nat.le_of_ble_eq_true rfl)) dX6_met_9 ⟨Nat.zero_le _, Nat.zero_le _⟩) ?_
    refine lv_if_ne (tgt := 22) hx hb dX6_met_12 (by decide) (fun c_1004 => ?_) (fun c_1004 => ?_)
    · have hf := (if_neg c_1004).symm.trans hf
      refine lv_aload_n hx hb dX6_met_22 rfl (lv_at hl 0 rfl) ?_
      refine lv_aload_n hx hb dX6_met_23 rfl (lv_at hl 0 rfl) ?_
      refine va_get (D := z.1) (ci := 6) (v := .ref (z.2.1 2)) (C := RX6) (T := TX6) (N := 29) hx hb hts in_X6 hown hK hP 0 (wl_at (by decide) cX6) rfl 1 (by decide) (hts (.fieldLink RX6 13 "TillOneOfSortModel" "s" "[I") (by decide +kernel)) (fun _ h9 => h9) rfl dX6_met_24 ?_
      refine lv_iconst (v := (3 : Int32)) hx hb dX6_met_27 (by decide) ?_
      obtain ⟨c_1005, hf⟩ := x_ck hf
      refine va_iald hx hb hK hP 2 0 (wl_at (i22_lt (rfl : isI22 2 = true)) (cMI22 (rfl : isI22 2 = true))) rfl (ci_in c_1005) dX6_met_28 ?_
      obtain ⟨q_1006, hq_1006, hf⟩ := x_bd hf
      refine x_callGv (va_runV (As := [.int (gI σ 2 (3 : Int32).toNatClampNeg)]) (rest := []) ⟨hx, hb, hml, hown, hts⟩ (kX6_finds l z hz hq_1006) (cwV 1 hts gX6_met_X6_finds rfl rfl rfl (by decide +kernel) ⟨Nat.le_of_ble_eq_true rfl, Nat.le_of_ble_eq_true rfl⟩) (pvG hK hP hE hS (va_recv hK hP (ci := 6) (q0 := 0) rfl (wl_at (by decide) cX6))) rfl rfl hl.1 rfl (lv_room (Nat.le_of_ble_eq_true rfl)) dX6_met_29 ⟨Nat.zero_le _, Nat.zero_le _⟩) hS (fun H locs hP hS => ?_)
      refine lv_iload_n hx hb dX6_met_32 rfl (lv_at hl 1 rfl) ?_
      refine lv_if_ne (tgt := 43) hx hb dX6_met_33 (by decide) (fun c_1007 => ?_) (fun c_1007 => ?_)
      · have hf := (if_neg c_1007).symm.trans hf
        refine lv_aload_n hx hb dX6_met_43 rfl (lv_at hl 0 rfl) ?_
        refine va_get (D := z.1) (ci := 6) (v := .long (gL q_1006 0 16)) (C := RX6) (T := TX6) (N := 29) hx hb hts in_X6 hown hK hP 0 (wl_at (by decide) cX6) rfl 16 (by decide) (hts (.fieldLink RX6 113 "TillOneOfSortModel" "pairs" "J") (by decide +kernel)) (fun _ h9 => h9) rfl dX6_met_44 ?_
        exact j_47 a1 (gL q_1006 0 16) q_1006 _ _ _ hP hS (lv_sub hl [0, 2] rfl) hf
      · have hf := (if_pos c_1007).symm.trans hf
        refine lv_aload_n hx hb dX6_met_36 rfl (lv_at hl 0 rfl) ?_
        refine va_get (D := z.1) (ci := 6) (v := .long (gL q_1006 0 15)) (C := RX6) (T := TX6) (N := 29) hx hb hts in_X6 hown hK hP 0 (wl_at (by decide) cX6) rfl 15 (by decide) (hts (.fieldLink RX6 110 "TillOneOfSortModel" "meets" "J") (by decide +kernel)) (fun _ h9 => h9) rfl dX6_met_37 ?_
        refine lv_goto (tgt := 47) hx hb dX6_met_40 (by decide) ?_
        exact j_47 a1 (gL q_1006 0 15) q_1006 _ _ _ hP hS (lv_sub hl [0, 2] rfl) hf
    · have hf := (if_pos c_1004).symm.trans hf
      exact j_15 σ _ _ _ hP hS (lv_sub hl [0] rfl) hf
set_option maxHeartbeats 40000000 in
set_option maxRecDepth 100000 in
theorem kX6_says (l : Launch) (z : Cx) (hz : okC 8 z) {a0 : Int32} {a1 : Int32} {a2 : Int32} {a3 : Int32} {a4 : Int32}  {σ σ' : Mm} {r : Int64} (hf : fX6_says a0 a1 a2 a3 a4 σ = some (r, σ')) : KG 8 ceM l yX6_says wsX6_says (202) (4649) [.ref (z.2.1 0), .int a0, .int a1, .int a2, .int a3, .int a4] z σ σ' (some (.long r)) := by
  rw [fX6_says] at hf
  refine Met.ofW (cc := cX6_says) (maxL := 7) (ret := (some .long)) (by decide) rfl ?_
  intro p e s m args below meth c s₁ B hml hv
  obtain ⟨rfl, hP, hK, hE⟩ := hv
  have hx := B.exec
  have hb := B.bytes
  have hr := B.returns
  have hts := atoms_spec (ws := wsX6_says) B.pre
  have hown : s.vm.findClass RX6 = some m.cls := findClass_of_methodNamed B.named
  have hlocks := B.notSynchronized
  have in_X6 : ∀ w ∈ wsX60, w ∈ wsX6_says := by decide +kernel
  have hS : va_S (aG 8 z) s.heap s.heap [] := va_S.rf
  have hl := lv_entry ([.ref (z.2.1 0), .int a0, .int a1, .int a2, .int a3, .int a4]) (n := 7) (Nat.le_of_ble_eq_true rfl)
  rw [lg_entry_eq]
  generalize (lg_sl ([.ref (z.2.1 0), .int a0, .int a1, .int a2, .int a3, .int a4]) ++ List.replicate (7 - (lg_sl ([.ref (z.2.1 0), .int a0, .int a1, .int a2, .int a3, .int a4])).length) Slot.unset).toArray = ls at hl ⊢
  have hl : lv_has ls 7 [(0, .ref (z.2.1 0)), (1, .int a0), (2, .int a1), (3, .int a2), (4, .int a3), (5, .int a4)] := hl
  have j_61 : ∀ (v1 : Int32) (v2 : Int32) (v3 : Int32) (v4 : Int32) (v5 : Int32) (t0 : Int32) (σ : Mm) (H : Heap) (locs : List Loc) (ls : Array Slot), va_P z.1 vwCl (wl 8 z.2.1 (ceM z σ)) H → va_S (aG 8 z) s.heap H locs → lv_has ls 7 [(0, .ref (z.2.1 0)), (1, .int v1), (2, .int v2), (3, .int v3), (4, .int v4), (5, .int v5)] → fX6_says_61 v1 v2 v3 v4 v5 t0 σ = some (r, σ') → W p l e (headSpec wsX6_says ({ frames := 202, cells := 0, slots := 0, locals := 4649 })).room s m ([.ref (z.2.1 0), .int a0, .int a1, .int a2, .int a3, .int a4] : List Value).toArray below meth c H locs 0 0 (MQ below (qcG 8 ceM z σ' (some (.long r))) ([.ref (z.2.1 0), .int a0, .int a1, .int a2, .int a3, .int a4] : List Value).toArray s 0 0 (aG 8 z)) (F0 m 61 ls [.int t0]) := by
    intro v1 v2 v3 v4 v5 t0 σ H locs ls hP hS hl hf
    rw [fX6_says_61] at hf
    refine lv_istore (lv' := [(6, .int t0), (0, .ref (z.2.1 0)), (1, .int v1), (2, .int v2), (3, .int v3), (4, .int v4), (5, .int v5)]) hx hb dX6_says_61 hl (by decide) rfl (fun ls hl => ?_)
    refine lv_iload hx hb dX6_says_63 (lv_at hl 0 rfl) ?_
    refine lv_if_eq (tgt := 75) hx hb dX6_says_65 (by decide) (fun c_11 => ?_) (fun c_11 => ?_)
    · have hf := (if_pos c_11).symm.trans hf
      refine lv_aload_n hx hb dX6_says_75 rfl (lv_at hl 1 rfl) ?_
      refine lv_iload_n hx hb dX6_says_76 rfl (lv_at hl 2 rfl) ?_
      refine va_put (D := z.1) (ci := 6) (v := .int v1) (ty := .int) (C := RX6) (T := TX6) (N := 29) hx hb hts in_X6 tyX6 tyX6_ok nmX6 hown hK hP (wl_D hz _) hS 0 (wl_at (by decide) cX6) rfl 20 (by decide) (hts (.fieldLink RX6 119 "TillOneOfSortModel" "saysSort" "I") (by decide +kernel)) (fun _ h9 => h9) rfl (by decide +kernel) rfl rfl (Nat.le_of_ble_eq_true rfl) dX6_says_77 (fun H locs hP _ hS => ?_)
      rw [sX6I (by decide)] at hP
      refine lv_aload_n hx hb dX6_says_80 rfl (lv_at hl 1 rfl) ?_
      refine lv_iload_n hx hb dX6_says_81 rfl (lv_at hl 3 rfl) ?_
      refine va_put (D := z.1) (ci := 6) (v := .int v2) (ty := .int) (C := RX6) (T := TX6) (N := 29) hx hb hts in_X6 tyX6 tyX6_ok nmX6 hown hK hP (wl_D hz _) hS 0 (wl_at (by decide) cX6) rfl 21 (by decide) (hts (.fieldLink RX6 116 "TillOneOfSortModel" "saysOnes" "I") (by decide +kernel)) (fun _ h9 => h9) rfl (by decide +kernel) rfl rfl (Nat.le_of_ble_eq_true rfl) dX6_says_82 (fun H locs hP _ hS => ?_)
      rw [sX6I (by decide)] at hP
      refine lv_aload_n hx hb dX6_says_85 rfl (lv_at hl 1 rfl) ?_
      refine lv_iload_n hx hb dX6_says_86 rfl (lv_at hl 4 rfl) ?_
      refine va_put (D := z.1) (ci := 6) (v := .int v3) (ty := .int) (C := RX6) (T := TX6) (N := 29) hx hb hts in_X6 tyX6 tyX6_ok nmX6 hown hK hP (wl_D hz _) hS 0 (wl_at (by decide) cX6) rfl 22 (by decide) (hts (.fieldLink RX6 122 "TillOneOfSortModel" "saysZeros" "I") (by decide +kernel)) (fun _ h9 => h9) rfl (by decide +kernel) rfl rfl (Nat.le_of_ble_eq_true rfl) dX6_says_87 (fun H locs hP _ hS => ?_)
      rw [sX6I (by decide)] at hP
      refine lv_aload_n hx hb dX6_says_90 rfl (lv_at hl 1 rfl) ?_
      refine lv_aload_n hx hb dX6_says_91 rfl (lv_at hl 1 rfl) ?_
      refine va_get (D := z.1) (ci := 6) (v := .ref (z.2.1 2)) (C := RX6) (T := TX6) (N := 29) hx hb hts in_X6 hown hK hP 0 (wl_at (by decide) cX6) rfl 1 (by decide) (hts (.fieldLink RX6 13 "TillOneOfSortModel" "s" "[I") (by decide +kernel)) (fun _ h9 => h9) rfl dX6_says_92 ?_
      refine lv_iconst (v := (3 : Int32)) hx hb dX6_says_95 (by decide) ?_
      obtain ⟨c_12, hf⟩ := x_ck hf
      refine va_iald hx hb hK hP 2 0 (wl_at (i22_lt (rfl : isI22 2 = true)) (cMI22 (rfl : isI22 2 = true))) rfl (ci_in c_12) dX6_says_96 ?_
      obtain ⟨q_13, hq_13, hf⟩ := x_bd hf
      refine x_callGv (va_runV (As := [.int (gI (pI (pI (pI σ 0 20 v1) 0 21 v2) 0 22 v3) 2 (3 : Int32).toNatClampNeg)]) (rest := []) ⟨hx, hb, hml, hown, hts⟩ (kX6_finds l z hz hq_13) (cwV 1 hts gX6_says_X6_finds rfl rfl rfl (by decide +kernel) ⟨Nat.le_of_ble_eq_true rfl, Nat.le_of_ble_eq_true rfl⟩) (pvG hK hP hE hS (va_recv hK hP (ci := 6) (q0 := 0) rfl (wl_at (by decide) cX6))) rfl rfl hl.1 rfl (lv_room (Nat.le_of_ble_eq_true rfl)) dX6_says_97 ⟨Nat.zero_le _, Nat.zero_le _⟩) hS (fun H locs hP hS => ?_)
      refine lv_iload hx hb dX6_says_100 (lv_at hl 5 rfl) ?_
      refine lv_if_ne (tgt := 121) hx hb dX6_says_102 (by decide) (fun c_14 => ?_) (fun c_14 => ?_)
      · have hf := (if_neg c_14).symm.trans hf
        refine lv_aload_n hx hb dX6_says_121 rfl (lv_at hl 1 rfl) ?_
        refine va_get (D := z.1) (ci := 6) (v := .long (gL q_13 0 18)) (C := RX6) (T := TX6) (N := 29) hx hb hts in_X6 hown hK hP 0 (wl_at (by decide) cX6) rfl 18 (by decide) (hts (.fieldLink RX6 128 "TillOneOfSortModel" "eldest" "J") (by decide +kernel)) (fun _ h9 => h9) rfl dX6_says_122 ?_
        refine lv_aload_n hx hb dX6_says_125 rfl (lv_at hl 1 rfl) ?_
        refine va_get (D := z.1) (ci := 6) (v := .long (gL q_13 0 17)) (C := RX6) (T := TX6) (N := 29) hx hb hts in_X6 hown hK hP 0 (wl_at (by decide) cX6) rfl 17 (by decide) (hts (.fieldLink RX6 125 "TillOneOfSortModel" "says" "J") (by decide +kernel)) (fun _ h9 => h9) rfl dX6_says_126 ?_
        refine lv_iload hx hb dX6_says_129 (lv_at hl 6 rfl) ?_
        obtain ⟨q_15, hq_15, hf⟩ := x_bd hf
        refine x_callSl (va_runS (As := [.long (gL q_13 0 18), .long (gL q_13 0 17), .int v5]) (rest := []) ⟨hx, hb, hml, hown, hts⟩ (kX6_part l hq_15) (va_cwS 3 hts gX6_says_X6_part rfl rfl rfl (by decide +kernel) ⟨Nat.le_of_ble_eq_true rfl, Nat.le_of_ble_eq_true rfl⟩) psS rfl rfl hl.1 rfl (lv_room (Nat.le_of_ble_eq_true rfl)) dX6_says_131 ⟨Nat.zero_le _, Nat.zero_le _⟩) ?_
        exact x_lret hx hb hr hlocks hP hS dX6_says_134 (Prod.mk.inj (Option.some.inj hf)).1 (Prod.mk.inj (Option.some.inj hf)).2
      · have hf := (if_pos c_14).symm.trans hf
        refine lv_aload_n hx hb dX6_says_105 rfl (lv_at hl 1 rfl) ?_
        refine va_get (D := z.1) (ci := 6) (v := .long (gL q_13 0 17)) (C := RX6) (T := TX6) (N := 29) hx hb hts in_X6 hown hK hP 0 (wl_at (by decide) cX6) rfl 17 (by decide) (hts (.fieldLink RX6 125 "TillOneOfSortModel" "says" "J") (by decide +kernel)) (fun _ h9 => h9) rfl dX6_says_106 ?_
        refine lv_aload_n hx hb dX6_says_109 rfl (lv_at hl 1 rfl) ?_
        refine va_get (D := z.1) (ci := 6) (v := .long (gL q_13 0 10)) (C := RX6) (T := TX6) (N := 29) hx hb hts in_X6 hown hK hP 0 (wl_at (by decide) cX6) rfl 10 (by decide) (hts (.fieldLink RX6 94 "TillOneOfSortModel" "children" "J") (by decide +kernel)) (fun _ h9 => h9) rfl dX6_says_110 ?_
        refine lv_iload hx hb dX6_says_113 (lv_at hl 6 rfl) ?_
        obtain ⟨q_16, hq_16, hf⟩ := x_bd hf
        refine x_callSl (va_runS (As := [.long (gL q_13 0 17), .long (gL q_13 0 10), .int v5]) (rest := []) ⟨hx, hb, hml, hown, hts⟩ (kX6_part l hq_16) (va_cwS 3 hts gX6_says_X6_part rfl rfl rfl (by decide +kernel) ⟨Nat.le_of_ble_eq_true rfl, Nat.le_of_ble_eq_true rfl⟩) psS rfl rfl hl.1 rfl (lv_room (Nat.le_of_ble_eq_true rfl)) dX6_says_115 ⟨Nat.zero_le _, Nat.zero_le _⟩) ?_
        refine lv_goto (tgt := 134) hx hb dX6_says_118 (by decide) ?_
        exact x_lret hx hb hr hlocks hP hS dX6_says_134 (Prod.mk.inj (Option.some.inj hf)).1 (Prod.mk.inj (Option.some.inj hf)).2
    · have hf := (if_neg c_11).symm.trans hf
      refine lv_aload_n hx hb dX6_says_68 rfl (lv_at hl 1 rfl) ?_
      refine lv_iload hx hb dX6_says_69 (lv_at hl 0 rfl) ?_
      obtain ⟨q_17, hq_17, hf⟩ := x_bd hf
      refine x_callGl (va_runV (As := [.int t0]) (rest := []) ⟨hx, hb, hml, hown, hts⟩ (kX6_refuseWide l z hz hq_17) (cwV 1 hts gX6_says_X6_refuseWide rfl rfl rfl (by decide +kernel) ⟨Nat.le_of_ble_eq_true rfl, Nat.le_of_ble_eq_true rfl⟩) (pvG hK hP hE hS (va_recv hK hP (ci := 6) (q0 := 0) rfl (wl_at (by decide) cX6))) rfl rfl hl.1 rfl (lv_room (Nat.le_of_ble_eq_true rfl)) dX6_says_71 ⟨Nat.zero_le _, Nat.zero_le _⟩) hS (fun H locs hP hS => ?_)
      exact x_lret hx hb hr hlocks hP hS dX6_says_74 (Prod.mk.inj (Option.some.inj hf)).1 (Prod.mk.inj (Option.some.inj hf)).2
  have j_8 : ∀ (v1 : Int32) (v2 : Int32) (v3 : Int32) (v4 : Int32) (v5 : Int32) (σ : Mm) (H : Heap) (locs : List Loc) (ls : Array Slot), va_P z.1 vwCl (wl 8 z.2.1 (ceM z σ)) H → va_S (aG 8 z) s.heap H locs → lv_has ls 7 [(0, .ref (z.2.1 0)), (1, .int v1), (2, .int v2), (3, .int v3), (4, .int v4), (5, .int v5)] → fX6_says_8 v1 v2 v3 v4 v5 σ = some (r, σ') → W p l e (headSpec wsX6_says ({ frames := 202, cells := 0, slots := 0, locals := 4649 })).room s m ([.ref (z.2.1 0), .int a0, .int a1, .int a2, .int a3, .int a4] : List Value).toArray below meth c H locs 0 0 (MQ below (qcG 8 ceM z σ' (some (.long r))) ([.ref (z.2.1 0), .int a0, .int a1, .int a2, .int a3, .int a4] : List Value).toArray s 0 0 (aG 8 z)) (F0 m 8 ls []) := by
    intro v1 v2 v3 v4 v5 σ H locs ls hP hS hl hf
    rw [fX6_says_8] at hf
    refine lv_bipush (v := (-4 : Int32)) hx hb dX6_says_8 (by decide) ?_
    refine lv_goto (tgt := 61) hx hb dX6_says_10 (by decide) ?_
    exact j_61 v1 v2 v3 v4 v5 (-4 : Int32) σ _ _ _ hP hS (lv_sub hl [0, 1, 2, 3, 4, 5] rfl) hf
  have j_25 : ∀ (v1 : Int32) (v2 : Int32) (v3 : Int32) (v4 : Int32) (v5 : Int32) (σ : Mm) (H : Heap) (locs : List Loc) (ls : Array Slot), va_P z.1 vwCl (wl 8 z.2.1 (ceM z σ)) H → va_S (aG 8 z) s.heap H locs → lv_has ls 7 [(0, .ref (z.2.1 0)), (1, .int v1), (2, .int v2), (3, .int v3), (4, .int v4), (5, .int v5)] → fX6_says_25 v1 v2 v3 v4 v5 σ = some (r, σ') → W p l e (headSpec wsX6_says ({ frames := 202, cells := 0, slots := 0, locals := 4649 })).room s m ([.ref (z.2.1 0), .int a0, .int a1, .int a2, .int a3, .int a4] : List Value).toArray below meth c H locs 0 0 (MQ below (qcG 8 ceM z σ' (some (.long r))) ([.ref (z.2.1 0), .int a0, .int a1, .int a2, .int a3, .int a4] : List Value).toArray s 0 0 (aG 8 z)) (F0 m 25 ls []) := by
    intro v1 v2 v3 v4 v5 σ H locs ls hP hS hl hf
    rw [fX6_says_25] at hf
    refine lv_bipush (v := (-6 : Int32)) hx hb dX6_says_25 (by decide) ?_
    refine lv_goto (tgt := 61) hx hb dX6_says_27 (by decide) ?_
    exact j_61 v1 v2 v3 v4 v5 (-6 : Int32) σ _ _ _ hP hS (lv_sub hl [0, 1, 2, 3, 4, 5] rfl) hf
  have j_59 : ∀ (v1 : Int32) (v2 : Int32) (v3 : Int32) (v4 : Int32) (v5 : Int32) (σ : Mm) (H : Heap) (locs : List Loc) (ls : Array Slot), va_P z.1 vwCl (wl 8 z.2.1 (ceM z σ)) H → va_S (aG 8 z) s.heap H locs → lv_has ls 7 [(0, .ref (z.2.1 0)), (1, .int v1), (2, .int v2), (3, .int v3), (4, .int v4), (5, .int v5)] → fX6_says_59 v1 v2 v3 v4 v5 σ = some (r, σ') → W p l e (headSpec wsX6_says ({ frames := 202, cells := 0, slots := 0, locals := 4649 })).room s m ([.ref (z.2.1 0), .int a0, .int a1, .int a2, .int a3, .int a4] : List Value).toArray below meth c H locs 0 0 (MQ below (qcG 8 ceM z σ' (some (.long r))) ([.ref (z.2.1 0), .int a0, .int a1, .int a2, .int a3, .int a4] : List Value).toArray s 0 0 (aG 8 z)) (F0 m 59 ls []) := by
    intro v1 v2 v3 v4 v5 σ H locs ls hP hS hl hf
    rw [fX6_says_59] at hf
    refine lv_bipush (v := (-2 : Int32)) hx hb dX6_says_59 (by decide) ?_
    exact j_61 v1 v2 v3 v4 v5 (-2 : Int32) σ _ _ _ hP hS (lv_sub hl [0, 1, 2, 3, 4, 5] rfl) hf
  refine lv_iload_n hx hb dX6_says_0 rfl (lv_at hl 2 rfl) ?_
  refine lv_if_lt (tgt := 8) hx hb dX6_says_1 (by decide) (fun c_1001 => ?_) (fun c_1001 => ?_)
  · have hf := (if_pos c_1001).symm.trans hf
    exact j_8 a0 a1 a2 a3 a4 σ _ _ _ hP hS (lv_sub hl [0, 1, 2, 3, 4, 5] rfl) hf
  · have hf := (if_neg c_1001).symm.trans hf
    refine lv_iload_n hx hb dX6_says_4 rfl (lv_at hl 3 rfl) ?_
    refine lv_if_ge (tgt := 13) hx hb dX6_says_5 (by decide) (fun c_1002 => ?_) (fun c_1002 => ?_)
    · have hf := (if_pos c_1002).symm.trans hf
      refine lv_iload_n hx hb dX6_says_13 rfl (lv_at hl 2 rfl) ?_
      refine lv_bipush (v := (9 : Int32)) hx hb dX6_says_14 (by decide) ?_
      refine lv_icmp_gt (tgt := 25) hx hb dX6_says_16 (by decide) (fun c_1003 => ?_) (fun c_1003 => ?_)
      · have hf := (if_pos c_1003).symm.trans hf
        exact j_25 a0 a1 a2 a3 a4 σ _ _ _ hP hS (lv_sub hl [0, 1, 2, 3, 4, 5] rfl) hf
      · have hf := (if_neg c_1003).symm.trans hf
        refine lv_iload_n hx hb dX6_says_19 rfl (lv_at hl 3 rfl) ?_
        refine lv_bipush (v := (9 : Int32)) hx hb dX6_says_20 (by decide) ?_
        refine lv_icmp_le (tgt := 30) hx hb dX6_says_22 (by decide) (fun c_1004 => ?_) (fun c_1004 => ?_)
        · have hf := (if_pos c_1004).symm.trans hf
          refine lv_iload_n hx hb dX6_says_30 rfl (lv_at hl 1 rfl) ?_
          refine lv_iconst (v := (2 : Int32)) hx hb dX6_says_31 (by decide) ?_
          obtain ⟨q_1005, hq_1005, hf⟩ := x_bd hf
          refine x_callSi (va_runS (As := [.int a0, .int (2 : Int32)]) (rest := []) ⟨hx, hb, hml, hown, hts⟩ (kX6_isIn l hq_1005) (va_cwS 2 hts gX6_says_X6_isIn rfl rfl rfl (by decide +kernel) ⟨Nat.le_of_ble_eq_true rfl, Nat.le_of_ble_eq_true rfl⟩) psS rfl rfl hl.1 rfl (lv_room (Nat.le_of_ble_eq_true rfl)) dX6_says_32 ⟨Nat.zero_le _, Nat.zero_le _⟩) ?_
          refine lv_if_eq (tgt := 59) hx hb dX6_says_35 (by decide) (fun c_1006 => ?_) (fun c_1006 => ?_)
          · have hf := (if_pos c_1006).symm.trans hf
            exact j_59 a0 a1 a2 a3 a4 σ _ _ _ hP hS (lv_sub hl [0, 1, 2, 3, 4, 5] rfl) hf
          · have hf := (if_neg c_1006).symm.trans hf
            refine lv_iload hx hb dX6_says_38 (lv_at hl 4 rfl) ?_
            refine lv_iconst (v := (2 : Int32)) hx hb dX6_says_40 (by decide) ?_
            obtain ⟨q_1007, hq_1007, hf⟩ := x_bd hf
            refine x_callSi (va_runS (As := [.int a3, .int (2 : Int32)]) (rest := []) ⟨hx, hb, hml, hown, hts⟩ (kX6_isIn l hq_1007) (va_cwS 2 hts gX6_says_X6_isIn rfl rfl rfl (by decide +kernel) ⟨Nat.le_of_ble_eq_true rfl, Nat.le_of_ble_eq_true rfl⟩) psS rfl rfl hl.1 rfl (lv_room (Nat.le_of_ble_eq_true rfl)) dX6_says_41 ⟨Nat.zero_le _, Nat.zero_le _⟩) ?_
            refine lv_if_eq (tgt := 59) hx hb dX6_says_44 (by decide) (fun c_1008 => ?_) (fun c_1008 => ?_)
            · have hf := (if_pos c_1008).symm.trans hf
              exact j_59 a0 a1 a2 a3 a4 σ _ _ _ hP hS (lv_sub hl [0, 1, 2, 3, 4, 5] rfl) hf
            · have hf := (if_neg c_1008).symm.trans hf
              refine lv_iload hx hb dX6_says_47 (lv_at hl 5 rfl) ?_
              obtain ⟨q_1009, hq_1009, hf⟩ := x_bd hf
              refine x_callSi (va_runS (As := [.int a4]) (rest := []) ⟨hx, hb, hml, hown, hts⟩ (kX6_isPart l hq_1009) (va_cwS 1 hts gX6_says_X6_isPart rfl rfl rfl (by decide +kernel) ⟨Nat.le_of_ble_eq_true rfl, Nat.le_of_ble_eq_true rfl⟩) psS rfl rfl hl.1 rfl (lv_room (Nat.le_of_ble_eq_true rfl)) dX6_says_49 ⟨Nat.zero_le _, Nat.zero_le _⟩) ?_
              refine lv_if_eq (tgt := 59) hx hb dX6_says_52 (by decide) (fun c_1010 => ?_) (fun c_1010 => ?_)
              · have hf := (if_pos c_1010).symm.trans hf
                exact j_59 a0 a1 a2 a3 a4 σ _ _ _ hP hS (lv_sub hl [0, 1, 2, 3, 4, 5] rfl) hf
              · have hf := (if_neg c_1010).symm.trans hf
                refine lv_iconst (v := (0 : Int32)) hx hb dX6_says_55 (by decide) ?_
                refine lv_goto (tgt := 61) hx hb dX6_says_56 (by decide) ?_
                exact j_61 a0 a1 a2 a3 a4 (0 : Int32) σ _ _ _ hP hS (lv_sub hl [0, 1, 2, 3, 4, 5] rfl) hf
        · have hf := (if_neg c_1004).symm.trans hf
          exact j_25 a0 a1 a2 a3 a4 σ _ _ _ hP hS (lv_sub hl [0, 1, 2, 3, 4, 5] rfl) hf
    · have hf := (if_neg c_1002).symm.trans hf
      exact j_8 a0 a1 a2 a3 a4 σ _ _ _ hP hS (lv_sub hl [0, 1, 2, 3, 4, 5] rfl) hf
set_option maxHeartbeats 40000000 in
set_option maxRecDepth 100000 in
theorem kX6_triedBy (l : Launch) (z : Cx) (hz : okC 8 z) : ∀ (n : Nat) {a0 : Int32} {a1 : Int32} {a2 : Int32} {a3 : Int32} {a4 : Int64}  {σ : Mm} {r : Int64} , fX6_triedBy n a0 a1 a2 a3 a4 σ = some r → KG 8 ceM l yX6_triedBy wsX6_triedBy (n + 1) (27 * n + 23) [.ref (z.2.1 0), .int a0, .int a1, .int a2, .int a3, .long a4] z σ σ (some (.long r)) := by
  intro n
  induction n with
  | zero =>
    intro a0 a1 a2 a3 a4 σ r hf
    rw [fX6_triedBy] at hf
    cases hf
  | succ n ihr =>
    intro a0 a1 a2 a3 a4 σ r hf
    rw [fX6_triedBy] at hf
    refine Met.ofW (cc := cX6_triedBy) (maxL := 8) (ret := (some .long)) (by decide) rfl ?_
    intro p e s m args below meth c s₁ B hml hv
    obtain ⟨rfl, hP, hK, hE⟩ := hv
    have hx := B.exec
    have hb := B.bytes
    have hr := B.returns
    have hts := atoms_spec (ws := wsX6_triedBy) B.pre
    have hown : s.vm.findClass RX6 = some m.cls := findClass_of_methodNamed B.named
    have hlocks := B.notSynchronized
    have hS : va_S (aG 8 z) s.heap s.heap [] := va_S.rf
    have hl := lv_entry ([.ref (z.2.1 0), .int a0, .int a1, .int a2, .int a3, .long a4]) (n := 8) (Nat.le_of_ble_eq_true rfl)
    rw [lg_entry_eq]
    generalize (lg_sl ([.ref (z.2.1 0), .int a0, .int a1, .int a2, .int a3, .long a4]) ++ List.replicate (8 - (lg_sl ([.ref (z.2.1 0), .int a0, .int a1, .int a2, .int a3, .long a4])).length) Slot.unset).toArray = ls at hl ⊢
    have hl : lv_has ls 8 [(0, .ref (z.2.1 0)), (1, .int a0), (2, .int a1), (3, .int a2), (4, .int a3), (5, .long a4)] := hl
    refine lv_iload_n hx hb dX6_triedBy_0 rfl (lv_at hl 2 rfl) ?_
    refine lv_iload_n hx hb dX6_triedBy_1 rfl (lv_at hl 3 rfl) ?_
    refine lv_icmp_ne (tgt := 8) hx hb dX6_triedBy_2 (by decide) (fun c_1001 => ?_) (fun c_1001 => ?_)
    · have hf := (if_neg c_1001).symm.trans hf
      refine lv_iload_n hx hb dX6_triedBy_8 rfl (lv_at hl 1 rfl) ?_
      refine lv_if_eq (tgt := 19) hx hb dX6_triedBy_9 (by decide) (fun c_1002 => ?_) (fun c_1002 => ?_)
      · have hf := (if_pos c_1002).symm.trans hf
        refine lv_lconst (v := (0 : Int64)) hx hb dX6_triedBy_19 rfl ?_
        exact x_lret hx hb hr hlocks hP hS dX6_triedBy_20 (Option.some.inj hf) rfl
      · have hf := (if_neg c_1002).symm.trans hf
        refine lv_lload hx hb dX6_triedBy_12 (lv_at hl 5 rfl) ?_
        refine lv_lconst (v := (0 : Int64)) hx hb dX6_triedBy_14 rfl ?_
        refine W.lcmp hx hb dX6_triedBy_15 ?_
        refine lv_if_ne (tgt := 21) hx hb dX6_triedBy_16 (by decide) (fun c_1003 => ?_) (fun c_1003 => ?_)
        · have hf := (if_neg c_1003).symm.trans hf
          refine lv_aload_n hx hb dX6_triedBy_21 rfl (lv_at hl 0 rfl) ?_
          refine lv_iload hx hb dX6_triedBy_22 (lv_at hl 4 rfl) ?_
          obtain ⟨q_1004, hq_1004, hf⟩ := x_bd hf
          refine x_callGi (va_runV (As := [.int a3]) (rest := []) ⟨hx, hb, hml, hown, hts⟩ (kX6_twelfths l z hz hq_1004) (cwV 1 hts gX6_triedBy_X6_twelfths rfl rfl rfl (by decide +kernel) ⟨(by show 0 + 1 ≤ n + 1 + 1; omega), (by show 8 + (4 + 11) + (0) ≤ 27 * (n + 1) + 23; omega)⟩) (pvG hK hP hE hS (va_recv hK hP (ci := 6) (q0 := 0) rfl (wl_at (by decide) cX6))) rfl rfl hl.1 rfl (lv_room (Nat.le_of_ble_eq_true rfl)) dX6_triedBy_24 ⟨Nat.zero_le _, Nat.zero_le _⟩) hS (fun H locs hP hS => ?_)
          refine lv_istore (lv' := [(7, .int q_1004), (0, .ref (z.2.1 0)), (1, .int a0), (2, .int a1), (3, .int a2), (4, .int a3), (5, .long a4)]) hx hb dX6_triedBy_27 hl (by decide) rfl (fun ls hl => ?_)
          refine lv_aload_n hx hb dX6_triedBy_29 rfl (lv_at hl 1 rfl) ?_
          refine lv_iload_n hx hb dX6_triedBy_30 rfl (lv_at hl 2 rfl) ?_
          refine lv_iconst (v := (1 : Int32)) hx hb dX6_triedBy_31 (by decide) ?_
          refine lv_isub hx hb dX6_triedBy_32 ?_
          refine lv_iload_n hx hb dX6_triedBy_33 rfl (lv_at hl 3 rfl) ?_
          refine lv_iconst (v := (1 : Int32)) hx hb dX6_triedBy_34 (by decide) ?_
          refine lv_iadd hx hb dX6_triedBy_35 ?_
          refine lv_iload_n hx hb dX6_triedBy_36 rfl (lv_at hl 4 rfl) ?_
          refine lv_iconst (v := (1 : Int32)) hx hb dX6_triedBy_37 (by decide) ?_
          refine lv_lload hx hb dX6_triedBy_38 (lv_at hl 6 rfl) ?_
          refine lv_ldc2 (v := (12 : Int64)) hx hb hown (hts (.constantLong RX6 142 (12 : Int64)) (by decide +kernel)) dX6_triedBy_40 ?_
          refine lv_ldiv hx hb dX6_triedBy_43 (by decide) ?_
          refine lv_iload hx hb dX6_triedBy_44 (lv_at hl 0 rfl) ?_
          refine lv_i2l (v := q_1004.toInt64) hx hb dX6_triedBy_46 rfl ?_
          refine lv_lmul hx hb dX6_triedBy_47 ?_
          obtain ⟨q_1005, hq_1005, hf⟩ := x_bd hf
          refine x_callGl (va_runV (As := [.int (a0 - (1 : Int32)), .int (a1 + (1 : Int32)), .int a2, .int (1 : Int32), .long ((a4 / (12 : Int64)) * (q_1004.toInt64))]) (rest := []) ⟨hx, hb, hml, hown, hts⟩ (ihr hq_1005) (cwV 5 hts gX6_triedBy_X6_triedBy rfl rfl rfl (by decide +kernel) ⟨(by show n + 1 + 1 ≤ n + 1 + 1; omega), (by show 8 + (8 + 11) + (27 * n + 23) ≤ 27 * (n + 1) + 23; omega)⟩) (pvG hK hP hE hS (va_recv hK hP (ci := 6) (q0 := 0) rfl (wl_at (by decide) cX6))) rfl rfl hl.1 rfl (lv_room (Nat.le_of_ble_eq_true rfl)) dX6_triedBy_48 ⟨Nat.zero_le _, Nat.zero_le _⟩) hS (fun H locs hP hS => ?_)
          refine lv_aload_n hx hb dX6_triedBy_51 rfl (lv_at hl 1 rfl) ?_
          refine lv_iload_n hx hb dX6_triedBy_52 rfl (lv_at hl 2 rfl) ?_
          refine lv_iconst (v := (1 : Int32)) hx hb dX6_triedBy_53 (by decide) ?_
          refine lv_isub hx hb dX6_triedBy_54 ?_
          refine lv_iload_n hx hb dX6_triedBy_55 rfl (lv_at hl 3 rfl) ?_
          refine lv_iconst (v := (1 : Int32)) hx hb dX6_triedBy_56 (by decide) ?_
          refine lv_isub hx hb dX6_triedBy_57 ?_
          refine lv_iload_n hx hb dX6_triedBy_58 rfl (lv_at hl 4 rfl) ?_
          refine lv_iconst (v := (0 : Int32)) hx hb dX6_triedBy_59 (by decide) ?_
          refine lv_lload hx hb dX6_triedBy_60 (lv_at hl 6 rfl) ?_
          refine lv_ldc2 (v := (12 : Int64)) hx hb hown (hts (.constantLong RX6 142 (12 : Int64)) (by decide +kernel)) dX6_triedBy_62 ?_
          refine lv_ldiv hx hb dX6_triedBy_65 (by decide) ?_
          refine lv_bipush (v := (12 : Int32)) hx hb dX6_triedBy_66 (by decide) ?_
          refine lv_iload hx hb dX6_triedBy_68 (lv_at hl 0 rfl) ?_
          refine lv_isub hx hb dX6_triedBy_70 ?_
          refine lv_i2l (v := ((12 : Int32) - q_1004).toInt64) hx hb dX6_triedBy_71 rfl ?_
          refine lv_lmul hx hb dX6_triedBy_72 ?_
          obtain ⟨q_1006, hq_1006, hf⟩ := x_bd hf
          refine x_callGl (va_runV (As := [.int (a0 - (1 : Int32)), .int (a1 - (1 : Int32)), .int a2, .int (0 : Int32), .long ((a4 / (12 : Int64)) * (((12 : Int32) - q_1004).toInt64))]) (rest := [.long q_1005]) ⟨hx, hb, hml, hown, hts⟩ (ihr hq_1006) (cwV 5 hts gX6_triedBy_X6_triedBy rfl rfl rfl (by decide +kernel) ⟨(by show n + 1 + 1 ≤ n + 1 + 1; omega), (by show 8 + (8 + 11) + (27 * n + 23) ≤ 27 * (n + 1) + 23; omega)⟩) (pvG hK hP hE hS (va_recv hK hP (ci := 6) (q0 := 0) rfl (wl_at (by decide) cX6))) rfl rfl hl.1 rfl (lv_room (Nat.le_of_ble_eq_true rfl)) dX6_triedBy_73 ⟨Nat.zero_le _, Nat.zero_le _⟩) hS (fun H locs hP hS => ?_)
          refine lv_ladd hx hb dX6_triedBy_76 ?_
          exact x_lret hx hb hr hlocks hP hS dX6_triedBy_77 (Option.some.inj hf) rfl
        · have hf := (if_pos c_1003).symm.trans hf
          refine lv_lconst (v := (0 : Int64)) hx hb dX6_triedBy_19 rfl ?_
          exact x_lret hx hb hr hlocks hP hS dX6_triedBy_20 (Option.some.inj hf) rfl
    · have hf := (if_pos c_1001).symm.trans hf
      refine lv_lload hx hb dX6_triedBy_5 (lv_at hl 5 rfl) ?_
      exact x_lret hx hb hr hlocks hP hS dX6_triedBy_7 (Option.some.inj hf) rfl
set_option maxHeartbeats 40000000 in
set_option maxRecDepth 100000 in
theorem kX6_trial (l : Launch) (z : Cx) (hz : okC 8 z) {a0 : Int32} {a1 : Int32} {a2 : Int32}  {σ σ' : Mm} {r : Int64} (hf : fX6_trial a0 a1 a2 σ = some (r, σ')) : KG 8 ceM l yX6_trial wsX6_trial (202) (4649) [.ref (z.2.1 0), .int a0, .int a1, .int a2] z σ σ' (some (.long r)) := by
  rw [fX6_trial] at hf
  refine Met.ofW (cc := cX6_trial) (maxL := 8) (ret := (some .long)) (by decide) rfl ?_
  intro p e s m args below meth c s₁ B hml hv
  obtain ⟨rfl, hP, hK, hE⟩ := hv
  have hx := B.exec
  have hb := B.bytes
  have hr := B.returns
  have hts := atoms_spec (ws := wsX6_trial) B.pre
  have hown : s.vm.findClass RX6 = some m.cls := findClass_of_methodNamed B.named
  have hlocks := B.notSynchronized
  have hS : va_S (aG 8 z) s.heap s.heap [] := va_S.rf
  have hl := lv_entry ([.ref (z.2.1 0), .int a0, .int a1, .int a2]) (n := 8) (Nat.le_of_ble_eq_true rfl)
  rw [lg_entry_eq]
  generalize (lg_sl ([.ref (z.2.1 0), .int a0, .int a1, .int a2]) ++ List.replicate (8 - (lg_sl ([.ref (z.2.1 0), .int a0, .int a1, .int a2])).length) Slot.unset).toArray = ls at hl ⊢
  have hl : lv_has ls 8 [(0, .ref (z.2.1 0)), (1, .int a0), (2, .int a1), (3, .int a2)] := hl
  have L_65 : ∀ (n_65 : Nat) (v1 : Int32) (v2 : Int32) (v3 : Int32) (v5 : Int64) (v7 : Int32) (σ : Mm) (H : Heap) (locs : List Loc) (ls : Array Slot), va_P z.1 vwCl (wl 8 z.2.1 (ceM z σ)) H → va_S (aG 8 z) s.heap H locs → lv_has ls 8 [(0, .ref (z.2.1 0)), (1, .int v1), (2, .int v2), (3, .int v3), (5, .long v5), (7, .int v7)] → fX6_trial_65 n_65 v1 v2 v3 v5 v7 σ = some (r, σ') → W p l e (headSpec wsX6_trial ({ frames := 202, cells := 0, slots := 0, locals := 4649 })).room s m ([.ref (z.2.1 0), .int a0, .int a1, .int a2] : List Value).toArray below meth c H locs 0 0 (MQ below (qcG 8 ceM z σ' (some (.long r))) ([.ref (z.2.1 0), .int a0, .int a1, .int a2] : List Value).toArray s 0 0 (aG 8 z)) (F0 m 65 ls []) := by
    intro n_65
    induction n_65 with
    | zero =>
      intro v1 v2 v3 v5 v7 σ H locs ls hP hS hl hf
      rw [fX6_trial_65] at hf
      cases hf
    | succ n_65 ih_65 =>
      intro v1 v2 v3 v5 v7 σ H locs ls hP hS hl hf
      rw [fX6_trial_65] at hf
      refine lv_iload hx hb dX6_trial_65 (lv_at hl 5 rfl) ?_
      refine lv_iload_n hx hb dX6_trial_67 rfl (lv_at hl 1 rfl) ?_
      refine lv_icmp_ge (tgt := 85) hx hb dX6_trial_68 (by decide) (fun c_7 => ?_) (fun c_7 => ?_)
      · have hf := (if_pos c_7).symm.trans hf
        refine lv_aload_n hx hb dX6_trial_85 rfl (lv_at hl 0 rfl) ?_
        refine lv_iload_n hx hb dX6_trial_86 rfl (lv_at hl 1 rfl) ?_
        refine lv_iconst (v := (0 : Int32)) hx hb dX6_trial_87 (by decide) ?_
        refine lv_iload_n hx hb dX6_trial_88 rfl (lv_at hl 2 rfl) ?_
        refine lv_bipush (v := (-9 : Int32)) hx hb dX6_trial_89 (by decide) ?_
        refine lv_lload hx hb dX6_trial_91 (lv_at hl 4 rfl) ?_
        obtain ⟨q_8, hq_8, hf⟩ := x_bd hf
        refine x_callGl (va_runV (As := [.int v1, .int (0 : Int32), .int v2, .int (-9 : Int32), .long v5]) (rest := []) ⟨hx, hb, hml, hown, hts⟩ (kX6_triedBy l z hz 12 hq_8) (cwV 5 hts gX6_trial_X6_triedBy rfl rfl rfl (by decide +kernel) ⟨Nat.le_of_ble_eq_true rfl, Nat.le_of_ble_eq_true rfl⟩) (pvG hK hP hE hS (va_recv hK hP (ci := 6) (q0 := 0) rfl (wl_at (by decide) cX6))) rfl rfl hl.1 rfl (lv_room (Nat.le_of_ble_eq_true rfl)) dX6_trial_93 ⟨Nat.zero_le _, Nat.zero_le _⟩) hS (fun H locs hP hS => ?_)
        refine lv_lload hx hb dX6_trial_96 (lv_at hl 4 rfl) ?_
        refine lv_iload_n hx hb dX6_trial_98 rfl (lv_at hl 3 rfl) ?_
        obtain ⟨q_9, hq_9, hf⟩ := x_bd hf
        refine x_callSl (va_runS (As := [.long q_8, .long v5, .int v3]) (rest := []) ⟨hx, hb, hml, hown, hts⟩ (kX6_part l hq_9) (va_cwS 3 hts gX6_trial_X6_part rfl rfl rfl (by decide +kernel) ⟨Nat.le_of_ble_eq_true rfl, Nat.le_of_ble_eq_true rfl⟩) psS rfl rfl hl.1 rfl (lv_room (Nat.le_of_ble_eq_true rfl)) dX6_trial_99 ⟨Nat.zero_le _, Nat.zero_le _⟩) ?_
        exact x_lret hx hb hr hlocks hP hS dX6_trial_102 (Prod.mk.inj (Option.some.inj hf)).1 (Prod.mk.inj (Option.some.inj hf)).2
      · have hf := (if_neg c_7).symm.trans hf
        refine lv_lload hx hb dX6_trial_71 (lv_at hl 4 rfl) ?_
        refine lv_ldc2 (v := (12 : Int64)) hx hb hown (hts (.constantLong RX6 142 (12 : Int64)) (by decide +kernel)) dX6_trial_73 ?_
        refine lv_lmul hx hb dX6_trial_76 ?_
        refine lv_lstore (lv' := [(5, .long (v5 * (12 : Int64))), (0, .ref (z.2.1 0)), (1, .int v1), (2, .int v2), (3, .int v3), (7, .int v7)]) hx hb dX6_trial_77 hl (by decide) rfl (fun ls hl => ?_)
        refine lv_iinc (v := (v7 + (1 : Int32))) (lv' := [(7, .int (v7 + (1 : Int32))), (5, .long (v5 * (12 : Int64))), (0, .ref (z.2.1 0)), (1, .int v1), (2, .int v2), (3, .int v3)]) hx hb dX6_trial_79 hl (k := 5) rfl rfl (by decide) rfl (fun ls hl => ?_)
        refine lv_goto (tgt := 65) hx hb dX6_trial_82 (by decide) ?_
        exact ih_65 v1 v2 v3 (v5 * (12 : Int64)) (v7 + (1 : Int32)) σ _ _ _ hP hS (lv_sub hl [2, 3, 4, 5, 1, 0] rfl) hf
  have j_45 : ∀ (v1 : Int32) (v2 : Int32) (v3 : Int32) (t0 : Int32) (σ : Mm) (H : Heap) (locs : List Loc) (ls : Array Slot), va_P z.1 vwCl (wl 8 z.2.1 (ceM z σ)) H → va_S (aG 8 z) s.heap H locs → lv_has ls 8 [(0, .ref (z.2.1 0)), (1, .int v1), (2, .int v2), (3, .int v3)] → fX6_trial_45 v1 v2 v3 t0 σ = some (r, σ') → W p l e (headSpec wsX6_trial ({ frames := 202, cells := 0, slots := 0, locals := 4649 })).room s m ([.ref (z.2.1 0), .int a0, .int a1, .int a2] : List Value).toArray below meth c H locs 0 0 (MQ below (qcG 8 ceM z σ' (some (.long r))) ([.ref (z.2.1 0), .int a0, .int a1, .int a2] : List Value).toArray s 0 0 (aG 8 z)) (F0 m 45 ls [.int t0]) := by
    intro v1 v2 v3 t0 σ H locs ls hP hS hl hf
    rw [fX6_trial_45] at hf
    refine lv_istore (lv' := [(4, .int t0), (0, .ref (z.2.1 0)), (1, .int v1), (2, .int v2), (3, .int v3)]) hx hb dX6_trial_45 hl (by decide) rfl (fun ls hl => ?_)
    refine lv_iload hx hb dX6_trial_47 (lv_at hl 0 rfl) ?_
    refine lv_if_eq (tgt := 59) hx hb dX6_trial_49 (by decide) (fun c_10 => ?_) (fun c_10 => ?_)
    · have hf := (if_pos c_10).symm.trans hf
      refine lv_lconst (v := (1 : Int64)) hx hb dX6_trial_59 rfl ?_
      refine lv_lstore (lv' := [(5, .long (1 : Int64)), (4, .int t0), (0, .ref (z.2.1 0)), (1, .int v1), (2, .int v2), (3, .int v3)]) hx hb dX6_trial_60 hl (by decide) rfl (fun ls hl => ?_)
      refine lv_iconst (v := (0 : Int32)) hx hb dX6_trial_62 (by decide) ?_
      refine lv_istore (lv' := [(7, .int (0 : Int32)), (5, .long (1 : Int64)), (4, .int t0), (0, .ref (z.2.1 0)), (1, .int v1), (2, .int v2), (3, .int v3)]) hx hb dX6_trial_63 hl (by decide) rfl (fun ls hl => ?_)
      exact L_65 1000 v1 v2 v3 (1 : Int64) (0 : Int32) σ _ _ _ hP hS (lv_sub hl [3, 4, 5, 6, 1, 0] rfl) hf
    · have hf := (if_neg c_10).symm.trans hf
      refine lv_aload_n hx hb dX6_trial_52 rfl (lv_at hl 1 rfl) ?_
      refine lv_iload hx hb dX6_trial_53 (lv_at hl 0 rfl) ?_
      obtain ⟨q_11, hq_11, hf⟩ := x_bd hf
      refine x_callGl (va_runV (As := [.int t0]) (rest := []) ⟨hx, hb, hml, hown, hts⟩ (kX6_refuseWide l z hz hq_11) (cwV 1 hts gX6_trial_X6_refuseWide rfl rfl rfl (by decide +kernel) ⟨Nat.le_of_ble_eq_true rfl, Nat.le_of_ble_eq_true rfl⟩) (pvG hK hP hE hS (va_recv hK hP (ci := 6) (q0 := 0) rfl (wl_at (by decide) cX6))) rfl rfl hl.1 rfl (lv_room (Nat.le_of_ble_eq_true rfl)) dX6_trial_55 ⟨Nat.zero_le _, Nat.zero_le _⟩) hS (fun H locs hP hS => ?_)
      exact x_lret hx hb hr hlocks hP hS dX6_trial_58 (Prod.mk.inj (Option.some.inj hf)).1 (Prod.mk.inj (Option.some.inj hf)).2
  have j_10 : ∀ (v1 : Int32) (v2 : Int32) (v3 : Int32) (σ : Mm) (H : Heap) (locs : List Loc) (ls : Array Slot), va_P z.1 vwCl (wl 8 z.2.1 (ceM z σ)) H → va_S (aG 8 z) s.heap H locs → lv_has ls 8 [(0, .ref (z.2.1 0)), (1, .int v1), (2, .int v2), (3, .int v3)] → fX6_trial_10 v1 v2 v3 σ = some (r, σ') → W p l e (headSpec wsX6_trial ({ frames := 202, cells := 0, slots := 0, locals := 4649 })).room s m ([.ref (z.2.1 0), .int a0, .int a1, .int a2] : List Value).toArray below meth c H locs 0 0 (MQ below (qcG 8 ceM z σ' (some (.long r))) ([.ref (z.2.1 0), .int a0, .int a1, .int a2] : List Value).toArray s 0 0 (aG 8 z)) (F0 m 10 ls []) := by
    intro v1 v2 v3 σ H locs ls hP hS hl hf
    rw [fX6_trial_10] at hf
    refine lv_bipush (v := (-4 : Int32)) hx hb dX6_trial_10 (by decide) ?_
    refine lv_goto (tgt := 45) hx hb dX6_trial_12 (by decide) ?_
    exact j_45 v1 v2 v3 (-4 : Int32) σ _ _ _ hP hS (lv_sub hl [0, 1, 2, 3] rfl) hf
  have j_27 : ∀ (v1 : Int32) (v2 : Int32) (v3 : Int32) (σ : Mm) (H : Heap) (locs : List Loc) (ls : Array Slot), va_P z.1 vwCl (wl 8 z.2.1 (ceM z σ)) H → va_S (aG 8 z) s.heap H locs → lv_has ls 8 [(0, .ref (z.2.1 0)), (1, .int v1), (2, .int v2), (3, .int v3)] → fX6_trial_27 v1 v2 v3 σ = some (r, σ') → W p l e (headSpec wsX6_trial ({ frames := 202, cells := 0, slots := 0, locals := 4649 })).room s m ([.ref (z.2.1 0), .int a0, .int a1, .int a2] : List Value).toArray below meth c H locs 0 0 (MQ below (qcG 8 ceM z σ' (some (.long r))) ([.ref (z.2.1 0), .int a0, .int a1, .int a2] : List Value).toArray s 0 0 (aG 8 z)) (F0 m 27 ls []) := by
    intro v1 v2 v3 σ H locs ls hP hS hl hf
    rw [fX6_trial_27] at hf
    refine lv_bipush (v := (-6 : Int32)) hx hb dX6_trial_27 (by decide) ?_
    refine lv_goto (tgt := 45) hx hb dX6_trial_29 (by decide) ?_
    exact j_45 v1 v2 v3 (-6 : Int32) σ _ _ _ hP hS (lv_sub hl [0, 1, 2, 3] rfl) hf
  refine lv_iload_n hx hb dX6_trial_0 rfl (lv_at hl 1 rfl) ?_
  refine lv_iconst (v := (1 : Int32)) hx hb dX6_trial_1 (by decide) ?_
  refine lv_icmp_lt (tgt := 10) hx hb dX6_trial_2 (by decide) (fun c_1001 => ?_) (fun c_1001 => ?_)
  · have hf := (if_pos c_1001).symm.trans hf
    exact j_10 a0 a1 a2 σ _ _ _ hP hS (lv_sub hl [0, 1, 2, 3] rfl) hf
  · have hf := (if_neg c_1001).symm.trans hf
    refine lv_iload_n hx hb dX6_trial_5 rfl (lv_at hl 2 rfl) ?_
    refine lv_iconst (v := (1 : Int32)) hx hb dX6_trial_6 (by decide) ?_
    refine lv_icmp_ge (tgt := 15) hx hb dX6_trial_7 (by decide) (fun c_1002 => ?_) (fun c_1002 => ?_)
    · have hf := (if_pos c_1002).symm.trans hf
      refine lv_iload_n hx hb dX6_trial_15 rfl (lv_at hl 1 rfl) ?_
      refine lv_bipush (v := (10 : Int32)) hx hb dX6_trial_16 (by decide) ?_
      refine lv_icmp_gt (tgt := 27) hx hb dX6_trial_18 (by decide) (fun c_1003 => ?_) (fun c_1003 => ?_)
      · have hf := (if_pos c_1003).symm.trans hf
        exact j_27 a0 a1 a2 σ _ _ _ hP hS (lv_sub hl [0, 1, 2, 3] rfl) hf
      · have hf := (if_neg c_1003).symm.trans hf
        refine lv_iload_n hx hb dX6_trial_21 rfl (lv_at hl 2 rfl) ?_
        refine lv_bipush (v := (9 : Int32)) hx hb dX6_trial_22 (by decide) ?_
        refine lv_icmp_le (tgt := 32) hx hb dX6_trial_24 (by decide) (fun c_1004 => ?_) (fun c_1004 => ?_)
        · have hf := (if_pos c_1004).symm.trans hf
          refine lv_iload_n hx hb dX6_trial_32 rfl (lv_at hl 3 rfl) ?_
          obtain ⟨q_1005, hq_1005, hf⟩ := x_bd hf
          refine x_callSi (va_runS (As := [.int a2]) (rest := []) ⟨hx, hb, hml, hown, hts⟩ (kX6_isPart l hq_1005) (va_cwS 1 hts gX6_trial_X6_isPart rfl rfl rfl (by decide +kernel) ⟨Nat.le_of_ble_eq_true rfl, Nat.le_of_ble_eq_true rfl⟩) psS rfl rfl hl.1 rfl (lv_room (Nat.le_of_ble_eq_true rfl)) dX6_trial_33 ⟨Nat.zero_le _, Nat.zero_le _⟩) ?_
          refine lv_if_eq (tgt := 43) hx hb dX6_trial_36 (by decide) (fun c_1006 => ?_) (fun c_1006 => ?_)
          · have hf := (if_pos c_1006).symm.trans hf
            refine lv_bipush (v := (-2 : Int32)) hx hb dX6_trial_43 (by decide) ?_
            exact j_45 a0 a1 a2 (-2 : Int32) σ _ _ _ hP hS (lv_sub hl [0, 1, 2, 3] rfl) hf
          · have hf := (if_neg c_1006).symm.trans hf
            refine lv_iconst (v := (0 : Int32)) hx hb dX6_trial_39 (by decide) ?_
            refine lv_goto (tgt := 45) hx hb dX6_trial_40 (by decide) ?_
            exact j_45 a0 a1 a2 (0 : Int32) σ _ _ _ hP hS (lv_sub hl [0, 1, 2, 3] rfl) hf
        · have hf := (if_neg c_1004).symm.trans hf
          exact j_27 a0 a1 a2 σ _ _ _ hP hS (lv_sub hl [0, 1, 2, 3] rfl) hf
    · have hf := (if_neg c_1002).symm.trans hf
      exact j_10 a0 a1 a2 σ _ _ _ hP hS (lv_sub hl [0, 1, 2, 3] rfl) hf
set_option maxHeartbeats 40000000 in
set_option maxRecDepth 100000 in
theorem kX6_stopOf (l : Launch) (z : Cx) (hz : okC 8 z) {a0 : Int32} {a1 : Int32} {a2 : Int32}  {σ σ' : Mm} {r : Int32} (hf : fX6_stopOf a0 a1 a2 σ = some (r, σ')) : KG 8 ceM l yX6_stopOf wsX6_stopOf (2) (48) [.ref (z.2.1 0), .int a0, .int a1, .int a2] z σ σ' (some (.int r)) := by
  rw [fX6_stopOf] at hf
  refine Met.ofW (cc := cX6_stopOf) (maxL := 6) (ret := (some .int)) (by decide) rfl ?_
  intro p e s m args below meth c s₁ B hml hv
  obtain ⟨rfl, hP, hK, hE⟩ := hv
  have hx := B.exec
  have hb := B.bytes
  have hr := B.returns
  have hts := atoms_spec (ws := wsX6_stopOf) B.pre
  have hown : s.vm.findClass RX6 = some m.cls := findClass_of_methodNamed B.named
  have hlocks := B.notSynchronized
  have in_X6 : ∀ w ∈ wsX60, w ∈ wsX6_stopOf := by decide +kernel
  have hS : va_S (aG 8 z) s.heap s.heap [] := va_S.rf
  have hl := lv_entry ([.ref (z.2.1 0), .int a0, .int a1, .int a2]) (n := 6) (Nat.le_of_ble_eq_true rfl)
  rw [lg_entry_eq]
  generalize (lg_sl ([.ref (z.2.1 0), .int a0, .int a1, .int a2]) ++ List.replicate (6 - (lg_sl ([.ref (z.2.1 0), .int a0, .int a1, .int a2])).length) Slot.unset).toArray = ls at hl ⊢
  have hl : lv_has ls 6 [(0, .ref (z.2.1 0)), (1, .int a0), (2, .int a1), (3, .int a2)] := hl
  have L_18 : ∀ (n_18 : Nat) (v1 : Int32) (v2 : Int32) (v3 : Int32) (v4 : Int32) (σ : Mm) (H : Heap) (locs : List Loc) (ls : Array Slot), va_P z.1 vwCl (wl 8 z.2.1 (ceM z σ)) H → va_S (aG 8 z) s.heap H locs → lv_has ls 6 [(0, .ref (z.2.1 0)), (1, .int v1), (2, .int v2), (3, .int v3), (4, .int v4)] → fX6_stopOf_18 n_18 v1 v2 v3 v4 σ = some (r, σ') → W p l e (headSpec wsX6_stopOf ({ frames := 2, cells := 0, slots := 0, locals := 48 })).room s m ([.ref (z.2.1 0), .int a0, .int a1, .int a2] : List Value).toArray below meth c H locs 0 0 (MQ below (qcG 8 ceM z σ' (some (.int r))) ([.ref (z.2.1 0), .int a0, .int a1, .int a2] : List Value).toArray s 0 0 (aG 8 z)) (F0 m 18 ls []) := by
    intro n_18
    induction n_18 with
    | zero =>
      intro v1 v2 v3 v4 σ H locs ls hP hS hl hf
      rw [fX6_stopOf_18] at hf
      cases hf
    | succ n_18 ih_18 =>
      have j_73 : ∀ (v1 : Int32) (v2 : Int32) (v3 : Int32) (v4 : Int32) (t0 : Int32) (σ : Mm) (H : Heap) (locs : List Loc) (ls : Array Slot), va_P z.1 vwCl (wl 8 z.2.1 (ceM z σ)) H → va_S (aG 8 z) s.heap H locs → lv_has ls 6 [(0, .ref (z.2.1 0)), (1, .int v1), (2, .int v2), (3, .int v3), (4, .int v4)] → fX6_stopOf_73 (fun wv1 wv2 wv3 wv4 wσ => fX6_stopOf_18 n_18 wv1 wv2 wv3 wv4 wσ) v1 v2 v3 v4 t0 σ = some (r, σ') → W p l e (headSpec wsX6_stopOf ({ frames := 2, cells := 0, slots := 0, locals := 48 })).room s m ([.ref (z.2.1 0), .int a0, .int a1, .int a2] : List Value).toArray below meth c H locs 0 0 (MQ below (qcG 8 ceM z σ' (some (.int r))) ([.ref (z.2.1 0), .int a0, .int a1, .int a2] : List Value).toArray s 0 0 (aG 8 z)) (F0 m 73 ls [.int t0, .ref (z.2.1 0)]) := by
        intro v1 v2 v3 v4 t0 σ H locs ls hP hS hl hf
        rw [fX6_stopOf_73] at hf
        refine va_put (D := z.1) (ci := 6) (v := .int t0) (ty := .int) (C := RX6) (T := TX6) (N := 29) hx hb hts in_X6 tyX6 tyX6_ok nmX6 hown hK hP (wl_D hz _) hS 0 (wl_at (by decide) cX6) rfl 25 (by decide) (hts (.fieldLink RX6 182 "TillOneOfSortModel" "lastRun" "I") (by decide +kernel)) (fun _ h9 => h9) rfl (by decide +kernel) rfl rfl (Nat.le_of_ble_eq_true rfl) dX6_stopOf_73 (fun H locs hP _ hS => ?_)
        rw [sX6I (by decide)] at hP
        refine lv_aload_n hx hb dX6_stopOf_76 rfl (lv_at hl 0 rfl) ?_
        refine lv_iload_n hx hb dX6_stopOf_77 rfl (lv_at hl 1 rfl) ?_
        refine lv_aload_n hx hb dX6_stopOf_78 rfl (lv_at hl 0 rfl) ?_
        refine va_get (D := z.1) (ci := 6) (v := .int (gI (pI σ 0 25 t0) 0 23)) (C := RX6) (T := TX6) (N := 29) hx hb hts in_X6 hown hK hP 0 (wl_at (by decide) cX6) rfl 23 (by decide) (hts (.fieldLink RX6 176 "TillOneOfSortModel" "lastOnes" "I") (by decide +kernel)) (fun _ h9 => h9) rfl dX6_stopOf_79 ?_
        refine lv_aload_n hx hb dX6_stopOf_82 rfl (lv_at hl 0 rfl) ?_
        refine va_get (D := z.1) (ci := 6) (v := .int (gI (pI σ 0 25 t0) 0 24)) (C := RX6) (T := TX6) (N := 29) hx hb hts in_X6 hown hK hP 0 (wl_at (by decide) cX6) rfl 24 (by decide) (hts (.fieldLink RX6 179 "TillOneOfSortModel" "lastZeros" "I") (by decide +kernel)) (fun _ h9 => h9) rfl dX6_stopOf_83 ?_
        refine lv_aload_n hx hb dX6_stopOf_86 rfl (lv_at hl 0 rfl) ?_
        refine va_get (D := z.1) (ci := 6) (v := .int (gI (pI σ 0 25 t0) 0 25)) (C := RX6) (T := TX6) (N := 29) hx hb hts in_X6 hown hK hP 0 (wl_at (by decide) cX6) rfl 25 (by decide) (hts (.fieldLink RX6 182 "TillOneOfSortModel" "lastRun" "I") (by decide +kernel)) (fun _ h9 => h9) rfl dX6_stopOf_87 ?_
        obtain ⟨q_3, hq_3, hf⟩ := x_bd hf
        refine x_callGi (va_runV (As := [.int v1, .int (gI (pI σ 0 25 t0) 0 23), .int (gI (pI σ 0 25 t0) 0 24), .int (gI (pI σ 0 25 t0) 0 25)]) (rest := []) ⟨hx, hb, hml, hown, hts⟩ (kX6_endsBy l z hz hq_3) (cwV 4 hts gX6_stopOf_X6_endsBy rfl rfl rfl (by decide +kernel) ⟨Nat.le_of_ble_eq_true rfl, Nat.le_of_ble_eq_true rfl⟩) (pvG hK hP hE hS (va_recv hK hP (ci := 6) (q0 := 0) rfl (wl_at (by decide) cX6))) rfl rfl hl.1 rfl (lv_room (Nat.le_of_ble_eq_true rfl)) dX6_stopOf_90 ⟨Nat.zero_le _, Nat.zero_le _⟩) hS (fun H locs hP hS => ?_)
        refine lv_if_eq (tgt := 101) hx hb dX6_stopOf_93 (by decide) (fun c_4 => ?_) (fun c_4 => ?_)
        · have hf := (if_pos c_4).symm.trans hf
          refine lv_iinc (v := (v4 + (1 : Int32))) (lv' := [(4, .int (v4 + (1 : Int32))), (0, .ref (z.2.1 0)), (1, .int v1), (2, .int v2), (3, .int v3)]) hx hb dX6_stopOf_101 hl (k := 4) rfl rfl (by decide) rfl (fun ls hl => ?_)
          refine lv_goto (tgt := 18) hx hb dX6_stopOf_104 (by decide) ?_
          exact ih_18 v1 v2 v3 (v4 + (1 : Int32)) (pI σ 0 25 t0) _ _ _ hP hS (lv_sub hl [1, 2, 3, 4, 0] rfl) hf
        · have hf := (if_neg c_4).symm.trans hf
          refine lv_iload hx hb dX6_stopOf_96 (lv_at hl 4 rfl) ?_
          refine lv_iconst (v := (1 : Int32)) hx hb dX6_stopOf_98 (by decide) ?_
          refine lv_iadd hx hb dX6_stopOf_99 ?_
          exact x_iret hx hb hr hlocks hP hS dX6_stopOf_100 (Prod.mk.inj (Option.some.inj hf)).1 (Prod.mk.inj (Option.some.inj hf)).2
      intro v1 v2 v3 v4 σ H locs ls hP hS hl hf
      rw [fX6_stopOf_18] at hf
      refine lv_iload hx hb dX6_stopOf_18 (lv_at hl 4 rfl) ?_
      refine lv_iload_n hx hb dX6_stopOf_20 rfl (lv_at hl 2 rfl) ?_
      refine lv_icmp_ge (tgt := 107) hx hb dX6_stopOf_21 (by decide) (fun c_1 => ?_) (fun c_1 => ?_)
      · have hf := (if_pos c_1).symm.trans hf
        refine lv_iconst (v := (0 : Int32)) hx hb dX6_stopOf_107 (by decide) ?_
        exact x_iret hx hb hr hlocks hP hS dX6_stopOf_108 (Prod.mk.inj (Option.some.inj hf)).1 (Prod.mk.inj (Option.some.inj hf)).2
      · have hf := (if_neg c_1).symm.trans hf
        refine lv_iload_n hx hb dX6_stopOf_24 rfl (lv_at hl 3 rfl) ?_
        refine lv_iload hx hb dX6_stopOf_25 (lv_at hl 4 rfl) ?_
        refine lv_ishr hx hb dX6_stopOf_27 ?_
        refine lv_iconst (v := (1 : Int32)) hx hb dX6_stopOf_28 (by decide) ?_
        refine lv_iand hx hb dX6_stopOf_29 ?_
        refine lv_istore (lv' := [(5, .int ((v3 >>> (v4 &&& 31)) &&& (1 : Int32))), (0, .ref (z.2.1 0)), (1, .int v1), (2, .int v2), (3, .int v3), (4, .int v4)]) hx hb dX6_stopOf_30 hl (by decide) rfl (fun ls hl => ?_)
        refine lv_aload_n hx hb dX6_stopOf_32 rfl (lv_at hl 1 rfl) ?_
        refine lv_dup hx hb dX6_stopOf_33 rfl ?_
        refine va_get (D := z.1) (ci := 6) (v := .int (gI σ 0 23)) (C := RX6) (T := TX6) (N := 29) hx hb hts in_X6 hown hK hP 0 (wl_at (by decide) cX6) rfl 23 (by decide) (hts (.fieldLink RX6 176 "TillOneOfSortModel" "lastOnes" "I") (by decide +kernel)) (fun _ h9 => h9) rfl dX6_stopOf_34 ?_
        refine lv_iload hx hb dX6_stopOf_37 (lv_at hl 0 rfl) ?_
        refine lv_iadd hx hb dX6_stopOf_39 ?_
        refine va_put (D := z.1) (ci := 6) (v := .int ((gI σ 0 23) + ((v3 >>> (v4 &&& 31)) &&& (1 : Int32)))) (ty := .int) (C := RX6) (T := TX6) (N := 29) hx hb hts in_X6 tyX6 tyX6_ok nmX6 hown hK hP (wl_D hz _) hS 0 (wl_at (by decide) cX6) rfl 23 (by decide) (hts (.fieldLink RX6 176 "TillOneOfSortModel" "lastOnes" "I") (by decide +kernel)) (fun _ h9 => h9) rfl (by decide +kernel) rfl rfl (Nat.le_of_ble_eq_true rfl) dX6_stopOf_40 (fun H locs hP _ hS => ?_)
        rw [sX6I (by decide)] at hP
        refine lv_aload_n hx hb dX6_stopOf_43 rfl (lv_at hl 1 rfl) ?_
        refine lv_dup hx hb dX6_stopOf_44 rfl ?_
        refine va_get (D := z.1) (ci := 6) (v := .int (gI (pI σ 0 23 ((gI σ 0 23) + ((v3 >>> (v4 &&& 31)) &&& (1 : Int32)))) 0 24)) (C := RX6) (T := TX6) (N := 29) hx hb hts in_X6 hown hK hP 0 (wl_at (by decide) cX6) rfl 24 (by decide) (hts (.fieldLink RX6 179 "TillOneOfSortModel" "lastZeros" "I") (by decide +kernel)) (fun _ h9 => h9) rfl dX6_stopOf_45 ?_
        refine lv_iconst (v := (1 : Int32)) hx hb dX6_stopOf_48 (by decide) ?_
        refine lv_iload hx hb dX6_stopOf_49 (lv_at hl 0 rfl) ?_
        refine lv_isub hx hb dX6_stopOf_51 ?_
        refine lv_iadd hx hb dX6_stopOf_52 ?_
        refine va_put (D := z.1) (ci := 6) (v := .int ((gI (pI σ 0 23 ((gI σ 0 23) + ((v3 >>> (v4 &&& 31)) &&& (1 : Int32)))) 0 24) + ((1 : Int32) - ((v3 >>> (v4 &&& 31)) &&& (1 : Int32))))) (ty := .int) (C := RX6) (T := TX6) (N := 29) hx hb hts in_X6 tyX6 tyX6_ok nmX6 hown hK hP (wl_D hz _) hS 0 (wl_at (by decide) cX6) rfl 24 (by decide) (hts (.fieldLink RX6 179 "TillOneOfSortModel" "lastZeros" "I") (by decide +kernel)) (fun _ h9 => h9) rfl (by decide +kernel) rfl rfl (Nat.le_of_ble_eq_true rfl) dX6_stopOf_53 (fun H locs hP _ hS => ?_)
        rw [sX6I (by decide)] at hP
        refine lv_aload_n hx hb dX6_stopOf_56 rfl (lv_at hl 1 rfl) ?_
        refine lv_iload hx hb dX6_stopOf_57 (lv_at hl 0 rfl) ?_
        refine lv_iconst (v := (1 : Int32)) hx hb dX6_stopOf_59 (by decide) ?_
        refine lv_icmp_ne (tgt := 72) hx hb dX6_stopOf_60 (by decide) (fun c_2 => ?_) (fun c_2 => ?_)
        · have hf := (if_neg c_2).symm.trans hf
          refine lv_iconst (v := (0 : Int32)) hx hb dX6_stopOf_72 (by decide) ?_
          exact j_73 v1 v2 v3 v4 (0 : Int32) (pI (pI σ 0 23 ((gI σ 0 23) + ((v3 >>> (v4 &&& 31)) &&& (1 : Int32)))) 0 24 ((gI (pI σ 0 23 ((gI σ 0 23) + ((v3 >>> (v4 &&& 31)) &&& (1 : Int32)))) 0 24) + ((1 : Int32) - ((v3 >>> (v4 &&& 31)) &&& (1 : Int32))))) _ _ _ hP hS (lv_sub hl [1, 2, 3, 4, 5] rfl) hf
        · have hf := (if_pos c_2).symm.trans hf
          refine lv_aload_n hx hb dX6_stopOf_63 rfl (lv_at hl 1 rfl) ?_
          refine va_get (D := z.1) (ci := 6) (v := .int (gI (pI (pI σ 0 23 ((gI σ 0 23) + ((v3 >>> (v4 &&& 31)) &&& (1 : Int32)))) 0 24 ((gI (pI σ 0 23 ((gI σ 0 23) + ((v3 >>> (v4 &&& 31)) &&& (1 : Int32)))) 0 24) + ((1 : Int32) - ((v3 >>> (v4 &&& 31)) &&& (1 : Int32))))) 0 25)) (C := RX6) (T := TX6) (N := 29) hx hb hts in_X6 hown hK hP 0 (wl_at (by decide) cX6) rfl 25 (by decide) (hts (.fieldLink RX6 182 "TillOneOfSortModel" "lastRun" "I") (by decide +kernel)) (fun _ h9 => h9) rfl dX6_stopOf_64 ?_
          refine lv_iconst (v := (1 : Int32)) hx hb dX6_stopOf_67 (by decide) ?_
          refine lv_iadd hx hb dX6_stopOf_68 ?_
          refine lv_goto (tgt := 73) hx hb dX6_stopOf_69 (by decide) ?_
          exact j_73 v1 v2 v3 v4 ((gI (pI (pI σ 0 23 ((gI σ 0 23) + ((v3 >>> (v4 &&& 31)) &&& (1 : Int32)))) 0 24 ((gI (pI σ 0 23 ((gI σ 0 23) + ((v3 >>> (v4 &&& 31)) &&& (1 : Int32)))) 0 24) + ((1 : Int32) - ((v3 >>> (v4 &&& 31)) &&& (1 : Int32))))) 0 25) + (1 : Int32)) (pI (pI σ 0 23 ((gI σ 0 23) + ((v3 >>> (v4 &&& 31)) &&& (1 : Int32)))) 0 24 ((gI (pI σ 0 23 ((gI σ 0 23) + ((v3 >>> (v4 &&& 31)) &&& (1 : Int32)))) 0 24) + ((1 : Int32) - ((v3 >>> (v4 &&& 31)) &&& (1 : Int32))))) _ _ _ hP hS (lv_sub hl [1, 2, 3, 4, 5] rfl) hf
  refine lv_aload_n hx hb dX6_stopOf_0 rfl (lv_at hl 0 rfl) ?_
  refine lv_iconst (v := (0 : Int32)) hx hb dX6_stopOf_1 (by decide) ?_
  refine va_put (D := z.1) (ci := 6) (v := .int (0 : Int32)) (ty := .int) (C := RX6) (T := TX6) (N := 29) hx hb hts in_X6 tyX6 tyX6_ok nmX6 hown hK hP (wl_D hz _) hS 0 (wl_at (by decide) cX6) rfl 23 (by decide) (hts (.fieldLink RX6 176 "TillOneOfSortModel" "lastOnes" "I") (by decide +kernel)) (fun _ h9 => h9) rfl (by decide +kernel) rfl rfl (Nat.le_of_ble_eq_true rfl) dX6_stopOf_2 (fun H locs hP _ hS => ?_)
  rw [sX6I (by decide)] at hP
  refine lv_aload_n hx hb dX6_stopOf_5 rfl (lv_at hl 0 rfl) ?_
  refine lv_iconst (v := (0 : Int32)) hx hb dX6_stopOf_6 (by decide) ?_
  refine va_put (D := z.1) (ci := 6) (v := .int (0 : Int32)) (ty := .int) (C := RX6) (T := TX6) (N := 29) hx hb hts in_X6 tyX6 tyX6_ok nmX6 hown hK hP (wl_D hz _) hS 0 (wl_at (by decide) cX6) rfl 24 (by decide) (hts (.fieldLink RX6 179 "TillOneOfSortModel" "lastZeros" "I") (by decide +kernel)) (fun _ h9 => h9) rfl (by decide +kernel) rfl rfl (Nat.le_of_ble_eq_true rfl) dX6_stopOf_7 (fun H locs hP _ hS => ?_)
  rw [sX6I (by decide)] at hP
  refine lv_aload_n hx hb dX6_stopOf_10 rfl (lv_at hl 0 rfl) ?_
  refine lv_iconst (v := (0 : Int32)) hx hb dX6_stopOf_11 (by decide) ?_
  refine va_put (D := z.1) (ci := 6) (v := .int (0 : Int32)) (ty := .int) (C := RX6) (T := TX6) (N := 29) hx hb hts in_X6 tyX6 tyX6_ok nmX6 hown hK hP (wl_D hz _) hS 0 (wl_at (by decide) cX6) rfl 25 (by decide) (hts (.fieldLink RX6 182 "TillOneOfSortModel" "lastRun" "I") (by decide +kernel)) (fun _ h9 => h9) rfl (by decide +kernel) rfl rfl (Nat.le_of_ble_eq_true rfl) dX6_stopOf_12 (fun H locs hP _ hS => ?_)
  rw [sX6I (by decide)] at hP
  refine lv_iconst (v := (0 : Int32)) hx hb dX6_stopOf_15 (by decide) ?_
  refine lv_istore (lv' := [(4, .int (0 : Int32)), (0, .ref (z.2.1 0)), (1, .int a0), (2, .int a1), (3, .int a2)]) hx hb dX6_stopOf_16 hl (by decide) rfl (fun ls hl => ?_)
  exact L_18 1000 a0 a1 a2 (0 : Int32) (pI (pI (pI σ 0 23 (0 : Int32)) 0 24 (0 : Int32)) 0 25 (0 : Int32)) _ _ _ hP hS (lv_sub hl [1, 2, 3, 4, 0] rfl) hf
set_option maxHeartbeats 40000000 in
set_option maxRecDepth 100000 in
theorem kX6_row (l : Launch) (z : Cx) (hz : okC 8 z) {a0 : Int32}  {σ σ' : Mm} {r : Int32} (hf : fX6_row a0 σ = some (r, σ')) : KG 8 ceM l yX6_row wsX6_row (1) (21) [.ref (z.2.1 0), .int a0] z σ σ' (some (.int r)) := by
  rw [fX6_row] at hf
  refine Met.ofW (cc := cX6_row) (maxL := 3) (ret := (some .int)) (by decide) rfl ?_
  intro p e s m args below meth c s₁ B hml hv
  obtain ⟨rfl, hP, hK, hE⟩ := hv
  have hx := B.exec
  have hb := B.bytes
  have hr := B.returns
  have hts := atoms_spec (ws := wsX6_row) B.pre
  have hown : s.vm.findClass RX6 = some m.cls := findClass_of_methodNamed B.named
  have hlocks := B.notSynchronized
  have in_X6 : ∀ w ∈ wsX60, w ∈ wsX6_row := by decide +kernel
  have hS : va_S (aG 8 z) s.heap s.heap [] := va_S.rf
  have hl := lv_entry ([.ref (z.2.1 0), .int a0]) (n := 3) (Nat.le_of_ble_eq_true rfl)
  rw [lg_entry_eq]
  generalize (lg_sl ([.ref (z.2.1 0), .int a0]) ++ List.replicate (3 - (lg_sl ([.ref (z.2.1 0), .int a0])).length) Slot.unset).toArray = ls at hl ⊢
  have hl : lv_has ls 3 [(0, .ref (z.2.1 0)), (1, .int a0)] := hl
  have j_28 : ∀ (v1 : Int32) (t0 : Int32) (σ : Mm) (H : Heap) (locs : List Loc) (ls : Array Slot), va_P z.1 vwCl (wl 8 z.2.1 (ceM z σ)) H → va_S (aG 8 z) s.heap H locs → lv_has ls 3 [(0, .ref (z.2.1 0)), (1, .int v1)] → fX6_row_28 v1 t0 σ = some (r, σ') → W p l e (headSpec wsX6_row ({ frames := 1, cells := 0, slots := 0, locals := 21 })).room s m ([.ref (z.2.1 0), .int a0] : List Value).toArray below meth c H locs 0 0 (MQ below (qcG 8 ceM z σ' (some (.int r))) ([.ref (z.2.1 0), .int a0] : List Value).toArray s 0 0 (aG 8 z)) (F0 m 28 ls [.int t0]) := by
    intro v1 t0 σ H locs ls hP hS hl hf
    rw [fX6_row_28] at hf
    refine lv_istore_n (lv' := [(2, .int t0), (0, .ref (z.2.1 0)), (1, .int v1)]) hx hb dX6_row_28 rfl hl (by decide) rfl (fun ls hl => ?_)
    refine lv_iload_n hx hb dX6_row_29 rfl (lv_at hl 0 rfl) ?_
    refine lv_if_eq (tgt := 39) hx hb dX6_row_30 (by decide) (fun c_4 => ?_) (fun c_4 => ?_)
    · have hf := (if_pos c_4).symm.trans hf
      refine lv_aload_n hx hb dX6_row_39 rfl (lv_at hl 1 rfl) ?_
      refine lv_aload_n hx hb dX6_row_40 rfl (lv_at hl 1 rfl) ?_
      refine va_get (D := z.1) (ci := 6) (v := .int (gI σ 0 27)) (C := RX6) (T := TX6) (N := 29) hx hb hts in_X6 hown hK hP 0 (wl_at (by decide) cX6) rfl 27 (by decide) (hts (.fieldLink RX6 188 "TillOneOfSortModel" "rowSorts" "I") (by decide +kernel)) (fun _ h9 => h9) rfl dX6_row_41 ?_
      refine lv_iconst (v := (1 : Int32)) hx hb dX6_row_44 (by decide) ?_
      refine lv_aload_n hx hb dX6_row_45 rfl (lv_at hl 1 rfl) ?_
      refine va_get (D := z.1) (ci := 6) (v := .int (gI σ 0 26)) (C := RX6) (T := TX6) (N := 29) hx hb hts in_X6 hown hK hP 0 (wl_at (by decide) cX6) rfl 26 (by decide) (hts (.fieldLink RX6 185 "TillOneOfSortModel" "rowed" "I") (by decide +kernel)) (fun _ h9 => h9) rfl dX6_row_46 ?_
      refine lv_ishl hx hb dX6_row_49 ?_
      refine lv_iconst (v := (1 : Int32)) hx hb dX6_row_50 (by decide) ?_
      refine lv_isub hx hb dX6_row_51 ?_
      refine lv_iand hx hb dX6_row_52 ?_
      refine lv_iload_n hx hb dX6_row_53 rfl (lv_at hl 2 rfl) ?_
      refine lv_aload_n hx hb dX6_row_54 rfl (lv_at hl 1 rfl) ?_
      refine va_get (D := z.1) (ci := 6) (v := .int (gI σ 0 26)) (C := RX6) (T := TX6) (N := 29) hx hb hts in_X6 hown hK hP 0 (wl_at (by decide) cX6) rfl 26 (by decide) (hts (.fieldLink RX6 185 "TillOneOfSortModel" "rowed" "I") (by decide +kernel)) (fun _ h9 => h9) rfl dX6_row_55 ?_
      refine lv_ishl hx hb dX6_row_58 ?_
      refine lv_ior hx hb dX6_row_59 ?_
      refine va_put (D := z.1) (ci := 6) (v := .int (((gI σ 0 27) &&& (((1 : Int32) <<< ((gI σ 0 26) &&& 31)) - (1 : Int32))) ||| (v1 <<< ((gI σ 0 26) &&& 31)))) (ty := .int) (C := RX6) (T := TX6) (N := 29) hx hb hts in_X6 tyX6 tyX6_ok nmX6 hown hK hP (wl_D hz _) hS 0 (wl_at (by decide) cX6) rfl 27 (by decide) (hts (.fieldLink RX6 188 "TillOneOfSortModel" "rowSorts" "I") (by decide +kernel)) (fun _ h9 => h9) rfl (by decide +kernel) rfl rfl (Nat.le_of_ble_eq_true rfl) dX6_row_60 (fun H locs hP _ hS => ?_)
      rw [sX6I (by decide)] at hP
      refine lv_aload_n hx hb dX6_row_63 rfl (lv_at hl 1 rfl) ?_
      refine lv_dup hx hb dX6_row_64 rfl ?_
      refine va_get (D := z.1) (ci := 6) (v := .int (gI (pI σ 0 27 (((gI σ 0 27) &&& (((1 : Int32) <<< ((gI σ 0 26) &&& 31)) - (1 : Int32))) ||| (v1 <<< ((gI σ 0 26) &&& 31)))) 0 26)) (C := RX6) (T := TX6) (N := 29) hx hb hts in_X6 hown hK hP 0 (wl_at (by decide) cX6) rfl 26 (by decide) (hts (.fieldLink RX6 185 "TillOneOfSortModel" "rowed" "I") (by decide +kernel)) (fun _ h9 => h9) rfl dX6_row_65 ?_
      refine lv_iconst (v := (1 : Int32)) hx hb dX6_row_68 (by decide) ?_
      refine lv_iadd hx hb dX6_row_69 ?_
      refine va_put (D := z.1) (ci := 6) (v := .int ((gI (pI σ 0 27 (((gI σ 0 27) &&& (((1 : Int32) <<< ((gI σ 0 26) &&& 31)) - (1 : Int32))) ||| (v1 <<< ((gI σ 0 26) &&& 31)))) 0 26) + (1 : Int32))) (ty := .int) (C := RX6) (T := TX6) (N := 29) hx hb hts in_X6 tyX6 tyX6_ok nmX6 hown hK hP (wl_D hz _) hS 0 (wl_at (by decide) cX6) rfl 26 (by decide) (hts (.fieldLink RX6 185 "TillOneOfSortModel" "rowed" "I") (by decide +kernel)) (fun _ h9 => h9) rfl (by decide +kernel) rfl rfl (Nat.le_of_ble_eq_true rfl) dX6_row_70 (fun H locs hP _ hS => ?_)
      rw [sX6I (by decide)] at hP
      refine lv_aload_n hx hb dX6_row_73 rfl (lv_at hl 1 rfl) ?_
      refine va_get (D := z.1) (ci := 6) (v := .int (gI (pI (pI σ 0 27 (((gI σ 0 27) &&& (((1 : Int32) <<< ((gI σ 0 26) &&& 31)) - (1 : Int32))) ||| (v1 <<< ((gI σ 0 26) &&& 31)))) 0 26 ((gI (pI σ 0 27 (((gI σ 0 27) &&& (((1 : Int32) <<< ((gI σ 0 26) &&& 31)) - (1 : Int32))) ||| (v1 <<< ((gI σ 0 26) &&& 31)))) 0 26) + (1 : Int32))) 0 26)) (C := RX6) (T := TX6) (N := 29) hx hb hts in_X6 hown hK hP 0 (wl_at (by decide) cX6) rfl 26 (by decide) (hts (.fieldLink RX6 185 "TillOneOfSortModel" "rowed" "I") (by decide +kernel)) (fun _ h9 => h9) rfl dX6_row_74 ?_
      exact x_iret hx hb hr hlocks hP hS dX6_row_77 (Prod.mk.inj (Option.some.inj hf)).1 (Prod.mk.inj (Option.some.inj hf)).2
    · have hf := (if_neg c_4).symm.trans hf
      refine lv_aload_n hx hb dX6_row_33 rfl (lv_at hl 1 rfl) ?_
      refine lv_iload_n hx hb dX6_row_34 rfl (lv_at hl 0 rfl) ?_
      obtain ⟨q_5, hq_5, hf⟩ := x_bd hf
      refine x_callGi (va_runV (As := [.int t0]) (rest := []) ⟨hx, hb, hml, hown, hts⟩ (kX6_refuse l z hz hq_5) (cwV 1 hts gX6_row_X6_refuse rfl rfl rfl (by decide +kernel) ⟨Nat.le_of_ble_eq_true rfl, Nat.le_of_ble_eq_true rfl⟩) (pvG hK hP hE hS (va_recv hK hP (ci := 6) (q0 := 0) rfl (wl_at (by decide) cX6))) rfl rfl hl.1 rfl (lv_room (Nat.le_of_ble_eq_true rfl)) dX6_row_35 ⟨Nat.zero_le _, Nat.zero_le _⟩) hS (fun H locs hP hS => ?_)
      exact x_iret hx hb hr hlocks hP hS dX6_row_38 (Prod.mk.inj (Option.some.inj hf)).1 (Prod.mk.inj (Option.some.inj hf)).2
  refine lv_iload_n hx hb dX6_row_0 rfl (lv_at hl 1 rfl) ?_
  refine lv_iconst (v := (2 : Int32)) hx hb dX6_row_1 (by decide) ?_
  obtain ⟨q_1001, hq_1001, hf⟩ := x_bd hf
  refine x_callSi (va_runS (As := [.int a0, .int (2 : Int32)]) (rest := []) ⟨hx, hb, hml, hown, hts⟩ (kX6_isIn l hq_1001) (va_cwS 2 hts gX6_row_X6_isIn rfl rfl rfl (by decide +kernel) ⟨Nat.le_of_ble_eq_true rfl, Nat.le_of_ble_eq_true rfl⟩) psS rfl rfl hl.1 rfl (lv_room (Nat.le_of_ble_eq_true rfl)) dX6_row_2 ⟨Nat.zero_le _, Nat.zero_le _⟩) ?_
  refine lv_if_ne (tgt := 13) hx hb dX6_row_5 (by decide) (fun c_1002 => ?_) (fun c_1002 => ?_)
  · have hf := (if_neg c_1002).symm.trans hf
    refine lv_aload_n hx hb dX6_row_13 rfl (lv_at hl 0 rfl) ?_
    refine va_get (D := z.1) (ci := 6) (v := .int (gI σ 0 26)) (C := RX6) (T := TX6) (N := 29) hx hb hts in_X6 hown hK hP 0 (wl_at (by decide) cX6) rfl 26 (by decide) (hts (.fieldLink RX6 185 "TillOneOfSortModel" "rowed" "I") (by decide +kernel)) (fun _ h9 => h9) rfl dX6_row_14 ?_
    refine lv_bipush (v := (10 : Int32)) hx hb dX6_row_17 (by decide) ?_
    refine lv_icmp_ne (tgt := 27) hx hb dX6_row_19 (by decide) (fun c_1003 => ?_) (fun c_1003 => ?_)
    · have hf := (if_neg c_1003).symm.trans hf
      refine lv_iconst (v := (0 : Int32)) hx hb dX6_row_27 (by decide) ?_
      exact j_28 a0 (0 : Int32) σ _ _ _ hP hS (lv_sub hl [0, 1] rfl) hf
    · have hf := (if_pos c_1003).symm.trans hf
      refine lv_bipush (v := (-6 : Int32)) hx hb dX6_row_22 (by decide) ?_
      refine lv_goto (tgt := 28) hx hb dX6_row_24 (by decide) ?_
      exact j_28 a0 (-6 : Int32) σ _ _ _ hP hS (lv_sub hl [0, 1] rfl) hf
  · have hf := (if_pos c_1002).symm.trans hf
    refine lv_bipush (v := (-2 : Int32)) hx hb dX6_row_8 (by decide) ?_
    refine lv_goto (tgt := 28) hx hb dX6_row_10 (by decide) ?_
    exact j_28 a0 (-2 : Int32) σ _ _ _ hP hS (lv_sub hl [0, 1] rfl) hf
set_option maxHeartbeats 40000000 in
set_option maxRecDepth 100000 in
theorem kX6_gone (l : Launch) (z : Cx) (hz : okC 8 z) {a0 : Int32}  {σ σ' : Mm} {r : Int64} (hf : fX6_gone a0 σ = some (r, σ')) : KG 8 ceM l yX6_gone wsX6_gone (202) (4649) [.ref (z.2.1 0), .int a0] z σ σ' (some (.long r)) := by
  rw [fX6_gone] at hf
  refine Met.ofW (cc := cX6_gone) (maxL := 5) (ret := (some .long)) (by decide) rfl ?_
  intro p e s m args below meth c s₁ B hml hv
  obtain ⟨rfl, hP, hK, hE⟩ := hv
  have hx := B.exec
  have hb := B.bytes
  have hr := B.returns
  have hts := atoms_spec (ws := wsX6_gone) B.pre
  have hown : s.vm.findClass RX6 = some m.cls := findClass_of_methodNamed B.named
  have hlocks := B.notSynchronized
  have in_X6 : ∀ w ∈ wsX60, w ∈ wsX6_gone := by decide +kernel
  have hS : va_S (aG 8 z) s.heap s.heap [] := va_S.rf
  have hl := lv_entry ([.ref (z.2.1 0), .int a0]) (n := 5) (Nat.le_of_ble_eq_true rfl)
  rw [lg_entry_eq]
  generalize (lg_sl ([.ref (z.2.1 0), .int a0]) ++ List.replicate (5 - (lg_sl ([.ref (z.2.1 0), .int a0])).length) Slot.unset).toArray = ls at hl ⊢
  have hl : lv_has ls 5 [(0, .ref (z.2.1 0)), (1, .int a0)] := hl
  have j_142 : ∀ (v1 : Int32) (t0 : Int64) (t1 : Int64) (σ : Mm) (H : Heap) (locs : List Loc) (ls : Array Slot), va_P z.1 vwCl (wl 8 z.2.1 (ceM z σ)) H → va_S (aG 8 z) s.heap H locs → lv_has ls 5 [(1, .int v1)] → fX6_gone_142 v1 t0 t1 σ = some (r, σ') → W p l e (headSpec wsX6_gone ({ frames := 202, cells := 0, slots := 0, locals := 4649 })).room s m ([.ref (z.2.1 0), .int a0] : List Value).toArray below meth c H locs 0 0 (MQ below (qcG 8 ceM z σ' (some (.long r))) ([.ref (z.2.1 0), .int a0] : List Value).toArray s 0 0 (aG 8 z)) (F0 m 142 ls [.long t0, .long t1]) := by
    intro v1 t0 t1 σ H locs ls hP hS hl hf
    rw [fX6_gone_142] at hf
    refine lv_ladd hx hb dX6_gone_142 ?_
    refine lv_lstore_n (lv' := [(3, .long (t1 + t0)), (1, .int v1)]) hx hb dX6_gone_143 rfl hl (by decide) rfl (fun ls hl => ?_)
    refine lv_lload_n hx hb dX6_gone_144 rfl (lv_at hl 0 rfl) ?_
    refine lv_ldc2 (v := (12 : Int64)) hx hb hown (hts (.constantLong RX6 142 (12 : Int64)) (by decide +kernel)) dX6_gone_145 ?_
    refine lv_iload_n hx hb dX6_gone_148 rfl (lv_at hl 1 rfl) ?_
    obtain ⟨q_9, hq_9, hf⟩ := x_bd hf
    refine x_callSl (va_runS (As := [.long (t1 + t0), .long (12 : Int64), .int v1]) (rest := []) ⟨hx, hb, hml, hown, hts⟩ (kX6_part l hq_9) (va_cwS 3 hts gX6_gone_X6_part rfl rfl rfl (by decide +kernel) ⟨Nat.le_of_ble_eq_true rfl, Nat.le_of_ble_eq_true rfl⟩) psS rfl rfl hl.1 rfl (lv_room (Nat.le_of_ble_eq_true rfl)) dX6_gone_149 ⟨Nat.zero_le _, Nat.zero_le _⟩) ?_
    exact x_lret hx hb hr hlocks hP hS dX6_gone_152 (Prod.mk.inj (Option.some.inj hf)).1 (Prod.mk.inj (Option.some.inj hf)).2
  have j_107 : ∀ (v1 : Int32) (v2 : Int32) (t0 : Int64) (σ : Mm) (H : Heap) (locs : List Loc) (ls : Array Slot), va_P z.1 vwCl (wl 8 z.2.1 (ceM z σ)) H → va_S (aG 8 z) s.heap H locs → lv_has ls 5 [(0, .ref (z.2.1 0)), (1, .int v1), (2, .int v2)] → fX6_gone_107 v1 v2 t0 σ = some (r, σ') → W p l e (headSpec wsX6_gone ({ frames := 202, cells := 0, slots := 0, locals := 4649 })).room s m ([.ref (z.2.1 0), .int a0] : List Value).toArray below meth c H locs 0 0 (MQ below (qcG 8 ceM z σ' (some (.long r))) ([.ref (z.2.1 0), .int a0] : List Value).toArray s 0 0 (aG 8 z)) (F0 m 107 ls [.long t0]) := by
    intro v1 v2 t0 σ H locs ls hP hS hl hf
    rw [fX6_gone_107] at hf
    refine lv_lstore_n (lv' := [(3, .long t0), (0, .ref (z.2.1 0)), (1, .int v1), (2, .int v2)]) hx hb dX6_gone_107 rfl hl (by decide) rfl (fun ls hl => ?_)
    refine lv_lload_n hx hb dX6_gone_108 rfl (lv_at hl 0 rfl) ?_
    refine lv_aload_n hx hb dX6_gone_109 rfl (lv_at hl 1 rfl) ?_
    refine lv_aload_n hx hb dX6_gone_110 rfl (lv_at hl 1 rfl) ?_
    refine va_get (D := z.1) (ci := 6) (v := .ref (z.2.1 2)) (C := RX6) (T := TX6) (N := 29) hx hb hts in_X6 hown hK hP 0 (wl_at (by decide) cX6) rfl 1 (by decide) (hts (.fieldLink RX6 13 "TillOneOfSortModel" "s" "[I") (by decide +kernel)) (fun _ h9 => h9) rfl dX6_gone_111 ?_
    refine lv_iconst (v := (3 : Int32)) hx hb dX6_gone_114 (by decide) ?_
    obtain ⟨c_10, hf⟩ := x_ck hf
    refine va_iald hx hb hK hP 2 0 (wl_at (i22_lt (rfl : isI22 2 = true)) (cMI22 (rfl : isI22 2 = true))) rfl (ci_in c_10) dX6_gone_115 ?_
    refine lv_aload_n hx hb dX6_gone_116 rfl (lv_at hl 1 rfl) ?_
    refine va_get (D := z.1) (ci := 6) (v := .int (gI σ 0 23)) (C := RX6) (T := TX6) (N := 29) hx hb hts in_X6 hown hK hP 0 (wl_at (by decide) cX6) rfl 23 (by decide) (hts (.fieldLink RX6 176 "TillOneOfSortModel" "lastOnes" "I") (by decide +kernel)) (fun _ h9 => h9) rfl dX6_gone_117 ?_
    refine lv_aload_n hx hb dX6_gone_120 rfl (lv_at hl 1 rfl) ?_
    refine va_get (D := z.1) (ci := 6) (v := .int (gI σ 0 24)) (C := RX6) (T := TX6) (N := 29) hx hb hts in_X6 hown hK hP 0 (wl_at (by decide) cX6) rfl 24 (by decide) (hts (.fieldLink RX6 179 "TillOneOfSortModel" "lastZeros" "I") (by decide +kernel)) (fun _ h9 => h9) rfl dX6_gone_121 ?_
    refine lv_iconst (v := (1 : Int32)) hx hb dX6_gone_124 (by decide) ?_
    refine lv_iadd hx hb dX6_gone_125 ?_
    refine lv_iconst (v := (0 : Int32)) hx hb dX6_gone_126 (by decide) ?_
    obtain ⟨q_11, hq_11, hf⟩ := x_bd hf
    refine x_callGi (va_runV (As := [.int (gI σ 2 (3 : Int32).toNatClampNeg), .int (gI σ 0 23), .int ((gI σ 0 24) + (1 : Int32)), .int (0 : Int32)]) (rest := [.long t0]) ⟨hx, hb, hml, hown, hts⟩ (kX6_endsBy l z hz hq_11) (cwV 4 hts gX6_gone_X6_endsBy rfl rfl rfl (by decide +kernel) ⟨Nat.le_of_ble_eq_true rfl, Nat.le_of_ble_eq_true rfl⟩) (pvG hK hP hE hS (va_recv hK hP (ci := 6) (q0 := 0) rfl (wl_at (by decide) cX6))) rfl rfl hl.1 rfl (lv_room (Nat.le_of_ble_eq_true rfl)) dX6_gone_127 ⟨Nat.zero_le _, Nat.zero_le _⟩) hS (fun H locs hP hS => ?_)
    refine lv_if_eq (tgt := 141) hx hb dX6_gone_130 (by decide) (fun c_12 => ?_) (fun c_12 => ?_)
    · have hf := (if_pos c_12).symm.trans hf
      refine lv_lconst (v := (0 : Int64)) hx hb dX6_gone_141 rfl ?_
      exact j_142 v1 (0 : Int64) t0 σ _ _ _ hP hS (lv_sub hl [2] rfl) hf
    · have hf := (if_neg c_12).symm.trans hf
      refine lv_bipush (v := (12 : Int32)) hx hb dX6_gone_133 (by decide) ?_
      refine lv_iload_n hx hb dX6_gone_135 rfl (lv_at hl 3 rfl) ?_
      refine lv_isub hx hb dX6_gone_136 ?_
      refine lv_i2l (v := ((12 : Int32) - v2).toInt64) hx hb dX6_gone_137 rfl ?_
      refine lv_goto (tgt := 142) hx hb dX6_gone_138 (by decide) ?_
      exact j_142 v1 (((12 : Int32) - v2).toInt64) t0 σ _ _ _ hP hS (lv_sub hl [2] rfl) hf
  have j_68 : ∀ (v1 : Int32) (t0 : Int32) (σ : Mm) (H : Heap) (locs : List Loc) (ls : Array Slot), va_P z.1 vwCl (wl 8 z.2.1 (ceM z σ)) H → va_S (aG 8 z) s.heap H locs → lv_has ls 5 [(0, .ref (z.2.1 0)), (1, .int v1)] → fX6_gone_68 v1 t0 σ = some (r, σ') → W p l e (headSpec wsX6_gone ({ frames := 202, cells := 0, slots := 0, locals := 4649 })).room s m ([.ref (z.2.1 0), .int a0] : List Value).toArray below meth c H locs 0 0 (MQ below (qcG 8 ceM z σ' (some (.long r))) ([.ref (z.2.1 0), .int a0] : List Value).toArray s 0 0 (aG 8 z)) (F0 m 68 ls [.int t0, .ref (z.2.1 0)]) := by
    intro v1 t0 σ H locs ls hP hS hl hf
    rw [fX6_gone_68] at hf
    obtain ⟨q_13, hq_13, hf⟩ := x_bd hf
    refine x_callGi (va_runV (As := [.int t0]) (rest := []) ⟨hx, hb, hml, hown, hts⟩ (kX6_twelfths l z hz hq_13) (cwV 1 hts gX6_gone_X6_twelfths rfl rfl rfl (by decide +kernel) ⟨Nat.le_of_ble_eq_true rfl, Nat.le_of_ble_eq_true rfl⟩) (pvG hK hP hE hS (va_recv hK hP (ci := 6) (q0 := 0) rfl (wl_at (by decide) cX6))) rfl rfl hl.1 rfl (lv_room (Nat.le_of_ble_eq_true rfl)) dX6_gone_68 ⟨Nat.zero_le _, Nat.zero_le _⟩) hS (fun H locs hP hS => ?_)
    refine lv_istore_n (lv' := [(2, .int q_13), (0, .ref (z.2.1 0)), (1, .int v1)]) hx hb dX6_gone_71 rfl hl (by decide) rfl (fun ls hl => ?_)
    refine lv_aload_n hx hb dX6_gone_72 rfl (lv_at hl 1 rfl) ?_
    refine lv_aload_n hx hb dX6_gone_73 rfl (lv_at hl 1 rfl) ?_
    refine va_get (D := z.1) (ci := 6) (v := .ref (z.2.1 2)) (C := RX6) (T := TX6) (N := 29) hx hb hts in_X6 hown hK hP 0 (wl_at (by decide) cX6) rfl 1 (by decide) (hts (.fieldLink RX6 13 "TillOneOfSortModel" "s" "[I") (by decide +kernel)) (fun _ h9 => h9) rfl dX6_gone_74 ?_
    refine lv_iconst (v := (3 : Int32)) hx hb dX6_gone_77 (by decide) ?_
    obtain ⟨c_14, hf⟩ := x_ck hf
    refine va_iald hx hb hK hP 2 0 (wl_at (i22_lt (rfl : isI22 2 = true)) (cMI22 (rfl : isI22 2 = true))) rfl (ci_in c_14) dX6_gone_78 ?_
    refine lv_aload_n hx hb dX6_gone_79 rfl (lv_at hl 1 rfl) ?_
    refine va_get (D := z.1) (ci := 6) (v := .int (gI σ 0 23)) (C := RX6) (T := TX6) (N := 29) hx hb hts in_X6 hown hK hP 0 (wl_at (by decide) cX6) rfl 23 (by decide) (hts (.fieldLink RX6 176 "TillOneOfSortModel" "lastOnes" "I") (by decide +kernel)) (fun _ h9 => h9) rfl dX6_gone_80 ?_
    refine lv_iconst (v := (1 : Int32)) hx hb dX6_gone_83 (by decide) ?_
    refine lv_iadd hx hb dX6_gone_84 ?_
    refine lv_aload_n hx hb dX6_gone_85 rfl (lv_at hl 1 rfl) ?_
    refine va_get (D := z.1) (ci := 6) (v := .int (gI σ 0 24)) (C := RX6) (T := TX6) (N := 29) hx hb hts in_X6 hown hK hP 0 (wl_at (by decide) cX6) rfl 24 (by decide) (hts (.fieldLink RX6 179 "TillOneOfSortModel" "lastZeros" "I") (by decide +kernel)) (fun _ h9 => h9) rfl dX6_gone_86 ?_
    refine lv_aload_n hx hb dX6_gone_89 rfl (lv_at hl 1 rfl) ?_
    refine va_get (D := z.1) (ci := 6) (v := .int (gI σ 0 25)) (C := RX6) (T := TX6) (N := 29) hx hb hts in_X6 hown hK hP 0 (wl_at (by decide) cX6) rfl 25 (by decide) (hts (.fieldLink RX6 182 "TillOneOfSortModel" "lastRun" "I") (by decide +kernel)) (fun _ h9 => h9) rfl dX6_gone_90 ?_
    refine lv_iconst (v := (1 : Int32)) hx hb dX6_gone_93 (by decide) ?_
    refine lv_iadd hx hb dX6_gone_94 ?_
    obtain ⟨q_15, hq_15, hf⟩ := x_bd hf
    refine x_callGi (va_runV (As := [.int (gI σ 2 (3 : Int32).toNatClampNeg), .int ((gI σ 0 23) + (1 : Int32)), .int (gI σ 0 24), .int ((gI σ 0 25) + (1 : Int32))]) (rest := []) ⟨hx, hb, hml, hown, hts⟩ (kX6_endsBy l z hz hq_15) (cwV 4 hts gX6_gone_X6_endsBy rfl rfl rfl (by decide +kernel) ⟨Nat.le_of_ble_eq_true rfl, Nat.le_of_ble_eq_true rfl⟩) (pvG hK hP hE hS (va_recv hK hP (ci := 6) (q0 := 0) rfl (wl_at (by decide) cX6))) rfl rfl hl.1 rfl (lv_room (Nat.le_of_ble_eq_true rfl)) dX6_gone_95 ⟨Nat.zero_le _, Nat.zero_le _⟩) hS (fun H locs hP hS => ?_)
    refine lv_if_eq (tgt := 106) hx hb dX6_gone_98 (by decide) (fun c_16 => ?_) (fun c_16 => ?_)
    · have hf := (if_pos c_16).symm.trans hf
      refine lv_lconst (v := (0 : Int64)) hx hb dX6_gone_106 rfl ?_
      exact j_107 v1 q_13 (0 : Int64) σ _ _ _ hP hS (lv_sub hl [1, 2, 0] rfl) hf
    · have hf := (if_neg c_16).symm.trans hf
      refine lv_iload_n hx hb dX6_gone_101 rfl (lv_at hl 0 rfl) ?_
      refine lv_i2l (v := q_13.toInt64) hx hb dX6_gone_102 rfl ?_
      refine lv_goto (tgt := 107) hx hb dX6_gone_103 (by decide) ?_
      exact j_107 v1 q_13 (q_13.toInt64) σ _ _ _ hP hS (lv_sub hl [1, 2, 0] rfl) hf
  refine lv_iload_n hx hb dX6_gone_0 rfl (lv_at hl 1 rfl) ?_
  obtain ⟨q_1001, hq_1001, hf⟩ := x_bd hf
  refine x_callSi (va_runS (As := [.int a0]) (rest := []) ⟨hx, hb, hml, hown, hts⟩ (kX6_isPart l hq_1001) (va_cwS 1 hts gX6_gone_X6_isPart rfl rfl rfl (by decide +kernel) ⟨Nat.le_of_ble_eq_true rfl, Nat.le_of_ble_eq_true rfl⟩) psS rfl rfl hl.1 rfl (lv_room (Nat.le_of_ble_eq_true rfl)) dX6_gone_1 ⟨Nat.zero_le _, Nat.zero_le _⟩) ?_
  refine lv_if_ne (tgt := 14) hx hb dX6_gone_4 (by decide) (fun c_1002 => ?_) (fun c_1002 => ?_)
  · have hf := (if_neg c_1002).symm.trans hf
    refine lv_aload_n hx hb dX6_gone_14 rfl (lv_at hl 0 rfl) ?_
    refine lv_aload_n hx hb dX6_gone_15 rfl (lv_at hl 0 rfl) ?_
    refine va_get (D := z.1) (ci := 6) (v := .ref (z.2.1 2)) (C := RX6) (T := TX6) (N := 29) hx hb hts in_X6 hown hK hP 0 (wl_at (by decide) cX6) rfl 1 (by decide) (hts (.fieldLink RX6 13 "TillOneOfSortModel" "s" "[I") (by decide +kernel)) (fun _ h9 => h9) rfl dX6_gone_16 ?_
    refine lv_iconst (v := (3 : Int32)) hx hb dX6_gone_19 (by decide) ?_
    obtain ⟨c_1003, hf⟩ := x_ck hf
    refine va_iald hx hb hK hP 2 0 (wl_at (i22_lt (rfl : isI22 2 = true)) (cMI22 (rfl : isI22 2 = true))) rfl (ci_in c_1003) dX6_gone_20 ?_
    refine lv_aload_n hx hb dX6_gone_21 rfl (lv_at hl 0 rfl) ?_
    refine va_get (D := z.1) (ci := 6) (v := .int (gI σ 0 26)) (C := RX6) (T := TX6) (N := 29) hx hb hts in_X6 hown hK hP 0 (wl_at (by decide) cX6) rfl 26 (by decide) (hts (.fieldLink RX6 185 "TillOneOfSortModel" "rowed" "I") (by decide +kernel)) (fun _ h9 => h9) rfl dX6_gone_22 ?_
    refine lv_aload_n hx hb dX6_gone_25 rfl (lv_at hl 0 rfl) ?_
    refine va_get (D := z.1) (ci := 6) (v := .int (gI σ 0 27)) (C := RX6) (T := TX6) (N := 29) hx hb hts in_X6 hown hK hP 0 (wl_at (by decide) cX6) rfl 27 (by decide) (hts (.fieldLink RX6 188 "TillOneOfSortModel" "rowSorts" "I") (by decide +kernel)) (fun _ h9 => h9) rfl dX6_gone_26 ?_
    obtain ⟨q_1004, hq_1004, hf⟩ := x_bd hf
    refine x_callGi (va_runV (As := [.int (gI σ 2 (3 : Int32).toNatClampNeg), .int (gI σ 0 26), .int (gI σ 0 27)]) (rest := []) ⟨hx, hb, hml, hown, hts⟩ (kX6_stopOf l z hz hq_1004) (cwV 3 hts gX6_gone_X6_stopOf rfl rfl rfl (by decide +kernel) ⟨Nat.le_of_ble_eq_true rfl, Nat.le_of_ble_eq_true rfl⟩) (pvG hK hP hE hS (va_recv hK hP (ci := 6) (q0 := 0) rfl (wl_at (by decide) cX6))) rfl rfl hl.1 rfl (lv_room (Nat.le_of_ble_eq_true rfl)) dX6_gone_29 ⟨Nat.zero_le _, Nat.zero_le _⟩) hS (fun H locs hP hS => ?_)
    refine lv_if_le (tgt := 42) hx hb dX6_gone_32 (by decide) (fun c_1005 => ?_) (fun c_1005 => ?_)
    · have hf := (if_pos c_1005).symm.trans hf
      refine lv_aload_n hx hb dX6_gone_42 rfl (lv_at hl 0 rfl) ?_
      refine lv_aload_n hx hb dX6_gone_43 rfl (lv_at hl 0 rfl) ?_
      refine va_get (D := z.1) (ci := 6) (v := .int (gI q_1004.2 0 26)) (C := RX6) (T := TX6) (N := 29) hx hb hts in_X6 hown hK hP 0 (wl_at (by decide) cX6) rfl 26 (by decide) (hts (.fieldLink RX6 185 "TillOneOfSortModel" "rowed" "I") (by decide +kernel)) (fun _ h9 => h9) rfl dX6_gone_44 ?_
      refine lv_if_ne (tgt := 55) hx hb dX6_gone_47 (by decide) (fun c_1006 => ?_) (fun c_1006 => ?_)
      · have hf := (if_neg c_1006).symm.trans hf
        refine lv_aload_n hx hb dX6_gone_55 rfl (lv_at hl 0 rfl) ?_
        refine va_get (D := z.1) (ci := 6) (v := .int (gI q_1004.2 0 27)) (C := RX6) (T := TX6) (N := 29) hx hb hts in_X6 hown hK hP 0 (wl_at (by decide) cX6) rfl 27 (by decide) (hts (.fieldLink RX6 188 "TillOneOfSortModel" "rowSorts" "I") (by decide +kernel)) (fun _ h9 => h9) rfl dX6_gone_56 ?_
        refine lv_aload_n hx hb dX6_gone_59 rfl (lv_at hl 0 rfl) ?_
        refine va_get (D := z.1) (ci := 6) (v := .int (gI q_1004.2 0 26)) (C := RX6) (T := TX6) (N := 29) hx hb hts in_X6 hown hK hP 0 (wl_at (by decide) cX6) rfl 26 (by decide) (hts (.fieldLink RX6 185 "TillOneOfSortModel" "rowed" "I") (by decide +kernel)) (fun _ h9 => h9) rfl dX6_gone_60 ?_
        refine lv_iconst (v := (1 : Int32)) hx hb dX6_gone_63 (by decide) ?_
        refine lv_isub hx hb dX6_gone_64 ?_
        refine lv_ishr hx hb dX6_gone_65 ?_
        refine lv_iconst (v := (1 : Int32)) hx hb dX6_gone_66 (by decide) ?_
        refine lv_iand hx hb dX6_gone_67 ?_
        exact j_68 a0 (((gI q_1004.2 0 27) >>> (((gI q_1004.2 0 26) - (1 : Int32)) &&& 31)) &&& (1 : Int32)) q_1004.2 _ _ _ hP hS (lv_sub hl [0, 1] rfl) hf
      · have hf := (if_pos c_1006).symm.trans hf
        refine lv_bipush (v := (-9 : Int32)) hx hb dX6_gone_50 (by decide) ?_
        refine lv_goto (tgt := 68) hx hb dX6_gone_52 (by decide) ?_
        exact j_68 a0 (-9 : Int32) q_1004.2 _ _ _ hP hS (lv_sub hl [0, 1] rfl) hf
    · have hf := (if_neg c_1005).symm.trans hf
      refine lv_lconst (v := (0 : Int64)) hx hb dX6_gone_35 rfl ?_
      refine lv_lconst (v := (1 : Int64)) hx hb dX6_gone_36 rfl ?_
      refine lv_iload_n hx hb dX6_gone_37 rfl (lv_at hl 1 rfl) ?_
      obtain ⟨q_1007, hq_1007, hf⟩ := x_bd hf
      refine x_callSl (va_runS (As := [.long (0 : Int64), .long (1 : Int64), .int a0]) (rest := []) ⟨hx, hb, hml, hown, hts⟩ (kX6_part l hq_1007) (va_cwS 3 hts gX6_gone_X6_part rfl rfl rfl (by decide +kernel) ⟨Nat.le_of_ble_eq_true rfl, Nat.le_of_ble_eq_true rfl⟩) psS rfl rfl hl.1 rfl (lv_room (Nat.le_of_ble_eq_true rfl)) dX6_gone_38 ⟨Nat.zero_le _, Nat.zero_le _⟩) ?_
      exact x_lret hx hb hr hlocks hP hS dX6_gone_41 (Prod.mk.inj (Option.some.inj hf)).1 (Prod.mk.inj (Option.some.inj hf)).2
  · have hf := (if_pos c_1002).symm.trans hf
    refine lv_aload_n hx hb dX6_gone_7 rfl (lv_at hl 0 rfl) ?_
    refine lv_bipush (v := (-2 : Int32)) hx hb dX6_gone_8 (by decide) ?_
    obtain ⟨q_1008, hq_1008, hf⟩ := x_bd hf
    refine x_callGl (va_runV (As := [.int (-2 : Int32)]) (rest := []) ⟨hx, hb, hml, hown, hts⟩ (kX6_refuseWide l z hz hq_1008) (cwV 1 hts gX6_gone_X6_refuseWide rfl rfl rfl (by decide +kernel) ⟨Nat.le_of_ble_eq_true rfl, Nat.le_of_ble_eq_true rfl⟩) (pvG hK hP hE hS (va_recv hK hP (ci := 6) (q0 := 0) rfl (wl_at (by decide) cX6))) rfl rfl hl.1 rfl (lv_room (Nat.le_of_ble_eq_true rfl)) dX6_gone_10 ⟨Nat.zero_le _, Nat.zero_le _⟩) hS (fun H locs hP hS => ?_)
    exact x_lret hx hb hr hlocks hP hS dX6_gone_13 (Prod.mk.inj (Option.some.inj hf)).1 (Prod.mk.inj (Option.some.inj hf)).2
set_option maxHeartbeats 40000000 in
set_option maxRecDepth 100000 in
theorem kX6_isMore (l : Launch) : ∀ (n : Nat) {a0 : Int64} {a1 : Int64} {a2 : Int64} {a3 : Int64}  {r : Int32} , fX6_isMore n a0 a1 a2 a3 = some r → KS l yX6_isMore wsX6_isMore (n + 0) (35 * n + 0) [.long a0, .long a1, .long a2, .long a3] (some (.int r)) := by
  intro n
  induction n with
  | zero =>
    intro a0 a1 a2 a3 r hf
    rw [fX6_isMore] at hf
    cases hf
  | succ n ihr =>
    intro a0 a1 a2 a3 r hf
    rw [fX6_isMore] at hf
    refine Met.ofW (cc := cX6_isMore) (maxL := 16) (ret := (some .boolean)) (by decide) rfl ?_
    intro p e s m args below meth c s₁ B hml hv
    obtain ⟨rfl, -⟩ := hv
    have hx := B.exec
    have hb := B.bytes
    have hr := B.returns
    have hts := atoms_spec (ws := wsX6_isMore) B.pre
    have hown : s.vm.findClass RX6 = some m.cls := findClass_of_methodNamed B.named
    have hlocks := B.notSynchronized
    have hl := lv_entry ([.long a0, .long a1, .long a2, .long a3]) (n := 16) (Nat.le_of_ble_eq_true rfl)
    rw [lg_entry_eq]
    generalize (lg_sl ([.long a0, .long a1, .long a2, .long a3]) ++ List.replicate (16 - (lg_sl ([.long a0, .long a1, .long a2, .long a3])).length) Slot.unset).toArray = ls at hl ⊢
    have hl : lv_has ls 16 [(0, .long a0), (2, .long a1), (4, .long a2), (6, .long a3)] := hl
    have j_60 : ∀ (v12 : Int64) (ls : Array Slot), lv_has ls 16 [(12, .long v12)] → fX6_isMore_60 (fun wa0 wa1 wa2 wa3 => fX6_isMore n wa0 wa1 wa2 wa3) v12 = some r → W p l e (headSpec wsX6_isMore ({ frames := n + 1 + 0, cells := 0, slots := 0, locals := 35 * (n + 1) + 0 })).room s m ([.long a0, .long a1, .long a2, .long a3] : List Value).toArray below meth c s.heap [] 0 0 (MQ below (qcS (some (.int r))) ([.long a0, .long a1, .long a2, .long a3] : List Value).toArray s 0 0 (fun _ => False)) (F0 m 60 ls []) := by
      intro v12 ls hl hf
      rw [fX6_isMore_60] at hf
      refine lv_lload hx hb dX6_isMore_60 (lv_at hl 0 rfl) ?_
      refine lv_lconst (v := (0 : Int64)) hx hb dX6_isMore_62 rfl ?_
      refine W.lcmp hx hb dX6_isMore_63 ?_
      refine lv_if_le (tgt := 71) hx hb dX6_isMore_64 (by decide) (fun c_11 => ?_) (fun c_11 => ?_)
      · have hf := (if_pos c_11).symm.trans hf
        refine lv_iconst (v := (0 : Int32)) hx hb dX6_isMore_71 (by decide) ?_
        exact xs_zret hx hb hr hlocks dX6_isMore_72 rfl (Option.some.inj hf)
      · have hf := (if_neg c_11).symm.trans hf
        refine lv_iconst (v := (1 : Int32)) hx hb dX6_isMore_67 (by decide) ?_
        refine lv_goto (tgt := 72) hx hb dX6_isMore_68 (by decide) ?_
        exact xs_zret hx hb hr hlocks dX6_isMore_72 rfl (Option.some.inj hf)
    refine lv_lload_n hx hb dX6_isMore_0 rfl (lv_at hl 0 rfl) ?_
    refine lv_lload_n hx hb dX6_isMore_1 rfl (lv_at hl 1 rfl) ?_
    obtain ⟨c_1001, hf⟩ := x_ck hf
    refine lv_ldiv hx hb dX6_isMore_2 c_1001 ?_
    refine lv_lstore (lv' := [(8, .long (a0 / a1)), (0, .long a0), (2, .long a1), (4, .long a2), (6, .long a3)]) hx hb dX6_isMore_3 hl (by decide) rfl (fun ls hl => ?_)
    refine lv_lload hx hb dX6_isMore_5 (lv_at hl 3 rfl) ?_
    refine lv_lload hx hb dX6_isMore_7 (lv_at hl 4 rfl) ?_
    obtain ⟨c_1002, hf⟩ := x_ck hf
    refine lv_ldiv hx hb dX6_isMore_9 c_1002 ?_
    refine lv_lstore (lv' := [(10, .long (a2 / a3)), (8, .long (a0 / a1)), (0, .long a0), (2, .long a1), (4, .long a2), (6, .long a3)]) hx hb dX6_isMore_10 hl (by decide) rfl (fun ls hl => ?_)
    refine lv_lload hx hb dX6_isMore_12 (lv_at hl 1 rfl) ?_
    refine lv_lload hx hb dX6_isMore_14 (lv_at hl 0 rfl) ?_
    refine W.lcmp hx hb dX6_isMore_16 ?_
    refine lv_if_eq (tgt := 34) hx hb dX6_isMore_17 (by decide) (fun c_1003 => ?_) (fun c_1003 => ?_)
    · have hf := (if_pos c_1003).symm.trans hf
      refine lv_lload_n hx hb dX6_isMore_34 rfl (lv_at hl 2 rfl) ?_
      refine lv_lload_n hx hb dX6_isMore_35 rfl (lv_at hl 3 rfl) ?_
      obtain ⟨c_1004, hf⟩ := x_ck hf
      refine lv_lrem hx hb dX6_isMore_36 c_1004 ?_
      refine lv_lstore (lv' := [(12, .long (a0 - a0 / a1 * a1)), (10, .long (a2 / a3)), (8, .long (a0 / a1)), (0, .long a0), (2, .long a1), (4, .long a2), (6, .long a3)]) hx hb dX6_isMore_37 hl (by decide) rfl (fun ls hl => ?_)
      refine lv_lload hx hb dX6_isMore_39 (lv_at hl 5 rfl) ?_
      refine lv_lload hx hb dX6_isMore_41 (lv_at hl 6 rfl) ?_
      obtain ⟨c_1005, hf⟩ := x_ck hf
      refine lv_lrem hx hb dX6_isMore_43 c_1005 ?_
      refine lv_lstore (lv' := [(14, .long (a2 - a2 / a3 * a3)), (12, .long (a0 - a0 / a1 * a1)), (10, .long (a2 / a3)), (8, .long (a0 / a1)), (0, .long a0), (2, .long a1), (4, .long a2), (6, .long a3)]) hx hb dX6_isMore_44 hl (by decide) rfl (fun ls hl => ?_)
      refine lv_lload hx hb dX6_isMore_46 (lv_at hl 1 rfl) ?_
      refine lv_lconst (v := (0 : Int64)) hx hb dX6_isMore_48 rfl ?_
      refine W.lcmp hx hb dX6_isMore_49 ?_
      refine lv_if_eq (tgt := 60) hx hb dX6_isMore_50 (by decide) (fun c_1006 => ?_) (fun c_1006 => ?_)
      · have hf := (if_pos c_1006).symm.trans hf
        exact j_60 (a0 - a0 / a1 * a1) _ (lv_sub hl [1] rfl) hf
      · have hf := (if_neg c_1006).symm.trans hf
        refine lv_lload hx hb dX6_isMore_53 (lv_at hl 0 rfl) ?_
        refine lv_lconst (v := (0 : Int64)) hx hb dX6_isMore_55 rfl ?_
        refine W.lcmp hx hb dX6_isMore_56 ?_
        refine lv_if_ne (tgt := 73) hx hb dX6_isMore_57 (by decide) (fun c_1007 => ?_) (fun c_1007 => ?_)
        · have hf := (if_neg c_1007).symm.trans hf
          refine lv_lload hx hb dX6_isMore_73 (lv_at hl 7 rfl) ?_
          refine lv_lload hx hb dX6_isMore_75 (lv_at hl 0 rfl) ?_
          refine lv_lload_n hx hb dX6_isMore_77 rfl (lv_at hl 5 rfl) ?_
          refine lv_lload hx hb dX6_isMore_78 (lv_at hl 1 rfl) ?_
          obtain ⟨q_1008, hq_1008, hf⟩ := x_bd hf
          refine x_callSi (va_runS (As := [.long a3, .long (a2 - a2 / a3 * a3), .long a1, .long (a0 - a0 / a1 * a1)]) (rest := []) ⟨hx, hb, hml, hown, hts⟩ (ihr hq_1008) (va_cwS 4 hts gX6_isMore_X6_isMore rfl rfl rfl (by decide +kernel) ⟨(by show n + 0 + 1 ≤ n + 1 + 0; omega), (by show 8 + (16 + 11) + (35 * n + 0) ≤ 35 * (n + 1) + 0; omega)⟩) psS rfl rfl hl.1 rfl (lv_room (Nat.le_of_ble_eq_true rfl)) dX6_isMore_80 ⟨Nat.zero_le _, Nat.zero_le _⟩) ?_
          obtain ⟨c_1009, hf⟩ := x_ck hf
          exact xs_zret hx hb hr hlocks dX6_isMore_83 (x_nb c_1009) (Option.some.inj hf)
        · have hf := (if_pos c_1007).symm.trans hf
          exact j_60 (a0 - a0 / a1 * a1) _ (lv_sub hl [1] rfl) hf
    · have hf := (if_neg c_1003).symm.trans hf
      refine lv_lload hx hb dX6_isMore_20 (lv_at hl 1 rfl) ?_
      refine lv_lload hx hb dX6_isMore_22 (lv_at hl 0 rfl) ?_
      refine W.lcmp hx hb dX6_isMore_24 ?_
      refine lv_if_le (tgt := 32) hx hb dX6_isMore_25 (by decide) (fun c_1010 => ?_) (fun c_1010 => ?_)
      · have hf := (if_pos c_1010).symm.trans hf
        refine lv_iconst (v := (0 : Int32)) hx hb dX6_isMore_32 (by decide) ?_
        exact xs_zret hx hb hr hlocks dX6_isMore_33 rfl (Option.some.inj hf)
      · have hf := (if_neg c_1010).symm.trans hf
        refine lv_iconst (v := (1 : Int32)) hx hb dX6_isMore_28 (by decide) ?_
        refine lv_goto (tgt := 33) hx hb dX6_isMore_29 (by decide) ?_
        exact xs_zret hx hb hr hlocks dX6_isMore_33 rfl (Option.some.inj hf)
set_option maxHeartbeats 40000000 in
set_option maxRecDepth 100000 in
theorem kX6_shift (l : Launch) (z : Cx) (hz : okC 8 z) {a0 : Int32}  {σ σ' : Mm} {r : Int32} (hf : fX6_shift a0 σ = some (r, σ')) : KG 8 ceM l yX6_shift wsX6_shift (202) (7035) [.ref (z.2.1 0), .int a0] z σ σ' (some (.int r)) := by
  rw [fX6_shift] at hf
  refine Met.ofW (cc := cX6_shift) (maxL := 13) (ret := (some .int)) (by decide) rfl ?_
  intro p e s m args below meth c s₁ B hml hv
  obtain ⟨rfl, hP, hK, hE⟩ := hv
  have hx := B.exec
  have hb := B.bytes
  have hr := B.returns
  have hts := atoms_spec (ws := wsX6_shift) B.pre
  have hown : s.vm.findClass RX6 = some m.cls := findClass_of_methodNamed B.named
  have hlocks := B.notSynchronized
  have in_X6 : ∀ w ∈ wsX60, w ∈ wsX6_shift := by decide +kernel
  have hS : va_S (aG 8 z) s.heap s.heap [] := va_S.rf
  have hl := lv_entry ([.ref (z.2.1 0), .int a0]) (n := 13) (Nat.le_of_ble_eq_true rfl)
  rw [lg_entry_eq]
  generalize (lg_sl ([.ref (z.2.1 0), .int a0]) ++ List.replicate (13 - (lg_sl ([.ref (z.2.1 0), .int a0])).length) Slot.unset).toArray = ls at hl ⊢
  have hl : lv_has ls 13 [(0, .ref (z.2.1 0)), (1, .int a0)] := hl
  have L_26 : ∀ (n_26 : Nat) (v1 : Int32) (v2 : Int32) (v3 : Int64) (v5 : Int64) (v7 : Int32) (σ : Mm) (H : Heap) (locs : List Loc) (ls : Array Slot), va_P z.1 vwCl (wl 8 z.2.1 (ceM z σ)) H → va_S (aG 8 z) s.heap H locs → lv_has ls 13 [(0, .ref (z.2.1 0)), (1, .int v1), (2, .int v2), (3, .long v3), (5, .long v5), (7, .int v7)] → fX6_shift_26 n_26 v1 v2 v3 v5 v7 σ = some (r, σ') → W p l e (headSpec wsX6_shift ({ frames := 202, cells := 0, slots := 0, locals := 7035 })).room s m ([.ref (z.2.1 0), .int a0] : List Value).toArray below meth c H locs 0 0 (MQ below (qcG 8 ceM z σ' (some (.int r))) ([.ref (z.2.1 0), .int a0] : List Value).toArray s 0 0 (aG 8 z)) (F0 m 26 ls []) := by
    intro n_26
    induction n_26 with
    | zero =>
      intro v1 v2 v3 v5 v7 σ H locs ls hP hS hl hf
      rw [fX6_shift_26] at hf
      cases hf
    | succ n_26 ih_26 =>
      have j_118 : ∀ (v1 : Int32) (v2 : Int32) (v3 : Int64) (v5 : Int64) (v7 : Int32) (σ : Mm) (H : Heap) (locs : List Loc) (ls : Array Slot), va_P z.1 vwCl (wl 8 z.2.1 (ceM z σ)) H → va_S (aG 8 z) s.heap H locs → lv_has ls 13 [(0, .ref (z.2.1 0)), (1, .int v1), (2, .int v2), (3, .long v3), (5, .long v5), (7, .int v7)] → fX6_shift_118 (fun wv1 wv2 wv3 wv5 wv7 wσ => fX6_shift_26 n_26 wv1 wv2 wv3 wv5 wv7 wσ) v1 v2 v3 v5 v7 σ = some (r, σ') → W p l e (headSpec wsX6_shift ({ frames := 202, cells := 0, slots := 0, locals := 7035 })).room s m ([.ref (z.2.1 0), .int a0] : List Value).toArray below meth c H locs 0 0 (MQ below (qcG 8 ceM z σ' (some (.int r))) ([.ref (z.2.1 0), .int a0] : List Value).toArray s 0 0 (aG 8 z)) (F0 m 118 ls []) := by
        intro v1 v2 v3 v5 v7 σ H locs ls hP hS hl hf
        rw [fX6_shift_118] at hf
        refine lv_iinc (v := (v7 + (1 : Int32))) (lv' := [(7, .int (v7 + (1 : Int32))), (0, .ref (z.2.1 0)), (1, .int v1), (2, .int v2), (3, .long v3), (5, .long v5)]) hx hb dX6_shift_118 hl (k := 5) rfl rfl (by decide) rfl (fun ls hl => ?_)
        refine lv_goto (tgt := 26) hx hb dX6_shift_121 (by decide) ?_
        exact ih_26 v1 v2 v3 v5 (v7 + (1 : Int32)) σ _ _ _ hP hS (lv_sub hl [1, 2, 3, 4, 5, 0] rfl) hf
      have j_108 : ∀ (v1 : Int32) (v7 : Int32) (v8 : Int64) (v10 : Int64) (σ : Mm) (H : Heap) (locs : List Loc) (ls : Array Slot), va_P z.1 vwCl (wl 8 z.2.1 (ceM z σ)) H → va_S (aG 8 z) s.heap H locs → lv_has ls 13 [(0, .ref (z.2.1 0)), (1, .int v1), (7, .int v7), (8, .long v8), (10, .long v10)] → fX6_shift_108 (fun wv1 wv2 wv3 wv5 wv7 wσ => fX6_shift_26 n_26 wv1 wv2 wv3 wv5 wv7 wσ) v1 v7 v8 v10 σ = some (r, σ') → W p l e (headSpec wsX6_shift ({ frames := 202, cells := 0, slots := 0, locals := 7035 })).room s m ([.ref (z.2.1 0), .int a0] : List Value).toArray below meth c H locs 0 0 (MQ below (qcG 8 ceM z σ' (some (.int r))) ([.ref (z.2.1 0), .int a0] : List Value).toArray s 0 0 (aG 8 z)) (F0 m 108 ls []) := by
        intro v1 v7 v8 v10 σ H locs ls hP hS hl hf
        rw [fX6_shift_108] at hf
        refine lv_iload hx hb dX6_shift_108 (lv_at hl 2 rfl) ?_
        refine lv_istore_n (lv' := [(2, .int v7), (0, .ref (z.2.1 0)), (1, .int v1), (7, .int v7), (8, .long v8), (10, .long v10)]) hx hb dX6_shift_110 rfl hl (by decide) rfl (fun ls hl => ?_)
        refine lv_lload hx hb dX6_shift_111 (lv_at hl 4 rfl) ?_
        refine lv_lstore_n (lv' := [(3, .long v8), (2, .int v7), (0, .ref (z.2.1 0)), (1, .int v1), (7, .int v7), (8, .long v8), (10, .long v10)]) hx hb dX6_shift_113 rfl hl (by decide) rfl (fun ls hl => ?_)
        refine lv_lload hx hb dX6_shift_114 (lv_at hl 6 rfl) ?_
        refine lv_lstore (lv' := [(5, .long v10), (3, .long v8), (2, .int v7), (0, .ref (z.2.1 0)), (1, .int v1), (7, .int v7), (8, .long v8), (10, .long v10)]) hx hb dX6_shift_116 hl (by decide) rfl (fun ls hl => ?_)
        exact j_118 v1 v7 v8 v10 v7 σ _ _ _ hP hS (lv_sub hl [3, 4, 2, 1, 0, 5] rfl) hf
      have j_94 : ∀ (v1 : Int32) (v2 : Int32) (v3 : Int64) (v5 : Int64) (v7 : Int32) (v8 : Int64) (v10 : Int64) (t0 : Int32) (σ : Mm) (H : Heap) (locs : List Loc) (ls : Array Slot), va_P z.1 vwCl (wl 8 z.2.1 (ceM z σ)) H → va_S (aG 8 z) s.heap H locs → lv_has ls 13 [(0, .ref (z.2.1 0)), (1, .int v1), (2, .int v2), (3, .long v3), (5, .long v5), (7, .int v7), (8, .long v8), (10, .long v10)] → fX6_shift_94 (fun wv1 wv2 wv3 wv5 wv7 wσ => fX6_shift_26 n_26 wv1 wv2 wv3 wv5 wv7 wσ) v1 v2 v3 v5 v7 v8 v10 t0 σ = some (r, σ') → W p l e (headSpec wsX6_shift ({ frames := 202, cells := 0, slots := 0, locals := 7035 })).room s m ([.ref (z.2.1 0), .int a0] : List Value).toArray below meth c H locs 0 0 (MQ below (qcG 8 ceM z σ' (some (.int r))) ([.ref (z.2.1 0), .int a0] : List Value).toArray s 0 0 (aG 8 z)) (F0 m 94 ls [.int t0]) := by
        intro v1 v2 v3 v5 v7 v8 v10 t0 σ H locs ls hP hS hl hf
        rw [fX6_shift_94] at hf
        refine lv_istore (lv' := [(12, .int t0), (0, .ref (z.2.1 0)), (1, .int v1), (2, .int v2), (3, .long v3), (5, .long v5), (7, .int v7), (8, .long v8), (10, .long v10)]) hx hb dX6_shift_94 hl (by decide) rfl (fun ls hl => ?_)
        refine lv_iload_n hx hb dX6_shift_96 rfl (lv_at hl 3 rfl) ?_
        refine lv_if_lt (tgt := 108) hx hb dX6_shift_97 (by decide) (fun c_11 => ?_) (fun c_11 => ?_)
        · have hf := (if_pos c_11).symm.trans hf
          exact j_108 v1 v7 v8 v10 σ _ _ _ hP hS (lv_sub hl [1, 2, 6, 7, 8] rfl) hf
        · have hf := (if_neg c_11).symm.trans hf
          refine lv_iload hx hb dX6_shift_100 (lv_at hl 0 rfl) ?_
          refine lv_if_ne (tgt := 108) hx hb dX6_shift_102 (by decide) (fun c_12 => ?_) (fun c_12 => ?_)
          · have hf := (if_neg c_12).symm.trans hf
            exact j_108 v1 v7 v8 v10 σ _ _ _ hP hS (lv_sub hl [1, 2, 6, 7, 8] rfl) hf
          · have hf := (if_pos c_12).symm.trans hf
            refine lv_goto (tgt := 118) hx hb dX6_shift_105 (by decide) ?_
            exact j_118 v1 v2 v3 v5 v7 σ _ _ _ hP hS (lv_sub hl [1, 2, 3, 4, 5, 6] rfl) hf
      intro v1 v2 v3 v5 v7 σ H locs ls hP hS hl hf
      rw [fX6_shift_26] at hf
      refine lv_iload hx hb dX6_shift_26 (lv_at hl 5 rfl) ?_
      refine lv_bipush (v := (6 : Int32)) hx hb dX6_shift_28 (by decide) ?_
      refine lv_icmp_ge (tgt := 124) hx hb dX6_shift_30 (by decide) (fun c_4 => ?_) (fun c_4 => ?_)
      · have hf := (if_pos c_4).symm.trans hf
        refine lv_iload_n hx hb dX6_shift_124 rfl (lv_at hl 2 rfl) ?_
        exact x_iret hx hb hr hlocks hP hS dX6_shift_125 (Prod.mk.inj (Option.some.inj hf)).1 (Prod.mk.inj (Option.some.inj hf)).2
      · have hf := (if_neg c_4).symm.trans hf
        refine lv_aload_n hx hb dX6_shift_33 rfl (lv_at hl 0 rfl) ?_
        refine lv_iload hx hb dX6_shift_34 (lv_at hl 5 rfl) ?_
        obtain ⟨q_5, hq_5, hf⟩ := x_bd hf
        refine x_callGv (va_runV (As := [.int v7]) (rest := []) ⟨hx, hb, hml, hown, hts⟩ (kX6_finds l z hz hq_5) (cwV 1 hts gX6_shift_X6_finds rfl rfl rfl (by decide +kernel) ⟨Nat.le_of_ble_eq_true rfl, Nat.le_of_ble_eq_true rfl⟩) (pvG hK hP hE hS (va_recv hK hP (ci := 6) (q0 := 0) rfl (wl_at (by decide) cX6))) rfl rfl hl.1 rfl (lv_room (Nat.le_of_ble_eq_true rfl)) dX6_shift_36 ⟨Nat.zero_le _, Nat.zero_le _⟩) hS (fun H locs hP hS => ?_)
        refine lv_aload_n hx hb dX6_shift_39 rfl (lv_at hl 0 rfl) ?_
        refine va_get (D := z.1) (ci := 6) (v := .long (gL q_5 0 11)) (C := RX6) (T := TX6) (N := 29) hx hb hts in_X6 hown hK hP 0 (wl_at (by decide) cX6) rfl 11 (by decide) (hts (.fieldLink RX6 98 "TillOneOfSortModel" "ones" "J") (by decide +kernel)) (fun _ h9 => h9) rfl dX6_shift_40 ?_
        refine lv_aload_n hx hb dX6_shift_43 rfl (lv_at hl 0 rfl) ?_
        refine va_get (D := z.1) (ci := 6) (v := .long (gL q_5 0 10)) (C := RX6) (T := TX6) (N := 29) hx hb hts in_X6 hown hK hP 0 (wl_at (by decide) cX6) rfl 10 (by decide) (hts (.fieldLink RX6 94 "TillOneOfSortModel" "children" "J") (by decide +kernel)) (fun _ h9 => h9) rfl dX6_shift_44 ?_
        refine lv_iconst (v := (0 : Int32)) hx hb dX6_shift_47 (by decide) ?_
        obtain ⟨q_6, hq_6, hf⟩ := x_bd hf
        refine x_callSl (va_runS (As := [.long (gL q_5 0 11), .long (gL q_5 0 10), .int (0 : Int32)]) (rest := []) ⟨hx, hb, hml, hown, hts⟩ (kX6_part l hq_6) (va_cwS 3 hts gX6_shift_X6_part rfl rfl rfl (by decide +kernel) ⟨Nat.le_of_ble_eq_true rfl, Nat.le_of_ble_eq_true rfl⟩) psS rfl rfl hl.1 rfl (lv_room (Nat.le_of_ble_eq_true rfl)) dX6_shift_48 ⟨Nat.zero_le _, Nat.zero_le _⟩) ?_
        refine lv_lstore (lv' := [(8, .long q_6), (0, .ref (z.2.1 0)), (1, .int v1), (2, .int v2), (3, .long v3), (5, .long v5), (7, .int v7)]) hx hb dX6_shift_51 hl (by decide) rfl (fun ls hl => ?_)
        refine lv_aload_n hx hb dX6_shift_53 rfl (lv_at hl 1 rfl) ?_
        refine va_get (D := z.1) (ci := 6) (v := .long (gL q_5 0 11)) (C := RX6) (T := TX6) (N := 29) hx hb hts in_X6 hown hK hP 0 (wl_at (by decide) cX6) rfl 11 (by decide) (hts (.fieldLink RX6 98 "TillOneOfSortModel" "ones" "J") (by decide +kernel)) (fun _ h9 => h9) rfl dX6_shift_54 ?_
        refine lv_aload_n hx hb dX6_shift_57 rfl (lv_at hl 1 rfl) ?_
        refine va_get (D := z.1) (ci := 6) (v := .long (gL q_5 0 10)) (C := RX6) (T := TX6) (N := 29) hx hb hts in_X6 hown hK hP 0 (wl_at (by decide) cX6) rfl 10 (by decide) (hts (.fieldLink RX6 94 "TillOneOfSortModel" "children" "J") (by decide +kernel)) (fun _ h9 => h9) rfl dX6_shift_58 ?_
        refine lv_iconst (v := (1 : Int32)) hx hb dX6_shift_61 (by decide) ?_
        obtain ⟨q_7, hq_7, hf⟩ := x_bd hf
        refine x_callSl (va_runS (As := [.long (gL q_5 0 11), .long (gL q_5 0 10), .int (1 : Int32)]) (rest := []) ⟨hx, hb, hml, hown, hts⟩ (kX6_part l hq_7) (va_cwS 3 hts gX6_shift_X6_part rfl rfl rfl (by decide +kernel) ⟨Nat.le_of_ble_eq_true rfl, Nat.le_of_ble_eq_true rfl⟩) psS rfl rfl hl.1 rfl (lv_room (Nat.le_of_ble_eq_true rfl)) dX6_shift_62 ⟨Nat.zero_le _, Nat.zero_le _⟩) ?_
        refine lv_lstore (lv' := [(10, .long q_7), (8, .long q_6), (0, .ref (z.2.1 0)), (1, .int v1), (2, .int v2), (3, .long v3), (5, .long v5), (7, .int v7)]) hx hb dX6_shift_65 hl (by decide) rfl (fun ls hl => ?_)
        refine lv_iload_n hx hb dX6_shift_67 rfl (lv_at hl 3 rfl) ?_
        refine lv_if_ne (tgt := 84) hx hb dX6_shift_68 (by decide) (fun c_8 => ?_) (fun c_8 => ?_)
        · have hf := (if_neg c_8).symm.trans hf
          refine lv_lload_n hx hb dX6_shift_84 rfl (lv_at hl 5 rfl) ?_
          refine lv_lload hx hb dX6_shift_85 (lv_at hl 6 rfl) ?_
          refine lv_lload hx hb dX6_shift_87 (lv_at hl 1 rfl) ?_
          refine lv_lload hx hb dX6_shift_89 (lv_at hl 0 rfl) ?_
          obtain ⟨q_9, hq_9, hf⟩ := x_bd hf
          refine x_callSi (va_runS (As := [.long v3, .long v5, .long q_6, .long q_7]) (rest := []) ⟨hx, hb, hml, hown, hts⟩ (kX6_isMore l 200 hq_9) (va_cwS 4 hts gX6_shift_X6_isMore rfl rfl rfl (by decide +kernel) ⟨Nat.le_of_ble_eq_true rfl, Nat.le_of_ble_eq_true rfl⟩) psS rfl rfl hl.1 rfl (lv_room (Nat.le_of_ble_eq_true rfl)) dX6_shift_91 ⟨Nat.zero_le _, Nat.zero_le _⟩) ?_
          exact j_94 v1 v2 v3 v5 v7 q_6 q_7 q_9 q_5 _ _ _ hP hS (lv_sub hl [2, 3, 4, 5, 6, 7, 1, 0] rfl) hf
        · have hf := (if_pos c_8).symm.trans hf
          refine lv_lload hx hb dX6_shift_71 (lv_at hl 1 rfl) ?_
          refine lv_lload hx hb dX6_shift_73 (lv_at hl 0 rfl) ?_
          refine lv_lload_n hx hb dX6_shift_75 rfl (lv_at hl 5 rfl) ?_
          refine lv_lload hx hb dX6_shift_76 (lv_at hl 6 rfl) ?_
          obtain ⟨q_10, hq_10, hf⟩ := x_bd hf
          refine x_callSi (va_runS (As := [.long q_6, .long q_7, .long v3, .long v5]) (rest := []) ⟨hx, hb, hml, hown, hts⟩ (kX6_isMore l 200 hq_10) (va_cwS 4 hts gX6_shift_X6_isMore rfl rfl rfl (by decide +kernel) ⟨Nat.le_of_ble_eq_true rfl, Nat.le_of_ble_eq_true rfl⟩) psS rfl rfl hl.1 rfl (lv_room (Nat.le_of_ble_eq_true rfl)) dX6_shift_78 ⟨Nat.zero_le _, Nat.zero_le _⟩) ?_
          refine lv_goto (tgt := 94) hx hb dX6_shift_81 (by decide) ?_
          exact j_94 v1 v2 v3 v5 v7 q_6 q_7 q_10 q_5 _ _ _ hP hS (lv_sub hl [2, 3, 4, 5, 6, 7, 1, 0] rfl) hf
  refine lv_iload_n hx hb dX6_shift_0 rfl (lv_at hl 1 rfl) ?_
  refine lv_iconst (v := (2 : Int32)) hx hb dX6_shift_1 (by decide) ?_
  obtain ⟨q_1001, hq_1001, hf⟩ := x_bd hf
  refine x_callSi (va_runS (As := [.int a0, .int (2 : Int32)]) (rest := []) ⟨hx, hb, hml, hown, hts⟩ (kX6_isIn l hq_1001) (va_cwS 2 hts gX6_shift_X6_isIn rfl rfl rfl (by decide +kernel) ⟨Nat.le_of_ble_eq_true rfl, Nat.le_of_ble_eq_true rfl⟩) psS rfl rfl hl.1 rfl (lv_room (Nat.le_of_ble_eq_true rfl)) dX6_shift_2 ⟨Nat.zero_le _, Nat.zero_le _⟩) ?_
  refine lv_if_ne (tgt := 15) hx hb dX6_shift_5 (by decide) (fun c_1002 => ?_) (fun c_1002 => ?_)
  · have hf := (if_neg c_1002).symm.trans hf
    refine lv_bipush (v := (-9 : Int32)) hx hb dX6_shift_15 (by decide) ?_
    refine lv_istore_n (lv' := [(2, .int (-9 : Int32)), (0, .ref (z.2.1 0)), (1, .int a0)]) hx hb dX6_shift_17 rfl hl (by decide) rfl (fun ls hl => ?_)
    refine lv_lconst (v := (0 : Int64)) hx hb dX6_shift_18 rfl ?_
    refine lv_lstore_n (lv' := [(3, .long (0 : Int64)), (2, .int (-9 : Int32)), (0, .ref (z.2.1 0)), (1, .int a0)]) hx hb dX6_shift_19 rfl hl (by decide) rfl (fun ls hl => ?_)
    refine lv_lconst (v := (1 : Int64)) hx hb dX6_shift_20 rfl ?_
    refine lv_lstore (lv' := [(5, .long (1 : Int64)), (3, .long (0 : Int64)), (2, .int (-9 : Int32)), (0, .ref (z.2.1 0)), (1, .int a0)]) hx hb dX6_shift_21 hl (by decide) rfl (fun ls hl => ?_)
    refine lv_iconst (v := (0 : Int32)) hx hb dX6_shift_23 (by decide) ?_
    refine lv_istore (lv' := [(7, .int (0 : Int32)), (5, .long (1 : Int64)), (3, .long (0 : Int64)), (2, .int (-9 : Int32)), (0, .ref (z.2.1 0)), (1, .int a0)]) hx hb dX6_shift_24 hl (by decide) rfl (fun ls hl => ?_)
    exact L_26 1000 a0 (-9 : Int32) (0 : Int64) (1 : Int64) (0 : Int32) σ _ _ _ hP hS (lv_sub hl [4, 5, 3, 2, 1, 0] rfl) hf
  · have hf := (if_pos c_1002).symm.trans hf
    refine lv_aload_n hx hb dX6_shift_8 rfl (lv_at hl 0 rfl) ?_
    refine lv_bipush (v := (-2 : Int32)) hx hb dX6_shift_9 (by decide) ?_
    obtain ⟨q_1003, hq_1003, hf⟩ := x_bd hf
    refine x_callGi (va_runV (As := [.int (-2 : Int32)]) (rest := []) ⟨hx, hb, hml, hown, hts⟩ (kX6_refuse l z hz hq_1003) (cwV 1 hts gX6_shift_X6_refuse rfl rfl rfl (by decide +kernel) ⟨Nat.le_of_ble_eq_true rfl, Nat.le_of_ble_eq_true rfl⟩) (pvG hK hP hE hS (va_recv hK hP (ci := 6) (q0 := 0) rfl (wl_at (by decide) cX6))) rfl rfl hl.1 rfl (lv_room (Nat.le_of_ble_eq_true rfl)) dX6_shift_11 ⟨Nat.zero_le _, Nat.zero_le _⟩) hS (fun H locs hP hS => ?_)
    exact x_iret hx hb hr hlocks hP hS dX6_shift_14 (Prod.mk.inj (Option.some.inj hf)).1 (Prod.mk.inj (Option.some.inj hf)).2
