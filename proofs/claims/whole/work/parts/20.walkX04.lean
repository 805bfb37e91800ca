set_option maxHeartbeats 40000000 in
set_option maxRecDepth 100000 in
theorem kX5_fits (l : Launch) (z : Cx) (hz : okC 40 z) {a0 : Int32}  {σ σ' : Mm} {r : Int32} (hf : fX5_fits a0 σ = some (r, σ')) : KG 40 ceX l yX5_fits wsX5_fits (3) (74) [.ref (z.2.1 0), .int a0] z σ σ' (some (.int r)) := by
  rw [fX5_fits] at hf
  refine Met.ofW (cc := cX5_fits) (maxL := 5) (ret := (some .int)) (by decide) rfl ?_
  intro p e s m args below meth c s₁ B hml hv
  obtain ⟨rfl, hP, hK, hE⟩ := hv
  have hx := B.exec
  have hb := B.bytes
  have hr := B.returns
  have hts := atoms_spec (ws := wsX5_fits) B.pre
  have hown : s.vm.findClass RX5 = some m.cls := findClass_of_methodNamed B.named
  have hlocks := B.notSynchronized
  have in_X5 : ∀ w ∈ wsX50, w ∈ wsX5_fits := by decide +kernel
  have hS : va_S (aG 40 z) s.heap s.heap [] := va_S.rf
  have hl := lv_entry ([.ref (z.2.1 0), .int a0]) (n := 5) (Nat.le_of_ble_eq_true rfl)
  rw [lg_entry_eq]
  generalize (lg_sl ([.ref (z.2.1 0), .int a0]) ++ List.replicate (5 - (lg_sl ([.ref (z.2.1 0), .int a0])).length) Slot.unset).toArray = ls at hl ⊢
  have hl : lv_has ls 5 [(0, .ref (z.2.1 0)), (1, .int a0)] := hl
  have L_18 : ∀ (n_18 : Nat) (v1 : Int32) (v2 : Int32) (v3 : Int32) (σ : Mm) (H : Heap) (locs : List Loc) (ls : Array Slot), va_P z.1 vwCl (wl 40 z.2.1 (ceX z σ)) H → va_S (aG 40 z) s.heap H locs → lv_has ls 5 [(0, .ref (z.2.1 0)), (1, .int v1), (2, .int v2), (3, .int v3)] → fX5_fits_18 n_18 v1 v2 v3 σ = some (r, σ') → W p l e (headSpec wsX5_fits ({ frames := 3, cells := 0, slots := 0, locals := 74 })).room s m ([.ref (z.2.1 0), .int a0] : List Value).toArray below meth c H locs 0 0 (MQ below (qcG 40 ceX z σ' (some (.int r))) ([.ref (z.2.1 0), .int a0] : List Value).toArray s 0 0 (aG 40 z)) (F0 m 18 ls []) := by
    intro n_18
    induction n_18 with
    | zero =>
      intro v1 v2 v3 σ H locs ls hP hS hl hf
      rw [fX5_fits_18] at hf
      cases hf
    | succ n_18 ih_18 =>
      have j_68 : ∀ (v1 : Int32) (v2 : Int32) (v3 : Int32) (σ : Mm) (H : Heap) (locs : List Loc) (ls : Array Slot), va_P z.1 vwCl (wl 40 z.2.1 (ceX z σ)) H → va_S (aG 40 z) s.heap H locs → lv_has ls 5 [(0, .ref (z.2.1 0)), (1, .int v1), (2, .int v2), (3, .int v3)] → fX5_fits_68 (fun wv1 wv2 wv3 wσ => fX5_fits_18 n_18 wv1 wv2 wv3 wσ) v1 v2 v3 σ = some (r, σ') → W p l e (headSpec wsX5_fits ({ frames := 3, cells := 0, slots := 0, locals := 74 })).room s m ([.ref (z.2.1 0), .int a0] : List Value).toArray below meth c H locs 0 0 (MQ below (qcG 40 ceX z σ' (some (.int r))) ([.ref (z.2.1 0), .int a0] : List Value).toArray s 0 0 (aG 40 z)) (F0 m 68 ls []) := by
        intro v1 v2 v3 σ H locs ls hP hS hl hf
        rw [fX5_fits_68] at hf
        refine lv_iinc (v := (v3 + (1 : Int32))) (lv' := [(3, .int (v3 + (1 : Int32))), (0, .ref (z.2.1 0)), (1, .int v1), (2, .int v2)]) hx hb dX5_fits_68 hl (k := 3) rfl rfl (by decide) rfl (fun ls hl => ?_)
        refine lv_goto (tgt := 18) hx hb dX5_fits_71 (by decide) ?_
        exact ih_18 v1 v2 (v3 + (1 : Int32)) σ _ _ _ hP hS (lv_sub hl [1, 2, 3, 0] rfl) hf
      have j_55 : ∀ (v1 : Int32) (v2 : Int32) (v3 : Int32) (t0 : Int32) (σ : Mm) (H : Heap) (locs : List Loc) (ls : Array Slot), va_P z.1 vwCl (wl 40 z.2.1 (ceX z σ)) H → va_S (aG 40 z) s.heap H locs → lv_has ls 5 [(0, .ref (z.2.1 0)), (1, .int v1), (2, .int v2), (3, .int v3)] → fX5_fits_55 (fun wv1 wv2 wv3 wσ => fX5_fits_18 n_18 wv1 wv2 wv3 wσ) v1 v2 v3 t0 σ = some (r, σ') → W p l e (headSpec wsX5_fits ({ frames := 3, cells := 0, slots := 0, locals := 74 })).room s m ([.ref (z.2.1 0), .int a0] : List Value).toArray below meth c H locs 0 0 (MQ below (qcG 40 ceX z σ' (some (.int r))) ([.ref (z.2.1 0), .int a0] : List Value).toArray s 0 0 (aG 40 z)) (F0 m 55 ls [.int t0]) := by
        intro v1 v2 v3 t0 σ H locs ls hP hS hl hf
        rw [fX5_fits_55] at hf
        refine lv_istore (lv' := [(4, .int t0), (0, .ref (z.2.1 0)), (1, .int v1), (2, .int v2), (3, .int v3)]) hx hb dX5_fits_55 hl (by decide) rfl (fun ls hl => ?_)
        refine lv_iload hx hb dX5_fits_57 (lv_at hl 0 rfl) ?_
        refine lv_if_eq (tgt := 68) hx hb dX5_fits_59 (by decide) (fun c_9 => ?_) (fun c_9 => ?_)
        · have hf := (if_pos c_9).symm.trans hf
          exact j_68 v1 v2 v3 σ _ _ _ hP hS (lv_sub hl [1, 2, 3, 4] rfl) hf
        · have hf := (if_neg c_9).symm.trans hf
          refine lv_iload_n hx hb dX5_fits_62 rfl (lv_at hl 3 rfl) ?_
          refine lv_iconst (v := (1 : Int32)) hx hb dX5_fits_63 (by decide) ?_
          refine lv_iload_n hx hb dX5_fits_64 rfl (lv_at hl 4 rfl) ?_
          refine lv_ishl hx hb dX5_fits_65 ?_
          refine lv_ior hx hb dX5_fits_66 ?_
          refine lv_istore_n (lv' := [(2, .int (v2 ||| ((1 : Int32) <<< (v3 &&& 31)))), (4, .int t0), (0, .ref (z.2.1 0)), (1, .int v1), (3, .int v3)]) hx hb dX5_fits_67 rfl hl (by decide) rfl (fun ls hl => ?_)
          exact j_68 v1 (v2 ||| ((1 : Int32) <<< (v3 &&& 31))) v3 σ _ _ _ hP hS (lv_sub hl [2, 3, 0, 4] rfl) hf
      intro v1 v2 v3 σ H locs ls hP hS hl hf
      rw [fX5_fits_18] at hf
      refine lv_iload_n hx hb dX5_fits_18 rfl (lv_at hl 3 rfl) ?_
      refine lv_bipush (v := (6 : Int32)) hx hb dX5_fits_19 (by decide) ?_
      refine lv_icmp_ge (tgt := 74) hx hb dX5_fits_21 (by decide) (fun c_4 => ?_) (fun c_4 => ?_)
      · have hf := (if_pos c_4).symm.trans hf
        refine lv_iload_n hx hb dX5_fits_74 rfl (lv_at hl 2 rfl) ?_
        exact x_iret hx hb hr hlocks hP hS dX5_fits_75 (Prod.mk.inj (Option.some.inj hf)).1 (Prod.mk.inj (Option.some.inj hf)).2
      · have hf := (if_neg c_4).symm.trans hf
        refine lv_iload_n hx hb dX5_fits_24 rfl (lv_at hl 1 rfl) ?_
        refine lv_if_ne (tgt := 39) hx hb dX5_fits_25 (by decide) (fun c_5 => ?_) (fun c_5 => ?_)
        · have hf := (if_neg c_5).symm.trans hf
          refine lv_aload_n hx hb dX5_fits_39 rfl (lv_at hl 0 rfl) ?_
          refine va_get (D := z.1) (ci := 5) (v := .ref (z.2.1 1)) (C := RX5) (T := TX5) (N := 10) hx hb hts in_X5 hown hK hP 0 (wl_at (by decide) cX5) rfl 0 (by decide) (hts (.fieldLink RX5 10 "TillOneOfSort" "told" "LTillOneOfSort$Told;") (by decide +kernel)) (fun _ h9 => h9) rfl dX5_fits_40 ?_
          refine lv_iload_n hx hb dX5_fits_43 rfl (lv_at hl 3 rfl) ?_
          obtain ⟨q_6, hq_6, hf⟩ := x_bd hf
          refine x_callGi (va_runV (As := [.int v3]) (rest := []) ⟨hx, hb, hml, hown, hts⟩ (kX3_countStoppedAhead l z hz (rfl : isTold 1 = true) hq_6) (cwV 1 hts gX5_fits_X3_countStoppedAhead rfl rfl rfl (by decide +kernel) ⟨Nat.le_of_ble_eq_true rfl, Nat.le_of_ble_eq_true rfl⟩) (pvG hK hP hE hS (va_recv hK hP (ci := 3) (q0 := 1) rfl (wl_at (told_lt (rfl : isTold 1 = true)) (cX3 (rfl : isTold 1 = true))))) rfl rfl hl.1 rfl (lv_room (Nat.le_of_ble_eq_true rfl)) dX5_fits_44 ⟨Nat.zero_le _, Nat.zero_le _⟩) hS (fun H locs hP hS => ?_)
          refine lv_if_ne (tgt := 54) hx hb dX5_fits_47 (by decide) (fun c_7 => ?_) (fun c_7 => ?_)
          · have hf := (if_neg c_7).symm.trans hf
            refine lv_iconst (v := (0 : Int32)) hx hb dX5_fits_54 (by decide) ?_
            exact j_55 v1 v2 v3 (0 : Int32) σ _ _ _ hP hS (lv_sub hl [0, 1, 2, 3] rfl) hf
          · have hf := (if_pos c_7).symm.trans hf
            refine lv_iconst (v := (1 : Int32)) hx hb dX5_fits_50 (by decide) ?_
            refine lv_goto (tgt := 55) hx hb dX5_fits_51 (by decide) ?_
            exact j_55 v1 v2 v3 (1 : Int32) σ _ _ _ hP hS (lv_sub hl [0, 1, 2, 3] rfl) hf
        · have hf := (if_pos c_5).symm.trans hf
          refine lv_aload_n hx hb dX5_fits_28 rfl (lv_at hl 0 rfl) ?_
          refine va_get (D := z.1) (ci := 5) (v := .ref (z.2.1 1)) (C := RX5) (T := TX5) (N := 10) hx hb hts in_X5 hown hK hP 0 (wl_at (by decide) cX5) rfl 0 (by decide) (hts (.fieldLink RX5 10 "TillOneOfSort" "told" "LTillOneOfSort$Told;") (by decide +kernel)) (fun _ h9 => h9) rfl dX5_fits_29 ?_
          refine lv_iload_n hx hb dX5_fits_32 rfl (lv_at hl 3 rfl) ?_
          obtain ⟨q_8, hq_8, hf⟩ := x_bd hf
          refine x_callGi (va_runV (As := [.int v3]) (rest := []) ⟨hx, hb, hml, hown, hts⟩ (kX3_endsAllSeen l z hz (rfl : isTold 1 = true) hq_8) (cwV 1 hts gX5_fits_X3_endsAllSeen rfl rfl rfl (by decide +kernel) ⟨Nat.le_of_ble_eq_true rfl, Nat.le_of_ble_eq_true rfl⟩) (pvG hK hP hE hS (va_recv hK hP (ci := 3) (q0 := 1) rfl (wl_at (told_lt (rfl : isTold 1 = true)) (cX3 (rfl : isTold 1 = true))))) rfl rfl hl.1 rfl (lv_room (Nat.le_of_ble_eq_true rfl)) dX5_fits_33 ⟨Nat.zero_le _, Nat.zero_le _⟩) hS (fun H locs hP hS => ?_)
          refine lv_goto (tgt := 55) hx hb dX5_fits_36 (by decide) ?_
          exact j_55 v1 v2 v3 q_8 σ _ _ _ hP hS (lv_sub hl [0, 1, 2, 3] rfl) hf
  refine lv_iload_n hx hb dX5_fits_0 rfl (lv_at hl 1 rfl) ?_
  obtain ⟨q_1001, hq_1001, hf⟩ := x_bd hf
  refine x_callSi (va_runS (As := [.int a0]) (rest := []) ⟨hx, hb, hml, hown, hts⟩ (kX5_isNoBit l hq_1001) (va_cwS 1 hts gX5_fits_X5_isNoBit rfl rfl rfl (by decide +kernel) ⟨Nat.le_of_ble_eq_true rfl, Nat.le_of_ble_eq_true rfl⟩) psS rfl rfl hl.1 rfl (lv_room (Nat.le_of_ble_eq_true rfl)) dX5_fits_1 ⟨Nat.zero_le _, Nat.zero_le _⟩) ?_
  refine lv_if_eq (tgt := 14) hx hb dX5_fits_4 (by decide) (fun c_1002 => ?_) (fun c_1002 => ?_)
  · have hf := (if_pos c_1002).symm.trans hf
    refine lv_iconst (v := (0 : Int32)) hx hb dX5_fits_14 (by decide) ?_
    refine lv_istore_n (lv' := [(2, .int (0 : Int32)), (0, .ref (z.2.1 0)), (1, .int a0)]) hx hb dX5_fits_15 rfl hl (by decide) rfl (fun ls hl => ?_)
    refine lv_iconst (v := (0 : Int32)) hx hb dX5_fits_16 (by decide) ?_
    refine lv_istore_n (lv' := [(3, .int (0 : Int32)), (2, .int (0 : Int32)), (0, .ref (z.2.1 0)), (1, .int a0)]) hx hb dX5_fits_17 rfl hl (by decide) rfl (fun ls hl => ?_)
    exact L_18 1000 a0 (0 : Int32) (0 : Int32) σ _ _ _ hP hS (lv_sub hl [2, 3, 1, 0] rfl) hf
  · have hf := (if_neg c_1002).symm.trans hf
    refine lv_aload_n hx hb dX5_fits_7 rfl (lv_at hl 0 rfl) ?_
    refine lv_bipush (v := (-2 : Int32)) hx hb dX5_fits_8 (by decide) ?_
    obtain ⟨q_1003, hq_1003, hf⟩ := x_bd hf
    refine x_callGi (va_runV (As := [.int (-2 : Int32)]) (rest := []) ⟨hx, hb, hml, hown, hts⟩ (kX5_refuse l z hz hq_1003) (cwV 1 hts gX5_fits_X5_refuse rfl rfl rfl (by decide +kernel) ⟨Nat.le_of_ble_eq_true rfl, Nat.le_of_ble_eq_true rfl⟩) (pvG hK hP hE hS (va_recv hK hP (ci := 5) (q0 := 0) rfl (wl_at (by decide) cX5))) rfl rfl hl.1 rfl (lv_room (Nat.le_of_ble_eq_true rfl)) dX5_fits_10 ⟨Nat.zero_le _, Nat.zero_le _⟩) hS (fun H locs hP hS => ?_)
    exact x_iret hx hb hr hlocks hP hS dX5_fits_13 (Prod.mk.inj (Option.some.inj hf)).1 (Prod.mk.inj (Option.some.inj hf)).2
set_option maxHeartbeats 40000000 in
set_option maxRecDepth 100000 in
theorem kX5_judge (l : Launch) (z : Cx) (hz : okC 40 z)   {σ σ' : Mm} {r : Int32} (hf : fX5_judge σ = some (r, σ')) : KG 40 ceX l yX5_judge wsX5_judge (2) (51) [.ref (z.2.1 0)] z σ σ' (some (.int r)) := by
  rw [fX5_judge] at hf
  refine Met.ofW (cc := cX5_judge) (maxL := 3) (ret := (some .int)) (by decide) rfl ?_
  intro p e s m args below meth c s₁ B hml hv
  obtain ⟨rfl, hP, hK, hE⟩ := hv
  have hx := B.exec
  have hb := B.bytes
  have hr := B.returns
  have hts := atoms_spec (ws := wsX5_judge) B.pre
  have hown : s.vm.findClass RX5 = some m.cls := findClass_of_methodNamed B.named
  have hlocks := B.notSynchronized
  have in_X3 : ∀ w ∈ wsX30, w ∈ wsX5_judge := by decide +kernel
  have in_X5 : ∀ w ∈ wsX50, w ∈ wsX5_judge := by decide +kernel
  have hS : va_S (aG 40 z) s.heap s.heap [] := va_S.rf
  have hl := lv_entry ([.ref (z.2.1 0)]) (n := 3) (Nat.le_of_ble_eq_true rfl)
  rw [lg_entry_eq]
  generalize (lg_sl ([.ref (z.2.1 0)]) ++ List.replicate (3 - (lg_sl ([.ref (z.2.1 0)])).length) Slot.unset).toArray = ls at hl ⊢
  have hl : lv_has ls 3 [(0, .ref (z.2.1 0))] := hl
  refine lv_aload_n hx hb dX5_judge_0 rfl (lv_at hl 0 rfl) ?_
  refine va_get (D := z.1) (ci := 5) (v := .ref (z.2.1 1)) (C := RX5) (T := TX5) (N := 10) hx hb hts in_X5 hown hK hP 0 (wl_at (by decide) cX5) rfl 0 (by decide) (hts (.fieldLink RX5 10 "TillOneOfSort" "told" "LTillOneOfSort$Told;") (by decide +kernel)) (fun _ h9 => h9) rfl dX5_judge_1 ?_
  refine lv_aload_n hx hb dX5_judge_4 rfl (lv_at hl 0 rfl) ?_
  refine va_get (D := z.1) (ci := 5) (v := .ref (z.2.1 1)) (C := RX5) (T := TX5) (N := 10) hx hb hts in_X5 hown hK hP 0 (wl_at (by decide) cX5) rfl 0 (by decide) (hts (.fieldLink RX5 10 "TillOneOfSort" "told" "LTillOneOfSort$Told;") (by decide +kernel)) (fun _ h9 => h9) rfl dX5_judge_5 ?_
  refine va_getN (D := z.1) (ci := 3) (v := .int (gI σ 1 0)) (C := RX3) (T := TX3) (N := 8) hx hb hts in_X3 hown hK hP 1 (wl_at (told_lt (rfl : isTold 1 = true)) (cX3 (rfl : isTold 1 = true))) rfl 0 (by decide) (hE.1.at (List.mem_of_getElem? (i := 5) rfl) rfl) (fun _ h9 => h9) rfl dX5_judge_8 ?_
  refine lv_aload_n hx hb dX5_judge_11 rfl (lv_at hl 0 rfl) ?_
  refine va_get (D := z.1) (ci := 5) (v := .int (gI σ 0 5)) (C := RX5) (T := TX5) (N := 10) hx hb hts in_X5 hown hK hP 0 (wl_at (by decide) cX5) rfl 5 (by decide) (hts (.fieldLink RX5 132 "TillOneOfSort" "rowLength" "I") (by decide +kernel)) (fun _ h9 => h9) rfl dX5_judge_12 ?_
  refine lv_aload_n hx hb dX5_judge_15 rfl (lv_at hl 0 rfl) ?_
  refine va_get (D := z.1) (ci := 5) (v := .int (gI σ 0 6)) (C := RX5) (T := TX5) (N := 10) hx hb hts in_X5 hown hK hP 0 (wl_at (by decide) cX5) rfl 6 (by decide) (hts (.fieldLink RX5 135 "TillOneOfSort" "rowSorts" "I") (by decide +kernel)) (fun _ h9 => h9) rfl dX5_judge_16 ?_
  obtain ⟨q_1001, hq_1001, hf⟩ := x_bd hf
  refine x_callGi (va_runV (As := [.int (gI σ 1 0), .int (gI σ 0 5), .int (gI σ 0 6)]) (rest := []) ⟨hx, hb, hml, hown, hts⟩ (kX3_stopPlace l z hz (rfl : isTold 1 = true) hq_1001) (cwV 3 hts gX5_judge_X3_stopPlace rfl rfl rfl (by decide +kernel) ⟨Nat.le_of_ble_eq_true rfl, Nat.le_of_ble_eq_true rfl⟩) (pvG hK hP hE hS (va_recv hK hP (ci := 3) (q0 := 1) rfl (wl_at (told_lt (rfl : isTold 1 = true)) (cX3 (rfl : isTold 1 = true))))) rfl rfl hl.1 rfl (lv_room (Nat.le_of_ble_eq_true rfl)) dX5_judge_19 ⟨Nat.zero_le _, Nat.zero_le _⟩) hS (fun H locs hP hS => ?_)
  refine lv_istore_n (lv' := [(1, .int q_1001), (0, .ref (z.2.1 0))]) hx hb dX5_judge_22 rfl hl (by decide) rfl (fun ls hl => ?_)
  refine lv_aload_n hx hb dX5_judge_23 rfl (lv_at hl 1 rfl) ?_
  refine va_get (D := z.1) (ci := 5) (v := .int (gI σ 0 5)) (C := RX5) (T := TX5) (N := 10) hx hb hts in_X5 hown hK hP 0 (wl_at (by decide) cX5) rfl 5 (by decide) (hts (.fieldLink RX5 132 "TillOneOfSort" "rowLength" "I") (by decide +kernel)) (fun _ h9 => h9) rfl dX5_judge_24 ?_
  refine lv_istore_n (lv' := [(2, .int (gI σ 0 5)), (1, .int q_1001), (0, .ref (z.2.1 0))]) hx hb dX5_judge_27 rfl hl (by decide) rfl (fun ls hl => ?_)
  refine lv_aload_n hx hb dX5_judge_28 rfl (lv_at hl 2 rfl) ?_
  refine lv_iconst (v := (0 : Int32)) hx hb dX5_judge_29 (by decide) ?_
  refine va_put (D := z.1) (ci := 5) (v := .int (0 : Int32)) (ty := .int) (C := RX5) (T := TX5) (N := 10) hx hb hts in_X5 tyX5 tyX5_ok nmX5 hown hK hP (wl_D hz _) hS 0 (wl_at (by decide) cX5) rfl 5 (by decide) (hts (.fieldLink RX5 132 "TillOneOfSort" "rowLength" "I") (by decide +kernel)) (fun _ h9 => h9) rfl (by decide +kernel) rfl rfl (Nat.le_of_ble_eq_true rfl) dX5_judge_30 (fun H locs hP _ hS => ?_)
  rw [sX5 (by decide)] at hP
  refine lv_aload_n hx hb dX5_judge_33 rfl (lv_at hl 2 rfl) ?_
  refine lv_iconst (v := (0 : Int32)) hx hb dX5_judge_34 (by decide) ?_
  refine va_put (D := z.1) (ci := 5) (v := .int (0 : Int32)) (ty := .int) (C := RX5) (T := TX5) (N := 10) hx hb hts in_X5 tyX5 tyX5_ok nmX5 hown hK hP (wl_D hz _) hS 0 (wl_at (by decide) cX5) rfl 6 (by decide) (hts (.fieldLink RX5 135 "TillOneOfSort" "rowSorts" "I") (by decide +kernel)) (fun _ h9 => h9) rfl (by decide +kernel) rfl rfl (Nat.le_of_ble_eq_true rfl) dX5_judge_35 (fun H locs hP _ hS => ?_)
  rw [sX5 (by decide)] at hP
  refine lv_iload_n hx hb dX5_judge_38 rfl (lv_at hl 1 rfl) ?_
  refine lv_iload_n hx hb dX5_judge_39 rfl (lv_at hl 0 rfl) ?_
  refine lv_icmp_lt (tgt := 46) hx hb dX5_judge_40 (by decide) (fun c_1002 => ?_) (fun c_1002 => ?_)
  · have hf := (if_pos c_1002).symm.trans hf
    refine lv_iload_n hx hb dX5_judge_46 rfl (lv_at hl 1 rfl) ?_
    refine lv_iload_n hx hb dX5_judge_47 rfl (lv_at hl 0 rfl) ?_
    refine lv_iconst (v := (1 : Int32)) hx hb dX5_judge_48 (by decide) ?_
    refine lv_isub hx hb dX5_judge_49 ?_
    refine lv_icmp_ne (tgt := 58) hx hb dX5_judge_50 (by decide) (fun c_1003 => ?_) (fun c_1003 => ?_)
    · have hf := (if_neg c_1003).symm.trans hf
      refine lv_iload_n hx hb dX5_judge_58 rfl (lv_at hl 1 rfl) ?_
      exact x_iret hx hb hr hlocks hP hS dX5_judge_59 (Prod.mk.inj (Option.some.inj hf)).1 (Prod.mk.inj (Option.some.inj hf)).2
    · have hf := (if_pos c_1003).symm.trans hf
      refine lv_bipush (v := (20 : Int32)) hx hb dX5_judge_53 (by decide) ?_
      refine lv_goto (tgt := 59) hx hb dX5_judge_55 (by decide) ?_
      exact x_iret hx hb hr hlocks hP hS dX5_judge_59 (Prod.mk.inj (Option.some.inj hf)).1 (Prod.mk.inj (Option.some.inj hf)).2
  · have hf := (if_neg c_1002).symm.trans hf
    refine lv_bipush (v := (-9 : Int32)) hx hb dX5_judge_43 (by decide) ?_
    exact x_iret hx hb hr hlocks hP hS dX5_judge_45 (Prod.mk.inj (Option.some.inj hf)).1 (Prod.mk.inj (Option.some.inj hf)).2
set_option maxHeartbeats 40000000 in
set_option maxRecDepth 100000 in
theorem kX5_seen (l : Launch) (z : Cx) (hz : okC 40 z) {a0 : Int32} {a1 : Int32}  {σ σ' : Mm} {r : Int32} (hf : fX5_seen a0 a1 σ = some (r, σ')) : KG 40 ceX l yX5_seen wsX5_seen (1) (22) [.ref (z.2.1 0), .int a0, .int a1] z σ σ' (some (.int r)) := by
  rw [fX5_seen] at hf
  refine Met.ofW (cc := cX5_seen) (maxL := 3) (ret := (some .int)) (by decide) rfl ?_
  intro p e s m args below meth c s₁ B hml hv
  obtain ⟨rfl, hP, hK, hE⟩ := hv
  have hx := B.exec
  have hb := B.bytes
  have hr := B.returns
  have hts := atoms_spec (ws := wsX5_seen) B.pre
  have hown : s.vm.findClass RX5 = some m.cls := findClass_of_methodNamed B.named
  have hlocks := B.notSynchronized
  have in_X3 : ∀ w ∈ wsX30, w ∈ wsX5_seen := by decide +kernel
  have in_X5 : ∀ w ∈ wsX50, w ∈ wsX5_seen := by decide +kernel
  have hS : va_S (aG 40 z) s.heap s.heap [] := va_S.rf
  have hl := lv_entry ([.ref (z.2.1 0), .int a0, .int a1]) (n := 3) (Nat.le_of_ble_eq_true rfl)
  rw [lg_entry_eq]
  generalize (lg_sl ([.ref (z.2.1 0), .int a0, .int a1]) ++ List.replicate (3 - (lg_sl ([.ref (z.2.1 0), .int a0, .int a1])).length) Slot.unset).toArray = ls at hl ⊢
  have hl : lv_has ls 3 [(0, .ref (z.2.1 0)), (1, .int a0), (2, .int a1)] := hl
  refine lv_iload_n hx hb dX5_seen_0 rfl (lv_at hl 1 rfl) ?_
  refine lv_if_ge (tgt := 11) hx hb dX5_seen_1 (by decide) (fun c_1001 => ?_) (fun c_1001 => ?_)
  · have hf := (if_pos c_1001).symm.trans hf
    refine lv_iload_n hx hb dX5_seen_11 rfl (lv_at hl 2 rfl) ?_
    obtain ⟨q_1002, hq_1002, hf⟩ := x_bd hf
    refine x_callSi (va_runS (As := [.int a1]) (rest := []) ⟨hx, hb, hml, hown, hts⟩ (kX5_isNoBit l hq_1002) (va_cwS 1 hts gX5_seen_X5_isNoBit rfl rfl rfl (by decide +kernel) ⟨Nat.le_of_ble_eq_true rfl, Nat.le_of_ble_eq_true rfl⟩) psS rfl rfl hl.1 rfl (lv_room (Nat.le_of_ble_eq_true rfl)) dX5_seen_12 ⟨Nat.zero_le _, Nat.zero_le _⟩) ?_
    refine lv_if_eq (tgt := 25) hx hb dX5_seen_15 (by decide) (fun c_1003 => ?_) (fun c_1003 => ?_)
    · have hf := (if_pos c_1003).symm.trans hf
      refine lv_iload_n hx hb dX5_seen_25 rfl (lv_at hl 1 rfl) ?_
      refine lv_aload_n hx hb dX5_seen_26 rfl (lv_at hl 0 rfl) ?_
      refine va_get (D := z.1) (ci := 5) (v := .ref (z.2.1 1)) (C := RX5) (T := TX5) (N := 10) hx hb hts in_X5 hown hK hP 0 (wl_at (by decide) cX5) rfl 0 (by decide) (hts (.fieldLink RX5 10 "TillOneOfSort" "told" "LTillOneOfSort$Told;") (by decide +kernel)) (fun _ h9 => h9) rfl dX5_seen_27 ?_
      refine va_getN (D := z.1) (ci := 3) (v := .int (gI σ 1 5)) (C := RX3) (T := TX3) (N := 8) hx hb hts in_X3 hown hK hP 1 (wl_at (told_lt (rfl : isTold 1 = true)) (cX3 (rfl : isTold 1 = true))) rfl 5 (by decide) (hE.1.at (List.mem_of_getElem? (i := 2) rfl) rfl) (fun _ h9 => h9) rfl dX5_seen_30 ?_
      refine lv_icmp_lt (tgt := 39) hx hb dX5_seen_33 (by decide) (fun c_1004 => ?_) (fun c_1004 => ?_)
      · have hf := (if_pos c_1004).symm.trans hf
        refine lv_iload_n hx hb dX5_seen_39 rfl (lv_at hl 2 rfl) ?_
        refine lv_if_ne (tgt := 54) hx hb dX5_seen_40 (by decide) (fun c_1005 => ?_) (fun c_1005 => ?_)
        · have hf := (if_neg c_1005).symm.trans hf
          refine lv_aload_n hx hb dX5_seen_54 rfl (lv_at hl 0 rfl) ?_
          refine va_get (D := z.1) (ci := 5) (v := .ref (z.2.1 1)) (C := RX5) (T := TX5) (N := 10) hx hb hts in_X5 hown hK hP 0 (wl_at (by decide) cX5) rfl 0 (by decide) (hts (.fieldLink RX5 10 "TillOneOfSort" "told" "LTillOneOfSort$Told;") (by decide +kernel)) (fun _ h9 => h9) rfl dX5_seen_55 ?_
          refine lv_iload_n hx hb dX5_seen_58 rfl (lv_at hl 1 rfl) ?_
          obtain ⟨q_1006, hq_1006, hf⟩ := x_bd hf
          refine x_callGi (va_runV (As := [.int a0]) (rest := []) ⟨hx, hb, hml, hown, hts⟩ (kX3_sortsOf l z hz (rfl : isTold 1 = true) hq_1006) (cwV 1 hts gX5_seen_X3_sortsOf rfl rfl rfl (by decide +kernel) ⟨Nat.le_of_ble_eq_true rfl, Nat.le_of_ble_eq_true rfl⟩) (pvG hK hP hE hS (va_recv hK hP (ci := 3) (q0 := 1) rfl (wl_at (told_lt (rfl : isTold 1 = true)) (cX3 (rfl : isTold 1 = true))))) rfl rfl hl.1 rfl (lv_room (Nat.le_of_ble_eq_true rfl)) dX5_seen_59 ⟨Nat.zero_le _, Nat.zero_le _⟩) hS (fun H locs hP hS => ?_)
          exact x_iret hx hb hr hlocks hP hS dX5_seen_62 (Prod.mk.inj (Option.some.inj hf)).1 (Prod.mk.inj (Option.some.inj hf)).2
        · have hf := (if_pos c_1005).symm.trans hf
          refine lv_aload_n hx hb dX5_seen_43 rfl (lv_at hl 0 rfl) ?_
          refine va_get (D := z.1) (ci := 5) (v := .ref (z.2.1 1)) (C := RX5) (T := TX5) (N := 10) hx hb hts in_X5 hown hK hP 0 (wl_at (by decide) cX5) rfl 0 (by decide) (hts (.fieldLink RX5 10 "TillOneOfSort" "told" "LTillOneOfSort$Told;") (by decide +kernel)) (fun _ h9 => h9) rfl dX5_seen_44 ?_
          refine lv_iload_n hx hb dX5_seen_47 rfl (lv_at hl 1 rfl) ?_
          obtain ⟨q_1007, hq_1007, hf⟩ := x_bd hf
          refine x_callGi (va_runV (As := [.int a0]) (rest := []) ⟨hx, hb, hml, hown, hts⟩ (kX3_lengthOf l z hz (rfl : isTold 1 = true) hq_1007) (cwV 1 hts gX5_seen_X3_lengthOf rfl rfl rfl (by decide +kernel) ⟨Nat.le_of_ble_eq_true rfl, Nat.le_of_ble_eq_true rfl⟩) (pvG hK hP hE hS (va_recv hK hP (ci := 3) (q0 := 1) rfl (wl_at (told_lt (rfl : isTold 1 = true)) (cX3 (rfl : isTold 1 = true))))) rfl rfl hl.1 rfl (lv_room (Nat.le_of_ble_eq_true rfl)) dX5_seen_48 ⟨Nat.zero_le _, Nat.zero_le _⟩) hS (fun H locs hP hS => ?_)
          refine lv_goto (tgt := 62) hx hb dX5_seen_51 (by decide) ?_
          exact x_iret hx hb hr hlocks hP hS dX5_seen_62 (Prod.mk.inj (Option.some.inj hf)).1 (Prod.mk.inj (Option.some.inj hf)).2
      · have hf := (if_neg c_1004).symm.trans hf
        refine lv_bipush (v := (-9 : Int32)) hx hb dX5_seen_36 (by decide) ?_
        exact x_iret hx hb hr hlocks hP hS dX5_seen_38 (Prod.mk.inj (Option.some.inj hf)).1 (Prod.mk.inj (Option.some.inj hf)).2
    · have hf := (if_neg c_1003).symm.trans hf
      refine lv_aload_n hx hb dX5_seen_18 rfl (lv_at hl 0 rfl) ?_
      refine lv_bipush (v := (-2 : Int32)) hx hb dX5_seen_19 (by decide) ?_
      obtain ⟨q_1008, hq_1008, hf⟩ := x_bd hf
      refine x_callGi (va_runV (As := [.int (-2 : Int32)]) (rest := []) ⟨hx, hb, hml, hown, hts⟩ (kX5_refuse l z hz hq_1008) (cwV 1 hts gX5_seen_X5_refuse rfl rfl rfl (by decide +kernel) ⟨Nat.le_of_ble_eq_true rfl, Nat.le_of_ble_eq_true rfl⟩) (pvG hK hP hE hS (va_recv hK hP (ci := 5) (q0 := 0) rfl (wl_at (by decide) cX5))) rfl rfl hl.1 rfl (lv_room (Nat.le_of_ble_eq_true rfl)) dX5_seen_21 ⟨Nat.zero_le _, Nat.zero_le _⟩) hS (fun H locs hP hS => ?_)
      exact x_iret hx hb hr hlocks hP hS dX5_seen_24 (Prod.mk.inj (Option.some.inj hf)).1 (Prod.mk.inj (Option.some.inj hf)).2
  · have hf := (if_neg c_1001).symm.trans hf
    refine lv_aload_n hx hb dX5_seen_4 rfl (lv_at hl 0 rfl) ?_
    refine lv_bipush (v := (-4 : Int32)) hx hb dX5_seen_5 (by decide) ?_
    obtain ⟨q_1009, hq_1009, hf⟩ := x_bd hf
    refine x_callGi (va_runV (As := [.int (-4 : Int32)]) (rest := []) ⟨hx, hb, hml, hown, hts⟩ (kX5_refuse l z hz hq_1009) (cwV 1 hts gX5_seen_X5_refuse rfl rfl rfl (by decide +kernel) ⟨Nat.le_of_ble_eq_true rfl, Nat.le_of_ble_eq_true rfl⟩) (pvG hK hP hE hS (va_recv hK hP (ci := 5) (q0 := 0) rfl (wl_at (by decide) cX5))) rfl rfl hl.1 rfl (lv_room (Nat.le_of_ble_eq_true rfl)) dX5_seen_7 ⟨Nat.zero_le _, Nat.zero_le _⟩) hS (fun H locs hP hS => ?_)
    exact x_iret hx hb hr hlocks hP hS dX5_seen_10 (Prod.mk.inj (Option.some.inj hf)).1 (Prod.mk.inj (Option.some.inj hf)).2
set_option maxHeartbeats 40000000 in
set_option maxRecDepth 100000 in
theorem kX5_cheats (l : Launch) (z : Cx) (hz : okC 40 z)   {σ : Mm} {r : Int32} (hf : fX5_cheats σ = some r) : KG 40 ceX l yX5_cheats wsX5_cheats (3) (74) [.ref (z.2.1 0)] z σ σ (some (.int r)) := by
  rw [fX5_cheats] at hf
  refine Met.ofW (cc := cX5_cheats) (maxL := 1) (ret := (some .int)) (by decide) rfl ?_
  intro p e s m args below meth c s₁ B hml hv
  obtain ⟨rfl, hP, hK, hE⟩ := hv
  have hx := B.exec
  have hb := B.bytes
  have hr := B.returns
  have hts := atoms_spec (ws := wsX5_cheats) B.pre
  have hown : s.vm.findClass RX5 = some m.cls := findClass_of_methodNamed B.named
  have hlocks := B.notSynchronized
  have in_X3 : ∀ w ∈ wsX30, w ∈ wsX5_cheats := by decide +kernel
  have in_X5 : ∀ w ∈ wsX50, w ∈ wsX5_cheats := by decide +kernel
  have hS : va_S (aG 40 z) s.heap s.heap [] := va_S.rf
  have hl := lv_entry ([.ref (z.2.1 0)]) (n := 1) (Nat.le_of_ble_eq_true rfl)
  rw [lg_entry_eq]
  generalize (lg_sl ([.ref (z.2.1 0)]) ++ List.replicate (1 - (lg_sl ([.ref (z.2.1 0)])).length) Slot.unset).toArray = ls at hl ⊢
  have hl : lv_has ls 1 [(0, .ref (z.2.1 0))] := hl
  refine lv_aload_n hx hb dX5_cheats_0 rfl (lv_at hl 0 rfl) ?_
  refine va_get (D := z.1) (ci := 5) (v := .ref (z.2.1 1)) (C := RX5) (T := TX5) (N := 10) hx hb hts in_X5 hown hK hP 0 (wl_at (by decide) cX5) rfl 0 (by decide) (hts (.fieldLink RX5 10 "TillOneOfSort" "told" "LTillOneOfSort$Told;") (by decide +kernel)) (fun _ h9 => h9) rfl dX5_cheats_1 ?_
  refine lv_aload_n hx hb dX5_cheats_4 rfl (lv_at hl 0 rfl) ?_
  refine va_get (D := z.1) (ci := 5) (v := .ref (z.2.1 1)) (C := RX5) (T := TX5) (N := 10) hx hb hts in_X5 hown hK hP 0 (wl_at (by decide) cX5) rfl 0 (by decide) (hts (.fieldLink RX5 10 "TillOneOfSort" "told" "LTillOneOfSort$Told;") (by decide +kernel)) (fun _ h9 => h9) rfl dX5_cheats_5 ?_
  refine va_getN (D := z.1) (ci := 3) (v := .int (gI σ 1 0)) (C := RX3) (T := TX3) (N := 8) hx hb hts in_X3 hown hK hP 1 (wl_at (told_lt (rfl : isTold 1 = true)) (cX3 (rfl : isTold 1 = true))) rfl 0 (by decide) (hE.1.at (List.mem_of_getElem? (i := 5) rfl) rfl) (fun _ h9 => h9) rfl dX5_cheats_8 ?_
  obtain ⟨q_1001, hq_1001, hf⟩ := x_bd hf
  refine x_callGi (va_runV (As := [.int (gI σ 1 0)]) (rest := []) ⟨hx, hb, hml, hown, hts⟩ (kX3_countStoppedAhead l z hz (rfl : isTold 1 = true) hq_1001) (cwV 1 hts gX5_cheats_X3_countStoppedAhead rfl rfl rfl (by decide +kernel) ⟨Nat.le_of_ble_eq_true rfl, Nat.le_of_ble_eq_true rfl⟩) (pvG hK hP hE hS (va_recv hK hP (ci := 3) (q0 := 1) rfl (wl_at (told_lt (rfl : isTold 1 = true)) (cX3 (rfl : isTold 1 = true))))) rfl rfl hl.1 rfl (lv_room (Nat.le_of_ble_eq_true rfl)) dX5_cheats_11 ⟨Nat.zero_le _, Nat.zero_le _⟩) hS (fun H locs hP hS => ?_)
  exact x_iret hx hb hr hlocks hP hS dX5_cheats_14 (Option.some.inj hf) rfl
set_option maxHeartbeats 40000000 in
set_option maxRecDepth 100000 in
theorem kX5_countLots (l : Launch) (z : Cx) (hz : okC 40 z) {a0 : Int32} {a1 : Int32} {a2 : Int32}  {σ : Mm} {r : Int32} (hf : fX5_countLots a0 a1 a2 σ = some r) : KG 40 ceX l yX5_countLots wsX5_countLots (2) (45) [.ref (z.2.1 0), .int a0, .int a1, .int a2] z σ σ (some (.int r)) := by
  rw [fX5_countLots] at hf
  refine Met.ofW (cc := cX5_countLots) (maxL := 13) (ret := (some .int)) (by decide) rfl ?_
  intro p e s m args below meth c s₁ B hml hv
  obtain ⟨rfl, hP, hK, hE⟩ := hv
  have hx := B.exec
  have hb := B.bytes
  have hr := B.returns
  have hts := atoms_spec (ws := wsX5_countLots) B.pre
  have hown : s.vm.findClass RX5 = some m.cls := findClass_of_methodNamed B.named
  have hlocks := B.notSynchronized
  have in_X3 : ∀ w ∈ wsX30, w ∈ wsX5_countLots := by decide +kernel
  have in_X5 : ∀ w ∈ wsX50, w ∈ wsX5_countLots := by decide +kernel
  have hS : va_S (aG 40 z) s.heap s.heap [] := va_S.rf
  have hl := lv_entry ([.ref (z.2.1 0), .int a0, .int a1, .int a2]) (n := 13) (Nat.le_of_ble_eq_true rfl)
  rw [lg_entry_eq]
  generalize (lg_sl ([.ref (z.2.1 0), .int a0, .int a1, .int a2]) ++ List.replicate (13 - (lg_sl ([.ref (z.2.1 0), .int a0, .int a1, .int a2])).length) Slot.unset).toArray = ls at hl ⊢
  have hl : lv_has ls 13 [(0, .ref (z.2.1 0)), (1, .int a0), (2, .int a1), (3, .int a2)] := hl
  have L_9 : ∀ (n_9 : Nat) (v1 : Int32) (v3 : Int32) (v4 : Int32) (v5 : Int32) (v6 : Int32) (H : Heap) (locs : List Loc) (ls : Array Slot), va_P z.1 vwCl (wl 40 z.2.1 (ceX z σ)) H → va_S (aG 40 z) s.heap H locs → lv_has ls 13 [(0, .ref (z.2.1 0)), (1, .int v1), (3, .int v3), (4, .int v4), (5, .int v5), (6, .int v6)] → fX5_countLots_9 σ n_9 v1 v3 v4 v5 v6 = some r → W p l e (headSpec wsX5_countLots ({ frames := 2, cells := 0, slots := 0, locals := 45 })).room s m ([.ref (z.2.1 0), .int a0, .int a1, .int a2] : List Value).toArray below meth c H locs 0 0 (MQ below (qcG 40 ceX z σ (some (.int r))) ([.ref (z.2.1 0), .int a0, .int a1, .int a2] : List Value).toArray s 0 0 (aG 40 z)) (F0 m 9 ls []) := by
    intro n_9
    induction n_9 with
    | zero =>
      intro v1 v3 v4 v5 v6 H locs ls hP hS hl hf
      rw [fX5_countLots_9] at hf
      cases hf
    | succ n_9 ih_9 =>
      have j_182 : ∀ (v1 : Int32) (v3 : Int32) (v4 : Int32) (v6 : Int32) (t0 : Int32) (t1 : Int32) (H : Heap) (locs : List Loc) (ls : Array Slot), va_P z.1 vwCl (wl 40 z.2.1 (ceX z σ)) H → va_S (aG 40 z) s.heap H locs → lv_has ls 13 [(0, .ref (z.2.1 0)), (1, .int v1), (3, .int v3), (4, .int v4), (6, .int v6)] → fX5_countLots_182 σ (fun wv1 wv3 wv4 wv5 wv6 => fX5_countLots_9 σ n_9 wv1 wv3 wv4 wv5 wv6) v1 v3 v4 v6 t0 t1 = some r → W p l e (headSpec wsX5_countLots ({ frames := 2, cells := 0, slots := 0, locals := 45 })).room s m ([.ref (z.2.1 0), .int a0, .int a1, .int a2] : List Value).toArray below meth c H locs 0 0 (MQ below (qcG 40 ceX z σ (some (.int r))) ([.ref (z.2.1 0), .int a0, .int a1, .int a2] : List Value).toArray s 0 0 (aG 40 z)) (F0 m 182 ls [.int t0, .int t1]) := by
        intro v1 v3 v4 v6 t0 t1 H locs ls hP hS hl hf
        rw [fX5_countLots_182] at hf
        refine lv_iadd hx hb dX5_countLots_182 ?_
        refine lv_istore (lv' := [(5, .int (t1 + t0)), (0, .ref (z.2.1 0)), (1, .int v1), (3, .int v3), (4, .int v4), (6, .int v6)]) hx hb dX5_countLots_183 hl (by decide) rfl (fun ls hl => ?_)
        refine lv_iinc (v := (v6 + (1 : Int32))) (lv' := [(6, .int (v6 + (1 : Int32))), (5, .int (t1 + t0)), (0, .ref (z.2.1 0)), (1, .int v1), (3, .int v3), (4, .int v4)]) hx hb dX5_countLots_185 hl (k := 5) rfl rfl (by decide) rfl (fun ls hl => ?_)
        refine lv_goto (tgt := 9) hx hb dX5_countLots_188 (by decide) ?_
        exact ih_9 v1 v3 v4 (t1 + t0) (v6 + (1 : Int32)) _ _ _ hP hS (lv_sub hl [2, 3, 4, 5, 1, 0] rfl) hf
      have j_165 : ∀ (v1 : Int32) (v3 : Int32) (v4 : Int32) (v5 : Int32) (v6 : Int32) (v7 : Int32) (v9 : Int32) (H : Heap) (locs : List Loc) (ls : Array Slot), va_P z.1 vwCl (wl 40 z.2.1 (ceX z σ)) H → va_S (aG 40 z) s.heap H locs → lv_has ls 13 [(0, .ref (z.2.1 0)), (1, .int v1), (3, .int v3), (4, .int v4), (5, .int v5), (6, .int v6), (7, .int v7), (9, .int v9)] → fX5_countLots_165 σ (fun wv1 wv3 wv4 wv5 wv6 => fX5_countLots_9 σ n_9 wv1 wv3 wv4 wv5 wv6) v1 v3 v4 v5 v6 v7 v9 = some r → W p l e (headSpec wsX5_countLots ({ frames := 2, cells := 0, slots := 0, locals := 45 })).room s m ([.ref (z.2.1 0), .int a0, .int a1, .int a2] : List Value).toArray below meth c H locs 0 0 (MQ below (qcG 40 ceX z σ (some (.int r))) ([.ref (z.2.1 0), .int a0, .int a1, .int a2] : List Value).toArray s 0 0 (aG 40 z)) (F0 m 165 ls []) := by
        intro v1 v3 v4 v5 v6 v7 v9 H locs ls hP hS hl hf
        rw [fX5_countLots_165] at hf
        refine lv_iload hx hb dX5_countLots_165 (lv_at hl 4 rfl) ?_
        refine lv_iload_n hx hb dX5_countLots_167 rfl (lv_at hl 2 rfl) ?_
        refine lv_iconst (v := (1 : Int32)) hx hb dX5_countLots_168 (by decide) ?_
        refine lv_icmp_ne (tgt := 177) hx hb dX5_countLots_169 (by decide) (fun c_2 => ?_) (fun c_2 => ?_)
        · have hf := (if_neg c_2).symm.trans hf
          refine lv_iload hx hb dX5_countLots_177 (lv_at hl 7 rfl) ?_
          refine lv_iload hx hb dX5_countLots_179 (lv_at hl 6 rfl) ?_
          refine lv_isub hx hb dX5_countLots_181 ?_
          exact j_182 v1 v3 v4 v6 (v9 - v7) v5 _ _ _ hP hS (lv_sub hl [0, 1, 2, 3, 5] rfl) hf
        · have hf := (if_pos c_2).symm.trans hf
          refine lv_iload hx hb dX5_countLots_172 (lv_at hl 6 rfl) ?_
          refine lv_goto (tgt := 182) hx hb dX5_countLots_174 (by decide) ?_
          exact j_182 v1 v3 v4 v6 v7 v5 _ _ _ hP hS (lv_sub hl [0, 1, 2, 3, 5] rfl) hf
      have L_27 : ∀ (n_27 : Nat) (v1 : Int32) (v3 : Int32) (v4 : Int32) (v5 : Int32) (v6 : Int32) (v7 : Int32) (v8 : Int32) (v9 : Int32) (v10 : Int32) (H : Heap) (locs : List Loc) (ls : Array Slot), va_P z.1 vwCl (wl 40 z.2.1 (ceX z σ)) H → va_S (aG 40 z) s.heap H locs → lv_has ls 13 [(0, .ref (z.2.1 0)), (1, .int v1), (3, .int v3), (4, .int v4), (5, .int v5), (6, .int v6), (7, .int v7), (8, .int v8), (9, .int v9), (10, .int v10)] → fX5_countLots_27 σ (fun wv1 wv3 wv4 wv5 wv6 => fX5_countLots_9 σ n_9 wv1 wv3 wv4 wv5 wv6) n_27 v1 v3 v4 v5 v6 v7 v8 v9 v10 = some r → W p l e (headSpec wsX5_countLots ({ frames := 2, cells := 0, slots := 0, locals := 45 })).room s m ([.ref (z.2.1 0), .int a0, .int a1, .int a2] : List Value).toArray below meth c H locs 0 0 (MQ below (qcG 40 ceX z σ (some (.int r))) ([.ref (z.2.1 0), .int a0, .int a1, .int a2] : List Value).toArray s 0 0 (aG 40 z)) (F0 m 27 ls []) := by
        intro n_27
        induction n_27 with
        | zero =>
          intro v1 v3 v4 v5 v6 v7 v8 v9 v10 H locs ls hP hS hl hf
          rw [fX5_countLots_27] at hf
          cases hf
        | succ n_27 ih_27 =>
          have j_132 : ∀ (v1 : Int32) (v3 : Int32) (v4 : Int32) (v5 : Int32) (v6 : Int32) (v7 : Int32) (v9 : Int32) (t0 : Int32) (H : Heap) (locs : List Loc) (ls : Array Slot), va_P z.1 vwCl (wl 40 z.2.1 (ceX z σ)) H → va_S (aG 40 z) s.heap H locs → lv_has ls 13 [(0, .ref (z.2.1 0)), (1, .int v1), (3, .int v3), (4, .int v4), (5, .int v5), (6, .int v6), (7, .int v7), (9, .int v9)] → fX5_countLots_132 σ (fun wv1 wv3 wv4 wv5 wv6 => fX5_countLots_9 σ n_9 wv1 wv3 wv4 wv5 wv6) (fun wv1 wv3 wv4 wv5 wv6 wv7 wv8 wv9 wv10 => fX5_countLots_27 σ (fun wv1 wv3 wv4 wv5 wv6 => fX5_countLots_9 σ n_9 wv1 wv3 wv4 wv5 wv6) n_27 wv1 wv3 wv4 wv5 wv6 wv7 wv8 wv9 wv10) v1 v3 v4 v5 v6 v7 v9 t0 = some r → W p l e (headSpec wsX5_countLots ({ frames := 2, cells := 0, slots := 0, locals := 45 })).room s m ([.ref (z.2.1 0), .int a0, .int a1, .int a2] : List Value).toArray below meth c H locs 0 0 (MQ below (qcG 40 ceX z σ (some (.int r))) ([.ref (z.2.1 0), .int a0, .int a1, .int a2] : List Value).toArray s 0 0 (aG 40 z)) (F0 m 132 ls [.int t0]) := by
            intro v1 v3 v4 v5 v6 v7 v9 t0 H locs ls hP hS hl hf
            rw [fX5_countLots_132] at hf
            refine lv_istore (lv' := [(8, .int t0), (0, .ref (z.2.1 0)), (1, .int v1), (3, .int v3), (4, .int v4), (5, .int v5), (6, .int v6), (7, .int v7), (9, .int v9)]) hx hb dX5_countLots_132 hl (by decide) rfl (fun ls hl => ?_)
            refine lv_aload_n hx hb dX5_countLots_134 rfl (lv_at hl 1 rfl) ?_
            refine va_get (D := z.1) (ci := 5) (v := .ref (z.2.1 1)) (C := RX5) (T := TX5) (N := 10) hx hb hts in_X5 hown hK hP 0 (wl_at (by decide) cX5) rfl 0 (by decide) (hts (.fieldLink RX5 10 "TillOneOfSort" "told" "LTillOneOfSort$Told;") (by decide +kernel)) (fun _ h9 => h9) rfl dX5_countLots_135 ?_
            refine va_getN (D := z.1) (ci := 3) (v := .int (gI σ 1 0)) (C := RX3) (T := TX3) (N := 8) hx hb hts in_X3 hown hK hP 1 (wl_at (told_lt (rfl : isTold 1 = true)) (cX3 (rfl : isTold 1 = true))) rfl 0 (by decide) (hE.1.at (List.mem_of_getElem? (i := 5) rfl) rfl) (fun _ h9 => h9) rfl dX5_countLots_138 ?_
            refine lv_aload_n hx hb dX5_countLots_141 rfl (lv_at hl 1 rfl) ?_
            refine va_get (D := z.1) (ci := 5) (v := .ref (z.2.1 1)) (C := RX5) (T := TX5) (N := 10) hx hb hts in_X5 hown hK hP 0 (wl_at (by decide) cX5) rfl 0 (by decide) (hts (.fieldLink RX5 10 "TillOneOfSort" "told" "LTillOneOfSort$Told;") (by decide +kernel)) (fun _ h9 => h9) rfl dX5_countLots_142 ?_
            refine va_getN (D := z.1) (ci := 3) (v := .int (gI σ 1 1)) (C := RX3) (T := TX3) (N := 8) hx hb hts in_X3 hown hK hP 1 (wl_at (told_lt (rfl : isTold 1 = true)) (cX3 (rfl : isTold 1 = true))) rfl 1 (by decide) (hE.1.at (List.mem_of_getElem? (i := 6) rfl) rfl) (fun _ h9 => h9) rfl dX5_countLots_145 ?_
            refine lv_iload hx hb dX5_countLots_148 (lv_at hl 7 rfl) ?_
            refine lv_iload hx hb dX5_countLots_150 (lv_at hl 8 rfl) ?_
            refine lv_iload hx hb dX5_countLots_152 (lv_at hl 7 rfl) ?_
            refine lv_isub hx hb dX5_countLots_154 ?_
            refine lv_iload hx hb dX5_countLots_155 (lv_at hl 0 rfl) ?_
            obtain ⟨q_7, hq_7, hf⟩ := x_bd hf
            refine x_callSi (va_runS (As := [.int (gI σ 1 0), .int (gI σ 1 1), .int v7, .int (v9 - v7), .int t0]) (rest := []) ⟨hx, hb, hml, hown, hts⟩ (kX5_lawStops l hq_7) (va_cwS 5 hts gX5_countLots_X5_lawStops rfl rfl rfl (by decide +kernel) ⟨Nat.le_of_ble_eq_true rfl, Nat.le_of_ble_eq_true rfl⟩) psS rfl rfl hl.1 rfl (lv_room (Nat.le_of_ble_eq_true rfl)) dX5_countLots_157 ⟨Nat.zero_le _, Nat.zero_le _⟩) ?_
            refine lv_istore (lv' := [(10, .int q_7), (8, .int t0), (0, .ref (z.2.1 0)), (1, .int v1), (3, .int v3), (4, .int v4), (5, .int v5), (6, .int v6), (7, .int v7), (9, .int v9)]) hx hb dX5_countLots_160 hl (by decide) rfl (fun ls hl => ?_)
            refine lv_goto (tgt := 27) hx hb dX5_countLots_162 (by decide) ?_
            exact ih_27 v1 v3 v4 v5 v6 v7 t0 v9 q_7 _ _ _ hP hS (lv_sub hl [2, 3, 4, 5, 6, 7, 8, 1, 9, 0] rfl) hf
          have j_116 : ∀ (v1 : Int32) (v3 : Int32) (v4 : Int32) (v5 : Int32) (v6 : Int32) (v8 : Int32) (v9 : Int32) (v12 : Int32) (t0 : Int32) (t1 : Int32) (H : Heap) (locs : List Loc) (ls : Array Slot), va_P z.1 vwCl (wl 40 z.2.1 (ceX z σ)) H → va_S (aG 40 z) s.heap H locs → lv_has ls 13 [(0, .ref (z.2.1 0)), (1, .int v1), (3, .int v3), (4, .int v4), (5, .int v5), (6, .int v6), (8, .int v8), (9, .int v9), (12, .int v12)] → fX5_countLots_116 σ (fun wv1 wv3 wv4 wv5 wv6 => fX5_countLots_9 σ n_9 wv1 wv3 wv4 wv5 wv6) (fun wv1 wv3 wv4 wv5 wv6 wv7 wv8 wv9 wv10 => fX5_countLots_27 σ (fun wv1 wv3 wv4 wv5 wv6 => fX5_countLots_9 σ n_9 wv1 wv3 wv4 wv5 wv6) n_27 wv1 wv3 wv4 wv5 wv6 wv7 wv8 wv9 wv10) v1 v3 v4 v5 v6 v8 v9 v12 t0 t1 = some r → W p l e (headSpec wsX5_countLots ({ frames := 2, cells := 0, slots := 0, locals := 45 })).room s m ([.ref (z.2.1 0), .int a0, .int a1, .int a2] : List Value).toArray below meth c H locs 0 0 (MQ below (qcG 40 ceX z σ (some (.int r))) ([.ref (z.2.1 0), .int a0, .int a1, .int a2] : List Value).toArray s 0 0 (aG 40 z)) (F0 m 116 ls [.int t0, .int t1]) := by
            intro v1 v3 v4 v5 v6 v8 v9 v12 t0 t1 H locs ls hP hS hl hf
            rw [fX5_countLots_116] at hf
            refine lv_iadd hx hb dX5_countLots_116 ?_
            refine lv_istore (lv' := [(7, .int (t1 + t0)), (0, .ref (z.2.1 0)), (1, .int v1), (3, .int v3), (4, .int v4), (5, .int v5), (6, .int v6), (8, .int v8), (9, .int v9), (12, .int v12)]) hx hb dX5_countLots_117 hl (by decide) rfl (fun ls hl => ?_)
            refine lv_iload hx hb dX5_countLots_119 (lv_at hl 9 rfl) ?_
            refine lv_if_eq (tgt := 131) hx hb dX5_countLots_121 (by decide) (fun c_8 => ?_) (fun c_8 => ?_)
            · have hf := (if_pos c_8).symm.trans hf
              refine lv_iconst (v := (0 : Int32)) hx hb dX5_countLots_131 (by decide) ?_
              exact j_132 v1 v3 v4 v5 v6 (t1 + t0) v9 (0 : Int32) _ _ _ hP hS (lv_sub hl [1, 2, 3, 4, 5, 6, 0, 8] rfl) hf
            · have hf := (if_neg c_8).symm.trans hf
              refine lv_iload hx hb dX5_countLots_124 (lv_at hl 7 rfl) ?_
              refine lv_iconst (v := (1 : Int32)) hx hb dX5_countLots_126 (by decide) ?_
              refine lv_iadd hx hb dX5_countLots_127 ?_
              refine lv_goto (tgt := 132) hx hb dX5_countLots_128 (by decide) ?_
              exact j_132 v1 v3 v4 v5 v6 (t1 + t0) v9 (v8 + (1 : Int32)) _ _ _ hP hS (lv_sub hl [1, 2, 3, 4, 5, 6, 0, 8] rfl) hf
          have j_99 : ∀ (v1 : Int32) (v3 : Int32) (v4 : Int32) (v5 : Int32) (v6 : Int32) (v7 : Int32) (v8 : Int32) (v9 : Int32) (t0 : Int32) (H : Heap) (locs : List Loc) (ls : Array Slot), va_P z.1 vwCl (wl 40 z.2.1 (ceX z σ)) H → va_S (aG 40 z) s.heap H locs → lv_has ls 13 [(0, .ref (z.2.1 0)), (1, .int v1), (3, .int v3), (4, .int v4), (5, .int v5), (6, .int v6), (7, .int v7), (8, .int v8), (9, .int v9)] → fX5_countLots_99 σ (fun wv1 wv3 wv4 wv5 wv6 => fX5_countLots_9 σ n_9 wv1 wv3 wv4 wv5 wv6) (fun wv1 wv3 wv4 wv5 wv6 wv7 wv8 wv9 wv10 => fX5_countLots_27 σ (fun wv1 wv3 wv4 wv5 wv6 => fX5_countLots_9 σ n_9 wv1 wv3 wv4 wv5 wv6) n_27 wv1 wv3 wv4 wv5 wv6 wv7 wv8 wv9 wv10) v1 v3 v4 v5 v6 v7 v8 v9 t0 = some r → W p l e (headSpec wsX5_countLots ({ frames := 2, cells := 0, slots := 0, locals := 45 })).room s m ([.ref (z.2.1 0), .int a0, .int a1, .int a2] : List Value).toArray below meth c H locs 0 0 (MQ below (qcG 40 ceX z σ (some (.int r))) ([.ref (z.2.1 0), .int a0, .int a1, .int a2] : List Value).toArray s 0 0 (aG 40 z)) (F0 m 99 ls [.int t0]) := by
            intro v1 v3 v4 v5 v6 v7 v8 v9 t0 H locs ls hP hS hl hf
            rw [fX5_countLots_99] at hf
            refine lv_istore (lv' := [(12, .int t0), (0, .ref (z.2.1 0)), (1, .int v1), (3, .int v3), (4, .int v4), (5, .int v5), (6, .int v6), (7, .int v7), (8, .int v8), (9, .int v9)]) hx hb dX5_countLots_99 hl (by decide) rfl (fun ls hl => ?_)
            refine lv_iinc (v := (v9 + (1 : Int32))) (lv' := [(9, .int (v9 + (1 : Int32))), (12, .int t0), (0, .ref (z.2.1 0)), (1, .int v1), (3, .int v3), (4, .int v4), (5, .int v5), (6, .int v6), (7, .int v7), (8, .int v8)]) hx hb dX5_countLots_101 hl (k := 9) rfl rfl (by decide) rfl (fun ls hl => ?_)
            refine lv_iload hx hb dX5_countLots_104 (lv_at hl 8 rfl) ?_
            refine lv_iload hx hb dX5_countLots_106 (lv_at hl 1 rfl) ?_
            refine lv_if_eq (tgt := 115) hx hb dX5_countLots_108 (by decide) (fun c_9 => ?_) (fun c_9 => ?_)
            · have hf := (if_pos c_9).symm.trans hf
              refine lv_iconst (v := (0 : Int32)) hx hb dX5_countLots_115 (by decide) ?_
              exact j_116 v1 v3 v4 v5 v6 v8 (v9 + (1 : Int32)) t0 (0 : Int32) v7 _ _ _ hP hS (lv_sub hl [2, 3, 4, 5, 6, 7, 9, 0, 1] rfl) hf
            · have hf := (if_neg c_9).symm.trans hf
              refine lv_iconst (v := (1 : Int32)) hx hb dX5_countLots_111 (by decide) ?_
              refine lv_goto (tgt := 116) hx hb dX5_countLots_112 (by decide) ?_
              exact j_116 v1 v3 v4 v5 v6 v8 (v9 + (1 : Int32)) t0 (1 : Int32) v7 _ _ _ hP hS (lv_sub hl [2, 3, 4, 5, 6, 7, 9, 0, 1] rfl) hf
          intro v1 v3 v4 v5 v6 v7 v8 v9 v10 H locs ls hP hS hl hf
          rw [fX5_countLots_27] at hf
          refine lv_iload hx hb dX5_countLots_27 (lv_at hl 8 rfl) ?_
          refine lv_aload_n hx hb dX5_countLots_29 rfl (lv_at hl 0 rfl) ?_
          refine va_get (D := z.1) (ci := 5) (v := .ref (z.2.1 1)) (C := RX5) (T := TX5) (N := 10) hx hb hts in_X5 hown hK hP 0 (wl_at (by decide) cX5) rfl 0 (by decide) (hts (.fieldLink RX5 10 "TillOneOfSort" "told" "LTillOneOfSort$Told;") (by decide +kernel)) (fun _ h9 => h9) rfl dX5_countLots_30 ?_
          refine va_getN (D := z.1) (ci := 3) (v := .int (gI σ 1 2)) (C := RX3) (T := TX3) (N := 8) hx hb hts in_X3 hown hK hP 1 (wl_at (told_lt (rfl : isTold 1 = true)) (cX3 (rfl : isTold 1 = true))) rfl 2 (by decide) (hE.1.at (List.mem_of_getElem? (i := 3) rfl) rfl) (fun _ h9 => h9) rfl dX5_countLots_33 ?_
          refine lv_icmp_ge (tgt := 165) hx hb dX5_countLots_36 (by decide) (fun c_3 => ?_) (fun c_3 => ?_)
          · have hf := (if_pos c_3).symm.trans hf
            exact j_165 v1 v3 v4 v5 v6 v7 v9 _ _ _ hP hS (lv_sub hl [0, 1, 2, 3, 4, 5, 6, 8] rfl) hf
          · have hf := (if_neg c_3).symm.trans hf
            refine lv_iload hx hb dX5_countLots_39 (lv_at hl 9 rfl) ?_
            refine lv_if_ne (tgt := 165) hx hb dX5_countLots_41 (by decide) (fun c_4 => ?_) (fun c_4 => ?_)
            · have hf := (if_neg c_4).symm.trans hf
              exact j_165 v1 v3 v4 v5 v6 v7 v9 _ _ _ hP hS (lv_sub hl [0, 1, 2, 3, 4, 5, 6, 8] rfl) hf
            · have hf := (if_pos c_4).symm.trans hf
              refine lv_iload hx hb dX5_countLots_44 (lv_at hl 3 rfl) ?_
              refine lv_ldc (v := (1664525 : Int32)) hx hb hown (hts (.constant RX5 211 (1664525 : Int32)) (by decide +kernel)) dX5_countLots_46 ?_
              refine lv_imul hx hb dX5_countLots_48 ?_
              refine lv_ldc (v := (1013904223 : Int32)) hx hb hown (hts (.constant RX5 212 (1013904223 : Int32)) (by decide +kernel)) dX5_countLots_49 ?_
              refine lv_iadd hx hb dX5_countLots_51 ?_
              refine lv_istore (lv' := [(4, .int ((v4 * (1664525 : Int32)) + (1013904223 : Int32))), (0, .ref (z.2.1 0)), (1, .int v1), (3, .int v3), (5, .int v5), (6, .int v6), (7, .int v7), (8, .int v8), (9, .int v9), (10, .int v10)]) hx hb dX5_countLots_52 hl (by decide) rfl (fun ls hl => ?_)
              refine lv_iload hx hb dX5_countLots_54 (lv_at hl 0 rfl) ?_
              refine lv_ldc (v := (2147483647 : Int32)) hx hb hown (hts (.constant RX5 213 (2147483647 : Int32)) (by decide +kernel)) dX5_countLots_56 ?_
              refine lv_iand hx hb dX5_countLots_58 ?_
              refine lv_sipush (v := (256 : Int32)) hx hb dX5_countLots_59 (by decide) ?_
              refine lv_idiv hx hb dX5_countLots_62 (by decide) ?_
              refine lv_bipush (v := (12 : Int32)) hx hb dX5_countLots_63 (by decide) ?_
              refine lv_irem hx hb dX5_countLots_65 (by decide) ?_
              refine lv_istore (lv' := [(11, .int (((((v4 * (1664525 : Int32)) + (1013904223 : Int32)) &&& (2147483647 : Int32)) / (256 : Int32)) - ((((v4 * (1664525 : Int32)) + (1013904223 : Int32)) &&& (2147483647 : Int32)) / (256 : Int32)) / (12 : Int32) * (12 : Int32))), (4, .int ((v4 * (1664525 : Int32)) + (1013904223 : Int32))), (0, .ref (z.2.1 0)), (1, .int v1), (3, .int v3), (5, .int v5), (6, .int v6), (7, .int v7), (8, .int v8), (9, .int v9), (10, .int v10)]) hx hb dX5_countLots_66 hl (by decide) rfl (fun ls hl => ?_)
              refine lv_iload hx hb dX5_countLots_68 (lv_at hl 0 rfl) ?_
              refine lv_aload_n hx hb dX5_countLots_70 rfl (lv_at hl 2 rfl) ?_
              refine va_get (D := z.1) (ci := 5) (v := .ref (z.2.1 1)) (C := RX5) (T := TX5) (N := 10) hx hb hts in_X5 hown hK hP 0 (wl_at (by decide) cX5) rfl 0 (by decide) (hts (.fieldLink RX5 10 "TillOneOfSort" "told" "LTillOneOfSort$Told;") (by decide +kernel)) (fun _ h9 => h9) rfl dX5_countLots_71 ?_
              refine va_getN (D := z.1) (ci := 3) (v := .int (gI σ 1 3)) (C := RX3) (T := TX3) (N := 8) hx hb hts in_X3 hown hK hP 1 (wl_at (told_lt (rfl : isTold 1 = true)) (cX3 (rfl : isTold 1 = true))) rfl 3 (by decide) (hE.1.at (List.mem_of_getElem? (i := 0) rfl) rfl) (fun _ h9 => h9) rfl dX5_countLots_74 ?_
              refine lv_aload_n hx hb dX5_countLots_77 rfl (lv_at hl 2 rfl) ?_
              refine va_get (D := z.1) (ci := 5) (v := .ref (z.2.1 1)) (C := RX5) (T := TX5) (N := 10) hx hb hts in_X5 hown hK hP 0 (wl_at (by decide) cX5) rfl 0 (by decide) (hts (.fieldLink RX5 10 "TillOneOfSort" "told" "LTillOneOfSort$Told;") (by decide +kernel)) (fun _ h9 => h9) rfl dX5_countLots_78 ?_
              refine va_getN (D := z.1) (ci := 3) (v := .int (gI σ 1 4)) (C := RX3) (T := TX3) (N := 8) hx hb hts in_X3 hown hK hP 1 (wl_at (told_lt (rfl : isTold 1 = true)) (cX3 (rfl : isTold 1 = true))) rfl 4 (by decide) (hE.1.at (List.mem_of_getElem? (i := 1) rfl) rfl) (fun _ h9 => h9) rfl dX5_countLots_81 ?_
              refine lv_iload hx hb dX5_countLots_84 (lv_at hl 9 rfl) ?_
              refine lv_iload hx hb dX5_countLots_86 (lv_at hl 8 rfl) ?_
              obtain ⟨q_5, hq_5, hf⟩ := x_bd hf
              refine x_callSi (va_runS (As := [.int (gI σ 1 3), .int (gI σ 1 4), .int v9, .int v8]) (rest := [.int (((((v4 * (1664525 : Int32)) + (1013904223 : Int32)) &&& (2147483647 : Int32)) / (256 : Int32)) - ((((v4 * (1664525 : Int32)) + (1013904223 : Int32)) &&& (2147483647 : Int32)) / (256 : Int32)) / (12 : Int32) * (12 : Int32))]) ⟨hx, hb, hml, hown, hts⟩ (kX5_chanceOfOne l hq_5) (va_cwS 4 hts gX5_countLots_X5_chanceOfOne rfl rfl rfl (by decide +kernel) ⟨Nat.le_of_ble_eq_true rfl, Nat.le_of_ble_eq_true rfl⟩) psS rfl rfl hl.1 rfl (lv_room (Nat.le_of_ble_eq_true rfl)) dX5_countLots_88 ⟨Nat.zero_le _, Nat.zero_le _⟩) ?_
              refine lv_icmp_ge (tgt := 98) hx hb dX5_countLots_91 (by decide) (fun c_6 => ?_) (fun c_6 => ?_)
              · have hf := (if_pos c_6).symm.trans hf
                refine lv_iconst (v := (0 : Int32)) hx hb dX5_countLots_98 (by decide) ?_
                exact j_99 v1 v3 ((v4 * (1664525 : Int32)) + (1013904223 : Int32)) v5 v6 v7 v8 v9 (0 : Int32) _ _ _ hP hS (lv_sub hl [2, 3, 4, 1, 5, 6, 7, 8, 9] rfl) hf
              · have hf := (if_neg c_6).symm.trans hf
                refine lv_iconst (v := (1 : Int32)) hx hb dX5_countLots_94 (by decide) ?_
                refine lv_goto (tgt := 99) hx hb dX5_countLots_95 (by decide) ?_
                exact j_99 v1 v3 ((v4 * (1664525 : Int32)) + (1013904223 : Int32)) v5 v6 v7 v8 v9 (1 : Int32) _ _ _ hP hS (lv_sub hl [2, 3, 4, 1, 5, 6, 7, 8, 9] rfl) hf
      intro v1 v3 v4 v5 v6 H locs ls hP hS hl hf
      rw [fX5_countLots_9] at hf
      refine lv_iload hx hb dX5_countLots_9 (lv_at hl 5 rfl) ?_
      refine lv_iload_n hx hb dX5_countLots_11 rfl (lv_at hl 1 rfl) ?_
      refine lv_icmp_ge (tgt := 191) hx hb dX5_countLots_12 (by decide) (fun c_1 => ?_) (fun c_1 => ?_)
      · have hf := (if_pos c_1).symm.trans hf
        refine lv_iload hx hb dX5_countLots_191 (lv_at hl 4 rfl) ?_
        exact x_iret hx hb hr hlocks hP hS dX5_countLots_193 (Option.some.inj hf) rfl
      · have hf := (if_neg c_1).symm.trans hf
        refine lv_iconst (v := (0 : Int32)) hx hb dX5_countLots_15 (by decide) ?_
        refine lv_istore (lv' := [(7, .int (0 : Int32)), (0, .ref (z.2.1 0)), (1, .int v1), (3, .int v3), (4, .int v4), (5, .int v5), (6, .int v6)]) hx hb dX5_countLots_16 hl (by decide) rfl (fun ls hl => ?_)
        refine lv_iconst (v := (0 : Int32)) hx hb dX5_countLots_18 (by decide) ?_
        refine lv_istore (lv' := [(8, .int (0 : Int32)), (7, .int (0 : Int32)), (0, .ref (z.2.1 0)), (1, .int v1), (3, .int v3), (4, .int v4), (5, .int v5), (6, .int v6)]) hx hb dX5_countLots_19 hl (by decide) rfl (fun ls hl => ?_)
        refine lv_iconst (v := (0 : Int32)) hx hb dX5_countLots_21 (by decide) ?_
        refine lv_istore (lv' := [(9, .int (0 : Int32)), (8, .int (0 : Int32)), (7, .int (0 : Int32)), (0, .ref (z.2.1 0)), (1, .int v1), (3, .int v3), (4, .int v4), (5, .int v5), (6, .int v6)]) hx hb dX5_countLots_22 hl (by decide) rfl (fun ls hl => ?_)
        refine lv_iconst (v := (0 : Int32)) hx hb dX5_countLots_24 (by decide) ?_
        refine lv_istore (lv' := [(10, .int (0 : Int32)), (9, .int (0 : Int32)), (8, .int (0 : Int32)), (7, .int (0 : Int32)), (0, .ref (z.2.1 0)), (1, .int v1), (3, .int v3), (4, .int v4), (5, .int v5), (6, .int v6)]) hx hb dX5_countLots_25 hl (by decide) rfl (fun ls hl => ?_)
        exact L_27 1000 v1 v3 v4 v5 v6 (0 : Int32) (0 : Int32) (0 : Int32) (0 : Int32) _ _ _ hP hS (lv_sub hl [4, 5, 6, 7, 8, 9, 3, 2, 1, 0] rfl) hf
  refine lv_iload_n hx hb dX5_countLots_0 rfl (lv_at hl 2 rfl) ?_
  refine lv_istore (lv' := [(4, .int a1), (0, .ref (z.2.1 0)), (1, .int a0), (2, .int a1), (3, .int a2)]) hx hb dX5_countLots_1 hl (by decide) rfl (fun ls hl => ?_)
  refine lv_iconst (v := (0 : Int32)) hx hb dX5_countLots_3 (by decide) ?_
  refine lv_istore (lv' := [(5, .int (0 : Int32)), (4, .int a1), (0, .ref (z.2.1 0)), (1, .int a0), (2, .int a1), (3, .int a2)]) hx hb dX5_countLots_4 hl (by decide) rfl (fun ls hl => ?_)
  refine lv_iconst (v := (0 : Int32)) hx hb dX5_countLots_6 (by decide) ?_
  refine lv_istore (lv' := [(6, .int (0 : Int32)), (5, .int (0 : Int32)), (4, .int a1), (0, .ref (z.2.1 0)), (1, .int a0), (2, .int a1), (3, .int a2)]) hx hb dX5_countLots_7 hl (by decide) rfl (fun ls hl => ?_)
  exact L_9 1000 a0 a2 a1 (0 : Int32) (0 : Int32) _ _ _ hP hS (lv_sub hl [3, 4, 6, 2, 1, 0] rfl) hf
set_option maxHeartbeats 40000000 in
set_option maxRecDepth 100000 in
theorem kX5_lots (l : Launch) (z : Cx) (hz : okC 40 z) {a0 : Int32} {a1 : Int32} {a2 : Int32}  {σ σ' : Mm} {r : Int32} (hf : fX5_lots a0 a1 a2 σ = some (r, σ')) : KG 40 ceX l yX5_lots wsX5_lots (3) (77) [.ref (z.2.1 0), .int a0, .int a1, .int a2] z σ σ' (some (.int r)) := by
  rw [fX5_lots] at hf
  refine Met.ofW (cc := cX5_lots) (maxL := 4) (ret := (some .int)) (by decide) rfl ?_
  intro p e s m args below meth c s₁ B hml hv
  obtain ⟨rfl, hP, hK, hE⟩ := hv
  have hx := B.exec
  have hb := B.bytes
  have hr := B.returns
  have hts := atoms_spec (ws := wsX5_lots) B.pre
  have hown : s.vm.findClass RX5 = some m.cls := findClass_of_methodNamed B.named
  have hlocks := B.notSynchronized
  have hS : va_S (aG 40 z) s.heap s.heap [] := va_S.rf
  have hl := lv_entry ([.ref (z.2.1 0), .int a0, .int a1, .int a2]) (n := 4) (Nat.le_of_ble_eq_true rfl)
  rw [lg_entry_eq]
  generalize (lg_sl ([.ref (z.2.1 0), .int a0, .int a1, .int a2]) ++ List.replicate (4 - (lg_sl ([.ref (z.2.1 0), .int a0, .int a1, .int a2])).length) Slot.unset).toArray = ls at hl ⊢
  have hl : lv_has ls 4 [(0, .ref (z.2.1 0)), (1, .int a0), (2, .int a1), (3, .int a2)] := hl
  refine lv_iload_n hx hb dX5_lots_0 rfl (lv_at hl 1 rfl) ?_
  refine lv_iconst (v := (1 : Int32)) hx hb dX5_lots_1 (by decide) ?_
  refine lv_icmp_ge (tgt := 12) hx hb dX5_lots_2 (by decide) (fun c_1001 => ?_) (fun c_1001 => ?_)
  · have hf := (if_pos c_1001).symm.trans hf
    refine lv_iload_n hx hb dX5_lots_12 rfl (lv_at hl 1 rfl) ?_
    refine lv_bipush (v := (40 : Int32)) hx hb dX5_lots_13 (by decide) ?_
    refine lv_icmp_le (tgt := 25) hx hb dX5_lots_15 (by decide) (fun c_1002 => ?_) (fun c_1002 => ?_)
    · have hf := (if_pos c_1002).symm.trans hf
      refine lv_iload_n hx hb dX5_lots_25 rfl (lv_at hl 3 rfl) ?_
      obtain ⟨q_1003, hq_1003, hf⟩ := x_bd hf
      refine x_callSi (va_runS (As := [.int a2]) (rest := []) ⟨hx, hb, hml, hown, hts⟩ (kX5_isNoBit l hq_1003) (va_cwS 1 hts gX5_lots_X5_isNoBit rfl rfl rfl (by decide +kernel) ⟨Nat.le_of_ble_eq_true rfl, Nat.le_of_ble_eq_true rfl⟩) psS rfl rfl hl.1 rfl (lv_room (Nat.le_of_ble_eq_true rfl)) dX5_lots_26 ⟨Nat.zero_le _, Nat.zero_le _⟩) ?_
      refine lv_if_eq (tgt := 39) hx hb dX5_lots_29 (by decide) (fun c_1004 => ?_) (fun c_1004 => ?_)
      · have hf := (if_pos c_1004).symm.trans hf
        refine lv_aload_n hx hb dX5_lots_39 rfl (lv_at hl 0 rfl) ?_
        refine lv_iload_n hx hb dX5_lots_40 rfl (lv_at hl 1 rfl) ?_
        refine lv_iload_n hx hb dX5_lots_41 rfl (lv_at hl 2 rfl) ?_
        refine lv_iload_n hx hb dX5_lots_42 rfl (lv_at hl 3 rfl) ?_
        obtain ⟨q_1005, hq_1005, hf⟩ := x_bd hf
        refine x_callGi (va_runV (As := [.int a0, .int a1, .int a2]) (rest := []) ⟨hx, hb, hml, hown, hts⟩ (kX5_countLots l z hz hq_1005) (cwV 3 hts gX5_lots_X5_countLots rfl rfl rfl (by decide +kernel) ⟨Nat.le_of_ble_eq_true rfl, Nat.le_of_ble_eq_true rfl⟩) (pvG hK hP hE hS (va_recv hK hP (ci := 5) (q0 := 0) rfl (wl_at (by decide) cX5))) rfl rfl hl.1 rfl (lv_room (Nat.le_of_ble_eq_true rfl)) dX5_lots_43 ⟨Nat.zero_le _, Nat.zero_le _⟩) hS (fun H locs hP hS => ?_)
        exact x_iret hx hb hr hlocks hP hS dX5_lots_46 (Prod.mk.inj (Option.some.inj hf)).1 (Prod.mk.inj (Option.some.inj hf)).2
      · have hf := (if_neg c_1004).symm.trans hf
        refine lv_aload_n hx hb dX5_lots_32 rfl (lv_at hl 0 rfl) ?_
        refine lv_bipush (v := (-2 : Int32)) hx hb dX5_lots_33 (by decide) ?_
        obtain ⟨q_1006, hq_1006, hf⟩ := x_bd hf
        refine x_callGi (va_runV (As := [.int (-2 : Int32)]) (rest := []) ⟨hx, hb, hml, hown, hts⟩ (kX5_refuse l z hz hq_1006) (cwV 1 hts gX5_lots_X5_refuse rfl rfl rfl (by decide +kernel) ⟨Nat.le_of_ble_eq_true rfl, Nat.le_of_ble_eq_true rfl⟩) (pvG hK hP hE hS (va_recv hK hP (ci := 5) (q0 := 0) rfl (wl_at (by decide) cX5))) rfl rfl hl.1 rfl (lv_room (Nat.le_of_ble_eq_true rfl)) dX5_lots_35 ⟨Nat.zero_le _, Nat.zero_le _⟩) hS (fun H locs hP hS => ?_)
        exact x_iret hx hb hr hlocks hP hS dX5_lots_38 (Prod.mk.inj (Option.some.inj hf)).1 (Prod.mk.inj (Option.some.inj hf)).2
    · have hf := (if_neg c_1002).symm.trans hf
      refine lv_aload_n hx hb dX5_lots_18 rfl (lv_at hl 0 rfl) ?_
      refine lv_bipush (v := (-6 : Int32)) hx hb dX5_lots_19 (by decide) ?_
      obtain ⟨q_1007, hq_1007, hf⟩ := x_bd hf
      refine x_callGi (va_runV (As := [.int (-6 : Int32)]) (rest := []) ⟨hx, hb, hml, hown, hts⟩ (kX5_refuse l z hz hq_1007) (cwV 1 hts gX5_lots_X5_refuse rfl rfl rfl (by decide +kernel) ⟨Nat.le_of_ble_eq_true rfl, Nat.le_of_ble_eq_true rfl⟩) (pvG hK hP hE hS (va_recv hK hP (ci := 5) (q0 := 0) rfl (wl_at (by decide) cX5))) rfl rfl hl.1 rfl (lv_room (Nat.le_of_ble_eq_true rfl)) dX5_lots_21 ⟨Nat.zero_le _, Nat.zero_le _⟩) hS (fun H locs hP hS => ?_)
      exact x_iret hx hb hr hlocks hP hS dX5_lots_24 (Prod.mk.inj (Option.some.inj hf)).1 (Prod.mk.inj (Option.some.inj hf)).2
  · have hf := (if_neg c_1001).symm.trans hf
    refine lv_aload_n hx hb dX5_lots_5 rfl (lv_at hl 0 rfl) ?_
    refine lv_bipush (v := (-4 : Int32)) hx hb dX5_lots_6 (by decide) ?_
    obtain ⟨q_1008, hq_1008, hf⟩ := x_bd hf
    refine x_callGi (va_runV (As := [.int (-4 : Int32)]) (rest := []) ⟨hx, hb, hml, hown, hts⟩ (kX5_refuse l z hz hq_1008) (cwV 1 hts gX5_lots_X5_refuse rfl rfl rfl (by decide +kernel) ⟨Nat.le_of_ble_eq_true rfl, Nat.le_of_ble_eq_true rfl⟩) (pvG hK hP hE hS (va_recv hK hP (ci := 5) (q0 := 0) rfl (wl_at (by decide) cX5))) rfl rfl hl.1 rfl (lv_room (Nat.le_of_ble_eq_true rfl)) dX5_lots_8 ⟨Nat.zero_le _, Nat.zero_le _⟩) hS (fun H locs hP hS => ?_)
    exact x_iret hx hb hr hlocks hP hS dX5_lots_11 (Prod.mk.inj (Option.some.inj hf)).1 (Prod.mk.inj (Option.some.inj hf)).2
set_option maxHeartbeats 40000000 in
set_option maxRecDepth 100000 in
theorem kX5_image (l : Launch) (z : Cx) (hz : okC 40 z)   {σ σ' : Mm} {r : Int32} (hf : fX5_image σ = some (r, σ')) : KG 40 ceX l yX5_image wsX5_image (2) (43) [.ref (z.2.1 0)] z σ σ' (some (.int r)) := by
  rw [fX5_image] at hf
  refine Met.ofW (cc := cX5_image) (maxL := 1) (ret := (some .int)) (by decide) rfl ?_
  intro p e s m args below meth c s₁ B hml hv
  obtain ⟨rfl, hP, hK, hE⟩ := hv
  have hx := B.exec
  have hb := B.bytes
  have hr := B.returns
  have hts := atoms_spec (ws := wsX5_image) B.pre
  have hown : s.vm.findClass RX5 = some m.cls := findClass_of_methodNamed B.named
  have hlocks := B.notSynchronized
  have in_X3 : ∀ w ∈ wsX30, w ∈ wsX5_image := by decide +kernel
  have in_X5 : ∀ w ∈ wsX50, w ∈ wsX5_image := by decide +kernel
  have hS : va_S (aG 40 z) s.heap s.heap [] := va_S.rf
  have hl := lv_entry ([.ref (z.2.1 0)]) (n := 1) (Nat.le_of_ble_eq_true rfl)
  rw [lg_entry_eq]
  generalize (lg_sl ([.ref (z.2.1 0)]) ++ List.replicate (1 - (lg_sl ([.ref (z.2.1 0)])).length) Slot.unset).toArray = ls at hl ⊢
  have hl : lv_has ls 1 [(0, .ref (z.2.1 0))] := hl
  refine lv_aload_n hx hb dX5_image_0 rfl (lv_at hl 0 rfl) ?_
  refine va_get (D := z.1) (ci := 5) (v := .ref (z.2.1 7)) (C := RX5) (T := TX5) (N := 10) hx hb hts in_X5 hown hK hP 0 (wl_at (by decide) cX5) rfl 2 (by decide) (hts (.fieldLink RX5 19 "TillOneOfSort" "kept" "LTillOneOfSort$Told;") (by decide +kernel)) (fun _ h9 => h9) rfl dX5_image_1 ?_
  refine lv_aload_n hx hb dX5_image_4 rfl (lv_at hl 0 rfl) ?_
  refine va_get (D := z.1) (ci := 5) (v := .ref (z.2.1 1)) (C := RX5) (T := TX5) (N := 10) hx hb hts in_X5 hown hK hP 0 (wl_at (by decide) cX5) rfl 0 (by decide) (hts (.fieldLink RX5 10 "TillOneOfSort" "told" "LTillOneOfSort$Told;") (by decide +kernel)) (fun _ h9 => h9) rfl dX5_image_5 ?_
  obtain ⟨q_1001, hq_1001, hf⟩ := x_bd hf
  refine x_callGv (va_runV (As := [.ref (z.2.1 1)]) (rest := []) ⟨hx, hb, hml, hown, hts⟩ (kX3_copy l z hz (rfl : isTold 7 = true) (rfl : isTold 1 = true) hq_1001) (cwV 1 hts gX5_image_X3_copy rfl rfl rfl (by decide +kernel) ⟨Nat.le_of_ble_eq_true rfl, Nat.le_of_ble_eq_true rfl⟩) (pvG hK hP hE hS (va_recv hK hP (ci := 3) (q0 := 7) rfl (wl_at (told_lt (rfl : isTold 7 = true)) (cX3 (rfl : isTold 7 = true))))) rfl rfl hl.1 rfl (lv_room (Nat.le_of_ble_eq_true rfl)) dX5_image_8 ⟨Nat.zero_le _, Nat.zero_le _⟩) hS (fun H locs hP hS => ?_)
  refine lv_aload_n hx hb dX5_image_11 rfl (lv_at hl 0 rfl) ?_
  refine lv_iconst (v := (1 : Int32)) hx hb dX5_image_12 (by decide) ?_
  refine va_put (D := z.1) (ci := 5) (v := .int (1 : Int32)) (ty := .boolean) (C := RX5) (T := TX5) (N := 10) hx hb hts in_X5 tyX5 tyX5_ok nmX5 hown hK hP (wl_D hz _) hS 0 (wl_at (by decide) cX5) rfl 3 (by decide) (hts (.fieldLink RX5 172 "TillOneOfSort" "isKept" "Z") (by decide +kernel)) (fun _ h9 => h9) rfl (by decide +kernel) rfl rfl (Nat.le_of_ble_eq_true rfl) dX5_image_13 (fun H locs hP _ hS => ?_)
  rw [sX5 (by decide)] at hP
  refine lv_aload_n hx hb dX5_image_16 rfl (lv_at hl 0 rfl) ?_
  refine va_get (D := z.1) (ci := 5) (v := .ref (z.2.1 7)) (C := RX5) (T := TX5) (N := 10) hx hb hts in_X5 hown hK hP 0 (wl_at (by decide) cX5) rfl 2 (by decide) (hts (.fieldLink RX5 19 "TillOneOfSort" "kept" "LTillOneOfSort$Told;") (by decide +kernel)) (fun _ h9 => h9) rfl dX5_image_17 ?_
  refine va_getN (D := z.1) (ci := 3) (v := .int (gI (pI q_1001 0 3 (1 : Int32)) 7 5)) (C := RX3) (T := TX3) (N := 8) hx hb hts in_X3 hown hK hP 7 (wl_at (told_lt (rfl : isTold 7 = true)) (cX3 (rfl : isTold 7 = true))) rfl 5 (by decide) (hE.1.at (List.mem_of_getElem? (i := 2) rfl) rfl) (fun _ h9 => h9) rfl dX5_image_20 ?_
  exact x_iret hx hb hr hlocks hP hS dX5_image_23 (Prod.mk.inj (Option.some.inj hf)).1 (Prod.mk.inj (Option.some.inj hf)).2
set_option maxHeartbeats 40000000 in
set_option maxRecDepth 100000 in
theorem kX5_on (l : Launch) (z : Cx) (hz : okC 40 z)   {σ σ' : Mm} {r : Int32} (hf : fX5_on σ = some (r, σ')) : KG 40 ceX l yX5_on wsX5_on (2) (43) [.ref (z.2.1 0)] z σ σ' (some (.int r)) := by
  rw [fX5_on] at hf
  refine Met.ofW (cc := cX5_on) (maxL := 1) (ret := (some .int)) (by decide) rfl ?_
  intro p e s m args below meth c s₁ B hml hv
  obtain ⟨rfl, hP, hK, hE⟩ := hv
  have hx := B.exec
  have hb := B.bytes
  have hr := B.returns
  have hts := atoms_spec (ws := wsX5_on) B.pre
  have hown : s.vm.findClass RX5 = some m.cls := findClass_of_methodNamed B.named
  have hlocks := B.notSynchronized
  have in_X3 : ∀ w ∈ wsX30, w ∈ wsX5_on := by decide +kernel
  have in_X5 : ∀ w ∈ wsX50, w ∈ wsX5_on := by decide +kernel
  have hS : va_S (aG 40 z) s.heap s.heap [] := va_S.rf
  have hl := lv_entry ([.ref (z.2.1 0)]) (n := 1) (Nat.le_of_ble_eq_true rfl)
  rw [lg_entry_eq]
  generalize (lg_sl ([.ref (z.2.1 0)]) ++ List.replicate (1 - (lg_sl ([.ref (z.2.1 0)])).length) Slot.unset).toArray = ls at hl ⊢
  have hl : lv_has ls 1 [(0, .ref (z.2.1 0))] := hl
  refine lv_aload_n hx hb dX5_on_0 rfl (lv_at hl 0 rfl) ?_
  refine va_get (D := z.1) (ci := 5) (v := .int (gI σ 0 3)) (C := RX5) (T := TX5) (N := 10) hx hb hts in_X5 hown hK hP 0 (wl_at (by decide) cX5) rfl 3 (by decide) (hts (.fieldLink RX5 172 "TillOneOfSort" "isKept" "Z") (by decide +kernel)) (fun _ h9 => h9) rfl dX5_on_1 ?_
  refine lv_if_ne (tgt := 14) hx hb dX5_on_4 (by decide) (fun c_1001 => ?_) (fun c_1001 => ?_)
  · have hf := (if_neg c_1001).symm.trans hf
    refine lv_aload_n hx hb dX5_on_14 rfl (lv_at hl 0 rfl) ?_
    refine va_get (D := z.1) (ci := 5) (v := .ref (z.2.1 1)) (C := RX5) (T := TX5) (N := 10) hx hb hts in_X5 hown hK hP 0 (wl_at (by decide) cX5) rfl 0 (by decide) (hts (.fieldLink RX5 10 "TillOneOfSort" "told" "LTillOneOfSort$Told;") (by decide +kernel)) (fun _ h9 => h9) rfl dX5_on_15 ?_
    refine lv_aload_n hx hb dX5_on_18 rfl (lv_at hl 0 rfl) ?_
    refine va_get (D := z.1) (ci := 5) (v := .ref (z.2.1 7)) (C := RX5) (T := TX5) (N := 10) hx hb hts in_X5 hown hK hP 0 (wl_at (by decide) cX5) rfl 2 (by decide) (hts (.fieldLink RX5 19 "TillOneOfSort" "kept" "LTillOneOfSort$Told;") (by decide +kernel)) (fun _ h9 => h9) rfl dX5_on_19 ?_
    obtain ⟨q_1002, hq_1002, hf⟩ := x_bd hf
    refine x_callGv (va_runV (As := [.ref (z.2.1 7)]) (rest := []) ⟨hx, hb, hml, hown, hts⟩ (kX3_copy l z hz (rfl : isTold 1 = true) (rfl : isTold 7 = true) hq_1002) (cwV 1 hts gX5_on_X3_copy rfl rfl rfl (by decide +kernel) ⟨Nat.le_of_ble_eq_true rfl, Nat.le_of_ble_eq_true rfl⟩) (pvG hK hP hE hS (va_recv hK hP (ci := 3) (q0 := 1) rfl (wl_at (told_lt (rfl : isTold 1 = true)) (cX3 (rfl : isTold 1 = true))))) rfl rfl hl.1 rfl (lv_room (Nat.le_of_ble_eq_true rfl)) dX5_on_22 ⟨Nat.zero_le _, Nat.zero_le _⟩) hS (fun H locs hP hS => ?_)
    refine lv_aload_n hx hb dX5_on_25 rfl (lv_at hl 0 rfl) ?_
    refine va_get (D := z.1) (ci := 5) (v := .ref (z.2.1 1)) (C := RX5) (T := TX5) (N := 10) hx hb hts in_X5 hown hK hP 0 (wl_at (by decide) cX5) rfl 0 (by decide) (hts (.fieldLink RX5 10 "TillOneOfSort" "told" "LTillOneOfSort$Told;") (by decide +kernel)) (fun _ h9 => h9) rfl dX5_on_26 ?_
    refine va_getN (D := z.1) (ci := 3) (v := .int (gI q_1002 1 5)) (C := RX3) (T := TX3) (N := 8) hx hb hts in_X3 hown hK hP 1 (wl_at (told_lt (rfl : isTold 1 = true)) (cX3 (rfl : isTold 1 = true))) rfl 5 (by decide) (hE.1.at (List.mem_of_getElem? (i := 2) rfl) rfl) (fun _ h9 => h9) rfl dX5_on_29 ?_
    exact x_iret hx hb hr hlocks hP hS dX5_on_32 (Prod.mk.inj (Option.some.inj hf)).1 (Prod.mk.inj (Option.some.inj hf)).2
  · have hf := (if_pos c_1001).symm.trans hf
    refine lv_aload_n hx hb dX5_on_7 rfl (lv_at hl 0 rfl) ?_
    refine lv_bipush (v := (-3 : Int32)) hx hb dX5_on_8 (by decide) ?_
    obtain ⟨q_1003, hq_1003, hf⟩ := x_bd hf
    refine x_callGi (va_runV (As := [.int (-3 : Int32)]) (rest := []) ⟨hx, hb, hml, hown, hts⟩ (kX5_refuse l z hz hq_1003) (cwV 1 hts gX5_on_X5_refuse rfl rfl rfl (by decide +kernel) ⟨Nat.le_of_ble_eq_true rfl, Nat.le_of_ble_eq_true rfl⟩) (pvG hK hP hE hS (va_recv hK hP (ci := 5) (q0 := 0) rfl (wl_at (by decide) cX5))) rfl rfl hl.1 rfl (lv_room (Nat.le_of_ble_eq_true rfl)) dX5_on_10 ⟨Nat.zero_le _, Nat.zero_le _⟩) hS (fun H locs hP hS => ?_)
    exact x_iret hx hb hr hlocks hP hS dX5_on_13 (Prod.mk.inj (Option.some.inj hf)).1 (Prod.mk.inj (Option.some.inj hf)).2
set_option maxHeartbeats 40000000 in
set_option maxRecDepth 100000 in
theorem kX5_refusalsAt (l : Launch) (z : Cx) (hz : okC 40 z) {a0 : Int32}  {σ : Mm} {r : Int32} (hf : fX5_refusalsAt a0 σ = some r) : KG 40 ceX l yX5_refusalsAt wsX5_refusalsAt (0) (0) [.ref (z.2.1 0), .int a0] z σ σ (some (.int r)) := by
  rw [fX5_refusalsAt] at hf
  refine Met.ofW (cc := cX5_refusalsAt) (maxL := 2) (ret := (some .int)) (by decide) rfl ?_
  intro p e s m args below meth c s₁ B hml hv
  obtain ⟨rfl, hP, hK, hE⟩ := hv
  have hx := B.exec
  have hb := B.bytes
  have hr := B.returns
  have hts := atoms_spec (ws := wsX5_refusalsAt) B.pre
  have hown : s.vm.findClass RX5 = some m.cls := findClass_of_methodNamed B.named
  have hlocks := B.notSynchronized
  have in_X5 : ∀ w ∈ wsX50, w ∈ wsX5_refusalsAt := by decide +kernel
  have hS : va_S (aG 40 z) s.heap s.heap [] := va_S.rf
  have hl := lv_entry ([.ref (z.2.1 0), .int a0]) (n := 2) (Nat.le_of_ble_eq_true rfl)
  rw [lg_entry_eq]
  generalize (lg_sl ([.ref (z.2.1 0), .int a0]) ++ List.replicate (2 - (lg_sl ([.ref (z.2.1 0), .int a0])).length) Slot.unset).toArray = ls at hl ⊢
  have hl : lv_has ls 2 [(0, .ref (z.2.1 0)), (1, .int a0)] := hl
  refine lv_iload_n hx hb dX5_refusalsAt_0 rfl (lv_at hl 1 rfl) ?_
  refine lv_if_lt (tgt := 22) hx hb dX5_refusalsAt_1 (by decide) (fun c_1001 => ?_) (fun c_1001 => ?_)
  · have hf := (if_pos c_1001).symm.trans hf
    refine lv_bipush (v := (-9 : Int32)) hx hb dX5_refusalsAt_22 (by decide) ?_
    exact x_iret hx hb hr hlocks hP hS dX5_refusalsAt_24 (Option.some.inj hf) rfl
  · have hf := (if_neg c_1001).symm.trans hf
    refine lv_iload_n hx hb dX5_refusalsAt_4 rfl (lv_at hl 1 rfl) ?_
    refine lv_aload_n hx hb dX5_refusalsAt_5 rfl (lv_at hl 0 rfl) ?_
    refine va_get (D := z.1) (ci := 5) (v := .ref (z.2.1 12)) (C := RX5) (T := TX5) (N := 10) hx hb hts in_X5 hown hK hP 0 (wl_at (by decide) cX5) rfl 7 (by decide) (hts (.fieldLink RX5 29 "TillOneOfSort" "refusals" "[I") (by decide +kernel)) (fun _ h9 => h9) rfl dX5_refusalsAt_6 ?_
    refine va_alen (v := (6 : Int32)) hx hb hK hP 12 0 (wl_at (by decide) cXI6) rfl rfl dX5_refusalsAt_9 ?_
    refine lv_icmp_ge (tgt := 22) hx hb dX5_refusalsAt_10 (by decide) (fun c_1002 => ?_) (fun c_1002 => ?_)
    · have hf := (if_pos c_1002).symm.trans hf
      refine lv_bipush (v := (-9 : Int32)) hx hb dX5_refusalsAt_22 (by decide) ?_
      exact x_iret hx hb hr hlocks hP hS dX5_refusalsAt_24 (Option.some.inj hf) rfl
    · have hf := (if_neg c_1002).symm.trans hf
      refine lv_aload_n hx hb dX5_refusalsAt_13 rfl (lv_at hl 0 rfl) ?_
      refine va_get (D := z.1) (ci := 5) (v := .ref (z.2.1 12)) (C := RX5) (T := TX5) (N := 10) hx hb hts in_X5 hown hK hP 0 (wl_at (by decide) cX5) rfl 7 (by decide) (hts (.fieldLink RX5 29 "TillOneOfSort" "refusals" "[I") (by decide +kernel)) (fun _ h9 => h9) rfl dX5_refusalsAt_14 ?_
      refine lv_iload_n hx hb dX5_refusalsAt_17 rfl (lv_at hl 1 rfl) ?_
      obtain ⟨c_1003, hf⟩ := x_ck hf
      refine va_iald hx hb hK hP 12 0 (wl_at (by decide) cXI6) rfl (ci_in c_1003) dX5_refusalsAt_18 ?_
      refine lv_goto (tgt := 24) hx hb dX5_refusalsAt_19 (by decide) ?_
      exact x_iret hx hb hr hlocks hP hS dX5_refusalsAt_24 (Option.some.inj hf) rfl
set_option maxHeartbeats 40000000 in
set_option maxRecDepth 100000 in
theorem kX5_count (l : Launch) (z : Cx) (hz : okC 40 z) {a0 : Int32}  {σ : Mm} {r : Int32} (hf : fX5_count a0 σ = some r) : KG 40 ceX l yX5_count wsX5_count (1) (21) [.ref (z.2.1 0), .int a0] z σ σ (some (.int r)) := by
  rw [fX5_count] at hf
  refine Met.ofW (cc := cX5_count) (maxL := 2) (ret := (some .int)) (by decide) rfl ?_
  intro p e s m args below meth c s₁ B hml hv
  obtain ⟨rfl, hP, hK, hE⟩ := hv
  have hx := B.exec
  have hb := B.bytes
  have hr := B.returns
  have hts := atoms_spec (ws := wsX5_count) B.pre
  have hown : s.vm.findClass RX5 = some m.cls := findClass_of_methodNamed B.named
  have hlocks := B.notSynchronized
  have in_X2 : ∀ w ∈ wsX20, w ∈ wsX5_count := by decide +kernel
  have in_X3 : ∀ w ∈ wsX30, w ∈ wsX5_count := by decide +kernel
  have in_X5 : ∀ w ∈ wsX50, w ∈ wsX5_count := by decide +kernel
  have hS : va_S (aG 40 z) s.heap s.heap [] := va_S.rf
  have hl := lv_entry ([.ref (z.2.1 0), .int a0]) (n := 2) (Nat.le_of_ble_eq_true rfl)
  rw [lg_entry_eq]
  generalize (lg_sl ([.ref (z.2.1 0), .int a0]) ++ List.replicate (2 - (lg_sl ([.ref (z.2.1 0), .int a0])).length) Slot.unset).toArray = ls at hl ⊢
  have hl : lv_has ls 2 [(0, .ref (z.2.1 0)), (1, .int a0)] := hl
  refine lv_iload_n hx hb dX5_count_0 rfl (lv_at hl 1 rfl) ?_
  by_cases c_1001 : a0 = (0 : Int32)
  · have hf := (if_pos c_1001).symm.trans hf
    refine lv_tableIn (off := 47) (tgt := 48) hx hb dX5_count_1 (by rw [c_1001]; decide) (by rw [c_1001]; decide) (by rw [c_1001]; rfl) (by decide) ?_
    refine lv_aload_n hx hb dX5_count_48 rfl (lv_at hl 0 rfl) ?_
    refine va_get (D := z.1) (ci := 5) (v := .ref (z.2.1 1)) (C := RX5) (T := TX5) (N := 10) hx hb hts in_X5 hown hK hP 0 (wl_at (by decide) cX5) rfl 0 (by decide) (hts (.fieldLink RX5 10 "TillOneOfSort" "told" "LTillOneOfSort$Told;") (by decide +kernel)) (fun _ h9 => h9) rfl dX5_count_49 ?_
    refine lv_iload_n hx hb dX5_count_52 rfl (lv_at hl 1 rfl) ?_
    obtain ⟨q_1013, hq_1013, hf⟩ := x_bd hf
    refine x_callGi (va_runV (As := [.int a0]) (rest := []) ⟨hx, hb, hml, hown, hts⟩ (kX3_number l z hz (rfl : isTold 1 = true) hq_1013) (cwV 1 hts gX5_count_X3_number rfl rfl rfl (by decide +kernel) ⟨Nat.le_of_ble_eq_true rfl, Nat.le_of_ble_eq_true rfl⟩) (pvG hK hP hE hS (va_recv hK hP (ci := 3) (q0 := 1) rfl (wl_at (told_lt (rfl : isTold 1 = true)) (cX3 (rfl : isTold 1 = true))))) rfl rfl hl.1 rfl (lv_room (Nat.le_of_ble_eq_true rfl)) dX5_count_53 ⟨Nat.zero_le _, Nat.zero_le _⟩) hS (fun H locs hP hS => ?_)
    exact x_iret hx hb hr hlocks hP hS dX5_count_56 (Option.some.inj hf) rfl
  · have hf := (if_neg c_1001).symm.trans hf
    by_cases c_1002 : a0 = (1 : Int32)
    · have hf := (if_pos c_1002).symm.trans hf
      refine lv_tableIn (off := 47) (tgt := 48) hx hb dX5_count_1 (by rw [c_1002]; decide) (by rw [c_1002]; decide) (by rw [c_1002]; rfl) (by decide) ?_
      refine lv_aload_n hx hb dX5_count_48 rfl (lv_at hl 0 rfl) ?_
      refine va_get (D := z.1) (ci := 5) (v := .ref (z.2.1 1)) (C := RX5) (T := TX5) (N := 10) hx hb hts in_X5 hown hK hP 0 (wl_at (by decide) cX5) rfl 0 (by decide) (hts (.fieldLink RX5 10 "TillOneOfSort" "told" "LTillOneOfSort$Told;") (by decide +kernel)) (fun _ h9 => h9) rfl dX5_count_49 ?_
      refine lv_iload_n hx hb dX5_count_52 rfl (lv_at hl 1 rfl) ?_
      obtain ⟨q_1012, hq_1012, hf⟩ := x_bd hf
      refine x_callGi (va_runV (As := [.int a0]) (rest := []) ⟨hx, hb, hml, hown, hts⟩ (kX3_number l z hz (rfl : isTold 1 = true) hq_1012) (cwV 1 hts gX5_count_X3_number rfl rfl rfl (by decide +kernel) ⟨Nat.le_of_ble_eq_true rfl, Nat.le_of_ble_eq_true rfl⟩) (pvG hK hP hE hS (va_recv hK hP (ci := 3) (q0 := 1) rfl (wl_at (told_lt (rfl : isTold 1 = true)) (cX3 (rfl : isTold 1 = true))))) rfl rfl hl.1 rfl (lv_room (Nat.le_of_ble_eq_true rfl)) dX5_count_53 ⟨Nat.zero_le _, Nat.zero_le _⟩) hS (fun H locs hP hS => ?_)
      exact x_iret hx hb hr hlocks hP hS dX5_count_56 (Option.some.inj hf) rfl
    · have hf := (if_neg c_1002).symm.trans hf
      by_cases c_1003 : a0 = (2 : Int32)
      · have hf := (if_pos c_1003).symm.trans hf
        refine lv_tableIn (off := 47) (tgt := 48) hx hb dX5_count_1 (by rw [c_1003]; decide) (by rw [c_1003]; decide) (by rw [c_1003]; rfl) (by decide) ?_
        refine lv_aload_n hx hb dX5_count_48 rfl (lv_at hl 0 rfl) ?_
        refine va_get (D := z.1) (ci := 5) (v := .ref (z.2.1 1)) (C := RX5) (T := TX5) (N := 10) hx hb hts in_X5 hown hK hP 0 (wl_at (by decide) cX5) rfl 0 (by decide) (hts (.fieldLink RX5 10 "TillOneOfSort" "told" "LTillOneOfSort$Told;") (by decide +kernel)) (fun _ h9 => h9) rfl dX5_count_49 ?_
        refine lv_iload_n hx hb dX5_count_52 rfl (lv_at hl 1 rfl) ?_
        obtain ⟨q_1011, hq_1011, hf⟩ := x_bd hf
        refine x_callGi (va_runV (As := [.int a0]) (rest := []) ⟨hx, hb, hml, hown, hts⟩ (kX3_number l z hz (rfl : isTold 1 = true) hq_1011) (cwV 1 hts gX5_count_X3_number rfl rfl rfl (by decide +kernel) ⟨Nat.le_of_ble_eq_true rfl, Nat.le_of_ble_eq_true rfl⟩) (pvG hK hP hE hS (va_recv hK hP (ci := 3) (q0 := 1) rfl (wl_at (told_lt (rfl : isTold 1 = true)) (cX3 (rfl : isTold 1 = true))))) rfl rfl hl.1 rfl (lv_room (Nat.le_of_ble_eq_true rfl)) dX5_count_53 ⟨Nat.zero_le _, Nat.zero_le _⟩) hS (fun H locs hP hS => ?_)
        exact x_iret hx hb hr hlocks hP hS dX5_count_56 (Option.some.inj hf) rfl
      · have hf := (if_neg c_1003).symm.trans hf
        by_cases c_1004 : a0 = (3 : Int32)
        · have hf := (if_pos c_1004).symm.trans hf
          refine lv_tableIn (off := 56) (tgt := 57) hx hb dX5_count_1 (by rw [c_1004]; decide) (by rw [c_1004]; decide) (by rw [c_1004]; rfl) (by decide) ?_
          refine lv_aload_n hx hb dX5_count_57 rfl (lv_at hl 0 rfl) ?_
          refine va_get (D := z.1) (ci := 5) (v := .ref (z.2.1 1)) (C := RX5) (T := TX5) (N := 10) hx hb hts in_X5 hown hK hP 0 (wl_at (by decide) cX5) rfl 0 (by decide) (hts (.fieldLink RX5 10 "TillOneOfSort" "told" "LTillOneOfSort$Told;") (by decide +kernel)) (fun _ h9 => h9) rfl dX5_count_58 ?_
          refine va_getN (D := z.1) (ci := 3) (v := .int (gI σ 1 0)) (C := RX3) (T := TX3) (N := 8) hx hb hts in_X3 hown hK hP 1 (wl_at (told_lt (rfl : isTold 1 = true)) (cX3 (rfl : isTold 1 = true))) rfl 0 (by decide) (hE.1.at (List.mem_of_getElem? (i := 5) rfl) rfl) (fun _ h9 => h9) rfl dX5_count_61 ?_
          exact x_iret hx hb hr hlocks hP hS dX5_count_64 (Option.some.inj hf) rfl
        · have hf := (if_neg c_1004).symm.trans hf
          by_cases c_1005 : a0 = (4 : Int32)
          · have hf := (if_pos c_1005).symm.trans hf
            refine lv_tableIn (off := 64) (tgt := 65) hx hb dX5_count_1 (by rw [c_1005]; decide) (by rw [c_1005]; decide) (by rw [c_1005]; rfl) (by decide) ?_
            refine lv_aload_n hx hb dX5_count_65 rfl (lv_at hl 0 rfl) ?_
            refine va_get (D := z.1) (ci := 5) (v := .ref (z.2.1 1)) (C := RX5) (T := TX5) (N := 10) hx hb hts in_X5 hown hK hP 0 (wl_at (by decide) cX5) rfl 0 (by decide) (hts (.fieldLink RX5 10 "TillOneOfSort" "told" "LTillOneOfSort$Told;") (by decide +kernel)) (fun _ h9 => h9) rfl dX5_count_66 ?_
            refine va_getN (D := z.1) (ci := 3) (v := .int (gI σ 1 1)) (C := RX3) (T := TX3) (N := 8) hx hb hts in_X3 hown hK hP 1 (wl_at (told_lt (rfl : isTold 1 = true)) (cX3 (rfl : isTold 1 = true))) rfl 1 (by decide) (hE.1.at (List.mem_of_getElem? (i := 6) rfl) rfl) (fun _ h9 => h9) rfl dX5_count_69 ?_
            exact x_iret hx hb hr hlocks hP hS dX5_count_72 (Option.some.inj hf) rfl
          · have hf := (if_neg c_1005).symm.trans hf
            by_cases c_1006 : a0 = (5 : Int32)
            · have hf := (if_pos c_1006).symm.trans hf
              refine lv_tableIn (off := 72) (tgt := 73) hx hb dX5_count_1 (by rw [c_1006]; decide) (by rw [c_1006]; decide) (by rw [c_1006]; rfl) (by decide) ?_
              refine lv_aload_n hx hb dX5_count_73 rfl (lv_at hl 0 rfl) ?_
              refine va_get (D := z.1) (ci := 5) (v := .ref (z.2.1 1)) (C := RX5) (T := TX5) (N := 10) hx hb hts in_X5 hown hK hP 0 (wl_at (by decide) cX5) rfl 0 (by decide) (hts (.fieldLink RX5 10 "TillOneOfSort" "told" "LTillOneOfSort$Told;") (by decide +kernel)) (fun _ h9 => h9) rfl dX5_count_74 ?_
              refine va_getN (D := z.1) (ci := 3) (v := .int (gI σ 1 5)) (C := RX3) (T := TX3) (N := 8) hx hb hts in_X3 hown hK hP 1 (wl_at (told_lt (rfl : isTold 1 = true)) (cX3 (rfl : isTold 1 = true))) rfl 5 (by decide) (hE.1.at (List.mem_of_getElem? (i := 2) rfl) rfl) (fun _ h9 => h9) rfl dX5_count_77 ?_
              exact x_iret hx hb hr hlocks hP hS dX5_count_80 (Option.some.inj hf) rfl
            · have hf := (if_neg c_1006).symm.trans hf
              by_cases c_1007 : a0 = (6 : Int32)
              · have hf := (if_pos c_1007).symm.trans hf
                refine lv_tableIn (off := 80) (tgt := 81) hx hb dX5_count_1 (by rw [c_1007]; decide) (by rw [c_1007]; decide) (by rw [c_1007]; rfl) (by decide) ?_
                refine lv_aload_n hx hb dX5_count_81 rfl (lv_at hl 0 rfl) ?_
                refine va_get (D := z.1) (ci := 5) (v := .int (gI σ 0 5)) (C := RX5) (T := TX5) (N := 10) hx hb hts in_X5 hown hK hP 0 (wl_at (by decide) cX5) rfl 5 (by decide) (hts (.fieldLink RX5 132 "TillOneOfSort" "rowLength" "I") (by decide +kernel)) (fun _ h9 => h9) rfl dX5_count_82 ?_
                exact x_iret hx hb hr hlocks hP hS dX5_count_85 (Option.some.inj hf) rfl
              · have hf := (if_neg c_1007).symm.trans hf
                by_cases c_1008 : a0 = (7 : Int32)
                · have hf := (if_pos c_1008).symm.trans hf
                  refine lv_tableIn (off := 85) (tgt := 86) hx hb dX5_count_1 (by rw [c_1008]; decide) (by rw [c_1008]; decide) (by rw [c_1008]; rfl) (by decide) ?_
                  refine lv_aload_n hx hb dX5_count_86 rfl (lv_at hl 0 rfl) ?_
                  refine va_get (D := z.1) (ci := 5) (v := .ref (z.2.1 10)) (C := RX5) (T := TX5) (N := 10) hx hb hts in_X5 hown hK hP 0 (wl_at (by decide) cX5) rfl 4 (by decide) (hts (.fieldLink RX5 25 "TillOneOfSort" "text" "LTillOneOfSort$Text;") (by decide +kernel)) (fun _ h9 => h9) rfl dX5_count_87 ?_
                  refine va_getN (D := z.1) (ci := 2) (v := .int (gI σ 10 1)) (C := RX2) (T := TX2) (N := 2) hx hb hts in_X2 hown hK hP 10 (wl_at (by decide) cX2) rfl 1 (by decide) (hE.1.at (List.mem_of_getElem? (i := 4) rfl) rfl) (fun _ h9 => h9) rfl dX5_count_90 ?_
                  exact x_iret hx hb hr hlocks hP hS dX5_count_93 (Option.some.inj hf) rfl
                · have hf := (if_neg c_1008).symm.trans hf
                  refine x_tableD (tgt := 94) hx hb dX5_count_1 (fun k h1 h2 => ?_) (by decide) ?_
                  · rcases (show k = 0 ∨ k = 1 ∨ k = 2 ∨ k = 3 ∨ k = 4 ∨ k = 5 ∨ k = 6 ∨ k = 7 by omega) with rfl | rfl | rfl | rfl | rfl | rfl | rfl | rfl
                    · exact Or.inl (x_ne c_1001 (by decide))
                    · exact Or.inl (x_ne c_1002 (by decide))
                    · exact Or.inl (x_ne c_1003 (by decide))
                    · exact Or.inl (x_ne c_1004 (by decide))
                    · exact Or.inl (x_ne c_1005 (by decide))
                    · exact Or.inl (x_ne c_1006 (by decide))
                    · exact Or.inl (x_ne c_1007 (by decide))
                    · exact Or.inl (x_ne c_1008 (by decide))
                  · refine lv_iload_n hx hb dX5_count_94 rfl (lv_at hl 1 rfl) ?_
                    refine lv_bipush (v := (11 : Int32)) hx hb dX5_count_95 (by decide) ?_
                    refine lv_icmp_lt (tgt := 111) hx hb dX5_count_97 (by decide) (fun c_1009 => ?_) (fun c_1009 => ?_)
                    · have hf := (if_pos c_1009).symm.trans hf
                      refine lv_bipush (v := (-9 : Int32)) hx hb dX5_count_111 (by decide) ?_
                      exact x_iret hx hb hr hlocks hP hS dX5_count_113 (Option.some.inj hf) rfl
                    · have hf := (if_neg c_1009).symm.trans hf
                      refine lv_aload_n hx hb dX5_count_100 rfl (lv_at hl 0 rfl) ?_
                      refine lv_iload_n hx hb dX5_count_101 rfl (lv_at hl 1 rfl) ?_
                      refine lv_bipush (v := (11 : Int32)) hx hb dX5_count_102 (by decide) ?_
                      refine lv_isub hx hb dX5_count_104 ?_
                      obtain ⟨q_1010, hq_1010, hf⟩ := x_bd hf
                      refine x_callGi (va_runV (As := [.int (a0 - (11 : Int32))]) (rest := []) ⟨hx, hb, hml, hown, hts⟩ (kX5_refusalsAt l z hz hq_1010) (cwV 1 hts gX5_count_X5_refusalsAt rfl rfl rfl (by decide +kernel) ⟨Nat.le_of_ble_eq_true rfl, Nat.le_of_ble_eq_true rfl⟩) (pvG hK hP hE hS (va_recv hK hP (ci := 5) (q0 := 0) rfl (wl_at (by decide) cX5))) rfl rfl hl.1 rfl (lv_room (Nat.le_of_ble_eq_true rfl)) dX5_count_105 ⟨Nat.zero_le _, Nat.zero_le _⟩) hS (fun H locs hP hS => ?_)
                      refine lv_goto (tgt := 113) hx hb dX5_count_108 (by decide) ?_
                      exact x_iret hx hb hr hlocks hP hS dX5_count_113 (Option.some.inj hf) rfl
