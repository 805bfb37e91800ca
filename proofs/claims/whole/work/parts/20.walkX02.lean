set_option maxHeartbeats 40000000 in
set_option maxRecDepth 100000 in
theorem kX3_endsAllSeen (l : Launch) (z : Cx) (hz : okC 40 z) {i : Nat} {a0 : Int32} (hi : isTold i = true) {σ : Mm} {r : Int32} (hf : fX3_endsAllSeen i a0 σ = some r) : KG 40 ceX l yX3_endsAllSeen wsX3_endsAllSeen (2) (51) [.ref (z.2.1 i), .int a0] z σ σ (some (.int r)) := by
  rw [fX3_endsAllSeen] at hf
  refine Met.ofW (cc := cX3_endsAllSeen) (maxL := 3) (ret := (some .boolean)) (by decide) rfl ?_
  intro p e s m args below meth c s₁ B hml hv
  obtain ⟨rfl, hP, hK, hE⟩ := hv
  have hx := B.exec
  have hb := B.bytes
  have hr := B.returns
  have hts := atoms_spec (ws := wsX3_endsAllSeen) B.pre
  have hown : s.vm.findClass RX3 = some m.cls := findClass_of_methodNamed B.named
  have hlocks := B.notSynchronized
  have in_X3 : ∀ w ∈ wsX30, w ∈ wsX3_endsAllSeen := by decide +kernel
  have hS : va_S (aG 40 z) s.heap s.heap [] := va_S.rf
  have hl := lv_entry ([.ref (z.2.1 i), .int a0]) (n := 3) (Nat.le_of_ble_eq_true rfl)
  rw [lg_entry_eq]
  generalize (lg_sl ([.ref (z.2.1 i), .int a0]) ++ List.replicate (3 - (lg_sl ([.ref (z.2.1 i), .int a0])).length) Slot.unset).toArray = ls at hl ⊢
  have hl : lv_has ls 3 [(0, .ref (z.2.1 i)), (1, .int a0)] := hl
  have L_2 : ∀ (n_2 : Nat) (v1 : Int32) (v2 : Int32) (H : Heap) (locs : List Loc) (ls : Array Slot), va_P z.1 vwCl (wl 40 z.2.1 (ceX z σ)) H → va_S (aG 40 z) s.heap H locs → lv_has ls 3 [(0, .ref (z.2.1 i)), (1, .int v1), (2, .int v2)] → fX3_endsAllSeen_2 i σ n_2 v1 v2 = some r → W p l e (headSpec wsX3_endsAllSeen ({ frames := 2, cells := 0, slots := 0, locals := 51 })).room s m ([.ref (z.2.1 i), .int a0] : List Value).toArray below meth c H locs 0 0 (MQ below (qcG 40 ceX z σ (some (.int r))) ([.ref (z.2.1 i), .int a0] : List Value).toArray s 0 0 (aG 40 z)) (F0 m 2 ls []) := by
    intro n_2
    induction n_2 with
    | zero =>
      intro v1 v2 H locs ls hP hS hl hf
      rw [fX3_endsAllSeen_2] at hf
      cases hf
    | succ n_2 ih_2 =>
      intro v1 v2 H locs ls hP hS hl hf
      rw [fX3_endsAllSeen_2] at hf
      refine lv_iload_n hx hb dX3_endsAllSeen_2 rfl (lv_at hl 2 rfl) ?_
      refine lv_aload_n hx hb dX3_endsAllSeen_3 rfl (lv_at hl 0 rfl) ?_
      refine va_get (D := z.1) (ci := 3) (v := .int (gI σ i 5)) (C := RX3) (T := TX3) (N := 8) hx hb hts in_X3 hown hK hP i (wl_at (told_lt hi) (cX3 hi)) rfl 5 (by decide) (hts (.fieldLink RX3 34 "TillOneOfSort$Told" "families" "I") (by decide +kernel)) (fun _ h9 => h9) rfl dX3_endsAllSeen_4 ?_
      refine lv_icmp_ge (tgt := 43) hx hb dX3_endsAllSeen_7 (by decide) (fun c_1 => ?_) (fun c_1 => ?_)
      · have hf := (if_pos c_1).symm.trans hf
        refine lv_iconst (v := (1 : Int32)) hx hb dX3_endsAllSeen_43 (by decide) ?_
        exact x_zret hx hb hr hlocks hP hS dX3_endsAllSeen_44 rfl (Option.some.inj hf) rfl
      · have hf := (if_neg c_1).symm.trans hf
        refine lv_aload_n hx hb dX3_endsAllSeen_10 rfl (lv_at hl 0 rfl) ?_
        refine lv_iload_n hx hb dX3_endsAllSeen_11 rfl (lv_at hl 1 rfl) ?_
        refine lv_aload_n hx hb dX3_endsAllSeen_12 rfl (lv_at hl 0 rfl) ?_
        refine lv_iload_n hx hb dX3_endsAllSeen_13 rfl (lv_at hl 2 rfl) ?_
        obtain ⟨q_2, hq_2, hf⟩ := x_bd hf
        refine x_callGi (va_runV (As := [.int v2]) (rest := [.int v1, .ref (z.2.1 i)]) ⟨hx, hb, hml, hown, hts⟩ (kX3_lengthOf l z hz hi hq_2) (cwV 1 hts gX3_endsAllSeen_X3_lengthOf rfl rfl rfl (by decide +kernel) ⟨Nat.le_of_ble_eq_true rfl, Nat.le_of_ble_eq_true rfl⟩) (pvG hK hP hE hS (va_recv hK hP (ci := 3) (q0 := i) rfl (wl_at (told_lt hi) (cX3 hi)))) rfl rfl hl.1 rfl (lv_room (Nat.le_of_ble_eq_true rfl)) dX3_endsAllSeen_14 ⟨Nat.zero_le _, Nat.zero_le _⟩) hS (fun H locs hP hS => ?_)
        refine lv_aload_n hx hb dX3_endsAllSeen_17 rfl (lv_at hl 0 rfl) ?_
        refine lv_iload_n hx hb dX3_endsAllSeen_18 rfl (lv_at hl 2 rfl) ?_
        obtain ⟨q_3, hq_3, hf⟩ := x_bd hf
        refine x_callGi (va_runV (As := [.int v2]) (rest := [.int q_2, .int v1, .ref (z.2.1 i)]) ⟨hx, hb, hml, hown, hts⟩ (kX3_sortsOf l z hz hi hq_3) (cwV 1 hts gX3_endsAllSeen_X3_sortsOf rfl rfl rfl (by decide +kernel) ⟨Nat.le_of_ble_eq_true rfl, Nat.le_of_ble_eq_true rfl⟩) (pvG hK hP hE hS (va_recv hK hP (ci := 3) (q0 := i) rfl (wl_at (told_lt hi) (cX3 hi)))) rfl rfl hl.1 rfl (lv_room (Nat.le_of_ble_eq_true rfl)) dX3_endsAllSeen_19 ⟨Nat.zero_le _, Nat.zero_le _⟩) hS (fun H locs hP hS => ?_)
        obtain ⟨q_4, hq_4, hf⟩ := x_bd hf
        refine x_callGi (va_runV (As := [.int v1, .int q_2, .int q_3]) (rest := []) ⟨hx, hb, hml, hown, hts⟩ (kX3_stopPlace l z hz hi hq_4) (cwV 3 hts gX3_endsAllSeen_X3_stopPlace rfl rfl rfl (by decide +kernel) ⟨Nat.le_of_ble_eq_true rfl, Nat.le_of_ble_eq_true rfl⟩) (pvG hK hP hE hS (va_recv hK hP (ci := 3) (q0 := i) rfl (wl_at (told_lt hi) (cX3 hi)))) rfl rfl hl.1 rfl (lv_room (Nat.le_of_ble_eq_true rfl)) dX3_endsAllSeen_22 ⟨Nat.zero_le _, Nat.zero_le _⟩) hS (fun H locs hP hS => ?_)
        refine lv_aload_n hx hb dX3_endsAllSeen_25 rfl (lv_at hl 0 rfl) ?_
        refine lv_iload_n hx hb dX3_endsAllSeen_26 rfl (lv_at hl 2 rfl) ?_
        obtain ⟨q_5, hq_5, hf⟩ := x_bd hf
        refine x_callGi (va_runV (As := [.int v2]) (rest := [.int q_4]) ⟨hx, hb, hml, hown, hts⟩ (kX3_lengthOf l z hz hi hq_5) (cwV 1 hts gX3_endsAllSeen_X3_lengthOf rfl rfl rfl (by decide +kernel) ⟨Nat.le_of_ble_eq_true rfl, Nat.le_of_ble_eq_true rfl⟩) (pvG hK hP hE hS (va_recv hK hP (ci := 3) (q0 := i) rfl (wl_at (told_lt hi) (cX3 hi)))) rfl rfl hl.1 rfl (lv_room (Nat.le_of_ble_eq_true rfl)) dX3_endsAllSeen_27 ⟨Nat.zero_le _, Nat.zero_le _⟩) hS (fun H locs hP hS => ?_)
        refine lv_iconst (v := (1 : Int32)) hx hb dX3_endsAllSeen_30 (by decide) ?_
        refine lv_isub hx hb dX3_endsAllSeen_31 ?_
        refine lv_icmp_eq (tgt := 37) hx hb dX3_endsAllSeen_32 (by decide) (fun c_6 => ?_) (fun c_6 => ?_)
        · have hf := (if_pos c_6).symm.trans hf
          refine lv_iinc (v := (v2 + (1 : Int32))) (lv' := [(2, .int (v2 + (1 : Int32))), (0, .ref (z.2.1 i)), (1, .int v1)]) hx hb dX3_endsAllSeen_37 hl (k := 2) rfl rfl (by decide) rfl (fun ls hl => ?_)
          refine lv_goto (tgt := 2) hx hb dX3_endsAllSeen_40 (by decide) ?_
          exact ih_2 v1 (v2 + (1 : Int32)) _ _ _ hP hS (lv_sub hl [1, 2, 0] rfl) hf
        · have hf := (if_neg c_6).symm.trans hf
          refine lv_iconst (v := (0 : Int32)) hx hb dX3_endsAllSeen_35 (by decide) ?_
          exact x_zret hx hb hr hlocks hP hS dX3_endsAllSeen_36 rfl (Option.some.inj hf) rfl
  refine lv_iconst (v := (0 : Int32)) hx hb dX3_endsAllSeen_0 (by decide) ?_
  refine lv_istore_n (lv' := [(2, .int (0 : Int32)), (0, .ref (z.2.1 i)), (1, .int a0)]) hx hb dX3_endsAllSeen_1 rfl hl (by decide) rfl (fun ls hl => ?_)
  exact L_2 1000 a0 (0 : Int32) _ _ _ hP hS (lv_sub hl [1, 2, 0] rfl) hf
set_option maxHeartbeats 40000000 in
set_option maxRecDepth 100000 in
theorem kX3_countStoppedAhead (l : Launch) (z : Cx) (hz : okC 40 z) {i : Nat} {a0 : Int32} (hi : isTold i = true) {σ : Mm} {r : Int32} (hf : fX3_countStoppedAhead i a0 σ = some r) : KG 40 ceX l yX3_countStoppedAhead wsX3_countStoppedAhead (2) (51) [.ref (z.2.1 i), .int a0] z σ σ (some (.int r)) := by
  rw [fX3_countStoppedAhead] at hf
  refine Met.ofW (cc := cX3_countStoppedAhead) (maxL := 4) (ret := (some .int)) (by decide) rfl ?_
  intro p e s m args below meth c s₁ B hml hv
  obtain ⟨rfl, hP, hK, hE⟩ := hv
  have hx := B.exec
  have hb := B.bytes
  have hr := B.returns
  have hts := atoms_spec (ws := wsX3_countStoppedAhead) B.pre
  have hown : s.vm.findClass RX3 = some m.cls := findClass_of_methodNamed B.named
  have hlocks := B.notSynchronized
  have in_X3 : ∀ w ∈ wsX30, w ∈ wsX3_countStoppedAhead := by decide +kernel
  have hS : va_S (aG 40 z) s.heap s.heap [] := va_S.rf
  have hl := lv_entry ([.ref (z.2.1 i), .int a0]) (n := 4) (Nat.le_of_ble_eq_true rfl)
  rw [lg_entry_eq]
  generalize (lg_sl ([.ref (z.2.1 i), .int a0]) ++ List.replicate (4 - (lg_sl ([.ref (z.2.1 i), .int a0])).length) Slot.unset).toArray = ls at hl ⊢
  have hl : lv_has ls 4 [(0, .ref (z.2.1 i)), (1, .int a0)] := hl
  have L_4 : ∀ (n_4 : Nat) (v1 : Int32) (v2 : Int32) (v3 : Int32) (H : Heap) (locs : List Loc) (ls : Array Slot), va_P z.1 vwCl (wl 40 z.2.1 (ceX z σ)) H → va_S (aG 40 z) s.heap H locs → lv_has ls 4 [(0, .ref (z.2.1 i)), (1, .int v1), (2, .int v2), (3, .int v3)] → fX3_countStoppedAhead_4 i σ n_4 v1 v2 v3 = some r → W p l e (headSpec wsX3_countStoppedAhead ({ frames := 2, cells := 0, slots := 0, locals := 51 })).room s m ([.ref (z.2.1 i), .int a0] : List Value).toArray below meth c H locs 0 0 (MQ below (qcG 40 ceX z σ (some (.int r))) ([.ref (z.2.1 i), .int a0] : List Value).toArray s 0 0 (aG 40 z)) (F0 m 4 ls []) := by
    intro n_4
    induction n_4 with
    | zero =>
      intro v1 v2 v3 H locs ls hP hS hl hf
      rw [fX3_countStoppedAhead_4] at hf
      cases hf
    | succ n_4 ih_4 =>
      have j_40 : ∀ (v1 : Int32) (v2 : Int32) (v3 : Int32) (H : Heap) (locs : List Loc) (ls : Array Slot), va_P z.1 vwCl (wl 40 z.2.1 (ceX z σ)) H → va_S (aG 40 z) s.heap H locs → lv_has ls 4 [(0, .ref (z.2.1 i)), (1, .int v1), (2, .int v2), (3, .int v3)] → fX3_countStoppedAhead_40 i σ (fun wv1 wv2 wv3 => fX3_countStoppedAhead_4 i σ n_4 wv1 wv2 wv3) v1 v2 v3 = some r → W p l e (headSpec wsX3_countStoppedAhead ({ frames := 2, cells := 0, slots := 0, locals := 51 })).room s m ([.ref (z.2.1 i), .int a0] : List Value).toArray below meth c H locs 0 0 (MQ below (qcG 40 ceX z σ (some (.int r))) ([.ref (z.2.1 i), .int a0] : List Value).toArray s 0 0 (aG 40 z)) (F0 m 40 ls []) := by
        intro v1 v2 v3 H locs ls hP hS hl hf
        rw [fX3_countStoppedAhead_40] at hf
        refine lv_iinc (v := (v3 + (1 : Int32))) (lv' := [(3, .int (v3 + (1 : Int32))), (0, .ref (z.2.1 i)), (1, .int v1), (2, .int v2)]) hx hb dX3_countStoppedAhead_40 hl (k := 3) rfl rfl (by decide) rfl (fun ls hl => ?_)
        refine lv_goto (tgt := 4) hx hb dX3_countStoppedAhead_43 (by decide) ?_
        exact ih_4 v1 v2 (v3 + (1 : Int32)) _ _ _ hP hS (lv_sub hl [1, 2, 3, 0] rfl) hf
      intro v1 v2 v3 H locs ls hP hS hl hf
      rw [fX3_countStoppedAhead_4] at hf
      refine lv_iload_n hx hb dX3_countStoppedAhead_4 rfl (lv_at hl 3 rfl) ?_
      refine lv_aload_n hx hb dX3_countStoppedAhead_5 rfl (lv_at hl 0 rfl) ?_
      refine va_get (D := z.1) (ci := 3) (v := .int (gI σ i 5)) (C := RX3) (T := TX3) (N := 8) hx hb hts in_X3 hown hK hP i (wl_at (told_lt hi) (cX3 hi)) rfl 5 (by decide) (hts (.fieldLink RX3 34 "TillOneOfSort$Told" "families" "I") (by decide +kernel)) (fun _ h9 => h9) rfl dX3_countStoppedAhead_6 ?_
      refine lv_icmp_ge (tgt := 46) hx hb dX3_countStoppedAhead_9 (by decide) (fun c_1 => ?_) (fun c_1 => ?_)
      · have hf := (if_pos c_1).symm.trans hf
        refine lv_iload_n hx hb dX3_countStoppedAhead_46 rfl (lv_at hl 2 rfl) ?_
        exact x_iret hx hb hr hlocks hP hS dX3_countStoppedAhead_47 (Option.some.inj hf) rfl
      · have hf := (if_neg c_1).symm.trans hf
        refine lv_aload_n hx hb dX3_countStoppedAhead_12 rfl (lv_at hl 0 rfl) ?_
        refine lv_iload_n hx hb dX3_countStoppedAhead_13 rfl (lv_at hl 1 rfl) ?_
        refine lv_aload_n hx hb dX3_countStoppedAhead_14 rfl (lv_at hl 0 rfl) ?_
        refine lv_iload_n hx hb dX3_countStoppedAhead_15 rfl (lv_at hl 3 rfl) ?_
        obtain ⟨q_2, hq_2, hf⟩ := x_bd hf
        refine x_callGi (va_runV (As := [.int v3]) (rest := [.int v1, .ref (z.2.1 i)]) ⟨hx, hb, hml, hown, hts⟩ (kX3_lengthOf l z hz hi hq_2) (cwV 1 hts gX3_countStoppedAhead_X3_lengthOf rfl rfl rfl (by decide +kernel) ⟨Nat.le_of_ble_eq_true rfl, Nat.le_of_ble_eq_true rfl⟩) (pvG hK hP hE hS (va_recv hK hP (ci := 3) (q0 := i) rfl (wl_at (told_lt hi) (cX3 hi)))) rfl rfl hl.1 rfl (lv_room (Nat.le_of_ble_eq_true rfl)) dX3_countStoppedAhead_16 ⟨Nat.zero_le _, Nat.zero_le _⟩) hS (fun H locs hP hS => ?_)
        refine lv_aload_n hx hb dX3_countStoppedAhead_19 rfl (lv_at hl 0 rfl) ?_
        refine lv_iload_n hx hb dX3_countStoppedAhead_20 rfl (lv_at hl 3 rfl) ?_
        obtain ⟨q_3, hq_3, hf⟩ := x_bd hf
        refine x_callGi (va_runV (As := [.int v3]) (rest := [.int q_2, .int v1, .ref (z.2.1 i)]) ⟨hx, hb, hml, hown, hts⟩ (kX3_sortsOf l z hz hi hq_3) (cwV 1 hts gX3_countStoppedAhead_X3_sortsOf rfl rfl rfl (by decide +kernel) ⟨Nat.le_of_ble_eq_true rfl, Nat.le_of_ble_eq_true rfl⟩) (pvG hK hP hE hS (va_recv hK hP (ci := 3) (q0 := i) rfl (wl_at (told_lt hi) (cX3 hi)))) rfl rfl hl.1 rfl (lv_room (Nat.le_of_ble_eq_true rfl)) dX3_countStoppedAhead_21 ⟨Nat.zero_le _, Nat.zero_le _⟩) hS (fun H locs hP hS => ?_)
        obtain ⟨q_4, hq_4, hf⟩ := x_bd hf
        refine x_callGi (va_runV (As := [.int v1, .int q_2, .int q_3]) (rest := []) ⟨hx, hb, hml, hown, hts⟩ (kX3_stopPlace l z hz hi hq_4) (cwV 3 hts gX3_countStoppedAhead_X3_stopPlace rfl rfl rfl (by decide +kernel) ⟨Nat.le_of_ble_eq_true rfl, Nat.le_of_ble_eq_true rfl⟩) (pvG hK hP hE hS (va_recv hK hP (ci := 3) (q0 := i) rfl (wl_at (told_lt hi) (cX3 hi)))) rfl rfl hl.1 rfl (lv_room (Nat.le_of_ble_eq_true rfl)) dX3_countStoppedAhead_24 ⟨Nat.zero_le _, Nat.zero_le _⟩) hS (fun H locs hP hS => ?_)
        refine lv_aload_n hx hb dX3_countStoppedAhead_27 rfl (lv_at hl 0 rfl) ?_
        refine lv_iload_n hx hb dX3_countStoppedAhead_28 rfl (lv_at hl 3 rfl) ?_
        obtain ⟨q_5, hq_5, hf⟩ := x_bd hf
        refine x_callGi (va_runV (As := [.int v3]) (rest := [.int q_4]) ⟨hx, hb, hml, hown, hts⟩ (kX3_lengthOf l z hz hi hq_5) (cwV 1 hts gX3_countStoppedAhead_X3_lengthOf rfl rfl rfl (by decide +kernel) ⟨Nat.le_of_ble_eq_true rfl, Nat.le_of_ble_eq_true rfl⟩) (pvG hK hP hE hS (va_recv hK hP (ci := 3) (q0 := i) rfl (wl_at (told_lt hi) (cX3 hi)))) rfl rfl hl.1 rfl (lv_room (Nat.le_of_ble_eq_true rfl)) dX3_countStoppedAhead_29 ⟨Nat.zero_le _, Nat.zero_le _⟩) hS (fun H locs hP hS => ?_)
        refine lv_iconst (v := (1 : Int32)) hx hb dX3_countStoppedAhead_32 (by decide) ?_
        refine lv_isub hx hb dX3_countStoppedAhead_33 ?_
        refine lv_icmp_ge (tgt := 40) hx hb dX3_countStoppedAhead_34 (by decide) (fun c_6 => ?_) (fun c_6 => ?_)
        · have hf := (if_pos c_6).symm.trans hf
          exact j_40 v1 v2 v3 _ _ _ hP hS (lv_sub hl [0, 1, 2, 3] rfl) hf
        · have hf := (if_neg c_6).symm.trans hf
          refine lv_iinc (v := (v2 + (1 : Int32))) (lv' := [(2, .int (v2 + (1 : Int32))), (0, .ref (z.2.1 i)), (1, .int v1), (3, .int v3)]) hx hb dX3_countStoppedAhead_37 hl (k := 2) rfl rfl (by decide) rfl (fun ls hl => ?_)
          exact j_40 v1 (v2 + (1 : Int32)) v3 _ _ _ hP hS (lv_sub hl [1, 2, 0, 3] rfl) hf
  refine lv_iconst (v := (0 : Int32)) hx hb dX3_countStoppedAhead_0 (by decide) ?_
  refine lv_istore_n (lv' := [(2, .int (0 : Int32)), (0, .ref (z.2.1 i)), (1, .int a0)]) hx hb dX3_countStoppedAhead_1 rfl hl (by decide) rfl (fun ls hl => ?_)
  refine lv_iconst (v := (0 : Int32)) hx hb dX3_countStoppedAhead_2 (by decide) ?_
  refine lv_istore_n (lv' := [(3, .int (0 : Int32)), (2, .int (0 : Int32)), (0, .ref (z.2.1 i)), (1, .int a0)]) hx hb dX3_countStoppedAhead_3 rfl hl (by decide) rfl (fun ls hl => ?_)
  exact L_4 1000 a0 (0 : Int32) (0 : Int32) _ _ _ hP hS (lv_sub hl [2, 3, 1, 0] rfl) hf
set_option maxHeartbeats 40000000 in
set_option maxRecDepth 100000 in
theorem kX5_refuse (l : Launch) (z : Cx) (hz : okC 40 z) {a0 : Int32}  {σ σ' : Mm} {r : Int32} (hf : fX5_refuse a0 σ = some (r, σ')) : KG 40 ceX l yX5_refuse wsX5_refuse (0) (0) [.ref (z.2.1 0), .int a0] z σ σ' (some (.int r)) := by
  rw [fX5_refuse] at hf
  refine Met.ofW (cc := cX5_refuse) (maxL := 3) (ret := (some .int)) (by decide) rfl ?_
  intro p e s m args below meth c s₁ B hml hv
  obtain ⟨rfl, hP, hK, hE⟩ := hv
  have hx := B.exec
  have hb := B.bytes
  have hr := B.returns
  have hts := atoms_spec (ws := wsX5_refuse) B.pre
  have hown : s.vm.findClass RX5 = some m.cls := findClass_of_methodNamed B.named
  have hlocks := B.notSynchronized
  have in_X5 : ∀ w ∈ wsX50, w ∈ wsX5_refuse := by decide +kernel
  have hS : va_S (aG 40 z) s.heap s.heap [] := va_S.rf
  have hl := lv_entry ([.ref (z.2.1 0), .int a0]) (n := 3) (Nat.le_of_ble_eq_true rfl)
  rw [lg_entry_eq]
  generalize (lg_sl ([.ref (z.2.1 0), .int a0]) ++ List.replicate (3 - (lg_sl ([.ref (z.2.1 0), .int a0])).length) Slot.unset).toArray = ls at hl ⊢
  have hl : lv_has ls 3 [(0, .ref (z.2.1 0)), (1, .int a0)] := hl
  refine lv_iconst (v := (-1 : Int32)) hx hb dX5_refuse_0 (by decide) ?_
  refine lv_iload_n hx hb dX5_refuse_1 rfl (lv_at hl 1 rfl) ?_
  refine lv_isub hx hb dX5_refuse_2 ?_
  refine lv_istore_n (lv' := [(2, .int ((-1 : Int32) - a0)), (0, .ref (z.2.1 0)), (1, .int a0)]) hx hb dX5_refuse_3 rfl hl (by decide) rfl (fun ls hl => ?_)
  refine lv_iload_n hx hb dX5_refuse_4 rfl (lv_at hl 0 rfl) ?_
  refine lv_if_lt (tgt := 27) hx hb dX5_refuse_5 (by decide) (fun c_1001 => ?_) (fun c_1001 => ?_)
  · have hf := (if_pos c_1001).symm.trans hf
    refine lv_iload_n hx hb dX5_refuse_27 rfl (lv_at hl 2 rfl) ?_
    exact x_iret hx hb hr hlocks hP hS dX5_refuse_28 (Prod.mk.inj (Option.some.inj hf)).1 (Prod.mk.inj (Option.some.inj hf)).2
  · have hf := (if_neg c_1001).symm.trans hf
    refine lv_iload_n hx hb dX5_refuse_8 rfl (lv_at hl 0 rfl) ?_
    refine lv_aload_n hx hb dX5_refuse_9 rfl (lv_at hl 1 rfl) ?_
    refine va_get (D := z.1) (ci := 5) (v := .ref (z.2.1 12)) (C := RX5) (T := TX5) (N := 10) hx hb hts in_X5 hown hK hP 0 (wl_at (by decide) cX5) rfl 7 (by decide) (hts (.fieldLink RX5 29 "TillOneOfSort" "refusals" "[I") (by decide +kernel)) (fun _ h9 => h9) rfl dX5_refuse_10 ?_
    refine va_alen (v := (6 : Int32)) hx hb hK hP 12 0 (wl_at (by decide) cXI6) rfl rfl dX5_refuse_13 ?_
    refine lv_icmp_ge (tgt := 27) hx hb dX5_refuse_14 (by decide) (fun c_1002 => ?_) (fun c_1002 => ?_)
    · have hf := (if_pos c_1002).symm.trans hf
      refine lv_iload_n hx hb dX5_refuse_27 rfl (lv_at hl 2 rfl) ?_
      exact x_iret hx hb hr hlocks hP hS dX5_refuse_28 (Prod.mk.inj (Option.some.inj hf)).1 (Prod.mk.inj (Option.some.inj hf)).2
    · have hf := (if_neg c_1002).symm.trans hf
      refine lv_aload_n hx hb dX5_refuse_17 rfl (lv_at hl 1 rfl) ?_
      refine va_get (D := z.1) (ci := 5) (v := .ref (z.2.1 12)) (C := RX5) (T := TX5) (N := 10) hx hb hts in_X5 hown hK hP 0 (wl_at (by decide) cX5) rfl 7 (by decide) (hts (.fieldLink RX5 29 "TillOneOfSort" "refusals" "[I") (by decide +kernel)) (fun _ h9 => h9) rfl dX5_refuse_18 ?_
      refine lv_iload_n hx hb dX5_refuse_21 rfl (lv_at hl 0 rfl) ?_
      refine lv_dup2_11 hx hb dX5_refuse_22 rfl rfl ?_
      obtain ⟨c_1003, hf⟩ := x_ck hf
      refine va_iald hx hb hK hP 12 0 (wl_at (by decide) cXI6) rfl (ci_in c_1003) dX5_refuse_23 ?_
      refine lv_iconst (v := (1 : Int32)) hx hb dX5_refuse_24 (by decide) ?_
      refine lv_iadd hx hb dX5_refuse_25 ?_
      obtain ⟨c_1004, hf⟩ := x_ck hf
      refine va_iast hx hb hK hP (wl_D hz _) hS 12 0 (wl_at (by decide) cXI6) rfl (ci_in c_1004) dX5_refuse_26 (fun H locs hP _ hS => ?_)
      rw [sXI6] at hP
      refine lv_iload_n hx hb dX5_refuse_27 rfl (lv_at hl 2 rfl) ?_
      exact x_iret hx hb hr hlocks hP hS dX5_refuse_28 (Prod.mk.inj (Option.some.inj hf)).1 (Prod.mk.inj (Option.some.inj hf)).2
set_option maxHeartbeats 40000000 in
set_option maxRecDepth 100000 in
theorem kX5_letter (l : Launch) (z : Cx) (hz : okC 40 z) {a0 : Int32}  {σ σ' : Mm} {r : Int32} (hf : fX5_letter a0 σ = some (r, σ')) : KG 40 ceX l yX5_letter wsX5_letter (1) (22) [.ref (z.2.1 0), .int a0] z σ σ' (some (.int r)) := by
  rw [fX5_letter] at hf
  refine Met.ofW (cc := cX5_letter) (maxL := 2) (ret := (some .int)) (by decide) rfl ?_
  intro p e s m args below meth c s₁ B hml hv
  obtain ⟨rfl, hP, hK, hE⟩ := hv
  have hx := B.exec
  have hb := B.bytes
  have hr := B.returns
  have hts := atoms_spec (ws := wsX5_letter) B.pre
  have hown : s.vm.findClass RX5 = some m.cls := findClass_of_methodNamed B.named
  have hlocks := B.notSynchronized
  have in_X2 : ∀ w ∈ wsX20, w ∈ wsX5_letter := by decide +kernel
  have in_X5 : ∀ w ∈ wsX50, w ∈ wsX5_letter := by decide +kernel
  have hS : va_S (aG 40 z) s.heap s.heap [] := va_S.rf
  have hl := lv_entry ([.ref (z.2.1 0), .int a0]) (n := 2) (Nat.le_of_ble_eq_true rfl)
  rw [lg_entry_eq]
  generalize (lg_sl ([.ref (z.2.1 0), .int a0]) ++ List.replicate (2 - (lg_sl ([.ref (z.2.1 0), .int a0])).length) Slot.unset).toArray = ls at hl ⊢
  have hl : lv_has ls 2 [(0, .ref (z.2.1 0)), (1, .int a0)] := hl
  have j_30 : ∀ (σ : Mm) (H : Heap) (locs : List Loc) (ls : Array Slot), va_P z.1 vwCl (wl 40 z.2.1 (ceX z σ)) H → va_S (aG 40 z) s.heap H locs → lv_has ls 2 [(0, .ref (z.2.1 0))] → fX5_letter_30 σ = some (r, σ') → W p l e (headSpec wsX5_letter ({ frames := 1, cells := 0, slots := 0, locals := 22 })).room s m ([.ref (z.2.1 0), .int a0] : List Value).toArray below meth c H locs 0 0 (MQ below (qcG 40 ceX z σ' (some (.int r))) ([.ref (z.2.1 0), .int a0] : List Value).toArray s 0 0 (aG 40 z)) (F0 m 30 ls []) := by
    intro σ H locs ls hP hS hl hf
    rw [fX5_letter_30] at hf
    refine lv_aload_n hx hb dX5_letter_30 rfl (lv_at hl 0 rfl) ?_
    refine lv_bipush (v := (-6 : Int32)) hx hb dX5_letter_31 (by decide) ?_
    obtain ⟨q_6, hq_6, hf⟩ := x_bd hf
    refine x_callGi (va_runV (As := [.int (-6 : Int32)]) (rest := []) ⟨hx, hb, hml, hown, hts⟩ (kX5_refuse l z hz hq_6) (cwV 1 hts gX5_letter_X5_refuse rfl rfl rfl (by decide +kernel) ⟨Nat.le_of_ble_eq_true rfl, Nat.le_of_ble_eq_true rfl⟩) (pvG hK hP hE hS (va_recv hK hP (ci := 5) (q0 := 0) rfl (wl_at (by decide) cX5))) rfl rfl hl.1 rfl (lv_room (Nat.le_of_ble_eq_true rfl)) dX5_letter_33 ⟨Nat.zero_le _, Nat.zero_le _⟩) hS (fun H locs hP hS => ?_)
    exact x_iret hx hb hr hlocks hP hS dX5_letter_36 (Prod.mk.inj (Option.some.inj hf)).1 (Prod.mk.inj (Option.some.inj hf)).2
  refine lv_iload_n hx hb dX5_letter_0 rfl (lv_at hl 1 rfl) ?_
  refine lv_if_ge (tgt := 11) hx hb dX5_letter_1 (by decide) (fun c_1001 => ?_) (fun c_1001 => ?_)
  · have hf := (if_pos c_1001).symm.trans hf
    refine lv_iload_n hx hb dX5_letter_11 rfl (lv_at hl 1 rfl) ?_
    refine lv_sipush (v := (255 : Int32)) hx hb dX5_letter_12 (by decide) ?_
    refine lv_icmp_gt (tgt := 30) hx hb dX5_letter_15 (by decide) (fun c_1002 => ?_) (fun c_1002 => ?_)
    · have hf := (if_pos c_1002).symm.trans hf
      exact j_30 σ _ _ _ hP hS (lv_sub hl [0] rfl) hf
    · have hf := (if_neg c_1002).symm.trans hf
      refine lv_aload_n hx hb dX5_letter_18 rfl (lv_at hl 0 rfl) ?_
      refine va_get (D := z.1) (ci := 5) (v := .ref (z.2.1 10)) (C := RX5) (T := TX5) (N := 10) hx hb hts in_X5 hown hK hP 0 (wl_at (by decide) cX5) rfl 4 (by decide) (hts (.fieldLink RX5 25 "TillOneOfSort" "text" "LTillOneOfSort$Text;") (by decide +kernel)) (fun _ h9 => h9) rfl dX5_letter_19 ?_
      refine va_getN (D := z.1) (ci := 2) (v := .int (gI σ 10 1)) (C := RX2) (T := TX2) (N := 2) hx hb hts in_X2 hown hK hP 10 (wl_at (by decide) cX2) rfl 1 (by decide) (hE.1.at (List.mem_of_getElem? (i := 4) rfl) rfl) (fun _ h9 => h9) rfl dX5_letter_22 ?_
      refine lv_bipush (v := (64 : Int32)) hx hb dX5_letter_25 (by decide) ?_
      refine lv_icmp_lt (tgt := 37) hx hb dX5_letter_27 (by decide) (fun c_1003 => ?_) (fun c_1003 => ?_)
      · have hf := (if_pos c_1003).symm.trans hf
        refine lv_aload_n hx hb dX5_letter_37 rfl (lv_at hl 0 rfl) ?_
        refine va_get (D := z.1) (ci := 5) (v := .ref (z.2.1 10)) (C := RX5) (T := TX5) (N := 10) hx hb hts in_X5 hown hK hP 0 (wl_at (by decide) cX5) rfl 4 (by decide) (hts (.fieldLink RX5 25 "TillOneOfSort" "text" "LTillOneOfSort$Text;") (by decide +kernel)) (fun _ h9 => h9) rfl dX5_letter_38 ?_
        refine lv_iload_n hx hb dX5_letter_41 rfl (lv_at hl 1 rfl) ?_
        obtain ⟨q_1004, hq_1004, hf⟩ := x_bd hf
        refine x_callGv (va_runV (As := [.int a0]) (rest := []) ⟨hx, hb, hml, hown, hts⟩ (kX2_append l z hz hq_1004) (cwV 1 hts gX5_letter_X2_append rfl rfl rfl (by decide +kernel) ⟨Nat.le_of_ble_eq_true rfl, Nat.le_of_ble_eq_true rfl⟩) (pvG hK hP hE hS (va_recv hK hP (ci := 2) (q0 := 10) rfl (wl_at (by decide) cX2))) rfl rfl hl.1 rfl (lv_room (Nat.le_of_ble_eq_true rfl)) dX5_letter_42 ⟨Nat.zero_le _, Nat.zero_le _⟩) hS (fun H locs hP hS => ?_)
        refine lv_aload_n hx hb dX5_letter_45 rfl (lv_at hl 0 rfl) ?_
        refine va_get (D := z.1) (ci := 5) (v := .ref (z.2.1 10)) (C := RX5) (T := TX5) (N := 10) hx hb hts in_X5 hown hK hP 0 (wl_at (by decide) cX5) rfl 4 (by decide) (hts (.fieldLink RX5 25 "TillOneOfSort" "text" "LTillOneOfSort$Text;") (by decide +kernel)) (fun _ h9 => h9) rfl dX5_letter_46 ?_
        refine va_getN (D := z.1) (ci := 2) (v := .int (gI q_1004 10 1)) (C := RX2) (T := TX2) (N := 2) hx hb hts in_X2 hown hK hP 10 (wl_at (by decide) cX2) rfl 1 (by decide) (hE.1.at (List.mem_of_getElem? (i := 4) rfl) rfl) (fun _ h9 => h9) rfl dX5_letter_49 ?_
        exact x_iret hx hb hr hlocks hP hS dX5_letter_52 (Prod.mk.inj (Option.some.inj hf)).1 (Prod.mk.inj (Option.some.inj hf)).2
      · have hf := (if_neg c_1003).symm.trans hf
        exact j_30 σ _ _ _ hP hS (lv_sub hl [0] rfl) hf
  · have hf := (if_neg c_1001).symm.trans hf
    refine lv_aload_n hx hb dX5_letter_4 rfl (lv_at hl 0 rfl) ?_
    refine lv_bipush (v := (-4 : Int32)) hx hb dX5_letter_5 (by decide) ?_
    obtain ⟨q_1005, hq_1005, hf⟩ := x_bd hf
    refine x_callGi (va_runV (As := [.int (-4 : Int32)]) (rest := []) ⟨hx, hb, hml, hown, hts⟩ (kX5_refuse l z hz hq_1005) (cwV 1 hts gX5_letter_X5_refuse rfl rfl rfl (by decide +kernel) ⟨Nat.le_of_ble_eq_true rfl, Nat.le_of_ble_eq_true rfl⟩) (pvG hK hP hE hS (va_recv hK hP (ci := 5) (q0 := 0) rfl (wl_at (by decide) cX5))) rfl rfl hl.1 rfl (lv_room (Nat.le_of_ble_eq_true rfl)) dX5_letter_7 ⟨Nat.zero_le _, Nat.zero_le _⟩) hS (fun H locs hP hS => ?_)
    exact x_iret hx hb hr hlocks hP hS dX5_letter_10 (Prod.mk.inj (Option.some.inj hf)).1 (Prod.mk.inj (Option.some.inj hf)).2
set_option maxHeartbeats 40000000 in
set_option maxRecDepth 100000 in
theorem kX5_tellText (l : Launch) (z : Cx) (hz : okC 40 z)   {σ σ' : Mm} {r : Int32} (hf : fX5_tellText σ = some (r, σ')) : KG 40 ceX l yX5_tellText wsX5_tellText (3) (72) [.ref (z.2.1 0)] z σ σ' (some (.int r)) := by
  rw [fX5_tellText] at hf
  refine Met.ofW (cc := cX5_tellText) (maxL := 4) (ret := (some .int)) (by decide) rfl ?_
  intro p e s m args below meth c s₁ B hml hv
  obtain ⟨rfl, hP, hK, hE⟩ := hv
  have hx := B.exec
  have hb := B.bytes
  have hr := B.returns
  have hts := atoms_spec (ws := wsX5_tellText) B.pre
  have hown : s.vm.findClass RX5 = some m.cls := findClass_of_methodNamed B.named
  have hlocks := B.notSynchronized
  have in_X2 : ∀ w ∈ wsX20, w ∈ wsX5_tellText := by decide +kernel
  have in_X5 : ∀ w ∈ wsX50, w ∈ wsX5_tellText := by decide +kernel
  have hS : va_S (aG 40 z) s.heap s.heap [] := va_S.rf
  have hl := lv_entry ([.ref (z.2.1 0)]) (n := 4) (Nat.le_of_ble_eq_true rfl)
  rw [lg_entry_eq]
  generalize (lg_sl ([.ref (z.2.1 0)]) ++ List.replicate (4 - (lg_sl ([.ref (z.2.1 0)])).length) Slot.unset).toArray = ls at hl ⊢
  have hl : lv_has ls 4 [(0, .ref (z.2.1 0))] := hl
  have j_71 : ∀ (v2 : Int32) (σ : Mm) (H : Heap) (locs : List Loc) (ls : Array Slot), va_P z.1 vwCl (wl 40 z.2.1 (ceX z σ)) H → va_S (aG 40 z) s.heap H locs → lv_has ls 4 [(0, .ref (z.2.1 0)), (2, .int v2)] → fX5_tellText_71 v2 σ = some (r, σ') → W p l e (headSpec wsX5_tellText ({ frames := 3, cells := 0, slots := 0, locals := 72 })).room s m ([.ref (z.2.1 0)] : List Value).toArray below meth c H locs 0 0 (MQ below (qcG 40 ceX z σ' (some (.int r))) ([.ref (z.2.1 0)] : List Value).toArray s 0 0 (aG 40 z)) (F0 m 71 ls []) := by
    intro v2 σ H locs ls hP hS hl hf
    rw [fX5_tellText_71] at hf
    refine lv_aload_n hx hb dX5_tellText_71 rfl (lv_at hl 0 rfl) ?_
    refine va_get (D := z.1) (ci := 5) (v := .ref (z.2.1 1)) (C := RX5) (T := TX5) (N := 10) hx hb hts in_X5 hown hK hP 0 (wl_at (by decide) cX5) rfl 0 (by decide) (hts (.fieldLink RX5 10 "TillOneOfSort" "told" "LTillOneOfSort$Told;") (by decide +kernel)) (fun _ h9 => h9) rfl dX5_tellText_72 ?_
    refine lv_aload_n hx hb dX5_tellText_75 rfl (lv_at hl 0 rfl) ?_
    refine va_get (D := z.1) (ci := 5) (v := .ref (z.2.1 4)) (C := RX5) (T := TX5) (N := 10) hx hb hts in_X5 hown hK hP 0 (wl_at (by decide) cX5) rfl 1 (by decide) (hts (.fieldLink RX5 16 "TillOneOfSort" "draft" "LTillOneOfSort$Told;") (by decide +kernel)) (fun _ h9 => h9) rfl dX5_tellText_76 ?_
    obtain ⟨q_2, hq_2, hf⟩ := x_bd hf
    refine x_callGv (va_runV (As := [.ref (z.2.1 4)]) (rest := []) ⟨hx, hb, hml, hown, hts⟩ (kX3_copy l z hz (rfl : isTold 1 = true) (rfl : isTold 4 = true) hq_2) (cwV 1 hts gX5_tellText_X3_copy rfl rfl rfl (by decide +kernel) ⟨Nat.le_of_ble_eq_true rfl, Nat.le_of_ble_eq_true rfl⟩) (pvG hK hP hE hS (va_recv hK hP (ci := 3) (q0 := 1) rfl (wl_at (told_lt (rfl : isTold 1 = true)) (cX3 (rfl : isTold 1 = true))))) rfl rfl hl.1 rfl (lv_room (Nat.le_of_ble_eq_true rfl)) dX5_tellText_79 ⟨Nat.zero_le _, Nat.zero_le _⟩) hS (fun H locs hP hS => ?_)
    refine lv_iload_n hx hb dX5_tellText_82 rfl (lv_at hl 1 rfl) ?_
    exact x_iret hx hb hr hlocks hP hS dX5_tellText_83 (Prod.mk.inj (Option.some.inj hf)).1 (Prod.mk.inj (Option.some.inj hf)).2
  have L_15 : ∀ (n_15 : Nat) (v1 : Int32) (v2 : Int32) (σ : Mm) (H : Heap) (locs : List Loc) (ls : Array Slot), va_P z.1 vwCl (wl 40 z.2.1 (ceX z σ)) H → va_S (aG 40 z) s.heap H locs → lv_has ls 4 [(0, .ref (z.2.1 0)), (1, .int v1), (2, .int v2)] → fX5_tellText_15 n_15 v1 v2 σ = some (r, σ') → W p l e (headSpec wsX5_tellText ({ frames := 3, cells := 0, slots := 0, locals := 72 })).room s m ([.ref (z.2.1 0)] : List Value).toArray below meth c H locs 0 0 (MQ below (qcG 40 ceX z σ' (some (.int r))) ([.ref (z.2.1 0)] : List Value).toArray s 0 0 (aG 40 z)) (F0 m 15 ls []) := by
    intro n_15
    induction n_15 with
    | zero =>
      intro v1 v2 σ H locs ls hP hS hl hf
      rw [fX5_tellText_15] at hf
      cases hf
    | succ n_15 ih_15 =>
      intro v1 v2 σ H locs ls hP hS hl hf
      rw [fX5_tellText_15] at hf
      refine lv_iload_n hx hb dX5_tellText_15 rfl (lv_at hl 1 rfl) ?_
      refine lv_aload_n hx hb dX5_tellText_16 rfl (lv_at hl 0 rfl) ?_
      refine va_get (D := z.1) (ci := 5) (v := .ref (z.2.1 10)) (C := RX5) (T := TX5) (N := 10) hx hb hts in_X5 hown hK hP 0 (wl_at (by decide) cX5) rfl 4 (by decide) (hts (.fieldLink RX5 25 "TillOneOfSort" "text" "LTillOneOfSort$Text;") (by decide +kernel)) (fun _ h9 => h9) rfl dX5_tellText_17 ?_
      refine va_getN (D := z.1) (ci := 2) (v := .int (gI σ 10 1)) (C := RX2) (T := TX2) (N := 2) hx hb hts in_X2 hown hK hP 10 (wl_at (by decide) cX2) rfl 1 (by decide) (hE.1.at (List.mem_of_getElem? (i := 4) rfl) rfl) (fun _ h9 => h9) rfl dX5_tellText_20 ?_
      refine lv_icmp_ge (tgt := 71) hx hb dX5_tellText_23 (by decide) (fun c_3 => ?_) (fun c_3 => ?_)
      · have hf := (if_pos c_3).symm.trans hf
        exact j_71 v2 σ _ _ _ hP hS (lv_sub hl [0, 2] rfl) hf
      · have hf := (if_neg c_3).symm.trans hf
        refine lv_iload_n hx hb dX5_tellText_26 rfl (lv_at hl 2 rfl) ?_
        refine lv_bipush (v := (64 : Int32)) hx hb dX5_tellText_27 (by decide) ?_
        refine lv_icmp_ge (tgt := 71) hx hb dX5_tellText_29 (by decide) (fun c_4 => ?_) (fun c_4 => ?_)
        · have hf := (if_pos c_4).symm.trans hf
          exact j_71 v2 σ _ _ _ hP hS (lv_sub hl [0, 2] rfl) hf
        · have hf := (if_neg c_4).symm.trans hf
          refine lv_aload_n hx hb dX5_tellText_32 rfl (lv_at hl 0 rfl) ?_
          refine va_get (D := z.1) (ci := 5) (v := .ref (z.2.1 10)) (C := RX5) (T := TX5) (N := 10) hx hb hts in_X5 hown hK hP 0 (wl_at (by decide) cX5) rfl 4 (by decide) (hts (.fieldLink RX5 25 "TillOneOfSort" "text" "LTillOneOfSort$Text;") (by decide +kernel)) (fun _ h9 => h9) rfl dX5_tellText_33 ?_
          refine lv_iload_n hx hb dX5_tellText_36 rfl (lv_at hl 1 rfl) ?_
          obtain ⟨q_5, hq_5, hf⟩ := x_bd hf
          refine x_callGi (va_runV (As := [.int v1]) (rest := []) ⟨hx, hb, hml, hown, hts⟩ (kX2_endOfStatement l z hz hq_5) (cwV 1 hts gX5_tellText_X2_endOfStatement rfl rfl rfl (by decide +kernel) ⟨Nat.le_of_ble_eq_true rfl, Nat.le_of_ble_eq_true rfl⟩) (pvG hK hP hE hS (va_recv hK hP (ci := 2) (q0 := 10) rfl (wl_at (by decide) cX2))) rfl rfl hl.1 rfl (lv_room (Nat.le_of_ble_eq_true rfl)) dX5_tellText_37 ⟨Nat.zero_le _, Nat.zero_le _⟩) hS (fun H locs hP hS => ?_)
          refine lv_istore_n (lv' := [(3, .int q_5), (0, .ref (z.2.1 0)), (1, .int v1), (2, .int v2)]) hx hb dX5_tellText_40 rfl hl (by decide) rfl (fun ls hl => ?_)
          refine lv_aload_n hx hb dX5_tellText_41 rfl (lv_at hl 1 rfl) ?_
          refine va_get (D := z.1) (ci := 5) (v := .ref (z.2.1 4)) (C := RX5) (T := TX5) (N := 10) hx hb hts in_X5 hown hK hP 0 (wl_at (by decide) cX5) rfl 1 (by decide) (hts (.fieldLink RX5 16 "TillOneOfSort" "draft" "LTillOneOfSort$Told;") (by decide +kernel)) (fun _ h9 => h9) rfl dX5_tellText_42 ?_
          refine lv_aload_n hx hb dX5_tellText_45 rfl (lv_at hl 1 rfl) ?_
          refine va_get (D := z.1) (ci := 5) (v := .ref (z.2.1 10)) (C := RX5) (T := TX5) (N := 10) hx hb hts in_X5 hown hK hP 0 (wl_at (by decide) cX5) rfl 4 (by decide) (hts (.fieldLink RX5 25 "TillOneOfSort" "text" "LTillOneOfSort$Text;") (by decide +kernel)) (fun _ h9 => h9) rfl dX5_tellText_46 ?_
          refine lv_iload_n hx hb dX5_tellText_49 rfl (lv_at hl 2 rfl) ?_
          refine lv_iload_n hx hb dX5_tellText_50 rfl (lv_at hl 0 rfl) ?_
          obtain ⟨q_6, hq_6, hf⟩ := x_bd hf
          refine x_callGi (va_runV (As := [.ref (z.2.1 10), .int v1, .int q_5]) (rest := []) ⟨hx, hb, hml, hown, hts⟩ (kX3_take l z hz (rfl : isTold 4 = true) hq_6) (cwV 3 hts gX5_tellText_X3_take rfl rfl rfl (by decide +kernel) ⟨Nat.le_of_ble_eq_true rfl, Nat.le_of_ble_eq_true rfl⟩) (pvG hK hP hE hS (va_recv hK hP (ci := 3) (q0 := 4) rfl (wl_at (told_lt (rfl : isTold 4 = true)) (cX3 (rfl : isTold 4 = true))))) rfl rfl hl.1 rfl (lv_room (Nat.le_of_ble_eq_true rfl)) dX5_tellText_51 ⟨Nat.zero_le _, Nat.zero_le _⟩) hS (fun H locs hP hS => ?_)
          refine lv_if_ne (tgt := 63) hx hb dX5_tellText_54 (by decide) (fun c_7 => ?_) (fun c_7 => ?_)
          · have hf := (if_neg c_7).symm.trans hf
            refine lv_iload_n hx hb dX5_tellText_63 rfl (lv_at hl 0 rfl) ?_
            refine lv_istore_n (lv' := [(1, .int q_5), (3, .int q_5), (0, .ref (z.2.1 0)), (2, .int v2)]) hx hb dX5_tellText_64 rfl hl (by decide) rfl (fun ls hl => ?_)
            refine lv_iinc (v := (v2 + (1 : Int32))) (lv' := [(2, .int (v2 + (1 : Int32))), (1, .int q_5), (3, .int q_5), (0, .ref (z.2.1 0))]) hx hb dX5_tellText_65 hl (k := 3) rfl rfl (by decide) rfl (fun ls hl => ?_)
            refine lv_goto (tgt := 15) hx hb dX5_tellText_68 (by decide) ?_
            exact ih_15 q_5 (v2 + (1 : Int32)) q_6.2 _ _ _ hP hS (lv_sub hl [3, 1, 0] rfl) hf
          · have hf := (if_pos c_7).symm.trans hf
            refine lv_sipush (v := (-2000 : Int32)) hx hb dX5_tellText_57 (by decide) ?_
            refine lv_iload_n hx hb dX5_tellText_60 rfl (lv_at hl 2 rfl) ?_
            refine lv_isub hx hb dX5_tellText_61 ?_
            exact x_iret hx hb hr hlocks hP hS dX5_tellText_62 (Prod.mk.inj (Option.some.inj hf)).1 (Prod.mk.inj (Option.some.inj hf)).2
  refine lv_aload_n hx hb dX5_tellText_0 rfl (lv_at hl 0 rfl) ?_
  refine va_get (D := z.1) (ci := 5) (v := .ref (z.2.1 4)) (C := RX5) (T := TX5) (N := 10) hx hb hts in_X5 hown hK hP 0 (wl_at (by decide) cX5) rfl 1 (by decide) (hts (.fieldLink RX5 16 "TillOneOfSort" "draft" "LTillOneOfSort$Told;") (by decide +kernel)) (fun _ h9 => h9) rfl dX5_tellText_1 ?_
  refine lv_aload_n hx hb dX5_tellText_4 rfl (lv_at hl 0 rfl) ?_
  refine va_get (D := z.1) (ci := 5) (v := .ref (z.2.1 1)) (C := RX5) (T := TX5) (N := 10) hx hb hts in_X5 hown hK hP 0 (wl_at (by decide) cX5) rfl 0 (by decide) (hts (.fieldLink RX5 10 "TillOneOfSort" "told" "LTillOneOfSort$Told;") (by decide +kernel)) (fun _ h9 => h9) rfl dX5_tellText_5 ?_
  obtain ⟨q_1001, hq_1001, hf⟩ := x_bd hf
  refine x_callGv (va_runV (As := [.ref (z.2.1 1)]) (rest := []) ⟨hx, hb, hml, hown, hts⟩ (kX3_copy l z hz (rfl : isTold 4 = true) (rfl : isTold 1 = true) hq_1001) (cwV 1 hts gX5_tellText_X3_copy rfl rfl rfl (by decide +kernel) ⟨Nat.le_of_ble_eq_true rfl, Nat.le_of_ble_eq_true rfl⟩) (pvG hK hP hE hS (va_recv hK hP (ci := 3) (q0 := 4) rfl (wl_at (told_lt (rfl : isTold 4 = true)) (cX3 (rfl : isTold 4 = true))))) rfl rfl hl.1 rfl (lv_room (Nat.le_of_ble_eq_true rfl)) dX5_tellText_8 ⟨Nat.zero_le _, Nat.zero_le _⟩) hS (fun H locs hP hS => ?_)
  refine lv_iconst (v := (0 : Int32)) hx hb dX5_tellText_11 (by decide) ?_
  refine lv_istore_n (lv' := [(1, .int (0 : Int32)), (0, .ref (z.2.1 0))]) hx hb dX5_tellText_12 rfl hl (by decide) rfl (fun ls hl => ?_)
  refine lv_iconst (v := (0 : Int32)) hx hb dX5_tellText_13 (by decide) ?_
  refine lv_istore_n (lv' := [(2, .int (0 : Int32)), (1, .int (0 : Int32)), (0, .ref (z.2.1 0))]) hx hb dX5_tellText_14 rfl hl (by decide) rfl (fun ls hl => ?_)
  exact L_15 1000 (0 : Int32) (0 : Int32) q_1001 _ _ _ hP hS (lv_sub hl [2, 1, 0] rfl) hf
set_option maxHeartbeats 40000000 in
set_option maxRecDepth 100000 in
theorem kX5_land (l : Launch) (z : Cx) (hz : okC 40 z)   {σ σ' : Mm} {r : Int32} (hf : fX5_land σ = some (r, σ')) : KG 40 ceX l yX5_land wsX5_land (4) (95) [.ref (z.2.1 0)] z σ σ' (some (.int r)) := by
  rw [fX5_land] at hf
  refine Met.ofW (cc := cX5_land) (maxL := 3) (ret := (some .int)) (by decide) rfl ?_
  intro p e s m args below meth c s₁ B hml hv
  obtain ⟨rfl, hP, hK, hE⟩ := hv
  have hx := B.exec
  have hb := B.bytes
  have hr := B.returns
  have hts := atoms_spec (ws := wsX5_land) B.pre
  have hown : s.vm.findClass RX5 = some m.cls := findClass_of_methodNamed B.named
  have hlocks := B.notSynchronized
  have in_X2 : ∀ w ∈ wsX20, w ∈ wsX5_land := by decide +kernel
  have in_X5 : ∀ w ∈ wsX50, w ∈ wsX5_land := by decide +kernel
  have hS : va_S (aG 40 z) s.heap s.heap [] := va_S.rf
  have hl := lv_entry ([.ref (z.2.1 0)]) (n := 3) (Nat.le_of_ble_eq_true rfl)
  rw [lg_entry_eq]
  generalize (lg_sl ([.ref (z.2.1 0)]) ++ List.replicate (3 - (lg_sl ([.ref (z.2.1 0)])).length) Slot.unset).toArray = ls at hl ⊢
  have hl : lv_has ls 3 [(0, .ref (z.2.1 0))] := hl
  refine lv_aload_n hx hb dX5_land_0 rfl (lv_at hl 0 rfl) ?_
  refine va_get (D := z.1) (ci := 5) (v := .ref (z.2.1 10)) (C := RX5) (T := TX5) (N := 10) hx hb hts in_X5 hown hK hP 0 (wl_at (by decide) cX5) rfl 4 (by decide) (hts (.fieldLink RX5 25 "TillOneOfSort" "text" "LTillOneOfSort$Text;") (by decide +kernel)) (fun _ h9 => h9) rfl dX5_land_1 ?_
  obtain ⟨q_1001, hq_1001, hf⟩ := x_bd hf
  refine x_callGi (va_runV (As := []) (rest := []) ⟨hx, hb, hml, hown, hts⟩ (kX2_firstFault l z hz hq_1001) (cwV 0 hts gX5_land_X2_firstFault rfl rfl rfl (by decide +kernel) ⟨Nat.le_of_ble_eq_true rfl, Nat.le_of_ble_eq_true rfl⟩) (pvG hK hP hE hS (va_recv hK hP (ci := 2) (q0 := 10) rfl (wl_at (by decide) cX2))) rfl rfl hl.1 rfl (lv_room (Nat.le_of_ble_eq_true rfl)) dX5_land_4 ⟨Nat.zero_le _, Nat.zero_le _⟩) hS (fun H locs hP hS => ?_)
  refine lv_istore_n (lv' := [(1, .int q_1001), (0, .ref (z.2.1 0))]) hx hb dX5_land_7 rfl hl (by decide) rfl (fun ls hl => ?_)
  refine lv_iload_n hx hb dX5_land_8 rfl (lv_at hl 0 rfl) ?_
  refine lv_if_lt (tgt := 20) hx hb dX5_land_9 (by decide) (fun c_1002 => ?_) (fun c_1002 => ?_)
  · have hf := (if_pos c_1002).symm.trans hf
    refine lv_aload_n hx hb dX5_land_20 rfl (lv_at hl 1 rfl) ?_
    obtain ⟨q_1003, hq_1003, hf⟩ := x_bd hf
    refine x_callGi (va_runV (As := []) (rest := []) ⟨hx, hb, hml, hown, hts⟩ (kX5_tellText l z hz hq_1003) (cwV 0 hts gX5_land_X5_tellText rfl rfl rfl (by decide +kernel) ⟨Nat.le_of_ble_eq_true rfl, Nat.le_of_ble_eq_true rfl⟩) (pvG hK hP hE hS (va_recv hK hP (ci := 5) (q0 := 0) rfl (wl_at (by decide) cX5))) rfl rfl hl.1 rfl (lv_room (Nat.le_of_ble_eq_true rfl)) dX5_land_21 ⟨Nat.zero_le _, Nat.zero_le _⟩) hS (fun H locs hP hS => ?_)
    refine lv_istore_n (lv' := [(2, .int q_1003.1), (1, .int q_1001), (0, .ref (z.2.1 0))]) hx hb dX5_land_24 rfl hl (by decide) rfl (fun ls hl => ?_)
    refine lv_aload_n hx hb dX5_land_25 rfl (lv_at hl 2 rfl) ?_
    refine va_get (D := z.1) (ci := 5) (v := .ref (z.2.1 10)) (C := RX5) (T := TX5) (N := 10) hx hb hts in_X5 hown hK hP 0 (wl_at (by decide) cX5) rfl 4 (by decide) (hts (.fieldLink RX5 25 "TillOneOfSort" "text" "LTillOneOfSort$Text;") (by decide +kernel)) (fun _ h9 => h9) rfl dX5_land_26 ?_
    refine lv_iconst (v := (0 : Int32)) hx hb dX5_land_29 (by decide) ?_
    refine va_putN (D := z.1) (ci := 2) (v := .int (0 : Int32)) (ty := .int) (C := RX2) (T := TX2) (N := 2) hx hb hts in_X2 tyX2 tyX2_ok nmX2 hown hK hP (wl_D hz _) hS 10 (wl_at (by decide) cX2) rfl 1 (by decide) (hE.1.at (List.mem_of_getElem? (i := 4) rfl) rfl) (fun _ h9 => h9) rfl (by decide +kernel) rfl rfl (Nat.le_of_ble_eq_true rfl) dX5_land_30 (fun H locs hP _ hS => ?_)
    rw [sX2] at hP
    refine lv_iload_n hx hb dX5_land_33 rfl (lv_at hl 0 rfl) ?_
    exact x_iret hx hb hr hlocks hP hS dX5_land_34 (Prod.mk.inj (Option.some.inj hf)).1 (Prod.mk.inj (Option.some.inj hf)).2
  · have hf := (if_neg c_1002).symm.trans hf
    refine lv_sipush (v := (-1000 : Int32)) hx hb dX5_land_12 (by decide) ?_
    refine lv_iload_n hx hb dX5_land_15 rfl (lv_at hl 0 rfl) ?_
    refine lv_isub hx hb dX5_land_16 ?_
    refine lv_goto (tgt := 24) hx hb dX5_land_17 (by decide) ?_
    refine lv_istore_n (lv' := [(2, .int ((-1000 : Int32) - q_1001)), (1, .int q_1001), (0, .ref (z.2.1 0))]) hx hb dX5_land_24 rfl hl (by decide) rfl (fun ls hl => ?_)
    refine lv_aload_n hx hb dX5_land_25 rfl (lv_at hl 2 rfl) ?_
    refine va_get (D := z.1) (ci := 5) (v := .ref (z.2.1 10)) (C := RX5) (T := TX5) (N := 10) hx hb hts in_X5 hown hK hP 0 (wl_at (by decide) cX5) rfl 4 (by decide) (hts (.fieldLink RX5 25 "TillOneOfSort" "text" "LTillOneOfSort$Text;") (by decide +kernel)) (fun _ h9 => h9) rfl dX5_land_26 ?_
    refine lv_iconst (v := (0 : Int32)) hx hb dX5_land_29 (by decide) ?_
    refine va_putN (D := z.1) (ci := 2) (v := .int (0 : Int32)) (ty := .int) (C := RX2) (T := TX2) (N := 2) hx hb hts in_X2 tyX2 tyX2_ok nmX2 hown hK hP (wl_D hz _) hS 10 (wl_at (by decide) cX2) rfl 1 (by decide) (hE.1.at (List.mem_of_getElem? (i := 4) rfl) rfl) (fun _ h9 => h9) rfl (by decide +kernel) rfl rfl (Nat.le_of_ble_eq_true rfl) dX5_land_30 (fun H locs hP _ hS => ?_)
    rw [sX2] at hP
    refine lv_iload_n hx hb dX5_land_33 rfl (lv_at hl 0 rfl) ?_
    exact x_iret hx hb hr hlocks hP hS dX5_land_34 (Prod.mk.inj (Option.some.inj hf)).1 (Prod.mk.inj (Option.some.inj hf)).2
set_option maxHeartbeats 40000000 in
set_option maxRecDepth 100000 in
theorem kX5_law (l : Launch) (z : Cx) (hz : okC 40 z) {a0 : Int32} {a1 : Int32}  {σ σ' : Mm} {r : Int32} (hf : fX5_law a0 a1 σ = some (r, σ')) : KG 40 ceX l yX5_law wsX5_law (1) (22) [.ref (z.2.1 0), .int a0, .int a1] z σ σ' (some (.int r)) := by
  rw [fX5_law] at hf
  refine Met.ofW (cc := cX5_law) (maxL := 4) (ret := (some .int)) (by decide) rfl ?_
  intro p e s m args below meth c s₁ B hml hv
  obtain ⟨rfl, hP, hK, hE⟩ := hv
  have hx := B.exec
  have hb := B.bytes
  have hr := B.returns
  have hts := atoms_spec (ws := wsX5_law) B.pre
  have hown : s.vm.findClass RX5 = some m.cls := findClass_of_methodNamed B.named
  have hlocks := B.notSynchronized
  have in_X3 : ∀ w ∈ wsX30, w ∈ wsX5_law := by decide +kernel
  have in_X5 : ∀ w ∈ wsX50, w ∈ wsX5_law := by decide +kernel
  have hS : va_S (aG 40 z) s.heap s.heap [] := va_S.rf
  have hl := lv_entry ([.ref (z.2.1 0), .int a0, .int a1]) (n := 4) (Nat.le_of_ble_eq_true rfl)
  rw [lg_entry_eq]
  generalize (lg_sl ([.ref (z.2.1 0), .int a0, .int a1]) ++ List.replicate (4 - (lg_sl ([.ref (z.2.1 0), .int a0, .int a1])).length) Slot.unset).toArray = ls at hl ⊢
  have hl : lv_has ls 4 [(0, .ref (z.2.1 0)), (1, .int a0), (2, .int a1)] := hl
  have j_10 : ∀ (σ : Mm) (H : Heap) (locs : List Loc) (ls : Array Slot), va_P z.1 vwCl (wl 40 z.2.1 (ceX z σ)) H → va_S (aG 40 z) s.heap H locs → lv_has ls 4 [(0, .ref (z.2.1 0))] → fX5_law_10 σ = some (r, σ') → W p l e (headSpec wsX5_law ({ frames := 1, cells := 0, slots := 0, locals := 22 })).room s m ([.ref (z.2.1 0), .int a0, .int a1] : List Value).toArray below meth c H locs 0 0 (MQ below (qcG 40 ceX z σ' (some (.int r))) ([.ref (z.2.1 0), .int a0, .int a1] : List Value).toArray s 0 0 (aG 40 z)) (F0 m 10 ls []) := by
    intro σ H locs ls hP hS hl hf
    rw [fX5_law_10] at hf
    refine lv_aload_n hx hb dX5_law_10 rfl (lv_at hl 0 rfl) ?_
    refine lv_bipush (v := (-2 : Int32)) hx hb dX5_law_11 (by decide) ?_
    obtain ⟨q_7, hq_7, hf⟩ := x_bd hf
    refine x_callGi (va_runV (As := [.int (-2 : Int32)]) (rest := []) ⟨hx, hb, hml, hown, hts⟩ (kX5_refuse l z hz hq_7) (cwV 1 hts gX5_law_X5_refuse rfl rfl rfl (by decide +kernel) ⟨Nat.le_of_ble_eq_true rfl, Nat.le_of_ble_eq_true rfl⟩) (pvG hK hP hE hS (va_recv hK hP (ci := 5) (q0 := 0) rfl (wl_at (by decide) cX5))) rfl rfl hl.1 rfl (lv_room (Nat.le_of_ble_eq_true rfl)) dX5_law_13 ⟨Nat.zero_le _, Nat.zero_le _⟩) hS (fun H locs hP hS => ?_)
    exact x_iret hx hb hr hlocks hP hS dX5_law_16 (Prod.mk.inj (Option.some.inj hf)).1 (Prod.mk.inj (Option.some.inj hf)).2
  refine lv_iload_n hx hb dX5_law_0 rfl (lv_at hl 1 rfl) ?_
  refine lv_if_lt (tgt := 10) hx hb dX5_law_1 (by decide) (fun c_1001 => ?_) (fun c_1001 => ?_)
  · have hf := (if_pos c_1001).symm.trans hf
    exact j_10 σ _ _ _ hP hS (lv_sub hl [0] rfl) hf
  · have hf := (if_neg c_1001).symm.trans hf
    refine lv_iload_n hx hb dX5_law_4 rfl (lv_at hl 1 rfl) ?_
    refine lv_bipush (v := (6 : Int32)) hx hb dX5_law_5 (by decide) ?_
    refine lv_icmp_lt (tgt := 17) hx hb dX5_law_7 (by decide) (fun c_1002 => ?_) (fun c_1002 => ?_)
    · have hf := (if_pos c_1002).symm.trans hf
      refine lv_iload_n hx hb dX5_law_17 rfl (lv_at hl 2 rfl) ?_
      refine lv_iconst (v := (1 : Int32)) hx hb dX5_law_18 (by decide) ?_
      refine lv_icmp_ge (tgt := 29) hx hb dX5_law_19 (by decide) (fun c_1003 => ?_) (fun c_1003 => ?_)
      · have hf := (if_pos c_1003).symm.trans hf
        refine lv_iload_n hx hb dX5_law_29 rfl (lv_at hl 2 rfl) ?_
        refine lv_bipush (v := (9 : Int32)) hx hb dX5_law_30 (by decide) ?_
        refine lv_icmp_le (tgt := 42) hx hb dX5_law_32 (by decide) (fun c_1004 => ?_) (fun c_1004 => ?_)
        · have hf := (if_pos c_1004).symm.trans hf
          refine lv_bipush (v := (10 : Int32)) hx hb dX5_law_42 (by decide) ?_
          refine lv_aload_n hx hb dX5_law_44 rfl (lv_at hl 0 rfl) ?_
          refine va_get (D := z.1) (ci := 5) (v := .ref (z.2.1 1)) (C := RX5) (T := TX5) (N := 10) hx hb hts in_X5 hown hK hP 0 (wl_at (by decide) cX5) rfl 0 (by decide) (hts (.fieldLink RX5 10 "TillOneOfSort" "told" "LTillOneOfSort$Told;") (by decide +kernel)) (fun _ h9 => h9) rfl dX5_law_45 ?_
          refine va_getN (D := z.1) (ci := 3) (v := .int (gI σ 1 0)) (C := RX3) (T := TX3) (N := 8) hx hb hts in_X3 hown hK hP 1 (wl_at (told_lt (rfl : isTold 1 = true)) (cX3 (rfl : isTold 1 = true))) rfl 0 (by decide) (hE.1.at (List.mem_of_getElem? (i := 5) rfl) rfl) (fun _ h9 => h9) rfl dX5_law_48 ?_
          refine lv_imul hx hb dX5_law_51 ?_
          refine lv_aload_n hx hb dX5_law_52 rfl (lv_at hl 0 rfl) ?_
          refine va_get (D := z.1) (ci := 5) (v := .ref (z.2.1 1)) (C := RX5) (T := TX5) (N := 10) hx hb hts in_X5 hown hK hP 0 (wl_at (by decide) cX5) rfl 0 (by decide) (hts (.fieldLink RX5 10 "TillOneOfSort" "told" "LTillOneOfSort$Told;") (by decide +kernel)) (fun _ h9 => h9) rfl dX5_law_53 ?_
          refine va_getN (D := z.1) (ci := 3) (v := .int (gI σ 1 1)) (C := RX3) (T := TX3) (N := 8) hx hb hts in_X3 hown hK hP 1 (wl_at (told_lt (rfl : isTold 1 = true)) (cX3 (rfl : isTold 1 = true))) rfl 1 (by decide) (hE.1.at (List.mem_of_getElem? (i := 6) rfl) rfl) (fun _ h9 => h9) rfl dX5_law_56 ?_
          refine lv_iadd hx hb dX5_law_59 ?_
          refine lv_istore_n (lv' := [(3, .int (((10 : Int32) * (gI σ 1 0)) + (gI σ 1 1))), (0, .ref (z.2.1 0)), (1, .int a0), (2, .int a1)]) hx hb dX5_law_60 rfl hl (by decide) rfl (fun ls hl => ?_)
          refine lv_aload_n hx hb dX5_law_61 rfl (lv_at hl 1 rfl) ?_
          refine va_get (D := z.1) (ci := 5) (v := .ref (z.2.1 1)) (C := RX5) (T := TX5) (N := 10) hx hb hts in_X5 hown hK hP 0 (wl_at (by decide) cX5) rfl 0 (by decide) (hts (.fieldLink RX5 10 "TillOneOfSort" "told" "LTillOneOfSort$Told;") (by decide +kernel)) (fun _ h9 => h9) rfl dX5_law_62 ?_
          refine lv_iload_n hx hb dX5_law_65 rfl (lv_at hl 2 rfl) ?_
          refine va_putN (D := z.1) (ci := 3) (v := .int a0) (ty := .int) (C := RX3) (T := TX3) (N := 8) hx hb hts in_X3 tyX3 tyX3_ok nmX3 hown hK hP (wl_D hz _) hS 1 (wl_at (told_lt (rfl : isTold 1 = true)) (cX3 (rfl : isTold 1 = true))) rfl 0 (by decide) (hE.1.at (List.mem_of_getElem? (i := 5) rfl) rfl) (fun _ h9 => h9) rfl (by decide +kernel) rfl rfl (Nat.le_of_ble_eq_true rfl) dX5_law_66 (fun H locs hP _ hS => ?_)
          rw [sX3 (rfl : isTold 1 = true) (by decide)] at hP
          refine lv_aload_n hx hb dX5_law_69 rfl (lv_at hl 1 rfl) ?_
          refine va_get (D := z.1) (ci := 5) (v := .ref (z.2.1 1)) (C := RX5) (T := TX5) (N := 10) hx hb hts in_X5 hown hK hP 0 (wl_at (by decide) cX5) rfl 0 (by decide) (hts (.fieldLink RX5 10 "TillOneOfSort" "told" "LTillOneOfSort$Told;") (by decide +kernel)) (fun _ h9 => h9) rfl dX5_law_70 ?_
          refine lv_iload_n hx hb dX5_law_73 rfl (lv_at hl 3 rfl) ?_
          refine va_putN (D := z.1) (ci := 3) (v := .int a1) (ty := .int) (C := RX3) (T := TX3) (N := 8) hx hb hts in_X3 tyX3 tyX3_ok nmX3 hown hK hP (wl_D hz _) hS 1 (wl_at (told_lt (rfl : isTold 1 = true)) (cX3 (rfl : isTold 1 = true))) rfl 1 (by decide) (hE.1.at (List.mem_of_getElem? (i := 6) rfl) rfl) (fun _ h9 => h9) rfl (by decide +kernel) rfl rfl (Nat.le_of_ble_eq_true rfl) dX5_law_74 (fun H locs hP _ hS => ?_)
          rw [sX3 (rfl : isTold 1 = true) (by decide)] at hP
          refine lv_iload_n hx hb dX5_law_77 rfl (lv_at hl 0 rfl) ?_
          exact x_iret hx hb hr hlocks hP hS dX5_law_78 (Prod.mk.inj (Option.some.inj hf)).1 (Prod.mk.inj (Option.some.inj hf)).2
        · have hf := (if_neg c_1004).symm.trans hf
          refine lv_aload_n hx hb dX5_law_35 rfl (lv_at hl 0 rfl) ?_
          refine lv_bipush (v := (-6 : Int32)) hx hb dX5_law_36 (by decide) ?_
          obtain ⟨q_1005, hq_1005, hf⟩ := x_bd hf
          refine x_callGi (va_runV (As := [.int (-6 : Int32)]) (rest := []) ⟨hx, hb, hml, hown, hts⟩ (kX5_refuse l z hz hq_1005) (cwV 1 hts gX5_law_X5_refuse rfl rfl rfl (by decide +kernel) ⟨Nat.le_of_ble_eq_true rfl, Nat.le_of_ble_eq_true rfl⟩) (pvG hK hP hE hS (va_recv hK hP (ci := 5) (q0 := 0) rfl (wl_at (by decide) cX5))) rfl rfl hl.1 rfl (lv_room (Nat.le_of_ble_eq_true rfl)) dX5_law_38 ⟨Nat.zero_le _, Nat.zero_le _⟩) hS (fun H locs hP hS => ?_)
          exact x_iret hx hb hr hlocks hP hS dX5_law_41 (Prod.mk.inj (Option.some.inj hf)).1 (Prod.mk.inj (Option.some.inj hf)).2
      · have hf := (if_neg c_1003).symm.trans hf
        refine lv_aload_n hx hb dX5_law_22 rfl (lv_at hl 0 rfl) ?_
        refine lv_bipush (v := (-4 : Int32)) hx hb dX5_law_23 (by decide) ?_
        obtain ⟨q_1006, hq_1006, hf⟩ := x_bd hf
        refine x_callGi (va_runV (As := [.int (-4 : Int32)]) (rest := []) ⟨hx, hb, hml, hown, hts⟩ (kX5_refuse l z hz hq_1006) (cwV 1 hts gX5_law_X5_refuse rfl rfl rfl (by decide +kernel) ⟨Nat.le_of_ble_eq_true rfl, Nat.le_of_ble_eq_true rfl⟩) (pvG hK hP hE hS (va_recv hK hP (ci := 5) (q0 := 0) rfl (wl_at (by decide) cX5))) rfl rfl hl.1 rfl (lv_room (Nat.le_of_ble_eq_true rfl)) dX5_law_25 ⟨Nat.zero_le _, Nat.zero_le _⟩) hS (fun H locs hP hS => ?_)
        exact x_iret hx hb hr hlocks hP hS dX5_law_28 (Prod.mk.inj (Option.some.inj hf)).1 (Prod.mk.inj (Option.some.inj hf)).2
    · have hf := (if_neg c_1002).symm.trans hf
      exact j_10 σ _ _ _ hP hS (lv_sub hl [0] rfl) hf
set_option maxHeartbeats 40000000 in
set_option maxRecDepth 100000 in
theorem kX5_set (l : Launch) (z : Cx) (hz : okC 40 z) {a0 : Int32} {a1 : Int32}  {σ σ' : Mm} {r : Int32} (hf : fX5_set a0 a1 σ = some (r, σ')) : KG 40 ceX l yX5_set wsX5_set (2) (42) [.ref (z.2.1 0), .int a0, .int a1] z σ σ' (some (.int r)) := by
  rw [fX5_set] at hf
  refine Met.ofW (cc := cX5_set) (maxL := 4) (ret := (some .int)) (by decide) rfl ?_
  intro p e s m args below meth c s₁ B hml hv
  obtain ⟨rfl, hP, hK, hE⟩ := hv
  have hx := B.exec
  have hb := B.bytes
  have hr := B.returns
  have hts := atoms_spec (ws := wsX5_set) B.pre
  have hown : s.vm.findClass RX5 = some m.cls := findClass_of_methodNamed B.named
  have hlocks := B.notSynchronized
  have in_X5 : ∀ w ∈ wsX50, w ∈ wsX5_set := by decide +kernel
  have hS : va_S (aG 40 z) s.heap s.heap [] := va_S.rf
  have hl := lv_entry ([.ref (z.2.1 0), .int a0, .int a1]) (n := 4) (Nat.le_of_ble_eq_true rfl)
  rw [lg_entry_eq]
  generalize (lg_sl ([.ref (z.2.1 0), .int a0, .int a1]) ++ List.replicate (4 - (lg_sl ([.ref (z.2.1 0), .int a0, .int a1])).length) Slot.unset).toArray = ls at hl ⊢
  have hl : lv_has ls 4 [(0, .ref (z.2.1 0)), (1, .int a0), (2, .int a1)] := hl
  have j_9 : ∀ (σ : Mm) (H : Heap) (locs : List Loc) (ls : Array Slot), va_P z.1 vwCl (wl 40 z.2.1 (ceX z σ)) H → va_S (aG 40 z) s.heap H locs → lv_has ls 4 [(0, .ref (z.2.1 0))] → fX5_set_9 σ = some (r, σ') → W p l e (headSpec wsX5_set ({ frames := 2, cells := 0, slots := 0, locals := 42 })).room s m ([.ref (z.2.1 0), .int a0, .int a1] : List Value).toArray below meth c H locs 0 0 (MQ below (qcG 40 ceX z σ' (some (.int r))) ([.ref (z.2.1 0), .int a0, .int a1] : List Value).toArray s 0 0 (aG 40 z)) (F0 m 9 ls []) := by
    intro σ H locs ls hP hS hl hf
    rw [fX5_set_9] at hf
    refine lv_aload_n hx hb dX5_set_9 rfl (lv_at hl 0 rfl) ?_
    refine lv_bipush (v := (-2 : Int32)) hx hb dX5_set_10 (by decide) ?_
    obtain ⟨q_11, hq_11, hf⟩ := x_bd hf
    refine x_callGi (va_runV (As := [.int (-2 : Int32)]) (rest := []) ⟨hx, hb, hml, hown, hts⟩ (kX5_refuse l z hz hq_11) (cwV 1 hts gX5_set_X5_refuse rfl rfl rfl (by decide +kernel) ⟨Nat.le_of_ble_eq_true rfl, Nat.le_of_ble_eq_true rfl⟩) (pvG hK hP hE hS (va_recv hK hP (ci := 5) (q0 := 0) rfl (wl_at (by decide) cX5))) rfl rfl hl.1 rfl (lv_room (Nat.le_of_ble_eq_true rfl)) dX5_set_12 ⟨Nat.zero_le _, Nat.zero_le _⟩) hS (fun H locs hP hS => ?_)
    exact x_iret hx hb hr hlocks hP hS dX5_set_15 (Prod.mk.inj (Option.some.inj hf)).1 (Prod.mk.inj (Option.some.inj hf)).2
  refine lv_iload_n hx hb dX5_set_0 rfl (lv_at hl 1 rfl) ?_
  refine lv_if_lt (tgt := 9) hx hb dX5_set_1 (by decide) (fun c_1001 => ?_) (fun c_1001 => ?_)
  · have hf := (if_pos c_1001).symm.trans hf
    exact j_9 σ _ _ _ hP hS (lv_sub hl [0] rfl) hf
  · have hf := (if_neg c_1001).symm.trans hf
    refine lv_iload_n hx hb dX5_set_4 rfl (lv_at hl 1 rfl) ?_
    refine lv_iconst (v := (2 : Int32)) hx hb dX5_set_5 (by decide) ?_
    refine lv_icmp_le (tgt := 16) hx hb dX5_set_6 (by decide) (fun c_1002 => ?_) (fun c_1002 => ?_)
    · have hf := (if_pos c_1002).symm.trans hf
      refine lv_iload_n hx hb dX5_set_16 rfl (lv_at hl 2 rfl) ?_
      refine lv_iload_n hx hb dX5_set_17 rfl (lv_at hl 1 rfl) ?_
      obtain ⟨q_1003, hq_1003, hf⟩ := x_bd hf
      refine x_callSi (va_runS (As := [.int a0]) (rest := [.int a1]) ⟨hx, hb, hml, hown, hts⟩ (kX3_least l hq_1003) (va_cwS 1 hts gX5_set_X3_least rfl rfl rfl (by decide +kernel) ⟨Nat.le_of_ble_eq_true rfl, Nat.le_of_ble_eq_true rfl⟩) psS rfl rfl hl.1 rfl (lv_room (Nat.le_of_ble_eq_true rfl)) dX5_set_18 ⟨Nat.zero_le _, Nat.zero_le _⟩) ?_
      refine lv_icmp_ge (tgt := 31) hx hb dX5_set_21 (by decide) (fun c_1004 => ?_) (fun c_1004 => ?_)
      · have hf := (if_pos c_1004).symm.trans hf
        refine lv_iload_n hx hb dX5_set_31 rfl (lv_at hl 2 rfl) ?_
        refine lv_iload_n hx hb dX5_set_32 rfl (lv_at hl 1 rfl) ?_
        obtain ⟨q_1005, hq_1005, hf⟩ := x_bd hf
        refine x_callSi (va_runS (As := [.int a0]) (rest := [.int a1]) ⟨hx, hb, hml, hown, hts⟩ (kX3_greatest l hq_1005) (va_cwS 1 hts gX5_set_X3_greatest rfl rfl rfl (by decide +kernel) ⟨Nat.le_of_ble_eq_true rfl, Nat.le_of_ble_eq_true rfl⟩) psS rfl rfl hl.1 rfl (lv_room (Nat.le_of_ble_eq_true rfl)) dX5_set_33 ⟨Nat.zero_le _, Nat.zero_le _⟩) ?_
        refine lv_icmp_le (tgt := 46) hx hb dX5_set_36 (by decide) (fun c_1006 => ?_) (fun c_1006 => ?_)
        · have hf := (if_pos c_1006).symm.trans hf
          refine lv_aload_n hx hb dX5_set_46 rfl (lv_at hl 0 rfl) ?_
          refine va_get (D := z.1) (ci := 5) (v := .ref (z.2.1 1)) (C := RX5) (T := TX5) (N := 10) hx hb hts in_X5 hown hK hP 0 (wl_at (by decide) cX5) rfl 0 (by decide) (hts (.fieldLink RX5 10 "TillOneOfSort" "told" "LTillOneOfSort$Told;") (by decide +kernel)) (fun _ h9 => h9) rfl dX5_set_47 ?_
          refine lv_iload_n hx hb dX5_set_50 rfl (lv_at hl 1 rfl) ?_
          obtain ⟨q_1007, hq_1007, hf⟩ := x_bd hf
          refine x_callGi (va_runV (As := [.int a0]) (rest := []) ⟨hx, hb, hml, hown, hts⟩ (kX3_number l z hz (rfl : isTold 1 = true) hq_1007) (cwV 1 hts gX5_set_X3_number rfl rfl rfl (by decide +kernel) ⟨Nat.le_of_ble_eq_true rfl, Nat.le_of_ble_eq_true rfl⟩) (pvG hK hP hE hS (va_recv hK hP (ci := 3) (q0 := 1) rfl (wl_at (told_lt (rfl : isTold 1 = true)) (cX3 (rfl : isTold 1 = true))))) rfl rfl hl.1 rfl (lv_room (Nat.le_of_ble_eq_true rfl)) dX5_set_51 ⟨Nat.zero_le _, Nat.zero_le _⟩) hS (fun H locs hP hS => ?_)
          refine lv_istore_n (lv' := [(3, .int q_1007), (0, .ref (z.2.1 0)), (1, .int a0), (2, .int a1)]) hx hb dX5_set_54 rfl hl (by decide) rfl (fun ls hl => ?_)
          refine lv_aload_n hx hb dX5_set_55 rfl (lv_at hl 1 rfl) ?_
          refine va_get (D := z.1) (ci := 5) (v := .ref (z.2.1 1)) (C := RX5) (T := TX5) (N := 10) hx hb hts in_X5 hown hK hP 0 (wl_at (by decide) cX5) rfl 0 (by decide) (hts (.fieldLink RX5 10 "TillOneOfSort" "told" "LTillOneOfSort$Told;") (by decide +kernel)) (fun _ h9 => h9) rfl dX5_set_56 ?_
          refine lv_iload_n hx hb dX5_set_59 rfl (lv_at hl 2 rfl) ?_
          refine lv_iload_n hx hb dX5_set_60 rfl (lv_at hl 3 rfl) ?_
          obtain ⟨q_1008, hq_1008, hf⟩ := x_bd hf
          refine x_callGi (va_runV (As := [.int a0, .int a1]) (rest := []) ⟨hx, hb, hml, hown, hts⟩ (kX3_tellNumber l z hz (rfl : isTold 1 = true) hq_1008) (cwV 2 hts gX5_set_X3_tellNumber rfl rfl rfl (by decide +kernel) ⟨Nat.le_of_ble_eq_true rfl, Nat.le_of_ble_eq_true rfl⟩) (pvG hK hP hE hS (va_recv hK hP (ci := 3) (q0 := 1) rfl (wl_at (told_lt (rfl : isTold 1 = true)) (cX3 (rfl : isTold 1 = true))))) rfl rfl hl.1 rfl (lv_room (Nat.le_of_ble_eq_true rfl)) dX5_set_61 ⟨Nat.zero_le _, Nat.zero_le _⟩) hS (fun H locs hP hS => ?_)
          refine lv_pop hx hb dX5_set_64 rfl ?_
          refine lv_iload_n hx hb dX5_set_65 rfl (lv_at hl 0 rfl) ?_
          exact x_iret hx hb hr hlocks hP hS dX5_set_66 (Prod.mk.inj (Option.some.inj hf)).1 (Prod.mk.inj (Option.some.inj hf)).2
        · have hf := (if_neg c_1006).symm.trans hf
          refine lv_aload_n hx hb dX5_set_39 rfl (lv_at hl 0 rfl) ?_
          refine lv_bipush (v := (-6 : Int32)) hx hb dX5_set_40 (by decide) ?_
          obtain ⟨q_1009, hq_1009, hf⟩ := x_bd hf
          refine x_callGi (va_runV (As := [.int (-6 : Int32)]) (rest := []) ⟨hx, hb, hml, hown, hts⟩ (kX5_refuse l z hz hq_1009) (cwV 1 hts gX5_set_X5_refuse rfl rfl rfl (by decide +kernel) ⟨Nat.le_of_ble_eq_true rfl, Nat.le_of_ble_eq_true rfl⟩) (pvG hK hP hE hS (va_recv hK hP (ci := 5) (q0 := 0) rfl (wl_at (by decide) cX5))) rfl rfl hl.1 rfl (lv_room (Nat.le_of_ble_eq_true rfl)) dX5_set_42 ⟨Nat.zero_le _, Nat.zero_le _⟩) hS (fun H locs hP hS => ?_)
          exact x_iret hx hb hr hlocks hP hS dX5_set_45 (Prod.mk.inj (Option.some.inj hf)).1 (Prod.mk.inj (Option.some.inj hf)).2
      · have hf := (if_neg c_1004).symm.trans hf
        refine lv_aload_n hx hb dX5_set_24 rfl (lv_at hl 0 rfl) ?_
        refine lv_bipush (v := (-4 : Int32)) hx hb dX5_set_25 (by decide) ?_
        obtain ⟨q_1010, hq_1010, hf⟩ := x_bd hf
        refine x_callGi (va_runV (As := [.int (-4 : Int32)]) (rest := []) ⟨hx, hb, hml, hown, hts⟩ (kX5_refuse l z hz hq_1010) (cwV 1 hts gX5_set_X5_refuse rfl rfl rfl (by decide +kernel) ⟨Nat.le_of_ble_eq_true rfl, Nat.le_of_ble_eq_true rfl⟩) (pvG hK hP hE hS (va_recv hK hP (ci := 5) (q0 := 0) rfl (wl_at (by decide) cX5))) rfl rfl hl.1 rfl (lv_room (Nat.le_of_ble_eq_true rfl)) dX5_set_27 ⟨Nat.zero_le _, Nat.zero_le _⟩) hS (fun H locs hP hS => ?_)
        exact x_iret hx hb hr hlocks hP hS dX5_set_30 (Prod.mk.inj (Option.some.inj hf)).1 (Prod.mk.inj (Option.some.inj hf)).2
    · have hf := (if_neg c_1002).symm.trans hf
      exact j_9 σ _ _ _ hP hS (lv_sub hl [0] rfl) hf
set_option maxHeartbeats 40000000 in
set_option maxRecDepth 100000 in
theorem kX5_stops (l : Launch) (z : Cx) (hz : okC 40 z) {a0 : Int32} {a1 : Int32} {a2 : Int32}  {σ σ' : Mm} {r : Int32} (hf : fX5_stops a0 a1 a2 σ = some (r, σ')) : KG 40 ceX l yX5_stops wsX5_stops (1) (24) [.ref (z.2.1 0), .int a0, .int a1, .int a2] z σ σ' (some (.int r)) := by
  rw [fX5_stops] at hf
  refine Met.ofW (cc := cX5_stops) (maxL := 4) (ret := (some .int)) (by decide) rfl ?_
  intro p e s m args below meth c s₁ B hml hv
  obtain ⟨rfl, hP, hK, hE⟩ := hv
  have hx := B.exec
  have hb := B.bytes
  have hr := B.returns
  have hts := atoms_spec (ws := wsX5_stops) B.pre
  have hown : s.vm.findClass RX5 = some m.cls := findClass_of_methodNamed B.named
  have hlocks := B.notSynchronized
  have in_X3 : ∀ w ∈ wsX30, w ∈ wsX5_stops := by decide +kernel
  have in_X5 : ∀ w ∈ wsX50, w ∈ wsX5_stops := by decide +kernel
  have hS : va_S (aG 40 z) s.heap s.heap [] := va_S.rf
  have hl := lv_entry ([.ref (z.2.1 0), .int a0, .int a1, .int a2]) (n := 4) (Nat.le_of_ble_eq_true rfl)
  rw [lg_entry_eq]
  generalize (lg_sl ([.ref (z.2.1 0), .int a0, .int a1, .int a2]) ++ List.replicate (4 - (lg_sl ([.ref (z.2.1 0), .int a0, .int a1, .int a2])).length) Slot.unset).toArray = ls at hl ⊢
  have hl : lv_has ls 4 [(0, .ref (z.2.1 0)), (1, .int a0), (2, .int a1), (3, .int a2)] := hl
  have j_12 : ∀ (σ : Mm) (H : Heap) (locs : List Loc) (ls : Array Slot), va_P z.1 vwCl (wl 40 z.2.1 (ceX z σ)) H → va_S (aG 40 z) s.heap H locs → lv_has ls 4 [(0, .ref (z.2.1 0))] → fX5_stops_12 σ = some (r, σ') → W p l e (headSpec wsX5_stops ({ frames := 1, cells := 0, slots := 0, locals := 24 })).room s m ([.ref (z.2.1 0), .int a0, .int a1, .int a2] : List Value).toArray below meth c H locs 0 0 (MQ below (qcG 40 ceX z σ' (some (.int r))) ([.ref (z.2.1 0), .int a0, .int a1, .int a2] : List Value).toArray s 0 0 (aG 40 z)) (F0 m 12 ls []) := by
    intro σ H locs ls hP hS hl hf
    rw [fX5_stops_12] at hf
    refine lv_aload_n hx hb dX5_stops_12 rfl (lv_at hl 0 rfl) ?_
    refine lv_bipush (v := (-4 : Int32)) hx hb dX5_stops_13 (by decide) ?_
    obtain ⟨q_10, hq_10, hf⟩ := x_bd hf
    refine x_callGi (va_runV (As := [.int (-4 : Int32)]) (rest := []) ⟨hx, hb, hml, hown, hts⟩ (kX5_refuse l z hz hq_10) (cwV 1 hts gX5_stops_X5_refuse rfl rfl rfl (by decide +kernel) ⟨Nat.le_of_ble_eq_true rfl, Nat.le_of_ble_eq_true rfl⟩) (pvG hK hP hE hS (va_recv hK hP (ci := 5) (q0 := 0) rfl (wl_at (by decide) cX5))) rfl rfl hl.1 rfl (lv_room (Nat.le_of_ble_eq_true rfl)) dX5_stops_15 ⟨Nat.zero_le _, Nat.zero_le _⟩) hS (fun H locs hP hS => ?_)
    exact x_iret hx hb hr hlocks hP hS dX5_stops_18 (Prod.mk.inj (Option.some.inj hf)).1 (Prod.mk.inj (Option.some.inj hf)).2
  have j_37 : ∀ (σ : Mm) (H : Heap) (locs : List Loc) (ls : Array Slot), va_P z.1 vwCl (wl 40 z.2.1 (ceX z σ)) H → va_S (aG 40 z) s.heap H locs → lv_has ls 4 [(0, .ref (z.2.1 0))] → fX5_stops_37 σ = some (r, σ') → W p l e (headSpec wsX5_stops ({ frames := 1, cells := 0, slots := 0, locals := 24 })).room s m ([.ref (z.2.1 0), .int a0, .int a1, .int a2] : List Value).toArray below meth c H locs 0 0 (MQ below (qcG 40 ceX z σ' (some (.int r))) ([.ref (z.2.1 0), .int a0, .int a1, .int a2] : List Value).toArray s 0 0 (aG 40 z)) (F0 m 37 ls []) := by
    intro σ H locs ls hP hS hl hf
    rw [fX5_stops_37] at hf
    refine lv_aload_n hx hb dX5_stops_37 rfl (lv_at hl 0 rfl) ?_
    refine lv_bipush (v := (-6 : Int32)) hx hb dX5_stops_38 (by decide) ?_
    obtain ⟨q_11, hq_11, hf⟩ := x_bd hf
    refine x_callGi (va_runV (As := [.int (-6 : Int32)]) (rest := []) ⟨hx, hb, hml, hown, hts⟩ (kX5_refuse l z hz hq_11) (cwV 1 hts gX5_stops_X5_refuse rfl rfl rfl (by decide +kernel) ⟨Nat.le_of_ble_eq_true rfl, Nat.le_of_ble_eq_true rfl⟩) (pvG hK hP hE hS (va_recv hK hP (ci := 5) (q0 := 0) rfl (wl_at (by decide) cX5))) rfl rfl hl.1 rfl (lv_room (Nat.le_of_ble_eq_true rfl)) dX5_stops_40 ⟨Nat.zero_le _, Nat.zero_le _⟩) hS (fun H locs hP hS => ?_)
    exact x_iret hx hb hr hlocks hP hS dX5_stops_43 (Prod.mk.inj (Option.some.inj hf)).1 (Prod.mk.inj (Option.some.inj hf)).2
  have j_65 : ∀ (σ : Mm) (H : Heap) (locs : List Loc) (ls : Array Slot), va_P z.1 vwCl (wl 40 z.2.1 (ceX z σ)) H → va_S (aG 40 z) s.heap H locs → lv_has ls 4 [(0, .ref (z.2.1 0))] → fX5_stops_65 σ = some (r, σ') → W p l e (headSpec wsX5_stops ({ frames := 1, cells := 0, slots := 0, locals := 24 })).room s m ([.ref (z.2.1 0), .int a0, .int a1, .int a2] : List Value).toArray below meth c H locs 0 0 (MQ below (qcG 40 ceX z σ' (some (.int r))) ([.ref (z.2.1 0), .int a0, .int a1, .int a2] : List Value).toArray s 0 0 (aG 40 z)) (F0 m 65 ls []) := by
    intro σ H locs ls hP hS hl hf
    rw [fX5_stops_65] at hf
    refine lv_aload_n hx hb dX5_stops_65 rfl (lv_at hl 0 rfl) ?_
    refine lv_bipush (v := (-3 : Int32)) hx hb dX5_stops_66 (by decide) ?_
    obtain ⟨q_12, hq_12, hf⟩ := x_bd hf
    refine x_callGi (va_runV (As := [.int (-3 : Int32)]) (rest := []) ⟨hx, hb, hml, hown, hts⟩ (kX5_refuse l z hz hq_12) (cwV 1 hts gX5_stops_X5_refuse rfl rfl rfl (by decide +kernel) ⟨Nat.le_of_ble_eq_true rfl, Nat.le_of_ble_eq_true rfl⟩) (pvG hK hP hE hS (va_recv hK hP (ci := 5) (q0 := 0) rfl (wl_at (by decide) cX5))) rfl rfl hl.1 rfl (lv_room (Nat.le_of_ble_eq_true rfl)) dX5_stops_68 ⟨Nat.zero_le _, Nat.zero_le _⟩) hS (fun H locs hP hS => ?_)
    exact x_iret hx hb hr hlocks hP hS dX5_stops_71 (Prod.mk.inj (Option.some.inj hf)).1 (Prod.mk.inj (Option.some.inj hf)).2
  have j_72 : ∀ (v1 : Int32) (v2 : Int32) (v3 : Int32) (σ : Mm) (H : Heap) (locs : List Loc) (ls : Array Slot), va_P z.1 vwCl (wl 40 z.2.1 (ceX z σ)) H → va_S (aG 40 z) s.heap H locs → lv_has ls 4 [(0, .ref (z.2.1 0)), (1, .int v1), (2, .int v2), (3, .int v3)] → fX5_stops_72 v1 v2 v3 σ = some (r, σ') → W p l e (headSpec wsX5_stops ({ frames := 1, cells := 0, slots := 0, locals := 24 })).room s m ([.ref (z.2.1 0), .int a0, .int a1, .int a2] : List Value).toArray below meth c H locs 0 0 (MQ below (qcG 40 ceX z σ' (some (.int r))) ([.ref (z.2.1 0), .int a0, .int a1, .int a2] : List Value).toArray s 0 0 (aG 40 z)) (F0 m 72 ls []) := by
    intro v1 v2 v3 σ H locs ls hP hS hl hf
    rw [fX5_stops_72] at hf
    refine lv_aload_n hx hb dX5_stops_72 rfl (lv_at hl 0 rfl) ?_
    refine va_get (D := z.1) (ci := 5) (v := .ref (z.2.1 1)) (C := RX5) (T := TX5) (N := 10) hx hb hts in_X5 hown hK hP 0 (wl_at (by decide) cX5) rfl 0 (by decide) (hts (.fieldLink RX5 10 "TillOneOfSort" "told" "LTillOneOfSort$Told;") (by decide +kernel)) (fun _ h9 => h9) rfl dX5_stops_73 ?_
    refine va_getN (D := z.1) (ci := 3) (v := .int (gI σ 1 0)) (C := RX3) (T := TX3) (N := 8) hx hb hts in_X3 hown hK hP 1 (wl_at (told_lt (rfl : isTold 1 = true)) (cX3 (rfl : isTold 1 = true))) rfl 0 (by decide) (hE.1.at (List.mem_of_getElem? (i := 5) rfl) rfl) (fun _ h9 => h9) rfl dX5_stops_76 ?_
    refine lv_aload_n hx hb dX5_stops_79 rfl (lv_at hl 0 rfl) ?_
    refine va_get (D := z.1) (ci := 5) (v := .ref (z.2.1 1)) (C := RX5) (T := TX5) (N := 10) hx hb hts in_X5 hown hK hP 0 (wl_at (by decide) cX5) rfl 0 (by decide) (hts (.fieldLink RX5 10 "TillOneOfSort" "told" "LTillOneOfSort$Told;") (by decide +kernel)) (fun _ h9 => h9) rfl dX5_stops_80 ?_
    refine va_getN (D := z.1) (ci := 3) (v := .int (gI σ 1 1)) (C := RX3) (T := TX3) (N := 8) hx hb hts in_X3 hown hK hP 1 (wl_at (told_lt (rfl : isTold 1 = true)) (cX3 (rfl : isTold 1 = true))) rfl 1 (by decide) (hE.1.at (List.mem_of_getElem? (i := 6) rfl) rfl) (fun _ h9 => h9) rfl dX5_stops_83 ?_
    refine lv_iload_n hx hb dX5_stops_86 rfl (lv_at hl 1 rfl) ?_
    refine lv_iload_n hx hb dX5_stops_87 rfl (lv_at hl 2 rfl) ?_
    refine lv_iload_n hx hb dX5_stops_88 rfl (lv_at hl 3 rfl) ?_
    obtain ⟨q_13, hq_13, hf⟩ := x_bd hf
    refine x_callSi (va_runS (As := [.int (gI σ 1 0), .int (gI σ 1 1), .int v1, .int v2, .int v3]) (rest := []) ⟨hx, hb, hml, hown, hts⟩ (kX5_lawStops l hq_13) (va_cwS 5 hts gX5_stops_X5_lawStops rfl rfl rfl (by decide +kernel) ⟨Nat.le_of_ble_eq_true rfl, Nat.le_of_ble_eq_true rfl⟩) psS rfl rfl hl.1 rfl (lv_room (Nat.le_of_ble_eq_true rfl)) dX5_stops_89 ⟨Nat.zero_le _, Nat.zero_le _⟩) ?_
    refine lv_if_eq (tgt := 99) hx hb dX5_stops_92 (by decide) (fun c_14 => ?_) (fun c_14 => ?_)
    · have hf := (if_pos c_14).symm.trans hf
      refine lv_iconst (v := (0 : Int32)) hx hb dX5_stops_99 (by decide) ?_
      exact x_iret hx hb hr hlocks hP hS dX5_stops_100 (Prod.mk.inj (Option.some.inj hf)).1 (Prod.mk.inj (Option.some.inj hf)).2
    · have hf := (if_neg c_14).symm.trans hf
      refine lv_iconst (v := (1 : Int32)) hx hb dX5_stops_95 (by decide) ?_
      refine lv_goto (tgt := 100) hx hb dX5_stops_96 (by decide) ?_
      exact x_iret hx hb hr hlocks hP hS dX5_stops_100 (Prod.mk.inj (Option.some.inj hf)).1 (Prod.mk.inj (Option.some.inj hf)).2
  have j_57 : ∀ (v1 : Int32) (v2 : Int32) (v3 : Int32) (σ : Mm) (H : Heap) (locs : List Loc) (ls : Array Slot), va_P z.1 vwCl (wl 40 z.2.1 (ceX z σ)) H → va_S (aG 40 z) s.heap H locs → lv_has ls 4 [(0, .ref (z.2.1 0)), (1, .int v1), (2, .int v2), (3, .int v3)] → fX5_stops_57 v1 v2 v3 σ = some (r, σ') → W p l e (headSpec wsX5_stops ({ frames := 1, cells := 0, slots := 0, locals := 24 })).room s m ([.ref (z.2.1 0), .int a0, .int a1, .int a2] : List Value).toArray below meth c H locs 0 0 (MQ below (qcG 40 ceX z σ' (some (.int r))) ([.ref (z.2.1 0), .int a0, .int a1, .int a2] : List Value).toArray s 0 0 (aG 40 z)) (F0 m 57 ls []) := by
    intro v1 v2 v3 σ H locs ls hP hS hl hf
    rw [fX5_stops_57] at hf
    refine lv_iload_n hx hb dX5_stops_57 rfl (lv_at hl 3 rfl) ?_
    refine lv_if_ne (tgt := 72) hx hb dX5_stops_58 (by decide) (fun c_15 => ?_) (fun c_15 => ?_)
    · have hf := (if_neg c_15).symm.trans hf
      exact j_72 v1 v2 v3 σ _ _ _ hP hS (lv_sub hl [0, 1, 2, 3] rfl) hf
    · have hf := (if_pos c_15).symm.trans hf
      refine lv_iload_n hx hb dX5_stops_61 rfl (lv_at hl 2 rfl) ?_
      refine lv_if_ne (tgt := 72) hx hb dX5_stops_62 (by decide) (fun c_16 => ?_) (fun c_16 => ?_)
      · have hf := (if_neg c_16).symm.trans hf
        exact j_72 v1 v2 v3 σ _ _ _ hP hS (lv_sub hl [0, 1, 2, 3] rfl) hf
      · have hf := (if_pos c_16).symm.trans hf
        exact j_65 σ _ _ _ hP hS (lv_sub hl [0] rfl) hf
  refine lv_iload_n hx hb dX5_stops_0 rfl (lv_at hl 1 rfl) ?_
  refine lv_if_lt (tgt := 12) hx hb dX5_stops_1 (by decide) (fun c_1001 => ?_) (fun c_1001 => ?_)
  · have hf := (if_pos c_1001).symm.trans hf
    exact j_12 σ _ _ _ hP hS (lv_sub hl [0] rfl) hf
  · have hf := (if_neg c_1001).symm.trans hf
    refine lv_iload_n hx hb dX5_stops_4 rfl (lv_at hl 2 rfl) ?_
    refine lv_if_lt (tgt := 12) hx hb dX5_stops_5 (by decide) (fun c_1002 => ?_) (fun c_1002 => ?_)
    · have hf := (if_pos c_1002).symm.trans hf
      exact j_12 σ _ _ _ hP hS (lv_sub hl [0] rfl) hf
    · have hf := (if_neg c_1002).symm.trans hf
      refine lv_iload_n hx hb dX5_stops_8 rfl (lv_at hl 3 rfl) ?_
      refine lv_if_ge (tgt := 19) hx hb dX5_stops_9 (by decide) (fun c_1003 => ?_) (fun c_1003 => ?_)
      · have hf := (if_pos c_1003).symm.trans hf
        refine lv_iload_n hx hb dX5_stops_19 rfl (lv_at hl 1 rfl) ?_
        refine lv_bipush (v := (10 : Int32)) hx hb dX5_stops_20 (by decide) ?_
        refine lv_icmp_gt (tgt := 37) hx hb dX5_stops_22 (by decide) (fun c_1004 => ?_) (fun c_1004 => ?_)
        · have hf := (if_pos c_1004).symm.trans hf
          exact j_37 σ _ _ _ hP hS (lv_sub hl [0] rfl) hf
        · have hf := (if_neg c_1004).symm.trans hf
          refine lv_iload_n hx hb dX5_stops_25 rfl (lv_at hl 2 rfl) ?_
          refine lv_bipush (v := (10 : Int32)) hx hb dX5_stops_26 (by decide) ?_
          refine lv_icmp_gt (tgt := 37) hx hb dX5_stops_28 (by decide) (fun c_1005 => ?_) (fun c_1005 => ?_)
          · have hf := (if_pos c_1005).symm.trans hf
            exact j_37 σ _ _ _ hP hS (lv_sub hl [0] rfl) hf
          · have hf := (if_neg c_1005).symm.trans hf
            refine lv_iload_n hx hb dX5_stops_31 rfl (lv_at hl 3 rfl) ?_
            refine lv_bipush (v := (10 : Int32)) hx hb dX5_stops_32 (by decide) ?_
            refine lv_icmp_le (tgt := 44) hx hb dX5_stops_34 (by decide) (fun c_1006 => ?_) (fun c_1006 => ?_)
            · have hf := (if_pos c_1006).symm.trans hf
              refine lv_iload_n hx hb dX5_stops_44 rfl (lv_at hl 3 rfl) ?_
              refine lv_iload_n hx hb dX5_stops_45 rfl (lv_at hl 1 rfl) ?_
              refine lv_icmp_gt (tgt := 65) hx hb dX5_stops_46 (by decide) (fun c_1007 => ?_) (fun c_1007 => ?_)
              · have hf := (if_pos c_1007).symm.trans hf
                exact j_65 σ _ _ _ hP hS (lv_sub hl [0] rfl) hf
              · have hf := (if_neg c_1007).symm.trans hf
                refine lv_iload_n hx hb dX5_stops_49 rfl (lv_at hl 1 rfl) ?_
                refine lv_if_ne (tgt := 57) hx hb dX5_stops_50 (by decide) (fun c_1008 => ?_) (fun c_1008 => ?_)
                · have hf := (if_neg c_1008).symm.trans hf
                  exact j_57 a0 a1 a2 σ _ _ _ hP hS (lv_sub hl [0, 1, 2, 3] rfl) hf
                · have hf := (if_pos c_1008).symm.trans hf
                  refine lv_iload_n hx hb dX5_stops_53 rfl (lv_at hl 2 rfl) ?_
                  refine lv_if_eq (tgt := 65) hx hb dX5_stops_54 (by decide) (fun c_1009 => ?_) (fun c_1009 => ?_)
                  · have hf := (if_pos c_1009).symm.trans hf
                    exact j_65 σ _ _ _ hP hS (lv_sub hl [0] rfl) hf
                  · have hf := (if_neg c_1009).symm.trans hf
                    exact j_57 a0 a1 a2 σ _ _ _ hP hS (lv_sub hl [0, 1, 2, 3] rfl) hf
            · have hf := (if_neg c_1006).symm.trans hf
              exact j_37 σ _ _ _ hP hS (lv_sub hl [0] rfl) hf
      · have hf := (if_neg c_1003).symm.trans hf
        exact j_12 σ _ _ _ hP hS (lv_sub hl [0] rfl) hf
set_option maxHeartbeats 40000000 in
set_option maxRecDepth 100000 in
theorem kX5_greatestDivisor (l : Launch) {a0 : Int64} {a1 : Int64}  {r : Int64} (hf : fX5_greatestDivisor a0 a1 = some r) : KS l yX5_greatestDivisor wsX5_greatestDivisor (0) (0) [.long a0, .long a1] (some (.long r)) := by
  rw [fX5_greatestDivisor] at hf
  refine Met.ofW (cc := cX5_greatestDivisor) (maxL := 11) (ret := (some .long)) (by decide) rfl ?_
  intro p e s m args below meth c s₁ B hml hv
  obtain ⟨rfl, -⟩ := hv
  have hx := B.exec
  have hb := B.bytes
  have hr := B.returns
  have hts := atoms_spec (ws := wsX5_greatestDivisor) B.pre
  have hown : s.vm.findClass RX5 = some m.cls := findClass_of_methodNamed B.named
  have hlocks := B.notSynchronized
  have hl := lv_entry ([.long a0, .long a1]) (n := 11) (Nat.le_of_ble_eq_true rfl)
  rw [lg_entry_eq]
  generalize (lg_sl ([.long a0, .long a1]) ++ List.replicate (11 - (lg_sl ([.long a0, .long a1])).length) Slot.unset).toArray = ls at hl ⊢
  have hl : lv_has ls 11 [(0, .long a0), (2, .long a1)] := hl
  have L_9 : ∀ (n_9 : Nat) (v4 : Int64) (v6 : Int64) (v8 : Int32) (ls : Array Slot), lv_has ls 11 [(4, .long v4), (6, .long v6), (8, .int v8)] → fX5_greatestDivisor_9 n_9 v4 v6 v8 = some r → W p l e (headSpec wsX5_greatestDivisor ({ frames := 0, cells := 0, slots := 0, locals := 0 })).room s m ([.long a0, .long a1] : List Value).toArray below meth c s.heap [] 0 0 (MQ below (qcS (some (.long r))) ([.long a0, .long a1] : List Value).toArray s 0 0 (fun _ => False)) (F0 m 9 ls []) := by
    intro n_9
    induction n_9 with
    | zero =>
      intro v4 v6 v8 ls hl hf
      rw [fX5_greatestDivisor_9] at hf
      cases hf
    | succ n_9 ih_9 =>
      intro v4 v6 v8 ls hl hf
      rw [fX5_greatestDivisor_9] at hf
      refine lv_iload hx hb dX5_greatestDivisor_9 (lv_at hl 2 rfl) ?_
      refine lv_sipush (v := (200 : Int32)) hx hb dX5_greatestDivisor_11 (by decide) ?_
      refine lv_icmp_ge (tgt := 45) hx hb dX5_greatestDivisor_14 (by decide) (fun c_1 => ?_) (fun c_1 => ?_)
      · have hf := (if_pos c_1).symm.trans hf
        refine lv_lload hx hb dX5_greatestDivisor_45 (lv_at hl 0 rfl) ?_
        exact xs_lret hx hb hr hlocks dX5_greatestDivisor_47 (Option.some.inj hf)
      · have hf := (if_neg c_1).symm.trans hf
        refine lv_lload hx hb dX5_greatestDivisor_17 (lv_at hl 1 rfl) ?_
        refine lv_lconst (v := (0 : Int64)) hx hb dX5_greatestDivisor_19 rfl ?_
        refine W.lcmp hx hb dX5_greatestDivisor_20 ?_
        refine lv_if_eq (tgt := 45) hx hb dX5_greatestDivisor_21 (by decide) (fun c_2 => ?_) (fun c_2 => ?_)
        · have hf := (if_pos c_2).symm.trans hf
          refine lv_lload hx hb dX5_greatestDivisor_45 (lv_at hl 0 rfl) ?_
          exact xs_lret hx hb hr hlocks dX5_greatestDivisor_47 (Option.some.inj hf)
        · have hf := (if_neg c_2).symm.trans hf
          refine lv_lload hx hb dX5_greatestDivisor_24 (lv_at hl 0 rfl) ?_
          refine lv_lload hx hb dX5_greatestDivisor_26 (lv_at hl 1 rfl) ?_
          obtain ⟨c_3, hf⟩ := x_ck hf
          refine lv_lrem hx hb dX5_greatestDivisor_28 c_3 ?_
          refine lv_lstore (lv' := [(9, .long (v4 - v4 / v6 * v6)), (4, .long v4), (6, .long v6), (8, .int v8)]) hx hb dX5_greatestDivisor_29 hl (by decide) rfl (fun ls hl => ?_)
          refine lv_lload hx hb dX5_greatestDivisor_31 (lv_at hl 2 rfl) ?_
          refine lv_lstore (lv' := [(4, .long v6), (9, .long (v4 - v4 / v6 * v6)), (6, .long v6), (8, .int v8)]) hx hb dX5_greatestDivisor_33 hl (by decide) rfl (fun ls hl => ?_)
          refine lv_lload hx hb dX5_greatestDivisor_35 (lv_at hl 1 rfl) ?_
          refine lv_lstore (lv' := [(6, .long (v4 - v4 / v6 * v6)), (4, .long v6), (9, .long (v4 - v4 / v6 * v6)), (8, .int v8)]) hx hb dX5_greatestDivisor_37 hl (by decide) rfl (fun ls hl => ?_)
          refine lv_iinc (v := (v8 + (1 : Int32))) (lv' := [(8, .int (v8 + (1 : Int32))), (6, .long (v4 - v4 / v6 * v6)), (4, .long v6), (9, .long (v4 - v4 / v6 * v6))]) hx hb dX5_greatestDivisor_39 hl (k := 3) rfl rfl (by decide) rfl (fun ls hl => ?_)
          refine lv_goto (tgt := 9) hx hb dX5_greatestDivisor_42 (by decide) ?_
          exact ih_9 v6 (v4 - v4 / v6 * v6) (v8 + (1 : Int32)) _ (lv_sub hl [2, 1, 0] rfl) hf
  refine lv_lload_n hx hb dX5_greatestDivisor_0 rfl (lv_at hl 0 rfl) ?_
  refine lv_lstore (lv' := [(4, .long a0), (0, .long a0), (2, .long a1)]) hx hb dX5_greatestDivisor_1 hl (by decide) rfl (fun ls hl => ?_)
  refine lv_lload_n hx hb dX5_greatestDivisor_3 rfl (lv_at hl 2 rfl) ?_
  refine lv_lstore (lv' := [(6, .long a1), (4, .long a0), (0, .long a0), (2, .long a1)]) hx hb dX5_greatestDivisor_4 hl (by decide) rfl (fun ls hl => ?_)
  refine lv_iconst (v := (0 : Int32)) hx hb dX5_greatestDivisor_6 (by decide) ?_
  refine lv_istore (lv' := [(8, .int (0 : Int32)), (6, .long a1), (4, .long a0), (0, .long a0), (2, .long a1)]) hx hb dX5_greatestDivisor_7 hl (by decide) rfl (fun ls hl => ?_)
  exact L_9 1000 a0 a1 (0 : Int32) _ (lv_sub hl [2, 1, 0] rfl) hf
set_option maxHeartbeats 40000000 in
set_option maxRecDepth 100000 in
theorem kX5_fraction (l : Launch) {a0 : Int64} {a1 : Int64} {a2 : Int32}  {r : Int64} (hf : fX5_fraction a0 a1 a2 = some r) : KS l yX5_fraction wsX5_fraction (1) (30) [.long a0, .long a1, .int a2] (some (.long r)) := by
  rw [fX5_fraction] at hf
  refine Met.ofW (cc := cX5_fraction) (maxL := 7) (ret := (some .long)) (by decide) rfl ?_
  intro p e s m args below meth c s₁ B hml hv
  obtain ⟨rfl, -⟩ := hv
  have hx := B.exec
  have hb := B.bytes
  have hr := B.returns
  have hts := atoms_spec (ws := wsX5_fraction) B.pre
  have hown : s.vm.findClass RX5 = some m.cls := findClass_of_methodNamed B.named
  have hlocks := B.notSynchronized
  have hl := lv_entry ([.long a0, .long a1, .int a2]) (n := 7) (Nat.le_of_ble_eq_true rfl)
  rw [lg_entry_eq]
  generalize (lg_sl ([.long a0, .long a1, .int a2]) ++ List.replicate (7 - (lg_sl ([.long a0, .long a1, .int a2])).length) Slot.unset).toArray = ls at hl ⊢
  have hl : lv_has ls 7 [(0, .long a0), (2, .long a1), (4, .int a2)] := hl
  have j_26 : ∀ (v4 : Int32) (ls : Array Slot), lv_has ls 7 [(4, .int v4)] → fX5_fraction_26 v4 = some r → W p l e (headSpec wsX5_fraction ({ frames := 1, cells := 0, slots := 0, locals := 30 })).room s m ([.long a0, .long a1, .int a2] : List Value).toArray below meth c s.heap [] 0 0 (MQ below (qcS (some (.long r))) ([.long a0, .long a1, .int a2] : List Value).toArray s 0 0 (fun _ => False)) (F0 m 26 ls []) := by
    intro v4 ls hl hf
    rw [fX5_fraction_26] at hf
    refine lv_iload hx hb dX5_fraction_26 (lv_at hl 0 rfl) ?_
    refine lv_if_ne (tgt := 35) hx hb dX5_fraction_28 (by decide) (fun c_8 => ?_) (fun c_8 => ?_)
    · have hf := (if_neg c_8).symm.trans hf
      refine lv_lconst (v := (1 : Int64)) hx hb dX5_fraction_35 rfl ?_
      exact xs_lret hx hb hr hlocks dX5_fraction_36 (Option.some.inj hf)
    · have hf := (if_pos c_8).symm.trans hf
      refine lv_lconst (v := (0 : Int64)) hx hb dX5_fraction_31 rfl ?_
      refine lv_goto (tgt := 36) hx hb dX5_fraction_32 (by decide) ?_
      exact xs_lret hx hb hr hlocks dX5_fraction_36 (Option.some.inj hf)
  refine lv_lload_n hx hb dX5_fraction_0 rfl (lv_at hl 0 rfl) ?_
  refine lv_lload_n hx hb dX5_fraction_1 rfl (lv_at hl 1 rfl) ?_
  obtain ⟨q_1001, hq_1001, hf⟩ := x_bd hf
  refine x_callSl (va_runS (As := [.long a0, .long a1]) (rest := []) ⟨hx, hb, hml, hown, hts⟩ (kX5_greatestDivisor l hq_1001) (va_cwS 2 hts gX5_fraction_X5_greatestDivisor rfl rfl rfl (by decide +kernel) ⟨Nat.le_of_ble_eq_true rfl, Nat.le_of_ble_eq_true rfl⟩) psS rfl rfl hl.1 rfl (lv_room (Nat.le_of_ble_eq_true rfl)) dX5_fraction_2 ⟨Nat.zero_le _, Nat.zero_le _⟩) ?_
  refine lv_lstore (lv' := [(5, .long q_1001), (0, .long a0), (2, .long a1), (4, .int a2)]) hx hb dX5_fraction_5 hl (by decide) rfl (fun ls hl => ?_)
  refine lv_lload_n hx hb dX5_fraction_7 rfl (lv_at hl 1 rfl) ?_
  refine lv_lconst (v := (0 : Int64)) hx hb dX5_fraction_8 rfl ?_
  refine W.lcmp hx hb dX5_fraction_9 ?_
  refine lv_if_eq (tgt := 26) hx hb dX5_fraction_10 (by decide) (fun c_1002 => ?_) (fun c_1002 => ?_)
  · have hf := (if_pos c_1002).symm.trans hf
    exact j_26 a2 _ (lv_sub hl [3] rfl) hf
  · have hf := (if_neg c_1002).symm.trans hf
    refine lv_lload_n hx hb dX5_fraction_13 rfl (lv_at hl 2 rfl) ?_
    refine lv_lconst (v := (0 : Int64)) hx hb dX5_fraction_14 rfl ?_
    refine W.lcmp hx hb dX5_fraction_15 ?_
    refine lv_if_eq (tgt := 26) hx hb dX5_fraction_16 (by decide) (fun c_1003 => ?_) (fun c_1003 => ?_)
    · have hf := (if_pos c_1003).symm.trans hf
      exact j_26 a2 _ (lv_sub hl [3] rfl) hf
    · have hf := (if_neg c_1003).symm.trans hf
      refine lv_lload hx hb dX5_fraction_19 (lv_at hl 0 rfl) ?_
      refine lv_lconst (v := (0 : Int64)) hx hb dX5_fraction_21 rfl ?_
      refine W.lcmp hx hb dX5_fraction_22 ?_
      refine lv_if_ne (tgt := 37) hx hb dX5_fraction_23 (by decide) (fun c_1004 => ?_) (fun c_1004 => ?_)
      · have hf := (if_neg c_1004).symm.trans hf
        refine lv_iload hx hb dX5_fraction_37 (lv_at hl 3 rfl) ?_
        refine lv_if_ne (tgt := 46) hx hb dX5_fraction_39 (by decide) (fun c_1005 => ?_) (fun c_1005 => ?_)
        · have hf := (if_neg c_1005).symm.trans hf
          refine lv_lload_n hx hb dX5_fraction_46 rfl (lv_at hl 2 rfl) ?_
          refine lv_lload hx hb dX5_fraction_47 (lv_at hl 0 rfl) ?_
          obtain ⟨c_1006, hf⟩ := x_ck hf
          refine lv_ldiv hx hb dX5_fraction_49 c_1006 ?_
          exact xs_lret hx hb hr hlocks dX5_fraction_50 (Option.some.inj hf)
        · have hf := (if_pos c_1005).symm.trans hf
          refine lv_lload_n hx hb dX5_fraction_42 rfl (lv_at hl 1 rfl) ?_
          refine lv_goto (tgt := 47) hx hb dX5_fraction_43 (by decide) ?_
          refine lv_lload hx hb dX5_fraction_47 (lv_at hl 0 rfl) ?_
          obtain ⟨c_1007, hf⟩ := x_ck hf
          refine lv_ldiv hx hb dX5_fraction_49 c_1007 ?_
          exact xs_lret hx hb hr hlocks dX5_fraction_50 (Option.some.inj hf)
      · have hf := (if_pos c_1004).symm.trans hf
        exact j_26 a2 _ (lv_sub hl [3] rfl) hf
set_option maxHeartbeats 40000000 in
set_option maxRecDepth 100000 in
theorem kX5_isNoBit (l : Launch) {a0 : Int32}  {r : Int32} (hf : fX5_isNoBit a0 = some r) : KS l yX5_isNoBit wsX5_isNoBit (0) (0) [.int a0] (some (.int r)) := by
  rw [fX5_isNoBit] at hf
  refine Met.ofW (cc := cX5_isNoBit) (maxL := 1) (ret := (some .boolean)) (by decide) rfl ?_
  intro p e s m args below meth c s₁ B hml hv
  obtain ⟨rfl, -⟩ := hv
  have hx := B.exec
  have hb := B.bytes
  have hr := B.returns
  have hts := atoms_spec (ws := wsX5_isNoBit) B.pre
  have hown : s.vm.findClass RX5 = some m.cls := findClass_of_methodNamed B.named
  have hlocks := B.notSynchronized
  have hl := lv_entry ([.int a0]) (n := 1) (Nat.le_of_ble_eq_true rfl)
  rw [lg_entry_eq]
  generalize (lg_sl ([.int a0]) ++ List.replicate (1 - (lg_sl ([.int a0])).length) Slot.unset).toArray = ls at hl ⊢
  have hl : lv_has ls 1 [(0, .int a0)] := hl
  refine lv_iload_n hx hb dX5_isNoBit_0 rfl (lv_at hl 0 rfl) ?_
  refine lv_if_lt (tgt := 9) hx hb dX5_isNoBit_1 (by decide) (fun c_1001 => ?_) (fun c_1001 => ?_)
  · have hf := (if_pos c_1001).symm.trans hf
    refine lv_iconst (v := (1 : Int32)) hx hb dX5_isNoBit_9 (by decide) ?_
    refine lv_goto (tgt := 14) hx hb dX5_isNoBit_10 (by decide) ?_
    exact xs_zret hx hb hr hlocks dX5_isNoBit_14 rfl (Option.some.inj hf)
  · have hf := (if_neg c_1001).symm.trans hf
    refine lv_iload_n hx hb dX5_isNoBit_4 rfl (lv_at hl 0 rfl) ?_
    refine lv_iconst (v := (1 : Int32)) hx hb dX5_isNoBit_5 (by decide) ?_
    refine lv_icmp_le (tgt := 13) hx hb dX5_isNoBit_6 (by decide) (fun c_1002 => ?_) (fun c_1002 => ?_)
    · have hf := (if_pos c_1002).symm.trans hf
      refine lv_iconst (v := (0 : Int32)) hx hb dX5_isNoBit_13 (by decide) ?_
      exact xs_zret hx hb hr hlocks dX5_isNoBit_14 rfl (Option.some.inj hf)
    · have hf := (if_neg c_1002).symm.trans hf
      refine lv_iconst (v := (1 : Int32)) hx hb dX5_isNoBit_9 (by decide) ?_
      refine lv_goto (tgt := 14) hx hb dX5_isNoBit_10 (by decide) ?_
      exact xs_zret hx hb hr hlocks dX5_isNoBit_14 rfl (Option.some.inj hf)
set_option maxHeartbeats 40000000 in
set_option maxRecDepth 100000 in
theorem kX5_refuseLong (l : Launch) (z : Cx) (hz : okC 40 z) {a0 : Int32}  {σ σ' : Mm} {r : Int64} (hf : fX5_refuseLong a0 σ = some (r, σ')) : KG 40 ceX l yX5_refuseLong wsX5_refuseLong (1) (22) [.ref (z.2.1 0), .int a0] z σ σ' (some (.long r)) := by
  rw [fX5_refuseLong] at hf
  refine Met.ofW (cc := cX5_refuseLong) (maxL := 2) (ret := (some .long)) (by decide) rfl ?_
  intro p e s m args below meth c s₁ B hml hv
  obtain ⟨rfl, hP, hK, hE⟩ := hv
  have hx := B.exec
  have hb := B.bytes
  have hr := B.returns
  have hts := atoms_spec (ws := wsX5_refuseLong) B.pre
  have hown : s.vm.findClass RX5 = some m.cls := findClass_of_methodNamed B.named
  have hlocks := B.notSynchronized
  have hS : va_S (aG 40 z) s.heap s.heap [] := va_S.rf
  have hl := lv_entry ([.ref (z.2.1 0), .int a0]) (n := 2) (Nat.le_of_ble_eq_true rfl)
  rw [lg_entry_eq]
  generalize (lg_sl ([.ref (z.2.1 0), .int a0]) ++ List.replicate (2 - (lg_sl ([.ref (z.2.1 0), .int a0])).length) Slot.unset).toArray = ls at hl ⊢
  have hl : lv_has ls 2 [(0, .ref (z.2.1 0)), (1, .int a0)] := hl
  refine lv_ldc2 (v := (4000000000000000000 : Int64)) hx hb hown (hts (.constantLong RX5 179 (4000000000000000000 : Int64)) (by decide +kernel)) dX5_refuseLong_0 ?_
  refine lv_aload_n hx hb dX5_refuseLong_3 rfl (lv_at hl 0 rfl) ?_
  refine lv_iload_n hx hb dX5_refuseLong_4 rfl (lv_at hl 1 rfl) ?_
  obtain ⟨q_1001, hq_1001, hf⟩ := x_bd hf
  refine x_callGi (va_runV (As := [.int a0]) (rest := [.long (4000000000000000000 : Int64)]) ⟨hx, hb, hml, hown, hts⟩ (kX5_refuse l z hz hq_1001) (cwV 1 hts gX5_refuseLong_X5_refuse rfl rfl rfl (by decide +kernel) ⟨Nat.le_of_ble_eq_true rfl, Nat.le_of_ble_eq_true rfl⟩) (pvG hK hP hE hS (va_recv hK hP (ci := 5) (q0 := 0) rfl (wl_at (by decide) cX5))) rfl rfl hl.1 rfl (lv_room (Nat.le_of_ble_eq_true rfl)) dX5_refuseLong_5 ⟨Nat.zero_le _, Nat.zero_le _⟩) hS (fun H locs hP hS => ?_)
  refine lv_i2l (v := q_1001.1.toInt64) hx hb dX5_refuseLong_8 rfl ?_
  refine lv_lsub hx hb dX5_refuseLong_9 ?_
  exact x_lret hx hb hr hlocks hP hS dX5_refuseLong_10 (Prod.mk.inj (Option.some.inj hf)).1 (Prod.mk.inj (Option.some.inj hf)).2
set_option maxHeartbeats 40000000 in
set_option maxRecDepth 100000 in
theorem kX5_tallyOf (l : Launch) (z : Cx) (hz : okC 40 z) {a0 : Int32}  {σ σ' : Mm} {r : Nat} (hf : fX5_tallyOf a0 σ = some (r, σ')) : KG 40 ceX l yX5_tallyOf wsX5_tallyOf (4) (105) [.ref (z.2.1 0), .int a0] z σ σ' (some (.ref (z.2.1 r))) := by
  rw [fX5_tallyOf] at hf
  refine Met.ofW (cc := cX5_tallyOf) (maxL := 3) (ret := (some (.object "TillOneOfSort$Tally"))) (by decide) rfl ?_
  intro p e s m args below meth c s₁ B hml hv
  obtain ⟨rfl, hP, hK, hE⟩ := hv
  have hx := B.exec
  have hb := B.bytes
  have hr := B.returns
  have hts := atoms_spec (ws := wsX5_tallyOf) B.pre
  have hown : s.vm.findClass RX5 = some m.cls := findClass_of_methodNamed B.named
  have hlocks := B.notSynchronized
  have in_X3 : ∀ w ∈ wsX30, w ∈ wsX5_tallyOf := by decide +kernel
  have in_X5 : ∀ w ∈ wsX50, w ∈ wsX5_tallyOf := by decide +kernel
  have hS : va_S (aG 40 z) s.heap s.heap [] := va_S.rf
  have hl := lv_entry ([.ref (z.2.1 0), .int a0]) (n := 3) (Nat.le_of_ble_eq_true rfl)
  rw [lg_entry_eq]
  generalize (lg_sl ([.ref (z.2.1 0), .int a0]) ++ List.replicate (3 - (lg_sl ([.ref (z.2.1 0), .int a0])).length) Slot.unset).toArray = ls at hl ⊢
  have hl : lv_has ls 3 [(0, .ref (z.2.1 0)), (1, .int a0)] := hl
  have j_22 : ∀ (v1 : Int32) (σ : Mm) (H : Heap) (locs : List Loc) (ls : Array Slot), va_P z.1 vwCl (wl 40 z.2.1 (ceX z σ)) H → va_S (aG 40 z) s.heap H locs → lv_has ls 3 [(0, .ref (z.2.1 0)), (1, .int v1)] → fX5_tallyOf_22 v1 σ = some (r, σ') → W p l e (headSpec wsX5_tallyOf ({ frames := 4, cells := 0, slots := 0, locals := 105 })).room s m ([.ref (z.2.1 0), .int a0] : List Value).toArray below meth c H locs 0 0 (MQ below (qcG 40 ceX z σ' (some (.ref (z.2.1 r)))) ([.ref (z.2.1 0), .int a0] : List Value).toArray s 0 0 (aG 40 z)) (F0 m 22 ls []) := by
    intro v1 σ H locs ls hP hS hl hf
    rw [fX5_tallyOf_22] at hf
    refine lv_null hx hb dX5_tallyOf_22 ?_
    refine lv_astore_nN (lv' := [(2, .null), (0, .ref (z.2.1 0)), (1, .int v1)]) hx hb dX5_tallyOf_23 rfl hl (by decide) rfl (fun ls hl => ?_)
    refine lv_aload_nN hx hb dX5_tallyOf_24 rfl (lv_at hl 0 rfl) ?_
    refine lv_ifnonnullN hx hb dX5_tallyOf_25 ?_
    refine lv_aload_n hx hb dX5_tallyOf_28 rfl (lv_at hl 1 rfl) ?_
    refine va_get (D := z.1) (ci := 5) (v := .ref (z.2.1 32)) (C := RX5) (T := TX5) (N := 10) hx hb hts in_X5 hown hK hP 0 (wl_at (by decide) cX5) rfl 9 (by decide) (hts (.fieldLink RX5 45 "TillOneOfSort" "spare" "LTillOneOfSort$Tally;") (by decide +kernel)) (fun _ h9 => h9) rfl dX5_tallyOf_29 ?_
    refine lv_astore_n (lv' := [(2, .ref (z.2.1 32)), (0, .ref (z.2.1 0)), (1, .int v1)]) hx hb dX5_tallyOf_32 rfl hl (by decide) rfl (fun ls hl => ?_)
    refine lv_aload_n hx hb dX5_tallyOf_33 rfl (lv_at hl 0 rfl) ?_
    refine lv_iload_n hx hb dX5_tallyOf_34 rfl (lv_at hl 2 rfl) ?_
    refine lv_aload_n hx hb dX5_tallyOf_35 rfl (lv_at hl 1 rfl) ?_
    refine va_get (D := z.1) (ci := 5) (v := .ref (z.2.1 1)) (C := RX5) (T := TX5) (N := 10) hx hb hts in_X5 hown hK hP 0 (wl_at (by decide) cX5) rfl 0 (by decide) (hts (.fieldLink RX5 10 "TillOneOfSort" "told" "LTillOneOfSort$Told;") (by decide +kernel)) (fun _ h9 => h9) rfl dX5_tallyOf_36 ?_
    refine va_getN (D := z.1) (ci := 3) (v := .int (gI σ 1 1)) (C := RX3) (T := TX3) (N := 8) hx hb hts in_X3 hown hK hP 1 (wl_at (told_lt (rfl : isTold 1 = true)) (cX3 (rfl : isTold 1 = true))) rfl 1 (by decide) (hE.1.at (List.mem_of_getElem? (i := 6) rfl) rfl) (fun _ h9 => h9) rfl dX5_tallyOf_39 ?_
    refine lv_aload_n hx hb dX5_tallyOf_42 rfl (lv_at hl 1 rfl) ?_
    refine va_get (D := z.1) (ci := 5) (v := .ref (z.2.1 1)) (C := RX5) (T := TX5) (N := 10) hx hb hts in_X5 hown hK hP 0 (wl_at (by decide) cX5) rfl 0 (by decide) (hts (.fieldLink RX5 10 "TillOneOfSort" "told" "LTillOneOfSort$Told;") (by decide +kernel)) (fun _ h9 => h9) rfl dX5_tallyOf_43 ?_
    refine va_getN (D := z.1) (ci := 3) (v := .int (gI σ 1 2)) (C := RX3) (T := TX3) (N := 8) hx hb hts in_X3 hown hK hP 1 (wl_at (told_lt (rfl : isTold 1 = true)) (cX3 (rfl : isTold 1 = true))) rfl 2 (by decide) (hE.1.at (List.mem_of_getElem? (i := 3) rfl) rfl) (fun _ h9 => h9) rfl dX5_tallyOf_46 ?_
    refine lv_aload_n hx hb dX5_tallyOf_49 rfl (lv_at hl 1 rfl) ?_
    refine va_get (D := z.1) (ci := 5) (v := .ref (z.2.1 1)) (C := RX5) (T := TX5) (N := 10) hx hb hts in_X5 hown hK hP 0 (wl_at (by decide) cX5) rfl 0 (by decide) (hts (.fieldLink RX5 10 "TillOneOfSort" "told" "LTillOneOfSort$Told;") (by decide +kernel)) (fun _ h9 => h9) rfl dX5_tallyOf_50 ?_
    refine va_getN (D := z.1) (ci := 3) (v := .int (gI σ 1 3)) (C := RX3) (T := TX3) (N := 8) hx hb hts in_X3 hown hK hP 1 (wl_at (told_lt (rfl : isTold 1 = true)) (cX3 (rfl : isTold 1 = true))) rfl 3 (by decide) (hE.1.at (List.mem_of_getElem? (i := 0) rfl) rfl) (fun _ h9 => h9) rfl dX5_tallyOf_53 ?_
    refine lv_aload_n hx hb dX5_tallyOf_56 rfl (lv_at hl 1 rfl) ?_
    refine va_get (D := z.1) (ci := 5) (v := .ref (z.2.1 1)) (C := RX5) (T := TX5) (N := 10) hx hb hts in_X5 hown hK hP 0 (wl_at (by decide) cX5) rfl 0 (by decide) (hts (.fieldLink RX5 10 "TillOneOfSort" "told" "LTillOneOfSort$Told;") (by decide +kernel)) (fun _ h9 => h9) rfl dX5_tallyOf_57 ?_
    refine va_getN (D := z.1) (ci := 3) (v := .int (gI σ 1 4)) (C := RX3) (T := TX3) (N := 8) hx hb hts in_X3 hown hK hP 1 (wl_at (told_lt (rfl : isTold 1 = true)) (cX3 (rfl : isTold 1 = true))) rfl 4 (by decide) (hE.1.at (List.mem_of_getElem? (i := 1) rfl) rfl) (fun _ h9 => h9) rfl dX5_tallyOf_60 ?_
    obtain ⟨q_5, hq_5, hf⟩ := x_bd hf
    refine x_callGv (va_runV (As := [.int v1, .int (gI σ 1 1), .int (gI σ 1 2), .int (gI σ 1 3), .int (gI σ 1 4)]) (rest := []) ⟨hx, hb, hml, hown, hts⟩ (kX1_retell l z hz (rfl : isTal 32 = true) hq_5) (cwV 5 hts gX5_tallyOf_X1_retell rfl rfl rfl (by decide +kernel) ⟨Nat.le_of_ble_eq_true rfl, Nat.le_of_ble_eq_true rfl⟩) (pvG hK hP hE hS (va_recv hK hP (ci := 1) (q0 := 32) rfl (wl_at (tal_lt (rfl : isTal 32 = true)) (cX1 (rfl : isTal 32 = true))))) rfl rfl hl.1 rfl (lv_room (Nat.le_of_ble_eq_true rfl)) dX5_tallyOf_63 ⟨Nat.zero_le _, Nat.zero_le _⟩) hS (fun H locs hP hS => ?_)
    refine lv_aload_n hx hb dX5_tallyOf_66 rfl (lv_at hl 0 rfl) ?_
    exact x_aret hx hb hr hlocks hP hS dX5_tallyOf_67 (Prod.mk.inj (Option.some.inj hf)).1 (Prod.mk.inj (Option.some.inj hf)).2
  refine lv_iload_n hx hb dX5_tallyOf_0 rfl (lv_at hl 1 rfl) ?_
  refine lv_if_lt (tgt := 22) hx hb dX5_tallyOf_1 (by decide) (fun c_1001 => ?_) (fun c_1001 => ?_)
  · have hf := (if_pos c_1001).symm.trans hf
    exact j_22 a0 σ _ _ _ hP hS (lv_sub hl [0, 1] rfl) hf
  · have hf := (if_neg c_1001).symm.trans hf
    refine lv_iload_n hx hb dX5_tallyOf_4 rfl (lv_at hl 1 rfl) ?_
    refine lv_aload_n hx hb dX5_tallyOf_5 rfl (lv_at hl 0 rfl) ?_
    refine va_get (D := z.1) (ci := 5) (v := .ref (z.2.1 13)) (C := RX5) (T := TX5) (N := 10) hx hb hts in_X5 hown hK hP 0 (wl_at (by decide) cX5) rfl 8 (by decide) (hts (.fieldLink RX5 35 "TillOneOfSort" "tallies" "[LTillOneOfSort$Tally;") (by decide +kernel)) (fun _ h9 => h9) rfl dX5_tallyOf_6 ?_
    refine va_alen (v := (6 : Int32)) hx hb hK hP 13 2 (wl_at (by decide) cXT) rfl rfl dX5_tallyOf_9 ?_
    refine lv_icmp_ge (tgt := 22) hx hb dX5_tallyOf_10 (by decide) (fun c_1002 => ?_) (fun c_1002 => ?_)
    · have hf := (if_pos c_1002).symm.trans hf
      exact j_22 a0 σ _ _ _ hP hS (lv_sub hl [0, 1] rfl) hf
    · have hf := (if_neg c_1002).symm.trans hf
      refine lv_aload_n hx hb dX5_tallyOf_13 rfl (lv_at hl 0 rfl) ?_
      refine va_get (D := z.1) (ci := 5) (v := .ref (z.2.1 13)) (C := RX5) (T := TX5) (N := 10) hx hb hts in_X5 hown hK hP 0 (wl_at (by decide) cX5) rfl 8 (by decide) (hts (.fieldLink RX5 35 "TillOneOfSort" "tallies" "[LTillOneOfSort$Tally;") (by decide +kernel)) (fun _ h9 => h9) rfl dX5_tallyOf_14 ?_
      refine lv_iload_n hx hb dX5_tallyOf_17 rfl (lv_at hl 1 rfl) ?_
      obtain ⟨c_1003, hf⟩ := x_ck hf
      refine va_aldq hx hb hK hP 13 2 (wl_at (by decide) cXT) rfl (ci_in c_1003) dX5_tallyOf_18 ?_
      refine lv_goto (tgt := 23) hx hb dX5_tallyOf_19 (by decide) ?_
      refine lv_astore_n (lv' := [(2, .ref (z.2.1 (14 + 3 * a0.toNatClampNeg))), (0, .ref (z.2.1 0)), (1, .int a0)]) hx hb dX5_tallyOf_23 rfl hl (by decide) rfl (fun ls hl => ?_)
      refine lv_aload_n hx hb dX5_tallyOf_24 rfl (lv_at hl 0 rfl) ?_
      refine lv_ifnonnull (tgt := 33) hx hb dX5_tallyOf_25 (by decide) ?_
      refine lv_aload_n hx hb dX5_tallyOf_33 rfl (lv_at hl 0 rfl) ?_
      refine lv_iload_n hx hb dX5_tallyOf_34 rfl (lv_at hl 2 rfl) ?_
      refine lv_aload_n hx hb dX5_tallyOf_35 rfl (lv_at hl 1 rfl) ?_
      refine va_get (D := z.1) (ci := 5) (v := .ref (z.2.1 1)) (C := RX5) (T := TX5) (N := 10) hx hb hts in_X5 hown hK hP 0 (wl_at (by decide) cX5) rfl 0 (by decide) (hts (.fieldLink RX5 10 "TillOneOfSort" "told" "LTillOneOfSort$Told;") (by decide +kernel)) (fun _ h9 => h9) rfl dX5_tallyOf_36 ?_
      refine va_getN (D := z.1) (ci := 3) (v := .int (gI σ 1 1)) (C := RX3) (T := TX3) (N := 8) hx hb hts in_X3 hown hK hP 1 (wl_at (told_lt (rfl : isTold 1 = true)) (cX3 (rfl : isTold 1 = true))) rfl 1 (by decide) (hE.1.at (List.mem_of_getElem? (i := 6) rfl) rfl) (fun _ h9 => h9) rfl dX5_tallyOf_39 ?_
      refine lv_aload_n hx hb dX5_tallyOf_42 rfl (lv_at hl 1 rfl) ?_
      refine va_get (D := z.1) (ci := 5) (v := .ref (z.2.1 1)) (C := RX5) (T := TX5) (N := 10) hx hb hts in_X5 hown hK hP 0 (wl_at (by decide) cX5) rfl 0 (by decide) (hts (.fieldLink RX5 10 "TillOneOfSort" "told" "LTillOneOfSort$Told;") (by decide +kernel)) (fun _ h9 => h9) rfl dX5_tallyOf_43 ?_
      refine va_getN (D := z.1) (ci := 3) (v := .int (gI σ 1 2)) (C := RX3) (T := TX3) (N := 8) hx hb hts in_X3 hown hK hP 1 (wl_at (told_lt (rfl : isTold 1 = true)) (cX3 (rfl : isTold 1 = true))) rfl 2 (by decide) (hE.1.at (List.mem_of_getElem? (i := 3) rfl) rfl) (fun _ h9 => h9) rfl dX5_tallyOf_46 ?_
      refine lv_aload_n hx hb dX5_tallyOf_49 rfl (lv_at hl 1 rfl) ?_
      refine va_get (D := z.1) (ci := 5) (v := .ref (z.2.1 1)) (C := RX5) (T := TX5) (N := 10) hx hb hts in_X5 hown hK hP 0 (wl_at (by decide) cX5) rfl 0 (by decide) (hts (.fieldLink RX5 10 "TillOneOfSort" "told" "LTillOneOfSort$Told;") (by decide +kernel)) (fun _ h9 => h9) rfl dX5_tallyOf_50 ?_
      refine va_getN (D := z.1) (ci := 3) (v := .int (gI σ 1 3)) (C := RX3) (T := TX3) (N := 8) hx hb hts in_X3 hown hK hP 1 (wl_at (told_lt (rfl : isTold 1 = true)) (cX3 (rfl : isTold 1 = true))) rfl 3 (by decide) (hE.1.at (List.mem_of_getElem? (i := 0) rfl) rfl) (fun _ h9 => h9) rfl dX5_tallyOf_53 ?_
      refine lv_aload_n hx hb dX5_tallyOf_56 rfl (lv_at hl 1 rfl) ?_
      refine va_get (D := z.1) (ci := 5) (v := .ref (z.2.1 1)) (C := RX5) (T := TX5) (N := 10) hx hb hts in_X5 hown hK hP 0 (wl_at (by decide) cX5) rfl 0 (by decide) (hts (.fieldLink RX5 10 "TillOneOfSort" "told" "LTillOneOfSort$Told;") (by decide +kernel)) (fun _ h9 => h9) rfl dX5_tallyOf_57 ?_
      refine va_getN (D := z.1) (ci := 3) (v := .int (gI σ 1 4)) (C := RX3) (T := TX3) (N := 8) hx hb hts in_X3 hown hK hP 1 (wl_at (told_lt (rfl : isTold 1 = true)) (cX3 (rfl : isTold 1 = true))) rfl 4 (by decide) (hE.1.at (List.mem_of_getElem? (i := 1) rfl) rfl) (fun _ h9 => h9) rfl dX5_tallyOf_60 ?_
      obtain ⟨q_1004, hq_1004, hf⟩ := x_bd hf
      refine x_callGv (va_runV (As := [.int a0, .int (gI σ 1 1), .int (gI σ 1 2), .int (gI σ 1 3), .int (gI σ 1 4)]) (rest := []) ⟨hx, hb, hml, hown, hts⟩ (kX1_retell l z hz (tal_ix c_1003) hq_1004) (cwV 5 hts gX5_tallyOf_X1_retell rfl rfl rfl (by decide +kernel) ⟨Nat.le_of_ble_eq_true rfl, Nat.le_of_ble_eq_true rfl⟩) (pvG hK hP hE hS (va_recv hK hP (ci := 1) (q0 := (14 + 3 * a0.toNatClampNeg)) rfl (wl_at (tal_lt (tal_ix c_1003)) (cX1 (tal_ix c_1003))))) rfl rfl hl.1 rfl (lv_room (Nat.le_of_ble_eq_true rfl)) dX5_tallyOf_63 ⟨Nat.zero_le _, Nat.zero_le _⟩) hS (fun H locs hP hS => ?_)
      refine lv_aload_n hx hb dX5_tallyOf_66 rfl (lv_at hl 0 rfl) ?_
      exact x_aret hx hb hr hlocks hP hS dX5_tallyOf_67 (Prod.mk.inj (Option.some.inj hf)).1 (Prod.mk.inj (Option.some.inj hf)).2
set_option maxHeartbeats 40000000 in
set_option maxRecDepth 100000 in
theorem kX5_tallyNow (l : Launch) (z : Cx) (hz : okC 40 z)   {σ σ' : Mm} {r : Nat} (hf : fX5_tallyNow σ = some (r, σ')) : KG 40 ceX l yX5_tallyNow wsX5_tallyNow (5) (127) [.ref (z.2.1 0)] z σ σ' (some (.ref (z.2.1 r))) := by
  rw [fX5_tallyNow] at hf
  refine Met.ofW (cc := cX5_tallyNow) (maxL := 1) (ret := (some (.object "TillOneOfSort$Tally"))) (by decide) rfl ?_
  intro p e s m args below meth c s₁ B hml hv
  obtain ⟨rfl, hP, hK, hE⟩ := hv
  have hx := B.exec
  have hb := B.bytes
  have hr := B.returns
  have hts := atoms_spec (ws := wsX5_tallyNow) B.pre
  have hown : s.vm.findClass RX5 = some m.cls := findClass_of_methodNamed B.named
  have hlocks := B.notSynchronized
  have in_X3 : ∀ w ∈ wsX30, w ∈ wsX5_tallyNow := by decide +kernel
  have in_X5 : ∀ w ∈ wsX50, w ∈ wsX5_tallyNow := by decide +kernel
  have hS : va_S (aG 40 z) s.heap s.heap [] := va_S.rf
  have hl := lv_entry ([.ref (z.2.1 0)]) (n := 1) (Nat.le_of_ble_eq_true rfl)
  rw [lg_entry_eq]
  generalize (lg_sl ([.ref (z.2.1 0)]) ++ List.replicate (1 - (lg_sl ([.ref (z.2.1 0)])).length) Slot.unset).toArray = ls at hl ⊢
  have hl : lv_has ls 1 [(0, .ref (z.2.1 0))] := hl
  refine lv_aload_n hx hb dX5_tallyNow_0 rfl (lv_at hl 0 rfl) ?_
  refine lv_aload_n hx hb dX5_tallyNow_1 rfl (lv_at hl 0 rfl) ?_
  refine va_get (D := z.1) (ci := 5) (v := .ref (z.2.1 1)) (C := RX5) (T := TX5) (N := 10) hx hb hts in_X5 hown hK hP 0 (wl_at (by decide) cX5) rfl 0 (by decide) (hts (.fieldLink RX5 10 "TillOneOfSort" "told" "LTillOneOfSort$Told;") (by decide +kernel)) (fun _ h9 => h9) rfl dX5_tallyNow_2 ?_
  refine va_getN (D := z.1) (ci := 3) (v := .int (gI σ 1 0)) (C := RX3) (T := TX3) (N := 8) hx hb hts in_X3 hown hK hP 1 (wl_at (told_lt (rfl : isTold 1 = true)) (cX3 (rfl : isTold 1 = true))) rfl 0 (by decide) (hE.1.at (List.mem_of_getElem? (i := 5) rfl) rfl) (fun _ h9 => h9) rfl dX5_tallyNow_5 ?_
  obtain ⟨q_1001, hq_1001, hf⟩ := x_bd hf
  obtain ⟨c_1002, hf⟩ := x_ck hf
  refine x_callGr (va_runV (As := [.int (gI σ 1 0)]) (rest := []) ⟨hx, hb, hml, hown, hts⟩ (kX5_tallyOf l z hz hq_1001) (cwV 1 hts gX5_tallyNow_X5_tallyOf rfl rfl rfl (by decide +kernel) ⟨Nat.le_of_ble_eq_true rfl, Nat.le_of_ble_eq_true rfl⟩) (pvG hK hP hE hS (va_recv hK hP (ci := 5) (q0 := 0) rfl (wl_at (by decide) cX5))) rfl rfl hl.1 rfl (lv_room (Nat.le_of_ble_eq_true rfl)) dX5_tallyNow_8 ⟨Nat.zero_le _, Nat.zero_le _⟩) hS (fun H locs hP hS => ?_)
  exact x_aret hx hb hr hlocks hP hS dX5_tallyNow_11 (Prod.mk.inj (Option.some.inj hf)).1 (Prod.mk.inj (Option.some.inj hf)).2
set_option maxHeartbeats 40000000 in
set_option maxRecDepth 100000 in
theorem kX5_mean (l : Launch) (z : Cx) (hz : okC 40 z) {a0 : Int32} {a1 : Int32}  {σ σ' : Mm} {r : Int64} (hf : fX5_mean a0 a1 σ = some (r, σ')) : KG 40 ceX l yX5_mean wsX5_mean (6) (147) [.ref (z.2.1 0), .int a0, .int a1] z σ σ' (some (.long r)) := by
  rw [fX5_mean] at hf
  refine Met.ofW (cc := cX5_mean) (maxL := 3) (ret := (some .long)) (by decide) rfl ?_
  intro p e s m args below meth c s₁ B hml hv
  obtain ⟨rfl, hP, hK, hE⟩ := hv
  have hx := B.exec
  have hb := B.bytes
  have hr := B.returns
  have hts := atoms_spec (ws := wsX5_mean) B.pre
  have hown : s.vm.findClass RX5 = some m.cls := findClass_of_methodNamed B.named
  have hlocks := B.notSynchronized
  have hS : va_S (aG 40 z) s.heap s.heap [] := va_S.rf
  have hl := lv_entry ([.ref (z.2.1 0), .int a0, .int a1]) (n := 3) (Nat.le_of_ble_eq_true rfl)
  rw [lg_entry_eq]
  generalize (lg_sl ([.ref (z.2.1 0), .int a0, .int a1]) ++ List.replicate (3 - (lg_sl ([.ref (z.2.1 0), .int a0, .int a1])).length) Slot.unset).toArray = ls at hl ⊢
  have hl : lv_has ls 3 [(0, .ref (z.2.1 0)), (1, .int a0), (2, .int a1)] := hl
  have j_16 : ∀ (σ : Mm) (H : Heap) (locs : List Loc) (ls : Array Slot), va_P z.1 vwCl (wl 40 z.2.1 (ceX z σ)) H → va_S (aG 40 z) s.heap H locs → lv_has ls 3 [(0, .ref (z.2.1 0))] → fX5_mean_16 σ = some (r, σ') → W p l e (headSpec wsX5_mean ({ frames := 6, cells := 0, slots := 0, locals := 147 })).room s m ([.ref (z.2.1 0), .int a0, .int a1] : List Value).toArray below meth c H locs 0 0 (MQ below (qcG 40 ceX z σ' (some (.long r))) ([.ref (z.2.1 0), .int a0, .int a1] : List Value).toArray s 0 0 (aG 40 z)) (F0 m 16 ls []) := by
    intro σ H locs ls hP hS hl hf
    rw [fX5_mean_16] at hf
    refine lv_aload_n hx hb dX5_mean_16 rfl (lv_at hl 0 rfl) ?_
    refine lv_bipush (v := (-2 : Int32)) hx hb dX5_mean_17 (by decide) ?_
    obtain ⟨q_9, hq_9, hf⟩ := x_bd hf
    refine x_callGl (va_runV (As := [.int (-2 : Int32)]) (rest := []) ⟨hx, hb, hml, hown, hts⟩ (kX5_refuseLong l z hz hq_9) (cwV 1 hts gX5_mean_X5_refuseLong rfl rfl rfl (by decide +kernel) ⟨Nat.le_of_ble_eq_true rfl, Nat.le_of_ble_eq_true rfl⟩) (pvG hK hP hE hS (va_recv hK hP (ci := 5) (q0 := 0) rfl (wl_at (by decide) cX5))) rfl rfl hl.1 rfl (lv_room (Nat.le_of_ble_eq_true rfl)) dX5_mean_19 ⟨Nat.zero_le _, Nat.zero_le _⟩) hS (fun H locs hP hS => ?_)
    exact x_lret hx hb hr hlocks hP hS dX5_mean_22 (Prod.mk.inj (Option.some.inj hf)).1 (Prod.mk.inj (Option.some.inj hf)).2
  refine lv_iload_n hx hb dX5_mean_0 rfl (lv_at hl 1 rfl) ?_
  refine lv_if_lt (tgt := 16) hx hb dX5_mean_1 (by decide) (fun c_1001 => ?_) (fun c_1001 => ?_)
  · have hf := (if_pos c_1001).symm.trans hf
    exact j_16 σ _ _ _ hP hS (lv_sub hl [0] rfl) hf
  · have hf := (if_neg c_1001).symm.trans hf
    refine lv_iload_n hx hb dX5_mean_4 rfl (lv_at hl 1 rfl) ?_
    refine lv_iconst (v := (2 : Int32)) hx hb dX5_mean_5 (by decide) ?_
    refine lv_icmp_gt (tgt := 16) hx hb dX5_mean_6 (by decide) (fun c_1002 => ?_) (fun c_1002 => ?_)
    · have hf := (if_pos c_1002).symm.trans hf
      exact j_16 σ _ _ _ hP hS (lv_sub hl [0] rfl) hf
    · have hf := (if_neg c_1002).symm.trans hf
      refine lv_iload_n hx hb dX5_mean_9 rfl (lv_at hl 2 rfl) ?_
      obtain ⟨q_1003, hq_1003, hf⟩ := x_bd hf
      refine x_callSi (va_runS (As := [.int a1]) (rest := []) ⟨hx, hb, hml, hown, hts⟩ (kX5_isNoBit l hq_1003) (va_cwS 1 hts gX5_mean_X5_isNoBit rfl rfl rfl (by decide +kernel) ⟨Nat.le_of_ble_eq_true rfl, Nat.le_of_ble_eq_true rfl⟩) psS rfl rfl hl.1 rfl (lv_room (Nat.le_of_ble_eq_true rfl)) dX5_mean_10 ⟨Nat.zero_le _, Nat.zero_le _⟩) ?_
      refine lv_if_eq (tgt := 23) hx hb dX5_mean_13 (by decide) (fun c_1004 => ?_) (fun c_1004 => ?_)
      · have hf := (if_pos c_1004).symm.trans hf
        refine lv_aload_n hx hb dX5_mean_23 rfl (lv_at hl 0 rfl) ?_
        obtain ⟨q_1005, hq_1005, hf⟩ := x_bd hf
        obtain ⟨c_1006, hf⟩ := x_ck hf
        refine x_callGr (va_runV (As := []) (rest := []) ⟨hx, hb, hml, hown, hts⟩ (kX5_tallyNow l z hz hq_1005) (cwV 0 hts gX5_mean_X5_tallyNow rfl rfl rfl (by decide +kernel) ⟨Nat.le_of_ble_eq_true rfl, Nat.le_of_ble_eq_true rfl⟩) (pvG hK hP hE hS (va_recv hK hP (ci := 5) (q0 := 0) rfl (wl_at (by decide) cX5))) rfl rfl hl.1 rfl (lv_room (Nat.le_of_ble_eq_true rfl)) dX5_mean_24 ⟨Nat.zero_le _, Nat.zero_le _⟩) hS (fun H locs hP hS => ?_)
        refine lv_iload_n hx hb dX5_mean_27 rfl (lv_at hl 1 rfl) ?_
        refine lv_iconst (v := (0 : Int32)) hx hb dX5_mean_28 (by decide) ?_
        obtain ⟨q_1007, hq_1007, hf⟩ := x_bd hf
        refine x_callGl (va_runV (As := [.int a0, .int (0 : Int32)]) (rest := []) ⟨hx, hb, hml, hown, hts⟩ (kX1_sum l z hz c_1006 hq_1007) (cwV 2 hts gX5_mean_X1_sum rfl rfl rfl (by decide +kernel) ⟨Nat.le_of_ble_eq_true rfl, Nat.le_of_ble_eq_true rfl⟩) (pvG hK hP hE hS (va_recv hK hP (ci := 1) (q0 := q_1005.1) rfl (wl_at (tal_lt c_1006) (cX1 c_1006)))) rfl rfl hl.1 rfl (lv_room (Nat.le_of_ble_eq_true rfl)) dX5_mean_29 ⟨Nat.zero_le _, Nat.zero_le _⟩) hS (fun H locs hP hS => ?_)
        refine lv_ldc2 (v := (61917364224 : Int64)) hx hb hown (hts (.constantLong RX5 107 (61917364224 : Int64)) (by decide +kernel)) dX5_mean_32 ?_
        refine lv_iload_n hx hb dX5_mean_35 rfl (lv_at hl 2 rfl) ?_
        obtain ⟨q_1008, hq_1008, hf⟩ := x_bd hf
        refine x_callSl (va_runS (As := [.long q_1007, .long (61917364224 : Int64), .int a1]) (rest := []) ⟨hx, hb, hml, hown, hts⟩ (kX5_fraction l hq_1008) (va_cwS 3 hts gX5_mean_X5_fraction rfl rfl rfl (by decide +kernel) ⟨Nat.le_of_ble_eq_true rfl, Nat.le_of_ble_eq_true rfl⟩) psS rfl rfl hl.1 rfl (lv_room (Nat.le_of_ble_eq_true rfl)) dX5_mean_36 ⟨Nat.zero_le _, Nat.zero_le _⟩) ?_
        exact x_lret hx hb hr hlocks hP hS dX5_mean_39 (Prod.mk.inj (Option.some.inj hf)).1 (Prod.mk.inj (Option.some.inj hf)).2
      · have hf := (if_neg c_1004).symm.trans hf
        exact j_16 σ _ _ _ hP hS (lv_sub hl [0] rfl) hf
set_option maxHeartbeats 40000000 in
set_option maxRecDepth 100000 in
theorem kX5_share (l : Launch) (z : Cx) (hz : okC 40 z) {a0 : Int32}  {σ σ' : Mm} {r : Int64} (hf : fX5_share a0 σ = some (r, σ')) : KG 40 ceX l yX5_share wsX5_share (6) (147) [.ref (z.2.1 0), .int a0] z σ σ' (some (.long r)) := by
  rw [fX5_share] at hf
  refine Met.ofW (cc := cX5_share) (maxL := 2) (ret := (some .long)) (by decide) rfl ?_
  intro p e s m args below meth c s₁ B hml hv
  obtain ⟨rfl, hP, hK, hE⟩ := hv
  have hx := B.exec
  have hb := B.bytes
  have hr := B.returns
  have hts := atoms_spec (ws := wsX5_share) B.pre
  have hown : s.vm.findClass RX5 = some m.cls := findClass_of_methodNamed B.named
  have hlocks := B.notSynchronized
  have hS : va_S (aG 40 z) s.heap s.heap [] := va_S.rf
  have hl := lv_entry ([.ref (z.2.1 0), .int a0]) (n := 2) (Nat.le_of_ble_eq_true rfl)
  rw [lg_entry_eq]
  generalize (lg_sl ([.ref (z.2.1 0), .int a0]) ++ List.replicate (2 - (lg_sl ([.ref (z.2.1 0), .int a0])).length) Slot.unset).toArray = ls at hl ⊢
  have hl : lv_has ls 2 [(0, .ref (z.2.1 0)), (1, .int a0)] := hl
  refine lv_iload_n hx hb dX5_share_0 rfl (lv_at hl 1 rfl) ?_
  obtain ⟨q_1001, hq_1001, hf⟩ := x_bd hf
  refine x_callSi (va_runS (As := [.int a0]) (rest := []) ⟨hx, hb, hml, hown, hts⟩ (kX5_isNoBit l hq_1001) (va_cwS 1 hts gX5_share_X5_isNoBit rfl rfl rfl (by decide +kernel) ⟨Nat.le_of_ble_eq_true rfl, Nat.le_of_ble_eq_true rfl⟩) psS rfl rfl hl.1 rfl (lv_room (Nat.le_of_ble_eq_true rfl)) dX5_share_1 ⟨Nat.zero_le _, Nat.zero_le _⟩) ?_
  refine lv_if_eq (tgt := 14) hx hb dX5_share_4 (by decide) (fun c_1002 => ?_) (fun c_1002 => ?_)
  · have hf := (if_pos c_1002).symm.trans hf
    refine lv_aload_n hx hb dX5_share_14 rfl (lv_at hl 0 rfl) ?_
    obtain ⟨q_1003, hq_1003, hf⟩ := x_bd hf
    obtain ⟨c_1004, hf⟩ := x_ck hf
    refine x_callGr (va_runV (As := []) (rest := []) ⟨hx, hb, hml, hown, hts⟩ (kX5_tallyNow l z hz hq_1003) (cwV 0 hts gX5_share_X5_tallyNow rfl rfl rfl (by decide +kernel) ⟨Nat.le_of_ble_eq_true rfl, Nat.le_of_ble_eq_true rfl⟩) (pvG hK hP hE hS (va_recv hK hP (ci := 5) (q0 := 0) rfl (wl_at (by decide) cX5))) rfl rfl hl.1 rfl (lv_room (Nat.le_of_ble_eq_true rfl)) dX5_share_15 ⟨Nat.zero_le _, Nat.zero_le _⟩) hS (fun H locs hP hS => ?_)
    refine lv_bipush (v := (6 : Int32)) hx hb dX5_share_18 (by decide) ?_
    refine lv_iconst (v := (0 : Int32)) hx hb dX5_share_20 (by decide) ?_
    obtain ⟨q_1005, hq_1005, hf⟩ := x_bd hf
    refine x_callGl (va_runV (As := [.int (6 : Int32), .int (0 : Int32)]) (rest := []) ⟨hx, hb, hml, hown, hts⟩ (kX1_sum l z hz c_1004 hq_1005) (cwV 2 hts gX5_share_X1_sum rfl rfl rfl (by decide +kernel) ⟨Nat.le_of_ble_eq_true rfl, Nat.le_of_ble_eq_true rfl⟩) (pvG hK hP hE hS (va_recv hK hP (ci := 1) (q0 := q_1003.1) rfl (wl_at (tal_lt c_1004) (cX1 c_1004)))) rfl rfl hl.1 rfl (lv_room (Nat.le_of_ble_eq_true rfl)) dX5_share_21 ⟨Nat.zero_le _, Nat.zero_le _⟩) hS (fun H locs hP hS => ?_)
    refine lv_ldc2 (v := (156031757844480 : Int64)) hx hb hown (hts (.constantLong RX5 113 (156031757844480 : Int64)) (by decide +kernel)) dX5_share_24 ?_
    refine lv_iload_n hx hb dX5_share_27 rfl (lv_at hl 1 rfl) ?_
    obtain ⟨q_1006, hq_1006, hf⟩ := x_bd hf
    refine x_callSl (va_runS (As := [.long q_1005, .long (156031757844480 : Int64), .int a0]) (rest := []) ⟨hx, hb, hml, hown, hts⟩ (kX5_fraction l hq_1006) (va_cwS 3 hts gX5_share_X5_fraction rfl rfl rfl (by decide +kernel) ⟨Nat.le_of_ble_eq_true rfl, Nat.le_of_ble_eq_true rfl⟩) psS rfl rfl hl.1 rfl (lv_room (Nat.le_of_ble_eq_true rfl)) dX5_share_28 ⟨Nat.zero_le _, Nat.zero_le _⟩) ?_
    exact x_lret hx hb hr hlocks hP hS dX5_share_31 (Prod.mk.inj (Option.some.inj hf)).1 (Prod.mk.inj (Option.some.inj hf)).2
  · have hf := (if_neg c_1002).symm.trans hf
    refine lv_aload_n hx hb dX5_share_7 rfl (lv_at hl 0 rfl) ?_
    refine lv_bipush (v := (-2 : Int32)) hx hb dX5_share_8 (by decide) ?_
    obtain ⟨q_1007, hq_1007, hf⟩ := x_bd hf
    refine x_callGl (va_runV (As := [.int (-2 : Int32)]) (rest := []) ⟨hx, hb, hml, hown, hts⟩ (kX5_refuseLong l z hz hq_1007) (cwV 1 hts gX5_share_X5_refuseLong rfl rfl rfl (by decide +kernel) ⟨Nat.le_of_ble_eq_true rfl, Nat.le_of_ble_eq_true rfl⟩) (pvG hK hP hE hS (va_recv hK hP (ci := 5) (q0 := 0) rfl (wl_at (by decide) cX5))) rfl rfl hl.1 rfl (lv_room (Nat.le_of_ble_eq_true rfl)) dX5_share_10 ⟨Nat.zero_le _, Nat.zero_le _⟩) hS (fun H locs hP hS => ?_)
    exact x_lret hx hb hr hlocks hP hS dX5_share_13 (Prod.mk.inj (Option.some.inj hf)).1 (Prod.mk.inj (Option.some.inj hf)).2
set_option maxHeartbeats 40000000 in
set_option maxRecDepth 100000 in
theorem kX5_all (l : Launch) (z : Cx) (hz : okC 40 z) {a0 : Int32}  {σ σ' : Mm} {r : Int64} (hf : fX5_all a0 σ = some (r, σ')) : KG 40 ceX l yX5_all wsX5_all (6) (147) [.ref (z.2.1 0), .int a0] z σ σ' (some (.long r)) := by
  rw [fX5_all] at hf
  refine Met.ofW (cc := cX5_all) (maxL := 3) (ret := (some .long)) (by decide) rfl ?_
  intro p e s m args below meth c s₁ B hml hv
  obtain ⟨rfl, hP, hK, hE⟩ := hv
  have hx := B.exec
  have hb := B.bytes
  have hr := B.returns
  have hts := atoms_spec (ws := wsX5_all) B.pre
  have hown : s.vm.findClass RX5 = some m.cls := findClass_of_methodNamed B.named
  have hlocks := B.notSynchronized
  have hS : va_S (aG 40 z) s.heap s.heap [] := va_S.rf
  have hl := lv_entry ([.ref (z.2.1 0), .int a0]) (n := 3) (Nat.le_of_ble_eq_true rfl)
  rw [lg_entry_eq]
  generalize (lg_sl ([.ref (z.2.1 0), .int a0]) ++ List.replicate (3 - (lg_sl ([.ref (z.2.1 0), .int a0])).length) Slot.unset).toArray = ls at hl ⊢
  have hl : lv_has ls 3 [(0, .ref (z.2.1 0)), (1, .int a0)] := hl
  refine lv_iload_n hx hb dX5_all_0 rfl (lv_at hl 1 rfl) ?_
  obtain ⟨q_1001, hq_1001, hf⟩ := x_bd hf
  refine x_callSi (va_runS (As := [.int a0]) (rest := []) ⟨hx, hb, hml, hown, hts⟩ (kX5_isNoBit l hq_1001) (va_cwS 1 hts gX5_all_X5_isNoBit rfl rfl rfl (by decide +kernel) ⟨Nat.le_of_ble_eq_true rfl, Nat.le_of_ble_eq_true rfl⟩) psS rfl rfl hl.1 rfl (lv_room (Nat.le_of_ble_eq_true rfl)) dX5_all_1 ⟨Nat.zero_le _, Nat.zero_le _⟩) ?_
  refine lv_if_eq (tgt := 14) hx hb dX5_all_4 (by decide) (fun c_1002 => ?_) (fun c_1002 => ?_)
  · have hf := (if_pos c_1002).symm.trans hf
    refine lv_aload_n hx hb dX5_all_14 rfl (lv_at hl 0 rfl) ?_
    obtain ⟨q_1003, hq_1003, hf⟩ := x_bd hf
    obtain ⟨c_1004, hf⟩ := x_ck hf
    refine x_callGr (va_runV (As := []) (rest := []) ⟨hx, hb, hml, hown, hts⟩ (kX5_tallyNow l z hz hq_1003) (cwV 0 hts gX5_all_X5_tallyNow rfl rfl rfl (by decide +kernel) ⟨Nat.le_of_ble_eq_true rfl, Nat.le_of_ble_eq_true rfl⟩) (pvG hK hP hE hS (va_recv hK hP (ci := 5) (q0 := 0) rfl (wl_at (by decide) cX5))) rfl rfl hl.1 rfl (lv_room (Nat.le_of_ble_eq_true rfl)) dX5_all_15 ⟨Nat.zero_le _, Nat.zero_le _⟩) hS (fun H locs hP hS => ?_)
    refine lv_astore_n (lv' := [(2, .ref (z.2.1 q_1003.1)), (0, .ref (z.2.1 0)), (1, .int a0)]) hx hb dX5_all_18 rfl hl (by decide) rfl (fun ls hl => ?_)
    refine lv_aload_n hx hb dX5_all_19 rfl (lv_at hl 0 rfl) ?_
    refine lv_iconst (v := (1 : Int32)) hx hb dX5_all_20 (by decide) ?_
    refine lv_iconst (v := (0 : Int32)) hx hb dX5_all_21 (by decide) ?_
    obtain ⟨q_1005, hq_1005, hf⟩ := x_bd hf
    refine x_callGl (va_runV (As := [.int (1 : Int32), .int (0 : Int32)]) (rest := []) ⟨hx, hb, hml, hown, hts⟩ (kX1_sum l z hz c_1004 hq_1005) (cwV 2 hts gX5_all_X1_sum rfl rfl rfl (by decide +kernel) ⟨Nat.le_of_ble_eq_true rfl, Nat.le_of_ble_eq_true rfl⟩) (pvG hK hP hE hS (va_recv hK hP (ci := 1) (q0 := q_1003.1) rfl (wl_at (tal_lt c_1004) (cX1 c_1004)))) rfl rfl hl.1 rfl (lv_room (Nat.le_of_ble_eq_true rfl)) dX5_all_22 ⟨Nat.zero_le _, Nat.zero_le _⟩) hS (fun H locs hP hS => ?_)
    refine lv_aload_n hx hb dX5_all_25 rfl (lv_at hl 0 rfl) ?_
    refine lv_iconst (v := (0 : Int32)) hx hb dX5_all_26 (by decide) ?_
    refine lv_iconst (v := (0 : Int32)) hx hb dX5_all_27 (by decide) ?_
    obtain ⟨q_1006, hq_1006, hf⟩ := x_bd hf
    refine x_callGl (va_runV (As := [.int (0 : Int32), .int (0 : Int32)]) (rest := [.long q_1005]) ⟨hx, hb, hml, hown, hts⟩ (kX1_sum l z hz c_1004 hq_1006) (cwV 2 hts gX5_all_X1_sum rfl rfl rfl (by decide +kernel) ⟨Nat.le_of_ble_eq_true rfl, Nat.le_of_ble_eq_true rfl⟩) (pvG hK hP hE hS (va_recv hK hP (ci := 1) (q0 := q_1003.1) rfl (wl_at (tal_lt c_1004) (cX1 c_1004)))) rfl rfl hl.1 rfl (lv_room (Nat.le_of_ble_eq_true rfl)) dX5_all_28 ⟨Nat.zero_le _, Nat.zero_le _⟩) hS (fun H locs hP hS => ?_)
    refine lv_iload_n hx hb dX5_all_31 rfl (lv_at hl 2 rfl) ?_
    obtain ⟨q_1007, hq_1007, hf⟩ := x_bd hf
    refine x_callSl (va_runS (As := [.long q_1005, .long q_1006, .int a0]) (rest := []) ⟨hx, hb, hml, hown, hts⟩ (kX5_fraction l hq_1007) (va_cwS 3 hts gX5_all_X5_fraction rfl rfl rfl (by decide +kernel) ⟨Nat.le_of_ble_eq_true rfl, Nat.le_of_ble_eq_true rfl⟩) psS rfl rfl hl.1 rfl (lv_room (Nat.le_of_ble_eq_true rfl)) dX5_all_32 ⟨Nat.zero_le _, Nat.zero_le _⟩) ?_
    exact x_lret hx hb hr hlocks hP hS dX5_all_35 (Prod.mk.inj (Option.some.inj hf)).1 (Prod.mk.inj (Option.some.inj hf)).2
  · have hf := (if_neg c_1002).symm.trans hf
    refine lv_aload_n hx hb dX5_all_7 rfl (lv_at hl 0 rfl) ?_
    refine lv_bipush (v := (-2 : Int32)) hx hb dX5_all_8 (by decide) ?_
    obtain ⟨q_1008, hq_1008, hf⟩ := x_bd hf
    refine x_callGl (va_runV (As := [.int (-2 : Int32)]) (rest := []) ⟨hx, hb, hml, hown, hts⟩ (kX5_refuseLong l z hz hq_1008) (cwV 1 hts gX5_all_X5_refuseLong rfl rfl rfl (by decide +kernel) ⟨Nat.le_of_ble_eq_true rfl, Nat.le_of_ble_eq_true rfl⟩) (pvG hK hP hE hS (va_recv hK hP (ci := 5) (q0 := 0) rfl (wl_at (by decide) cX5))) rfl rfl hl.1 rfl (lv_room (Nat.le_of_ble_eq_true rfl)) dX5_all_10 ⟨Nat.zero_le _, Nat.zero_le _⟩) hS (fun H locs hP hS => ?_)
    exact x_lret hx hb hr hlocks hP hS dX5_all_13 (Prod.mk.inj (Option.some.inj hf)).1 (Prod.mk.inj (Option.some.inj hf)).2
set_option maxHeartbeats 40000000 in
set_option maxRecDepth 100000 in
theorem kX5_more (l : Launch) (z : Cx) (hz : okC 40 z) {a0 : Int32} {a1 : Int32}  {σ σ' : Mm} {r : Int64} (hf : fX5_more a0 a1 σ = some (r, σ')) : KG 40 ceX l yX5_more wsX5_more (6) (147) [.ref (z.2.1 0), .int a0, .int a1] z σ σ' (some (.long r)) := by
  rw [fX5_more] at hf
  refine Met.ofW (cc := cX5_more) (maxL := 3) (ret := (some .long)) (by decide) rfl ?_
  intro p e s m args below meth c s₁ B hml hv
  obtain ⟨rfl, hP, hK, hE⟩ := hv
  have hx := B.exec
  have hb := B.bytes
  have hr := B.returns
  have hts := atoms_spec (ws := wsX5_more) B.pre
  have hown : s.vm.findClass RX5 = some m.cls := findClass_of_methodNamed B.named
  have hlocks := B.notSynchronized
  have hS : va_S (aG 40 z) s.heap s.heap [] := va_S.rf
  have hl := lv_entry ([.ref (z.2.1 0), .int a0, .int a1]) (n := 3) (Nat.le_of_ble_eq_true rfl)
  rw [lg_entry_eq]
  generalize (lg_sl ([.ref (z.2.1 0), .int a0, .int a1]) ++ List.replicate (3 - (lg_sl ([.ref (z.2.1 0), .int a0, .int a1])).length) Slot.unset).toArray = ls at hl ⊢
  have hl : lv_has ls 3 [(0, .ref (z.2.1 0)), (1, .int a0), (2, .int a1)] := hl
  have j_16 : ∀ (σ : Mm) (H : Heap) (locs : List Loc) (ls : Array Slot), va_P z.1 vwCl (wl 40 z.2.1 (ceX z σ)) H → va_S (aG 40 z) s.heap H locs → lv_has ls 3 [(0, .ref (z.2.1 0))] → fX5_more_16 σ = some (r, σ') → W p l e (headSpec wsX5_more ({ frames := 6, cells := 0, slots := 0, locals := 147 })).room s m ([.ref (z.2.1 0), .int a0, .int a1] : List Value).toArray below meth c H locs 0 0 (MQ below (qcG 40 ceX z σ' (some (.long r))) ([.ref (z.2.1 0), .int a0, .int a1] : List Value).toArray s 0 0 (aG 40 z)) (F0 m 16 ls []) := by
    intro σ H locs ls hP hS hl hf
    rw [fX5_more_16] at hf
    refine lv_aload_n hx hb dX5_more_16 rfl (lv_at hl 0 rfl) ?_
    refine lv_bipush (v := (-2 : Int32)) hx hb dX5_more_17 (by decide) ?_
    obtain ⟨q_9, hq_9, hf⟩ := x_bd hf
    refine x_callGl (va_runV (As := [.int (-2 : Int32)]) (rest := []) ⟨hx, hb, hml, hown, hts⟩ (kX5_refuseLong l z hz hq_9) (cwV 1 hts gX5_more_X5_refuseLong rfl rfl rfl (by decide +kernel) ⟨Nat.le_of_ble_eq_true rfl, Nat.le_of_ble_eq_true rfl⟩) (pvG hK hP hE hS (va_recv hK hP (ci := 5) (q0 := 0) rfl (wl_at (by decide) cX5))) rfl rfl hl.1 rfl (lv_room (Nat.le_of_ble_eq_true rfl)) dX5_more_19 ⟨Nat.zero_le _, Nat.zero_le _⟩) hS (fun H locs hP hS => ?_)
    exact x_lret hx hb hr hlocks hP hS dX5_more_22 (Prod.mk.inj (Option.some.inj hf)).1 (Prod.mk.inj (Option.some.inj hf)).2
  refine lv_iload_n hx hb dX5_more_0 rfl (lv_at hl 1 rfl) ?_
  refine lv_if_lt (tgt := 16) hx hb dX5_more_1 (by decide) (fun c_1001 => ?_) (fun c_1001 => ?_)
  · have hf := (if_pos c_1001).symm.trans hf
    exact j_16 σ _ _ _ hP hS (lv_sub hl [0] rfl) hf
  · have hf := (if_neg c_1001).symm.trans hf
    refine lv_iload_n hx hb dX5_more_4 rfl (lv_at hl 1 rfl) ?_
    refine lv_iconst (v := (2 : Int32)) hx hb dX5_more_5 (by decide) ?_
    refine lv_icmp_gt (tgt := 16) hx hb dX5_more_6 (by decide) (fun c_1002 => ?_) (fun c_1002 => ?_)
    · have hf := (if_pos c_1002).symm.trans hf
      exact j_16 σ _ _ _ hP hS (lv_sub hl [0] rfl) hf
    · have hf := (if_neg c_1002).symm.trans hf
      refine lv_iload_n hx hb dX5_more_9 rfl (lv_at hl 2 rfl) ?_
      obtain ⟨q_1003, hq_1003, hf⟩ := x_bd hf
      refine x_callSi (va_runS (As := [.int a1]) (rest := []) ⟨hx, hb, hml, hown, hts⟩ (kX5_isNoBit l hq_1003) (va_cwS 1 hts gX5_more_X5_isNoBit rfl rfl rfl (by decide +kernel) ⟨Nat.le_of_ble_eq_true rfl, Nat.le_of_ble_eq_true rfl⟩) psS rfl rfl hl.1 rfl (lv_room (Nat.le_of_ble_eq_true rfl)) dX5_more_10 ⟨Nat.zero_le _, Nat.zero_le _⟩) ?_
      refine lv_if_eq (tgt := 23) hx hb dX5_more_13 (by decide) (fun c_1004 => ?_) (fun c_1004 => ?_)
      · have hf := (if_pos c_1004).symm.trans hf
        refine lv_aload_n hx hb dX5_more_23 rfl (lv_at hl 0 rfl) ?_
        obtain ⟨q_1005, hq_1005, hf⟩ := x_bd hf
        obtain ⟨c_1006, hf⟩ := x_ck hf
        refine x_callGr (va_runV (As := []) (rest := []) ⟨hx, hb, hml, hown, hts⟩ (kX5_tallyNow l z hz hq_1005) (cwV 0 hts gX5_more_X5_tallyNow rfl rfl rfl (by decide +kernel) ⟨Nat.le_of_ble_eq_true rfl, Nat.le_of_ble_eq_true rfl⟩) (pvG hK hP hE hS (va_recv hK hP (ci := 5) (q0 := 0) rfl (wl_at (by decide) cX5))) rfl rfl hl.1 rfl (lv_room (Nat.le_of_ble_eq_true rfl)) dX5_more_24 ⟨Nat.zero_le _, Nat.zero_le _⟩) hS (fun H locs hP hS => ?_)
        refine lv_iconst (v := (3 : Int32)) hx hb dX5_more_27 (by decide) ?_
        refine lv_iload_n hx hb dX5_more_28 rfl (lv_at hl 1 rfl) ?_
        refine lv_iadd hx hb dX5_more_29 ?_
        refine lv_iconst (v := (0 : Int32)) hx hb dX5_more_30 (by decide) ?_
        obtain ⟨q_1007, hq_1007, hf⟩ := x_bd hf
        refine x_callGl (va_runV (As := [.int ((3 : Int32) + a0), .int (0 : Int32)]) (rest := []) ⟨hx, hb, hml, hown, hts⟩ (kX1_sum l z hz c_1006 hq_1007) (cwV 2 hts gX5_more_X1_sum rfl rfl rfl (by decide +kernel) ⟨Nat.le_of_ble_eq_true rfl, Nat.le_of_ble_eq_true rfl⟩) (pvG hK hP hE hS (va_recv hK hP (ci := 1) (q0 := q_1005.1) rfl (wl_at (tal_lt c_1006) (cX1 c_1006)))) rfl rfl hl.1 rfl (lv_room (Nat.le_of_ble_eq_true rfl)) dX5_more_31 ⟨Nat.zero_le _, Nat.zero_le _⟩) hS (fun H locs hP hS => ?_)
        refine lv_ldc2 (v := (61917364224 : Int64)) hx hb hown (hts (.constantLong RX5 107 (61917364224 : Int64)) (by decide +kernel)) dX5_more_34 ?_
        refine lv_iload_n hx hb dX5_more_37 rfl (lv_at hl 2 rfl) ?_
        obtain ⟨q_1008, hq_1008, hf⟩ := x_bd hf
        refine x_callSl (va_runS (As := [.long q_1007, .long (61917364224 : Int64), .int a1]) (rest := []) ⟨hx, hb, hml, hown, hts⟩ (kX5_fraction l hq_1008) (va_cwS 3 hts gX5_more_X5_fraction rfl rfl rfl (by decide +kernel) ⟨Nat.le_of_ble_eq_true rfl, Nat.le_of_ble_eq_true rfl⟩) psS rfl rfl hl.1 rfl (lv_room (Nat.le_of_ble_eq_true rfl)) dX5_more_38 ⟨Nat.zero_le _, Nat.zero_le _⟩) ?_
        exact x_lret hx hb hr hlocks hP hS dX5_more_41 (Prod.mk.inj (Option.some.inj hf)).1 (Prod.mk.inj (Option.some.inj hf)).2
      · have hf := (if_neg c_1004).symm.trans hf
        exact j_16 σ _ _ _ hP hS (lv_sub hl [0] rfl) hf
