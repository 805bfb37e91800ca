set_option maxHeartbeats 40000000 in
set_option maxRecDepth 100000 in
theorem kX0_placeOf (l : Launch) {a0 : Int32} {a1 : Int32} {a2 : Int32}  {r : Int32} (hf : fX0_placeOf a0 a1 a2 = some r) : KS l yX0_placeOf wsX0_placeOf (0) (0) [.int a0, .int a1, .int a2] (some (.int r)) := by
  rw [fX0_placeOf] at hf
  refine Met.ofW (cc := cX0_placeOf) (maxL := 3) (ret := (some .int)) (by decide) rfl ?_
  intro p e s m args below meth c s₁ B hml hv
  obtain ⟨rfl, -⟩ := hv
  have hx := B.exec
  have hb := B.bytes
  have hr := B.returns
  have hts := atoms_spec (ws := wsX0_placeOf) B.pre
  have hown : s.vm.findClass RX0 = some m.cls := findClass_of_methodNamed B.named
  have hlocks := B.notSynchronized
  have hl := lv_entry ([.int a0, .int a1, .int a2]) (n := 3) (Nat.le_of_ble_eq_true rfl)
  rw [lg_entry_eq]
  generalize (lg_sl ([.int a0, .int a1, .int a2]) ++ List.replicate (3 - (lg_sl ([.int a0, .int a1, .int a2])).length) Slot.unset).toArray = ls at hl ⊢
  have hl : lv_has ls 3 [(0, .int a0), (1, .int a1), (2, .int a2)] := hl
  refine lv_iload_n hx hb dX0_placeOf_0 rfl (lv_at hl 0 rfl) ?_
  refine lv_if_lt (tgt := 29) hx hb dX0_placeOf_1 (by decide) (fun c_1001 => ?_) (fun c_1001 => ?_)
  · have hf := (if_pos c_1001).symm.trans hf
    refine lv_iconst (v := (-1 : Int32)) hx hb dX0_placeOf_29 (by decide) ?_
    exact xs_iret hx hb hr hlocks dX0_placeOf_30 (Option.some.inj hf)
  · have hf := (if_neg c_1001).symm.trans hf
    refine lv_iload_n hx hb dX0_placeOf_4 rfl (lv_at hl 0 rfl) ?_
    refine lv_iconst (v := (1 : Int32)) hx hb dX0_placeOf_5 (by decide) ?_
    refine lv_icmp_gt (tgt := 29) hx hb dX0_placeOf_6 (by decide) (fun c_1002 => ?_) (fun c_1002 => ?_)
    · have hf := (if_pos c_1002).symm.trans hf
      refine lv_iconst (v := (-1 : Int32)) hx hb dX0_placeOf_29 (by decide) ?_
      exact xs_iret hx hb hr hlocks dX0_placeOf_30 (Option.some.inj hf)
    · have hf := (if_neg c_1002).symm.trans hf
      refine lv_iload_n hx hb dX0_placeOf_9 rfl (lv_at hl 1 rfl) ?_
      refine lv_if_lt (tgt := 29) hx hb dX0_placeOf_10 (by decide) (fun c_1003 => ?_) (fun c_1003 => ?_)
      · have hf := (if_pos c_1003).symm.trans hf
        refine lv_iconst (v := (-1 : Int32)) hx hb dX0_placeOf_29 (by decide) ?_
        exact xs_iret hx hb hr hlocks dX0_placeOf_30 (Option.some.inj hf)
      · have hf := (if_neg c_1003).symm.trans hf
        refine lv_iload_n hx hb dX0_placeOf_13 rfl (lv_at hl 1 rfl) ?_
        refine lv_bipush (v := (11 : Int32)) hx hb dX0_placeOf_14 (by decide) ?_
        refine lv_icmp_ge (tgt := 29) hx hb dX0_placeOf_16 (by decide) (fun c_1004 => ?_) (fun c_1004 => ?_)
        · have hf := (if_pos c_1004).symm.trans hf
          refine lv_iconst (v := (-1 : Int32)) hx hb dX0_placeOf_29 (by decide) ?_
          exact xs_iret hx hb hr hlocks dX0_placeOf_30 (Option.some.inj hf)
        · have hf := (if_neg c_1004).symm.trans hf
          refine lv_iload_n hx hb dX0_placeOf_19 rfl (lv_at hl 2 rfl) ?_
          refine lv_if_lt (tgt := 29) hx hb dX0_placeOf_20 (by decide) (fun c_1005 => ?_) (fun c_1005 => ?_)
          · have hf := (if_pos c_1005).symm.trans hf
            refine lv_iconst (v := (-1 : Int32)) hx hb dX0_placeOf_29 (by decide) ?_
            exact xs_iret hx hb hr hlocks dX0_placeOf_30 (Option.some.inj hf)
          · have hf := (if_neg c_1005).symm.trans hf
            refine lv_iload_n hx hb dX0_placeOf_23 rfl (lv_at hl 2 rfl) ?_
            refine lv_bipush (v := (11 : Int32)) hx hb dX0_placeOf_24 (by decide) ?_
            refine lv_icmp_lt (tgt := 31) hx hb dX0_placeOf_26 (by decide) (fun c_1006 => ?_) (fun c_1006 => ?_)
            · have hf := (if_pos c_1006).symm.trans hf
              refine lv_iload_n hx hb dX0_placeOf_31 rfl (lv_at hl 0 rfl) ?_
              refine lv_bipush (v := (11 : Int32)) hx hb dX0_placeOf_32 (by decide) ?_
              refine lv_imul hx hb dX0_placeOf_34 ?_
              refine lv_iload_n hx hb dX0_placeOf_35 rfl (lv_at hl 1 rfl) ?_
              refine lv_iadd hx hb dX0_placeOf_36 ?_
              refine lv_bipush (v := (11 : Int32)) hx hb dX0_placeOf_37 (by decide) ?_
              refine lv_imul hx hb dX0_placeOf_39 ?_
              refine lv_iload_n hx hb dX0_placeOf_40 rfl (lv_at hl 2 rfl) ?_
              refine lv_iadd hx hb dX0_placeOf_41 ?_
              exact xs_iret hx hb hr hlocks dX0_placeOf_42 (Option.some.inj hf)
            · have hf := (if_neg c_1006).symm.trans hf
              refine lv_iconst (v := (-1 : Int32)) hx hb dX0_placeOf_29 (by decide) ?_
              exact xs_iret hx hb hr hlocks dX0_placeOf_30 (Option.some.inj hf)
set_option maxHeartbeats 40000000 in
set_option maxRecDepth 100000 in
theorem kX0_at (l : Launch) (z : Cx) (hz : okC 40 z) {i : Nat} {a0 : Int32} {a1 : Int32} {a2 : Int32} (hi : isCel i = true) {σ : Mm} {r : Int64} (hf : fX0_at i a0 a1 a2 σ = some r) : KG 40 ceX l yX0_at wsX0_at (1) (22) [.ref (z.2.1 i), .int a0, .int a1, .int a2] z σ σ (some (.long r)) := by
  rw [fX0_at] at hf
  refine Met.ofW (cc := cX0_at) (maxL := 5) (ret := (some .long)) (by decide) rfl ?_
  intro p e s m args below meth c s₁ B hml hv
  obtain ⟨rfl, hP, hK, hE⟩ := hv
  have hx := B.exec
  have hb := B.bytes
  have hr := B.returns
  have hts := atoms_spec (ws := wsX0_at) B.pre
  have hown : s.vm.findClass RX0 = some m.cls := findClass_of_methodNamed B.named
  have hlocks := B.notSynchronized
  have in_X0 : ∀ w ∈ wsX00, w ∈ wsX0_at := by decide +kernel
  have hS : va_S (aG 40 z) s.heap s.heap [] := va_S.rf
  have hl := lv_entry ([.ref (z.2.1 i), .int a0, .int a1, .int a2]) (n := 5) (Nat.le_of_ble_eq_true rfl)
  rw [lg_entry_eq]
  generalize (lg_sl ([.ref (z.2.1 i), .int a0, .int a1, .int a2]) ++ List.replicate (5 - (lg_sl ([.ref (z.2.1 i), .int a0, .int a1, .int a2])).length) Slot.unset).toArray = ls at hl ⊢
  have hl : lv_has ls 5 [(0, .ref (z.2.1 i)), (1, .int a0), (2, .int a1), (3, .int a2)] := hl
  refine lv_iload_n hx hb dX0_at_0 rfl (lv_at hl 1 rfl) ?_
  refine lv_iload_n hx hb dX0_at_1 rfl (lv_at hl 2 rfl) ?_
  refine lv_iload_n hx hb dX0_at_2 rfl (lv_at hl 3 rfl) ?_
  obtain ⟨q_1001, hq_1001, hf⟩ := x_bd hf
  refine x_callSi (va_runS (As := [.int a0, .int a1, .int a2]) (rest := []) ⟨hx, hb, hml, hown, hts⟩ (kX0_placeOf l hq_1001) (va_cwS 3 hts gX0_at_X0_placeOf rfl rfl rfl (by decide +kernel) ⟨Nat.le_of_ble_eq_true rfl, Nat.le_of_ble_eq_true rfl⟩) psS rfl rfl hl.1 rfl (lv_room (Nat.le_of_ble_eq_true rfl)) dX0_at_3 ⟨Nat.zero_le _, Nat.zero_le _⟩) ?_
  refine lv_istore (lv' := [(4, .int q_1001), (0, .ref (z.2.1 i)), (1, .int a0), (2, .int a1), (3, .int a2)]) hx hb dX0_at_6 hl (by decide) rfl (fun ls hl => ?_)
  refine lv_iload hx hb dX0_at_8 (lv_at hl 0 rfl) ?_
  refine lv_if_lt (tgt := 33) hx hb dX0_at_10 (by decide) (fun c_1002 => ?_) (fun c_1002 => ?_)
  · have hf := (if_pos c_1002).symm.trans hf
    refine lv_lconst (v := (0 : Int64)) hx hb dX0_at_33 rfl ?_
    exact x_lret hx hb hr hlocks hP hS dX0_at_34 (Option.some.inj hf) rfl
  · have hf := (if_neg c_1002).symm.trans hf
    refine lv_iload hx hb dX0_at_13 (lv_at hl 0 rfl) ?_
    refine lv_aload_n hx hb dX0_at_15 rfl (lv_at hl 1 rfl) ?_
    refine va_get (D := z.1) (ci := 0) (v := .ref (z.2.1 (i + 1))) (C := RX0) (T := TX0) (N := 1) hx hb hts in_X0 hown hK hP i (wl_at (cel_lt hi) (cX0 hi)) rfl 0 (by decide) (hts (.fieldLink RX0 11 "TillOneOfSort$Cells" "cells" "[J") (by decide +kernel)) (fun _ h9 => h9) rfl dX0_at_16 ?_
    refine va_alen (v := (242 : Int32)) hx hb hK hP (i + 1) 1 (wl_at (jr_lt (jr_c hi)) (cXJ (jr_c hi))) rfl rfl dX0_at_19 ?_
    refine lv_icmp_ge (tgt := 33) hx hb dX0_at_20 (by decide) (fun c_1003 => ?_) (fun c_1003 => ?_)
    · have hf := (if_pos c_1003).symm.trans hf
      refine lv_lconst (v := (0 : Int64)) hx hb dX0_at_33 rfl ?_
      exact x_lret hx hb hr hlocks hP hS dX0_at_34 (Option.some.inj hf) rfl
    · have hf := (if_neg c_1003).symm.trans hf
      refine lv_aload_n hx hb dX0_at_23 rfl (lv_at hl 1 rfl) ?_
      refine va_get (D := z.1) (ci := 0) (v := .ref (z.2.1 (i + 1))) (C := RX0) (T := TX0) (N := 1) hx hb hts in_X0 hown hK hP i (wl_at (cel_lt hi) (cX0 hi)) rfl 0 (by decide) (hts (.fieldLink RX0 11 "TillOneOfSort$Cells" "cells" "[J") (by decide +kernel)) (fun _ h9 => h9) rfl dX0_at_24 ?_
      refine lv_iload hx hb dX0_at_27 (lv_at hl 0 rfl) ?_
      obtain ⟨c_1004, hf⟩ := x_ck hf
      refine va_lald hx hb hK hP (i + 1) 1 (wl_at (jr_lt (jr_c hi)) (cXJ (jr_c hi))) rfl (ci_in c_1004) dX0_at_29 ?_
      refine lv_goto (tgt := 34) hx hb dX0_at_30 (by decide) ?_
      exact x_lret hx hb hr hlocks hP hS dX0_at_34 (Option.some.inj hf) rfl
set_option maxHeartbeats 40000000 in
set_option maxRecDepth 100000 in
theorem kX0_add (l : Launch) (z : Cx) (hz : okC 40 z) {i : Nat} {a0 : Int32} {a1 : Int32} {a2 : Int32} {a3 : Int64} (hi : isCel i = true) {σ σ' : Mm} (hf : fX0_add i a0 a1 a2 a3 σ = some σ') : KG 40 ceX l yX0_add wsX0_add (1) (22) [.ref (z.2.1 i), .int a0, .int a1, .int a2, .long a3] z σ σ' none := by
  rw [fX0_add] at hf
  refine Met.ofW (cc := cX0_add) (maxL := 7) (ret := none) (by decide) rfl ?_
  intro p e s m args below meth c s₁ B hml hv
  obtain ⟨rfl, hP, hK, hE⟩ := hv
  have hx := B.exec
  have hb := B.bytes
  have hr := B.returns
  have hts := atoms_spec (ws := wsX0_add) B.pre
  have hown : s.vm.findClass RX0 = some m.cls := findClass_of_methodNamed B.named
  have hlocks := B.notSynchronized
  have in_X0 : ∀ w ∈ wsX00, w ∈ wsX0_add := by decide +kernel
  have hS : va_S (aG 40 z) s.heap s.heap [] := va_S.rf
  have hl := lv_entry ([.ref (z.2.1 i), .int a0, .int a1, .int a2, .long a3]) (n := 7) (Nat.le_of_ble_eq_true rfl)
  rw [lg_entry_eq]
  generalize (lg_sl ([.ref (z.2.1 i), .int a0, .int a1, .int a2, .long a3]) ++ List.replicate (7 - (lg_sl ([.ref (z.2.1 i), .int a0, .int a1, .int a2, .long a3])).length) Slot.unset).toArray = ls at hl ⊢
  have hl : lv_has ls 7 [(0, .ref (z.2.1 i)), (1, .int a0), (2, .int a1), (3, .int a2), (4, .long a3)] := hl
  refine lv_iload_n hx hb dX0_add_0 rfl (lv_at hl 1 rfl) ?_
  refine lv_iload_n hx hb dX0_add_1 rfl (lv_at hl 2 rfl) ?_
  refine lv_iload_n hx hb dX0_add_2 rfl (lv_at hl 3 rfl) ?_
  obtain ⟨q_1001, hq_1001, hf⟩ := x_bd hf
  refine x_callSi (va_runS (As := [.int a0, .int a1, .int a2]) (rest := []) ⟨hx, hb, hml, hown, hts⟩ (kX0_placeOf l hq_1001) (va_cwS 3 hts gX0_add_X0_placeOf rfl rfl rfl (by decide +kernel) ⟨Nat.le_of_ble_eq_true rfl, Nat.le_of_ble_eq_true rfl⟩) psS rfl rfl hl.1 rfl (lv_room (Nat.le_of_ble_eq_true rfl)) dX0_add_3 ⟨Nat.zero_le _, Nat.zero_le _⟩) ?_
  refine lv_istore (lv' := [(6, .int q_1001), (0, .ref (z.2.1 i)), (1, .int a0), (2, .int a1), (3, .int a2), (4, .long a3)]) hx hb dX0_add_6 hl (by decide) rfl (fun ls hl => ?_)
  refine lv_iload hx hb dX0_add_8 (lv_at hl 0 rfl) ?_
  refine lv_if_lt (tgt := 35) hx hb dX0_add_10 (by decide) (fun c_1002 => ?_) (fun c_1002 => ?_)
  · have hf := (if_pos c_1002).symm.trans hf
    exact x_vret hx hb hr hlocks hP hS dX0_add_35 (Option.some.inj hf)
  · have hf := (if_neg c_1002).symm.trans hf
    refine lv_iload hx hb dX0_add_13 (lv_at hl 0 rfl) ?_
    refine lv_aload_n hx hb dX0_add_15 rfl (lv_at hl 1 rfl) ?_
    refine va_get (D := z.1) (ci := 0) (v := .ref (z.2.1 (i + 1))) (C := RX0) (T := TX0) (N := 1) hx hb hts in_X0 hown hK hP i (wl_at (cel_lt hi) (cX0 hi)) rfl 0 (by decide) (hts (.fieldLink RX0 11 "TillOneOfSort$Cells" "cells" "[J") (by decide +kernel)) (fun _ h9 => h9) rfl dX0_add_16 ?_
    refine va_alen (v := (242 : Int32)) hx hb hK hP (i + 1) 1 (wl_at (jr_lt (jr_c hi)) (cXJ (jr_c hi))) rfl rfl dX0_add_19 ?_
    refine lv_icmp_ge (tgt := 35) hx hb dX0_add_20 (by decide) (fun c_1003 => ?_) (fun c_1003 => ?_)
    · have hf := (if_pos c_1003).symm.trans hf
      exact x_vret hx hb hr hlocks hP hS dX0_add_35 (Option.some.inj hf)
    · have hf := (if_neg c_1003).symm.trans hf
      refine lv_aload_n hx hb dX0_add_23 rfl (lv_at hl 1 rfl) ?_
      refine va_get (D := z.1) (ci := 0) (v := .ref (z.2.1 (i + 1))) (C := RX0) (T := TX0) (N := 1) hx hb hts in_X0 hown hK hP i (wl_at (cel_lt hi) (cX0 hi)) rfl 0 (by decide) (hts (.fieldLink RX0 11 "TillOneOfSort$Cells" "cells" "[J") (by decide +kernel)) (fun _ h9 => h9) rfl dX0_add_24 ?_
      refine lv_iload hx hb dX0_add_27 (lv_at hl 0 rfl) ?_
      refine lv_dup2_11 hx hb dX0_add_29 rfl rfl ?_
      obtain ⟨c_1004, hf⟩ := x_ck hf
      refine va_lald hx hb hK hP (i + 1) 1 (wl_at (jr_lt (jr_c hi)) (cXJ (jr_c hi))) rfl (ci_in c_1004) dX0_add_30 ?_
      refine lv_lload hx hb dX0_add_31 (lv_at hl 5 rfl) ?_
      refine lv_ladd hx hb dX0_add_33 ?_
      obtain ⟨c_1005, hf⟩ := x_ck hf
      refine va_last hx hb hK hP (wl_D hz _) hS (i + 1) 1 (wl_at (jr_lt (jr_c hi)) (cXJ (jr_c hi))) rfl (ci_in c_1005) dX0_add_34 (fun H locs hP _ hS => ?_)
      rw [(sXJ (jr_c hi))] at hP
      exact x_vret hx hb hr hlocks hP hS dX0_add_35 (Option.some.inj hf)
set_option maxHeartbeats 40000000 in
set_option maxRecDepth 100000 in
theorem kJ7_fill_d0a16 (l : Launch) (z : Cx) (hz : okC 40 z) {j : Nat} {a1 : Int64} (hj : isJr j = true) {σ σ' : Mm} (hf : fJ7_fill_d0a16 j a1 σ = some σ') : KG 40 ceX l yJ7_fill_d0a16 wsJ7_fill_d0a16 (0) (0) [.ref (z.2.1 j), .long a1] z σ σ' none := by
  rw [fJ7_fill_d0a16] at hf
  refine Met.ofW (cc := cJ7_fill_d0a16) (maxL := 5) (ret := none) (by decide) rfl ?_
  intro p e s m args below meth c s₁ B hml hv
  obtain ⟨rfl, hP, hK, hE⟩ := hv
  have hx := B.exec
  have hb := B.bytes
  have hr := B.returns
  have hts := atoms_spec (ws := wsJ7_fill_d0a16) B.pre
  have hown : s.vm.findClass RJ7 = some m.cls := findClass_of_methodNamed B.named
  have hlocks := B.notSynchronized
  have hS : va_S (aG 40 z) s.heap s.heap [] := va_S.rf
  have hl := lv_entry ([.ref (z.2.1 j), .long a1]) (n := 5) (Nat.le_of_ble_eq_true rfl)
  rw [lg_entry_eq]
  generalize (lg_sl ([.ref (z.2.1 j), .long a1]) ++ List.replicate (5 - (lg_sl ([.ref (z.2.1 j), .long a1])).length) Slot.unset).toArray = ls at hl ⊢
  have hl : lv_has ls 5 [(0, .ref (z.2.1 j)), (1, .long a1)] := hl
  have L_6 : ∀ (n_6 : Nat) (v1 : Int64) (v3 : Int32) (v4 : Int32) (σ : Mm) (H : Heap) (locs : List Loc) (ls : Array Slot), va_P z.1 vwCl (wl 40 z.2.1 (ceX z σ)) H → va_S (aG 40 z) s.heap H locs → lv_has ls 5 [(0, .ref (z.2.1 j)), (1, .long v1), (3, .int v3), (4, .int v4)] → fJ7_fill_d0a16_6 j n_6 v1 v3 v4 σ = some σ' → W p l e (headSpec wsJ7_fill_d0a16 ({ frames := 0, cells := 0, slots := 0, locals := 0 })).room s m ([.ref (z.2.1 j), .long a1] : List Value).toArray below meth c H locs 0 0 (MQ below (qcG 40 ceX z σ' none) ([.ref (z.2.1 j), .long a1] : List Value).toArray s 0 0 (aG 40 z)) (F0 m 6 ls []) := by
    intro n_6
    induction n_6 with
    | zero =>
      intro v1 v3 v4 σ H locs ls hP hS hl hf
      rw [fJ7_fill_d0a16_6] at hf
      cases hf
    | succ n_6 ih_6 =>
      intro v1 v3 v4 σ H locs ls hP hS hl hf
      rw [fJ7_fill_d0a16_6] at hf
      refine lv_iload_n hx hb dJ7_fill_d0a16_6 rfl (lv_at hl 2 rfl) ?_
      refine lv_iload hx hb dJ7_fill_d0a16_7 (lv_at hl 3 rfl) ?_
      refine lv_icmp_ge (tgt := 22) hx hb dJ7_fill_d0a16_9 (by decide) (fun c_1 => ?_) (fun c_1 => ?_)
      · have hf := (if_pos c_1).symm.trans hf
        exact x_vret hx hb hr hlocks hP hS dJ7_fill_d0a16_22 (Option.some.inj hf)
      · have hf := (if_neg c_1).symm.trans hf
        refine lv_aload_n hx hb dJ7_fill_d0a16_12 rfl (lv_at hl 0 rfl) ?_
        refine lv_iload_n hx hb dJ7_fill_d0a16_13 rfl (lv_at hl 2 rfl) ?_
        refine lv_lload_n hx hb dJ7_fill_d0a16_14 rfl (lv_at hl 1 rfl) ?_
        obtain ⟨c_2, hf⟩ := x_ck hf
        refine va_last hx hb hK hP (wl_D hz _) hS j 1 (wl_at (jr_lt hj) (cXJ hj)) rfl (ci_in c_2) dJ7_fill_d0a16_15 (fun H locs hP _ hS => ?_)
        rw [(sXJ hj)] at hP
        refine lv_iinc (v := (v3 + (1 : Int32))) (lv' := [(3, .int (v3 + (1 : Int32))), (0, .ref (z.2.1 j)), (1, .long v1), (4, .int v4)]) hx hb dJ7_fill_d0a16_16 hl (k := 2) rfl rfl (by decide) rfl (fun ls hl => ?_)
        refine lv_goto (tgt := 6) hx hb dJ7_fill_d0a16_19 (by decide) ?_
        exact ih_6 v1 (v3 + (1 : Int32)) v4 (pL σ j v3.toNatClampNeg v1) _ _ _ hP hS (lv_sub hl [1, 2, 0, 3] rfl) hf
  refine lv_iconst (v := (0 : Int32)) hx hb dJ7_fill_d0a16_0 (by decide) ?_
  refine lv_istore_n (lv' := [(3, .int (0 : Int32)), (0, .ref (z.2.1 j)), (1, .long a1)]) hx hb dJ7_fill_d0a16_1 rfl hl (by decide) rfl (fun ls hl => ?_)
  refine lv_aload_n hx hb dJ7_fill_d0a16_2 rfl (lv_at hl 1 rfl) ?_
  refine va_alen (v := (242 : Int32)) hx hb hK hP j 1 (wl_at (jr_lt hj) (cXJ hj)) rfl rfl dJ7_fill_d0a16_3 ?_
  refine lv_istore (lv' := [(4, .int (242 : Int32)), (3, .int (0 : Int32)), (0, .ref (z.2.1 j)), (1, .long a1)]) hx hb dJ7_fill_d0a16_4 hl (by decide) rfl (fun ls hl => ?_)
  exact L_6 1000 a1 (0 : Int32) (242 : Int32) σ _ _ _ hP hS (lv_sub hl [2, 3, 1, 0] rfl) hf
set_option maxHeartbeats 40000000 in
set_option maxRecDepth 100000 in
theorem kX0_clear (l : Launch) (z : Cx) (hz : okC 40 z) {i : Nat} (hi : isCel i = true) {σ σ' : Mm} (hf : fX0_clear i σ = some σ') : KG 40 ceX l yX0_clear wsX0_clear (1) (24) [.ref (z.2.1 i)] z σ σ' none := by
  rw [fX0_clear] at hf
  refine Met.ofW (cc := cX0_clear) (maxL := 1) (ret := none) (by decide) rfl ?_
  intro p e s m args below meth c s₁ B hml hv
  obtain ⟨rfl, hP, hK, hE⟩ := hv
  have hx := B.exec
  have hb := B.bytes
  have hr := B.returns
  have hts := atoms_spec (ws := wsX0_clear) B.pre
  have hown : s.vm.findClass RX0 = some m.cls := findClass_of_methodNamed B.named
  have hlocks := B.notSynchronized
  have in_X0 : ∀ w ∈ wsX00, w ∈ wsX0_clear := by decide +kernel
  have hS : va_S (aG 40 z) s.heap s.heap [] := va_S.rf
  have hl := lv_entry ([.ref (z.2.1 i)]) (n := 1) (Nat.le_of_ble_eq_true rfl)
  rw [lg_entry_eq]
  generalize (lg_sl ([.ref (z.2.1 i)]) ++ List.replicate (1 - (lg_sl ([.ref (z.2.1 i)])).length) Slot.unset).toArray = ls at hl ⊢
  have hl : lv_has ls 1 [(0, .ref (z.2.1 i))] := hl
  refine lv_aload_n hx hb dX0_clear_0 rfl (lv_at hl 0 rfl) ?_
  refine va_get (D := z.1) (ci := 0) (v := .ref (z.2.1 (i + 1))) (C := RX0) (T := TX0) (N := 1) hx hb hts in_X0 hown hK hP i (wl_at (cel_lt hi) (cX0 hi)) rfl 0 (by decide) (hts (.fieldLink RX0 11 "TillOneOfSort$Cells" "cells" "[J") (by decide +kernel)) (fun _ h9 => h9) rfl dX0_clear_1 ?_
  refine lv_lconst (v := (0 : Int64)) hx hb dX0_clear_4 rfl ?_
  obtain ⟨q_1001, hq_1001, hf⟩ := x_bd hf
  refine x_callGv (va_runS (As := [.ref (z.2.1 (i + 1)), .long (0 : Int64)]) (rest := []) ⟨hx, hb, hml, hown, hts⟩ (kJ7_fill_d0a16 l z hz (jr_c hi) hq_1001) (va_cwS 2 hts gX0_clear_J7_fill_d0a16 rfl rfl rfl (by decide +kernel) ⟨Nat.le_of_ble_eq_true rfl, Nat.le_of_ble_eq_true rfl⟩) (psG hK hP hE hS) rfl rfl hl.1 rfl (lv_room (Nat.le_of_ble_eq_true rfl)) dX0_clear_5 ⟨Nat.zero_le _, Nat.zero_le _⟩) hS (fun H locs hP hS => ?_)
  exact x_vret hx hb hr hlocks hP hS dX0_clear_8 (Option.some.inj hf)
set_option maxHeartbeats 40000000 in
set_option maxRecDepth 100000 in
theorem kX5_chanceOfOne (l : Launch) {a0 : Int32} {a1 : Int32} {a2 : Int32} {a3 : Int32}  {r : Int32} (hf : fX5_chanceOfOne a0 a1 a2 a3 = some r) : KS l yX5_chanceOfOne wsX5_chanceOfOne (1) (21) [.int a0, .int a1, .int a2, .int a3] (some (.int r)) := by
  rw [fX5_chanceOfOne] at hf
  refine Met.ofW (cc := cX5_chanceOfOne) (maxL := 5) (ret := (some .int)) (by decide) rfl ?_
  intro p e s m args below meth c s₁ B hml hv
  obtain ⟨rfl, -⟩ := hv
  have hx := B.exec
  have hb := B.bytes
  have hr := B.returns
  have hts := atoms_spec (ws := wsX5_chanceOfOne) B.pre
  have hown : s.vm.findClass RX5 = some m.cls := findClass_of_methodNamed B.named
  have hlocks := B.notSynchronized
  have hl := lv_entry ([.int a0, .int a1, .int a2, .int a3]) (n := 5) (Nat.le_of_ble_eq_true rfl)
  rw [lg_entry_eq]
  generalize (lg_sl ([.int a0, .int a1, .int a2, .int a3]) ++ List.replicate (5 - (lg_sl ([.int a0, .int a1, .int a2, .int a3])).length) Slot.unset).toArray = ls at hl ⊢
  have hl : lv_has ls 5 [(0, .int a0), (1, .int a1), (2, .int a2), (3, .int a3)] := hl
  refine lv_iload_n hx hb dX5_chanceOfOne_0 rfl (lv_at hl 2 rfl) ?_
  refine lv_if_ne (tgt := 6) hx hb dX5_chanceOfOne_1 (by decide) (fun c_1001 => ?_) (fun c_1001 => ?_)
  · have hf := (if_neg c_1001).symm.trans hf
    refine lv_iload_n hx hb dX5_chanceOfOne_6 rfl (lv_at hl 3 rfl) ?_
    refine lv_if_le (tgt := 16) hx hb dX5_chanceOfOne_7 (by decide) (fun c_1002 => ?_) (fun c_1002 => ?_)
    · have hf := (if_pos c_1002).symm.trans hf
      refine lv_iload_n hx hb dX5_chanceOfOne_16 rfl (lv_at hl 0 rfl) ?_
      refine lv_iload_n hx hb dX5_chanceOfOne_17 rfl (lv_at hl 1 rfl) ?_
      refine lv_isub hx hb dX5_chanceOfOne_18 ?_
      refine lv_istore (lv' := [(4, .int (a0 - a1)), (0, .int a0), (1, .int a1), (2, .int a2), (3, .int a3)]) hx hb dX5_chanceOfOne_19 hl (by decide) rfl (fun ls hl => ?_)
      refine lv_iconst (v := (0 : Int32)) hx hb dX5_chanceOfOne_21 (by decide) ?_
      refine lv_bipush (v := (12 : Int32)) hx hb dX5_chanceOfOne_22 (by decide) ?_
      refine lv_iload hx hb dX5_chanceOfOne_24 (lv_at hl 0 rfl) ?_
      refine va_mmin hx hb (hml.trans hl.1.symm) hown (hts (.methodLink RX5 214 Lib.Math.min.name) (by decide +kernel)) (hts (.static Lib.Math.min.name) (by decide +kernel)) (hts (.initialized "java/lang/Math") (by decide +kernel)) (hts (.code Lib.Math.min.name Lib.Math.min.code 2 (some .int)) (by decide +kernel)) (Nat.le_of_ble_eq_true rfl) (Nat.le_of_ble_eq_true rfl) (Nat.le_refl _) (Nat.le_refl _) dX5_chanceOfOne_26 ?_
      refine va_mmax hx hb (hml.trans hl.1.symm) hown (hts (.methodLink RX5 219 Lib.Math.max.name) (by decide +kernel)) (hts (.static Lib.Math.max.name) (by decide +kernel)) (hts (.initialized "java/lang/Math") (by decide +kernel)) (hts (.code Lib.Math.max.name Lib.Math.max.code 2 (some .int)) (by decide +kernel)) (Nat.le_of_ble_eq_true rfl) (Nat.le_of_ble_eq_true rfl) (Nat.le_refl _) (Nat.le_refl _) dX5_chanceOfOne_29 ?_
      exact xs_iret hx hb hr hlocks dX5_chanceOfOne_32 (Option.some.inj hf)
    · have hf := (if_neg c_1002).symm.trans hf
      refine lv_iload_n hx hb dX5_chanceOfOne_10 rfl (lv_at hl 0 rfl) ?_
      refine lv_iload_n hx hb dX5_chanceOfOne_11 rfl (lv_at hl 1 rfl) ?_
      refine lv_iadd hx hb dX5_chanceOfOne_12 ?_
      refine lv_goto (tgt := 19) hx hb dX5_chanceOfOne_13 (by decide) ?_
      refine lv_istore (lv' := [(4, .int (a0 + a1)), (0, .int a0), (1, .int a1), (2, .int a2), (3, .int a3)]) hx hb dX5_chanceOfOne_19 hl (by decide) rfl (fun ls hl => ?_)
      refine lv_iconst (v := (0 : Int32)) hx hb dX5_chanceOfOne_21 (by decide) ?_
      refine lv_bipush (v := (12 : Int32)) hx hb dX5_chanceOfOne_22 (by decide) ?_
      refine lv_iload hx hb dX5_chanceOfOne_24 (lv_at hl 0 rfl) ?_
      refine va_mmin hx hb (hml.trans hl.1.symm) hown (hts (.methodLink RX5 214 Lib.Math.min.name) (by decide +kernel)) (hts (.static Lib.Math.min.name) (by decide +kernel)) (hts (.initialized "java/lang/Math") (by decide +kernel)) (hts (.code Lib.Math.min.name Lib.Math.min.code 2 (some .int)) (by decide +kernel)) (Nat.le_of_ble_eq_true rfl) (Nat.le_of_ble_eq_true rfl) (Nat.le_refl _) (Nat.le_refl _) dX5_chanceOfOne_26 ?_
      refine va_mmax hx hb (hml.trans hl.1.symm) hown (hts (.methodLink RX5 219 Lib.Math.max.name) (by decide +kernel)) (hts (.static Lib.Math.max.name) (by decide +kernel)) (hts (.initialized "java/lang/Math") (by decide +kernel)) (hts (.code Lib.Math.max.name Lib.Math.max.code 2 (some .int)) (by decide +kernel)) (Nat.le_of_ble_eq_true rfl) (Nat.le_of_ble_eq_true rfl) (Nat.le_refl _) (Nat.le_refl _) dX5_chanceOfOne_29 ?_
      exact xs_iret hx hb hr hlocks dX5_chanceOfOne_32 (Option.some.inj hf)
  · have hf := (if_pos c_1001).symm.trans hf
    refine lv_iload_n hx hb dX5_chanceOfOne_4 rfl (lv_at hl 0 rfl) ?_
    exact xs_iret hx hb hr hlocks dX5_chanceOfOne_5 (Option.some.inj hf)
set_option maxHeartbeats 40000000 in
set_option maxRecDepth 100000 in
theorem kX5_lawStops (l : Launch) {a0 : Int32} {a1 : Int32} {a2 : Int32} {a3 : Int32} {a4 : Int32}  {r : Int32} (hf : fX5_lawStops a0 a1 a2 a3 a4 = some r) : KS l yX5_lawStops wsX5_lawStops (0) (0) [.int a0, .int a1, .int a2, .int a3, .int a4] (some (.int r)) := by
  rw [fX5_lawStops] at hf
  refine Met.ofW (cc := cX5_lawStops) (maxL := 5) (ret := (some .boolean)) (by decide) rfl ?_
  intro p e s m args below meth c s₁ B hml hv
  obtain ⟨rfl, -⟩ := hv
  have hx := B.exec
  have hb := B.bytes
  have hr := B.returns
  have hts := atoms_spec (ws := wsX5_lawStops) B.pre
  have hown : s.vm.findClass RX5 = some m.cls := findClass_of_methodNamed B.named
  have hlocks := B.notSynchronized
  have hl := lv_entry ([.int a0, .int a1, .int a2, .int a3, .int a4]) (n := 5) (Nat.le_of_ble_eq_true rfl)
  rw [lg_entry_eq]
  generalize (lg_sl ([.int a0, .int a1, .int a2, .int a3, .int a4]) ++ List.replicate (5 - (lg_sl ([.int a0, .int a1, .int a2, .int a3, .int a4])).length) Slot.unset).toArray = ls at hl ⊢
  have hl : lv_has ls 5 [(0, .int a0), (1, .int a1), (2, .int a2), (3, .int a3), (4, .int a4)] := hl
  refine lv_iload_n hx hb dX5_lawStops_0 rfl (lv_at hl 0 rfl) ?_
  by_cases c_1001 : a0 = (0 : Int32)
  · have hf := (if_pos c_1001).symm.trans hf
    refine lv_tableIn (off := 39) (tgt := 40) hx hb dX5_lawStops_1 (by rw [c_1001]; decide) (by rw [c_1001]; decide) (by rw [c_1001]; rfl) (by decide) ?_
    refine lv_iload hx hb dX5_lawStops_40 (lv_at hl 4 rfl) ?_
    refine lv_if_le (tgt := 49) hx hb dX5_lawStops_42 (by decide) (fun c_1013 => ?_) (fun c_1013 => ?_)
    · have hf := (if_pos c_1013).symm.trans hf
      refine lv_iconst (v := (0 : Int32)) hx hb dX5_lawStops_49 (by decide) ?_
      exact xs_zret hx hb hr hlocks dX5_lawStops_50 rfl (Option.some.inj hf)
    · have hf := (if_neg c_1013).symm.trans hf
      refine lv_iconst (v := (1 : Int32)) hx hb dX5_lawStops_45 (by decide) ?_
      refine lv_goto (tgt := 50) hx hb dX5_lawStops_46 (by decide) ?_
      exact xs_zret hx hb hr hlocks dX5_lawStops_50 rfl (Option.some.inj hf)
  · have hf := (if_neg c_1001).symm.trans hf
    by_cases c_1002 : a0 = (1 : Int32)
    · have hf := (if_pos c_1002).symm.trans hf
      refine lv_tableIn (off := 50) (tgt := 51) hx hb dX5_lawStops_1 (by rw [c_1002]; decide) (by rw [c_1002]; decide) (by rw [c_1002]; rfl) (by decide) ?_
      refine lv_iload_n hx hb dX5_lawStops_51 rfl (lv_at hl 2 rfl) ?_
      refine lv_iload_n hx hb dX5_lawStops_52 rfl (lv_at hl 1 rfl) ?_
      refine lv_icmp_lt (tgt := 60) hx hb dX5_lawStops_53 (by decide) (fun c_1012 => ?_) (fun c_1012 => ?_)
      · have hf := (if_pos c_1012).symm.trans hf
        refine lv_iconst (v := (0 : Int32)) hx hb dX5_lawStops_60 (by decide) ?_
        exact xs_zret hx hb hr hlocks dX5_lawStops_61 rfl (Option.some.inj hf)
      · have hf := (if_neg c_1012).symm.trans hf
        refine lv_iconst (v := (1 : Int32)) hx hb dX5_lawStops_56 (by decide) ?_
        refine lv_goto (tgt := 61) hx hb dX5_lawStops_57 (by decide) ?_
        exact xs_zret hx hb hr hlocks dX5_lawStops_61 rfl (Option.some.inj hf)
    · have hf := (if_neg c_1002).symm.trans hf
      by_cases c_1003 : a0 = (2 : Int32)
      · have hf := (if_pos c_1003).symm.trans hf
        refine lv_tableIn (off := 61) (tgt := 62) hx hb dX5_lawStops_1 (by rw [c_1003]; decide) (by rw [c_1003]; decide) (by rw [c_1003]; rfl) (by decide) ?_
        refine lv_iload_n hx hb dX5_lawStops_62 rfl (lv_at hl 2 rfl) ?_
        refine lv_iload_n hx hb dX5_lawStops_63 rfl (lv_at hl 3 rfl) ?_
        refine lv_isub hx hb dX5_lawStops_64 ?_
        refine lv_iload_n hx hb dX5_lawStops_65 rfl (lv_at hl 1 rfl) ?_
        refine lv_icmp_ne (tgt := 73) hx hb dX5_lawStops_66 (by decide) (fun c_1011 => ?_) (fun c_1011 => ?_)
        · have hf := (if_neg c_1011).symm.trans hf
          refine lv_iconst (v := (0 : Int32)) hx hb dX5_lawStops_73 (by decide) ?_
          exact xs_zret hx hb hr hlocks dX5_lawStops_74 rfl (Option.some.inj hf)
        · have hf := (if_pos c_1011).symm.trans hf
          refine lv_iconst (v := (1 : Int32)) hx hb dX5_lawStops_69 (by decide) ?_
          refine lv_goto (tgt := 74) hx hb dX5_lawStops_70 (by decide) ?_
          exact xs_zret hx hb hr hlocks dX5_lawStops_74 rfl (Option.some.inj hf)
      · have hf := (if_neg c_1003).symm.trans hf
        by_cases c_1004 : a0 = (3 : Int32)
        · have hf := (if_pos c_1004).symm.trans hf
          refine lv_tableIn (off := 74) (tgt := 75) hx hb dX5_lawStops_1 (by rw [c_1004]; decide) (by rw [c_1004]; decide) (by rw [c_1004]; rfl) (by decide) ?_
          refine lv_iload_n hx hb dX5_lawStops_75 rfl (lv_at hl 2 rfl) ?_
          refine lv_iload_n hx hb dX5_lawStops_76 rfl (lv_at hl 3 rfl) ?_
          refine lv_icmp_ne (tgt := 84) hx hb dX5_lawStops_77 (by decide) (fun c_1010 => ?_) (fun c_1010 => ?_)
          · have hf := (if_neg c_1010).symm.trans hf
            refine lv_iconst (v := (0 : Int32)) hx hb dX5_lawStops_84 (by decide) ?_
            exact xs_zret hx hb hr hlocks dX5_lawStops_85 rfl (Option.some.inj hf)
          · have hf := (if_pos c_1010).symm.trans hf
            refine lv_iconst (v := (1 : Int32)) hx hb dX5_lawStops_80 (by decide) ?_
            refine lv_goto (tgt := 85) hx hb dX5_lawStops_81 (by decide) ?_
            exact xs_zret hx hb hr hlocks dX5_lawStops_85 rfl (Option.some.inj hf)
        · have hf := (if_neg c_1004).symm.trans hf
          by_cases c_1005 : a0 = (4 : Int32)
          · have hf := (if_pos c_1005).symm.trans hf
            refine lv_tableIn (off := 85) (tgt := 86) hx hb dX5_lawStops_1 (by rw [c_1005]; decide) (by rw [c_1005]; decide) (by rw [c_1005]; rfl) (by decide) ?_
            refine lv_iload hx hb dX5_lawStops_86 (lv_at hl 4 rfl) ?_
            refine lv_iload_n hx hb dX5_lawStops_88 rfl (lv_at hl 1 rfl) ?_
            refine lv_icmp_lt (tgt := 96) hx hb dX5_lawStops_89 (by decide) (fun c_1009 => ?_) (fun c_1009 => ?_)
            · have hf := (if_pos c_1009).symm.trans hf
              refine lv_iconst (v := (0 : Int32)) hx hb dX5_lawStops_96 (by decide) ?_
              exact xs_zret hx hb hr hlocks dX5_lawStops_97 rfl (Option.some.inj hf)
            · have hf := (if_neg c_1009).symm.trans hf
              refine lv_iconst (v := (1 : Int32)) hx hb dX5_lawStops_92 (by decide) ?_
              refine lv_goto (tgt := 97) hx hb dX5_lawStops_93 (by decide) ?_
              exact xs_zret hx hb hr hlocks dX5_lawStops_97 rfl (Option.some.inj hf)
          · have hf := (if_neg c_1005).symm.trans hf
            by_cases c_1006 : a0 = (5 : Int32)
            · have hf := (if_pos c_1006).symm.trans hf
              refine lv_tableIn (off := 97) (tgt := 98) hx hb dX5_lawStops_1 (by rw [c_1006]; decide) (by rw [c_1006]; decide) (by rw [c_1006]; rfl) (by decide) ?_
              refine lv_iload_n hx hb dX5_lawStops_98 rfl (lv_at hl 2 rfl) ?_
              refine lv_if_le (tgt := 110) hx hb dX5_lawStops_99 (by decide) (fun c_1007 => ?_) (fun c_1007 => ?_)
              · have hf := (if_pos c_1007).symm.trans hf
                refine lv_iconst (v := (0 : Int32)) hx hb dX5_lawStops_110 (by decide) ?_
                exact xs_zret hx hb hr hlocks dX5_lawStops_111 rfl (Option.some.inj hf)
              · have hf := (if_neg c_1007).symm.trans hf
                refine lv_iload_n hx hb dX5_lawStops_102 rfl (lv_at hl 3 rfl) ?_
                refine lv_if_le (tgt := 110) hx hb dX5_lawStops_103 (by decide) (fun c_1008 => ?_) (fun c_1008 => ?_)
                · have hf := (if_pos c_1008).symm.trans hf
                  refine lv_iconst (v := (0 : Int32)) hx hb dX5_lawStops_110 (by decide) ?_
                  exact xs_zret hx hb hr hlocks dX5_lawStops_111 rfl (Option.some.inj hf)
                · have hf := (if_neg c_1008).symm.trans hf
                  refine lv_iconst (v := (1 : Int32)) hx hb dX5_lawStops_106 (by decide) ?_
                  refine lv_goto (tgt := 111) hx hb dX5_lawStops_107 (by decide) ?_
                  exact xs_zret hx hb hr hlocks dX5_lawStops_111 rfl (Option.some.inj hf)
            · have hf := (if_neg c_1006).symm.trans hf
              refine x_tableD (tgt := 112) hx hb dX5_lawStops_1 (fun k h1 h2 => ?_) (by decide) ?_
              · rcases (show k = 0 ∨ k = 1 ∨ k = 2 ∨ k = 3 ∨ k = 4 ∨ k = 5 by omega) with rfl | rfl | rfl | rfl | rfl | rfl
                · exact Or.inl (x_ne c_1001 (by decide))
                · exact Or.inl (x_ne c_1002 (by decide))
                · exact Or.inl (x_ne c_1003 (by decide))
                · exact Or.inl (x_ne c_1004 (by decide))
                · exact Or.inl (x_ne c_1005 (by decide))
                · exact Or.inl (x_ne c_1006 (by decide))
              · refine lv_iconst (v := (1 : Int32)) hx hb dX5_lawStops_112 (by decide) ?_
                exact xs_zret hx hb hr hlocks dX5_lawStops_113 rfl (Option.some.inj hf)
set_option maxHeartbeats 40000000 in
set_option maxRecDepth 100000 in
theorem kX1_goOn (l : Launch) (z : Cx) (hz : okC 40 z) {i : Nat} {a0 : Int32} {a1 : Int32} {a2 : Int32} {a3 : Int32} (hi : isTal i = true) {σ σ' : Mm} (hf : fX1_goOn i a0 a1 a2 a3 σ = some σ') : KG 40 ceX l yX1_goOn wsX1_goOn (2) (48) [.ref (z.2.1 i), .int a0, .int a1, .int a2, .int a3] z σ σ' none := by
  rw [fX1_goOn] at hf
  refine Met.ofW (cc := cX1_goOn) (maxL := 10) (ret := none) (by decide) rfl ?_
  intro p e s m args below meth c s₁ B hml hv
  obtain ⟨rfl, hP, hK, hE⟩ := hv
  have hx := B.exec
  have hb := B.bytes
  have hr := B.returns
  have hts := atoms_spec (ws := wsX1_goOn) B.pre
  have hown : s.vm.findClass RX1 = some m.cls := findClass_of_methodNamed B.named
  have hlocks := B.notSynchronized
  have in_X1 : ∀ w ∈ wsX10, w ∈ wsX1_goOn := by decide +kernel
  have in_X4 : ∀ w ∈ wsX40, w ∈ wsX1_goOn := by decide +kernel
  have hS : va_S (aG 40 z) s.heap s.heap [] := va_S.rf
  have hl := lv_entry ([.ref (z.2.1 i), .int a0, .int a1, .int a2, .int a3]) (n := 10) (Nat.le_of_ble_eq_true rfl)
  rw [lg_entry_eq]
  generalize (lg_sl ([.ref (z.2.1 i), .int a0, .int a1, .int a2, .int a3]) ++ List.replicate (10 - (lg_sl ([.ref (z.2.1 i), .int a0, .int a1, .int a2, .int a3])).length) Slot.unset).toArray = ls at hl ⊢
  have hl : lv_has ls 10 [(0, .ref (z.2.1 i)), (1, .int a0), (2, .int a1), (3, .int a2), (4, .int a3)] := hl
  have j_77 : ∀ (v1 : Int32) (v3 : Int32) (v5 : Int64) (v7 : Int32) (t0 : Int64) (σ : Mm) (H : Heap) (locs : List Loc) (ls : Array Slot), va_P z.1 vwCl (wl 40 z.2.1 (ceX z σ)) H → va_S (aG 40 z) s.heap H locs → lv_has ls 10 [(0, .ref (z.2.1 i)), (1, .int v1), (3, .int v3), (5, .long v5), (7, .int v7)] → fX1_goOn_77 i v1 v3 v5 v7 t0 σ = some σ' → W p l e (headSpec wsX1_goOn ({ frames := 2, cells := 0, slots := 0, locals := 48 })).room s m ([.ref (z.2.1 i), .int a0, .int a1, .int a2, .int a3] : List Value).toArray below meth c H locs 0 0 (MQ below (qcG 40 ceX z σ' none) ([.ref (z.2.1 i), .int a0, .int a1, .int a2, .int a3] : List Value).toArray s 0 0 (aG 40 z)) (F0 m 77 ls [.long t0]) := by
    intro v1 v3 v5 v7 t0 σ H locs ls hP hS hl hf
    rw [fX1_goOn_77] at hf
    refine lv_lstore (lv' := [(8, .long t0), (0, .ref (z.2.1 i)), (1, .int v1), (3, .int v3), (5, .long v5), (7, .int v7)]) hx hb dX1_goOn_77 hl (by decide) rfl (fun ls hl => ?_)
    refine lv_aload_n hx hb dX1_goOn_79 rfl (lv_at hl 1 rfl) ?_
    refine va_get (D := z.1) (ci := 1) (v := .ref (z.2.1 (i + 1))) (C := RX1) (T := TX1) (N := 7) hx hb hts in_X1 hown hK hP i (wl_at (tal_lt hi) (cX1 hi)) rfl 1 (by decide) (hts (.fieldLink RX1 12 "TillOneOfSort$Tally" "ends" "LTillOneOfSort$Cells;") (by decide +kernel)) (fun _ h9 => h9) rfl dX1_goOn_80 ?_
    refine lv_iload_n hx hb dX1_goOn_83 rfl (lv_at hl 2 rfl) ?_
    refine lv_iload_n hx hb dX1_goOn_84 rfl (lv_at hl 3 rfl) ?_
    refine lv_iload hx hb dX1_goOn_85 (lv_at hl 5 rfl) ?_
    refine lv_lload hx hb dX1_goOn_87 (lv_at hl 4 rfl) ?_
    refine lv_lload hx hb dX1_goOn_89 (lv_at hl 0 rfl) ?_
    refine lv_lmul hx hb dX1_goOn_91 ?_
    obtain ⟨q_12, hq_12, hf⟩ := x_bd hf
    refine x_callGv (va_runV (As := [.int v1, .int v3, .int v7, .long (v5 * t0)]) (rest := []) ⟨hx, hb, hml, hown, hts⟩ (kX0_add l z hz (cel_t hi) hq_12) (cwV 4 hts gX1_goOn_X0_add rfl rfl rfl (by decide +kernel) ⟨Nat.le_of_ble_eq_true rfl, Nat.le_of_ble_eq_true rfl⟩) (pvG hK hP hE hS (va_recv hK hP (ci := 0) (q0 := (i + 1)) rfl (wl_at (cel_lt (cel_t hi)) (cX0 (cel_t hi))))) rfl rfl hl.1 rfl (lv_room (Nat.le_of_ble_eq_true rfl)) dX1_goOn_92 ⟨Nat.zero_le _, Nat.zero_le _⟩) hS (fun H locs hP hS => ?_)
    exact x_vret hx hb hr hlocks hP hS dX1_goOn_95 (Option.some.inj hf)
  have j_76 : ∀ (v1 : Int32) (v3 : Int32) (v5 : Int64) (v7 : Int32) (σ : Mm) (H : Heap) (locs : List Loc) (ls : Array Slot), va_P z.1 vwCl (wl 40 z.2.1 (ceX z σ)) H → va_S (aG 40 z) s.heap H locs → lv_has ls 10 [(0, .ref (z.2.1 i)), (1, .int v1), (3, .int v3), (5, .long v5), (7, .int v7)] → fX1_goOn_76 i v1 v3 v5 v7 σ = some σ' → W p l e (headSpec wsX1_goOn ({ frames := 2, cells := 0, slots := 0, locals := 48 })).room s m ([.ref (z.2.1 i), .int a0, .int a1, .int a2, .int a3] : List Value).toArray below meth c H locs 0 0 (MQ below (qcG 40 ceX z σ' none) ([.ref (z.2.1 i), .int a0, .int a1, .int a2, .int a3] : List Value).toArray s 0 0 (aG 40 z)) (F0 m 76 ls []) := by
    intro v1 v3 v5 v7 σ H locs ls hP hS hl hf
    rw [fX1_goOn_76] at hf
    refine lv_lconst (v := (0 : Int64)) hx hb dX1_goOn_76 rfl ?_
    exact j_77 v1 v3 v5 v7 (0 : Int64) σ _ _ _ hP hS (lv_sub hl [0, 1, 2, 3, 4] rfl) hf
  have j_56 : ∀ (v1 : Int32) (v2 : Int32) (v3 : Int32) (v5 : Int64) (v7 : Int32) (σ : Mm) (H : Heap) (locs : List Loc) (ls : Array Slot), va_P z.1 vwCl (wl 40 z.2.1 (ceX z σ)) H → va_S (aG 40 z) s.heap H locs → lv_has ls 10 [(0, .ref (z.2.1 i)), (1, .int v1), (2, .int v2), (3, .int v3), (5, .long v5), (7, .int v7)] → fX1_goOn_56 i v1 v2 v3 v5 v7 σ = some σ' → W p l e (headSpec wsX1_goOn ({ frames := 2, cells := 0, slots := 0, locals := 48 })).room s m ([.ref (z.2.1 i), .int a0, .int a1, .int a2, .int a3] : List Value).toArray below meth c H locs 0 0 (MQ below (qcG 40 ceX z σ' none) ([.ref (z.2.1 i), .int a0, .int a1, .int a2, .int a3] : List Value).toArray s 0 0 (aG 40 z)) (F0 m 56 ls []) := by
    intro v1 v2 v3 v5 v7 σ H locs ls hP hS hl hf
    rw [fX1_goOn_56] at hf
    refine lv_iload_n hx hb dX1_goOn_56 rfl (lv_at hl 2 rfl) ?_
    refine lv_if_lt (tgt := 76) hx hb dX1_goOn_57 (by decide) (fun c_13 => ?_) (fun c_13 => ?_)
    · have hf := (if_pos c_13).symm.trans hf
      exact j_76 v1 v3 v5 v7 σ _ _ _ hP hS (lv_sub hl [0, 1, 3, 4, 5] rfl) hf
    · have hf := (if_neg c_13).symm.trans hf
      refine lv_iload_n hx hb dX1_goOn_60 rfl (lv_at hl 2 rfl) ?_
      refine va_getsN hx hb hE.2.1 hS hown (hE.1.at (List.mem_of_getElem? (i := 8) rfl) rfl) (fun _ h9 => h9) dX1_goOn_61 ?_
      refine va_tlen (v := (11 : Int32)) hx hb hE.2.2 hS rfl dX1_goOn_64 ?_
      refine lv_icmp_ge (tgt := 76) hx hb dX1_goOn_65 (by decide) (fun c_14 => ?_) (fun c_14 => ?_)
      · have hf := (if_pos c_14).symm.trans hf
        exact j_76 v1 v3 v5 v7 σ _ _ _ hP hS (lv_sub hl [0, 1, 3, 4, 5] rfl) hf
      · have hf := (if_neg c_14).symm.trans hf
        refine va_getsN hx hb hE.2.1 hS hown (hE.1.at (List.mem_of_getElem? (i := 8) rfl) rfl) (fun _ h9 => h9) dX1_goOn_68 ?_
        refine lv_iload_n hx hb dX1_goOn_71 rfl (lv_at hl 2 rfl) ?_
        obtain ⟨c_15, hf⟩ := x_ck hf
        refine va_tl hx hb hE.2.2 hS (ci_in c_15) rfl dX1_goOn_72 ?_
        refine lv_goto (tgt := 77) hx hb dX1_goOn_73 (by decide) ?_
        exact j_77 v1 v3 v5 v7 (uN v2.toNatClampNeg) σ _ _ _ hP hS (lv_sub hl [0, 1, 3, 4, 5] rfl) hf
  refine lv_aload_n hx hb dX1_goOn_0 rfl (lv_at hl 0 rfl) ?_
  refine va_get (D := z.1) (ci := 1) (v := .ref (z.2.1 35)) (C := RX1) (T := TX1) (N := 7) hx hb hts in_X1 hown hK hP i (wl_at (tal_lt hi) (cX1 hi)) rfl 0 (by decide) (hts (.fieldLink RX1 22 "TillOneOfSort$Tally" "walk" "LTillOneOfSort$Walk;") (by decide +kernel)) (fun _ h9 => h9) rfl dX1_goOn_1 ?_
  obtain ⟨c_1001, hf⟩ := x_ck hf
  refine va_getN (D := z.1) (ci := 4) (v := .ref (z.2.1 (gH σ))) (C := RX4) (T := TX4) (N := 2) hx hb hts in_X4 hown hK hP 35 (wl_at (by decide) cX4) rfl 0 (by decide) (hE.1.at (List.mem_of_getElem? (i := 7) rfl) rfl) (fun _ h9 => h9) rfl dX1_goOn_4 ?_
  refine lv_iload_n hx hb dX1_goOn_7 rfl (lv_at hl 1 rfl) ?_
  refine lv_iload_n hx hb dX1_goOn_8 rfl (lv_at hl 3 rfl) ?_
  refine lv_iload hx hb dX1_goOn_9 (lv_at hl 4 rfl) ?_
  obtain ⟨q_1002, hq_1002, hf⟩ := x_bd hf
  refine x_callGl (va_runV (As := [.int a0, .int a2, .int a3]) (rest := []) ⟨hx, hb, hml, hown, hts⟩ (kX0_at l z hz c_1001 hq_1002) (cwV 3 hts gX1_goOn_X0_at rfl rfl rfl (by decide +kernel) ⟨Nat.le_of_ble_eq_true rfl, Nat.le_of_ble_eq_true rfl⟩) (pvG hK hP hE hS (va_recv hK hP (ci := 0) (q0 := (gH σ)) rfl (wl_at (cel_lt c_1001) (cX0 c_1001)))) rfl rfl hl.1 rfl (lv_room (Nat.le_of_ble_eq_true rfl)) dX1_goOn_11 ⟨Nat.zero_le _, Nat.zero_le _⟩) hS (fun H locs hP hS => ?_)
  refine lv_lstore (lv' := [(5, .long q_1002), (0, .ref (z.2.1 i)), (1, .int a0), (2, .int a1), (3, .int a2), (4, .int a3)]) hx hb dX1_goOn_14 hl (by decide) rfl (fun ls hl => ?_)
  refine lv_lload hx hb dX1_goOn_16 (lv_at hl 0 rfl) ?_
  refine lv_lconst (v := (0 : Int64)) hx hb dX1_goOn_18 rfl ?_
  refine W.lcmp hx hb dX1_goOn_19 ?_
  refine lv_if_ne (tgt := 24) hx hb dX1_goOn_20 (by decide) (fun c_1003 => ?_) (fun c_1003 => ?_)
  · have hf := (if_neg c_1003).symm.trans hf
    refine lv_iload_n hx hb dX1_goOn_24 rfl (lv_at hl 3 rfl) ?_
    refine lv_iload_n hx hb dX1_goOn_25 rfl (lv_at hl 4 rfl) ?_
    refine lv_isub hx hb dX1_goOn_26 ?_
    refine lv_istore (lv' := [(7, .int (a1 - a2)), (5, .long q_1002), (0, .ref (z.2.1 i)), (1, .int a0), (2, .int a1), (3, .int a2), (4, .int a3)]) hx hb dX1_goOn_27 hl (by decide) rfl (fun ls hl => ?_)
    refine lv_iload_n hx hb dX1_goOn_29 rfl (lv_at hl 4 rfl) ?_
    refine lv_aload_n hx hb dX1_goOn_30 rfl (lv_at hl 2 rfl) ?_
    refine va_get (D := z.1) (ci := 1) (v := .int (gI σ i 4)) (C := RX1) (T := TX1) (N := 7) hx hb hts in_X1 hown hK hP i (wl_at (tal_lt hi) (cX1 hi)) rfl 4 (by decide) (hts (.fieldLink RX1 29 "TillOneOfSort$Tally" "most" "I") (by decide +kernel)) (fun _ h9 => h9) rfl dX1_goOn_31 ?_
    refine lv_icmp_ge (tgt := 56) hx hb dX1_goOn_34 (by decide) (fun c_1004 => ?_) (fun c_1004 => ?_)
    · have hf := (if_pos c_1004).symm.trans hf
      exact j_56 a0 a1 a2 q_1002 (a1 - a2) σ _ _ _ hP hS (lv_sub hl [2, 3, 4, 5, 1, 0] rfl) hf
    · have hf := (if_neg c_1004).symm.trans hf
      refine lv_aload_n hx hb dX1_goOn_37 rfl (lv_at hl 2 rfl) ?_
      refine va_get (D := z.1) (ci := 1) (v := .int (gI σ i 2)) (C := RX1) (T := TX1) (N := 7) hx hb hts in_X1 hown hK hP i (wl_at (tal_lt hi) (cX1 hi)) rfl 2 (by decide) (hts (.fieldLink RX1 18 "TillOneOfSort$Tally" "kind" "I") (by decide +kernel)) (fun _ h9 => h9) rfl dX1_goOn_38 ?_
      refine lv_aload_n hx hb dX1_goOn_41 rfl (lv_at hl 2 rfl) ?_
      refine va_get (D := z.1) (ci := 1) (v := .int (gI σ i 3)) (C := RX1) (T := TX1) (N := 7) hx hb hts in_X1 hown hK hP i (wl_at (tal_lt hi) (cX1 hi)) rfl 3 (by decide) (hts (.fieldLink RX1 26 "TillOneOfSort$Tally" "figure" "I") (by decide +kernel)) (fun _ h9 => h9) rfl dX1_goOn_42 ?_
      refine lv_iload_n hx hb dX1_goOn_45 rfl (lv_at hl 5 rfl) ?_
      refine lv_iload hx hb dX1_goOn_46 (lv_at hl 0 rfl) ?_
      refine lv_iload hx hb dX1_goOn_48 (lv_at hl 6 rfl) ?_
      obtain ⟨q_1005, hq_1005, hf⟩ := x_bd hf
      refine x_callSi (va_runSN (As := [.int (gI σ i 2), .int (gI σ i 3), .int a2, .int (a1 - a2), .int a3]) (rest := []) ⟨hx, hb, hml, hown, hts⟩ (kX5_lawStops l hq_1005) ⟨va_cnB 5 hts gX1_goOn_X5_lawStops_n61 rfl rfl rfl (hE.1 _ (List.mem_of_getElem? (i := 10) rfl)) (hts (.initialized RX5) (by decide +kernel)) (by decide +kernel) ⟨Nat.le_of_ble_eq_true rfl, Nat.le_of_ble_eq_true rfl⟩, hts (.static yX5_lawStops) (by decide +kernel), trivial⟩ psS rfl rfl hl.1 rfl (lv_room (Nat.le_of_ble_eq_true rfl)) dX1_goOn_50 ⟨Nat.zero_le _, Nat.zero_le _⟩) ?_
      refine lv_if_eq (tgt := 96) hx hb dX1_goOn_53 (by decide) (fun c_1006 => ?_) (fun c_1006 => ?_)
      · have hf := (if_pos c_1006).symm.trans hf
        refine lv_aload_n hx hb dX1_goOn_96 rfl (lv_at hl 2 rfl) ?_
        refine va_get (D := z.1) (ci := 1) (v := .int (gI σ i 5)) (C := RX1) (T := TX1) (N := 7) hx hb hts in_X1 hown hK hP i (wl_at (tal_lt hi) (cX1 hi)) rfl 5 (by decide) (hts (.fieldLink RX1 32 "TillOneOfSort$Tally" "chance" "I") (by decide +kernel)) (fun _ h9 => h9) rfl dX1_goOn_97 ?_
        refine lv_aload_n hx hb dX1_goOn_100 rfl (lv_at hl 2 rfl) ?_
        refine va_get (D := z.1) (ci := 1) (v := .int (gI σ i 6)) (C := RX1) (T := TX1) (N := 7) hx hb hts in_X1 hown hK hP i (wl_at (tal_lt hi) (cX1 hi)) rfl 6 (by decide) (hts (.fieldLink RX1 35 "TillOneOfSort$Tally" "lean" "I") (by decide +kernel)) (fun _ h9 => h9) rfl dX1_goOn_101 ?_
        refine lv_iload_n hx hb dX1_goOn_104 rfl (lv_at hl 4 rfl) ?_
        refine lv_iload hx hb dX1_goOn_105 (lv_at hl 6 rfl) ?_
        obtain ⟨q_1007, hq_1007, hf⟩ := x_bd hf
        refine x_callSi (va_runSN (As := [.int (gI σ i 5), .int (gI σ i 6), .int a1, .int a3]) (rest := []) ⟨hx, hb, hml, hown, hts⟩ (kX5_chanceOfOne l hq_1007) ⟨va_cnB 4 hts gX1_goOn_X5_chanceOfOne_n73 rfl rfl rfl (hE.1 _ (List.mem_of_getElem? (i := 11) rfl)) (hts (.initialized RX5) (by decide +kernel)) (by decide +kernel) ⟨Nat.le_of_ble_eq_true rfl, Nat.le_of_ble_eq_true rfl⟩, hts (.static yX5_chanceOfOne) (by decide +kernel), trivial⟩ psS rfl rfl hl.1 rfl (lv_room (Nat.le_of_ble_eq_true rfl)) dX1_goOn_107 ⟨Nat.zero_le _, Nat.zero_le _⟩) ?_
        refine lv_istore (lv' := [(8, .int q_1007), (7, .int (a1 - a2)), (5, .long q_1002), (0, .ref (z.2.1 i)), (1, .int a0), (2, .int a1), (3, .int a2), (4, .int a3)]) hx hb dX1_goOn_110 hl (by decide) rfl (fun ls hl => ?_)
        refine lv_aload_n hx hb dX1_goOn_112 rfl (lv_at hl 3 rfl) ?_
        refine va_get (D := z.1) (ci := 1) (v := .ref (z.2.1 35)) (C := RX1) (T := TX1) (N := 7) hx hb hts in_X1 hown hK hP i (wl_at (tal_lt hi) (cX1 hi)) rfl 0 (by decide) (hts (.fieldLink RX1 22 "TillOneOfSort$Tally" "walk" "LTillOneOfSort$Walk;") (by decide +kernel)) (fun _ h9 => h9) rfl dX1_goOn_113 ?_
        obtain ⟨c_1008, hf⟩ := x_ck hf
        refine va_getN (D := z.1) (ci := 4) (v := .ref (z.2.1 (gN σ))) (C := RX4) (T := TX4) (N := 2) hx hb hts in_X4 hown hK hP 35 (wl_at (by decide) cX4) rfl 1 (by decide) (hE.1.at (List.mem_of_getElem? (i := 9) rfl) rfl) (fun _ h9 => h9) rfl dX1_goOn_116 ?_
        refine lv_iload_n hx hb dX1_goOn_119 rfl (lv_at hl 4 rfl) ?_
        refine lv_iload_n hx hb dX1_goOn_120 rfl (lv_at hl 6 rfl) ?_
        refine lv_iconst (v := (1 : Int32)) hx hb dX1_goOn_121 (by decide) ?_
        refine lv_iadd hx hb dX1_goOn_122 ?_
        refine lv_iload hx hb dX1_goOn_123 (lv_at hl 7 rfl) ?_
        refine lv_iconst (v := (1 : Int32)) hx hb dX1_goOn_125 (by decide) ?_
        refine lv_iadd hx hb dX1_goOn_126 ?_
        refine lv_lload hx hb dX1_goOn_127 (lv_at hl 2 rfl) ?_
        refine lv_iload hx hb dX1_goOn_129 (lv_at hl 0 rfl) ?_
        refine lv_i2l (v := q_1007.toInt64) hx hb dX1_goOn_131 rfl ?_
        refine lv_lmul hx hb dX1_goOn_132 ?_
        obtain ⟨q_1009, hq_1009, hf⟩ := x_bd hf
        refine x_callGv (va_runV (As := [.int a0, .int (a2 + (1 : Int32)), .int (a3 + (1 : Int32)), .long (q_1002 * (q_1007.toInt64))]) (rest := []) ⟨hx, hb, hml, hown, hts⟩ (kX0_add l z hz c_1008 hq_1009) (cwV 4 hts gX1_goOn_X0_add rfl rfl rfl (by decide +kernel) ⟨Nat.le_of_ble_eq_true rfl, Nat.le_of_ble_eq_true rfl⟩) (pvG hK hP hE hS (va_recv hK hP (ci := 0) (q0 := (gN σ)) rfl (wl_at (cel_lt c_1008) (cX0 c_1008)))) rfl rfl hl.1 rfl (lv_room (Nat.le_of_ble_eq_true rfl)) dX1_goOn_133 ⟨Nat.zero_le _, Nat.zero_le _⟩) hS (fun H locs hP hS => ?_)
        refine lv_aload_n hx hb dX1_goOn_136 rfl (lv_at hl 3 rfl) ?_
        refine va_get (D := z.1) (ci := 1) (v := .ref (z.2.1 35)) (C := RX1) (T := TX1) (N := 7) hx hb hts in_X1 hown hK hP i (wl_at (tal_lt hi) (cX1 hi)) rfl 0 (by decide) (hts (.fieldLink RX1 22 "TillOneOfSort$Tally" "walk" "LTillOneOfSort$Walk;") (by decide +kernel)) (fun _ h9 => h9) rfl dX1_goOn_137 ?_
        obtain ⟨c_1010, hf⟩ := x_ck hf
        refine va_getN (D := z.1) (ci := 4) (v := .ref (z.2.1 (gN q_1009))) (C := RX4) (T := TX4) (N := 2) hx hb hts in_X4 hown hK hP 35 (wl_at (by decide) cX4) rfl 1 (by decide) (hE.1.at (List.mem_of_getElem? (i := 9) rfl) rfl) (fun _ h9 => h9) rfl dX1_goOn_140 ?_
        refine lv_iload_n hx hb dX1_goOn_143 rfl (lv_at hl 4 rfl) ?_
        refine lv_iload_n hx hb dX1_goOn_144 rfl (lv_at hl 6 rfl) ?_
        refine lv_iconst (v := (0 : Int32)) hx hb dX1_goOn_145 (by decide) ?_
        refine lv_lload hx hb dX1_goOn_146 (lv_at hl 2 rfl) ?_
        refine lv_bipush (v := (12 : Int32)) hx hb dX1_goOn_148 (by decide) ?_
        refine lv_iload hx hb dX1_goOn_150 (lv_at hl 0 rfl) ?_
        refine lv_isub hx hb dX1_goOn_152 ?_
        refine lv_i2l (v := ((12 : Int32) - q_1007).toInt64) hx hb dX1_goOn_153 rfl ?_
        refine lv_lmul hx hb dX1_goOn_154 ?_
        obtain ⟨q_1011, hq_1011, hf⟩ := x_bd hf
        refine x_callGv (va_runV (As := [.int a0, .int a2, .int (0 : Int32), .long (q_1002 * (((12 : Int32) - q_1007).toInt64))]) (rest := []) ⟨hx, hb, hml, hown, hts⟩ (kX0_add l z hz c_1010 hq_1011) (cwV 4 hts gX1_goOn_X0_add rfl rfl rfl (by decide +kernel) ⟨Nat.le_of_ble_eq_true rfl, Nat.le_of_ble_eq_true rfl⟩) (pvG hK hP hE hS (va_recv hK hP (ci := 0) (q0 := (gN q_1009)) rfl (wl_at (cel_lt c_1010) (cX0 c_1010)))) rfl rfl hl.1 rfl (lv_room (Nat.le_of_ble_eq_true rfl)) dX1_goOn_155 ⟨Nat.zero_le _, Nat.zero_le _⟩) hS (fun H locs hP hS => ?_)
        exact x_vret hx hb hr hlocks hP hS dX1_goOn_158 (Option.some.inj hf)
      · have hf := (if_neg c_1006).symm.trans hf
        exact j_56 a0 a1 a2 q_1002 (a1 - a2) σ _ _ _ hP hS (lv_sub hl [2, 3, 4, 5, 1, 0] rfl) hf
  · have hf := (if_pos c_1003).symm.trans hf
    exact x_vret hx hb hr hlocks hP hS dX1_goOn_23 (Option.some.inj hf)
set_option maxHeartbeats 40000000 in
set_option maxRecDepth 100000 in
theorem kX4_begin (l : Launch) (z : Cx) (hz : okC 40 z) {a0 : Int32}  {σ σ' : Mm} (hf : fX4_begin a0 σ = some σ') : KG 40 ceX l yX4_begin wsX4_begin (2) (48) [.ref (z.2.1 35), .int a0] z σ σ' none := by
  rw [fX4_begin] at hf
  refine Met.ofW (cc := cX4_begin) (maxL := 2) (ret := none) (by decide) rfl ?_
  intro p e s m args below meth c s₁ B hml hv
  obtain ⟨rfl, hP, hK, hE⟩ := hv
  have hx := B.exec
  have hb := B.bytes
  have hr := B.returns
  have hts := atoms_spec (ws := wsX4_begin) B.pre
  have hown : s.vm.findClass RX4 = some m.cls := findClass_of_methodNamed B.named
  have hlocks := B.notSynchronized
  have in_X4 : ∀ w ∈ wsX40, w ∈ wsX4_begin := by decide +kernel
  have hS : va_S (aG 40 z) s.heap s.heap [] := va_S.rf
  have hl := lv_entry ([.ref (z.2.1 35), .int a0]) (n := 2) (Nat.le_of_ble_eq_true rfl)
  rw [lg_entry_eq]
  generalize (lg_sl ([.ref (z.2.1 35), .int a0]) ++ List.replicate (2 - (lg_sl ([.ref (z.2.1 35), .int a0])).length) Slot.unset).toArray = ls at hl ⊢
  have hl : lv_has ls 2 [(0, .ref (z.2.1 35)), (1, .int a0)] := hl
  refine lv_aload_n hx hb dX4_begin_0 rfl (lv_at hl 0 rfl) ?_
  obtain ⟨c_1001, hf⟩ := x_ck hf
  refine va_get (D := z.1) (ci := 4) (v := .ref (z.2.1 (gH σ))) (C := RX4) (T := TX4) (N := 2) hx hb hts in_X4 hown hK hP 35 (wl_at (by decide) cX4) rfl 0 (by decide) (hts (.fieldLink RX4 12 "TillOneOfSort$Walk" "here" "LTillOneOfSort$Cells;") (by decide +kernel)) (fun _ h9 => h9) rfl dX4_begin_1 ?_
  obtain ⟨q_1002, hq_1002, hf⟩ := x_bd hf
  refine x_callGv (va_runV (As := []) (rest := []) ⟨hx, hb, hml, hown, hts⟩ (kX0_clear l z hz c_1001 hq_1002) (cwV 0 hts gX4_begin_X0_clear rfl rfl rfl (by decide +kernel) ⟨Nat.le_of_ble_eq_true rfl, Nat.le_of_ble_eq_true rfl⟩) (pvG hK hP hE hS (va_recv hK hP (ci := 0) (q0 := (gH σ)) rfl (wl_at (cel_lt c_1001) (cX0 c_1001)))) rfl rfl hl.1 rfl (lv_room (Nat.le_of_ble_eq_true rfl)) dX4_begin_4 ⟨Nat.zero_le _, Nat.zero_le _⟩) hS (fun H locs hP hS => ?_)
  refine lv_aload_n hx hb dX4_begin_7 rfl (lv_at hl 0 rfl) ?_
  obtain ⟨c_1003, hf⟩ := x_ck hf
  refine va_get (D := z.1) (ci := 4) (v := .ref (z.2.1 (gN q_1002))) (C := RX4) (T := TX4) (N := 2) hx hb hts in_X4 hown hK hP 35 (wl_at (by decide) cX4) rfl 1 (by decide) (hts (.fieldLink RX4 18 "TillOneOfSort$Walk" "next" "LTillOneOfSort$Cells;") (by decide +kernel)) (fun _ h9 => h9) rfl dX4_begin_8 ?_
  obtain ⟨q_1004, hq_1004, hf⟩ := x_bd hf
  refine x_callGv (va_runV (As := []) (rest := []) ⟨hx, hb, hml, hown, hts⟩ (kX0_clear l z hz c_1003 hq_1004) (cwV 0 hts gX4_begin_X0_clear rfl rfl rfl (by decide +kernel) ⟨Nat.le_of_ble_eq_true rfl, Nat.le_of_ble_eq_true rfl⟩) (pvG hK hP hE hS (va_recv hK hP (ci := 0) (q0 := (gN q_1002)) rfl (wl_at (cel_lt c_1003) (cX0 c_1003)))) rfl rfl hl.1 rfl (lv_room (Nat.le_of_ble_eq_true rfl)) dX4_begin_11 ⟨Nat.zero_le _, Nat.zero_le _⟩) hS (fun H locs hP hS => ?_)
  refine lv_aload_n hx hb dX4_begin_14 rfl (lv_at hl 0 rfl) ?_
  obtain ⟨c_1005, hf⟩ := x_ck hf
  refine va_get (D := z.1) (ci := 4) (v := .ref (z.2.1 (gH q_1004))) (C := RX4) (T := TX4) (N := 2) hx hb hts in_X4 hown hK hP 35 (wl_at (by decide) cX4) rfl 0 (by decide) (hts (.fieldLink RX4 12 "TillOneOfSort$Walk" "here" "LTillOneOfSort$Cells;") (by decide +kernel)) (fun _ h9 => h9) rfl dX4_begin_15 ?_
  refine lv_iconst (v := (1 : Int32)) hx hb dX4_begin_18 (by decide) ?_
  refine lv_iconst (v := (1 : Int32)) hx hb dX4_begin_19 (by decide) ?_
  refine lv_iconst (v := (1 : Int32)) hx hb dX4_begin_20 (by decide) ?_
  refine lv_iload_n hx hb dX4_begin_21 rfl (lv_at hl 1 rfl) ?_
  refine lv_i2l (v := a0.toInt64) hx hb dX4_begin_22 rfl ?_
  obtain ⟨q_1006, hq_1006, hf⟩ := x_bd hf
  refine x_callGv (va_runV (As := [.int (1 : Int32), .int (1 : Int32), .int (1 : Int32), .long (a0.toInt64)]) (rest := []) ⟨hx, hb, hml, hown, hts⟩ (kX0_add l z hz c_1005 hq_1006) (cwV 4 hts gX4_begin_X0_add rfl rfl rfl (by decide +kernel) ⟨Nat.le_of_ble_eq_true rfl, Nat.le_of_ble_eq_true rfl⟩) (pvG hK hP hE hS (va_recv hK hP (ci := 0) (q0 := (gH q_1004)) rfl (wl_at (cel_lt c_1005) (cX0 c_1005)))) rfl rfl hl.1 rfl (lv_room (Nat.le_of_ble_eq_true rfl)) dX4_begin_23 ⟨Nat.zero_le _, Nat.zero_le _⟩) hS (fun H locs hP hS => ?_)
  refine lv_aload_n hx hb dX4_begin_26 rfl (lv_at hl 0 rfl) ?_
  obtain ⟨c_1007, hf⟩ := x_ck hf
  refine va_get (D := z.1) (ci := 4) (v := .ref (z.2.1 (gH q_1006))) (C := RX4) (T := TX4) (N := 2) hx hb hts in_X4 hown hK hP 35 (wl_at (by decide) cX4) rfl 0 (by decide) (hts (.fieldLink RX4 12 "TillOneOfSort$Walk" "here" "LTillOneOfSort$Cells;") (by decide +kernel)) (fun _ h9 => h9) rfl dX4_begin_27 ?_
  refine lv_iconst (v := (0 : Int32)) hx hb dX4_begin_30 (by decide) ?_
  refine lv_iconst (v := (0 : Int32)) hx hb dX4_begin_31 (by decide) ?_
  refine lv_iconst (v := (0 : Int32)) hx hb dX4_begin_32 (by decide) ?_
  refine lv_bipush (v := (12 : Int32)) hx hb dX4_begin_33 (by decide) ?_
  refine lv_iload_n hx hb dX4_begin_35 rfl (lv_at hl 1 rfl) ?_
  refine lv_isub hx hb dX4_begin_36 ?_
  refine lv_i2l (v := ((12 : Int32) - a0).toInt64) hx hb dX4_begin_37 rfl ?_
  obtain ⟨q_1008, hq_1008, hf⟩ := x_bd hf
  refine x_callGv (va_runV (As := [.int (0 : Int32), .int (0 : Int32), .int (0 : Int32), .long (((12 : Int32) - a0).toInt64)]) (rest := []) ⟨hx, hb, hml, hown, hts⟩ (kX0_add l z hz c_1007 hq_1008) (cwV 4 hts gX4_begin_X0_add rfl rfl rfl (by decide +kernel) ⟨Nat.le_of_ble_eq_true rfl, Nat.le_of_ble_eq_true rfl⟩) (pvG hK hP hE hS (va_recv hK hP (ci := 0) (q0 := (gH q_1006)) rfl (wl_at (cel_lt c_1007) (cX0 c_1007)))) rfl rfl hl.1 rfl (lv_room (Nat.le_of_ble_eq_true rfl)) dX4_begin_38 ⟨Nat.zero_le _, Nat.zero_le _⟩) hS (fun H locs hP hS => ?_)
  exact x_vret hx hb hr hlocks hP hS dX4_begin_41 (Option.some.inj hf)
set_option maxHeartbeats 40000000 in
set_option maxRecDepth 100000 in
theorem kX4_stepOn (l : Launch) (z : Cx) (hz : okC 40 z)   {σ σ' : Mm} (hf : fX4_stepOn σ = some σ') : KG 40 ceX l yX4_stepOn wsX4_stepOn (2) (44) [.ref (z.2.1 35)] z σ σ' none := by
  rw [fX4_stepOn] at hf
  refine Met.ofW (cc := cX4_stepOn) (maxL := 2) (ret := none) (by decide) rfl ?_
  intro p e s m args below meth c s₁ B hml hv
  obtain ⟨rfl, hP, hK, hE⟩ := hv
  have hx := B.exec
  have hb := B.bytes
  have hr := B.returns
  have hts := atoms_spec (ws := wsX4_stepOn) B.pre
  have hown : s.vm.findClass RX4 = some m.cls := findClass_of_methodNamed B.named
  have hlocks := B.notSynchronized
  have in_X4 : ∀ w ∈ wsX40, w ∈ wsX4_stepOn := by decide +kernel
  have hS : va_S (aG 40 z) s.heap s.heap [] := va_S.rf
  have hl := lv_entry ([.ref (z.2.1 35)]) (n := 2) (Nat.le_of_ble_eq_true rfl)
  rw [lg_entry_eq]
  generalize (lg_sl ([.ref (z.2.1 35)]) ++ List.replicate (2 - (lg_sl ([.ref (z.2.1 35)])).length) Slot.unset).toArray = ls at hl ⊢
  have hl : lv_has ls 2 [(0, .ref (z.2.1 35))] := hl
  refine lv_aload_n hx hb dX4_stepOn_0 rfl (lv_at hl 0 rfl) ?_
  obtain ⟨c_1001, hf⟩ := x_ck hf
  refine va_get (D := z.1) (ci := 4) (v := .ref (z.2.1 (gH σ))) (C := RX4) (T := TX4) (N := 2) hx hb hts in_X4 hown hK hP 35 (wl_at (by decide) cX4) rfl 0 (by decide) (hts (.fieldLink RX4 12 "TillOneOfSort$Walk" "here" "LTillOneOfSort$Cells;") (by decide +kernel)) (fun _ h9 => h9) rfl dX4_stepOn_1 ?_
  refine lv_astore_n (lv' := [(1, .ref (z.2.1 (gH σ))), (0, .ref (z.2.1 35))]) hx hb dX4_stepOn_4 rfl hl (by decide) rfl (fun ls hl => ?_)
  refine lv_aload_n hx hb dX4_stepOn_5 rfl (lv_at hl 1 rfl) ?_
  refine lv_aload_n hx hb dX4_stepOn_6 rfl (lv_at hl 1 rfl) ?_
  obtain ⟨c_1002, hf⟩ := x_ck hf
  refine va_get (D := z.1) (ci := 4) (v := .ref (z.2.1 (gN σ))) (C := RX4) (T := TX4) (N := 2) hx hb hts in_X4 hown hK hP 35 (wl_at (by decide) cX4) rfl 1 (by decide) (hts (.fieldLink RX4 18 "TillOneOfSort$Walk" "next" "LTillOneOfSort$Cells;") (by decide +kernel)) (fun _ h9 => h9) rfl dX4_stepOn_7 ?_
  refine va_put (D := z.1) (ci := 4) (v := .ref (z.2.1 (gN σ))) (ty := (.object "TillOneOfSort$Cells")) (C := RX4) (T := TX4) (N := 2) hx hb hts in_X4 tyX4 tyX4_ok nmX4 hown hK hP (wl_D hz _) hS 35 (wl_at (by decide) cX4) rfl 0 (by decide) (hts (.fieldLink RX4 12 "TillOneOfSort$Walk" "here" "LTillOneOfSort$Cells;") (by decide +kernel)) (fun _ h9 => h9) rfl (by decide +kernel) rfl rfl (Nat.le_of_ble_eq_true rfl) dX4_stepOn_10 (fun H locs hP _ hS => ?_)
  rw [sX4h] at hP
  refine lv_aload_n hx hb dX4_stepOn_13 rfl (lv_at hl 1 rfl) ?_
  refine lv_aload_n hx hb dX4_stepOn_14 rfl (lv_at hl 0 rfl) ?_
  refine va_put (D := z.1) (ci := 4) (v := .ref (z.2.1 (gH σ))) (ty := (.object "TillOneOfSort$Cells")) (C := RX4) (T := TX4) (N := 2) hx hb hts in_X4 tyX4 tyX4_ok nmX4 hown hK hP (wl_D hz _) hS 35 (wl_at (by decide) cX4) rfl 1 (by decide) (hts (.fieldLink RX4 18 "TillOneOfSort$Walk" "next" "LTillOneOfSort$Cells;") (by decide +kernel)) (fun _ h9 => h9) rfl (by decide +kernel) rfl rfl (Nat.le_of_ble_eq_true rfl) dX4_stepOn_15 (fun H locs hP _ hS => ?_)
  rw [sX4n] at hP
  refine lv_aload_n hx hb dX4_stepOn_18 rfl (lv_at hl 1 rfl) ?_
  obtain ⟨c_1003, hf⟩ := x_ck hf
  refine va_get (D := z.1) (ci := 4) (v := .ref (z.2.1 (gN (pN (pH σ (gN σ)) (gH σ))))) (C := RX4) (T := TX4) (N := 2) hx hb hts in_X4 hown hK hP 35 (wl_at (by decide) cX4) rfl 1 (by decide) (hts (.fieldLink RX4 18 "TillOneOfSort$Walk" "next" "LTillOneOfSort$Cells;") (by decide +kernel)) (fun _ h9 => h9) rfl dX4_stepOn_19 ?_
  obtain ⟨q_1004, hq_1004, hf⟩ := x_bd hf
  refine x_callGv (va_runV (As := []) (rest := []) ⟨hx, hb, hml, hown, hts⟩ (kX0_clear l z hz c_1003 hq_1004) (cwV 0 hts gX4_stepOn_X0_clear rfl rfl rfl (by decide +kernel) ⟨Nat.le_of_ble_eq_true rfl, Nat.le_of_ble_eq_true rfl⟩) (pvG hK hP hE hS (va_recv hK hP (ci := 0) (q0 := (gN (pN (pH σ (gN σ)) (gH σ)))) rfl (wl_at (cel_lt c_1003) (cX0 c_1003)))) rfl rfl hl.1 rfl (lv_room (Nat.le_of_ble_eq_true rfl)) dX4_stepOn_22 ⟨Nat.zero_le _, Nat.zero_le _⟩) hS (fun H locs hP hS => ?_)
  exact x_vret hx hb hr hlocks hP hS dX4_stepOn_25 (Option.some.inj hf)
set_option maxHeartbeats 40000000 in
set_option maxRecDepth 100000 in
theorem kX1_retell (l : Launch) (z : Cx) (hz : okC 40 z) {i : Nat} {a0 : Int32} {a1 : Int32} {a2 : Int32} {a3 : Int32} {a4 : Int32} (hi : isTal i = true) {σ σ' : Mm} (hf : fX1_retell i a0 a1 a2 a3 a4 σ = some σ') : KG 40 ceX l yX1_retell wsX1_retell (3) (77) [.ref (z.2.1 i), .int a0, .int a1, .int a2, .int a3, .int a4] z σ σ' none := by
  rw [fX1_retell] at hf
  refine Met.ofW (cc := cX1_retell) (maxL := 9) (ret := none) (by decide) rfl ?_
  intro p e s m args below meth c s₁ B hml hv
  obtain ⟨rfl, hP, hK, hE⟩ := hv
  have hx := B.exec
  have hb := B.bytes
  have hr := B.returns
  have hts := atoms_spec (ws := wsX1_retell) B.pre
  have hown : s.vm.findClass RX1 = some m.cls := findClass_of_methodNamed B.named
  have hlocks := B.notSynchronized
  have in_X1 : ∀ w ∈ wsX10, w ∈ wsX1_retell := by decide +kernel
  have hS : va_S (aG 40 z) s.heap s.heap [] := va_S.rf
  have hl := lv_entry ([.ref (z.2.1 i), .int a0, .int a1, .int a2, .int a3, .int a4]) (n := 9) (Nat.le_of_ble_eq_true rfl)
  rw [lg_entry_eq]
  generalize (lg_sl ([.ref (z.2.1 i), .int a0, .int a1, .int a2, .int a3, .int a4]) ++ List.replicate (9 - (lg_sl ([.ref (z.2.1 i), .int a0, .int a1, .int a2, .int a3, .int a4])).length) Slot.unset).toArray = ls at hl ⊢
  have hl : lv_has ls 9 [(0, .ref (z.2.1 i)), (1, .int a0), (2, .int a1), (3, .int a2), (4, .int a3), (5, .int a4)] := hl
  have L_91 : ∀ (n_91 : Nat) (v6 : Int32) (σ : Mm) (H : Heap) (locs : List Loc) (ls : Array Slot), va_P z.1 vwCl (wl 40 z.2.1 (ceX z σ)) H → va_S (aG 40 z) s.heap H locs → lv_has ls 9 [(0, .ref (z.2.1 i)), (6, .int v6)] → fX1_retell_91 i n_91 v6 σ = some σ' → W p l e (headSpec wsX1_retell ({ frames := 3, cells := 0, slots := 0, locals := 77 })).room s m ([.ref (z.2.1 i), .int a0, .int a1, .int a2, .int a3, .int a4] : List Value).toArray below meth c H locs 0 0 (MQ below (qcG 40 ceX z σ' none) ([.ref (z.2.1 i), .int a0, .int a1, .int a2, .int a3, .int a4] : List Value).toArray s 0 0 (aG 40 z)) (F0 m 91 ls []) := by
    intro n_91
    induction n_91 with
    | zero =>
      intro v6 σ H locs ls hP hS hl hf
      rw [fX1_retell_91] at hf
      cases hf
    | succ n_91 ih_91 =>
      have L_103 : ∀ (n_103 : Nat) (v6 : Int32) (v7 : Int32) (σ : Mm) (H : Heap) (locs : List Loc) (ls : Array Slot), va_P z.1 vwCl (wl 40 z.2.1 (ceX z σ)) H → va_S (aG 40 z) s.heap H locs → lv_has ls 9 [(0, .ref (z.2.1 i)), (6, .int v6), (7, .int v7)] → fX1_retell_103 i (fun wv6 wσ => fX1_retell_91 i n_91 wv6 wσ) n_103 v6 v7 σ = some σ' → W p l e (headSpec wsX1_retell ({ frames := 3, cells := 0, slots := 0, locals := 77 })).room s m ([.ref (z.2.1 i), .int a0, .int a1, .int a2, .int a3, .int a4] : List Value).toArray below meth c H locs 0 0 (MQ below (qcG 40 ceX z σ' none) ([.ref (z.2.1 i), .int a0, .int a1, .int a2, .int a3, .int a4] : List Value).toArray s 0 0 (aG 40 z)) (F0 m 103 ls []) := by
        intro n_103
        induction n_103 with
        | zero =>
          intro v6 v7 σ H locs ls hP hS hl hf
          rw [fX1_retell_103] at hf
          cases hf
        | succ n_103 ih_103 =>
          have L_113 : ∀ (n_113 : Nat) (v6 : Int32) (v7 : Int32) (v8 : Int32) (σ : Mm) (H : Heap) (locs : List Loc) (ls : Array Slot), va_P z.1 vwCl (wl 40 z.2.1 (ceX z σ)) H → va_S (aG 40 z) s.heap H locs → lv_has ls 9 [(0, .ref (z.2.1 i)), (6, .int v6), (7, .int v7), (8, .int v8)] → fX1_retell_113 i (fun wv6 wσ => fX1_retell_91 i n_91 wv6 wσ) (fun wv6 wv7 wσ => fX1_retell_103 i (fun wv6 wσ => fX1_retell_91 i n_91 wv6 wσ) n_103 wv6 wv7 wσ) n_113 v6 v7 v8 σ = some σ' → W p l e (headSpec wsX1_retell ({ frames := 3, cells := 0, slots := 0, locals := 77 })).room s m ([.ref (z.2.1 i), .int a0, .int a1, .int a2, .int a3, .int a4] : List Value).toArray below meth c H locs 0 0 (MQ below (qcG 40 ceX z σ' none) ([.ref (z.2.1 i), .int a0, .int a1, .int a2, .int a3, .int a4] : List Value).toArray s 0 0 (aG 40 z)) (F0 m 113 ls []) := by
            intro n_113
            induction n_113 with
            | zero =>
              intro v6 v7 v8 σ H locs ls hP hS hl hf
              rw [fX1_retell_113] at hf
              cases hf
            | succ n_113 ih_113 =>
              intro v6 v7 v8 σ H locs ls hP hS hl hf
              rw [fX1_retell_113] at hf
              refine lv_iload hx hb dX1_retell_113 (lv_at hl 3 rfl) ?_
              refine lv_iload hx hb dX1_retell_115 (lv_at hl 2 rfl) ?_
              refine lv_icmp_gt (tgt := 148) hx hb dX1_retell_117 (by decide) (fun c_9 => ?_) (fun c_9 => ?_)
              · have hf := (if_pos c_9).symm.trans hf
                refine lv_iinc (v := (v7 + (1 : Int32))) (lv' := [(7, .int (v7 + (1 : Int32))), (0, .ref (z.2.1 i)), (6, .int v6), (8, .int v8)]) hx hb dX1_retell_148 hl (k := 2) rfl rfl (by decide) rfl (fun ls hl => ?_)
                refine lv_goto (tgt := 103) hx hb dX1_retell_151 (by decide) ?_
                exact ih_103 v6 (v7 + (1 : Int32)) σ _ _ _ hP hS (lv_sub hl [1, 2, 0] rfl) hf
              · have hf := (if_neg c_9).symm.trans hf
                refine lv_aload_n hx hb dX1_retell_120 rfl (lv_at hl 0 rfl) ?_
                refine lv_iconst (v := (0 : Int32)) hx hb dX1_retell_121 (by decide) ?_
                refine lv_iload hx hb dX1_retell_122 (lv_at hl 1 rfl) ?_
                refine lv_iload hx hb dX1_retell_124 (lv_at hl 2 rfl) ?_
                refine lv_iload hx hb dX1_retell_126 (lv_at hl 3 rfl) ?_
                obtain ⟨q_10, hq_10, hf⟩ := x_bd hf
                refine x_callGv (va_runV (As := [.int (0 : Int32), .int v6, .int v7, .int v8]) (rest := []) ⟨hx, hb, hml, hown, hts⟩ (kX1_goOn l z hz hi hq_10) (cwV 4 hts gX1_retell_X1_goOn rfl rfl rfl (by decide +kernel) ⟨Nat.le_of_ble_eq_true rfl, Nat.le_of_ble_eq_true rfl⟩) (pvG hK hP hE hS (va_recv hK hP (ci := 1) (q0 := i) rfl (wl_at (tal_lt hi) (cX1 hi)))) rfl rfl hl.1 rfl (lv_room (Nat.le_of_ble_eq_true rfl)) dX1_retell_128 ⟨Nat.zero_le _, Nat.zero_le _⟩) hS (fun H locs hP hS => ?_)
                refine lv_aload_n hx hb dX1_retell_131 rfl (lv_at hl 0 rfl) ?_
                refine lv_iconst (v := (1 : Int32)) hx hb dX1_retell_132 (by decide) ?_
                refine lv_iload hx hb dX1_retell_133 (lv_at hl 1 rfl) ?_
                refine lv_iload hx hb dX1_retell_135 (lv_at hl 2 rfl) ?_
                refine lv_iload hx hb dX1_retell_137 (lv_at hl 3 rfl) ?_
                obtain ⟨q_11, hq_11, hf⟩ := x_bd hf
                refine x_callGv (va_runV (As := [.int (1 : Int32), .int v6, .int v7, .int v8]) (rest := []) ⟨hx, hb, hml, hown, hts⟩ (kX1_goOn l z hz hi hq_11) (cwV 4 hts gX1_retell_X1_goOn rfl rfl rfl (by decide +kernel) ⟨Nat.le_of_ble_eq_true rfl, Nat.le_of_ble_eq_true rfl⟩) (pvG hK hP hE hS (va_recv hK hP (ci := 1) (q0 := i) rfl (wl_at (tal_lt hi) (cX1 hi)))) rfl rfl hl.1 rfl (lv_room (Nat.le_of_ble_eq_true rfl)) dX1_retell_139 ⟨Nat.zero_le _, Nat.zero_le _⟩) hS (fun H locs hP hS => ?_)
                refine lv_iinc (v := (v8 + (1 : Int32))) (lv' := [(8, .int (v8 + (1 : Int32))), (0, .ref (z.2.1 i)), (6, .int v6), (7, .int v7)]) hx hb dX1_retell_142 hl (k := 3) rfl rfl (by decide) rfl (fun ls hl => ?_)
                refine lv_goto (tgt := 113) hx hb dX1_retell_145 (by decide) ?_
                exact ih_113 v6 v7 (v8 + (1 : Int32)) q_11 _ _ _ hP hS (lv_sub hl [1, 2, 3, 0] rfl) hf
          intro v6 v7 σ H locs ls hP hS hl hf
          rw [fX1_retell_103] at hf
          refine lv_iload hx hb dX1_retell_103 (lv_at hl 2 rfl) ?_
          refine lv_iload hx hb dX1_retell_105 (lv_at hl 1 rfl) ?_
          refine lv_icmp_gt (tgt := 154) hx hb dX1_retell_107 (by decide) (fun c_7 => ?_) (fun c_7 => ?_)
          · have hf := (if_pos c_7).symm.trans hf
            refine lv_aload_n hx hb dX1_retell_154 rfl (lv_at hl 0 rfl) ?_
            refine va_get (D := z.1) (ci := 1) (v := .ref (z.2.1 35)) (C := RX1) (T := TX1) (N := 7) hx hb hts in_X1 hown hK hP i (wl_at (tal_lt hi) (cX1 hi)) rfl 0 (by decide) (hts (.fieldLink RX1 22 "TillOneOfSort$Tally" "walk" "LTillOneOfSort$Walk;") (by decide +kernel)) (fun _ h9 => h9) rfl dX1_retell_155 ?_
            obtain ⟨q_8, hq_8, hf⟩ := x_bd hf
            refine x_callGv (va_runV (As := []) (rest := []) ⟨hx, hb, hml, hown, hts⟩ (kX4_stepOn l z hz hq_8) (cwV 0 hts gX1_retell_X4_stepOn rfl rfl rfl (by decide +kernel) ⟨Nat.le_of_ble_eq_true rfl, Nat.le_of_ble_eq_true rfl⟩) (pvG hK hP hE hS (va_recv hK hP (ci := 4) (q0 := 35) rfl (wl_at (by decide) cX4))) rfl rfl hl.1 rfl (lv_room (Nat.le_of_ble_eq_true rfl)) dX1_retell_158 ⟨Nat.zero_le _, Nat.zero_le _⟩) hS (fun H locs hP hS => ?_)
            refine lv_iinc (v := (v6 + (1 : Int32))) (lv' := [(6, .int (v6 + (1 : Int32))), (0, .ref (z.2.1 i)), (7, .int v7)]) hx hb dX1_retell_161 hl (k := 1) rfl rfl (by decide) rfl (fun ls hl => ?_)
            refine lv_goto (tgt := 91) hx hb dX1_retell_164 (by decide) ?_
            exact ih_91 (v6 + (1 : Int32)) q_8 _ _ _ hP hS (lv_sub hl [1, 0] rfl) hf
          · have hf := (if_neg c_7).symm.trans hf
            refine lv_iconst (v := (0 : Int32)) hx hb dX1_retell_110 (by decide) ?_
            refine lv_istore (lv' := [(8, .int (0 : Int32)), (0, .ref (z.2.1 i)), (6, .int v6), (7, .int v7)]) hx hb dX1_retell_111 hl (by decide) rfl (fun ls hl => ?_)
            exact L_113 1000 v6 v7 (0 : Int32) σ _ _ _ hP hS (lv_sub hl [1, 2, 3, 0] rfl) hf
      intro v6 σ H locs ls hP hS hl hf
      rw [fX1_retell_91] at hf
      refine lv_iload hx hb dX1_retell_91 (lv_at hl 1 rfl) ?_
      refine lv_aload_n hx hb dX1_retell_93 rfl (lv_at hl 0 rfl) ?_
      refine va_get (D := z.1) (ci := 1) (v := .int (gI σ i 4)) (C := RX1) (T := TX1) (N := 7) hx hb hts in_X1 hown hK hP i (wl_at (tal_lt hi) (cX1 hi)) rfl 4 (by decide) (hts (.fieldLink RX1 29 "TillOneOfSort$Tally" "most" "I") (by decide +kernel)) (fun _ h9 => h9) rfl dX1_retell_94 ?_
      refine lv_icmp_gt (tgt := 167) hx hb dX1_retell_97 (by decide) (fun c_6 => ?_) (fun c_6 => ?_)
      · have hf := (if_pos c_6).symm.trans hf
        exact x_vret hx hb hr hlocks hP hS dX1_retell_167 (Option.some.inj hf)
      · have hf := (if_neg c_6).symm.trans hf
        refine lv_iconst (v := (0 : Int32)) hx hb dX1_retell_100 (by decide) ?_
        refine lv_istore (lv' := [(7, .int (0 : Int32)), (0, .ref (z.2.1 i)), (6, .int v6)]) hx hb dX1_retell_101 hl (by decide) rfl (fun ls hl => ?_)
        exact L_103 1000 v6 (0 : Int32) σ _ _ _ hP hS (lv_sub hl [1, 2, 0] rfl) hf
  have j_43 : ∀ (v1 : Int32) (v2 : Int32) (v3 : Int32) (v4 : Int32) (v5 : Int32) (σ : Mm) (H : Heap) (locs : List Loc) (ls : Array Slot), va_P z.1 vwCl (wl 40 z.2.1 (ceX z σ)) H → va_S (aG 40 z) s.heap H locs → lv_has ls 9 [(0, .ref (z.2.1 i)), (1, .int v1), (2, .int v2), (3, .int v3), (4, .int v4), (5, .int v5)] → fX1_retell_43 i v1 v2 v3 v4 v5 σ = some σ' → W p l e (headSpec wsX1_retell ({ frames := 3, cells := 0, slots := 0, locals := 77 })).room s m ([.ref (z.2.1 i), .int a0, .int a1, .int a2, .int a3, .int a4] : List Value).toArray below meth c H locs 0 0 (MQ below (qcG 40 ceX z σ' none) ([.ref (z.2.1 i), .int a0, .int a1, .int a2, .int a3, .int a4] : List Value).toArray s 0 0 (aG 40 z)) (F0 m 43 ls []) := by
    intro v1 v2 v3 v4 v5 σ H locs ls hP hS hl hf
    rw [fX1_retell_43] at hf
    refine lv_aload_n hx hb dX1_retell_43 rfl (lv_at hl 0 rfl) ?_
    refine lv_iload_n hx hb dX1_retell_44 rfl (lv_at hl 1 rfl) ?_
    refine va_put (D := z.1) (ci := 1) (v := .int v1) (ty := .int) (C := RX1) (T := TX1) (N := 7) hx hb hts in_X1 tyX1 tyX1_ok nmX1 hown hK hP (wl_D hz _) hS i (wl_at (tal_lt hi) (cX1 hi)) rfl 2 (by decide) (hts (.fieldLink RX1 18 "TillOneOfSort$Tally" "kind" "I") (by decide +kernel)) (fun _ h9 => h9) rfl (by decide +kernel) rfl rfl (Nat.le_of_ble_eq_true rfl) dX1_retell_45 (fun H locs hP _ hS => ?_)
    rw [sX1 hi (by decide) (by decide)] at hP
    refine lv_aload_n hx hb dX1_retell_48 rfl (lv_at hl 0 rfl) ?_
    refine lv_iload_n hx hb dX1_retell_49 rfl (lv_at hl 2 rfl) ?_
    refine va_put (D := z.1) (ci := 1) (v := .int v2) (ty := .int) (C := RX1) (T := TX1) (N := 7) hx hb hts in_X1 tyX1 tyX1_ok nmX1 hown hK hP (wl_D hz _) hS i (wl_at (tal_lt hi) (cX1 hi)) rfl 3 (by decide) (hts (.fieldLink RX1 26 "TillOneOfSort$Tally" "figure" "I") (by decide +kernel)) (fun _ h9 => h9) rfl (by decide +kernel) rfl rfl (Nat.le_of_ble_eq_true rfl) dX1_retell_50 (fun H locs hP _ hS => ?_)
    rw [sX1 hi (by decide) (by decide)] at hP
    refine lv_aload_n hx hb dX1_retell_53 rfl (lv_at hl 0 rfl) ?_
    refine lv_iload_n hx hb dX1_retell_54 rfl (lv_at hl 3 rfl) ?_
    refine va_put (D := z.1) (ci := 1) (v := .int v3) (ty := .int) (C := RX1) (T := TX1) (N := 7) hx hb hts in_X1 tyX1 tyX1_ok nmX1 hown hK hP (wl_D hz _) hS i (wl_at (tal_lt hi) (cX1 hi)) rfl 4 (by decide) (hts (.fieldLink RX1 29 "TillOneOfSort$Tally" "most" "I") (by decide +kernel)) (fun _ h9 => h9) rfl (by decide +kernel) rfl rfl (Nat.le_of_ble_eq_true rfl) dX1_retell_55 (fun H locs hP _ hS => ?_)
    rw [sX1 hi (by decide) (by decide)] at hP
    refine lv_aload_n hx hb dX1_retell_58 rfl (lv_at hl 0 rfl) ?_
    refine lv_iload hx hb dX1_retell_59 (lv_at hl 4 rfl) ?_
    refine va_put (D := z.1) (ci := 1) (v := .int v4) (ty := .int) (C := RX1) (T := TX1) (N := 7) hx hb hts in_X1 tyX1 tyX1_ok nmX1 hown hK hP (wl_D hz _) hS i (wl_at (tal_lt hi) (cX1 hi)) rfl 5 (by decide) (hts (.fieldLink RX1 32 "TillOneOfSort$Tally" "chance" "I") (by decide +kernel)) (fun _ h9 => h9) rfl (by decide +kernel) rfl rfl (Nat.le_of_ble_eq_true rfl) dX1_retell_61 (fun H locs hP _ hS => ?_)
    rw [sX1 hi (by decide) (by decide)] at hP
    refine lv_aload_n hx hb dX1_retell_64 rfl (lv_at hl 0 rfl) ?_
    refine lv_iload hx hb dX1_retell_65 (lv_at hl 5 rfl) ?_
    refine va_put (D := z.1) (ci := 1) (v := .int v5) (ty := .int) (C := RX1) (T := TX1) (N := 7) hx hb hts in_X1 tyX1 tyX1_ok nmX1 hown hK hP (wl_D hz _) hS i (wl_at (tal_lt hi) (cX1 hi)) rfl 6 (by decide) (hts (.fieldLink RX1 35 "TillOneOfSort$Tally" "lean" "I") (by decide +kernel)) (fun _ h9 => h9) rfl (by decide +kernel) rfl rfl (Nat.le_of_ble_eq_true rfl) dX1_retell_67 (fun H locs hP _ hS => ?_)
    rw [sX1 hi (by decide) (by decide)] at hP
    refine lv_aload_n hx hb dX1_retell_70 rfl (lv_at hl 0 rfl) ?_
    refine va_get (D := z.1) (ci := 1) (v := .ref (z.2.1 (i + 1))) (C := RX1) (T := TX1) (N := 7) hx hb hts in_X1 hown hK hP i (wl_at (tal_lt hi) (cX1 hi)) rfl 1 (by decide) (hts (.fieldLink RX1 12 "TillOneOfSort$Tally" "ends" "LTillOneOfSort$Cells;") (by decide +kernel)) (fun _ h9 => h9) rfl dX1_retell_71 ?_
    obtain ⟨q_12, hq_12, hf⟩ := x_bd hf
    refine x_callGv (va_runV (As := []) (rest := []) ⟨hx, hb, hml, hown, hts⟩ (kX0_clear l z hz (cel_t hi) hq_12) (cwV 0 hts gX1_retell_X0_clear rfl rfl rfl (by decide +kernel) ⟨Nat.le_of_ble_eq_true rfl, Nat.le_of_ble_eq_true rfl⟩) (pvG hK hP hE hS (va_recv hK hP (ci := 0) (q0 := (i + 1)) rfl (wl_at (cel_lt (cel_t hi)) (cX0 (cel_t hi))))) rfl rfl hl.1 rfl (lv_room (Nat.le_of_ble_eq_true rfl)) dX1_retell_74 ⟨Nat.zero_le _, Nat.zero_le _⟩) hS (fun H locs hP hS => ?_)
    refine lv_aload_n hx hb dX1_retell_77 rfl (lv_at hl 0 rfl) ?_
    refine va_get (D := z.1) (ci := 1) (v := .ref (z.2.1 35)) (C := RX1) (T := TX1) (N := 7) hx hb hts in_X1 hown hK hP i (wl_at (tal_lt hi) (cX1 hi)) rfl 0 (by decide) (hts (.fieldLink RX1 22 "TillOneOfSort$Tally" "walk" "LTillOneOfSort$Walk;") (by decide +kernel)) (fun _ h9 => h9) rfl dX1_retell_78 ?_
    refine lv_aload_n hx hb dX1_retell_81 rfl (lv_at hl 0 rfl) ?_
    refine va_get (D := z.1) (ci := 1) (v := .int (gI q_12 i 5)) (C := RX1) (T := TX1) (N := 7) hx hb hts in_X1 hown hK hP i (wl_at (tal_lt hi) (cX1 hi)) rfl 5 (by decide) (hts (.fieldLink RX1 32 "TillOneOfSort$Tally" "chance" "I") (by decide +kernel)) (fun _ h9 => h9) rfl dX1_retell_82 ?_
    obtain ⟨q_13, hq_13, hf⟩ := x_bd hf
    refine x_callGv (va_runV (As := [.int (gI q_12 i 5)]) (rest := []) ⟨hx, hb, hml, hown, hts⟩ (kX4_begin l z hz hq_13) (cwV 1 hts gX1_retell_X4_begin rfl rfl rfl (by decide +kernel) ⟨Nat.le_of_ble_eq_true rfl, Nat.le_of_ble_eq_true rfl⟩) (pvG hK hP hE hS (va_recv hK hP (ci := 4) (q0 := 35) rfl (wl_at (by decide) cX4))) rfl rfl hl.1 rfl (lv_room (Nat.le_of_ble_eq_true rfl)) dX1_retell_85 ⟨Nat.zero_le _, Nat.zero_le _⟩) hS (fun H locs hP hS => ?_)
    refine lv_iconst (v := (1 : Int32)) hx hb dX1_retell_88 (by decide) ?_
    refine lv_istore (lv' := [(6, .int (1 : Int32)), (0, .ref (z.2.1 i)), (1, .int v1), (2, .int v2), (3, .int v3), (4, .int v4), (5, .int v5)]) hx hb dX1_retell_89 hl (by decide) rfl (fun ls hl => ?_)
    exact L_91 1000 (1 : Int32) q_13 _ _ _ hP hS (lv_sub hl [1, 0] rfl) hf
  refine lv_aload_n hx hb dX1_retell_0 rfl (lv_at hl 0 rfl) ?_
  refine va_get (D := z.1) (ci := 1) (v := .int (gI σ i 2)) (C := RX1) (T := TX1) (N := 7) hx hb hts in_X1 hown hK hP i (wl_at (tal_lt hi) (cX1 hi)) rfl 2 (by decide) (hts (.fieldLink RX1 18 "TillOneOfSort$Tally" "kind" "I") (by decide +kernel)) (fun _ h9 => h9) rfl dX1_retell_1 ?_
  refine lv_iload_n hx hb dX1_retell_4 rfl (lv_at hl 1 rfl) ?_
  refine lv_icmp_ne (tgt := 43) hx hb dX1_retell_5 (by decide) (fun c_1001 => ?_) (fun c_1001 => ?_)
  · have hf := (if_neg c_1001).symm.trans hf
    exact j_43 a0 a1 a2 a3 a4 σ _ _ _ hP hS (lv_sub hl [0, 1, 2, 3, 4, 5] rfl) hf
  · have hf := (if_pos c_1001).symm.trans hf
    refine lv_aload_n hx hb dX1_retell_8 rfl (lv_at hl 0 rfl) ?_
    refine va_get (D := z.1) (ci := 1) (v := .int (gI σ i 3)) (C := RX1) (T := TX1) (N := 7) hx hb hts in_X1 hown hK hP i (wl_at (tal_lt hi) (cX1 hi)) rfl 3 (by decide) (hts (.fieldLink RX1 26 "TillOneOfSort$Tally" "figure" "I") (by decide +kernel)) (fun _ h9 => h9) rfl dX1_retell_9 ?_
    refine lv_iload_n hx hb dX1_retell_12 rfl (lv_at hl 2 rfl) ?_
    refine lv_icmp_ne (tgt := 43) hx hb dX1_retell_13 (by decide) (fun c_1002 => ?_) (fun c_1002 => ?_)
    · have hf := (if_neg c_1002).symm.trans hf
      exact j_43 a0 a1 a2 a3 a4 σ _ _ _ hP hS (lv_sub hl [0, 1, 2, 3, 4, 5] rfl) hf
    · have hf := (if_pos c_1002).symm.trans hf
      refine lv_aload_n hx hb dX1_retell_16 rfl (lv_at hl 0 rfl) ?_
      refine va_get (D := z.1) (ci := 1) (v := .int (gI σ i 4)) (C := RX1) (T := TX1) (N := 7) hx hb hts in_X1 hown hK hP i (wl_at (tal_lt hi) (cX1 hi)) rfl 4 (by decide) (hts (.fieldLink RX1 29 "TillOneOfSort$Tally" "most" "I") (by decide +kernel)) (fun _ h9 => h9) rfl dX1_retell_17 ?_
      refine lv_iload_n hx hb dX1_retell_20 rfl (lv_at hl 3 rfl) ?_
      refine lv_icmp_ne (tgt := 43) hx hb dX1_retell_21 (by decide) (fun c_1003 => ?_) (fun c_1003 => ?_)
      · have hf := (if_neg c_1003).symm.trans hf
        exact j_43 a0 a1 a2 a3 a4 σ _ _ _ hP hS (lv_sub hl [0, 1, 2, 3, 4, 5] rfl) hf
      · have hf := (if_pos c_1003).symm.trans hf
        refine lv_aload_n hx hb dX1_retell_24 rfl (lv_at hl 0 rfl) ?_
        refine va_get (D := z.1) (ci := 1) (v := .int (gI σ i 5)) (C := RX1) (T := TX1) (N := 7) hx hb hts in_X1 hown hK hP i (wl_at (tal_lt hi) (cX1 hi)) rfl 5 (by decide) (hts (.fieldLink RX1 32 "TillOneOfSort$Tally" "chance" "I") (by decide +kernel)) (fun _ h9 => h9) rfl dX1_retell_25 ?_
        refine lv_iload hx hb dX1_retell_28 (lv_at hl 4 rfl) ?_
        refine lv_icmp_ne (tgt := 43) hx hb dX1_retell_30 (by decide) (fun c_1004 => ?_) (fun c_1004 => ?_)
        · have hf := (if_neg c_1004).symm.trans hf
          exact j_43 a0 a1 a2 a3 a4 σ _ _ _ hP hS (lv_sub hl [0, 1, 2, 3, 4, 5] rfl) hf
        · have hf := (if_pos c_1004).symm.trans hf
          refine lv_aload_n hx hb dX1_retell_33 rfl (lv_at hl 0 rfl) ?_
          refine va_get (D := z.1) (ci := 1) (v := .int (gI σ i 6)) (C := RX1) (T := TX1) (N := 7) hx hb hts in_X1 hown hK hP i (wl_at (tal_lt hi) (cX1 hi)) rfl 6 (by decide) (hts (.fieldLink RX1 35 "TillOneOfSort$Tally" "lean" "I") (by decide +kernel)) (fun _ h9 => h9) rfl dX1_retell_34 ?_
          refine lv_iload hx hb dX1_retell_37 (lv_at hl 5 rfl) ?_
          refine lv_icmp_ne (tgt := 43) hx hb dX1_retell_39 (by decide) (fun c_1005 => ?_) (fun c_1005 => ?_)
          · have hf := (if_neg c_1005).symm.trans hf
            exact j_43 a0 a1 a2 a3 a4 σ _ _ _ hP hS (lv_sub hl [0, 1, 2, 3, 4, 5] rfl) hf
          · have hf := (if_pos c_1005).symm.trans hf
            exact x_vret hx hb hr hlocks hP hS dX1_retell_42 (Option.some.inj hf)
set_option maxHeartbeats 40000000 in
set_option maxRecDepth 100000 in
theorem kX1_families (l : Launch) (z : Cx) (hz : okC 40 z) {i : Nat} {a0 : Int32} {a1 : Int32} (hi : isTal i = true) {σ : Mm} {r : Int64} (hf : fX1_families i a0 a1 σ = some r) : KG 40 ceX l yX1_families wsX1_families (2) (46) [.ref (z.2.1 i), .int a0, .int a1] z σ σ (some (.long r)) := by
  rw [fX1_families] at hf
  refine Met.ofW (cc := cX1_families) (maxL := 3) (ret := (some .long)) (by decide) rfl ?_
  intro p e s m args below meth c s₁ B hml hv
  obtain ⟨rfl, hP, hK, hE⟩ := hv
  have hx := B.exec
  have hb := B.bytes
  have hr := B.returns
  have hts := atoms_spec (ws := wsX1_families) B.pre
  have hown : s.vm.findClass RX1 = some m.cls := findClass_of_methodNamed B.named
  have hlocks := B.notSynchronized
  have in_X1 : ∀ w ∈ wsX10, w ∈ wsX1_families := by decide +kernel
  have hS : va_S (aG 40 z) s.heap s.heap [] := va_S.rf
  have hl := lv_entry ([.ref (z.2.1 i), .int a0, .int a1]) (n := 3) (Nat.le_of_ble_eq_true rfl)
  rw [lg_entry_eq]
  generalize (lg_sl ([.ref (z.2.1 i), .int a0, .int a1]) ++ List.replicate (3 - (lg_sl ([.ref (z.2.1 i), .int a0, .int a1])).length) Slot.unset).toArray = ls at hl ⊢
  have hl : lv_has ls 3 [(0, .ref (z.2.1 i)), (1, .int a0), (2, .int a1)] := hl
  refine lv_aload_n hx hb dX1_families_0 rfl (lv_at hl 0 rfl) ?_
  refine va_get (D := z.1) (ci := 1) (v := .ref (z.2.1 (i + 1))) (C := RX1) (T := TX1) (N := 7) hx hb hts in_X1 hown hK hP i (wl_at (tal_lt hi) (cX1 hi)) rfl 1 (by decide) (hts (.fieldLink RX1 12 "TillOneOfSort$Tally" "ends" "LTillOneOfSort$Cells;") (by decide +kernel)) (fun _ h9 => h9) rfl dX1_families_1 ?_
  refine lv_iconst (v := (0 : Int32)) hx hb dX1_families_4 (by decide) ?_
  refine lv_iload_n hx hb dX1_families_5 rfl (lv_at hl 1 rfl) ?_
  refine lv_iload_n hx hb dX1_families_6 rfl (lv_at hl 2 rfl) ?_
  obtain ⟨q_1001, hq_1001, hf⟩ := x_bd hf
  refine x_callGl (va_runV (As := [.int (0 : Int32), .int a0, .int a1]) (rest := []) ⟨hx, hb, hml, hown, hts⟩ (kX0_at l z hz (cel_t hi) hq_1001) (cwV 3 hts gX1_families_X0_at rfl rfl rfl (by decide +kernel) ⟨Nat.le_of_ble_eq_true rfl, Nat.le_of_ble_eq_true rfl⟩) (pvG hK hP hE hS (va_recv hK hP (ci := 0) (q0 := (i + 1)) rfl (wl_at (cel_lt (cel_t hi)) (cX0 (cel_t hi))))) rfl rfl hl.1 rfl (lv_room (Nat.le_of_ble_eq_true rfl)) dX1_families_7 ⟨Nat.zero_le _, Nat.zero_le _⟩) hS (fun H locs hP hS => ?_)
  refine lv_aload_n hx hb dX1_families_10 rfl (lv_at hl 0 rfl) ?_
  refine va_get (D := z.1) (ci := 1) (v := .ref (z.2.1 (i + 1))) (C := RX1) (T := TX1) (N := 7) hx hb hts in_X1 hown hK hP i (wl_at (tal_lt hi) (cX1 hi)) rfl 1 (by decide) (hts (.fieldLink RX1 12 "TillOneOfSort$Tally" "ends" "LTillOneOfSort$Cells;") (by decide +kernel)) (fun _ h9 => h9) rfl dX1_families_11 ?_
  refine lv_iconst (v := (1 : Int32)) hx hb dX1_families_14 (by decide) ?_
  refine lv_iload_n hx hb dX1_families_15 rfl (lv_at hl 1 rfl) ?_
  refine lv_iload_n hx hb dX1_families_16 rfl (lv_at hl 2 rfl) ?_
  obtain ⟨q_1002, hq_1002, hf⟩ := x_bd hf
  refine x_callGl (va_runV (As := [.int (1 : Int32), .int a0, .int a1]) (rest := [.long q_1001]) ⟨hx, hb, hml, hown, hts⟩ (kX0_at l z hz (cel_t hi) hq_1002) (cwV 3 hts gX1_families_X0_at rfl rfl rfl (by decide +kernel) ⟨Nat.le_of_ble_eq_true rfl, Nat.le_of_ble_eq_true rfl⟩) (pvG hK hP hE hS (va_recv hK hP (ci := 0) (q0 := (i + 1)) rfl (wl_at (cel_lt (cel_t hi)) (cX0 (cel_t hi))))) rfl rfl hl.1 rfl (lv_room (Nat.le_of_ble_eq_true rfl)) dX1_families_17 ⟨Nat.zero_le _, Nat.zero_le _⟩) hS (fun H locs hP hS => ?_)
  refine lv_ladd hx hb dX1_families_20 ?_
  exact x_lret hx hb hr hlocks hP hS dX1_families_21 (Option.some.inj hf) rfl
set_option maxHeartbeats 40000000 in
set_option maxRecDepth 100000 in
theorem kX1_familiesFrom (l : Launch) (z : Cx) (hz : okC 40 z) {i : Nat} {a0 : Int32} {a1 : Int32} {a2 : Int32} (hi : isTal i = true) {σ : Mm} {r : Int64} (hf : fX1_familiesFrom i a0 a1 a2 σ = some r) : KG 40 ceX l yX1_familiesFrom wsX1_familiesFrom (2) (46) [.ref (z.2.1 i), .int a0, .int a1, .int a2] z σ σ (some (.long r)) := by
  rw [fX1_familiesFrom] at hf
  refine Met.ofW (cc := cX1_familiesFrom) (maxL := 4) (ret := (some .long)) (by decide) rfl ?_
  intro p e s m args below meth c s₁ B hml hv
  obtain ⟨rfl, hP, hK, hE⟩ := hv
  have hx := B.exec
  have hb := B.bytes
  have hr := B.returns
  have hts := atoms_spec (ws := wsX1_familiesFrom) B.pre
  have hown : s.vm.findClass RX1 = some m.cls := findClass_of_methodNamed B.named
  have hlocks := B.notSynchronized
  have in_X1 : ∀ w ∈ wsX10, w ∈ wsX1_familiesFrom := by decide +kernel
  have hS : va_S (aG 40 z) s.heap s.heap [] := va_S.rf
  have hl := lv_entry ([.ref (z.2.1 i), .int a0, .int a1, .int a2]) (n := 4) (Nat.le_of_ble_eq_true rfl)
  rw [lg_entry_eq]
  generalize (lg_sl ([.ref (z.2.1 i), .int a0, .int a1, .int a2]) ++ List.replicate (4 - (lg_sl ([.ref (z.2.1 i), .int a0, .int a1, .int a2])).length) Slot.unset).toArray = ls at hl ⊢
  have hl : lv_has ls 4 [(0, .ref (z.2.1 i)), (1, .int a0), (2, .int a1), (3, .int a2)] := hl
  refine lv_aload_n hx hb dX1_familiesFrom_0 rfl (lv_at hl 0 rfl) ?_
  refine va_get (D := z.1) (ci := 1) (v := .ref (z.2.1 (i + 1))) (C := RX1) (T := TX1) (N := 7) hx hb hts in_X1 hown hK hP i (wl_at (tal_lt hi) (cX1 hi)) rfl 1 (by decide) (hts (.fieldLink RX1 12 "TillOneOfSort$Tally" "ends" "LTillOneOfSort$Cells;") (by decide +kernel)) (fun _ h9 => h9) rfl dX1_familiesFrom_1 ?_
  refine lv_iload_n hx hb dX1_familiesFrom_4 rfl (lv_at hl 1 rfl) ?_
  refine lv_iload_n hx hb dX1_familiesFrom_5 rfl (lv_at hl 2 rfl) ?_
  refine lv_iload_n hx hb dX1_familiesFrom_6 rfl (lv_at hl 3 rfl) ?_
  obtain ⟨q_1001, hq_1001, hf⟩ := x_bd hf
  refine x_callGl (va_runV (As := [.int a0, .int a1, .int a2]) (rest := []) ⟨hx, hb, hml, hown, hts⟩ (kX0_at l z hz (cel_t hi) hq_1001) (cwV 3 hts gX1_familiesFrom_X0_at rfl rfl rfl (by decide +kernel) ⟨Nat.le_of_ble_eq_true rfl, Nat.le_of_ble_eq_true rfl⟩) (pvG hK hP hE hS (va_recv hK hP (ci := 0) (q0 := (i + 1)) rfl (wl_at (cel_lt (cel_t hi)) (cX0 (cel_t hi))))) rfl rfl hl.1 rfl (lv_room (Nat.le_of_ble_eq_true rfl)) dX1_familiesFrom_7 ⟨Nat.zero_le _, Nat.zero_le _⟩) hS (fun H locs hP hS => ?_)
  exact x_lret hx hb hr hlocks hP hS dX1_familiesFrom_10 (Option.some.inj hf) rfl
set_option maxHeartbeats 40000000 in
set_option maxRecDepth 100000 in
theorem kX1_measured (l : Launch) {a0 : Int32} {a1 : Int32} {a2 : Int32} {a3 : Int32}  {r : Int64} (hf : fX1_measured a0 a1 a2 a3 = some r) : KS l yX1_measured wsX1_measured (0) (0) [.int a0, .int a1, .int a2, .int a3] (some (.long r)) := by
  rw [fX1_measured] at hf
  refine Met.ofW (cc := cX1_measured) (maxL := 5) (ret := (some .long)) (by decide) rfl ?_
  intro p e s m args below meth c s₁ B hml hv
  obtain ⟨rfl, -⟩ := hv
  have hx := B.exec
  have hb := B.bytes
  have hr := B.returns
  have hts := atoms_spec (ws := wsX1_measured) B.pre
  have hown : s.vm.findClass RX1 = some m.cls := findClass_of_methodNamed B.named
  have hlocks := B.notSynchronized
  have hl := lv_entry ([.int a0, .int a1, .int a2, .int a3]) (n := 5) (Nat.le_of_ble_eq_true rfl)
  rw [lg_entry_eq]
  generalize (lg_sl ([.int a0, .int a1, .int a2, .int a3]) ++ List.replicate (5 - (lg_sl ([.int a0, .int a1, .int a2, .int a3])).length) Slot.unset).toArray = ls at hl ⊢
  have hl : lv_has ls 5 [(0, .int a0), (1, .int a1), (2, .int a2), (3, .int a3)] := hl
  refine lv_iload_n hx hb dX1_measured_0 rfl (lv_at hl 2 rfl) ?_
  refine lv_iload_n hx hb dX1_measured_1 rfl (lv_at hl 3 rfl) ?_
  refine lv_iadd hx hb dX1_measured_2 ?_
  refine lv_istore (lv' := [(4, .int (a2 + a3)), (0, .int a0), (1, .int a1), (2, .int a2), (3, .int a3)]) hx hb dX1_measured_3 hl (by decide) rfl (fun ls hl => ?_)
  refine lv_iload_n hx hb dX1_measured_5 rfl (lv_at hl 1 rfl) ?_
  by_cases c_1001 : a0 = (0 : Int32)
  · have hf := (if_pos c_1001).symm.trans hf
    refine lv_tableIn (off := 58) (tgt := 64) hx hb dX1_measured_6 (by rw [c_1001]; decide) (by rw [c_1001]; decide) (by rw [c_1001]; rfl) (by decide) ?_
    refine lv_iload hx hb dX1_measured_64 (lv_at hl 0 rfl) ?_
    refine lv_i2l (v := (a2 + a3).toInt64) hx hb dX1_measured_66 rfl ?_
    exact xs_lret hx hb hr hlocks dX1_measured_67 (Option.some.inj hf)
  · have hf := (if_neg c_1001).symm.trans hf
    by_cases c_1002 : a0 = (1 : Int32)
    · have hf := (if_pos c_1002).symm.trans hf
      refine lv_tableIn (off := 62) (tgt := 68) hx hb dX1_measured_6 (by rw [c_1002]; decide) (by rw [c_1002]; decide) (by rw [c_1002]; rfl) (by decide) ?_
      refine lv_iload_n hx hb dX1_measured_68 rfl (lv_at hl 3 rfl) ?_
      refine lv_i2l (v := a2.toInt64) hx hb dX1_measured_69 rfl ?_
      exact xs_lret hx hb hr hlocks dX1_measured_70 (Option.some.inj hf)
    · have hf := (if_neg c_1002).symm.trans hf
      by_cases c_1003 : a0 = (2 : Int32)
      · have hf := (if_pos c_1003).symm.trans hf
        refine lv_tableIn (off := 65) (tgt := 71) hx hb dX1_measured_6 (by rw [c_1003]; decide) (by rw [c_1003]; decide) (by rw [c_1003]; rfl) (by decide) ?_
        refine lv_iload_n hx hb dX1_measured_71 rfl (lv_at hl 4 rfl) ?_
        refine lv_i2l (v := a3.toInt64) hx hb dX1_measured_72 rfl ?_
        exact xs_lret hx hb hr hlocks dX1_measured_73 (Option.some.inj hf)
      · have hf := (if_neg c_1003).symm.trans hf
        by_cases c_1004 : a0 = (3 : Int32)
        · have hf := (if_pos c_1004).symm.trans hf
          refine lv_tableIn (off := 68) (tgt := 74) hx hb dX1_measured_6 (by rw [c_1004]; decide) (by rw [c_1004]; decide) (by rw [c_1004]; rfl) (by decide) ?_
          refine lv_iload_n hx hb dX1_measured_74 rfl (lv_at hl 3 rfl) ?_
          refine lv_iload_n hx hb dX1_measured_75 rfl (lv_at hl 4 rfl) ?_
          refine lv_icmp_le (tgt := 83) hx hb dX1_measured_76 (by decide) (fun c_1020 => ?_) (fun c_1020 => ?_)
          · have hf := (if_pos c_1020).symm.trans hf
            refine lv_lconst (v := (0 : Int64)) hx hb dX1_measured_83 rfl ?_
            exact xs_lret hx hb hr hlocks dX1_measured_84 (Option.some.inj hf)
          · have hf := (if_neg c_1020).symm.trans hf
            refine lv_lconst (v := (1 : Int64)) hx hb dX1_measured_79 rfl ?_
            refine lv_goto (tgt := 84) hx hb dX1_measured_80 (by decide) ?_
            exact xs_lret hx hb hr hlocks dX1_measured_84 (Option.some.inj hf)
        · have hf := (if_neg c_1004).symm.trans hf
          by_cases c_1005 : a0 = (4 : Int32)
          · have hf := (if_pos c_1005).symm.trans hf
            refine lv_tableIn (off := 79) (tgt := 85) hx hb dX1_measured_6 (by rw [c_1005]; decide) (by rw [c_1005]; decide) (by rw [c_1005]; rfl) (by decide) ?_
            refine lv_iload_n hx hb dX1_measured_85 rfl (lv_at hl 3 rfl) ?_
            refine lv_iload_n hx hb dX1_measured_86 rfl (lv_at hl 4 rfl) ?_
            refine lv_icmp_ne (tgt := 94) hx hb dX1_measured_87 (by decide) (fun c_1019 => ?_) (fun c_1019 => ?_)
            · have hf := (if_neg c_1019).symm.trans hf
              refine lv_lconst (v := (0 : Int64)) hx hb dX1_measured_94 rfl ?_
              exact xs_lret hx hb hr hlocks dX1_measured_95 (Option.some.inj hf)
            · have hf := (if_pos c_1019).symm.trans hf
              refine lv_lconst (v := (1 : Int64)) hx hb dX1_measured_90 rfl ?_
              refine lv_goto (tgt := 95) hx hb dX1_measured_91 (by decide) ?_
              exact xs_lret hx hb hr hlocks dX1_measured_95 (Option.some.inj hf)
          · have hf := (if_neg c_1005).symm.trans hf
            by_cases c_1006 : a0 = (5 : Int32)
            · have hf := (if_pos c_1006).symm.trans hf
              refine lv_tableIn (off := 90) (tgt := 96) hx hb dX1_measured_6 (by rw [c_1006]; decide) (by rw [c_1006]; decide) (by rw [c_1006]; rfl) (by decide) ?_
              refine lv_iload_n hx hb dX1_measured_96 rfl (lv_at hl 3 rfl) ?_
              refine lv_iload_n hx hb dX1_measured_97 rfl (lv_at hl 4 rfl) ?_
              refine lv_icmp_ge (tgt := 105) hx hb dX1_measured_98 (by decide) (fun c_1018 => ?_) (fun c_1018 => ?_)
              · have hf := (if_pos c_1018).symm.trans hf
                refine lv_lconst (v := (0 : Int64)) hx hb dX1_measured_105 rfl ?_
                exact xs_lret hx hb hr hlocks dX1_measured_106 (Option.some.inj hf)
              · have hf := (if_neg c_1018).symm.trans hf
                refine lv_lconst (v := (1 : Int64)) hx hb dX1_measured_101 rfl ?_
                refine lv_goto (tgt := 106) hx hb dX1_measured_102 (by decide) ?_
                exact xs_lret hx hb hr hlocks dX1_measured_106 (Option.some.inj hf)
            · have hf := (if_neg c_1006).symm.trans hf
              by_cases c_1007 : a0 = (6 : Int32)
              · have hf := (if_pos c_1007).symm.trans hf
                refine lv_tableIn (off := 101) (tgt := 107) hx hb dX1_measured_6 (by rw [c_1007]; decide) (by rw [c_1007]; decide) (by rw [c_1007]; rfl) (by decide) ?_
                refine lv_iload hx hb dX1_measured_107 (lv_at hl 0 rfl) ?_
                refine lv_if_ne (tgt := 116) hx hb dX1_measured_109 (by decide) (fun c_1016 => ?_) (fun c_1016 => ?_)
                · have hf := (if_neg c_1016).symm.trans hf
                  refine lv_iload_n hx hb dX1_measured_116 rfl (lv_at hl 3 rfl) ?_
                  refine lv_sipush (v := (2520 : Int32)) hx hb dX1_measured_117 (by decide) ?_
                  refine lv_iload hx hb dX1_measured_120 (lv_at hl 0 rfl) ?_
                  obtain ⟨c_1017, hf⟩ := x_ck hf
                  refine lv_idiv hx hb dX1_measured_122 c_1017 ?_
                  refine lv_imul hx hb dX1_measured_123 ?_
                  refine lv_i2l (v := (a2 * ((2520 : Int32) / (a2 + a3))).toInt64) hx hb dX1_measured_124 rfl ?_
                  exact xs_lret hx hb hr hlocks dX1_measured_125 (Option.some.inj hf)
                · have hf := (if_pos c_1016).symm.trans hf
                  refine lv_lconst (v := (0 : Int64)) hx hb dX1_measured_112 rfl ?_
                  refine lv_goto (tgt := 125) hx hb dX1_measured_113 (by decide) ?_
                  exact xs_lret hx hb hr hlocks dX1_measured_125 (Option.some.inj hf)
              · have hf := (if_neg c_1007).symm.trans hf
                by_cases c_1008 : a0 = (7 : Int32)
                · have hf := (if_pos c_1008).symm.trans hf
                  refine lv_tableIn (off := 120) (tgt := 126) hx hb dX1_measured_6 (by rw [c_1008]; decide) (by rw [c_1008]; decide) (by rw [c_1008]; rfl) (by decide) ?_
                  refine lv_iload hx hb dX1_measured_126 (lv_at hl 0 rfl) ?_
                  refine lv_iload_n hx hb dX1_measured_128 rfl (lv_at hl 2 rfl) ?_
                  refine lv_icmp_ne (tgt := 136) hx hb dX1_measured_129 (by decide) (fun c_1015 => ?_) (fun c_1015 => ?_)
                  · have hf := (if_neg c_1015).symm.trans hf
                    refine lv_lconst (v := (0 : Int64)) hx hb dX1_measured_136 rfl ?_
                    exact xs_lret hx hb hr hlocks dX1_measured_137 (Option.some.inj hf)
                  · have hf := (if_pos c_1015).symm.trans hf
                    refine lv_lconst (v := (1 : Int64)) hx hb dX1_measured_132 rfl ?_
                    refine lv_goto (tgt := 137) hx hb dX1_measured_133 (by decide) ?_
                    exact xs_lret hx hb hr hlocks dX1_measured_137 (Option.some.inj hf)
                · have hf := (if_neg c_1008).symm.trans hf
                  by_cases c_1009 : a0 = (8 : Int32)
                  · have hf := (if_pos c_1009).symm.trans hf
                    refine lv_tableIn (off := 132) (tgt := 138) hx hb dX1_measured_6 (by rw [c_1009]; decide) (by rw [c_1009]; decide) (by rw [c_1009]; rfl) (by decide) ?_
                    refine lv_iload_n hx hb dX1_measured_138 rfl (lv_at hl 3 rfl) ?_
                    refine lv_iload_n hx hb dX1_measured_139 rfl (lv_at hl 4 rfl) ?_
                    refine lv_icmp_le (tgt := 149) hx hb dX1_measured_140 (by decide) (fun c_1014 => ?_) (fun c_1014 => ?_)
                    · have hf := (if_pos c_1014).symm.trans hf
                      refine lv_lconst (v := (0 : Int64)) hx hb dX1_measured_149 rfl ?_
                      exact xs_lret hx hb hr hlocks dX1_measured_150 (Option.some.inj hf)
                    · have hf := (if_neg c_1014).symm.trans hf
                      refine lv_iload hx hb dX1_measured_143 (lv_at hl 0 rfl) ?_
                      refine lv_i2l (v := (a2 + a3).toInt64) hx hb dX1_measured_145 rfl ?_
                      refine lv_goto (tgt := 150) hx hb dX1_measured_146 (by decide) ?_
                      exact xs_lret hx hb hr hlocks dX1_measured_150 (Option.some.inj hf)
                  · have hf := (if_neg c_1009).symm.trans hf
                    by_cases c_1010 : a0 = (9 : Int32)
                    · have hf := (if_pos c_1010).symm.trans hf
                      refine lv_tableIn (off := 145) (tgt := 151) hx hb dX1_measured_6 (by rw [c_1010]; decide) (by rw [c_1010]; decide) (by rw [c_1010]; rfl) (by decide) ?_
                      refine lv_iload_n hx hb dX1_measured_151 rfl (lv_at hl 3 rfl) ?_
                      refine lv_iconst (v := (1 : Int32)) hx hb dX1_measured_152 (by decide) ?_
                      refine lv_icmp_le (tgt := 161) hx hb dX1_measured_153 (by decide) (fun c_1013 => ?_) (fun c_1013 => ?_)
                      · have hf := (if_pos c_1013).symm.trans hf
                        refine lv_lconst (v := (0 : Int64)) hx hb dX1_measured_161 rfl ?_
                        exact xs_lret hx hb hr hlocks dX1_measured_162 (Option.some.inj hf)
                      · have hf := (if_neg c_1013).symm.trans hf
                        refine lv_iload_n hx hb dX1_measured_156 rfl (lv_at hl 3 rfl) ?_
                        refine lv_i2l (v := a2.toInt64) hx hb dX1_measured_157 rfl ?_
                        refine lv_goto (tgt := 162) hx hb dX1_measured_158 (by decide) ?_
                        exact xs_lret hx hb hr hlocks dX1_measured_162 (Option.some.inj hf)
                    · have hf := (if_neg c_1010).symm.trans hf
                      by_cases c_1011 : a0 = (10 : Int32)
                      · have hf := (if_pos c_1011).symm.trans hf
                        refine lv_tableIn (off := 157) (tgt := 163) hx hb dX1_measured_6 (by rw [c_1011]; decide) (by rw [c_1011]; decide) (by rw [c_1011]; rfl) (by decide) ?_
                        refine lv_iload_n hx hb dX1_measured_163 rfl (lv_at hl 3 rfl) ?_
                        refine lv_iload_n hx hb dX1_measured_164 rfl (lv_at hl 4 rfl) ?_
                        refine lv_isub hx hb dX1_measured_165 ?_
                        refine lv_iload_n hx hb dX1_measured_166 rfl (lv_at hl 2 rfl) ?_
                        refine lv_icmp_ne (tgt := 174) hx hb dX1_measured_167 (by decide) (fun c_1012 => ?_) (fun c_1012 => ?_)
                        · have hf := (if_neg c_1012).symm.trans hf
                          refine lv_lconst (v := (0 : Int64)) hx hb dX1_measured_174 rfl ?_
                          exact xs_lret hx hb hr hlocks dX1_measured_175 (Option.some.inj hf)
                        · have hf := (if_pos c_1012).symm.trans hf
                          refine lv_lconst (v := (1 : Int64)) hx hb dX1_measured_170 rfl ?_
                          refine lv_goto (tgt := 175) hx hb dX1_measured_171 (by decide) ?_
                          exact xs_lret hx hb hr hlocks dX1_measured_175 (Option.some.inj hf)
                      · have hf := (if_neg c_1011).symm.trans hf
                        refine x_tableD (tgt := 176) hx hb dX1_measured_6 (fun k h1 h2 => ?_) (by decide) ?_
                        · rcases (show k = 0 ∨ k = 1 ∨ k = 2 ∨ k = 3 ∨ k = 4 ∨ k = 5 ∨ k = 6 ∨ k = 7 ∨ k = 8 ∨ k = 9 ∨ k = 10 by omega) with rfl | rfl | rfl | rfl | rfl | rfl | rfl | rfl | rfl | rfl | rfl
                          · exact Or.inl (x_ne c_1001 (by decide))
                          · exact Or.inl (x_ne c_1002 (by decide))
                          · exact Or.inl (x_ne c_1003 (by decide))
                          · exact Or.inl (x_ne c_1004 (by decide))
                          · exact Or.inl (x_ne c_1005 (by decide))
                          · exact Or.inl (x_ne c_1006 (by decide))
                          · exact Or.inl (x_ne c_1007 (by decide))
                          · exact Or.inl (x_ne c_1008 (by decide))
                          · exact Or.inl (x_ne c_1009 (by decide))
                          · exact Or.inl (x_ne c_1010 (by decide))
                          · exact Or.inl (x_ne c_1011 (by decide))
                        · refine lv_lconst (v := (0 : Int64)) hx hb dX1_measured_176 rfl ?_
                          exact xs_lret hx hb hr hlocks dX1_measured_177 (Option.some.inj hf)
set_option maxHeartbeats 40000000 in
set_option maxRecDepth 100000 in
theorem kX1_sum (l : Launch) (z : Cx) (hz : okC 40 z) {i : Nat} {a0 : Int32} {a1 : Int32} (hi : isTal i = true) {σ : Mm} {r : Int64} (hf : fX1_sum i a0 a1 σ = some r) : KG 40 ceX l yX1_sum wsX1_sum (3) (68) [.ref (z.2.1 i), .int a0, .int a1] z σ σ (some (.long r)) := by
  rw [fX1_sum] at hf
  refine Met.ofW (cc := cX1_sum) (maxL := 9) (ret := (some .long)) (by decide) rfl ?_
  intro p e s m args below meth c s₁ B hml hv
  obtain ⟨rfl, hP, hK, hE⟩ := hv
  have hx := B.exec
  have hb := B.bytes
  have hr := B.returns
  have hts := atoms_spec (ws := wsX1_sum) B.pre
  have hown : s.vm.findClass RX1 = some m.cls := findClass_of_methodNamed B.named
  have hlocks := B.notSynchronized
  have in_X1 : ∀ w ∈ wsX10, w ∈ wsX1_sum := by decide +kernel
  have hS : va_S (aG 40 z) s.heap s.heap [] := va_S.rf
  have hl := lv_entry ([.ref (z.2.1 i), .int a0, .int a1]) (n := 9) (Nat.le_of_ble_eq_true rfl)
  rw [lg_entry_eq]
  generalize (lg_sl ([.ref (z.2.1 i), .int a0, .int a1]) ++ List.replicate (9 - (lg_sl ([.ref (z.2.1 i), .int a0, .int a1])).length) Slot.unset).toArray = ls at hl ⊢
  have hl : lv_has ls 9 [(0, .ref (z.2.1 i)), (1, .int a0), (2, .int a1)] := hl
  have L_5 : ∀ (n_5 : Nat) (v1 : Int32) (v2 : Int32) (v3 : Int64) (v5 : Int32) (H : Heap) (locs : List Loc) (ls : Array Slot), va_P z.1 vwCl (wl 40 z.2.1 (ceX z σ)) H → va_S (aG 40 z) s.heap H locs → lv_has ls 9 [(0, .ref (z.2.1 i)), (1, .int v1), (2, .int v2), (3, .long v3), (5, .int v5)] → fX1_sum_5 i σ n_5 v1 v2 v3 v5 = some r → W p l e (headSpec wsX1_sum ({ frames := 3, cells := 0, slots := 0, locals := 68 })).room s m ([.ref (z.2.1 i), .int a0, .int a1] : List Value).toArray below meth c H locs 0 0 (MQ below (qcG 40 ceX z σ (some (.long r))) ([.ref (z.2.1 i), .int a0, .int a1] : List Value).toArray s 0 0 (aG 40 z)) (F0 m 5 ls []) := by
    intro n_5
    induction n_5 with
    | zero =>
      intro v1 v2 v3 v5 H locs ls hP hS hl hf
      rw [fX1_sum_5] at hf
      cases hf
    | succ n_5 ih_5 =>
      have L_17 : ∀ (n_17 : Nat) (v1 : Int32) (v2 : Int32) (v3 : Int64) (v5 : Int32) (v6 : Int32) (H : Heap) (locs : List Loc) (ls : Array Slot), va_P z.1 vwCl (wl 40 z.2.1 (ceX z σ)) H → va_S (aG 40 z) s.heap H locs → lv_has ls 9 [(0, .ref (z.2.1 i)), (1, .int v1), (2, .int v2), (3, .long v3), (5, .int v5), (6, .int v6)] → fX1_sum_17 i σ (fun wv1 wv2 wv3 wv5 => fX1_sum_5 i σ n_5 wv1 wv2 wv3 wv5) n_17 v1 v2 v3 v5 v6 = some r → W p l e (headSpec wsX1_sum ({ frames := 3, cells := 0, slots := 0, locals := 68 })).room s m ([.ref (z.2.1 i), .int a0, .int a1] : List Value).toArray below meth c H locs 0 0 (MQ below (qcG 40 ceX z σ (some (.long r))) ([.ref (z.2.1 i), .int a0, .int a1] : List Value).toArray s 0 0 (aG 40 z)) (F0 m 17 ls []) := by
        intro n_17
        induction n_17 with
        | zero =>
          intro v1 v2 v3 v5 v6 H locs ls hP hS hl hf
          rw [fX1_sum_17] at hf
          cases hf
        | succ n_17 ih_17 =>
          have j_61 : ∀ (v1 : Int32) (v2 : Int32) (v3 : Int64) (v5 : Int32) (v6 : Int32) (H : Heap) (locs : List Loc) (ls : Array Slot), va_P z.1 vwCl (wl 40 z.2.1 (ceX z σ)) H → va_S (aG 40 z) s.heap H locs → lv_has ls 9 [(0, .ref (z.2.1 i)), (1, .int v1), (2, .int v2), (3, .long v3), (5, .int v5), (6, .int v6)] → fX1_sum_61 i σ (fun wv1 wv2 wv3 wv5 => fX1_sum_5 i σ n_5 wv1 wv2 wv3 wv5) (fun wv1 wv2 wv3 wv5 wv6 => fX1_sum_17 i σ (fun wv1 wv2 wv3 wv5 => fX1_sum_5 i σ n_5 wv1 wv2 wv3 wv5) n_17 wv1 wv2 wv3 wv5 wv6) v1 v2 v3 v5 v6 = some r → W p l e (headSpec wsX1_sum ({ frames := 3, cells := 0, slots := 0, locals := 68 })).room s m ([.ref (z.2.1 i), .int a0, .int a1] : List Value).toArray below meth c H locs 0 0 (MQ below (qcG 40 ceX z σ (some (.long r))) ([.ref (z.2.1 i), .int a0, .int a1] : List Value).toArray s 0 0 (aG 40 z)) (F0 m 61 ls []) := by
            intro v1 v2 v3 v5 v6 H locs ls hP hS hl hf
            rw [fX1_sum_61] at hf
            refine lv_iinc (v := (v6 + (1 : Int32))) (lv' := [(6, .int (v6 + (1 : Int32))), (0, .ref (z.2.1 i)), (1, .int v1), (2, .int v2), (3, .long v3), (5, .int v5)]) hx hb dX1_sum_61 hl (k := 5) rfl rfl (by decide) rfl (fun ls hl => ?_)
            refine lv_goto (tgt := 17) hx hb dX1_sum_64 (by decide) ?_
            exact ih_17 v1 v2 v3 v5 (v6 + (1 : Int32)) _ _ _ hP hS (lv_sub hl [1, 2, 3, 4, 5, 0] rfl) hf
          intro v1 v2 v3 v5 v6 H locs ls hP hS hl hf
          rw [fX1_sum_17] at hf
          refine lv_iload hx hb dX1_sum_17 (lv_at hl 5 rfl) ?_
          refine lv_aload_n hx hb dX1_sum_19 rfl (lv_at hl 0 rfl) ?_
          refine va_get (D := z.1) (ci := 1) (v := .int (gI σ i 4)) (C := RX1) (T := TX1) (N := 7) hx hb hts in_X1 hown hK hP i (wl_at (tal_lt hi) (cX1 hi)) rfl 4 (by decide) (hts (.fieldLink RX1 29 "TillOneOfSort$Tally" "most" "I") (by decide +kernel)) (fun _ h9 => h9) rfl dX1_sum_20 ?_
          refine lv_iload hx hb dX1_sum_23 (lv_at hl 4 rfl) ?_
          refine lv_isub hx hb dX1_sum_25 ?_
          refine lv_icmp_gt (tgt := 67) hx hb dX1_sum_26 (by decide) (fun c_2 => ?_) (fun c_2 => ?_)
          · have hf := (if_pos c_2).symm.trans hf
            refine lv_iinc (v := (v5 + (1 : Int32))) (lv' := [(5, .int (v5 + (1 : Int32))), (0, .ref (z.2.1 i)), (1, .int v1), (2, .int v2), (3, .long v3), (6, .int v6)]) hx hb dX1_sum_67 hl (k := 4) rfl rfl (by decide) rfl (fun ls hl => ?_)
            refine lv_goto (tgt := 5) hx hb dX1_sum_70 (by decide) ?_
            exact ih_5 v1 v2 v3 (v5 + (1 : Int32)) _ _ _ hP hS (lv_sub hl [1, 2, 3, 4, 0] rfl) hf
          · have hf := (if_neg c_2).symm.trans hf
            refine lv_aload_n hx hb dX1_sum_29 rfl (lv_at hl 0 rfl) ?_
            refine lv_iload hx hb dX1_sum_30 (lv_at hl 4 rfl) ?_
            refine lv_iload hx hb dX1_sum_32 (lv_at hl 5 rfl) ?_
            obtain ⟨q_3, hq_3, hf⟩ := x_bd hf
            refine x_callGl (va_runV (As := [.int v5, .int v6]) (rest := []) ⟨hx, hb, hml, hown, hts⟩ (kX1_families l z hz hi hq_3) (cwV 2 hts gX1_sum_X1_families rfl rfl rfl (by decide +kernel) ⟨Nat.le_of_ble_eq_true rfl, Nat.le_of_ble_eq_true rfl⟩) (pvG hK hP hE hS (va_recv hK hP (ci := 1) (q0 := i) rfl (wl_at (tal_lt hi) (cX1 hi)))) rfl rfl hl.1 rfl (lv_room (Nat.le_of_ble_eq_true rfl)) dX1_sum_34 ⟨Nat.zero_le _, Nat.zero_le _⟩) hS (fun H locs hP hS => ?_)
            refine lv_lstore (lv' := [(7, .long q_3), (0, .ref (z.2.1 i)), (1, .int v1), (2, .int v2), (3, .long v3), (5, .int v5), (6, .int v6)]) hx hb dX1_sum_37 hl (by decide) rfl (fun ls hl => ?_)
            refine lv_lload hx hb dX1_sum_39 (lv_at hl 0 rfl) ?_
            refine lv_lconst (v := (0 : Int64)) hx hb dX1_sum_41 rfl ?_
            refine W.lcmp hx hb dX1_sum_42 ?_
            refine lv_if_eq (tgt := 61) hx hb dX1_sum_43 (by decide) (fun c_4 => ?_) (fun c_4 => ?_)
            · have hf := (if_pos c_4).symm.trans hf
              exact j_61 v1 v2 v3 v5 v6 _ _ _ hP hS (lv_sub hl [1, 2, 3, 4, 5, 6] rfl) hf
            · have hf := (if_neg c_4).symm.trans hf
              refine lv_lload_n hx hb dX1_sum_46 rfl (lv_at hl 4 rfl) ?_
              refine lv_lload hx hb dX1_sum_47 (lv_at hl 0 rfl) ?_
              refine lv_iload_n hx hb dX1_sum_49 rfl (lv_at hl 2 rfl) ?_
              refine lv_iload_n hx hb dX1_sum_50 rfl (lv_at hl 3 rfl) ?_
              refine lv_iload hx hb dX1_sum_51 (lv_at hl 5 rfl) ?_
              refine lv_iload hx hb dX1_sum_53 (lv_at hl 6 rfl) ?_
              obtain ⟨q_5, hq_5, hf⟩ := x_bd hf
              refine x_callSl (va_runS (As := [.int v1, .int v2, .int v5, .int v6]) (rest := [.long q_3, .long v3]) ⟨hx, hb, hml, hown, hts⟩ (kX1_measured l hq_5) (va_cwS 4 hts gX1_sum_X1_measured rfl rfl rfl (by decide +kernel) ⟨Nat.le_of_ble_eq_true rfl, Nat.le_of_ble_eq_true rfl⟩) psS rfl rfl hl.1 rfl (lv_room (Nat.le_of_ble_eq_true rfl)) dX1_sum_55 ⟨Nat.zero_le _, Nat.zero_le _⟩) ?_
              refine lv_lmul hx hb dX1_sum_58 ?_
              refine lv_ladd hx hb dX1_sum_59 ?_
              refine lv_lstore_n (lv' := [(3, .long (v3 + (q_3 * q_5))), (7, .long q_3), (0, .ref (z.2.1 i)), (1, .int v1), (2, .int v2), (5, .int v5), (6, .int v6)]) hx hb dX1_sum_60 rfl hl (by decide) rfl (fun ls hl => ?_)
              exact j_61 v1 v2 (v3 + (q_3 * q_5)) v5 v6 _ _ _ hP hS (lv_sub hl [2, 3, 4, 0, 5, 6] rfl) hf
      intro v1 v2 v3 v5 H locs ls hP hS hl hf
      rw [fX1_sum_5] at hf
      refine lv_iload hx hb dX1_sum_5 (lv_at hl 4 rfl) ?_
      refine lv_aload_n hx hb dX1_sum_7 rfl (lv_at hl 0 rfl) ?_
      refine va_get (D := z.1) (ci := 1) (v := .int (gI σ i 4)) (C := RX1) (T := TX1) (N := 7) hx hb hts in_X1 hown hK hP i (wl_at (tal_lt hi) (cX1 hi)) rfl 4 (by decide) (hts (.fieldLink RX1 29 "TillOneOfSort$Tally" "most" "I") (by decide +kernel)) (fun _ h9 => h9) rfl dX1_sum_8 ?_
      refine lv_icmp_gt (tgt := 73) hx hb dX1_sum_11 (by decide) (fun c_1 => ?_) (fun c_1 => ?_)
      · have hf := (if_pos c_1).symm.trans hf
        refine lv_lload_n hx hb dX1_sum_73 rfl (lv_at hl 3 rfl) ?_
        exact x_lret hx hb hr hlocks hP hS dX1_sum_74 (Option.some.inj hf) rfl
      · have hf := (if_neg c_1).symm.trans hf
        refine lv_iconst (v := (0 : Int32)) hx hb dX1_sum_14 (by decide) ?_
        refine lv_istore (lv' := [(6, .int (0 : Int32)), (0, .ref (z.2.1 i)), (1, .int v1), (2, .int v2), (3, .long v3), (5, .int v5)]) hx hb dX1_sum_15 hl (by decide) rfl (fun ls hl => ?_)
        exact L_17 1000 v1 v2 v3 v5 (0 : Int32) _ _ _ hP hS (lv_sub hl [1, 2, 3, 4, 5, 0] rfl) hf
  refine lv_lconst (v := (0 : Int64)) hx hb dX1_sum_0 rfl ?_
  refine lv_lstore_n (lv' := [(3, .long (0 : Int64)), (0, .ref (z.2.1 i)), (1, .int a0), (2, .int a1)]) hx hb dX1_sum_1 rfl hl (by decide) rfl (fun ls hl => ?_)
  refine lv_iconst (v := (0 : Int32)) hx hb dX1_sum_2 (by decide) ?_
  refine lv_istore (lv' := [(5, .int (0 : Int32)), (3, .long (0 : Int64)), (0, .ref (z.2.1 i)), (1, .int a0), (2, .int a1)]) hx hb dX1_sum_3 hl (by decide) rfl (fun ls hl => ?_)
  exact L_5 1000 a0 a1 (0 : Int64) (0 : Int32) _ _ _ hP hS (lv_sub hl [2, 3, 4, 1, 0] rfl) hf
set_option maxHeartbeats 40000000 in
set_option maxRecDepth 100000 in
theorem kX2_append (l : Launch) (z : Cx) (hz : okC 40 z) {a0 : Int32}  {σ σ' : Mm} (hf : fX2_append a0 σ = some σ') : KG 40 ceX l yX2_append wsX2_append (0) (0) [.ref (z.2.1 10), .int a0] z σ σ' none := by
  rw [fX2_append] at hf
  refine Met.ofW (cc := cX2_append) (maxL := 2) (ret := none) (by decide) rfl ?_
  intro p e s m args below meth c s₁ B hml hv
  obtain ⟨rfl, hP, hK, hE⟩ := hv
  have hx := B.exec
  have hb := B.bytes
  have hr := B.returns
  have hts := atoms_spec (ws := wsX2_append) B.pre
  have hown : s.vm.findClass RX2 = some m.cls := findClass_of_methodNamed B.named
  have hlocks := B.notSynchronized
  have in_X2 : ∀ w ∈ wsX20, w ∈ wsX2_append := by decide +kernel
  have hS : va_S (aG 40 z) s.heap s.heap [] := va_S.rf
  have hl := lv_entry ([.ref (z.2.1 10), .int a0]) (n := 2) (Nat.le_of_ble_eq_true rfl)
  rw [lg_entry_eq]
  generalize (lg_sl ([.ref (z.2.1 10), .int a0]) ++ List.replicate (2 - (lg_sl ([.ref (z.2.1 10), .int a0])).length) Slot.unset).toArray = ls at hl ⊢
  have hl : lv_has ls 2 [(0, .ref (z.2.1 10)), (1, .int a0)] := hl
  refine lv_aload_n hx hb dX2_append_0 rfl (lv_at hl 0 rfl) ?_
  refine va_get (D := z.1) (ci := 2) (v := .int (gI σ 10 1)) (C := RX2) (T := TX2) (N := 2) hx hb hts in_X2 hown hK hP 10 (wl_at (by decide) cX2) rfl 1 (by decide) (hts (.fieldLink RX2 15 "TillOneOfSort$Text" "length" "I") (by decide +kernel)) (fun _ h9 => h9) rfl dX2_append_1 ?_
  refine lv_if_lt (tgt := 39) hx hb dX2_append_4 (by decide) (fun c_1001 => ?_) (fun c_1001 => ?_)
  · have hf := (if_pos c_1001).symm.trans hf
    exact x_vret hx hb hr hlocks hP hS dX2_append_39 (Option.some.inj hf)
  · have hf := (if_neg c_1001).symm.trans hf
    refine lv_aload_n hx hb dX2_append_7 rfl (lv_at hl 0 rfl) ?_
    refine va_get (D := z.1) (ci := 2) (v := .int (gI σ 10 1)) (C := RX2) (T := TX2) (N := 2) hx hb hts in_X2 hown hK hP 10 (wl_at (by decide) cX2) rfl 1 (by decide) (hts (.fieldLink RX2 15 "TillOneOfSort$Text" "length" "I") (by decide +kernel)) (fun _ h9 => h9) rfl dX2_append_8 ?_
    refine lv_aload_n hx hb dX2_append_11 rfl (lv_at hl 0 rfl) ?_
    refine va_get (D := z.1) (ci := 2) (v := .ref (z.2.1 11)) (C := RX2) (T := TX2) (N := 2) hx hb hts in_X2 hown hK hP 10 (wl_at (by decide) cX2) rfl 0 (by decide) (hts (.fieldLink RX2 9 "TillOneOfSort$Text" "letters" "[I") (by decide +kernel)) (fun _ h9 => h9) rfl dX2_append_12 ?_
    refine va_alen (v := (64 : Int32)) hx hb hK hP 11 0 (wl_at (by decide) cXI64) rfl rfl dX2_append_15 ?_
    refine lv_icmp_ge (tgt := 39) hx hb dX2_append_16 (by decide) (fun c_1002 => ?_) (fun c_1002 => ?_)
    · have hf := (if_pos c_1002).symm.trans hf
      exact x_vret hx hb hr hlocks hP hS dX2_append_39 (Option.some.inj hf)
    · have hf := (if_neg c_1002).symm.trans hf
      refine lv_aload_n hx hb dX2_append_19 rfl (lv_at hl 0 rfl) ?_
      refine va_get (D := z.1) (ci := 2) (v := .ref (z.2.1 11)) (C := RX2) (T := TX2) (N := 2) hx hb hts in_X2 hown hK hP 10 (wl_at (by decide) cX2) rfl 0 (by decide) (hts (.fieldLink RX2 9 "TillOneOfSort$Text" "letters" "[I") (by decide +kernel)) (fun _ h9 => h9) rfl dX2_append_20 ?_
      refine lv_aload_n hx hb dX2_append_23 rfl (lv_at hl 0 rfl) ?_
      refine va_get (D := z.1) (ci := 2) (v := .int (gI σ 10 1)) (C := RX2) (T := TX2) (N := 2) hx hb hts in_X2 hown hK hP 10 (wl_at (by decide) cX2) rfl 1 (by decide) (hts (.fieldLink RX2 15 "TillOneOfSort$Text" "length" "I") (by decide +kernel)) (fun _ h9 => h9) rfl dX2_append_24 ?_
      refine lv_iload_n hx hb dX2_append_27 rfl (lv_at hl 1 rfl) ?_
      obtain ⟨c_1003, hf⟩ := x_ck hf
      refine va_iast hx hb hK hP (wl_D hz _) hS 11 0 (wl_at (by decide) cXI64) rfl (ci_in c_1003) dX2_append_28 (fun H locs hP _ hS => ?_)
      rw [sXI64] at hP
      refine lv_aload_n hx hb dX2_append_29 rfl (lv_at hl 0 rfl) ?_
      refine lv_dup hx hb dX2_append_30 rfl ?_
      refine va_get (D := z.1) (ci := 2) (v := .int (gI (pI σ 11 (gI σ 10 1).toNatClampNeg a0) 10 1)) (C := RX2) (T := TX2) (N := 2) hx hb hts in_X2 hown hK hP 10 (wl_at (by decide) cX2) rfl 1 (by decide) (hts (.fieldLink RX2 15 "TillOneOfSort$Text" "length" "I") (by decide +kernel)) (fun _ h9 => h9) rfl dX2_append_31 ?_
      refine lv_iconst (v := (1 : Int32)) hx hb dX2_append_34 (by decide) ?_
      refine lv_iadd hx hb dX2_append_35 ?_
      refine va_put (D := z.1) (ci := 2) (v := .int ((gI (pI σ 11 (gI σ 10 1).toNatClampNeg a0) 10 1) + (1 : Int32))) (ty := .int) (C := RX2) (T := TX2) (N := 2) hx hb hts in_X2 tyX2 tyX2_ok nmX2 hown hK hP (wl_D hz _) hS 10 (wl_at (by decide) cX2) rfl 1 (by decide) (hts (.fieldLink RX2 15 "TillOneOfSort$Text" "length" "I") (by decide +kernel)) (fun _ h9 => h9) rfl (by decide +kernel) rfl rfl (Nat.le_of_ble_eq_true rfl) dX2_append_36 (fun H locs hP _ hS => ?_)
      rw [sX2] at hP
      exact x_vret hx hb hr hlocks hP hS dX2_append_39 (Option.some.inj hf)
set_option maxHeartbeats 40000000 in
set_option maxRecDepth 100000 in
theorem kX2_at (l : Launch) (z : Cx) (hz : okC 40 z) {a0 : Int32}  {σ : Mm} {r : Int32} (hf : fX2_at a0 σ = some r) : KG 40 ceX l yX2_at wsX2_at (0) (0) [.ref (z.2.1 10), .int a0] z σ σ (some (.int r)) := by
  rw [fX2_at] at hf
  refine Met.ofW (cc := cX2_at) (maxL := 2) (ret := (some .int)) (by decide) rfl ?_
  intro p e s m args below meth c s₁ B hml hv
  obtain ⟨rfl, hP, hK, hE⟩ := hv
  have hx := B.exec
  have hb := B.bytes
  have hr := B.returns
  have hts := atoms_spec (ws := wsX2_at) B.pre
  have hown : s.vm.findClass RX2 = some m.cls := findClass_of_methodNamed B.named
  have hlocks := B.notSynchronized
  have in_X2 : ∀ w ∈ wsX20, w ∈ wsX2_at := by decide +kernel
  have hS : va_S (aG 40 z) s.heap s.heap [] := va_S.rf
  have hl := lv_entry ([.ref (z.2.1 10), .int a0]) (n := 2) (Nat.le_of_ble_eq_true rfl)
  rw [lg_entry_eq]
  generalize (lg_sl ([.ref (z.2.1 10), .int a0]) ++ List.replicate (2 - (lg_sl ([.ref (z.2.1 10), .int a0])).length) Slot.unset).toArray = ls at hl ⊢
  have hl : lv_has ls 2 [(0, .ref (z.2.1 10)), (1, .int a0)] := hl
  refine lv_iload_n hx hb dX2_at_0 rfl (lv_at hl 1 rfl) ?_
  refine lv_if_lt (tgt := 30) hx hb dX2_at_1 (by decide) (fun c_1001 => ?_) (fun c_1001 => ?_)
  · have hf := (if_pos c_1001).symm.trans hf
    refine lv_iconst (v := (-1 : Int32)) hx hb dX2_at_30 (by decide) ?_
    exact x_iret hx hb hr hlocks hP hS dX2_at_31 (Option.some.inj hf) rfl
  · have hf := (if_neg c_1001).symm.trans hf
    refine lv_iload_n hx hb dX2_at_4 rfl (lv_at hl 1 rfl) ?_
    refine lv_aload_n hx hb dX2_at_5 rfl (lv_at hl 0 rfl) ?_
    refine va_get (D := z.1) (ci := 2) (v := .int (gI σ 10 1)) (C := RX2) (T := TX2) (N := 2) hx hb hts in_X2 hown hK hP 10 (wl_at (by decide) cX2) rfl 1 (by decide) (hts (.fieldLink RX2 15 "TillOneOfSort$Text" "length" "I") (by decide +kernel)) (fun _ h9 => h9) rfl dX2_at_6 ?_
    refine lv_icmp_ge (tgt := 30) hx hb dX2_at_9 (by decide) (fun c_1002 => ?_) (fun c_1002 => ?_)
    · have hf := (if_pos c_1002).symm.trans hf
      refine lv_iconst (v := (-1 : Int32)) hx hb dX2_at_30 (by decide) ?_
      exact x_iret hx hb hr hlocks hP hS dX2_at_31 (Option.some.inj hf) rfl
    · have hf := (if_neg c_1002).symm.trans hf
      refine lv_iload_n hx hb dX2_at_12 rfl (lv_at hl 1 rfl) ?_
      refine lv_aload_n hx hb dX2_at_13 rfl (lv_at hl 0 rfl) ?_
      refine va_get (D := z.1) (ci := 2) (v := .ref (z.2.1 11)) (C := RX2) (T := TX2) (N := 2) hx hb hts in_X2 hown hK hP 10 (wl_at (by decide) cX2) rfl 0 (by decide) (hts (.fieldLink RX2 9 "TillOneOfSort$Text" "letters" "[I") (by decide +kernel)) (fun _ h9 => h9) rfl dX2_at_14 ?_
      refine va_alen (v := (64 : Int32)) hx hb hK hP 11 0 (wl_at (by decide) cXI64) rfl rfl dX2_at_17 ?_
      refine lv_icmp_ge (tgt := 30) hx hb dX2_at_18 (by decide) (fun c_1003 => ?_) (fun c_1003 => ?_)
      · have hf := (if_pos c_1003).symm.trans hf
        refine lv_iconst (v := (-1 : Int32)) hx hb dX2_at_30 (by decide) ?_
        exact x_iret hx hb hr hlocks hP hS dX2_at_31 (Option.some.inj hf) rfl
      · have hf := (if_neg c_1003).symm.trans hf
        refine lv_aload_n hx hb dX2_at_21 rfl (lv_at hl 0 rfl) ?_
        refine va_get (D := z.1) (ci := 2) (v := .ref (z.2.1 11)) (C := RX2) (T := TX2) (N := 2) hx hb hts in_X2 hown hK hP 10 (wl_at (by decide) cX2) rfl 0 (by decide) (hts (.fieldLink RX2 9 "TillOneOfSort$Text" "letters" "[I") (by decide +kernel)) (fun _ h9 => h9) rfl dX2_at_22 ?_
        refine lv_iload_n hx hb dX2_at_25 rfl (lv_at hl 1 rfl) ?_
        obtain ⟨c_1004, hf⟩ := x_ck hf
        refine va_iald hx hb hK hP 11 0 (wl_at (by decide) cXI64) rfl (ci_in c_1004) dX2_at_26 ?_
        refine lv_goto (tgt := 31) hx hb dX2_at_27 (by decide) ?_
        exact x_iret hx hb hr hlocks hP hS dX2_at_31 (Option.some.inj hf) rfl
set_option maxHeartbeats 40000000 in
set_option maxRecDepth 100000 in
theorem kX2_endOfDigits (l : Launch) (z : Cx) (hz : okC 40 z) {a0 : Int32} {a1 : Int32} {a2 : Int32}  {σ : Mm} {r : Int32} (hf : fX2_endOfDigits a0 a1 a2 σ = some r) : KG 40 ceX l yX2_endOfDigits wsX2_endOfDigits (1) (21) [.ref (z.2.1 10), .int a0, .int a1, .int a2] z σ σ (some (.int r)) := by
  rw [fX2_endOfDigits] at hf
  refine Met.ofW (cc := cX2_endOfDigits) (maxL := 5) (ret := (some .int)) (by decide) rfl ?_
  intro p e s m args below meth c s₁ B hml hv
  obtain ⟨rfl, hP, hK, hE⟩ := hv
  have hx := B.exec
  have hb := B.bytes
  have hr := B.returns
  have hts := atoms_spec (ws := wsX2_endOfDigits) B.pre
  have hown : s.vm.findClass RX2 = some m.cls := findClass_of_methodNamed B.named
  have hlocks := B.notSynchronized
  have hS : va_S (aG 40 z) s.heap s.heap [] := va_S.rf
  have hl := lv_entry ([.ref (z.2.1 10), .int a0, .int a1, .int a2]) (n := 5) (Nat.le_of_ble_eq_true rfl)
  rw [lg_entry_eq]
  generalize (lg_sl ([.ref (z.2.1 10), .int a0, .int a1, .int a2]) ++ List.replicate (5 - (lg_sl ([.ref (z.2.1 10), .int a0, .int a1, .int a2])).length) Slot.unset).toArray = ls at hl ⊢
  have hl : lv_has ls 5 [(0, .ref (z.2.1 10)), (1, .int a0), (2, .int a1), (3, .int a2)] := hl
  have j_38 : ∀ (v1 : Int32) (v4 : Int32) (H : Heap) (locs : List Loc) (ls : Array Slot), va_P z.1 vwCl (wl 40 z.2.1 (ceX z σ)) H → va_S (aG 40 z) s.heap H locs → lv_has ls 5 [(1, .int v1), (4, .int v4)] → fX2_endOfDigits_38 σ v1 v4 = some r → W p l e (headSpec wsX2_endOfDigits ({ frames := 1, cells := 0, slots := 0, locals := 21 })).room s m ([.ref (z.2.1 10), .int a0, .int a1, .int a2] : List Value).toArray below meth c H locs 0 0 (MQ below (qcG 40 ceX z σ (some (.int r))) ([.ref (z.2.1 10), .int a0, .int a1, .int a2] : List Value).toArray s 0 0 (aG 40 z)) (F0 m 38 ls []) := by
    intro v1 v4 H locs ls hP hS hl hf
    rw [fX2_endOfDigits_38] at hf
    refine lv_iload hx hb dX2_endOfDigits_38 (lv_at hl 1 rfl) ?_
    refine lv_iload_n hx hb dX2_endOfDigits_40 rfl (lv_at hl 0 rfl) ?_
    refine lv_icmp_ne (tgt := 50) hx hb dX2_endOfDigits_41 (by decide) (fun c_1 => ?_) (fun c_1 => ?_)
    · have hf := (if_neg c_1).symm.trans hf
      refine lv_iload hx hb dX2_endOfDigits_50 (lv_at hl 1 rfl) ?_
      exact x_iret hx hb hr hlocks hP hS dX2_endOfDigits_52 (Option.some.inj hf) rfl
    · have hf := (if_pos c_1).symm.trans hf
      refine lv_iconst (v := (-1 : Int32)) hx hb dX2_endOfDigits_44 (by decide) ?_
      refine lv_iload_n hx hb dX2_endOfDigits_45 rfl (lv_at hl 0 rfl) ?_
      refine lv_isub hx hb dX2_endOfDigits_46 ?_
      refine lv_goto (tgt := 52) hx hb dX2_endOfDigits_47 (by decide) ?_
      exact x_iret hx hb hr hlocks hP hS dX2_endOfDigits_52 (Option.some.inj hf) rfl
  have L_3 : ∀ (n_3 : Nat) (v1 : Int32) (v2 : Int32) (v3 : Int32) (v4 : Int32) (H : Heap) (locs : List Loc) (ls : Array Slot), va_P z.1 vwCl (wl 40 z.2.1 (ceX z σ)) H → va_S (aG 40 z) s.heap H locs → lv_has ls 5 [(0, .ref (z.2.1 10)), (1, .int v1), (2, .int v2), (3, .int v3), (4, .int v4)] → fX2_endOfDigits_3 σ n_3 v1 v2 v3 v4 = some r → W p l e (headSpec wsX2_endOfDigits ({ frames := 1, cells := 0, slots := 0, locals := 21 })).room s m ([.ref (z.2.1 10), .int a0, .int a1, .int a2] : List Value).toArray below meth c H locs 0 0 (MQ below (qcG 40 ceX z σ (some (.int r))) ([.ref (z.2.1 10), .int a0, .int a1, .int a2] : List Value).toArray s 0 0 (aG 40 z)) (F0 m 3 ls []) := by
    intro n_3
    induction n_3 with
    | zero =>
      intro v1 v2 v3 v4 H locs ls hP hS hl hf
      rw [fX2_endOfDigits_3] at hf
      cases hf
    | succ n_3 ih_3 =>
      intro v1 v2 v3 v4 H locs ls hP hS hl hf
      rw [fX2_endOfDigits_3] at hf
      refine lv_iload hx hb dX2_endOfDigits_3 (lv_at hl 4 rfl) ?_
      refine lv_iload_n hx hb dX2_endOfDigits_5 rfl (lv_at hl 1 rfl) ?_
      refine lv_isub hx hb dX2_endOfDigits_6 ?_
      refine lv_iload_n hx hb dX2_endOfDigits_7 rfl (lv_at hl 3 rfl) ?_
      refine lv_icmp_ge (tgt := 38) hx hb dX2_endOfDigits_8 (by decide) (fun c_2 => ?_) (fun c_2 => ?_)
      · have hf := (if_pos c_2).symm.trans hf
        exact j_38 v1 v4 _ _ _ hP hS (lv_sub hl [1, 4] rfl) hf
      · have hf := (if_neg c_2).symm.trans hf
        refine lv_aload_n hx hb dX2_endOfDigits_11 rfl (lv_at hl 0 rfl) ?_
        refine lv_iload hx hb dX2_endOfDigits_12 (lv_at hl 4 rfl) ?_
        obtain ⟨q_3, hq_3, hf⟩ := x_bd hf
        refine x_callGi (va_runV (As := [.int v4]) (rest := []) ⟨hx, hb, hml, hown, hts⟩ (kX2_at l z hz hq_3) (cwV 1 hts gX2_endOfDigits_X2_at rfl rfl rfl (by decide +kernel) ⟨Nat.le_of_ble_eq_true rfl, Nat.le_of_ble_eq_true rfl⟩) (pvG hK hP hE hS (va_recv hK hP (ci := 2) (q0 := 10) rfl (wl_at (by decide) cX2))) rfl rfl hl.1 rfl (lv_room (Nat.le_of_ble_eq_true rfl)) dX2_endOfDigits_14 ⟨Nat.zero_le _, Nat.zero_le _⟩) hS (fun H locs hP hS => ?_)
        refine lv_bipush (v := (48 : Int32)) hx hb dX2_endOfDigits_17 (by decide) ?_
        refine lv_icmp_lt (tgt := 38) hx hb dX2_endOfDigits_19 (by decide) (fun c_4 => ?_) (fun c_4 => ?_)
        · have hf := (if_pos c_4).symm.trans hf
          exact j_38 v1 v4 _ _ _ hP hS (lv_sub hl [1, 4] rfl) hf
        · have hf := (if_neg c_4).symm.trans hf
          refine lv_aload_n hx hb dX2_endOfDigits_22 rfl (lv_at hl 0 rfl) ?_
          refine lv_iload hx hb dX2_endOfDigits_23 (lv_at hl 4 rfl) ?_
          obtain ⟨q_5, hq_5, hf⟩ := x_bd hf
          refine x_callGi (va_runV (As := [.int v4]) (rest := []) ⟨hx, hb, hml, hown, hts⟩ (kX2_at l z hz hq_5) (cwV 1 hts gX2_endOfDigits_X2_at rfl rfl rfl (by decide +kernel) ⟨Nat.le_of_ble_eq_true rfl, Nat.le_of_ble_eq_true rfl⟩) (pvG hK hP hE hS (va_recv hK hP (ci := 2) (q0 := 10) rfl (wl_at (by decide) cX2))) rfl rfl hl.1 rfl (lv_room (Nat.le_of_ble_eq_true rfl)) dX2_endOfDigits_25 ⟨Nat.zero_le _, Nat.zero_le _⟩) hS (fun H locs hP hS => ?_)
          refine lv_iload_n hx hb dX2_endOfDigits_28 rfl (lv_at hl 2 rfl) ?_
          refine lv_icmp_gt (tgt := 38) hx hb dX2_endOfDigits_29 (by decide) (fun c_6 => ?_) (fun c_6 => ?_)
          · have hf := (if_pos c_6).symm.trans hf
            exact j_38 v1 v4 _ _ _ hP hS (lv_sub hl [1, 4] rfl) hf
          · have hf := (if_neg c_6).symm.trans hf
            refine lv_iinc (v := (v4 + (1 : Int32))) (lv' := [(4, .int (v4 + (1 : Int32))), (0, .ref (z.2.1 10)), (1, .int v1), (2, .int v2), (3, .int v3)]) hx hb dX2_endOfDigits_32 hl (k := 4) rfl rfl (by decide) rfl (fun ls hl => ?_)
            refine lv_goto (tgt := 3) hx hb dX2_endOfDigits_35 (by decide) ?_
            exact ih_3 v1 v2 v3 (v4 + (1 : Int32)) _ _ _ hP hS (lv_sub hl [1, 2, 3, 4, 0] rfl) hf
  refine lv_iload_n hx hb dX2_endOfDigits_0 rfl (lv_at hl 1 rfl) ?_
  refine lv_istore (lv' := [(4, .int a0), (0, .ref (z.2.1 10)), (1, .int a0), (2, .int a1), (3, .int a2)]) hx hb dX2_endOfDigits_1 hl (by decide) rfl (fun ls hl => ?_)
  exact L_3 1000 a0 a1 a2 a0 _ _ _ hP hS (lv_sub hl [1, 2, 3, 4, 0] rfl) hf
