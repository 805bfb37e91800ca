set_option maxHeartbeats 40000000 in
set_option maxRecDepth 100000 in
theorem kX6_refuse (l : Launch) (z : Cx) (hz : okC 8 z) {a0 : Int32}  {σ σ' : Mm} {r : Int32} (hf : fX6_refuse a0 σ = some (r, σ')) : KG 8 ceM l yX6_refuse wsX6_refuse (0) (0) [.ref (z.2.1 0), .int a0] z σ σ' (some (.int r)) := by
  rw [fX6_refuse] at hf
  refine Met.ofW (cc := cX6_refuse) (maxL := 2) (ret := (some .int)) (by decide) rfl ?_
  intro p e s m args below meth c s₁ B hml hv
  obtain ⟨rfl, hP, hK, hE⟩ := hv
  have hx := B.exec
  have hb := B.bytes
  have hr := B.returns
  have hts := atoms_spec (ws := wsX6_refuse) B.pre
  have hown : s.vm.findClass RX6 = some m.cls := findClass_of_methodNamed B.named
  have hlocks := B.notSynchronized
  have in_X6 : ∀ w ∈ wsX60, w ∈ wsX6_refuse := by decide +kernel
  have hS : va_S (aG 8 z) s.heap s.heap [] := va_S.rf
  have hl := lv_entry ([.ref (z.2.1 0), .int a0]) (n := 2) (Nat.le_of_ble_eq_true rfl)
  rw [lg_entry_eq]
  generalize (lg_sl ([.ref (z.2.1 0), .int a0]) ++ List.replicate (2 - (lg_sl ([.ref (z.2.1 0), .int a0])).length) Slot.unset).toArray = ls at hl ⊢
  have hl : lv_has ls 2 [(0, .ref (z.2.1 0)), (1, .int a0)] := hl
  refine lv_aload_n hx hb dX6_refuse_0 rfl (lv_at hl 0 rfl) ?_
  refine va_get (D := z.1) (ci := 6) (v := .ref (z.2.1 1)) (C := RX6) (T := TX6) (N := 29) hx hb hts in_X6 hown hK hP 0 (wl_at (by decide) cX6) rfl 0 (by decide) (hts (.fieldLink RX6 7 "TillOneOfSortModel" "refusals" "[I") (by decide +kernel)) (fun _ h9 => h9) rfl dX6_refuse_1 ?_
  refine lv_iload_n hx hb dX6_refuse_4 rfl (lv_at hl 1 rfl) ?_
  refine lv_ineg hx hb dX6_refuse_5 ?_
  refine lv_dup2_11 hx hb dX6_refuse_6 rfl rfl ?_
  obtain ⟨c_1001, hf⟩ := x_ck hf
  refine va_iald hx hb hK hP 1 0 (wl_at (by decide) cMI7) rfl (ci_in c_1001) dX6_refuse_7 ?_
  refine lv_iconst (v := (1 : Int32)) hx hb dX6_refuse_8 (by decide) ?_
  refine lv_iadd hx hb dX6_refuse_9 ?_
  obtain ⟨c_1002, hf⟩ := x_ck hf
  refine va_iast hx hb hK hP (wl_D hz _) hS 1 0 (wl_at (by decide) cMI7) rfl (ci_in c_1002) dX6_refuse_10 (fun H locs hP _ hS => ?_)
  rw [sMI7] at hP
  refine lv_iload_n hx hb dX6_refuse_11 rfl (lv_at hl 1 rfl) ?_
  exact x_iret hx hb hr hlocks hP hS dX6_refuse_12 (Prod.mk.inj (Option.some.inj hf)).1 (Prod.mk.inj (Option.some.inj hf)).2
set_option maxHeartbeats 40000000 in
set_option maxRecDepth 100000 in
theorem kX6_refuseWide (l : Launch) (z : Cx) (hz : okC 8 z) {a0 : Int32}  {σ σ' : Mm} {r : Int64} (hf : fX6_refuseWide a0 σ = some (r, σ')) : KG 8 ceM l yX6_refuseWide wsX6_refuseWide (1) (21) [.ref (z.2.1 0), .int a0] z σ σ' (some (.long r)) := by
  rw [fX6_refuseWide] at hf
  refine Met.ofW (cc := cX6_refuseWide) (maxL := 2) (ret := (some .long)) (by decide) rfl ?_
  intro p e s m args below meth c s₁ B hml hv
  obtain ⟨rfl, hP, hK, hE⟩ := hv
  have hx := B.exec
  have hb := B.bytes
  have hr := B.returns
  have hts := atoms_spec (ws := wsX6_refuseWide) B.pre
  have hown : s.vm.findClass RX6 = some m.cls := findClass_of_methodNamed B.named
  have hlocks := B.notSynchronized
  have hS : va_S (aG 8 z) s.heap s.heap [] := va_S.rf
  have hl := lv_entry ([.ref (z.2.1 0), .int a0]) (n := 2) (Nat.le_of_ble_eq_true rfl)
  rw [lg_entry_eq]
  generalize (lg_sl ([.ref (z.2.1 0), .int a0]) ++ List.replicate (2 - (lg_sl ([.ref (z.2.1 0), .int a0])).length) Slot.unset).toArray = ls at hl ⊢
  have hl : lv_has ls 2 [(0, .ref (z.2.1 0)), (1, .int a0)] := hl
  refine lv_ldc2 (v := (4000000000000000000 : Int64)) hx hb hown (hts (.constantLong RX6 32 (4000000000000000000 : Int64)) (by decide +kernel)) dX6_refuseWide_0 ?_
  refine lv_aload_n hx hb dX6_refuseWide_3 rfl (lv_at hl 0 rfl) ?_
  refine lv_iload_n hx hb dX6_refuseWide_4 rfl (lv_at hl 1 rfl) ?_
  obtain ⟨q_1001, hq_1001, hf⟩ := x_bd hf
  refine x_callGi (va_runV (As := [.int a0]) (rest := [.long (4000000000000000000 : Int64)]) ⟨hx, hb, hml, hown, hts⟩ (kX6_refuse l z hz hq_1001) (cwV 1 hts gX6_refuseWide_X6_refuse rfl rfl rfl (by decide +kernel) ⟨Nat.le_of_ble_eq_true rfl, Nat.le_of_ble_eq_true rfl⟩) (pvG hK hP hE hS (va_recv hK hP (ci := 6) (q0 := 0) rfl (wl_at (by decide) cX6))) rfl rfl hl.1 rfl (lv_room (Nat.le_of_ble_eq_true rfl)) dX6_refuseWide_5 ⟨Nat.zero_le _, Nat.zero_le _⟩) hS (fun H locs hP hS => ?_)
  refine lv_i2l (v := q_1001.1.toInt64) hx hb dX6_refuseWide_8 rfl ?_
  refine lv_lsub hx hb dX6_refuseWide_9 ?_
  exact x_lret hx hb hr hlocks hP hS dX6_refuseWide_10 (Prod.mk.inj (Option.some.inj hf)).1 (Prod.mk.inj (Option.some.inj hf)).2
set_option maxHeartbeats 40000000 in
set_option maxRecDepth 100000 in
theorem kX6_isIn (l : Launch) {a0 : Int32} {a1 : Int32}  {r : Int32} (hf : fX6_isIn a0 a1 = some r) : KS l yX6_isIn wsX6_isIn (0) (0) [.int a0, .int a1] (some (.int r)) := by
  rw [fX6_isIn] at hf
  refine Met.ofW (cc := cX6_isIn) (maxL := 2) (ret := (some .boolean)) (by decide) rfl ?_
  intro p e s m args below meth c s₁ B hml hv
  obtain ⟨rfl, -⟩ := hv
  have hx := B.exec
  have hb := B.bytes
  have hr := B.returns
  have hts := atoms_spec (ws := wsX6_isIn) B.pre
  have hown : s.vm.findClass RX6 = some m.cls := findClass_of_methodNamed B.named
  have hlocks := B.notSynchronized
  have hl := lv_entry ([.int a0, .int a1]) (n := 2) (Nat.le_of_ble_eq_true rfl)
  rw [lg_entry_eq]
  generalize (lg_sl ([.int a0, .int a1]) ++ List.replicate (2 - (lg_sl ([.int a0, .int a1])).length) Slot.unset).toArray = ls at hl ⊢
  have hl : lv_has ls 2 [(0, .int a0), (1, .int a1)] := hl
  refine lv_iload_n hx hb dX6_isIn_0 rfl (lv_at hl 0 rfl) ?_
  refine lv_if_lt (tgt := 13) hx hb dX6_isIn_1 (by decide) (fun c_1001 => ?_) (fun c_1001 => ?_)
  · have hf := (if_pos c_1001).symm.trans hf
    refine lv_iconst (v := (0 : Int32)) hx hb dX6_isIn_13 (by decide) ?_
    exact xs_zret hx hb hr hlocks dX6_isIn_14 rfl (Option.some.inj hf)
  · have hf := (if_neg c_1001).symm.trans hf
    refine lv_iload_n hx hb dX6_isIn_4 rfl (lv_at hl 0 rfl) ?_
    refine lv_iload_n hx hb dX6_isIn_5 rfl (lv_at hl 1 rfl) ?_
    refine lv_icmp_ge (tgt := 13) hx hb dX6_isIn_6 (by decide) (fun c_1002 => ?_) (fun c_1002 => ?_)
    · have hf := (if_pos c_1002).symm.trans hf
      refine lv_iconst (v := (0 : Int32)) hx hb dX6_isIn_13 (by decide) ?_
      exact xs_zret hx hb hr hlocks dX6_isIn_14 rfl (Option.some.inj hf)
    · have hf := (if_neg c_1002).symm.trans hf
      refine lv_iconst (v := (1 : Int32)) hx hb dX6_isIn_9 (by decide) ?_
      refine lv_goto (tgt := 14) hx hb dX6_isIn_10 (by decide) ?_
      exact xs_zret hx hb hr hlocks dX6_isIn_14 rfl (Option.some.inj hf)
set_option maxHeartbeats 40000000 in
set_option maxRecDepth 100000 in
theorem kX6_within (l : Launch) {a0 : Int32} {a1 : Int32} {a2 : Int32}  {r : Int32} (hf : fX6_within a0 a1 a2 = some r) : KS l yX6_within wsX6_within (0) (0) [.int a0, .int a1, .int a2] (some (.int r)) := by
  rw [fX6_within] at hf
  refine Met.ofW (cc := cX6_within) (maxL := 3) (ret := (some .int)) (by decide) rfl ?_
  intro p e s m args below meth c s₁ B hml hv
  obtain ⟨rfl, -⟩ := hv
  have hx := B.exec
  have hb := B.bytes
  have hr := B.returns
  have hts := atoms_spec (ws := wsX6_within) B.pre
  have hown : s.vm.findClass RX6 = some m.cls := findClass_of_methodNamed B.named
  have hlocks := B.notSynchronized
  have hl := lv_entry ([.int a0, .int a1, .int a2]) (n := 3) (Nat.le_of_ble_eq_true rfl)
  rw [lg_entry_eq]
  generalize (lg_sl ([.int a0, .int a1, .int a2]) ++ List.replicate (3 - (lg_sl ([.int a0, .int a1, .int a2])).length) Slot.unset).toArray = ls at hl ⊢
  have hl : lv_has ls 3 [(0, .int a0), (1, .int a1), (2, .int a2)] := hl
  refine lv_iload_n hx hb dX6_within_0 rfl (lv_at hl 0 rfl) ?_
  refine lv_iload_n hx hb dX6_within_1 rfl (lv_at hl 1 rfl) ?_
  refine lv_icmp_ge (tgt := 10) hx hb dX6_within_2 (by decide) (fun c_1001 => ?_) (fun c_1001 => ?_)
  · have hf := (if_pos c_1001).symm.trans hf
    refine lv_iload_n hx hb dX6_within_10 rfl (lv_at hl 0 rfl) ?_
    refine lv_iload_n hx hb dX6_within_11 rfl (lv_at hl 2 rfl) ?_
    refine lv_icmp_le (tgt := 20) hx hb dX6_within_12 (by decide) (fun c_1002 => ?_) (fun c_1002 => ?_)
    · have hf := (if_pos c_1002).symm.trans hf
      refine lv_iconst (v := (0 : Int32)) hx hb dX6_within_20 (by decide) ?_
      exact xs_iret hx hb hr hlocks dX6_within_21 (Option.some.inj hf)
    · have hf := (if_neg c_1002).symm.trans hf
      refine lv_bipush (v := (-6 : Int32)) hx hb dX6_within_15 (by decide) ?_
      refine lv_goto (tgt := 21) hx hb dX6_within_17 (by decide) ?_
      exact xs_iret hx hb hr hlocks dX6_within_21 (Option.some.inj hf)
  · have hf := (if_neg c_1001).symm.trans hf
    refine lv_bipush (v := (-4 : Int32)) hx hb dX6_within_5 (by decide) ?_
    refine lv_goto (tgt := 21) hx hb dX6_within_7 (by decide) ?_
    exact xs_iret hx hb hr hlocks dX6_within_21 (Option.some.inj hf)
set_option maxHeartbeats 40000000 in
set_option maxRecDepth 100000 in
theorem kX6_lays (l : Launch) (z : Cx) (hz : okC 8 z) {j : Nat} {k : Nat} (hj : isI22 j = true) (hk : isI22 k = true) {σ σ' : Mm} (hf : fX6_lays j k σ = some σ') : KG 8 ceM l yX6_lays wsX6_lays (0) (0) [.ref (z.2.1 j), .ref (z.2.1 k)] z σ σ' none := by
  rw [fX6_lays] at hf
  refine Met.ofW (cc := cX6_lays) (maxL := 3) (ret := none) (by decide) rfl ?_
  intro p e s m args below meth c s₁ B hml hv
  obtain ⟨rfl, hP, hK, hE⟩ := hv
  have hx := B.exec
  have hb := B.bytes
  have hr := B.returns
  have hts := atoms_spec (ws := wsX6_lays) B.pre
  have hown : s.vm.findClass RX6 = some m.cls := findClass_of_methodNamed B.named
  have hlocks := B.notSynchronized
  have hS : va_S (aG 8 z) s.heap s.heap [] := va_S.rf
  have hl := lv_entry ([.ref (z.2.1 j), .ref (z.2.1 k)]) (n := 3) (Nat.le_of_ble_eq_true rfl)
  rw [lg_entry_eq]
  generalize (lg_sl ([.ref (z.2.1 j), .ref (z.2.1 k)]) ++ List.replicate (3 - (lg_sl ([.ref (z.2.1 j), .ref (z.2.1 k)])).length) Slot.unset).toArray = ls at hl ⊢
  have hl : lv_has ls 3 [(0, .ref (z.2.1 j)), (1, .ref (z.2.1 k))] := hl
  have L_2 : ∀ (n_2 : Nat) (v2 : Int32) (σ : Mm) (H : Heap) (locs : List Loc) (ls : Array Slot), va_P z.1 vwCl (wl 8 z.2.1 (ceM z σ)) H → va_S (aG 8 z) s.heap H locs → lv_has ls 3 [(0, .ref (z.2.1 j)), (1, .ref (z.2.1 k)), (2, .int v2)] → fX6_lays_2 j k n_2 v2 σ = some σ' → W p l e (headSpec wsX6_lays ({ frames := 0, cells := 0, slots := 0, locals := 0 })).room s m ([.ref (z.2.1 j), .ref (z.2.1 k)] : List Value).toArray below meth c H locs 0 0 (MQ below (qcG 8 ceM z σ' none) ([.ref (z.2.1 j), .ref (z.2.1 k)] : List Value).toArray s 0 0 (aG 8 z)) (F0 m 2 ls []) := by
    intro n_2
    induction n_2 with
    | zero =>
      intro v2 σ H locs ls hP hS hl hf
      rw [fX6_lays_2] at hf
      cases hf
    | succ n_2 ih_2 =>
      intro v2 σ H locs ls hP hS hl hf
      rw [fX6_lays_2] at hf
      refine lv_iload_n hx hb dX6_lays_2 rfl (lv_at hl 2 rfl) ?_
      refine lv_bipush (v := (22 : Int32)) hx hb dX6_lays_3 (by decide) ?_
      refine lv_icmp_ge (tgt := 20) hx hb dX6_lays_5 (by decide) (fun c_1 => ?_) (fun c_1 => ?_)
      · have hf := (if_pos c_1).symm.trans hf
        exact x_vret hx hb hr hlocks hP hS dX6_lays_20 (Option.some.inj hf)
      · have hf := (if_neg c_1).symm.trans hf
        refine lv_aload_n hx hb dX6_lays_8 rfl (lv_at hl 1 rfl) ?_
        refine lv_iload_n hx hb dX6_lays_9 rfl (lv_at hl 2 rfl) ?_
        refine lv_aload_n hx hb dX6_lays_10 rfl (lv_at hl 0 rfl) ?_
        refine lv_iload_n hx hb dX6_lays_11 rfl (lv_at hl 2 rfl) ?_
        obtain ⟨c_2, hf⟩ := x_ck hf
        refine va_iald hx hb hK hP j 0 (wl_at (i22_lt hj) (cMI22 hj)) rfl (ci_in c_2) dX6_lays_12 ?_
        obtain ⟨c_3, hf⟩ := x_ck hf
        refine va_iast hx hb hK hP (wl_D hz _) hS k 0 (wl_at (i22_lt hk) (cMI22 hk)) rfl (ci_in c_3) dX6_lays_13 (fun H locs hP _ hS => ?_)
        rw [(sMI22 hk)] at hP
        refine lv_iinc (v := (v2 + (1 : Int32))) (lv' := [(2, .int (v2 + (1 : Int32))), (0, .ref (z.2.1 j)), (1, .ref (z.2.1 k))]) hx hb dX6_lays_14 hl (k := 2) rfl rfl (by decide) rfl (fun ls hl => ?_)
        refine lv_goto (tgt := 2) hx hb dX6_lays_17 (by decide) ?_
        exact ih_2 (v2 + (1 : Int32)) (pI σ k v2.toNatClampNeg (gI σ j v2.toNatClampNeg)) _ _ _ hP hS (lv_sub hl [1, 2, 0] rfl) hf
  refine lv_iconst (v := (0 : Int32)) hx hb dX6_lays_0 (by decide) ?_
  refine lv_istore_n (lv' := [(2, .int (0 : Int32)), (0, .ref (z.2.1 j)), (1, .ref (z.2.1 k))]) hx hb dX6_lays_1 rfl hl (by decide) rfl (fun ls hl => ?_)
  exact L_2 1000 (0 : Int32) σ _ _ _ hP hS (lv_sub hl [1, 2, 0] rfl) hf
set_option maxHeartbeats 40000000 in
set_option maxRecDepth 100000 in
theorem kX6_letter (l : Launch) (z : Cx) (hz : okC 8 z) {a0 : Int32}  {σ σ' : Mm} {r : Int32} (hf : fX6_letter a0 σ = some (r, σ')) : KG 8 ceM l yX6_letter wsX6_letter (1) (22) [.ref (z.2.1 0), .int a0] z σ σ' (some (.int r)) := by
  rw [fX6_letter] at hf
  refine Met.ofW (cc := cX6_letter) (maxL := 3) (ret := (some .int)) (by decide) rfl ?_
  intro p e s m args below meth c s₁ B hml hv
  obtain ⟨rfl, hP, hK, hE⟩ := hv
  have hx := B.exec
  have hb := B.bytes
  have hr := B.returns
  have hts := atoms_spec (ws := wsX6_letter) B.pre
  have hown : s.vm.findClass RX6 = some m.cls := findClass_of_methodNamed B.named
  have hlocks := B.notSynchronized
  have in_X6 : ∀ w ∈ wsX60, w ∈ wsX6_letter := by decide +kernel
  have hS : va_S (aG 8 z) s.heap s.heap [] := va_S.rf
  have hl := lv_entry ([.ref (z.2.1 0), .int a0]) (n := 3) (Nat.le_of_ble_eq_true rfl)
  rw [lg_entry_eq]
  generalize (lg_sl ([.ref (z.2.1 0), .int a0]) ++ List.replicate (3 - (lg_sl ([.ref (z.2.1 0), .int a0])).length) Slot.unset).toArray = ls at hl ⊢
  have hl : lv_has ls 3 [(0, .ref (z.2.1 0)), (1, .int a0)] := hl
  have j_25 : ∀ (v1 : Int32) (v2 : Int32) (σ : Mm) (H : Heap) (locs : List Loc) (ls : Array Slot), va_P z.1 vwCl (wl 8 z.2.1 (ceM z σ)) H → va_S (aG 8 z) s.heap H locs → lv_has ls 3 [(0, .ref (z.2.1 0)), (1, .int v1), (2, .int v2)] → fX6_letter_25 v1 v2 σ = some (r, σ') → W p l e (headSpec wsX6_letter ({ frames := 1, cells := 0, slots := 0, locals := 22 })).room s m ([.ref (z.2.1 0), .int a0] : List Value).toArray below meth c H locs 0 0 (MQ below (qcG 8 ceM z σ' (some (.int r))) ([.ref (z.2.1 0), .int a0] : List Value).toArray s 0 0 (aG 8 z)) (F0 m 25 ls []) := by
    intro v1 v2 σ H locs ls hP hS hl hf
    rw [fX6_letter_25] at hf
    refine lv_iload_n hx hb dX6_letter_25 rfl (lv_at hl 2 rfl) ?_
    refine lv_if_eq (tgt := 35) hx hb dX6_letter_26 (by decide) (fun c_4 => ?_) (fun c_4 => ?_)
    · have hf := (if_pos c_4).symm.trans hf
      refine lv_aload_n hx hb dX6_letter_35 rfl (lv_at hl 0 rfl) ?_
      refine va_get (D := z.1) (ci := 6) (v := .ref (z.2.1 5)) (C := RX6) (T := TX6) (N := 29) hx hb hts in_X6 hown hK hP 0 (wl_at (by decide) cX6) rfl 5 (by decide) (hts (.fieldLink RX6 22 "TillOneOfSortModel" "tape" "[I") (by decide +kernel)) (fun _ h9 => h9) rfl dX6_letter_36 ?_
      refine lv_aload_n hx hb dX6_letter_39 rfl (lv_at hl 0 rfl) ?_
      refine va_get (D := z.1) (ci := 6) (v := .int (gI σ 0 7)) (C := RX6) (T := TX6) (N := 29) hx hb hts in_X6 hown hK hP 0 (wl_at (by decide) cX6) rfl 7 (by decide) (hts (.fieldLink RX6 42 "TillOneOfSortModel" "taped" "I") (by decide +kernel)) (fun _ h9 => h9) rfl dX6_letter_40 ?_
      refine lv_iload_n hx hb dX6_letter_43 rfl (lv_at hl 1 rfl) ?_
      obtain ⟨c_5, hf⟩ := x_ck hf
      refine va_iast hx hb hK hP (wl_D hz _) hS 5 0 (wl_at (by decide) cMI64) rfl (ci_in c_5) dX6_letter_44 (fun H locs hP _ hS => ?_)
      rw [sMI64] at hP
      refine lv_aload_n hx hb dX6_letter_45 rfl (lv_at hl 0 rfl) ?_
      refine lv_dup hx hb dX6_letter_46 rfl ?_
      refine va_get (D := z.1) (ci := 6) (v := .int (gI (pI σ 5 (gI σ 0 7).toNatClampNeg v1) 0 7)) (C := RX6) (T := TX6) (N := 29) hx hb hts in_X6 hown hK hP 0 (wl_at (by decide) cX6) rfl 7 (by decide) (hts (.fieldLink RX6 42 "TillOneOfSortModel" "taped" "I") (by decide +kernel)) (fun _ h9 => h9) rfl dX6_letter_47 ?_
      refine lv_iconst (v := (1 : Int32)) hx hb dX6_letter_50 (by decide) ?_
      refine lv_iadd hx hb dX6_letter_51 ?_
      refine va_put (D := z.1) (ci := 6) (v := .int ((gI (pI σ 5 (gI σ 0 7).toNatClampNeg v1) 0 7) + (1 : Int32))) (ty := .int) (C := RX6) (T := TX6) (N := 29) hx hb hts in_X6 tyX6 tyX6_ok nmX6 hown hK hP (wl_D hz _) hS 0 (wl_at (by decide) cX6) rfl 7 (by decide) (hts (.fieldLink RX6 42 "TillOneOfSortModel" "taped" "I") (by decide +kernel)) (fun _ h9 => h9) rfl (by decide +kernel) rfl rfl (Nat.le_of_ble_eq_true rfl) dX6_letter_52 (fun H locs hP _ hS => ?_)
      rw [sX6I (by decide)] at hP
      refine lv_aload_n hx hb dX6_letter_55 rfl (lv_at hl 0 rfl) ?_
      refine va_get (D := z.1) (ci := 6) (v := .int (gI (pI (pI σ 5 (gI σ 0 7).toNatClampNeg v1) 0 7 ((gI (pI σ 5 (gI σ 0 7).toNatClampNeg v1) 0 7) + (1 : Int32))) 0 7)) (C := RX6) (T := TX6) (N := 29) hx hb hts in_X6 hown hK hP 0 (wl_at (by decide) cX6) rfl 7 (by decide) (hts (.fieldLink RX6 42 "TillOneOfSortModel" "taped" "I") (by decide +kernel)) (fun _ h9 => h9) rfl dX6_letter_56 ?_
      exact x_iret hx hb hr hlocks hP hS dX6_letter_59 (Prod.mk.inj (Option.some.inj hf)).1 (Prod.mk.inj (Option.some.inj hf)).2
    · have hf := (if_neg c_4).symm.trans hf
      refine lv_aload_n hx hb dX6_letter_29 rfl (lv_at hl 0 rfl) ?_
      refine lv_iload_n hx hb dX6_letter_30 rfl (lv_at hl 2 rfl) ?_
      obtain ⟨q_6, hq_6, hf⟩ := x_bd hf
      refine x_callGi (va_runV (As := [.int v2]) (rest := []) ⟨hx, hb, hml, hown, hts⟩ (kX6_refuse l z hz hq_6) (cwV 1 hts gX6_letter_X6_refuse rfl rfl rfl (by decide +kernel) ⟨Nat.le_of_ble_eq_true rfl, Nat.le_of_ble_eq_true rfl⟩) (pvG hK hP hE hS (va_recv hK hP (ci := 6) (q0 := 0) rfl (wl_at (by decide) cX6))) rfl rfl hl.1 rfl (lv_room (Nat.le_of_ble_eq_true rfl)) dX6_letter_31 ⟨Nat.zero_le _, Nat.zero_le _⟩) hS (fun H locs hP hS => ?_)
      exact x_iret hx hb hr hlocks hP hS dX6_letter_34 (Prod.mk.inj (Option.some.inj hf)).1 (Prod.mk.inj (Option.some.inj hf)).2
  refine lv_iload_n hx hb dX6_letter_0 rfl (lv_at hl 1 rfl) ?_
  refine lv_iconst (v := (0 : Int32)) hx hb dX6_letter_1 (by decide) ?_
  refine lv_sipush (v := (255 : Int32)) hx hb dX6_letter_2 (by decide) ?_
  obtain ⟨q_1001, hq_1001, hf⟩ := x_bd hf
  refine x_callSi (va_runS (As := [.int a0, .int (0 : Int32), .int (255 : Int32)]) (rest := []) ⟨hx, hb, hml, hown, hts⟩ (kX6_within l hq_1001) (va_cwS 3 hts gX6_letter_X6_within rfl rfl rfl (by decide +kernel) ⟨Nat.le_of_ble_eq_true rfl, Nat.le_of_ble_eq_true rfl⟩) psS rfl rfl hl.1 rfl (lv_room (Nat.le_of_ble_eq_true rfl)) dX6_letter_5 ⟨Nat.zero_le _, Nat.zero_le _⟩) ?_
  refine lv_istore_n (lv' := [(2, .int q_1001), (0, .ref (z.2.1 0)), (1, .int a0)]) hx hb dX6_letter_8 rfl hl (by decide) rfl (fun ls hl => ?_)
  refine lv_iload_n hx hb dX6_letter_9 rfl (lv_at hl 0 rfl) ?_
  refine lv_if_ne (tgt := 25) hx hb dX6_letter_10 (by decide) (fun c_1002 => ?_) (fun c_1002 => ?_)
  · have hf := (if_neg c_1002).symm.trans hf
    exact j_25 a0 q_1001 σ _ _ _ hP hS (lv_sub hl [1, 2, 0] rfl) hf
  · have hf := (if_pos c_1002).symm.trans hf
    refine lv_aload_n hx hb dX6_letter_13 rfl (lv_at hl 1 rfl) ?_
    refine va_get (D := z.1) (ci := 6) (v := .int (gI σ 0 7)) (C := RX6) (T := TX6) (N := 29) hx hb hts in_X6 hown hK hP 0 (wl_at (by decide) cX6) rfl 7 (by decide) (hts (.fieldLink RX6 42 "TillOneOfSortModel" "taped" "I") (by decide +kernel)) (fun _ h9 => h9) rfl dX6_letter_14 ?_
    refine lv_bipush (v := (64 : Int32)) hx hb dX6_letter_17 (by decide) ?_
    refine lv_icmp_ne (tgt := 25) hx hb dX6_letter_19 (by decide) (fun c_1003 => ?_) (fun c_1003 => ?_)
    · have hf := (if_neg c_1003).symm.trans hf
      exact j_25 a0 q_1001 σ _ _ _ hP hS (lv_sub hl [1, 2, 0] rfl) hf
    · have hf := (if_pos c_1003).symm.trans hf
      refine lv_bipush (v := (-6 : Int32)) hx hb dX6_letter_22 (by decide) ?_
      refine lv_istore_n (lv' := [(2, .int (-6 : Int32)), (0, .ref (z.2.1 0)), (1, .int a0)]) hx hb dX6_letter_24 rfl hl (by decide) rfl (fun ls hl => ?_)
      exact j_25 a0 (-6 : Int32) σ _ _ _ hP hS (lv_sub hl [1, 2, 0] rfl) hf
set_option maxHeartbeats 40000000 in
set_option maxRecDepth 100000 in
theorem kX6_sign (l : Launch) (z : Cx) (hz : okC 8 z)   {σ : Mm} {r : Int32} (hf : fX6_sign σ = some r) : KG 8 ceM l yX6_sign wsX6_sign (0) (0) [.ref (z.2.1 0)] z σ σ (some (.int r)) := by
  rw [fX6_sign] at hf
  refine Met.ofW (cc := cX6_sign) (maxL := 1) (ret := (some .int)) (by decide) rfl ?_
  intro p e s m args below meth c s₁ B hml hv
  obtain ⟨rfl, hP, hK, hE⟩ := hv
  have hx := B.exec
  have hb := B.bytes
  have hr := B.returns
  have hts := atoms_spec (ws := wsX6_sign) B.pre
  have hown : s.vm.findClass RX6 = some m.cls := findClass_of_methodNamed B.named
  have hlocks := B.notSynchronized
  have in_X6 : ∀ w ∈ wsX60, w ∈ wsX6_sign := by decide +kernel
  have hS : va_S (aG 8 z) s.heap s.heap [] := va_S.rf
  have hl := lv_entry ([.ref (z.2.1 0)]) (n := 1) (Nat.le_of_ble_eq_true rfl)
  rw [lg_entry_eq]
  generalize (lg_sl ([.ref (z.2.1 0)]) ++ List.replicate (1 - (lg_sl ([.ref (z.2.1 0)])).length) Slot.unset).toArray = ls at hl ⊢
  have hl : lv_has ls 1 [(0, .ref (z.2.1 0))] := hl
  refine lv_aload_n hx hb dX6_sign_0 rfl (lv_at hl 0 rfl) ?_
  refine va_get (D := z.1) (ci := 6) (v := .int (gI σ 0 8)) (C := RX6) (T := TX6) (N := 29) hx hb hts in_X6 hown hK hP 0 (wl_at (by decide) cX6) rfl 8 (by decide) (hts (.fieldLink RX6 46 "TillOneOfSortModel" "at" "I") (by decide +kernel)) (fun _ h9 => h9) rfl dX6_sign_1 ?_
  refine lv_aload_n hx hb dX6_sign_4 rfl (lv_at hl 0 rfl) ?_
  refine va_get (D := z.1) (ci := 6) (v := .int (gI σ 0 7)) (C := RX6) (T := TX6) (N := 29) hx hb hts in_X6 hown hK hP 0 (wl_at (by decide) cX6) rfl 7 (by decide) (hts (.fieldLink RX6 42 "TillOneOfSortModel" "taped" "I") (by decide +kernel)) (fun _ h9 => h9) rfl dX6_sign_5 ?_
  refine lv_icmp_ge (tgt := 23) hx hb dX6_sign_8 (by decide) (fun c_1001 => ?_) (fun c_1001 => ?_)
  · have hf := (if_pos c_1001).symm.trans hf
    refine lv_iconst (v := (-1 : Int32)) hx hb dX6_sign_23 (by decide) ?_
    exact x_iret hx hb hr hlocks hP hS dX6_sign_24 (Option.some.inj hf) rfl
  · have hf := (if_neg c_1001).symm.trans hf
    refine lv_aload_n hx hb dX6_sign_11 rfl (lv_at hl 0 rfl) ?_
    refine va_get (D := z.1) (ci := 6) (v := .ref (z.2.1 5)) (C := RX6) (T := TX6) (N := 29) hx hb hts in_X6 hown hK hP 0 (wl_at (by decide) cX6) rfl 5 (by decide) (hts (.fieldLink RX6 22 "TillOneOfSortModel" "tape" "[I") (by decide +kernel)) (fun _ h9 => h9) rfl dX6_sign_12 ?_
    refine lv_aload_n hx hb dX6_sign_15 rfl (lv_at hl 0 rfl) ?_
    refine va_get (D := z.1) (ci := 6) (v := .int (gI σ 0 8)) (C := RX6) (T := TX6) (N := 29) hx hb hts in_X6 hown hK hP 0 (wl_at (by decide) cX6) rfl 8 (by decide) (hts (.fieldLink RX6 46 "TillOneOfSortModel" "at" "I") (by decide +kernel)) (fun _ h9 => h9) rfl dX6_sign_16 ?_
    obtain ⟨c_1002, hf⟩ := x_ck hf
    refine va_iald hx hb hK hP 5 0 (wl_at (by decide) cMI64) rfl (ci_in c_1002) dX6_sign_19 ?_
    refine lv_goto (tgt := 24) hx hb dX6_sign_20 (by decide) ?_
    exact x_iret hx hb hr hlocks hP hS dX6_sign_24 (Option.some.inj hf) rfl
set_option maxHeartbeats 40000000 in
set_option maxRecDepth 100000 in
theorem kX6_takes (l : Launch) (z : Cx) (hz : okC 8 z) {a0 : Int32}  {σ σ' : Mm} {r : Int32} (hf : fX6_takes a0 σ = some (r, σ')) : KG 8 ceM l yX6_takes wsX6_takes (1) (20) [.ref (z.2.1 0), .int a0] z σ σ' (some (.int r)) := by
  rw [fX6_takes] at hf
  refine Met.ofW (cc := cX6_takes) (maxL := 2) (ret := (some .boolean)) (by decide) rfl ?_
  intro p e s m args below meth c s₁ B hml hv
  obtain ⟨rfl, hP, hK, hE⟩ := hv
  have hx := B.exec
  have hb := B.bytes
  have hr := B.returns
  have hts := atoms_spec (ws := wsX6_takes) B.pre
  have hown : s.vm.findClass RX6 = some m.cls := findClass_of_methodNamed B.named
  have hlocks := B.notSynchronized
  have in_X6 : ∀ w ∈ wsX60, w ∈ wsX6_takes := by decide +kernel
  have hS : va_S (aG 8 z) s.heap s.heap [] := va_S.rf
  have hl := lv_entry ([.ref (z.2.1 0), .int a0]) (n := 2) (Nat.le_of_ble_eq_true rfl)
  rw [lg_entry_eq]
  generalize (lg_sl ([.ref (z.2.1 0), .int a0]) ++ List.replicate (2 - (lg_sl ([.ref (z.2.1 0), .int a0])).length) Slot.unset).toArray = ls at hl ⊢
  have hl : lv_has ls 2 [(0, .ref (z.2.1 0)), (1, .int a0)] := hl
  refine lv_aload_n hx hb dX6_takes_0 rfl (lv_at hl 0 rfl) ?_
  obtain ⟨q_1001, hq_1001, hf⟩ := x_bd hf
  refine x_callGi (va_runV (As := []) (rest := []) ⟨hx, hb, hml, hown, hts⟩ (kX6_sign l z hz hq_1001) (cwV 0 hts gX6_takes_X6_sign rfl rfl rfl (by decide +kernel) ⟨Nat.le_of_ble_eq_true rfl, Nat.le_of_ble_eq_true rfl⟩) (pvG hK hP hE hS (va_recv hK hP (ci := 6) (q0 := 0) rfl (wl_at (by decide) cX6))) rfl rfl hl.1 rfl (lv_room (Nat.le_of_ble_eq_true rfl)) dX6_takes_1 ⟨Nat.zero_le _, Nat.zero_le _⟩) hS (fun H locs hP hS => ?_)
  refine lv_iload_n hx hb dX6_takes_4 rfl (lv_at hl 1 rfl) ?_
  refine lv_icmp_eq (tgt := 10) hx hb dX6_takes_5 (by decide) (fun c_1002 => ?_) (fun c_1002 => ?_)
  · have hf := (if_pos c_1002).symm.trans hf
    refine lv_aload_n hx hb dX6_takes_10 rfl (lv_at hl 0 rfl) ?_
    refine lv_dup hx hb dX6_takes_11 rfl ?_
    refine va_get (D := z.1) (ci := 6) (v := .int (gI σ 0 8)) (C := RX6) (T := TX6) (N := 29) hx hb hts in_X6 hown hK hP 0 (wl_at (by decide) cX6) rfl 8 (by decide) (hts (.fieldLink RX6 46 "TillOneOfSortModel" "at" "I") (by decide +kernel)) (fun _ h9 => h9) rfl dX6_takes_12 ?_
    refine lv_iconst (v := (1 : Int32)) hx hb dX6_takes_15 (by decide) ?_
    refine lv_iadd hx hb dX6_takes_16 ?_
    refine va_put (D := z.1) (ci := 6) (v := .int ((gI σ 0 8) + (1 : Int32))) (ty := .int) (C := RX6) (T := TX6) (N := 29) hx hb hts in_X6 tyX6 tyX6_ok nmX6 hown hK hP (wl_D hz _) hS 0 (wl_at (by decide) cX6) rfl 8 (by decide) (hts (.fieldLink RX6 46 "TillOneOfSortModel" "at" "I") (by decide +kernel)) (fun _ h9 => h9) rfl (by decide +kernel) rfl rfl (Nat.le_of_ble_eq_true rfl) dX6_takes_17 (fun H locs hP _ hS => ?_)
    rw [sX6I (by decide)] at hP
    refine lv_iconst (v := (1 : Int32)) hx hb dX6_takes_20 (by decide) ?_
    exact x_zret hx hb hr hlocks hP hS dX6_takes_21 rfl (Prod.mk.inj (Option.some.inj hf)).1 (Prod.mk.inj (Option.some.inj hf)).2
  · have hf := (if_neg c_1002).symm.trans hf
    refine lv_iconst (v := (0 : Int32)) hx hb dX6_takes_8 (by decide) ?_
    exact x_zret hx hb hr hlocks hP hS dX6_takes_9 rfl (Prod.mk.inj (Option.some.inj hf)).1 (Prod.mk.inj (Option.some.inj hf)).2
set_option maxHeartbeats 40000000 in
set_option maxRecDepth 100000 in
theorem kX6_readsNumber (l : Launch) (z : Cx) (hz : okC 8 z) {a0 : Int32} {a1 : Int32}  {σ σ' : Mm} {r : Int32} (hf : fX6_readsNumber a0 a1 σ = some (r, σ')) : KG 8 ceM l yX6_readsNumber wsX6_readsNumber (1) (21) [.ref (z.2.1 0), .int a0, .int a1] z σ σ' (some (.int r)) := by
  rw [fX6_readsNumber] at hf
  refine Met.ofW (cc := cX6_readsNumber) (maxL := 4) (ret := (some .boolean)) (by decide) rfl ?_
  intro p e s m args below meth c s₁ B hml hv
  obtain ⟨rfl, hP, hK, hE⟩ := hv
  have hx := B.exec
  have hb := B.bytes
  have hr := B.returns
  have hts := atoms_spec (ws := wsX6_readsNumber) B.pre
  have hown : s.vm.findClass RX6 = some m.cls := findClass_of_methodNamed B.named
  have hlocks := B.notSynchronized
  have in_X6 : ∀ w ∈ wsX60, w ∈ wsX6_readsNumber := by decide +kernel
  have hS : va_S (aG 8 z) s.heap s.heap [] := va_S.rf
  have hl := lv_entry ([.ref (z.2.1 0), .int a0, .int a1]) (n := 4) (Nat.le_of_ble_eq_true rfl)
  rw [lg_entry_eq]
  generalize (lg_sl ([.ref (z.2.1 0), .int a0, .int a1]) ++ List.replicate (4 - (lg_sl ([.ref (z.2.1 0), .int a0, .int a1])).length) Slot.unset).toArray = ls at hl ⊢
  have hl : lv_has ls 4 [(0, .ref (z.2.1 0)), (1, .int a0), (2, .int a1)] := hl
  have j_68 : ∀ (v3 : Int32) (σ : Mm) (H : Heap) (locs : List Loc) (ls : Array Slot), va_P z.1 vwCl (wl 8 z.2.1 (ceM z σ)) H → va_S (aG 8 z) s.heap H locs → lv_has ls 4 [(3, .int v3)] → fX6_readsNumber_68 v3 σ = some (r, σ') → W p l e (headSpec wsX6_readsNumber ({ frames := 1, cells := 0, slots := 0, locals := 21 })).room s m ([.ref (z.2.1 0), .int a0, .int a1] : List Value).toArray below meth c H locs 0 0 (MQ below (qcG 8 ceM z σ' (some (.int r))) ([.ref (z.2.1 0), .int a0, .int a1] : List Value).toArray s 0 0 (aG 8 z)) (F0 m 68 ls []) := by
    intro v3 σ H locs ls hP hS hl hf
    rw [fX6_readsNumber_68] at hf
    refine lv_iload_n hx hb dX6_readsNumber_68 rfl (lv_at hl 0 rfl) ?_
    refine lv_if_le (tgt := 76) hx hb dX6_readsNumber_69 (by decide) (fun c_2 => ?_) (fun c_2 => ?_)
    · have hf := (if_pos c_2).symm.trans hf
      refine lv_iconst (v := (0 : Int32)) hx hb dX6_readsNumber_76 (by decide) ?_
      exact x_zret hx hb hr hlocks hP hS dX6_readsNumber_77 rfl (Prod.mk.inj (Option.some.inj hf)).1 (Prod.mk.inj (Option.some.inj hf)).2
    · have hf := (if_neg c_2).symm.trans hf
      refine lv_iconst (v := (1 : Int32)) hx hb dX6_readsNumber_72 (by decide) ?_
      refine lv_goto (tgt := 77) hx hb dX6_readsNumber_73 (by decide) ?_
      exact x_zret hx hb hr hlocks hP hS dX6_readsNumber_77 rfl (Prod.mk.inj (Option.some.inj hf)).1 (Prod.mk.inj (Option.some.inj hf)).2
  have L_9 : ∀ (n_9 : Nat) (v1 : Int32) (v2 : Int32) (v3 : Int32) (σ : Mm) (H : Heap) (locs : List Loc) (ls : Array Slot), va_P z.1 vwCl (wl 8 z.2.1 (ceM z σ)) H → va_S (aG 8 z) s.heap H locs → lv_has ls 4 [(0, .ref (z.2.1 0)), (1, .int v1), (2, .int v2), (3, .int v3)] → fX6_readsNumber_9 n_9 v1 v2 v3 σ = some (r, σ') → W p l e (headSpec wsX6_readsNumber ({ frames := 1, cells := 0, slots := 0, locals := 21 })).room s m ([.ref (z.2.1 0), .int a0, .int a1] : List Value).toArray below meth c H locs 0 0 (MQ below (qcG 8 ceM z σ' (some (.int r))) ([.ref (z.2.1 0), .int a0, .int a1] : List Value).toArray s 0 0 (aG 8 z)) (F0 m 9 ls []) := by
    intro n_9
    induction n_9 with
    | zero =>
      intro v1 v2 v3 σ H locs ls hP hS hl hf
      rw [fX6_readsNumber_9] at hf
      cases hf
    | succ n_9 ih_9 =>
      intro v1 v2 v3 σ H locs ls hP hS hl hf
      rw [fX6_readsNumber_9] at hf
      refine lv_iload_n hx hb dX6_readsNumber_9 rfl (lv_at hl 3 rfl) ?_
      refine lv_iload_n hx hb dX6_readsNumber_10 rfl (lv_at hl 2 rfl) ?_
      refine lv_icmp_ge (tgt := 68) hx hb dX6_readsNumber_11 (by decide) (fun c_3 => ?_) (fun c_3 => ?_)
      · have hf := (if_pos c_3).symm.trans hf
        exact j_68 v3 σ _ _ _ hP hS (lv_sub hl [3] rfl) hf
      · have hf := (if_neg c_3).symm.trans hf
        refine lv_aload_n hx hb dX6_readsNumber_14 rfl (lv_at hl 0 rfl) ?_
        obtain ⟨q_4, hq_4, hf⟩ := x_bd hf
        refine x_callGi (va_runV (As := []) (rest := []) ⟨hx, hb, hml, hown, hts⟩ (kX6_sign l z hz hq_4) (cwV 0 hts gX6_readsNumber_X6_sign rfl rfl rfl (by decide +kernel) ⟨Nat.le_of_ble_eq_true rfl, Nat.le_of_ble_eq_true rfl⟩) (pvG hK hP hE hS (va_recv hK hP (ci := 6) (q0 := 0) rfl (wl_at (by decide) cX6))) rfl rfl hl.1 rfl (lv_room (Nat.le_of_ble_eq_true rfl)) dX6_readsNumber_15 ⟨Nat.zero_le _, Nat.zero_le _⟩) hS (fun H locs hP hS => ?_)
        refine lv_bipush (v := (48 : Int32)) hx hb dX6_readsNumber_18 (by decide) ?_
        refine lv_isub hx hb dX6_readsNumber_20 ?_
        refine lv_bipush (v := (10 : Int32)) hx hb dX6_readsNumber_21 (by decide) ?_
        obtain ⟨q_5, hq_5, hf⟩ := x_bd hf
        refine x_callSi (va_runS (As := [.int (q_4 - (48 : Int32)), .int (10 : Int32)]) (rest := []) ⟨hx, hb, hml, hown, hts⟩ (kX6_isIn l hq_5) (va_cwS 2 hts gX6_readsNumber_X6_isIn rfl rfl rfl (by decide +kernel) ⟨Nat.le_of_ble_eq_true rfl, Nat.le_of_ble_eq_true rfl⟩) psS rfl rfl hl.1 rfl (lv_room (Nat.le_of_ble_eq_true rfl)) dX6_readsNumber_23 ⟨Nat.zero_le _, Nat.zero_le _⟩) ?_
        refine lv_if_eq (tgt := 68) hx hb dX6_readsNumber_26 (by decide) (fun c_6 => ?_) (fun c_6 => ?_)
        · have hf := (if_pos c_6).symm.trans hf
          exact j_68 v3 σ _ _ _ hP hS (lv_sub hl [3] rfl) hf
        · have hf := (if_neg c_6).symm.trans hf
          refine lv_aload_n hx hb dX6_readsNumber_29 rfl (lv_at hl 0 rfl) ?_
          refine va_get (D := z.1) (ci := 6) (v := .ref (z.2.1 6)) (C := RX6) (T := TX6) (N := 29) hx hb hts in_X6 hown hK hP 0 (wl_at (by decide) cX6) rfl 6 (by decide) (hts (.fieldLink RX6 25 "TillOneOfSortModel" "told" "[I") (by decide +kernel)) (fun _ h9 => h9) rfl dX6_readsNumber_30 ?_
          refine lv_iload_n hx hb dX6_readsNumber_33 rfl (lv_at hl 1 rfl) ?_
          refine lv_bipush (v := (10 : Int32)) hx hb dX6_readsNumber_34 (by decide) ?_
          refine lv_aload_n hx hb dX6_readsNumber_36 rfl (lv_at hl 0 rfl) ?_
          refine va_get (D := z.1) (ci := 6) (v := .ref (z.2.1 6)) (C := RX6) (T := TX6) (N := 29) hx hb hts in_X6 hown hK hP 0 (wl_at (by decide) cX6) rfl 6 (by decide) (hts (.fieldLink RX6 25 "TillOneOfSortModel" "told" "[I") (by decide +kernel)) (fun _ h9 => h9) rfl dX6_readsNumber_37 ?_
          refine lv_iload_n hx hb dX6_readsNumber_40 rfl (lv_at hl 1 rfl) ?_
          obtain ⟨c_7, hf⟩ := x_ck hf
          refine va_iald hx hb hK hP 6 0 (wl_at (by decide) cMI2) rfl (ci_in c_7) dX6_readsNumber_41 ?_
          refine lv_imul hx hb dX6_readsNumber_42 ?_
          refine lv_aload_n hx hb dX6_readsNumber_43 rfl (lv_at hl 0 rfl) ?_
          obtain ⟨q_8, hq_8, hf⟩ := x_bd hf
          refine x_callGi (va_runV (As := []) (rest := [.int ((10 : Int32) * (gI σ 6 v1.toNatClampNeg)), .int v1, .ref (z.2.1 6)]) ⟨hx, hb, hml, hown, hts⟩ (kX6_sign l z hz hq_8) (cwV 0 hts gX6_readsNumber_X6_sign rfl rfl rfl (by decide +kernel) ⟨Nat.le_of_ble_eq_true rfl, Nat.le_of_ble_eq_true rfl⟩) (pvG hK hP hE hS (va_recv hK hP (ci := 6) (q0 := 0) rfl (wl_at (by decide) cX6))) rfl rfl hl.1 rfl (lv_room (Nat.le_of_ble_eq_true rfl)) dX6_readsNumber_44 ⟨Nat.zero_le _, Nat.zero_le _⟩) hS (fun H locs hP hS => ?_)
          refine lv_iadd hx hb dX6_readsNumber_47 ?_
          refine lv_bipush (v := (48 : Int32)) hx hb dX6_readsNumber_48 (by decide) ?_
          refine lv_isub hx hb dX6_readsNumber_50 ?_
          obtain ⟨c_9, hf⟩ := x_ck hf
          refine va_iast hx hb hK hP (wl_D hz _) hS 6 0 (wl_at (by decide) cMI2) rfl (ci_in c_9) dX6_readsNumber_51 (fun H locs hP _ hS => ?_)
          rw [sMI2] at hP
          refine lv_aload_n hx hb dX6_readsNumber_52 rfl (lv_at hl 0 rfl) ?_
          refine lv_dup hx hb dX6_readsNumber_53 rfl ?_
          refine va_get (D := z.1) (ci := 6) (v := .int (gI (pI σ 6 v1.toNatClampNeg ((((10 : Int32) * (gI σ 6 v1.toNatClampNeg)) + q_8) - (48 : Int32))) 0 8)) (C := RX6) (T := TX6) (N := 29) hx hb hts in_X6 hown hK hP 0 (wl_at (by decide) cX6) rfl 8 (by decide) (hts (.fieldLink RX6 46 "TillOneOfSortModel" "at" "I") (by decide +kernel)) (fun _ h9 => h9) rfl dX6_readsNumber_54 ?_
          refine lv_iconst (v := (1 : Int32)) hx hb dX6_readsNumber_57 (by decide) ?_
          refine lv_iadd hx hb dX6_readsNumber_58 ?_
          refine va_put (D := z.1) (ci := 6) (v := .int ((gI (pI σ 6 v1.toNatClampNeg ((((10 : Int32) * (gI σ 6 v1.toNatClampNeg)) + q_8) - (48 : Int32))) 0 8) + (1 : Int32))) (ty := .int) (C := RX6) (T := TX6) (N := 29) hx hb hts in_X6 tyX6 tyX6_ok nmX6 hown hK hP (wl_D hz _) hS 0 (wl_at (by decide) cX6) rfl 8 (by decide) (hts (.fieldLink RX6 46 "TillOneOfSortModel" "at" "I") (by decide +kernel)) (fun _ h9 => h9) rfl (by decide +kernel) rfl rfl (Nat.le_of_ble_eq_true rfl) dX6_readsNumber_59 (fun H locs hP _ hS => ?_)
          rw [sX6I (by decide)] at hP
          refine lv_iinc (v := (v3 + (1 : Int32))) (lv' := [(3, .int (v3 + (1 : Int32))), (0, .ref (z.2.1 0)), (1, .int v1), (2, .int v2)]) hx hb dX6_readsNumber_62 hl (k := 3) rfl rfl (by decide) rfl (fun ls hl => ?_)
          refine lv_goto (tgt := 9) hx hb dX6_readsNumber_65 (by decide) ?_
          exact ih_9 v1 v2 (v3 + (1 : Int32)) (pI (pI σ 6 v1.toNatClampNeg ((((10 : Int32) * (gI σ 6 v1.toNatClampNeg)) + q_8) - (48 : Int32))) 0 8 ((gI (pI σ 6 v1.toNatClampNeg ((((10 : Int32) * (gI σ 6 v1.toNatClampNeg)) + q_8) - (48 : Int32))) 0 8) + (1 : Int32))) _ _ _ hP hS (lv_sub hl [1, 2, 3, 0] rfl) hf
  refine lv_aload_n hx hb dX6_readsNumber_0 rfl (lv_at hl 0 rfl) ?_
  refine va_get (D := z.1) (ci := 6) (v := .ref (z.2.1 6)) (C := RX6) (T := TX6) (N := 29) hx hb hts in_X6 hown hK hP 0 (wl_at (by decide) cX6) rfl 6 (by decide) (hts (.fieldLink RX6 25 "TillOneOfSortModel" "told" "[I") (by decide +kernel)) (fun _ h9 => h9) rfl dX6_readsNumber_1 ?_
  refine lv_iload_n hx hb dX6_readsNumber_4 rfl (lv_at hl 1 rfl) ?_
  refine lv_iconst (v := (0 : Int32)) hx hb dX6_readsNumber_5 (by decide) ?_
  obtain ⟨c_1001, hf⟩ := x_ck hf
  refine va_iast hx hb hK hP (wl_D hz _) hS 6 0 (wl_at (by decide) cMI2) rfl (ci_in c_1001) dX6_readsNumber_6 (fun H locs hP _ hS => ?_)
  rw [sMI2] at hP
  refine lv_iconst (v := (0 : Int32)) hx hb dX6_readsNumber_7 (by decide) ?_
  refine lv_istore_n (lv' := [(3, .int (0 : Int32)), (0, .ref (z.2.1 0)), (1, .int a0), (2, .int a1)]) hx hb dX6_readsNumber_8 rfl hl (by decide) rfl (fun ls hl => ?_)
  exact L_9 1000 a0 a1 (0 : Int32) (pI σ 6 a0.toNatClampNeg (0 : Int32)) _ _ _ hP hS (lv_sub hl [1, 2, 3, 0] rfl) hf
set_option maxHeartbeats 40000000 in
set_option maxRecDepth 100000 in
theorem kX6_kindOf (l : Launch) {a0 : Int32}  {r : Int32} (hf : fX6_kindOf a0 = some r) : KS l yX6_kindOf wsX6_kindOf (0) (0) [.int a0] (some (.int r)) := by
  rw [fX6_kindOf] at hf
  refine Met.ofW (cc := cX6_kindOf) (maxL := 1) (ret := (some .int)) (by decide) rfl ?_
  intro p e s m args below meth c s₁ B hml hv
  obtain ⟨rfl, -⟩ := hv
  have hx := B.exec
  have hb := B.bytes
  have hr := B.returns
  have hts := atoms_spec (ws := wsX6_kindOf) B.pre
  have hown : s.vm.findClass RX6 = some m.cls := findClass_of_methodNamed B.named
  have hlocks := B.notSynchronized
  have hl := lv_entry ([.int a0]) (n := 1) (Nat.le_of_ble_eq_true rfl)
  rw [lg_entry_eq]
  generalize (lg_sl ([.int a0]) ++ List.replicate (1 - (lg_sl ([.int a0])).length) Slot.unset).toArray = ls at hl ⊢
  have hl : lv_has ls 1 [(0, .int a0)] := hl
  refine lv_iload_n hx hb dX6_kindOf_0 rfl (lv_at hl 0 rfl) ?_
  by_cases c_1001 : a0 = (97 : Int32)
  · have hf := (if_pos c_1001).symm.trans hf
    refine lv_tableIn (off := 99) (tgt := 100) hx hb dX6_kindOf_1 (by rw [c_1001]; decide) (by rw [c_1001]; decide) (by rw [c_1001]; rfl) (by decide) ?_
    refine lv_iconst (v := (2 : Int32)) hx hb dX6_kindOf_100 (by decide) ?_
    exact xs_iret hx hb hr hlocks dX6_kindOf_101 (Option.some.inj hf)
  · have hf := (if_neg c_1001).symm.trans hf
    by_cases c_1002 : a0 = (98 : Int32)
    · have hf := (if_pos c_1002).symm.trans hf
      refine lv_tableIn (off := 105) (tgt := 106) hx hb dX6_kindOf_1 (by rw [c_1002]; decide) (by rw [c_1002]; decide) (by rw [c_1002]; rfl) (by decide) ?_
      refine lv_iconst (v := (5 : Int32)) hx hb dX6_kindOf_106 (by decide) ?_
      exact xs_iret hx hb hr hlocks dX6_kindOf_107 (Option.some.inj hf)
    · have hf := (if_neg c_1002).symm.trans hf
      by_cases c_1003 : a0 = (99 : Int32)
      · have hf := (if_pos c_1003).symm.trans hf
        refine lv_tableIn (off := 97) (tgt := 98) hx hb dX6_kindOf_1 (by rw [c_1003]; decide) (by rw [c_1003]; decide) (by rw [c_1003]; rfl) (by decide) ?_
        refine lv_iconst (v := (1 : Int32)) hx hb dX6_kindOf_98 (by decide) ?_
        exact xs_iret hx hb hr hlocks dX6_kindOf_99 (Option.some.inj hf)
      · have hf := (if_neg c_1003).symm.trans hf
        by_cases c_1004 : a0 = (101 : Int32)
        · have hf := (if_pos c_1004).symm.trans hf
          refine lv_tableIn (off := 101) (tgt := 102) hx hb dX6_kindOf_1 (by rw [c_1004]; decide) (by rw [c_1004]; decide) (by rw [c_1004]; rfl) (by decide) ?_
          refine lv_iconst (v := (3 : Int32)) hx hb dX6_kindOf_102 (by decide) ?_
          exact xs_iret hx hb hr hlocks dX6_kindOf_103 (Option.some.inj hf)
        · have hf := (if_neg c_1004).symm.trans hf
          by_cases c_1005 : a0 = (114 : Int32)
          · have hf := (if_pos c_1005).symm.trans hf
            refine lv_tableIn (off := 103) (tgt := 104) hx hb dX6_kindOf_1 (by rw [c_1005]; decide) (by rw [c_1005]; decide) (by rw [c_1005]; rfl) (by decide) ?_
            refine lv_iconst (v := (4 : Int32)) hx hb dX6_kindOf_104 (by decide) ?_
            exact xs_iret hx hb hr hlocks dX6_kindOf_105 (Option.some.inj hf)
          · have hf := (if_neg c_1005).symm.trans hf
            by_cases c_1006 : a0 = (116 : Int32)
            · have hf := (if_pos c_1006).symm.trans hf
              refine lv_tableIn (off := 95) (tgt := 96) hx hb dX6_kindOf_1 (by rw [c_1006]; decide) (by rw [c_1006]; decide) (by rw [c_1006]; rfl) (by decide) ?_
              refine lv_iconst (v := (0 : Int32)) hx hb dX6_kindOf_96 (by decide) ?_
              exact xs_iret hx hb hr hlocks dX6_kindOf_97 (Option.some.inj hf)
            · have hf := (if_neg c_1006).symm.trans hf
              refine x_tableD (tgt := 108) hx hb dX6_kindOf_1 (fun k h1 h2 => ?_) (by decide) ?_
              · rcases (show k = 97 ∨ k = 98 ∨ k = 99 ∨ k = 100 ∨ k = 101 ∨ k = 102 ∨ k = 103 ∨ k = 104 ∨ k = 105 ∨ k = 106 ∨ k = 107 ∨ k = 108 ∨ k = 109 ∨ k = 110 ∨ k = 111 ∨ k = 112 ∨ k = 113 ∨ k = 114 ∨ k = 115 ∨ k = 116 by omega) with rfl | rfl | rfl | rfl | rfl | rfl | rfl | rfl | rfl | rfl | rfl | rfl | rfl | rfl | rfl | rfl | rfl | rfl | rfl | rfl
                · exact Or.inl (x_ne c_1001 (by decide))
                · exact Or.inl (x_ne c_1002 (by decide))
                · exact Or.inl (x_ne c_1003 (by decide))
                · exact Or.inr rfl
                · exact Or.inl (x_ne c_1004 (by decide))
                · exact Or.inr rfl
                · exact Or.inr rfl
                · exact Or.inr rfl
                · exact Or.inr rfl
                · exact Or.inr rfl
                · exact Or.inr rfl
                · exact Or.inr rfl
                · exact Or.inr rfl
                · exact Or.inr rfl
                · exact Or.inr rfl
                · exact Or.inr rfl
                · exact Or.inr rfl
                · exact Or.inl (x_ne c_1005 (by decide))
                · exact Or.inr rfl
                · exact Or.inl (x_ne c_1006 (by decide))
              · refine lv_bipush (v := (-9 : Int32)) hx hb dX6_kindOf_108 (by decide) ?_
                exact xs_iret hx hb hr hlocks dX6_kindOf_110 (Option.some.inj hf)
set_option maxHeartbeats 40000000 in
set_option maxRecDepth 100000 in
theorem kX6_readsKind (l : Launch) (z : Cx) (hz : okC 8 z)   {σ σ' : Mm} {r : Int32} (hf : fX6_readsKind σ = some (r, σ')) : KG 8 ceM l yX6_readsKind wsX6_readsKind (2) (44) [.ref (z.2.1 0)] z σ σ' (some (.int r)) := by
  rw [fX6_readsKind] at hf
  refine Met.ofW (cc := cX6_readsKind) (maxL := 1) (ret := (some .boolean)) (by decide) rfl ?_
  intro p e s m args below meth c s₁ B hml hv
  obtain ⟨rfl, hP, hK, hE⟩ := hv
  have hx := B.exec
  have hb := B.bytes
  have hr := B.returns
  have hts := atoms_spec (ws := wsX6_readsKind) B.pre
  have hown : s.vm.findClass RX6 = some m.cls := findClass_of_methodNamed B.named
  have hlocks := B.notSynchronized
  have in_X6 : ∀ w ∈ wsX60, w ∈ wsX6_readsKind := by decide +kernel
  have hS : va_S (aG 8 z) s.heap s.heap [] := va_S.rf
  have hl := lv_entry ([.ref (z.2.1 0)]) (n := 1) (Nat.le_of_ble_eq_true rfl)
  rw [lg_entry_eq]
  generalize (lg_sl ([.ref (z.2.1 0)]) ++ List.replicate (1 - (lg_sl ([.ref (z.2.1 0)])).length) Slot.unset).toArray = ls at hl ⊢
  have hl : lv_has ls 1 [(0, .ref (z.2.1 0))] := hl
  refine lv_aload_n hx hb dX6_readsKind_0 rfl (lv_at hl 0 rfl) ?_
  refine va_get (D := z.1) (ci := 6) (v := .ref (z.2.1 6)) (C := RX6) (T := TX6) (N := 29) hx hb hts in_X6 hown hK hP 0 (wl_at (by decide) cX6) rfl 6 (by decide) (hts (.fieldLink RX6 25 "TillOneOfSortModel" "told" "[I") (by decide +kernel)) (fun _ h9 => h9) rfl dX6_readsKind_1 ?_
  refine lv_iconst (v := (0 : Int32)) hx hb dX6_readsKind_4 (by decide) ?_
  refine lv_aload_n hx hb dX6_readsKind_5 rfl (lv_at hl 0 rfl) ?_
  obtain ⟨q_1001, hq_1001, hf⟩ := x_bd hf
  refine x_callGi (va_runV (As := []) (rest := [.int (0 : Int32), .ref (z.2.1 6)]) ⟨hx, hb, hml, hown, hts⟩ (kX6_sign l z hz hq_1001) (cwV 0 hts gX6_readsKind_X6_sign rfl rfl rfl (by decide +kernel) ⟨Nat.le_of_ble_eq_true rfl, Nat.le_of_ble_eq_true rfl⟩) (pvG hK hP hE hS (va_recv hK hP (ci := 6) (q0 := 0) rfl (wl_at (by decide) cX6))) rfl rfl hl.1 rfl (lv_room (Nat.le_of_ble_eq_true rfl)) dX6_readsKind_6 ⟨Nat.zero_le _, Nat.zero_le _⟩) hS (fun H locs hP hS => ?_)
  obtain ⟨q_1002, hq_1002, hf⟩ := x_bd hf
  refine x_callSi (va_runS (As := [.int q_1001]) (rest := [.int (0 : Int32), .ref (z.2.1 6)]) ⟨hx, hb, hml, hown, hts⟩ (kX6_kindOf l hq_1002) (va_cwS 1 hts gX6_readsKind_X6_kindOf rfl rfl rfl (by decide +kernel) ⟨Nat.le_of_ble_eq_true rfl, Nat.le_of_ble_eq_true rfl⟩) psS rfl rfl hl.1 rfl (lv_room (Nat.le_of_ble_eq_true rfl)) dX6_readsKind_9 ⟨Nat.zero_le _, Nat.zero_le _⟩) ?_
  obtain ⟨c_1003, hf⟩ := x_ck hf
  refine va_iast hx hb hK hP (wl_D hz _) hS 6 0 (wl_at (by decide) cMI2) rfl (ci_in c_1003) dX6_readsKind_12 (fun H locs hP _ hS => ?_)
  rw [sMI2] at hP
  refine lv_aload_n hx hb dX6_readsKind_13 rfl (lv_at hl 0 rfl) ?_
  refine va_get (D := z.1) (ci := 6) (v := .ref (z.2.1 6)) (C := RX6) (T := TX6) (N := 29) hx hb hts in_X6 hown hK hP 0 (wl_at (by decide) cX6) rfl 6 (by decide) (hts (.fieldLink RX6 25 "TillOneOfSortModel" "told" "[I") (by decide +kernel)) (fun _ h9 => h9) rfl dX6_readsKind_14 ?_
  refine lv_iconst (v := (0 : Int32)) hx hb dX6_readsKind_17 (by decide) ?_
  obtain ⟨c_1004, hf⟩ := x_ck hf
  refine va_iald hx hb hK hP 6 0 (wl_at (by decide) cMI2) rfl (ci_in c_1004) dX6_readsKind_18 ?_
  refine lv_if_ge (tgt := 24) hx hb dX6_readsKind_19 (by decide) (fun c_1005 => ?_) (fun c_1005 => ?_)
  · have hf := (if_pos c_1005).symm.trans hf
    refine lv_aload_n hx hb dX6_readsKind_24 rfl (lv_at hl 0 rfl) ?_
    refine lv_dup hx hb dX6_readsKind_25 rfl ?_
    refine va_get (D := z.1) (ci := 6) (v := .int (gI (pI σ 6 (0 : Int32).toNatClampNeg q_1002) 0 8)) (C := RX6) (T := TX6) (N := 29) hx hb hts in_X6 hown hK hP 0 (wl_at (by decide) cX6) rfl 8 (by decide) (hts (.fieldLink RX6 46 "TillOneOfSortModel" "at" "I") (by decide +kernel)) (fun _ h9 => h9) rfl dX6_readsKind_26 ?_
    refine lv_iconst (v := (1 : Int32)) hx hb dX6_readsKind_29 (by decide) ?_
    refine lv_iadd hx hb dX6_readsKind_30 ?_
    refine va_put (D := z.1) (ci := 6) (v := .int ((gI (pI σ 6 (0 : Int32).toNatClampNeg q_1002) 0 8) + (1 : Int32))) (ty := .int) (C := RX6) (T := TX6) (N := 29) hx hb hts in_X6 tyX6 tyX6_ok nmX6 hown hK hP (wl_D hz _) hS 0 (wl_at (by decide) cX6) rfl 8 (by decide) (hts (.fieldLink RX6 46 "TillOneOfSortModel" "at" "I") (by decide +kernel)) (fun _ h9 => h9) rfl (by decide +kernel) rfl rfl (Nat.le_of_ble_eq_true rfl) dX6_readsKind_31 (fun H locs hP _ hS => ?_)
    rw [sX6I (by decide)] at hP
    refine lv_aload_n hx hb dX6_readsKind_34 rfl (lv_at hl 0 rfl) ?_
    refine lv_iconst (v := (1 : Int32)) hx hb dX6_readsKind_35 (by decide) ?_
    refine lv_iconst (v := (1 : Int32)) hx hb dX6_readsKind_36 (by decide) ?_
    obtain ⟨q_1006, hq_1006, hf⟩ := x_bd hf
    refine x_callGi (va_runV (As := [.int (1 : Int32), .int (1 : Int32)]) (rest := []) ⟨hx, hb, hml, hown, hts⟩ (kX6_readsNumber l z hz hq_1006) (cwV 2 hts gX6_readsKind_X6_readsNumber rfl rfl rfl (by decide +kernel) ⟨Nat.le_of_ble_eq_true rfl, Nat.le_of_ble_eq_true rfl⟩) (pvG hK hP hE hS (va_recv hK hP (ci := 6) (q0 := 0) rfl (wl_at (by decide) cX6))) rfl rfl hl.1 rfl (lv_room (Nat.le_of_ble_eq_true rfl)) dX6_readsKind_37 ⟨Nat.zero_le _, Nat.zero_le _⟩) hS (fun H locs hP hS => ?_)
    obtain ⟨c_1007, hf⟩ := x_ck hf
    exact x_zret hx hb hr hlocks hP hS dX6_readsKind_40 (x_nb c_1007) (Prod.mk.inj (Option.some.inj hf)).1 (Prod.mk.inj (Option.some.inj hf)).2
  · have hf := (if_neg c_1005).symm.trans hf
    refine lv_iconst (v := (0 : Int32)) hx hb dX6_readsKind_22 (by decide) ?_
    exact x_zret hx hb hr hlocks hP hS dX6_readsKind_23 rfl (Prod.mk.inj (Option.some.inj hf)).1 (Prod.mk.inj (Option.some.inj hf)).2
set_option maxHeartbeats 40000000 in
set_option maxRecDepth 100000 in
theorem kX6_readsLean (l : Launch) (z : Cx) (hz : okC 8 z)   {σ σ' : Mm} {r : Int32} (hf : fX6_readsLean σ = some (r, σ')) : KG 8 ceM l yX6_readsLean wsX6_readsLean (2) (44) [.ref (z.2.1 0)] z σ σ' (some (.int r)) := by
  rw [fX6_readsLean] at hf
  refine Met.ofW (cc := cX6_readsLean) (maxL := 2) (ret := (some .boolean)) (by decide) rfl ?_
  intro p e s m args below meth c s₁ B hml hv
  obtain ⟨rfl, hP, hK, hE⟩ := hv
  have hx := B.exec
  have hb := B.bytes
  have hr := B.returns
  have hts := atoms_spec (ws := wsX6_readsLean) B.pre
  have hown : s.vm.findClass RX6 = some m.cls := findClass_of_methodNamed B.named
  have hlocks := B.notSynchronized
  have in_X6 : ∀ w ∈ wsX60, w ∈ wsX6_readsLean := by decide +kernel
  have hS : va_S (aG 8 z) s.heap s.heap [] := va_S.rf
  have hl := lv_entry ([.ref (z.2.1 0)]) (n := 2) (Nat.le_of_ble_eq_true rfl)
  rw [lg_entry_eq]
  generalize (lg_sl ([.ref (z.2.1 0)]) ++ List.replicate (2 - (lg_sl ([.ref (z.2.1 0)])).length) Slot.unset).toArray = ls at hl ⊢
  have hl : lv_has ls 2 [(0, .ref (z.2.1 0))] := hl
  have j_19 : ∀ (v1 : Int32) (σ : Mm) (H : Heap) (locs : List Loc) (ls : Array Slot), va_P z.1 vwCl (wl 8 z.2.1 (ceM z σ)) H → va_S (aG 8 z) s.heap H locs → lv_has ls 2 [(0, .ref (z.2.1 0)), (1, .int v1)] → fX6_readsLean_19 v1 σ = some (r, σ') → W p l e (headSpec wsX6_readsLean ({ frames := 2, cells := 0, slots := 0, locals := 44 })).room s m ([.ref (z.2.1 0)] : List Value).toArray below meth c H locs 0 0 (MQ below (qcG 8 ceM z σ' (some (.int r))) ([.ref (z.2.1 0)] : List Value).toArray s 0 0 (aG 8 z)) (F0 m 19 ls []) := by
    intro v1 σ H locs ls hP hS hl hf
    rw [fX6_readsLean_19] at hf
    refine lv_aload_n hx hb dX6_readsLean_19 rfl (lv_at hl 0 rfl) ?_
    refine lv_dup hx hb dX6_readsLean_20 rfl ?_
    refine va_get (D := z.1) (ci := 6) (v := .int (gI σ 0 8)) (C := RX6) (T := TX6) (N := 29) hx hb hts in_X6 hown hK hP 0 (wl_at (by decide) cX6) rfl 8 (by decide) (hts (.fieldLink RX6 46 "TillOneOfSortModel" "at" "I") (by decide +kernel)) (fun _ h9 => h9) rfl dX6_readsLean_21 ?_
    refine lv_iconst (v := (1 : Int32)) hx hb dX6_readsLean_24 (by decide) ?_
    refine lv_iadd hx hb dX6_readsLean_25 ?_
    refine va_put (D := z.1) (ci := 6) (v := .int ((gI σ 0 8) + (1 : Int32))) (ty := .int) (C := RX6) (T := TX6) (N := 29) hx hb hts in_X6 tyX6 tyX6_ok nmX6 hown hK hP (wl_D hz _) hS 0 (wl_at (by decide) cX6) rfl 8 (by decide) (hts (.fieldLink RX6 46 "TillOneOfSortModel" "at" "I") (by decide +kernel)) (fun _ h9 => h9) rfl (by decide +kernel) rfl rfl (Nat.le_of_ble_eq_true rfl) dX6_readsLean_26 (fun H locs hP _ hS => ?_)
    rw [sX6I (by decide)] at hP
    refine lv_aload_n hx hb dX6_readsLean_29 rfl (lv_at hl 0 rfl) ?_
    refine lv_iconst (v := (0 : Int32)) hx hb dX6_readsLean_30 (by decide) ?_
    refine lv_iconst (v := (1 : Int32)) hx hb dX6_readsLean_31 (by decide) ?_
    obtain ⟨q_4, hq_4, hf⟩ := x_bd hf
    refine x_callGi (va_runV (As := [.int (0 : Int32), .int (1 : Int32)]) (rest := []) ⟨hx, hb, hml, hown, hts⟩ (kX6_readsNumber l z hz hq_4) (cwV 2 hts gX6_readsLean_X6_readsNumber rfl rfl rfl (by decide +kernel) ⟨Nat.le_of_ble_eq_true rfl, Nat.le_of_ble_eq_true rfl⟩) (pvG hK hP hE hS (va_recv hK hP (ci := 6) (q0 := 0) rfl (wl_at (by decide) cX6))) rfl rfl hl.1 rfl (lv_room (Nat.le_of_ble_eq_true rfl)) dX6_readsLean_32 ⟨Nat.zero_le _, Nat.zero_le _⟩) hS (fun H locs hP hS => ?_)
    refine lv_if_ne (tgt := 40) hx hb dX6_readsLean_35 (by decide) (fun c_5 => ?_) (fun c_5 => ?_)
    · have hf := (if_neg c_5).symm.trans hf
      refine lv_aload_n hx hb dX6_readsLean_40 rfl (lv_at hl 0 rfl) ?_
      refine va_get (D := z.1) (ci := 6) (v := .ref (z.2.1 6)) (C := RX6) (T := TX6) (N := 29) hx hb hts in_X6 hown hK hP 0 (wl_at (by decide) cX6) rfl 6 (by decide) (hts (.fieldLink RX6 25 "TillOneOfSortModel" "told" "[I") (by decide +kernel)) (fun _ h9 => h9) rfl dX6_readsLean_41 ?_
      refine lv_iconst (v := (0 : Int32)) hx hb dX6_readsLean_44 (by decide) ?_
      refine lv_iload_n hx hb dX6_readsLean_45 rfl (lv_at hl 1 rfl) ?_
      refine lv_bipush (v := (45 : Int32)) hx hb dX6_readsLean_46 (by decide) ?_
      refine lv_icmp_ne (tgt := 61) hx hb dX6_readsLean_48 (by decide) (fun c_6 => ?_) (fun c_6 => ?_)
      · have hf := (if_neg c_6).symm.trans hf
        refine lv_aload_n hx hb dX6_readsLean_61 rfl (lv_at hl 0 rfl) ?_
        refine va_get (D := z.1) (ci := 6) (v := .ref (z.2.1 6)) (C := RX6) (T := TX6) (N := 29) hx hb hts in_X6 hown hK hP 0 (wl_at (by decide) cX6) rfl 6 (by decide) (hts (.fieldLink RX6 25 "TillOneOfSortModel" "told" "[I") (by decide +kernel)) (fun _ h9 => h9) rfl dX6_readsLean_62 ?_
        refine lv_iconst (v := (0 : Int32)) hx hb dX6_readsLean_65 (by decide) ?_
        obtain ⟨c_7, hf⟩ := x_ck hf
        refine va_iald hx hb hK hP 6 0 (wl_at (by decide) cMI2) rfl (ci_in c_7) dX6_readsLean_66 ?_
        obtain ⟨c_8, hf⟩ := x_ck hf
        refine va_iast hx hb hK hP (wl_D hz _) hS 6 0 (wl_at (by decide) cMI2) rfl (ci_in c_8) dX6_readsLean_67 (fun H locs hP _ hS => ?_)
        rw [sMI2] at hP
        refine lv_iconst (v := (1 : Int32)) hx hb dX6_readsLean_68 (by decide) ?_
        exact x_zret hx hb hr hlocks hP hS dX6_readsLean_69 rfl (Prod.mk.inj (Option.some.inj hf)).1 (Prod.mk.inj (Option.some.inj hf)).2
      · have hf := (if_pos c_6).symm.trans hf
        refine lv_aload_n hx hb dX6_readsLean_51 rfl (lv_at hl 0 rfl) ?_
        refine va_get (D := z.1) (ci := 6) (v := .ref (z.2.1 6)) (C := RX6) (T := TX6) (N := 29) hx hb hts in_X6 hown hK hP 0 (wl_at (by decide) cX6) rfl 6 (by decide) (hts (.fieldLink RX6 25 "TillOneOfSortModel" "told" "[I") (by decide +kernel)) (fun _ h9 => h9) rfl dX6_readsLean_52 ?_
        refine lv_iconst (v := (0 : Int32)) hx hb dX6_readsLean_55 (by decide) ?_
        obtain ⟨c_9, hf⟩ := x_ck hf
        refine va_iald hx hb hK hP 6 0 (wl_at (by decide) cMI2) rfl (ci_in c_9) dX6_readsLean_56 ?_
        refine lv_ineg hx hb dX6_readsLean_57 ?_
        refine lv_goto (tgt := 67) hx hb dX6_readsLean_58 (by decide) ?_
        obtain ⟨c_10, hf⟩ := x_ck hf
        refine va_iast hx hb hK hP (wl_D hz _) hS 6 0 (wl_at (by decide) cMI2) rfl (ci_in c_10) dX6_readsLean_67 (fun H locs hP _ hS => ?_)
        rw [sMI2] at hP
        refine lv_iconst (v := (1 : Int32)) hx hb dX6_readsLean_68 (by decide) ?_
        exact x_zret hx hb hr hlocks hP hS dX6_readsLean_69 rfl (Prod.mk.inj (Option.some.inj hf)).1 (Prod.mk.inj (Option.some.inj hf)).2
    · have hf := (if_pos c_5).symm.trans hf
      refine lv_iconst (v := (0 : Int32)) hx hb dX6_readsLean_38 (by decide) ?_
      exact x_zret hx hb hr hlocks hP hS dX6_readsLean_39 rfl (Prod.mk.inj (Option.some.inj hf)).1 (Prod.mk.inj (Option.some.inj hf)).2
  refine lv_aload_n hx hb dX6_readsLean_0 rfl (lv_at hl 0 rfl) ?_
  obtain ⟨q_1001, hq_1001, hf⟩ := x_bd hf
  refine x_callGi (va_runV (As := []) (rest := []) ⟨hx, hb, hml, hown, hts⟩ (kX6_sign l z hz hq_1001) (cwV 0 hts gX6_readsLean_X6_sign rfl rfl rfl (by decide +kernel) ⟨Nat.le_of_ble_eq_true rfl, Nat.le_of_ble_eq_true rfl⟩) (pvG hK hP hE hS (va_recv hK hP (ci := 6) (q0 := 0) rfl (wl_at (by decide) cX6))) rfl rfl hl.1 rfl (lv_room (Nat.le_of_ble_eq_true rfl)) dX6_readsLean_1 ⟨Nat.zero_le _, Nat.zero_le _⟩) hS (fun H locs hP hS => ?_)
  refine lv_istore_n (lv' := [(1, .int q_1001), (0, .ref (z.2.1 0))]) hx hb dX6_readsLean_4 rfl hl (by decide) rfl (fun ls hl => ?_)
  refine lv_iload_n hx hb dX6_readsLean_5 rfl (lv_at hl 0 rfl) ?_
  refine lv_bipush (v := (43 : Int32)) hx hb dX6_readsLean_6 (by decide) ?_
  refine lv_icmp_eq (tgt := 19) hx hb dX6_readsLean_8 (by decide) (fun c_1002 => ?_) (fun c_1002 => ?_)
  · have hf := (if_pos c_1002).symm.trans hf
    exact j_19 q_1001 σ _ _ _ hP hS (lv_sub hl [1, 0] rfl) hf
  · have hf := (if_neg c_1002).symm.trans hf
    refine lv_iload_n hx hb dX6_readsLean_11 rfl (lv_at hl 0 rfl) ?_
    refine lv_bipush (v := (45 : Int32)) hx hb dX6_readsLean_12 (by decide) ?_
    refine lv_icmp_eq (tgt := 19) hx hb dX6_readsLean_14 (by decide) (fun c_1003 => ?_) (fun c_1003 => ?_)
    · have hf := (if_pos c_1003).symm.trans hf
      exact j_19 q_1001 σ _ _ _ hP hS (lv_sub hl [1, 0] rfl) hf
    · have hf := (if_neg c_1003).symm.trans hf
      refine lv_iconst (v := (0 : Int32)) hx hb dX6_readsLean_17 (by decide) ?_
      exact x_zret hx hb hr hlocks hP hS dX6_readsLean_18 rfl (Prod.mk.inj (Option.some.inj hf)).1 (Prod.mk.inj (Option.some.inj hf)).2
set_option maxHeartbeats 40000000 in
set_option maxRecDepth 100000 in
theorem kX6_readsFamily (l : Launch) (z : Cx) (hz : okC 8 z)   {σ σ' : Mm} {r : Int32} (hf : fX6_readsFamily σ = some (r, σ')) : KG 8 ceM l yX6_readsFamily wsX6_readsFamily (1) (20) [.ref (z.2.1 0)] z σ σ' (some (.int r)) := by
  rw [fX6_readsFamily] at hf
  refine Met.ofW (cc := cX6_readsFamily) (maxL := 1) (ret := (some .boolean)) (by decide) rfl ?_
  intro p e s m args below meth c s₁ B hml hv
  obtain ⟨rfl, hP, hK, hE⟩ := hv
  have hx := B.exec
  have hb := B.bytes
  have hr := B.returns
  have hts := atoms_spec (ws := wsX6_readsFamily) B.pre
  have hown : s.vm.findClass RX6 = some m.cls := findClass_of_methodNamed B.named
  have hlocks := B.notSynchronized
  have in_X6 : ∀ w ∈ wsX60, w ∈ wsX6_readsFamily := by decide +kernel
  have hS : va_S (aG 8 z) s.heap s.heap [] := va_S.rf
  have hl := lv_entry ([.ref (z.2.1 0)]) (n := 1) (Nat.le_of_ble_eq_true rfl)
  rw [lg_entry_eq]
  generalize (lg_sl ([.ref (z.2.1 0)]) ++ List.replicate (1 - (lg_sl ([.ref (z.2.1 0)])).length) Slot.unset).toArray = ls at hl ⊢
  have hl : lv_has ls 1 [(0, .ref (z.2.1 0))] := hl
  have j_89 : ∀ (σ : Mm) (H : Heap) (locs : List Loc) (ls : Array Slot), va_P z.1 vwCl (wl 8 z.2.1 (ceM z σ)) H → va_S (aG 8 z) s.heap H locs → lv_has ls 1 [(0, .ref (z.2.1 0))] → fX6_readsFamily_89 σ = some (r, σ') → W p l e (headSpec wsX6_readsFamily ({ frames := 1, cells := 0, slots := 0, locals := 20 })).room s m ([.ref (z.2.1 0)] : List Value).toArray below meth c H locs 0 0 (MQ below (qcG 8 ceM z σ' (some (.int r))) ([.ref (z.2.1 0)] : List Value).toArray s 0 0 (aG 8 z)) (F0 m 89 ls []) := by
    intro σ H locs ls hP hS hl hf
    rw [fX6_readsFamily_89] at hf
    refine lv_aload_n hx hb dX6_readsFamily_89 rfl (lv_at hl 0 rfl) ?_
    refine va_get (D := z.1) (ci := 6) (v := .ref (z.2.1 6)) (C := RX6) (T := TX6) (N := 29) hx hb hts in_X6 hown hK hP 0 (wl_at (by decide) cX6) rfl 6 (by decide) (hts (.fieldLink RX6 25 "TillOneOfSortModel" "told" "[I") (by decide +kernel)) (fun _ h9 => h9) rfl dX6_readsFamily_90 ?_
    refine lv_iconst (v := (0 : Int32)) hx hb dX6_readsFamily_93 (by decide) ?_
    obtain ⟨c_3, hf⟩ := x_ck hf
    refine va_iald hx hb hK hP 6 0 (wl_at (by decide) cMI2) rfl (ci_in c_3) dX6_readsFamily_94 ?_
    refine lv_if_le (tgt := 102) hx hb dX6_readsFamily_95 (by decide) (fun c_4 => ?_) (fun c_4 => ?_)
    · have hf := (if_pos c_4).symm.trans hf
      refine lv_iconst (v := (0 : Int32)) hx hb dX6_readsFamily_102 (by decide) ?_
      exact x_zret hx hb hr hlocks hP hS dX6_readsFamily_103 rfl (Prod.mk.inj (Option.some.inj hf)).1 (Prod.mk.inj (Option.some.inj hf)).2
    · have hf := (if_neg c_4).symm.trans hf
      refine lv_iconst (v := (1 : Int32)) hx hb dX6_readsFamily_98 (by decide) ?_
      refine lv_goto (tgt := 103) hx hb dX6_readsFamily_99 (by decide) ?_
      exact x_zret hx hb hr hlocks hP hS dX6_readsFamily_103 rfl (Prod.mk.inj (Option.some.inj hf)).1 (Prod.mk.inj (Option.some.inj hf)).2
  have L_14 : ∀ (n_14 : Nat) (σ : Mm) (H : Heap) (locs : List Loc) (ls : Array Slot), va_P z.1 vwCl (wl 8 z.2.1 (ceM z σ)) H → va_S (aG 8 z) s.heap H locs → lv_has ls 1 [(0, .ref (z.2.1 0))] → fX6_readsFamily_14 n_14 σ = some (r, σ') → W p l e (headSpec wsX6_readsFamily ({ frames := 1, cells := 0, slots := 0, locals := 20 })).room s m ([.ref (z.2.1 0)] : List Value).toArray below meth c H locs 0 0 (MQ below (qcG 8 ceM z σ' (some (.int r))) ([.ref (z.2.1 0)] : List Value).toArray s 0 0 (aG 8 z)) (F0 m 14 ls []) := by
    intro n_14
    induction n_14 with
    | zero =>
      intro σ H locs ls hP hS hl hf
      rw [fX6_readsFamily_14] at hf
      cases hf
    | succ n_14 ih_14 =>
      have j_43 : ∀ (σ : Mm) (H : Heap) (locs : List Loc) (ls : Array Slot), va_P z.1 vwCl (wl 8 z.2.1 (ceM z σ)) H → va_S (aG 8 z) s.heap H locs → lv_has ls 1 [(0, .ref (z.2.1 0))] → fX6_readsFamily_43 (fun wσ => fX6_readsFamily_14 n_14 wσ) σ = some (r, σ') → W p l e (headSpec wsX6_readsFamily ({ frames := 1, cells := 0, slots := 0, locals := 20 })).room s m ([.ref (z.2.1 0)] : List Value).toArray below meth c H locs 0 0 (MQ below (qcG 8 ceM z σ' (some (.int r))) ([.ref (z.2.1 0)] : List Value).toArray s 0 0 (aG 8 z)) (F0 m 43 ls []) := by
        intro σ H locs ls hP hS hl hf
        rw [fX6_readsFamily_43] at hf
        refine lv_aload_n hx hb dX6_readsFamily_43 rfl (lv_at hl 0 rfl) ?_
        refine va_get (D := z.1) (ci := 6) (v := .ref (z.2.1 6)) (C := RX6) (T := TX6) (N := 29) hx hb hts in_X6 hown hK hP 0 (wl_at (by decide) cX6) rfl 6 (by decide) (hts (.fieldLink RX6 25 "TillOneOfSortModel" "told" "[I") (by decide +kernel)) (fun _ h9 => h9) rfl dX6_readsFamily_44 ?_
        refine lv_iconst (v := (1 : Int32)) hx hb dX6_readsFamily_47 (by decide) ?_
        refine lv_dup2_11 hx hb dX6_readsFamily_48 rfl rfl ?_
        obtain ⟨c_11, hf⟩ := x_ck hf
        refine va_iald hx hb hK hP 6 0 (wl_at (by decide) cMI2) rfl (ci_in c_11) dX6_readsFamily_49 ?_
        refine lv_aload_n hx hb dX6_readsFamily_50 rfl (lv_at hl 0 rfl) ?_
        obtain ⟨q_12, hq_12, hf⟩ := x_bd hf
        refine x_callGi (va_runV (As := []) (rest := [.int (gI σ 6 (1 : Int32).toNatClampNeg), .int (1 : Int32), .ref (z.2.1 6)]) ⟨hx, hb, hml, hown, hts⟩ (kX6_sign l z hz hq_12) (cwV 0 hts gX6_readsFamily_X6_sign rfl rfl rfl (by decide +kernel) ⟨Nat.le_of_ble_eq_true rfl, Nat.le_of_ble_eq_true rfl⟩) (pvG hK hP hE hS (va_recv hK hP (ci := 6) (q0 := 0) rfl (wl_at (by decide) cX6))) rfl rfl hl.1 rfl (lv_room (Nat.le_of_ble_eq_true rfl)) dX6_readsFamily_51 ⟨Nat.zero_le _, Nat.zero_le _⟩) hS (fun H locs hP hS => ?_)
        refine lv_bipush (v := (48 : Int32)) hx hb dX6_readsFamily_54 (by decide) ?_
        refine lv_isub hx hb dX6_readsFamily_56 ?_
        refine lv_aload_n hx hb dX6_readsFamily_57 rfl (lv_at hl 0 rfl) ?_
        refine va_get (D := z.1) (ci := 6) (v := .ref (z.2.1 6)) (C := RX6) (T := TX6) (N := 29) hx hb hts in_X6 hown hK hP 0 (wl_at (by decide) cX6) rfl 6 (by decide) (hts (.fieldLink RX6 25 "TillOneOfSortModel" "told" "[I") (by decide +kernel)) (fun _ h9 => h9) rfl dX6_readsFamily_58 ?_
        refine lv_iconst (v := (0 : Int32)) hx hb dX6_readsFamily_61 (by decide) ?_
        obtain ⟨c_13, hf⟩ := x_ck hf
        refine va_iald hx hb hK hP 6 0 (wl_at (by decide) cMI2) rfl (ci_in c_13) dX6_readsFamily_62 ?_
        refine lv_ishl hx hb dX6_readsFamily_63 ?_
        refine lv_ior hx hb dX6_readsFamily_64 ?_
        obtain ⟨c_14, hf⟩ := x_ck hf
        refine va_iast hx hb hK hP (wl_D hz _) hS 6 0 (wl_at (by decide) cMI2) rfl (ci_in c_14) dX6_readsFamily_65 (fun H locs hP _ hS => ?_)
        rw [sMI2] at hP
        refine lv_aload_n hx hb dX6_readsFamily_66 rfl (lv_at hl 0 rfl) ?_
        refine va_get (D := z.1) (ci := 6) (v := .ref (z.2.1 6)) (C := RX6) (T := TX6) (N := 29) hx hb hts in_X6 hown hK hP 0 (wl_at (by decide) cX6) rfl 6 (by decide) (hts (.fieldLink RX6 25 "TillOneOfSortModel" "told" "[I") (by decide +kernel)) (fun _ h9 => h9) rfl dX6_readsFamily_67 ?_
        refine lv_iconst (v := (0 : Int32)) hx hb dX6_readsFamily_70 (by decide) ?_
        refine lv_dup2_11 hx hb dX6_readsFamily_71 rfl rfl ?_
        obtain ⟨c_15, hf⟩ := x_ck hf
        refine va_iald hx hb hK hP 6 0 (wl_at (by decide) cMI2) rfl (ci_in c_15) dX6_readsFamily_72 ?_
        refine lv_iconst (v := (1 : Int32)) hx hb dX6_readsFamily_73 (by decide) ?_
        refine lv_iadd hx hb dX6_readsFamily_74 ?_
        obtain ⟨c_16, hf⟩ := x_ck hf
        refine va_iast hx hb hK hP (wl_D hz _) hS 6 0 (wl_at (by decide) cMI2) rfl (ci_in c_16) dX6_readsFamily_75 (fun H locs hP _ hS => ?_)
        rw [sMI2] at hP
        refine lv_aload_n hx hb dX6_readsFamily_76 rfl (lv_at hl 0 rfl) ?_
        refine lv_dup hx hb dX6_readsFamily_77 rfl ?_
        refine va_get (D := z.1) (ci := 6) (v := .int (gI (pI (pI σ 6 (1 : Int32).toNatClampNeg ((gI σ 6 (1 : Int32).toNatClampNeg) ||| ((q_12 - (48 : Int32)) <<< ((gI σ 6 (0 : Int32).toNatClampNeg) &&& 31)))) 6 (0 : Int32).toNatClampNeg ((gI (pI σ 6 (1 : Int32).toNatClampNeg ((gI σ 6 (1 : Int32).toNatClampNeg) ||| ((q_12 - (48 : Int32)) <<< ((gI σ 6 (0 : Int32).toNatClampNeg) &&& 31)))) 6 (0 : Int32).toNatClampNeg) + (1 : Int32))) 0 8)) (C := RX6) (T := TX6) (N := 29) hx hb hts in_X6 hown hK hP 0 (wl_at (by decide) cX6) rfl 8 (by decide) (hts (.fieldLink RX6 46 "TillOneOfSortModel" "at" "I") (by decide +kernel)) (fun _ h9 => h9) rfl dX6_readsFamily_78 ?_
        refine lv_iconst (v := (1 : Int32)) hx hb dX6_readsFamily_81 (by decide) ?_
        refine lv_iadd hx hb dX6_readsFamily_82 ?_
        refine va_put (D := z.1) (ci := 6) (v := .int ((gI (pI (pI σ 6 (1 : Int32).toNatClampNeg ((gI σ 6 (1 : Int32).toNatClampNeg) ||| ((q_12 - (48 : Int32)) <<< ((gI σ 6 (0 : Int32).toNatClampNeg) &&& 31)))) 6 (0 : Int32).toNatClampNeg ((gI (pI σ 6 (1 : Int32).toNatClampNeg ((gI σ 6 (1 : Int32).toNatClampNeg) ||| ((q_12 - (48 : Int32)) <<< ((gI σ 6 (0 : Int32).toNatClampNeg) &&& 31)))) 6 (0 : Int32).toNatClampNeg) + (1 : Int32))) 0 8) + (1 : Int32))) (ty := .int) (C := RX6) (T := TX6) (N := 29) hx hb hts in_X6 tyX6 tyX6_ok nmX6 hown hK hP (wl_D hz _) hS 0 (wl_at (by decide) cX6) rfl 8 (by decide) (hts (.fieldLink RX6 46 "TillOneOfSortModel" "at" "I") (by decide +kernel)) (fun _ h9 => h9) rfl (by decide +kernel) rfl rfl (Nat.le_of_ble_eq_true rfl) dX6_readsFamily_83 (fun H locs hP _ hS => ?_)
        rw [sX6I (by decide)] at hP
        refine lv_goto (tgt := 14) hx hb dX6_readsFamily_86 (by decide) ?_
        exact ih_14 (pI (pI (pI σ 6 (1 : Int32).toNatClampNeg ((gI σ 6 (1 : Int32).toNatClampNeg) ||| ((q_12 - (48 : Int32)) <<< ((gI σ 6 (0 : Int32).toNatClampNeg) &&& 31)))) 6 (0 : Int32).toNatClampNeg ((gI (pI σ 6 (1 : Int32).toNatClampNeg ((gI σ 6 (1 : Int32).toNatClampNeg) ||| ((q_12 - (48 : Int32)) <<< ((gI σ 6 (0 : Int32).toNatClampNeg) &&& 31)))) 6 (0 : Int32).toNatClampNeg) + (1 : Int32))) 0 8 ((gI (pI (pI σ 6 (1 : Int32).toNatClampNeg ((gI σ 6 (1 : Int32).toNatClampNeg) ||| ((q_12 - (48 : Int32)) <<< ((gI σ 6 (0 : Int32).toNatClampNeg) &&& 31)))) 6 (0 : Int32).toNatClampNeg ((gI (pI σ 6 (1 : Int32).toNatClampNeg ((gI σ 6 (1 : Int32).toNatClampNeg) ||| ((q_12 - (48 : Int32)) <<< ((gI σ 6 (0 : Int32).toNatClampNeg) &&& 31)))) 6 (0 : Int32).toNatClampNeg) + (1 : Int32))) 0 8) + (1 : Int32))) _ _ _ hP hS (lv_sub hl [0] rfl) hf
      intro σ H locs ls hP hS hl hf
      rw [fX6_readsFamily_14] at hf
      refine lv_aload_n hx hb dX6_readsFamily_14 rfl (lv_at hl 0 rfl) ?_
      refine va_get (D := z.1) (ci := 6) (v := .ref (z.2.1 6)) (C := RX6) (T := TX6) (N := 29) hx hb hts in_X6 hown hK hP 0 (wl_at (by decide) cX6) rfl 6 (by decide) (hts (.fieldLink RX6 25 "TillOneOfSortModel" "told" "[I") (by decide +kernel)) (fun _ h9 => h9) rfl dX6_readsFamily_15 ?_
      refine lv_iconst (v := (0 : Int32)) hx hb dX6_readsFamily_18 (by decide) ?_
      obtain ⟨c_5, hf⟩ := x_ck hf
      refine va_iald hx hb hK hP 6 0 (wl_at (by decide) cMI2) rfl (ci_in c_5) dX6_readsFamily_19 ?_
      refine lv_bipush (v := (10 : Int32)) hx hb dX6_readsFamily_20 (by decide) ?_
      refine lv_icmp_ge (tgt := 89) hx hb dX6_readsFamily_22 (by decide) (fun c_6 => ?_) (fun c_6 => ?_)
      · have hf := (if_pos c_6).symm.trans hf
        exact j_89 σ _ _ _ hP hS (lv_sub hl [0] rfl) hf
      · have hf := (if_neg c_6).symm.trans hf
        refine lv_aload_n hx hb dX6_readsFamily_25 rfl (lv_at hl 0 rfl) ?_
        obtain ⟨q_7, hq_7, hf⟩ := x_bd hf
        refine x_callGi (va_runV (As := []) (rest := []) ⟨hx, hb, hml, hown, hts⟩ (kX6_sign l z hz hq_7) (cwV 0 hts gX6_readsFamily_X6_sign rfl rfl rfl (by decide +kernel) ⟨Nat.le_of_ble_eq_true rfl, Nat.le_of_ble_eq_true rfl⟩) (pvG hK hP hE hS (va_recv hK hP (ci := 6) (q0 := 0) rfl (wl_at (by decide) cX6))) rfl rfl hl.1 rfl (lv_room (Nat.le_of_ble_eq_true rfl)) dX6_readsFamily_26 ⟨Nat.zero_le _, Nat.zero_le _⟩) hS (fun H locs hP hS => ?_)
        refine lv_bipush (v := (48 : Int32)) hx hb dX6_readsFamily_29 (by decide) ?_
        refine lv_icmp_eq (tgt := 43) hx hb dX6_readsFamily_31 (by decide) (fun c_8 => ?_) (fun c_8 => ?_)
        · have hf := (if_pos c_8).symm.trans hf
          exact j_43 σ _ _ _ hP hS (lv_sub hl [0] rfl) hf
        · have hf := (if_neg c_8).symm.trans hf
          refine lv_aload_n hx hb dX6_readsFamily_34 rfl (lv_at hl 0 rfl) ?_
          obtain ⟨q_9, hq_9, hf⟩ := x_bd hf
          refine x_callGi (va_runV (As := []) (rest := []) ⟨hx, hb, hml, hown, hts⟩ (kX6_sign l z hz hq_9) (cwV 0 hts gX6_readsFamily_X6_sign rfl rfl rfl (by decide +kernel) ⟨Nat.le_of_ble_eq_true rfl, Nat.le_of_ble_eq_true rfl⟩) (pvG hK hP hE hS (va_recv hK hP (ci := 6) (q0 := 0) rfl (wl_at (by decide) cX6))) rfl rfl hl.1 rfl (lv_room (Nat.le_of_ble_eq_true rfl)) dX6_readsFamily_35 ⟨Nat.zero_le _, Nat.zero_le _⟩) hS (fun H locs hP hS => ?_)
          refine lv_bipush (v := (49 : Int32)) hx hb dX6_readsFamily_38 (by decide) ?_
          refine lv_icmp_ne (tgt := 89) hx hb dX6_readsFamily_40 (by decide) (fun c_10 => ?_) (fun c_10 => ?_)
          · have hf := (if_neg c_10).symm.trans hf
            exact j_89 σ _ _ _ hP hS (lv_sub hl [0] rfl) hf
          · have hf := (if_pos c_10).symm.trans hf
            exact j_43 σ _ _ _ hP hS (lv_sub hl [0] rfl) hf
  refine lv_aload_n hx hb dX6_readsFamily_0 rfl (lv_at hl 0 rfl) ?_
  refine va_get (D := z.1) (ci := 6) (v := .ref (z.2.1 6)) (C := RX6) (T := TX6) (N := 29) hx hb hts in_X6 hown hK hP 0 (wl_at (by decide) cX6) rfl 6 (by decide) (hts (.fieldLink RX6 25 "TillOneOfSortModel" "told" "[I") (by decide +kernel)) (fun _ h9 => h9) rfl dX6_readsFamily_1 ?_
  refine lv_iconst (v := (0 : Int32)) hx hb dX6_readsFamily_4 (by decide) ?_
  refine lv_iconst (v := (0 : Int32)) hx hb dX6_readsFamily_5 (by decide) ?_
  obtain ⟨c_1001, hf⟩ := x_ck hf
  refine va_iast hx hb hK hP (wl_D hz _) hS 6 0 (wl_at (by decide) cMI2) rfl (ci_in c_1001) dX6_readsFamily_6 (fun H locs hP _ hS => ?_)
  rw [sMI2] at hP
  refine lv_aload_n hx hb dX6_readsFamily_7 rfl (lv_at hl 0 rfl) ?_
  refine va_get (D := z.1) (ci := 6) (v := .ref (z.2.1 6)) (C := RX6) (T := TX6) (N := 29) hx hb hts in_X6 hown hK hP 0 (wl_at (by decide) cX6) rfl 6 (by decide) (hts (.fieldLink RX6 25 "TillOneOfSortModel" "told" "[I") (by decide +kernel)) (fun _ h9 => h9) rfl dX6_readsFamily_8 ?_
  refine lv_iconst (v := (1 : Int32)) hx hb dX6_readsFamily_11 (by decide) ?_
  refine lv_iconst (v := (0 : Int32)) hx hb dX6_readsFamily_12 (by decide) ?_
  obtain ⟨c_1002, hf⟩ := x_ck hf
  refine va_iast hx hb hK hP (wl_D hz _) hS 6 0 (wl_at (by decide) cMI2) rfl (ci_in c_1002) dX6_readsFamily_13 (fun H locs hP _ hS => ?_)
  rw [sMI2] at hP
  exact L_14 1000 (pI (pI σ 6 (0 : Int32).toNatClampNeg (0 : Int32)) 6 (1 : Int32).toNatClampNeg (0 : Int32)) _ _ _ hP hS (lv_sub hl [0] rfl) hf
set_option maxHeartbeats 40000000 in
set_option maxRecDepth 100000 in
theorem kX6_readsStatement (l : Launch) (z : Cx) (hz : okC 8 z)   {σ σ' : Mm} {r : Int32} (hf : fX6_readsStatement σ = some (r, σ')) : KG 8 ceM l yX6_readsStatement wsX6_readsStatement (3) (65) [.ref (z.2.1 0)] z σ σ' (some (.int r)) := by
  rw [fX6_readsStatement] at hf
  refine Met.ofW (cc := cX6_readsStatement) (maxL := 3) (ret := (some .boolean)) (by decide) rfl ?_
  intro p e s m args below meth c s₁ B hml hv
  obtain ⟨rfl, hP, hK, hE⟩ := hv
  have hx := B.exec
  have hb := B.bytes
  have hr := B.returns
  have hts := atoms_spec (ws := wsX6_readsStatement) B.pre
  have hown : s.vm.findClass RX6 = some m.cls := findClass_of_methodNamed B.named
  have hlocks := B.notSynchronized
  have in_X6 : ∀ w ∈ wsX60, w ∈ wsX6_readsStatement := by decide +kernel
  have hS : va_S (aG 8 z) s.heap s.heap [] := va_S.rf
  have hl := lv_entry ([.ref (z.2.1 0)]) (n := 3) (Nat.le_of_ble_eq_true rfl)
  rw [lg_entry_eq]
  generalize (lg_sl ([.ref (z.2.1 0)]) ++ List.replicate (3 - (lg_sl ([.ref (z.2.1 0)])).length) Slot.unset).toArray = ls at hl ⊢
  have hl : lv_has ls 3 [(0, .ref (z.2.1 0))] := hl
  have j_126 : ∀ (v2 : Int32) (σ : Mm) (H : Heap) (locs : List Loc) (ls : Array Slot), va_P z.1 vwCl (wl 8 z.2.1 (ceM z σ)) H → va_S (aG 8 z) s.heap H locs → lv_has ls 3 [(0, .ref (z.2.1 0)), (2, .int v2)] → fX6_readsStatement_126 v2 σ = some (r, σ') → W p l e (headSpec wsX6_readsStatement ({ frames := 3, cells := 0, slots := 0, locals := 65 })).room s m ([.ref (z.2.1 0)] : List Value).toArray below meth c H locs 0 0 (MQ below (qcG 8 ceM z σ' (some (.int r))) ([.ref (z.2.1 0)] : List Value).toArray s 0 0 (aG 8 z)) (F0 m 126 ls []) := by
    intro v2 σ H locs ls hP hS hl hf
    rw [fX6_readsStatement_126] at hf
    refine lv_iload_n hx hb dX6_readsStatement_126 rfl (lv_at hl 1 rfl) ?_
    refine lv_if_eq (tgt := 143) hx hb dX6_readsStatement_127 (by decide) (fun c_12 => ?_) (fun c_12 => ?_)
    · have hf := (if_pos c_12).symm.trans hf
      refine lv_iconst (v := (0 : Int32)) hx hb dX6_readsStatement_143 (by decide) ?_
      exact x_zret hx hb hr hlocks hP hS dX6_readsStatement_144 rfl (Prod.mk.inj (Option.some.inj hf)).1 (Prod.mk.inj (Option.some.inj hf)).2
    · have hf := (if_neg c_12).symm.trans hf
      refine lv_aload_n hx hb dX6_readsStatement_130 rfl (lv_at hl 0 rfl) ?_
      refine lv_bipush (v := (59 : Int32)) hx hb dX6_readsStatement_131 (by decide) ?_
      obtain ⟨q_13, hq_13, hf⟩ := x_bd hf
      refine x_callGi (va_runV (As := [.int (59 : Int32)]) (rest := []) ⟨hx, hb, hml, hown, hts⟩ (kX6_takes l z hz hq_13) (cwV 1 hts gX6_readsStatement_X6_takes rfl rfl rfl (by decide +kernel) ⟨Nat.le_of_ble_eq_true rfl, Nat.le_of_ble_eq_true rfl⟩) (pvG hK hP hE hS (va_recv hK hP (ci := 6) (q0 := 0) rfl (wl_at (by decide) cX6))) rfl rfl hl.1 rfl (lv_room (Nat.le_of_ble_eq_true rfl)) dX6_readsStatement_133 ⟨Nat.zero_le _, Nat.zero_le _⟩) hS (fun H locs hP hS => ?_)
      refine lv_if_eq (tgt := 143) hx hb dX6_readsStatement_136 (by decide) (fun c_14 => ?_) (fun c_14 => ?_)
      · have hf := (if_pos c_14).symm.trans hf
        refine lv_iconst (v := (0 : Int32)) hx hb dX6_readsStatement_143 (by decide) ?_
        exact x_zret hx hb hr hlocks hP hS dX6_readsStatement_144 rfl (Prod.mk.inj (Option.some.inj hf)).1 (Prod.mk.inj (Option.some.inj hf)).2
      · have hf := (if_neg c_14).symm.trans hf
        refine lv_iconst (v := (1 : Int32)) hx hb dX6_readsStatement_139 (by decide) ?_
        refine lv_goto (tgt := 144) hx hb dX6_readsStatement_140 (by decide) ?_
        exact x_zret hx hb hr hlocks hP hS dX6_readsStatement_144 rfl (Prod.mk.inj (Option.some.inj hf)).1 (Prod.mk.inj (Option.some.inj hf)).2
  refine lv_aload_n hx hb dX6_readsStatement_0 rfl (lv_at hl 0 rfl) ?_
  obtain ⟨q_1001, hq_1001, hf⟩ := x_bd hf
  refine x_callGi (va_runV (As := []) (rest := []) ⟨hx, hb, hml, hown, hts⟩ (kX6_sign l z hz hq_1001) (cwV 0 hts gX6_readsStatement_X6_sign rfl rfl rfl (by decide +kernel) ⟨Nat.le_of_ble_eq_true rfl, Nat.le_of_ble_eq_true rfl⟩) (pvG hK hP hE hS (va_recv hK hP (ci := 6) (q0 := 0) rfl (wl_at (by decide) cX6))) rfl rfl hl.1 rfl (lv_room (Nat.le_of_ble_eq_true rfl)) dX6_readsStatement_1 ⟨Nat.zero_le _, Nat.zero_le _⟩) hS (fun H locs hP hS => ?_)
  refine lv_istore_n (lv' := [(1, .int q_1001), (0, .ref (z.2.1 0))]) hx hb dX6_readsStatement_4 rfl hl (by decide) rfl (fun ls hl => ?_)
  refine lv_iconst (v := (0 : Int32)) hx hb dX6_readsStatement_5 (by decide) ?_
  refine lv_istore_n (lv' := [(2, .int (0 : Int32)), (1, .int q_1001), (0, .ref (z.2.1 0))]) hx hb dX6_readsStatement_6 rfl hl (by decide) rfl (fun ls hl => ?_)
  refine lv_aload_n hx hb dX6_readsStatement_7 rfl (lv_at hl 2 rfl) ?_
  refine lv_dup hx hb dX6_readsStatement_8 rfl ?_
  refine va_get (D := z.1) (ci := 6) (v := .int (gI σ 0 8)) (C := RX6) (T := TX6) (N := 29) hx hb hts in_X6 hown hK hP 0 (wl_at (by decide) cX6) rfl 8 (by decide) (hts (.fieldLink RX6 46 "TillOneOfSortModel" "at" "I") (by decide +kernel)) (fun _ h9 => h9) rfl dX6_readsStatement_9 ?_
  refine lv_iconst (v := (1 : Int32)) hx hb dX6_readsStatement_12 (by decide) ?_
  refine lv_iadd hx hb dX6_readsStatement_13 ?_
  refine va_put (D := z.1) (ci := 6) (v := .int ((gI σ 0 8) + (1 : Int32))) (ty := .int) (C := RX6) (T := TX6) (N := 29) hx hb hts in_X6 tyX6 tyX6_ok nmX6 hown hK hP (wl_D hz _) hS 0 (wl_at (by decide) cX6) rfl 8 (by decide) (hts (.fieldLink RX6 46 "TillOneOfSortModel" "at" "I") (by decide +kernel)) (fun _ h9 => h9) rfl (by decide +kernel) rfl rfl (Nat.le_of_ble_eq_true rfl) dX6_readsStatement_14 (fun H locs hP _ hS => ?_)
  rw [sX6I (by decide)] at hP
  refine lv_iload_n hx hb dX6_readsStatement_17 rfl (lv_at hl 1 rfl) ?_
  by_cases c_1002 : q_1001 = (99 : Int32)
  · have hf := (if_pos c_1002).symm.trans hf
    refine lv_tableIn (off := 70) (tgt := 88) hx hb dX6_readsStatement_18 (by rw [c_1002]; decide) (by rw [c_1002]; decide) (by rw [c_1002]; rfl) (by decide) ?_
    refine lv_aload_n hx hb dX6_readsStatement_88 rfl (lv_at hl 2 rfl) ?_
    refine lv_iconst (v := (0 : Int32)) hx hb dX6_readsStatement_89 (by decide) ?_
    refine lv_iconst (v := (2 : Int32)) hx hb dX6_readsStatement_90 (by decide) ?_
    obtain ⟨q_1011, hq_1011, hf⟩ := x_bd hf
    refine x_callGi (va_runV (As := [.int (0 : Int32), .int (2 : Int32)]) (rest := []) ⟨hx, hb, hml, hown, hts⟩ (kX6_readsNumber l z hz hq_1011) (cwV 2 hts gX6_readsStatement_X6_readsNumber rfl rfl rfl (by decide +kernel) ⟨Nat.le_of_ble_eq_true rfl, Nat.le_of_ble_eq_true rfl⟩) (pvG hK hP hE hS (va_recv hK hP (ci := 6) (q0 := 0) rfl (wl_at (by decide) cX6))) rfl rfl hl.1 rfl (lv_room (Nat.le_of_ble_eq_true rfl)) dX6_readsStatement_91 ⟨Nat.zero_le _, Nat.zero_le _⟩) hS (fun H locs hP hS => ?_)
    refine lv_istore_n (lv' := [(2, .int q_1011.1), (1, .int q_1001), (0, .ref (z.2.1 0))]) hx hb dX6_readsStatement_94 rfl hl (by decide) rfl (fun ls hl => ?_)
    refine lv_goto (tgt := 126) hx hb dX6_readsStatement_95 (by decide) ?_
    exact j_126 q_1011.1 q_1011.2 _ _ _ hP hS (lv_sub hl [2, 0] rfl) hf
  · have hf := (if_neg c_1002).symm.trans hf
    by_cases c_1003 : q_1001 = (102 : Int32)
    · have hf := (if_pos c_1003).symm.trans hf
      refine lv_tableIn (off := 88) (tgt := 106) hx hb dX6_readsStatement_18 (by rw [c_1003]; decide) (by rw [c_1003]; decide) (by rw [c_1003]; rfl) (by decide) ?_
      refine lv_aload_n hx hb dX6_readsStatement_106 rfl (lv_at hl 2 rfl) ?_
      obtain ⟨q_1010, hq_1010, hf⟩ := x_bd hf
      refine x_callGi (va_runV (As := []) (rest := []) ⟨hx, hb, hml, hown, hts⟩ (kX6_readsFamily l z hz hq_1010) (cwV 0 hts gX6_readsStatement_X6_readsFamily rfl rfl rfl (by decide +kernel) ⟨Nat.le_of_ble_eq_true rfl, Nat.le_of_ble_eq_true rfl⟩) (pvG hK hP hE hS (va_recv hK hP (ci := 6) (q0 := 0) rfl (wl_at (by decide) cX6))) rfl rfl hl.1 rfl (lv_room (Nat.le_of_ble_eq_true rfl)) dX6_readsStatement_107 ⟨Nat.zero_le _, Nat.zero_le _⟩) hS (fun H locs hP hS => ?_)
      refine lv_istore_n (lv' := [(2, .int q_1010.1), (1, .int q_1001), (0, .ref (z.2.1 0))]) hx hb dX6_readsStatement_110 rfl hl (by decide) rfl (fun ls hl => ?_)
      refine lv_goto (tgt := 126) hx hb dX6_readsStatement_111 (by decide) ?_
      exact j_126 q_1010.1 q_1010.2 _ _ _ hP hS (lv_sub hl [2, 0] rfl) hf
    · have hf := (if_neg c_1003).symm.trans hf
      by_cases c_1004 : q_1001 = (108 : Int32)
      · have hf := (if_pos c_1004).symm.trans hf
        refine lv_tableIn (off := 62) (tgt := 80) hx hb dX6_readsStatement_18 (by rw [c_1004]; decide) (by rw [c_1004]; decide) (by rw [c_1004]; rfl) (by decide) ?_
        refine lv_aload_n hx hb dX6_readsStatement_80 rfl (lv_at hl 2 rfl) ?_
        obtain ⟨q_1009, hq_1009, hf⟩ := x_bd hf
        refine x_callGi (va_runV (As := []) (rest := []) ⟨hx, hb, hml, hown, hts⟩ (kX6_readsKind l z hz hq_1009) (cwV 0 hts gX6_readsStatement_X6_readsKind rfl rfl rfl (by decide +kernel) ⟨Nat.le_of_ble_eq_true rfl, Nat.le_of_ble_eq_true rfl⟩) (pvG hK hP hE hS (va_recv hK hP (ci := 6) (q0 := 0) rfl (wl_at (by decide) cX6))) rfl rfl hl.1 rfl (lv_room (Nat.le_of_ble_eq_true rfl)) dX6_readsStatement_81 ⟨Nat.zero_le _, Nat.zero_le _⟩) hS (fun H locs hP hS => ?_)
        refine lv_istore_n (lv' := [(2, .int q_1009.1), (1, .int q_1001), (0, .ref (z.2.1 0))]) hx hb dX6_readsStatement_84 rfl hl (by decide) rfl (fun ls hl => ?_)
        refine lv_goto (tgt := 126) hx hb dX6_readsStatement_85 (by decide) ?_
        exact j_126 q_1009.1 q_1009.2 _ _ _ hP hS (lv_sub hl [2, 0] rfl) hf
      · have hf := (if_neg c_1004).symm.trans hf
        by_cases c_1005 : q_1001 = (109 : Int32)
        · have hf := (if_pos c_1005).symm.trans hf
          refine lv_tableIn (off := 70) (tgt := 88) hx hb dX6_readsStatement_18 (by rw [c_1005]; decide) (by rw [c_1005]; decide) (by rw [c_1005]; rfl) (by decide) ?_
          refine lv_aload_n hx hb dX6_readsStatement_88 rfl (lv_at hl 2 rfl) ?_
          refine lv_iconst (v := (0 : Int32)) hx hb dX6_readsStatement_89 (by decide) ?_
          refine lv_iconst (v := (2 : Int32)) hx hb dX6_readsStatement_90 (by decide) ?_
          obtain ⟨q_1008, hq_1008, hf⟩ := x_bd hf
          refine x_callGi (va_runV (As := [.int (0 : Int32), .int (2 : Int32)]) (rest := []) ⟨hx, hb, hml, hown, hts⟩ (kX6_readsNumber l z hz hq_1008) (cwV 2 hts gX6_readsStatement_X6_readsNumber rfl rfl rfl (by decide +kernel) ⟨Nat.le_of_ble_eq_true rfl, Nat.le_of_ble_eq_true rfl⟩) (pvG hK hP hE hS (va_recv hK hP (ci := 6) (q0 := 0) rfl (wl_at (by decide) cX6))) rfl rfl hl.1 rfl (lv_room (Nat.le_of_ble_eq_true rfl)) dX6_readsStatement_91 ⟨Nat.zero_le _, Nat.zero_le _⟩) hS (fun H locs hP hS => ?_)
          refine lv_istore_n (lv' := [(2, .int q_1008.1), (1, .int q_1001), (0, .ref (z.2.1 0))]) hx hb dX6_readsStatement_94 rfl hl (by decide) rfl (fun ls hl => ?_)
          refine lv_goto (tgt := 126) hx hb dX6_readsStatement_95 (by decide) ?_
          exact j_126 q_1008.1 q_1008.2 _ _ _ hP hS (lv_sub hl [2, 0] rfl) hf
        · have hf := (if_neg c_1005).symm.trans hf
          by_cases c_1006 : q_1001 = (110 : Int32)
          · have hf := (if_pos c_1006).symm.trans hf
            refine lv_tableIn (off := 80) (tgt := 98) hx hb dX6_readsStatement_18 (by rw [c_1006]; decide) (by rw [c_1006]; decide) (by rw [c_1006]; rfl) (by decide) ?_
            refine lv_aload_n hx hb dX6_readsStatement_98 rfl (lv_at hl 2 rfl) ?_
            obtain ⟨q_1007, hq_1007, hf⟩ := x_bd hf
            refine x_callGi (va_runV (As := []) (rest := []) ⟨hx, hb, hml, hown, hts⟩ (kX6_readsLean l z hz hq_1007) (cwV 0 hts gX6_readsStatement_X6_readsLean rfl rfl rfl (by decide +kernel) ⟨Nat.le_of_ble_eq_true rfl, Nat.le_of_ble_eq_true rfl⟩) (pvG hK hP hE hS (va_recv hK hP (ci := 6) (q0 := 0) rfl (wl_at (by decide) cX6))) rfl rfl hl.1 rfl (lv_room (Nat.le_of_ble_eq_true rfl)) dX6_readsStatement_99 ⟨Nat.zero_le _, Nat.zero_le _⟩) hS (fun H locs hP hS => ?_)
            refine lv_istore_n (lv' := [(2, .int q_1007.1), (1, .int q_1001), (0, .ref (z.2.1 0))]) hx hb dX6_readsStatement_102 rfl hl (by decide) rfl (fun ls hl => ?_)
            refine lv_goto (tgt := 126) hx hb dX6_readsStatement_103 (by decide) ?_
            exact j_126 q_1007.1 q_1007.2 _ _ _ hP hS (lv_sub hl [2, 0] rfl) hf
          · have hf := (if_neg c_1006).symm.trans hf
            refine x_tableD (tgt := 114) hx hb dX6_readsStatement_18 (fun k h1 h2 => ?_) (by decide) ?_
            · rcases (show k = 99 ∨ k = 100 ∨ k = 101 ∨ k = 102 ∨ k = 103 ∨ k = 104 ∨ k = 105 ∨ k = 106 ∨ k = 107 ∨ k = 108 ∨ k = 109 ∨ k = 110 by omega) with rfl | rfl | rfl | rfl | rfl | rfl | rfl | rfl | rfl | rfl | rfl | rfl
              · exact Or.inl (x_ne c_1002 (by decide))
              · exact Or.inr rfl
              · exact Or.inr rfl
              · exact Or.inl (x_ne c_1003 (by decide))
              · exact Or.inr rfl
              · exact Or.inr rfl
              · exact Or.inr rfl
              · exact Or.inr rfl
              · exact Or.inr rfl
              · exact Or.inl (x_ne c_1004 (by decide))
              · exact Or.inl (x_ne c_1005 (by decide))
              · exact Or.inl (x_ne c_1006 (by decide))
            · refine lv_aload_n hx hb dX6_readsStatement_114 rfl (lv_at hl 2 rfl) ?_
              refine lv_dup hx hb dX6_readsStatement_115 rfl ?_
              refine va_get (D := z.1) (ci := 6) (v := .int (gI (pI σ 0 8 ((gI σ 0 8) + (1 : Int32))) 0 8)) (C := RX6) (T := TX6) (N := 29) hx hb hts in_X6 hown hK hP 0 (wl_at (by decide) cX6) rfl 8 (by decide) (hts (.fieldLink RX6 46 "TillOneOfSortModel" "at" "I") (by decide +kernel)) (fun _ h9 => h9) rfl dX6_readsStatement_116 ?_
              refine lv_iconst (v := (1 : Int32)) hx hb dX6_readsStatement_119 (by decide) ?_
              refine lv_isub hx hb dX6_readsStatement_120 ?_
              refine va_put (D := z.1) (ci := 6) (v := .int ((gI (pI σ 0 8 ((gI σ 0 8) + (1 : Int32))) 0 8) - (1 : Int32))) (ty := .int) (C := RX6) (T := TX6) (N := 29) hx hb hts in_X6 tyX6 tyX6_ok nmX6 hown hK hP (wl_D hz _) hS 0 (wl_at (by decide) cX6) rfl 8 (by decide) (hts (.fieldLink RX6 46 "TillOneOfSortModel" "at" "I") (by decide +kernel)) (fun _ h9 => h9) rfl (by decide +kernel) rfl rfl (Nat.le_of_ble_eq_true rfl) dX6_readsStatement_121 (fun H locs hP _ hS => ?_)
              rw [sX6I (by decide)] at hP
              refine lv_iconst (v := (0 : Int32)) hx hb dX6_readsStatement_124 (by decide) ?_
              exact x_zret hx hb hr hlocks hP hS dX6_readsStatement_125 rfl (Prod.mk.inj (Option.some.inj hf)).1 (Prod.mk.inj (Option.some.inj hf)).2
set_option maxHeartbeats 40000000 in
set_option maxRecDepth 100000 in
theorem kX6_comes (l : Launch) (z : Cx) (hz : okC 8 z) {a0 : Int32}  {σ σ' : Mm} {r : Int32} (hf : fX6_comes a0 σ = some (r, σ')) : KG 8 ceM l yX6_comes wsX6_comes (0) (0) [.ref (z.2.1 0), .int a0] z σ σ' (some (.int r)) := by
  rw [fX6_comes] at hf
  refine Met.ofW (cc := cX6_comes) (maxL := 3) (ret := (some .boolean)) (by decide) rfl ?_
  intro p e s m args below meth c s₁ B hml hv
  obtain ⟨rfl, hP, hK, hE⟩ := hv
  have hx := B.exec
  have hb := B.bytes
  have hr := B.returns
  have hts := atoms_spec (ws := wsX6_comes) B.pre
  have hown : s.vm.findClass RX6 = some m.cls := findClass_of_methodNamed B.named
  have hlocks := B.notSynchronized
  have in_X6 : ∀ w ∈ wsX60, w ∈ wsX6_comes := by decide +kernel
  have hS : va_S (aG 8 z) s.heap s.heap [] := va_S.rf
  have hl := lv_entry ([.ref (z.2.1 0), .int a0]) (n := 3) (Nat.le_of_ble_eq_true rfl)
  rw [lg_entry_eq]
  generalize (lg_sl ([.ref (z.2.1 0), .int a0]) ++ List.replicate (3 - (lg_sl ([.ref (z.2.1 0), .int a0])).length) Slot.unset).toArray = ls at hl ⊢
  have hl : lv_has ls 3 [(0, .ref (z.2.1 0)), (1, .int a0)] := hl
  refine lv_aload_n hx hb dX6_comes_0 rfl (lv_at hl 0 rfl) ?_
  refine va_get (D := z.1) (ci := 6) (v := .ref (z.2.1 6)) (C := RX6) (T := TX6) (N := 29) hx hb hts in_X6 hown hK hP 0 (wl_at (by decide) cX6) rfl 6 (by decide) (hts (.fieldLink RX6 25 "TillOneOfSortModel" "told" "[I") (by decide +kernel)) (fun _ h9 => h9) rfl dX6_comes_1 ?_
  refine lv_iconst (v := (0 : Int32)) hx hb dX6_comes_4 (by decide) ?_
  obtain ⟨c_1001, hf⟩ := x_ck hf
  refine va_iald hx hb hK hP 6 0 (wl_at (by decide) cMI2) rfl (ci_in c_1001) dX6_comes_5 ?_
  refine lv_istore_n (lv' := [(2, .int (gI σ 6 (0 : Int32).toNatClampNeg)), (0, .ref (z.2.1 0)), (1, .int a0)]) hx hb dX6_comes_6 rfl hl (by decide) rfl (fun ls hl => ?_)
  refine lv_iload_n hx hb dX6_comes_7 rfl (lv_at hl 2 rfl) ?_
  by_cases c_1002 : a0 = (99 : Int32)
  · have hf := (if_pos c_1002).symm.trans hf
    refine lv_lookup (off := 101) (tgt := 109) hx hb dX6_comes_8 (by decide) (by rw [c_1002]; rfl) (by decide) ?_
    refine lv_aload_n hx hb dX6_comes_109 rfl (lv_at hl 1 rfl) ?_
    refine va_get (D := z.1) (ci := 6) (v := .ref (z.2.1 4)) (C := RX6) (T := TX6) (N := 29) hx hb hts in_X6 hown hK hP 0 (wl_at (by decide) cX6) rfl 3 (by decide) (hts (.fieldLink RX6 19 "TillOneOfSortModel" "read" "[I") (by decide +kernel)) (fun _ h9 => h9) rfl dX6_comes_110 ?_
    refine lv_iconst (v := (1 : Int32)) hx hb dX6_comes_113 (by decide) ?_
    refine lv_iload_n hx hb dX6_comes_114 rfl (lv_at hl 0 rfl) ?_
    obtain ⟨c_1026, hf⟩ := x_ck hf
    refine va_iast hx hb hK hP (wl_D hz _) hS 4 0 (wl_at (i22_lt (rfl : isI22 4 = true)) (cMI22 (rfl : isI22 4 = true))) rfl (ci_in c_1026) dX6_comes_115 (fun H locs hP _ hS => ?_)
    rw [(sMI22 (rfl : isI22 4 = true))] at hP
    refine lv_iload_n hx hb dX6_comes_116 rfl (lv_at hl 0 rfl) ?_
    refine lv_iconst (v := (1 : Int32)) hx hb dX6_comes_117 (by decide) ?_
    refine lv_icmp_lt (tgt := 131) hx hb dX6_comes_118 (by decide) (fun c_1027 => ?_) (fun c_1027 => ?_)
    · have hf := (if_pos c_1027).symm.trans hf
      refine lv_iconst (v := (0 : Int32)) hx hb dX6_comes_131 (by decide) ?_
      exact x_zret hx hb hr hlocks hP hS dX6_comes_132 rfl (Prod.mk.inj (Option.some.inj hf)).1 (Prod.mk.inj (Option.some.inj hf)).2
    · have hf := (if_neg c_1027).symm.trans hf
      refine lv_iload_n hx hb dX6_comes_121 rfl (lv_at hl 0 rfl) ?_
      refine lv_bipush (v := (11 : Int32)) hx hb dX6_comes_122 (by decide) ?_
      refine lv_icmp_gt (tgt := 131) hx hb dX6_comes_124 (by decide) (fun c_1028 => ?_) (fun c_1028 => ?_)
      · have hf := (if_pos c_1028).symm.trans hf
        refine lv_iconst (v := (0 : Int32)) hx hb dX6_comes_131 (by decide) ?_
        exact x_zret hx hb hr hlocks hP hS dX6_comes_132 rfl (Prod.mk.inj (Option.some.inj hf)).1 (Prod.mk.inj (Option.some.inj hf)).2
      · have hf := (if_neg c_1028).symm.trans hf
        refine lv_iconst (v := (1 : Int32)) hx hb dX6_comes_127 (by decide) ?_
        refine lv_goto (tgt := 132) hx hb dX6_comes_128 (by decide) ?_
        exact x_zret hx hb hr hlocks hP hS dX6_comes_132 rfl (Prod.mk.inj (Option.some.inj hf)).1 (Prod.mk.inj (Option.some.inj hf)).2
  · have hf := (if_neg c_1002).symm.trans hf
    by_cases c_1003 : a0 = (108 : Int32)
    · have hf := (if_pos c_1003).symm.trans hf
      refine lv_lookup (off := 44) (tgt := 52) hx hb dX6_comes_8 (by decide) (by rw [c_1003]; rfl) (by decide) ?_
      refine lv_aload_n hx hb dX6_comes_52 rfl (lv_at hl 1 rfl) ?_
      refine va_get (D := z.1) (ci := 6) (v := .ref (z.2.1 6)) (C := RX6) (T := TX6) (N := 29) hx hb hts in_X6 hown hK hP 0 (wl_at (by decide) cX6) rfl 6 (by decide) (hts (.fieldLink RX6 25 "TillOneOfSortModel" "told" "[I") (by decide +kernel)) (fun _ h9 => h9) rfl dX6_comes_53 ?_
      refine lv_iconst (v := (1 : Int32)) hx hb dX6_comes_56 (by decide) ?_
      obtain ⟨c_1021, hf⟩ := x_ck hf
      refine va_iald hx hb hK hP 6 0 (wl_at (by decide) cMI2) rfl (ci_in c_1021) dX6_comes_57 ?_
      refine lv_iconst (v := (1 : Int32)) hx hb dX6_comes_58 (by decide) ?_
      refine lv_icmp_ge (tgt := 64) hx hb dX6_comes_59 (by decide) (fun c_1022 => ?_) (fun c_1022 => ?_)
      · have hf := (if_pos c_1022).symm.trans hf
        refine lv_aload_n hx hb dX6_comes_64 rfl (lv_at hl 1 rfl) ?_
        refine va_get (D := z.1) (ci := 6) (v := .ref (z.2.1 4)) (C := RX6) (T := TX6) (N := 29) hx hb hts in_X6 hown hK hP 0 (wl_at (by decide) cX6) rfl 3 (by decide) (hts (.fieldLink RX6 19 "TillOneOfSortModel" "read" "[I") (by decide +kernel)) (fun _ h9 => h9) rfl dX6_comes_65 ?_
        refine lv_iconst (v := (3 : Int32)) hx hb dX6_comes_68 (by decide) ?_
        refine lv_iload_n hx hb dX6_comes_69 rfl (lv_at hl 0 rfl) ?_
        obtain ⟨c_1023, hf⟩ := x_ck hf
        refine va_iast hx hb hK hP (wl_D hz _) hS 4 0 (wl_at (i22_lt (rfl : isI22 4 = true)) (cMI22 (rfl : isI22 4 = true))) rfl (ci_in c_1023) dX6_comes_70 (fun H locs hP _ hS => ?_)
        rw [(sMI22 (rfl : isI22 4 = true))] at hP
        refine lv_aload_n hx hb dX6_comes_71 rfl (lv_at hl 1 rfl) ?_
        refine va_get (D := z.1) (ci := 6) (v := .ref (z.2.1 4)) (C := RX6) (T := TX6) (N := 29) hx hb hts in_X6 hown hK hP 0 (wl_at (by decide) cX6) rfl 3 (by decide) (hts (.fieldLink RX6 19 "TillOneOfSortModel" "read" "[I") (by decide +kernel)) (fun _ h9 => h9) rfl dX6_comes_72 ?_
        refine lv_iconst (v := (4 : Int32)) hx hb dX6_comes_75 (by decide) ?_
        refine lv_aload_n hx hb dX6_comes_76 rfl (lv_at hl 1 rfl) ?_
        refine va_get (D := z.1) (ci := 6) (v := .ref (z.2.1 6)) (C := RX6) (T := TX6) (N := 29) hx hb hts in_X6 hown hK hP 0 (wl_at (by decide) cX6) rfl 6 (by decide) (hts (.fieldLink RX6 25 "TillOneOfSortModel" "told" "[I") (by decide +kernel)) (fun _ h9 => h9) rfl dX6_comes_77 ?_
        refine lv_iconst (v := (1 : Int32)) hx hb dX6_comes_80 (by decide) ?_
        obtain ⟨c_1024, hf⟩ := x_ck hf
        refine va_iald hx hb hK hP 6 0 (wl_at (by decide) cMI2) rfl (ci_in c_1024) dX6_comes_81 ?_
        obtain ⟨c_1025, hf⟩ := x_ck hf
        refine va_iast hx hb hK hP (wl_D hz _) hS 4 0 (wl_at (i22_lt (rfl : isI22 4 = true)) (cMI22 (rfl : isI22 4 = true))) rfl (ci_in c_1025) dX6_comes_82 (fun H locs hP _ hS => ?_)
        rw [(sMI22 (rfl : isI22 4 = true))] at hP
        refine lv_iconst (v := (1 : Int32)) hx hb dX6_comes_83 (by decide) ?_
        exact x_zret hx hb hr hlocks hP hS dX6_comes_84 rfl (Prod.mk.inj (Option.some.inj hf)).1 (Prod.mk.inj (Option.some.inj hf)).2
      · have hf := (if_neg c_1022).symm.trans hf
        refine lv_iconst (v := (0 : Int32)) hx hb dX6_comes_62 (by decide) ?_
        exact x_zret hx hb hr hlocks hP hS dX6_comes_63 rfl (Prod.mk.inj (Option.some.inj hf)).1 (Prod.mk.inj (Option.some.inj hf)).2
    · have hf := (if_neg c_1003).symm.trans hf
      by_cases c_1004 : a0 = (109 : Int32)
      · have hf := (if_pos c_1004).symm.trans hf
        refine lv_lookup (off := 77) (tgt := 85) hx hb dX6_comes_8 (by decide) (by rw [c_1004]; rfl) (by decide) ?_
        refine lv_aload_n hx hb dX6_comes_85 rfl (lv_at hl 1 rfl) ?_
        refine va_get (D := z.1) (ci := 6) (v := .ref (z.2.1 4)) (C := RX6) (T := TX6) (N := 29) hx hb hts in_X6 hown hK hP 0 (wl_at (by decide) cX6) rfl 3 (by decide) (hts (.fieldLink RX6 19 "TillOneOfSortModel" "read" "[I") (by decide +kernel)) (fun _ h9 => h9) rfl dX6_comes_86 ?_
        refine lv_iconst (v := (0 : Int32)) hx hb dX6_comes_89 (by decide) ?_
        refine lv_iload_n hx hb dX6_comes_90 rfl (lv_at hl 0 rfl) ?_
        obtain ⟨c_1018, hf⟩ := x_ck hf
        refine va_iast hx hb hK hP (wl_D hz _) hS 4 0 (wl_at (i22_lt (rfl : isI22 4 = true)) (cMI22 (rfl : isI22 4 = true))) rfl (ci_in c_1018) dX6_comes_91 (fun H locs hP _ hS => ?_)
        rw [(sMI22 (rfl : isI22 4 = true))] at hP
        refine lv_iload_n hx hb dX6_comes_92 rfl (lv_at hl 0 rfl) ?_
        refine lv_iconst (v := (1 : Int32)) hx hb dX6_comes_93 (by decide) ?_
        refine lv_icmp_lt (tgt := 107) hx hb dX6_comes_94 (by decide) (fun c_1019 => ?_) (fun c_1019 => ?_)
        · have hf := (if_pos c_1019).symm.trans hf
          refine lv_iconst (v := (0 : Int32)) hx hb dX6_comes_107 (by decide) ?_
          exact x_zret hx hb hr hlocks hP hS dX6_comes_108 rfl (Prod.mk.inj (Option.some.inj hf)).1 (Prod.mk.inj (Option.some.inj hf)).2
        · have hf := (if_neg c_1019).symm.trans hf
          refine lv_iload_n hx hb dX6_comes_97 rfl (lv_at hl 0 rfl) ?_
          refine lv_bipush (v := (10 : Int32)) hx hb dX6_comes_98 (by decide) ?_
          refine lv_icmp_gt (tgt := 107) hx hb dX6_comes_100 (by decide) (fun c_1020 => ?_) (fun c_1020 => ?_)
          · have hf := (if_pos c_1020).symm.trans hf
            refine lv_iconst (v := (0 : Int32)) hx hb dX6_comes_107 (by decide) ?_
            exact x_zret hx hb hr hlocks hP hS dX6_comes_108 rfl (Prod.mk.inj (Option.some.inj hf)).1 (Prod.mk.inj (Option.some.inj hf)).2
          · have hf := (if_neg c_1020).symm.trans hf
            refine lv_iconst (v := (1 : Int32)) hx hb dX6_comes_103 (by decide) ?_
            refine lv_goto (tgt := 108) hx hb dX6_comes_104 (by decide) ?_
            exact x_zret hx hb hr hlocks hP hS dX6_comes_108 rfl (Prod.mk.inj (Option.some.inj hf)).1 (Prod.mk.inj (Option.some.inj hf)).2
      · have hf := (if_neg c_1004).symm.trans hf
        by_cases c_1005 : a0 = (110 : Int32)
        · have hf := (if_pos c_1005).symm.trans hf
          refine lv_lookup (off := 125) (tgt := 133) hx hb dX6_comes_8 (by decide) (by rw [c_1005]; rfl) (by decide) ?_
          refine lv_aload_n hx hb dX6_comes_133 rfl (lv_at hl 1 rfl) ?_
          refine va_get (D := z.1) (ci := 6) (v := .ref (z.2.1 4)) (C := RX6) (T := TX6) (N := 29) hx hb hts in_X6 hown hK hP 0 (wl_at (by decide) cX6) rfl 3 (by decide) (hts (.fieldLink RX6 19 "TillOneOfSortModel" "read" "[I") (by decide +kernel)) (fun _ h9 => h9) rfl dX6_comes_134 ?_
          refine lv_iconst (v := (2 : Int32)) hx hb dX6_comes_137 (by decide) ?_
          refine lv_iconst (v := (5 : Int32)) hx hb dX6_comes_138 (by decide) ?_
          refine lv_iload_n hx hb dX6_comes_139 rfl (lv_at hl 0 rfl) ?_
          refine lv_iadd hx hb dX6_comes_140 ?_
          obtain ⟨c_1015, hf⟩ := x_ck hf
          refine va_iast hx hb hK hP (wl_D hz _) hS 4 0 (wl_at (i22_lt (rfl : isI22 4 = true)) (cMI22 (rfl : isI22 4 = true))) rfl (ci_in c_1015) dX6_comes_141 (fun H locs hP _ hS => ?_)
          rw [(sMI22 (rfl : isI22 4 = true))] at hP
          refine lv_iload_n hx hb dX6_comes_142 rfl (lv_at hl 0 rfl) ?_
          refine lv_bipush (v := (-5 : Int32)) hx hb dX6_comes_143 (by decide) ?_
          refine lv_icmp_lt (tgt := 157) hx hb dX6_comes_145 (by decide) (fun c_1016 => ?_) (fun c_1016 => ?_)
          · have hf := (if_pos c_1016).symm.trans hf
            refine lv_iconst (v := (0 : Int32)) hx hb dX6_comes_157 (by decide) ?_
            exact x_zret hx hb hr hlocks hP hS dX6_comes_158 rfl (Prod.mk.inj (Option.some.inj hf)).1 (Prod.mk.inj (Option.some.inj hf)).2
          · have hf := (if_neg c_1016).symm.trans hf
            refine lv_iload_n hx hb dX6_comes_148 rfl (lv_at hl 0 rfl) ?_
            refine lv_iconst (v := (5 : Int32)) hx hb dX6_comes_149 (by decide) ?_
            refine lv_icmp_gt (tgt := 157) hx hb dX6_comes_150 (by decide) (fun c_1017 => ?_) (fun c_1017 => ?_)
            · have hf := (if_pos c_1017).symm.trans hf
              refine lv_iconst (v := (0 : Int32)) hx hb dX6_comes_157 (by decide) ?_
              exact x_zret hx hb hr hlocks hP hS dX6_comes_158 rfl (Prod.mk.inj (Option.some.inj hf)).1 (Prod.mk.inj (Option.some.inj hf)).2
            · have hf := (if_neg c_1017).symm.trans hf
              refine lv_iconst (v := (1 : Int32)) hx hb dX6_comes_153 (by decide) ?_
              refine lv_goto (tgt := 158) hx hb dX6_comes_154 (by decide) ?_
              exact x_zret hx hb hr hlocks hP hS dX6_comes_158 rfl (Prod.mk.inj (Option.some.inj hf)).1 (Prod.mk.inj (Option.some.inj hf)).2
        · have hf := (if_neg c_1005).symm.trans hf
          refine lv_lookup (off := 151) (tgt := 159) hx hb dX6_comes_8 (by decide) (show Op.lookupswitch.offset ([(99, 101), (108, 44), (109, 77), (110, 125)] : List (Int × Int)) 151 (a0).toInt = 151 by rw [lv_osw c_1002 (a := 99) (by decide), lv_osw c_1003 (a := 108) (by decide), lv_osw c_1004 (a := 109) (by decide), lv_osw c_1005 (a := 110) (by decide)]; rfl) (by decide) ?_
          refine lv_aload_n hx hb dX6_comes_159 rfl (lv_at hl 1 rfl) ?_
          refine va_get (D := z.1) (ci := 6) (v := .ref (z.2.1 4)) (C := RX6) (T := TX6) (N := 29) hx hb hts in_X6 hown hK hP 0 (wl_at (by decide) cX6) rfl 3 (by decide) (hts (.fieldLink RX6 19 "TillOneOfSortModel" "read" "[I") (by decide +kernel)) (fun _ h9 => h9) rfl dX6_comes_160 ?_
          refine lv_iconst (v := (5 : Int32)) hx hb dX6_comes_163 (by decide) ?_
          obtain ⟨c_1006, hf⟩ := x_ck hf
          refine va_iald hx hb hK hP 4 0 (wl_at (i22_lt (rfl : isI22 4 = true)) (cMI22 (rfl : isI22 4 = true))) rfl (ci_in c_1006) dX6_comes_164 ?_
          refine lv_bipush (v := (8 : Int32)) hx hb dX6_comes_165 (by decide) ?_
          refine lv_icmp_ne (tgt := 172) hx hb dX6_comes_167 (by decide) (fun c_1007 => ?_) (fun c_1007 => ?_)
          · have hf := (if_neg c_1007).symm.trans hf
            refine lv_aload_n hx hb dX6_comes_172 rfl (lv_at hl 1 rfl) ?_
            refine va_get (D := z.1) (ci := 6) (v := .ref (z.2.1 4)) (C := RX6) (T := TX6) (N := 29) hx hb hts in_X6 hown hK hP 0 (wl_at (by decide) cX6) rfl 3 (by decide) (hts (.fieldLink RX6 19 "TillOneOfSortModel" "read" "[I") (by decide +kernel)) (fun _ h9 => h9) rfl dX6_comes_173 ?_
            refine lv_bipush (v := (6 : Int32)) hx hb dX6_comes_176 (by decide) ?_
            refine lv_iconst (v := (2 : Int32)) hx hb dX6_comes_178 (by decide) ?_
            refine lv_aload_n hx hb dX6_comes_179 rfl (lv_at hl 1 rfl) ?_
            refine va_get (D := z.1) (ci := 6) (v := .ref (z.2.1 4)) (C := RX6) (T := TX6) (N := 29) hx hb hts in_X6 hown hK hP 0 (wl_at (by decide) cX6) rfl 3 (by decide) (hts (.fieldLink RX6 19 "TillOneOfSortModel" "read" "[I") (by decide +kernel)) (fun _ h9 => h9) rfl dX6_comes_180 ?_
            refine lv_iconst (v := (5 : Int32)) hx hb dX6_comes_183 (by decide) ?_
            obtain ⟨c_1008, hf⟩ := x_ck hf
            refine va_iald hx hb hK hP 4 0 (wl_at (i22_lt (rfl : isI22 4 = true)) (cMI22 (rfl : isI22 4 = true))) rfl (ci_in c_1008) dX6_comes_184 ?_
            refine lv_imul hx hb dX6_comes_185 ?_
            refine lv_iadd hx hb dX6_comes_186 ?_
            refine lv_iload_n hx hb dX6_comes_187 rfl (lv_at hl 0 rfl) ?_
            obtain ⟨c_1009, hf⟩ := x_ck hf
            refine va_iast hx hb hK hP (wl_D hz _) hS 4 0 (wl_at (i22_lt (rfl : isI22 4 = true)) (cMI22 (rfl : isI22 4 = true))) rfl (ci_in c_1009) dX6_comes_188 (fun H locs hP _ hS => ?_)
            rw [(sMI22 (rfl : isI22 4 = true))] at hP
            refine lv_aload_n hx hb dX6_comes_189 rfl (lv_at hl 1 rfl) ?_
            refine va_get (D := z.1) (ci := 6) (v := .ref (z.2.1 4)) (C := RX6) (T := TX6) (N := 29) hx hb hts in_X6 hown hK hP 0 (wl_at (by decide) cX6) rfl 3 (by decide) (hts (.fieldLink RX6 19 "TillOneOfSortModel" "read" "[I") (by decide +kernel)) (fun _ h9 => h9) rfl dX6_comes_190 ?_
            refine lv_bipush (v := (6 : Int32)) hx hb dX6_comes_193 (by decide) ?_
            refine lv_iconst (v := (2 : Int32)) hx hb dX6_comes_195 (by decide) ?_
            refine lv_aload_n hx hb dX6_comes_196 rfl (lv_at hl 1 rfl) ?_
            refine va_get (D := z.1) (ci := 6) (v := .ref (z.2.1 4)) (C := RX6) (T := TX6) (N := 29) hx hb hts in_X6 hown hK hP 0 (wl_at (by decide) cX6) rfl 3 (by decide) (hts (.fieldLink RX6 19 "TillOneOfSortModel" "read" "[I") (by decide +kernel)) (fun _ h9 => h9) rfl dX6_comes_197 ?_
            refine lv_iconst (v := (5 : Int32)) hx hb dX6_comes_200 (by decide) ?_
            obtain ⟨c_1010, hf⟩ := x_ck hf
            refine va_iald hx hb hK hP 4 0 (wl_at (i22_lt (rfl : isI22 4 = true)) (cMI22 (rfl : isI22 4 = true))) rfl (ci_in c_1010) dX6_comes_201 ?_
            refine lv_imul hx hb dX6_comes_202 ?_
            refine lv_iadd hx hb dX6_comes_203 ?_
            refine lv_iconst (v := (1 : Int32)) hx hb dX6_comes_204 (by decide) ?_
            refine lv_iadd hx hb dX6_comes_205 ?_
            refine lv_aload_n hx hb dX6_comes_206 rfl (lv_at hl 1 rfl) ?_
            refine va_get (D := z.1) (ci := 6) (v := .ref (z.2.1 6)) (C := RX6) (T := TX6) (N := 29) hx hb hts in_X6 hown hK hP 0 (wl_at (by decide) cX6) rfl 6 (by decide) (hts (.fieldLink RX6 25 "TillOneOfSortModel" "told" "[I") (by decide +kernel)) (fun _ h9 => h9) rfl dX6_comes_207 ?_
            refine lv_iconst (v := (1 : Int32)) hx hb dX6_comes_210 (by decide) ?_
            obtain ⟨c_1011, hf⟩ := x_ck hf
            refine va_iald hx hb hK hP 6 0 (wl_at (by decide) cMI2) rfl (ci_in c_1011) dX6_comes_211 ?_
            obtain ⟨c_1012, hf⟩ := x_ck hf
            refine va_iast hx hb hK hP (wl_D hz _) hS 4 0 (wl_at (i22_lt (rfl : isI22 4 = true)) (cMI22 (rfl : isI22 4 = true))) rfl (ci_in c_1012) dX6_comes_212 (fun H locs hP _ hS => ?_)
            rw [(sMI22 (rfl : isI22 4 = true))] at hP
            refine lv_aload_n hx hb dX6_comes_213 rfl (lv_at hl 1 rfl) ?_
            refine va_get (D := z.1) (ci := 6) (v := .ref (z.2.1 4)) (C := RX6) (T := TX6) (N := 29) hx hb hts in_X6 hown hK hP 0 (wl_at (by decide) cX6) rfl 3 (by decide) (hts (.fieldLink RX6 19 "TillOneOfSortModel" "read" "[I") (by decide +kernel)) (fun _ h9 => h9) rfl dX6_comes_214 ?_
            refine lv_iconst (v := (5 : Int32)) hx hb dX6_comes_217 (by decide) ?_
            refine lv_dup2_11 hx hb dX6_comes_218 rfl rfl ?_
            obtain ⟨c_1013, hf⟩ := x_ck hf
            refine va_iald hx hb hK hP 4 0 (wl_at (i22_lt (rfl : isI22 4 = true)) (cMI22 (rfl : isI22 4 = true))) rfl (ci_in c_1013) dX6_comes_219 ?_
            refine lv_iconst (v := (1 : Int32)) hx hb dX6_comes_220 (by decide) ?_
            refine lv_iadd hx hb dX6_comes_221 ?_
            obtain ⟨c_1014, hf⟩ := x_ck hf
            refine va_iast hx hb hK hP (wl_D hz _) hS 4 0 (wl_at (i22_lt (rfl : isI22 4 = true)) (cMI22 (rfl : isI22 4 = true))) rfl (ci_in c_1014) dX6_comes_222 (fun H locs hP _ hS => ?_)
            rw [(sMI22 (rfl : isI22 4 = true))] at hP
            refine lv_iconst (v := (1 : Int32)) hx hb dX6_comes_223 (by decide) ?_
            exact x_zret hx hb hr hlocks hP hS dX6_comes_224 rfl (Prod.mk.inj (Option.some.inj hf)).1 (Prod.mk.inj (Option.some.inj hf)).2
          · have hf := (if_pos c_1007).symm.trans hf
            refine lv_iconst (v := (0 : Int32)) hx hb dX6_comes_170 (by decide) ?_
            exact x_zret hx hb hr hlocks hP hS dX6_comes_171 rfl (Prod.mk.inj (Option.some.inj hf)).1 (Prod.mk.inj (Option.some.inj hf)).2
set_option maxHeartbeats 40000000 in
set_option maxRecDepth 100000 in
theorem kX6_reads (l : Launch) (z : Cx) (hz : okC 8 z)   {σ σ' : Mm} {r : Int32} (hf : fX6_reads σ = some (r, σ')) : KG 8 ceM l yX6_reads wsX6_reads (4) (87) [.ref (z.2.1 0)] z σ σ' (some (.int r)) := by
  rw [fX6_reads] at hf
  refine Met.ofW (cc := cX6_reads) (maxL := 5) (ret := (some .int)) (by decide) rfl ?_
  intro p e s m args below meth c s₁ B hml hv
  obtain ⟨rfl, hP, hK, hE⟩ := hv
  have hx := B.exec
  have hb := B.bytes
  have hr := B.returns
  have hts := atoms_spec (ws := wsX6_reads) B.pre
  have hown : s.vm.findClass RX6 = some m.cls := findClass_of_methodNamed B.named
  have hlocks := B.notSynchronized
  have in_X6 : ∀ w ∈ wsX60, w ∈ wsX6_reads := by decide +kernel
  have hS : va_S (aG 8 z) s.heap s.heap [] := va_S.rf
  have hl := lv_entry ([.ref (z.2.1 0)]) (n := 5) (Nat.le_of_ble_eq_true rfl)
  rw [lg_entry_eq]
  generalize (lg_sl ([.ref (z.2.1 0)]) ++ List.replicate (5 - (lg_sl ([.ref (z.2.1 0)])).length) Slot.unset).toArray = ls at hl ⊢
  have hl : lv_has ls 5 [(0, .ref (z.2.1 0))] := hl
  have L_53 : ∀ (n_53 : Nat) (v1 : Int32) (σ : Mm) (H : Heap) (locs : List Loc) (ls : Array Slot), va_P z.1 vwCl (wl 8 z.2.1 (ceM z σ)) H → va_S (aG 8 z) s.heap H locs → lv_has ls 5 [(0, .ref (z.2.1 0)), (1, .int v1)] → fX6_reads_53 n_53 v1 σ = some (r, σ') → W p l e (headSpec wsX6_reads ({ frames := 4, cells := 0, slots := 0, locals := 87 })).room s m ([.ref (z.2.1 0)] : List Value).toArray below meth c H locs 0 0 (MQ below (qcG 8 ceM z σ' (some (.int r))) ([.ref (z.2.1 0)] : List Value).toArray s 0 0 (aG 8 z)) (F0 m 53 ls []) := by
    intro n_53
    induction n_53 with
    | zero =>
      intro v1 σ H locs ls hP hS hl hf
      rw [fX6_reads_53] at hf
      cases hf
    | succ n_53 ih_53 =>
      intro v1 σ H locs ls hP hS hl hf
      rw [fX6_reads_53] at hf
      refine lv_aload_n hx hb dX6_reads_53 rfl (lv_at hl 0 rfl) ?_
      refine va_get (D := z.1) (ci := 6) (v := .int (gI σ 0 8)) (C := RX6) (T := TX6) (N := 29) hx hb hts in_X6 hown hK hP 0 (wl_at (by decide) cX6) rfl 8 (by decide) (hts (.fieldLink RX6 46 "TillOneOfSortModel" "at" "I") (by decide +kernel)) (fun _ h9 => h9) rfl dX6_reads_54 ?_
      refine lv_aload_n hx hb dX6_reads_57 rfl (lv_at hl 0 rfl) ?_
      refine va_get (D := z.1) (ci := 6) (v := .int (gI σ 0 7)) (C := RX6) (T := TX6) (N := 29) hx hb hts in_X6 hown hK hP 0 (wl_at (by decide) cX6) rfl 7 (by decide) (hts (.fieldLink RX6 42 "TillOneOfSortModel" "taped" "I") (by decide +kernel)) (fun _ h9 => h9) rfl dX6_reads_58 ?_
      refine lv_icmp_ge (tgt := 97) hx hb dX6_reads_61 (by decide) (fun c_1 => ?_) (fun c_1 => ?_)
      · have hf := (if_pos c_1).symm.trans hf
        refine lv_aload_n hx hb dX6_reads_97 rfl (lv_at hl 0 rfl) ?_
        refine va_get (D := z.1) (ci := 6) (v := .ref (z.2.1 4)) (C := RX6) (T := TX6) (N := 29) hx hb hts in_X6 hown hK hP 0 (wl_at (by decide) cX6) rfl 3 (by decide) (hts (.fieldLink RX6 19 "TillOneOfSortModel" "read" "[I") (by decide +kernel)) (fun _ h9 => h9) rfl dX6_reads_98 ?_
        refine lv_aload_n hx hb dX6_reads_101 rfl (lv_at hl 0 rfl) ?_
        refine va_get (D := z.1) (ci := 6) (v := .ref (z.2.1 2)) (C := RX6) (T := TX6) (N := 29) hx hb hts in_X6 hown hK hP 0 (wl_at (by decide) cX6) rfl 1 (by decide) (hts (.fieldLink RX6 13 "TillOneOfSortModel" "s" "[I") (by decide +kernel)) (fun _ h9 => h9) rfl dX6_reads_102 ?_
        obtain ⟨q_2, hq_2, hf⟩ := x_bd hf
        refine x_callGv (va_runS (As := [.ref (z.2.1 4), .ref (z.2.1 2)]) (rest := []) ⟨hx, hb, hml, hown, hts⟩ (kX6_lays l z hz (rfl : isI22 4 = true) (rfl : isI22 2 = true) hq_2) (va_cwS 2 hts gX6_reads_X6_lays rfl rfl rfl (by decide +kernel) ⟨Nat.le_of_ble_eq_true rfl, Nat.le_of_ble_eq_true rfl⟩) (psG hK hP hE hS) rfl rfl hl.1 rfl (lv_room (Nat.le_of_ble_eq_true rfl)) dX6_reads_105 ⟨Nat.zero_le _, Nat.zero_le _⟩) hS (fun H locs hP hS => ?_)
        refine lv_iload_n hx hb dX6_reads_108 rfl (lv_at hl 1 rfl) ?_
        exact x_iret hx hb hr hlocks hP hS dX6_reads_109 (Prod.mk.inj (Option.some.inj hf)).1 (Prod.mk.inj (Option.some.inj hf)).2
      · have hf := (if_neg c_1).symm.trans hf
        refine lv_aload_n hx hb dX6_reads_64 rfl (lv_at hl 0 rfl) ?_
        refine va_get (D := z.1) (ci := 6) (v := .int (gI σ 0 8)) (C := RX6) (T := TX6) (N := 29) hx hb hts in_X6 hown hK hP 0 (wl_at (by decide) cX6) rfl 8 (by decide) (hts (.fieldLink RX6 46 "TillOneOfSortModel" "at" "I") (by decide +kernel)) (fun _ h9 => h9) rfl dX6_reads_65 ?_
        refine lv_istore_n (lv' := [(2, .int (gI σ 0 8)), (0, .ref (z.2.1 0)), (1, .int v1)]) hx hb dX6_reads_68 rfl hl (by decide) rfl (fun ls hl => ?_)
        refine lv_aload_n hx hb dX6_reads_69 rfl (lv_at hl 1 rfl) ?_
        obtain ⟨q_3, hq_3, hf⟩ := x_bd hf
        refine x_callGi (va_runV (As := []) (rest := []) ⟨hx, hb, hml, hown, hts⟩ (kX6_sign l z hz hq_3) (cwV 0 hts gX6_reads_X6_sign rfl rfl rfl (by decide +kernel) ⟨Nat.le_of_ble_eq_true rfl, Nat.le_of_ble_eq_true rfl⟩) (pvG hK hP hE hS (va_recv hK hP (ci := 6) (q0 := 0) rfl (wl_at (by decide) cX6))) rfl rfl hl.1 rfl (lv_room (Nat.le_of_ble_eq_true rfl)) dX6_reads_70 ⟨Nat.zero_le _, Nat.zero_le _⟩) hS (fun H locs hP hS => ?_)
        refine lv_istore_n (lv' := [(3, .int q_3), (2, .int (gI σ 0 8)), (0, .ref (z.2.1 0)), (1, .int v1)]) hx hb dX6_reads_73 rfl hl (by decide) rfl (fun ls hl => ?_)
        refine lv_aload_n hx hb dX6_reads_74 rfl (lv_at hl 2 rfl) ?_
        obtain ⟨q_4, hq_4, hf⟩ := x_bd hf
        refine x_callGi (va_runV (As := []) (rest := []) ⟨hx, hb, hml, hown, hts⟩ (kX6_readsStatement l z hz hq_4) (cwV 0 hts gX6_reads_X6_readsStatement rfl rfl rfl (by decide +kernel) ⟨Nat.le_of_ble_eq_true rfl, Nat.le_of_ble_eq_true rfl⟩) (pvG hK hP hE hS (va_recv hK hP (ci := 6) (q0 := 0) rfl (wl_at (by decide) cX6))) rfl rfl hl.1 rfl (lv_room (Nat.le_of_ble_eq_true rfl)) dX6_reads_75 ⟨Nat.zero_le _, Nat.zero_le _⟩) hS (fun H locs hP hS => ?_)
        refine lv_istore (lv' := [(4, .int q_4.1), (3, .int q_3), (2, .int (gI σ 0 8)), (0, .ref (z.2.1 0)), (1, .int v1)]) hx hb dX6_reads_78 hl (by decide) rfl (fun ls hl => ?_)
        refine lv_aload_n hx hb dX6_reads_80 rfl (lv_at hl 3 rfl) ?_
        refine lv_iload_n hx hb dX6_reads_81 rfl (lv_at hl 1 rfl) ?_
        obtain ⟨q_5, hq_5, hf⟩ := x_bd hf
        refine x_callGi (va_runV (As := [.int q_3]) (rest := []) ⟨hx, hb, hml, hown, hts⟩ (kX6_comes l z hz hq_5) (cwV 1 hts gX6_reads_X6_comes rfl rfl rfl (by decide +kernel) ⟨Nat.le_of_ble_eq_true rfl, Nat.le_of_ble_eq_true rfl⟩) (pvG hK hP hE hS (va_recv hK hP (ci := 6) (q0 := 0) rfl (wl_at (by decide) cX6))) rfl rfl hl.1 rfl (lv_room (Nat.le_of_ble_eq_true rfl)) dX6_reads_82 ⟨Nat.zero_le _, Nat.zero_le _⟩) hS (fun H locs hP hS => ?_)
        refine lv_if_ne (tgt := 94) hx hb dX6_reads_85 (by decide) (fun c_6 => ?_) (fun c_6 => ?_)
        · have hf := (if_neg c_6).symm.trans hf
          refine lv_goto (tgt := 53) hx hb dX6_reads_94 (by decide) ?_
          exact ih_53 v1 q_5.2 _ _ _ hP hS (lv_sub hl [3, 4] rfl) hf
        · have hf := (if_pos c_6).symm.trans hf
          refine lv_sipush (v := (-2000 : Int32)) hx hb dX6_reads_88 (by decide) ?_
          refine lv_iload_n hx hb dX6_reads_91 rfl (lv_at hl 2 rfl) ?_
          refine lv_isub hx hb dX6_reads_92 ?_
          exact x_iret hx hb hr hlocks hP hS dX6_reads_93 (Prod.mk.inj (Option.some.inj hf)).1 (Prod.mk.inj (Option.some.inj hf)).2
  have L_7 : ∀ (n_7 : Nat) (v1 : Int32) (σ : Mm) (H : Heap) (locs : List Loc) (ls : Array Slot), va_P z.1 vwCl (wl 8 z.2.1 (ceM z σ)) H → va_S (aG 8 z) s.heap H locs → lv_has ls 5 [(0, .ref (z.2.1 0)), (1, .int v1)] → fX6_reads_7 n_7 v1 σ = some (r, σ') → W p l e (headSpec wsX6_reads ({ frames := 4, cells := 0, slots := 0, locals := 87 })).room s m ([.ref (z.2.1 0)] : List Value).toArray below meth c H locs 0 0 (MQ below (qcG 8 ceM z σ' (some (.int r))) ([.ref (z.2.1 0)] : List Value).toArray s 0 0 (aG 8 z)) (F0 m 7 ls []) := by
    intro n_7
    induction n_7 with
    | zero =>
      intro v1 σ H locs ls hP hS hl hf
      rw [fX6_reads_7] at hf
      cases hf
    | succ n_7 ih_7 =>
      intro v1 σ H locs ls hP hS hl hf
      rw [fX6_reads_7] at hf
      refine lv_aload_n hx hb dX6_reads_7 rfl (lv_at hl 0 rfl) ?_
      obtain ⟨q_7, hq_7, hf⟩ := x_bd hf
      refine x_callGi (va_runV (As := []) (rest := []) ⟨hx, hb, hml, hown, hts⟩ (kX6_readsStatement l z hz hq_7) (cwV 0 hts gX6_reads_X6_readsStatement rfl rfl rfl (by decide +kernel) ⟨Nat.le_of_ble_eq_true rfl, Nat.le_of_ble_eq_true rfl⟩) (pvG hK hP hE hS (va_recv hK hP (ci := 6) (q0 := 0) rfl (wl_at (by decide) cX6))) rfl rfl hl.1 rfl (lv_room (Nat.le_of_ble_eq_true rfl)) dX6_reads_8 ⟨Nat.zero_le _, Nat.zero_le _⟩) hS (fun H locs hP hS => ?_)
      refine lv_if_ne (tgt := 23) hx hb dX6_reads_11 (by decide) (fun c_8 => ?_) (fun c_8 => ?_)
      · have hf := (if_neg c_8).symm.trans hf
        refine lv_iinc (v := (v1 + (1 : Int32))) (lv' := [(1, .int (v1 + (1 : Int32))), (0, .ref (z.2.1 0))]) hx hb dX6_reads_23 hl (k := 1) rfl rfl (by decide) rfl (fun ls hl => ?_)
        refine lv_aload_n hx hb dX6_reads_26 rfl (lv_at hl 1 rfl) ?_
        refine va_get (D := z.1) (ci := 6) (v := .int (gI q_7.2 0 8)) (C := RX6) (T := TX6) (N := 29) hx hb hts in_X6 hown hK hP 0 (wl_at (by decide) cX6) rfl 8 (by decide) (hts (.fieldLink RX6 46 "TillOneOfSortModel" "at" "I") (by decide +kernel)) (fun _ h9 => h9) rfl dX6_reads_27 ?_
        refine lv_aload_n hx hb dX6_reads_30 rfl (lv_at hl 1 rfl) ?_
        refine va_get (D := z.1) (ci := 6) (v := .int (gI q_7.2 0 7)) (C := RX6) (T := TX6) (N := 29) hx hb hts in_X6 hown hK hP 0 (wl_at (by decide) cX6) rfl 7 (by decide) (hts (.fieldLink RX6 42 "TillOneOfSortModel" "taped" "I") (by decide +kernel)) (fun _ h9 => h9) rfl dX6_reads_31 ?_
        refine lv_icmp_lt (tgt := 7) hx hb dX6_reads_34 (by decide) (fun c_9 => ?_) (fun c_9 => ?_)
        · have hf := (if_pos c_9).symm.trans hf
          exact ih_7 (v1 + (1 : Int32)) q_7.2 _ _ _ hP hS (lv_sub hl [1, 0] rfl) hf
        · have hf := (if_neg c_9).symm.trans hf
          refine lv_aload_n hx hb dX6_reads_37 rfl (lv_at hl 1 rfl) ?_
          refine va_get (D := z.1) (ci := 6) (v := .ref (z.2.1 2)) (C := RX6) (T := TX6) (N := 29) hx hb hts in_X6 hown hK hP 0 (wl_at (by decide) cX6) rfl 1 (by decide) (hts (.fieldLink RX6 13 "TillOneOfSortModel" "s" "[I") (by decide +kernel)) (fun _ h9 => h9) rfl dX6_reads_38 ?_
          refine lv_aload_n hx hb dX6_reads_41 rfl (lv_at hl 1 rfl) ?_
          refine va_get (D := z.1) (ci := 6) (v := .ref (z.2.1 4)) (C := RX6) (T := TX6) (N := 29) hx hb hts in_X6 hown hK hP 0 (wl_at (by decide) cX6) rfl 3 (by decide) (hts (.fieldLink RX6 19 "TillOneOfSortModel" "read" "[I") (by decide +kernel)) (fun _ h9 => h9) rfl dX6_reads_42 ?_
          obtain ⟨q_10, hq_10, hf⟩ := x_bd hf
          refine x_callGv (va_runS (As := [.ref (z.2.1 2), .ref (z.2.1 4)]) (rest := []) ⟨hx, hb, hml, hown, hts⟩ (kX6_lays l z hz (rfl : isI22 2 = true) (rfl : isI22 4 = true) hq_10) (va_cwS 2 hts gX6_reads_X6_lays rfl rfl rfl (by decide +kernel) ⟨Nat.le_of_ble_eq_true rfl, Nat.le_of_ble_eq_true rfl⟩) (psG hK hP hE hS) rfl rfl hl.1 rfl (lv_room (Nat.le_of_ble_eq_true rfl)) dX6_reads_45 ⟨Nat.zero_le _, Nat.zero_le _⟩) hS (fun H locs hP hS => ?_)
          refine lv_aload_n hx hb dX6_reads_48 rfl (lv_at hl 1 rfl) ?_
          refine lv_iconst (v := (0 : Int32)) hx hb dX6_reads_49 (by decide) ?_
          refine va_put (D := z.1) (ci := 6) (v := .int (0 : Int32)) (ty := .int) (C := RX6) (T := TX6) (N := 29) hx hb hts in_X6 tyX6 tyX6_ok nmX6 hown hK hP (wl_D hz _) hS 0 (wl_at (by decide) cX6) rfl 8 (by decide) (hts (.fieldLink RX6 46 "TillOneOfSortModel" "at" "I") (by decide +kernel)) (fun _ h9 => h9) rfl (by decide +kernel) rfl rfl (Nat.le_of_ble_eq_true rfl) dX6_reads_50 (fun H locs hP _ hS => ?_)
          rw [sX6I (by decide)] at hP
          exact L_53 1000 (v1 + (1 : Int32)) (pI q_10 0 8 (0 : Int32)) _ _ _ hP hS (lv_sub hl [1, 0] rfl) hf
      · have hf := (if_pos c_8).symm.trans hf
        refine lv_sipush (v := (-1000 : Int32)) hx hb dX6_reads_14 (by decide) ?_
        refine lv_aload_n hx hb dX6_reads_17 rfl (lv_at hl 0 rfl) ?_
        refine va_get (D := z.1) (ci := 6) (v := .int (gI q_7.2 0 8)) (C := RX6) (T := TX6) (N := 29) hx hb hts in_X6 hown hK hP 0 (wl_at (by decide) cX6) rfl 8 (by decide) (hts (.fieldLink RX6 46 "TillOneOfSortModel" "at" "I") (by decide +kernel)) (fun _ h9 => h9) rfl dX6_reads_18 ?_
        refine lv_isub hx hb dX6_reads_21 ?_
        exact x_iret hx hb hr hlocks hP hS dX6_reads_22 (Prod.mk.inj (Option.some.inj hf)).1 (Prod.mk.inj (Option.some.inj hf)).2
  refine lv_aload_n hx hb dX6_reads_0 rfl (lv_at hl 0 rfl) ?_
  refine lv_iconst (v := (0 : Int32)) hx hb dX6_reads_1 (by decide) ?_
  refine va_put (D := z.1) (ci := 6) (v := .int (0 : Int32)) (ty := .int) (C := RX6) (T := TX6) (N := 29) hx hb hts in_X6 tyX6 tyX6_ok nmX6 hown hK hP (wl_D hz _) hS 0 (wl_at (by decide) cX6) rfl 8 (by decide) (hts (.fieldLink RX6 46 "TillOneOfSortModel" "at" "I") (by decide +kernel)) (fun _ h9 => h9) rfl (by decide +kernel) rfl rfl (Nat.le_of_ble_eq_true rfl) dX6_reads_2 (fun H locs hP _ hS => ?_)
  rw [sX6I (by decide)] at hP
  refine lv_iconst (v := (0 : Int32)) hx hb dX6_reads_5 (by decide) ?_
  refine lv_istore_n (lv' := [(1, .int (0 : Int32)), (0, .ref (z.2.1 0))]) hx hb dX6_reads_6 rfl hl (by decide) rfl (fun ls hl => ?_)
  exact L_7 1000 (0 : Int32) (pI σ 0 8 (0 : Int32)) _ _ _ hP hS (lv_sub hl [1, 0] rfl) hf
set_option maxHeartbeats 40000000 in
set_option maxRecDepth 100000 in
theorem kX6_land (l : Launch) (z : Cx) (hz : okC 8 z)   {σ σ' : Mm} {r : Int32} (hf : fX6_land σ = some (r, σ')) : KG 8 ceM l yX6_land wsX6_land (5) (111) [.ref (z.2.1 0)] z σ σ' (some (.int r)) := by
  rw [fX6_land] at hf
  refine Met.ofW (cc := cX6_land) (maxL := 2) (ret := (some .int)) (by decide) rfl ?_
  intro p e s m args below meth c s₁ B hml hv
  obtain ⟨rfl, hP, hK, hE⟩ := hv
  have hx := B.exec
  have hb := B.bytes
  have hr := B.returns
  have hts := atoms_spec (ws := wsX6_land) B.pre
  have hown : s.vm.findClass RX6 = some m.cls := findClass_of_methodNamed B.named
  have hlocks := B.notSynchronized
  have in_X6 : ∀ w ∈ wsX60, w ∈ wsX6_land := by decide +kernel
  have hS : va_S (aG 8 z) s.heap s.heap [] := va_S.rf
  have hl := lv_entry ([.ref (z.2.1 0)]) (n := 2) (Nat.le_of_ble_eq_true rfl)
  rw [lg_entry_eq]
  generalize (lg_sl ([.ref (z.2.1 0)]) ++ List.replicate (2 - (lg_sl ([.ref (z.2.1 0)])).length) Slot.unset).toArray = ls at hl ⊢
  have hl : lv_has ls 2 [(0, .ref (z.2.1 0))] := hl
  refine lv_aload_n hx hb dX6_land_0 rfl (lv_at hl 0 rfl) ?_
  obtain ⟨q_1001, hq_1001, hf⟩ := x_bd hf
  refine x_callGi (va_runV (As := []) (rest := []) ⟨hx, hb, hml, hown, hts⟩ (kX6_reads l z hz hq_1001) (cwV 0 hts gX6_land_X6_reads rfl rfl rfl (by decide +kernel) ⟨Nat.le_of_ble_eq_true rfl, Nat.le_of_ble_eq_true rfl⟩) (pvG hK hP hE hS (va_recv hK hP (ci := 6) (q0 := 0) rfl (wl_at (by decide) cX6))) rfl rfl hl.1 rfl (lv_room (Nat.le_of_ble_eq_true rfl)) dX6_land_1 ⟨Nat.zero_le _, Nat.zero_le _⟩) hS (fun H locs hP hS => ?_)
  refine lv_istore_n (lv' := [(1, .int q_1001.1), (0, .ref (z.2.1 0))]) hx hb dX6_land_4 rfl hl (by decide) rfl (fun ls hl => ?_)
  refine lv_aload_n hx hb dX6_land_5 rfl (lv_at hl 1 rfl) ?_
  refine lv_iconst (v := (0 : Int32)) hx hb dX6_land_6 (by decide) ?_
  refine va_put (D := z.1) (ci := 6) (v := .int (0 : Int32)) (ty := .int) (C := RX6) (T := TX6) (N := 29) hx hb hts in_X6 tyX6 tyX6_ok nmX6 hown hK hP (wl_D hz _) hS 0 (wl_at (by decide) cX6) rfl 7 (by decide) (hts (.fieldLink RX6 42 "TillOneOfSortModel" "taped" "I") (by decide +kernel)) (fun _ h9 => h9) rfl (by decide +kernel) rfl rfl (Nat.le_of_ble_eq_true rfl) dX6_land_7 (fun H locs hP _ hS => ?_)
  rw [sX6I (by decide)] at hP
  refine lv_iload_n hx hb dX6_land_10 rfl (lv_at hl 0 rfl) ?_
  exact x_iret hx hb hr hlocks hP hS dX6_land_11 (Prod.mk.inj (Option.some.inj hf)).1 (Prod.mk.inj (Option.some.inj hf)).2
