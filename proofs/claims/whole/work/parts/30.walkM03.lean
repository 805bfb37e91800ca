set_option maxHeartbeats 40000000 in
set_option maxRecDepth 100000 in
theorem kX6_manyOf (l : Launch) (z : Cx) (hz : okC 8 z) {a0 : Int32}  {σ : Mm} {r : Int32} (hf : fX6_manyOf a0 σ = some r) : KG 8 ceM l yX6_manyOf wsX6_manyOf (0) (0) [.ref (z.2.1 0), .int a0] z σ σ (some (.int r)) := by
  rw [fX6_manyOf] at hf
  refine Met.ofW (cc := cX6_manyOf) (maxL := 2) (ret := (some .int)) (by decide) rfl ?_
  intro p e s m args below meth c s₁ B hml hv
  obtain ⟨rfl, hP, hK, hE⟩ := hv
  have hx := B.exec
  have hb := B.bytes
  have hr := B.returns
  have hts := atoms_spec (ws := wsX6_manyOf) B.pre
  have hown : s.vm.findClass RX6 = some m.cls := findClass_of_methodNamed B.named
  have hlocks := B.notSynchronized
  have in_X6 : ∀ w ∈ wsX60, w ∈ wsX6_manyOf := by decide +kernel
  have hS : va_S (aG 8 z) s.heap s.heap [] := va_S.rf
  have hl := lv_entry ([.ref (z.2.1 0), .int a0]) (n := 2) (Nat.le_of_ble_eq_true rfl)
  rw [lg_entry_eq]
  generalize (lg_sl ([.ref (z.2.1 0), .int a0]) ++ List.replicate (2 - (lg_sl ([.ref (z.2.1 0), .int a0])).length) Slot.unset).toArray = ls at hl ⊢
  have hl : lv_has ls 2 [(0, .ref (z.2.1 0)), (1, .int a0)] := hl
  refine lv_aload_n hx hb dX6_manyOf_0 rfl (lv_at hl 0 rfl) ?_
  refine va_get (D := z.1) (ci := 6) (v := .ref (z.2.1 2)) (C := RX6) (T := TX6) (N := 29) hx hb hts in_X6 hown hK hP 0 (wl_at (by decide) cX6) rfl 1 (by decide) (hts (.fieldLink RX6 13 "TillOneOfSortModel" "s" "[I") (by decide +kernel)) (fun _ h9 => h9) rfl dX6_manyOf_1 ?_
  refine lv_bipush (v := (6 : Int32)) hx hb dX6_manyOf_4 (by decide) ?_
  refine lv_iconst (v := (2 : Int32)) hx hb dX6_manyOf_6 (by decide) ?_
  refine lv_iload_n hx hb dX6_manyOf_7 rfl (lv_at hl 1 rfl) ?_
  refine lv_imul hx hb dX6_manyOf_8 ?_
  refine lv_iadd hx hb dX6_manyOf_9 ?_
  obtain ⟨c_1001, hf⟩ := x_ck hf
  refine va_iald hx hb hK hP 2 0 (wl_at (i22_lt (rfl : isI22 2 = true)) (cMI22 (rfl : isI22 2 = true))) rfl (ci_in c_1001) dX6_manyOf_10 ?_
  exact x_iret hx hb hr hlocks hP hS dX6_manyOf_11 (Option.some.inj hf) rfl
set_option maxHeartbeats 40000000 in
set_option maxRecDepth 100000 in
theorem kX6_sortsOf (l : Launch) (z : Cx) (hz : okC 8 z) {a0 : Int32}  {σ : Mm} {r : Int32} (hf : fX6_sortsOf a0 σ = some r) : KG 8 ceM l yX6_sortsOf wsX6_sortsOf (0) (0) [.ref (z.2.1 0), .int a0] z σ σ (some (.int r)) := by
  rw [fX6_sortsOf] at hf
  refine Met.ofW (cc := cX6_sortsOf) (maxL := 2) (ret := (some .int)) (by decide) rfl ?_
  intro p e s m args below meth c s₁ B hml hv
  obtain ⟨rfl, hP, hK, hE⟩ := hv
  have hx := B.exec
  have hb := B.bytes
  have hr := B.returns
  have hts := atoms_spec (ws := wsX6_sortsOf) B.pre
  have hown : s.vm.findClass RX6 = some m.cls := findClass_of_methodNamed B.named
  have hlocks := B.notSynchronized
  have in_X6 : ∀ w ∈ wsX60, w ∈ wsX6_sortsOf := by decide +kernel
  have hS : va_S (aG 8 z) s.heap s.heap [] := va_S.rf
  have hl := lv_entry ([.ref (z.2.1 0), .int a0]) (n := 2) (Nat.le_of_ble_eq_true rfl)
  rw [lg_entry_eq]
  generalize (lg_sl ([.ref (z.2.1 0), .int a0]) ++ List.replicate (2 - (lg_sl ([.ref (z.2.1 0), .int a0])).length) Slot.unset).toArray = ls at hl ⊢
  have hl : lv_has ls 2 [(0, .ref (z.2.1 0)), (1, .int a0)] := hl
  refine lv_aload_n hx hb dX6_sortsOf_0 rfl (lv_at hl 0 rfl) ?_
  refine va_get (D := z.1) (ci := 6) (v := .ref (z.2.1 2)) (C := RX6) (T := TX6) (N := 29) hx hb hts in_X6 hown hK hP 0 (wl_at (by decide) cX6) rfl 1 (by decide) (hts (.fieldLink RX6 13 "TillOneOfSortModel" "s" "[I") (by decide +kernel)) (fun _ h9 => h9) rfl dX6_sortsOf_1 ?_
  refine lv_bipush (v := (6 : Int32)) hx hb dX6_sortsOf_4 (by decide) ?_
  refine lv_iconst (v := (2 : Int32)) hx hb dX6_sortsOf_6 (by decide) ?_
  refine lv_iload_n hx hb dX6_sortsOf_7 rfl (lv_at hl 1 rfl) ?_
  refine lv_imul hx hb dX6_sortsOf_8 ?_
  refine lv_iadd hx hb dX6_sortsOf_9 ?_
  refine lv_iconst (v := (1 : Int32)) hx hb dX6_sortsOf_10 (by decide) ?_
  refine lv_iadd hx hb dX6_sortsOf_11 ?_
  obtain ⟨c_1001, hf⟩ := x_ck hf
  refine va_iald hx hb hK hP 2 0 (wl_at (i22_lt (rfl : isI22 2 = true)) (cMI22 (rfl : isI22 2 = true))) rfl (ci_in c_1001) dX6_sortsOf_12 ?_
  exact x_iret hx hb hr hlocks hP hS dX6_sortsOf_13 (Option.some.inj hf) rfl
set_option maxHeartbeats 40000000 in
set_option maxRecDepth 100000 in
theorem kX6_fits (l : Launch) (z : Cx) (hz : okC 8 z) {a0 : Int32}  {σ σ' : Mm} {r : Int32} (hf : fX6_fits a0 σ = some (r, σ')) : KG 8 ceM l yX6_fits wsX6_fits (3) (73) [.ref (z.2.1 0), .int a0] z σ σ' (some (.int r)) := by
  rw [fX6_fits] at hf
  refine Met.ofW (cc := cX6_fits) (maxL := 7) (ret := (some .int)) (by decide) rfl ?_
  intro p e s m args below meth c s₁ B hml hv
  obtain ⟨rfl, hP, hK, hE⟩ := hv
  have hx := B.exec
  have hb := B.bytes
  have hr := B.returns
  have hts := atoms_spec (ws := wsX6_fits) B.pre
  have hown : s.vm.findClass RX6 = some m.cls := findClass_of_methodNamed B.named
  have hlocks := B.notSynchronized
  have in_X6 : ∀ w ∈ wsX60, w ∈ wsX6_fits := by decide +kernel
  have hS : va_S (aG 8 z) s.heap s.heap [] := va_S.rf
  have hl := lv_entry ([.ref (z.2.1 0), .int a0]) (n := 7) (Nat.le_of_ble_eq_true rfl)
  rw [lg_entry_eq]
  generalize (lg_sl ([.ref (z.2.1 0), .int a0]) ++ List.replicate (7 - (lg_sl ([.ref (z.2.1 0), .int a0])).length) Slot.unset).toArray = ls at hl ⊢
  have hl : lv_has ls 7 [(0, .ref (z.2.1 0)), (1, .int a0)] := hl
  have L_19 : ∀ (n_19 : Nat) (v1 : Int32) (v2 : Int32) (v3 : Int32) (σ : Mm) (H : Heap) (locs : List Loc) (ls : Array Slot), va_P z.1 vwCl (wl 8 z.2.1 (ceM z σ)) H → va_S (aG 8 z) s.heap H locs → lv_has ls 7 [(0, .ref (z.2.1 0)), (1, .int v1), (2, .int v2), (3, .int v3)] → fX6_fits_19 n_19 v1 v2 v3 σ = some (r, σ') → W p l e (headSpec wsX6_fits ({ frames := 3, cells := 0, slots := 0, locals := 73 })).room s m ([.ref (z.2.1 0), .int a0] : List Value).toArray below meth c H locs 0 0 (MQ below (qcG 8 ceM z σ' (some (.int r))) ([.ref (z.2.1 0), .int a0] : List Value).toArray s 0 0 (aG 8 z)) (F0 m 19 ls []) := by
    intro n_19
    induction n_19 with
    | zero =>
      intro v1 v2 v3 σ H locs ls hP hS hl hf
      rw [fX6_fits_19] at hf
      cases hf
    | succ n_19 ih_19 =>
      have j_113 : ∀ (v1 : Int32) (v3 : Int32) (t0 : Int32) (t1 : Int32) (σ : Mm) (H : Heap) (locs : List Loc) (ls : Array Slot), va_P z.1 vwCl (wl 8 z.2.1 (ceM z σ)) H → va_S (aG 8 z) s.heap H locs → lv_has ls 7 [(0, .ref (z.2.1 0)), (1, .int v1), (3, .int v3)] → fX6_fits_113 (fun wv1 wv2 wv3 wσ => fX6_fits_19 n_19 wv1 wv2 wv3 wσ) v1 v3 t0 t1 σ = some (r, σ') → W p l e (headSpec wsX6_fits ({ frames := 3, cells := 0, slots := 0, locals := 73 })).room s m ([.ref (z.2.1 0), .int a0] : List Value).toArray below meth c H locs 0 0 (MQ below (qcG 8 ceM z σ' (some (.int r))) ([.ref (z.2.1 0), .int a0] : List Value).toArray s 0 0 (aG 8 z)) (F0 m 113 ls [.int t0, .int t1]) := by
        intro v1 v3 t0 t1 σ H locs ls hP hS hl hf
        rw [fX6_fits_113] at hf
        refine lv_ior hx hb dX6_fits_113 ?_
        refine lv_istore_n (lv' := [(2, .int (t1 ||| t0)), (0, .ref (z.2.1 0)), (1, .int v1), (3, .int v3)]) hx hb dX6_fits_114 rfl hl (by decide) rfl (fun ls hl => ?_)
        refine lv_iinc (v := (v3 + (1 : Int32))) (lv' := [(3, .int (v3 + (1 : Int32))), (2, .int (t1 ||| t0)), (0, .ref (z.2.1 0)), (1, .int v1)]) hx hb dX6_fits_115 hl (k := 3) rfl rfl (by decide) rfl (fun ls hl => ?_)
        refine lv_goto (tgt := 19) hx hb dX6_fits_118 (by decide) ?_
        exact ih_19 v1 (t1 ||| t0) (v3 + (1 : Int32)) σ _ _ _ hP hS (lv_sub hl [2, 3, 1, 0] rfl) hf
      have L_31 : ∀ (n_31 : Nat) (v1 : Int32) (v2 : Int32) (v3 : Int32) (v4 : Int32) (v5 : Int32) (σ : Mm) (H : Heap) (locs : List Loc) (ls : Array Slot), va_P z.1 vwCl (wl 8 z.2.1 (ceM z σ)) H → va_S (aG 8 z) s.heap H locs → lv_has ls 7 [(0, .ref (z.2.1 0)), (1, .int v1), (2, .int v2), (3, .int v3), (4, .int v4), (5, .int v5)] → fX6_fits_31 (fun wv1 wv2 wv3 wσ => fX6_fits_19 n_19 wv1 wv2 wv3 wσ) n_31 v1 v2 v3 v4 v5 σ = some (r, σ') → W p l e (headSpec wsX6_fits ({ frames := 3, cells := 0, slots := 0, locals := 73 })).room s m ([.ref (z.2.1 0), .int a0] : List Value).toArray below meth c H locs 0 0 (MQ below (qcG 8 ceM z σ' (some (.int r))) ([.ref (z.2.1 0), .int a0] : List Value).toArray s 0 0 (aG 8 z)) (F0 m 31 ls []) := by
        intro n_31
        induction n_31 with
        | zero =>
          intro v1 v2 v3 v4 v5 σ H locs ls hP hS hl hf
          rw [fX6_fits_31] at hf
          cases hf
        | succ n_31 ih_31 =>
          have j_92 : ∀ (v1 : Int32) (v2 : Int32) (v3 : Int32) (v5 : Int32) (t0 : Int32) (σ : Mm) (H : Heap) (locs : List Loc) (ls : Array Slot), va_P z.1 vwCl (wl 8 z.2.1 (ceM z σ)) H → va_S (aG 8 z) s.heap H locs → lv_has ls 7 [(0, .ref (z.2.1 0)), (1, .int v1), (2, .int v2), (3, .int v3), (5, .int v5)] → fX6_fits_92 (fun wv1 wv2 wv3 wσ => fX6_fits_19 n_19 wv1 wv2 wv3 wσ) (fun wv1 wv2 wv3 wv4 wv5 wσ => fX6_fits_31 (fun wv1 wv2 wv3 wσ => fX6_fits_19 n_19 wv1 wv2 wv3 wσ) n_31 wv1 wv2 wv3 wv4 wv5 wσ) v1 v2 v3 v5 t0 σ = some (r, σ') → W p l e (headSpec wsX6_fits ({ frames := 3, cells := 0, slots := 0, locals := 73 })).room s m ([.ref (z.2.1 0), .int a0] : List Value).toArray below meth c H locs 0 0 (MQ below (qcG 8 ceM z σ' (some (.int r))) ([.ref (z.2.1 0), .int a0] : List Value).toArray s 0 0 (aG 8 z)) (F0 m 92 ls [.int t0]) := by
            intro v1 v2 v3 v5 t0 σ H locs ls hP hS hl hf
            rw [fX6_fits_92] at hf
            refine lv_istore (lv' := [(4, .int t0), (0, .ref (z.2.1 0)), (1, .int v1), (2, .int v2), (3, .int v3), (5, .int v5)]) hx hb dX6_fits_92 hl (by decide) rfl (fun ls hl => ?_)
            refine lv_iinc (v := (v5 + (1 : Int32))) (lv' := [(5, .int (v5 + (1 : Int32))), (4, .int t0), (0, .ref (z.2.1 0)), (1, .int v1), (2, .int v2), (3, .int v3)]) hx hb dX6_fits_94 hl (k := 5) rfl rfl (by decide) rfl (fun ls hl => ?_)
            refine lv_goto (tgt := 31) hx hb dX6_fits_97 (by decide) ?_
            exact ih_31 v1 v2 v3 t0 (v5 + (1 : Int32)) σ _ _ _ hP hS (lv_sub hl [2, 3, 4, 5, 1, 0] rfl) hf
          have j_91 : ∀ (v1 : Int32) (v2 : Int32) (v3 : Int32) (v5 : Int32) (σ : Mm) (H : Heap) (locs : List Loc) (ls : Array Slot), va_P z.1 vwCl (wl 8 z.2.1 (ceM z σ)) H → va_S (aG 8 z) s.heap H locs → lv_has ls 7 [(0, .ref (z.2.1 0)), (1, .int v1), (2, .int v2), (3, .int v3), (5, .int v5)] → fX6_fits_91 (fun wv1 wv2 wv3 wσ => fX6_fits_19 n_19 wv1 wv2 wv3 wσ) (fun wv1 wv2 wv3 wv4 wv5 wσ => fX6_fits_31 (fun wv1 wv2 wv3 wσ => fX6_fits_19 n_19 wv1 wv2 wv3 wσ) n_31 wv1 wv2 wv3 wv4 wv5 wσ) v1 v2 v3 v5 σ = some (r, σ') → W p l e (headSpec wsX6_fits ({ frames := 3, cells := 0, slots := 0, locals := 73 })).room s m ([.ref (z.2.1 0), .int a0] : List Value).toArray below meth c H locs 0 0 (MQ below (qcG 8 ceM z σ' (some (.int r))) ([.ref (z.2.1 0), .int a0] : List Value).toArray s 0 0 (aG 8 z)) (F0 m 91 ls []) := by
            intro v1 v2 v3 v5 σ H locs ls hP hS hl hf
            rw [fX6_fits_91] at hf
            refine lv_iconst (v := (0 : Int32)) hx hb dX6_fits_91 (by decide) ?_
            exact j_92 v1 v2 v3 v5 (0 : Int32) σ _ _ _ hP hS (lv_sub hl [0, 1, 2, 3, 4] rfl) hf
          have j_87 : ∀ (v1 : Int32) (v2 : Int32) (v3 : Int32) (v5 : Int32) (σ : Mm) (H : Heap) (locs : List Loc) (ls : Array Slot), va_P z.1 vwCl (wl 8 z.2.1 (ceM z σ)) H → va_S (aG 8 z) s.heap H locs → lv_has ls 7 [(0, .ref (z.2.1 0)), (1, .int v1), (2, .int v2), (3, .int v3), (5, .int v5)] → fX6_fits_87 (fun wv1 wv2 wv3 wσ => fX6_fits_19 n_19 wv1 wv2 wv3 wσ) (fun wv1 wv2 wv3 wv4 wv5 wσ => fX6_fits_31 (fun wv1 wv2 wv3 wσ => fX6_fits_19 n_19 wv1 wv2 wv3 wσ) n_31 wv1 wv2 wv3 wv4 wv5 wσ) v1 v2 v3 v5 σ = some (r, σ') → W p l e (headSpec wsX6_fits ({ frames := 3, cells := 0, slots := 0, locals := 73 })).room s m ([.ref (z.2.1 0), .int a0] : List Value).toArray below meth c H locs 0 0 (MQ below (qcG 8 ceM z σ' (some (.int r))) ([.ref (z.2.1 0), .int a0] : List Value).toArray s 0 0 (aG 8 z)) (F0 m 87 ls []) := by
            intro v1 v2 v3 v5 σ H locs ls hP hS hl hf
            rw [fX6_fits_87] at hf
            refine lv_iconst (v := (1 : Int32)) hx hb dX6_fits_87 (by decide) ?_
            refine lv_goto (tgt := 92) hx hb dX6_fits_88 (by decide) ?_
            exact j_92 v1 v2 v3 v5 (1 : Int32) σ _ _ _ hP hS (lv_sub hl [0, 1, 2, 3, 4] rfl) hf
          intro v1 v2 v3 v4 v5 σ H locs ls hP hS hl hf
          rw [fX6_fits_31] at hf
          refine lv_iload hx hb dX6_fits_31 (lv_at hl 5 rfl) ?_
          refine lv_aload_n hx hb dX6_fits_33 rfl (lv_at hl 0 rfl) ?_
          refine va_get (D := z.1) (ci := 6) (v := .ref (z.2.1 2)) (C := RX6) (T := TX6) (N := 29) hx hb hts in_X6 hown hK hP 0 (wl_at (by decide) cX6) rfl 1 (by decide) (hts (.fieldLink RX6 13 "TillOneOfSortModel" "s" "[I") (by decide +kernel)) (fun _ h9 => h9) rfl dX6_fits_34 ?_
          refine lv_iconst (v := (5 : Int32)) hx hb dX6_fits_37 (by decide) ?_
          obtain ⟨c_5, hf⟩ := x_ck hf
          refine va_iald hx hb hK hP 2 0 (wl_at (i22_lt (rfl : isI22 2 = true)) (cMI22 (rfl : isI22 2 = true))) rfl (ci_in c_5) dX6_fits_38 ?_
          refine lv_icmp_ge (tgt := 100) hx hb dX6_fits_39 (by decide) (fun c_6 => ?_) (fun c_6 => ?_)
          · have hf := (if_pos c_6).symm.trans hf
            refine lv_iload_n hx hb dX6_fits_100 rfl (lv_at hl 2 rfl) ?_
            refine lv_iload hx hb dX6_fits_101 (lv_at hl 4 rfl) ?_
            refine lv_if_eq (tgt := 112) hx hb dX6_fits_103 (by decide) (fun c_7 => ?_) (fun c_7 => ?_)
            · have hf := (if_pos c_7).symm.trans hf
              refine lv_iconst (v := (0 : Int32)) hx hb dX6_fits_112 (by decide) ?_
              exact j_113 v1 v3 (0 : Int32) v2 σ _ _ _ hP hS (lv_sub hl [0, 1, 3] rfl) hf
            · have hf := (if_neg c_7).symm.trans hf
              refine lv_iconst (v := (1 : Int32)) hx hb dX6_fits_106 (by decide) ?_
              refine lv_iload_n hx hb dX6_fits_107 rfl (lv_at hl 3 rfl) ?_
              refine lv_ishl hx hb dX6_fits_108 ?_
              refine lv_goto (tgt := 113) hx hb dX6_fits_109 (by decide) ?_
              exact j_113 v1 v3 ((1 : Int32) <<< (v3 &&& 31)) v2 σ _ _ _ hP hS (lv_sub hl [0, 1, 3] rfl) hf
          · have hf := (if_neg c_6).symm.trans hf
            refine lv_aload_n hx hb dX6_fits_42 rfl (lv_at hl 0 rfl) ?_
            refine lv_iload_n hx hb dX6_fits_43 rfl (lv_at hl 3 rfl) ?_
            refine lv_aload_n hx hb dX6_fits_44 rfl (lv_at hl 0 rfl) ?_
            refine lv_iload hx hb dX6_fits_45 (lv_at hl 5 rfl) ?_
            obtain ⟨q_8, hq_8, hf⟩ := x_bd hf
            refine x_callGi (va_runV (As := [.int v5]) (rest := [.int v3, .ref (z.2.1 0)]) ⟨hx, hb, hml, hown, hts⟩ (kX6_manyOf l z hz hq_8) (cwV 1 hts gX6_fits_X6_manyOf rfl rfl rfl (by decide +kernel) ⟨Nat.le_of_ble_eq_true rfl, Nat.le_of_ble_eq_true rfl⟩) (pvG hK hP hE hS (va_recv hK hP (ci := 6) (q0 := 0) rfl (wl_at (by decide) cX6))) rfl rfl hl.1 rfl (lv_room (Nat.le_of_ble_eq_true rfl)) dX6_fits_47 ⟨Nat.zero_le _, Nat.zero_le _⟩) hS (fun H locs hP hS => ?_)
            refine lv_aload_n hx hb dX6_fits_50 rfl (lv_at hl 0 rfl) ?_
            refine lv_iload hx hb dX6_fits_51 (lv_at hl 5 rfl) ?_
            obtain ⟨q_9, hq_9, hf⟩ := x_bd hf
            refine x_callGi (va_runV (As := [.int v5]) (rest := [.int q_8, .int v3, .ref (z.2.1 0)]) ⟨hx, hb, hml, hown, hts⟩ (kX6_sortsOf l z hz hq_9) (cwV 1 hts gX6_fits_X6_sortsOf rfl rfl rfl (by decide +kernel) ⟨Nat.le_of_ble_eq_true rfl, Nat.le_of_ble_eq_true rfl⟩) (pvG hK hP hE hS (va_recv hK hP (ci := 6) (q0 := 0) rfl (wl_at (by decide) cX6))) rfl rfl hl.1 rfl (lv_room (Nat.le_of_ble_eq_true rfl)) dX6_fits_53 ⟨Nat.zero_le _, Nat.zero_le _⟩) hS (fun H locs hP hS => ?_)
            obtain ⟨q_10, hq_10, hf⟩ := x_bd hf
            refine x_callGi (va_runV (As := [.int v3, .int q_8, .int q_9]) (rest := []) ⟨hx, hb, hml, hown, hts⟩ (kX6_stopOf l z hz hq_10) (cwV 3 hts gX6_fits_X6_stopOf rfl rfl rfl (by decide +kernel) ⟨Nat.le_of_ble_eq_true rfl, Nat.le_of_ble_eq_true rfl⟩) (pvG hK hP hE hS (va_recv hK hP (ci := 6) (q0 := 0) rfl (wl_at (by decide) cX6))) rfl rfl hl.1 rfl (lv_room (Nat.le_of_ble_eq_true rfl)) dX6_fits_56 ⟨Nat.zero_le _, Nat.zero_le _⟩) hS (fun H locs hP hS => ?_)
            refine lv_istore (lv' := [(6, .int q_10.1), (0, .ref (z.2.1 0)), (1, .int v1), (2, .int v2), (3, .int v3), (4, .int v4), (5, .int v5)]) hx hb dX6_fits_59 hl (by decide) rfl (fun ls hl => ?_)
            refine lv_iload hx hb dX6_fits_61 (lv_at hl 5 rfl) ?_
            refine lv_if_eq (tgt := 91) hx hb dX6_fits_63 (by decide) (fun c_11 => ?_) (fun c_11 => ?_)
            · have hf := (if_pos c_11).symm.trans hf
              exact j_91 v1 v2 v3 v5 q_10.2 _ _ _ hP hS (lv_sub hl [1, 2, 3, 4, 6] rfl) hf
            · have hf := (if_neg c_11).symm.trans hf
              refine lv_iload hx hb dX6_fits_66 (lv_at hl 0 rfl) ?_
              refine lv_aload_n hx hb dX6_fits_68 rfl (lv_at hl 1 rfl) ?_
              refine lv_iload hx hb dX6_fits_69 (lv_at hl 6 rfl) ?_
              obtain ⟨q_12, hq_12, hf⟩ := x_bd hf
              refine x_callGi (va_runV (As := [.int v5]) (rest := [.int q_10.1]) ⟨hx, hb, hml, hown, hts⟩ (kX6_manyOf l z hz hq_12) (cwV 1 hts gX6_fits_X6_manyOf rfl rfl rfl (by decide +kernel) ⟨Nat.le_of_ble_eq_true rfl, Nat.le_of_ble_eq_true rfl⟩) (pvG hK hP hE hS (va_recv hK hP (ci := 6) (q0 := 0) rfl (wl_at (by decide) cX6))) rfl rfl hl.1 rfl (lv_room (Nat.le_of_ble_eq_true rfl)) dX6_fits_71 ⟨Nat.zero_le _, Nat.zero_le _⟩) hS (fun H locs hP hS => ?_)
              refine lv_icmp_eq (tgt := 87) hx hb dX6_fits_74 (by decide) (fun c_13 => ?_) (fun c_13 => ?_)
              · have hf := (if_pos c_13).symm.trans hf
                exact j_87 v1 v2 v3 v5 q_10.2 _ _ _ hP hS (lv_sub hl [1, 2, 3, 4, 6] rfl) hf
              · have hf := (if_neg c_13).symm.trans hf
                refine lv_iload_n hx hb dX6_fits_77 rfl (lv_at hl 2 rfl) ?_
                refine lv_iconst (v := (1 : Int32)) hx hb dX6_fits_78 (by decide) ?_
                refine lv_icmp_ne (tgt := 91) hx hb dX6_fits_79 (by decide) (fun c_14 => ?_) (fun c_14 => ?_)
                · have hf := (if_neg c_14).symm.trans hf
                  exact j_91 v1 v2 v3 v5 q_10.2 _ _ _ hP hS (lv_sub hl [1, 2, 3, 4, 6] rfl) hf
                · have hf := (if_pos c_14).symm.trans hf
                  refine lv_iload hx hb dX6_fits_82 (lv_at hl 0 rfl) ?_
                  refine lv_if_ne (tgt := 91) hx hb dX6_fits_84 (by decide) (fun c_15 => ?_) (fun c_15 => ?_)
                  · have hf := (if_neg c_15).symm.trans hf
                    exact j_91 v1 v2 v3 v5 q_10.2 _ _ _ hP hS (lv_sub hl [1, 2, 3, 4, 6] rfl) hf
                  · have hf := (if_pos c_15).symm.trans hf
                    exact j_87 v1 v2 v3 v5 q_10.2 _ _ _ hP hS (lv_sub hl [1, 2, 3, 4, 6] rfl) hf
      intro v1 v2 v3 σ H locs ls hP hS hl hf
      rw [fX6_fits_19] at hf
      refine lv_iload_n hx hb dX6_fits_19 rfl (lv_at hl 3 rfl) ?_
      refine lv_bipush (v := (6 : Int32)) hx hb dX6_fits_20 (by decide) ?_
      refine lv_icmp_ge (tgt := 121) hx hb dX6_fits_22 (by decide) (fun c_4 => ?_) (fun c_4 => ?_)
      · have hf := (if_pos c_4).symm.trans hf
        refine lv_iload_n hx hb dX6_fits_121 rfl (lv_at hl 2 rfl) ?_
        exact x_iret hx hb hr hlocks hP hS dX6_fits_122 (Prod.mk.inj (Option.some.inj hf)).1 (Prod.mk.inj (Option.some.inj hf)).2
      · have hf := (if_neg c_4).symm.trans hf
        refine lv_iconst (v := (1 : Int32)) hx hb dX6_fits_25 (by decide) ?_
        refine lv_istore (lv' := [(4, .int (1 : Int32)), (0, .ref (z.2.1 0)), (1, .int v1), (2, .int v2), (3, .int v3)]) hx hb dX6_fits_26 hl (by decide) rfl (fun ls hl => ?_)
        refine lv_iconst (v := (0 : Int32)) hx hb dX6_fits_28 (by decide) ?_
        refine lv_istore (lv' := [(5, .int (0 : Int32)), (4, .int (1 : Int32)), (0, .ref (z.2.1 0)), (1, .int v1), (2, .int v2), (3, .int v3)]) hx hb dX6_fits_29 hl (by decide) rfl (fun ls hl => ?_)
        exact L_31 1000 v1 v2 v3 (1 : Int32) (0 : Int32) σ _ _ _ hP hS (lv_sub hl [2, 3, 4, 5, 1, 0] rfl) hf
  refine lv_iload_n hx hb dX6_fits_0 rfl (lv_at hl 1 rfl) ?_
  refine lv_iconst (v := (2 : Int32)) hx hb dX6_fits_1 (by decide) ?_
  obtain ⟨q_1001, hq_1001, hf⟩ := x_bd hf
  refine x_callSi (va_runS (As := [.int a0, .int (2 : Int32)]) (rest := []) ⟨hx, hb, hml, hown, hts⟩ (kX6_isIn l hq_1001) (va_cwS 2 hts gX6_fits_X6_isIn rfl rfl rfl (by decide +kernel) ⟨Nat.le_of_ble_eq_true rfl, Nat.le_of_ble_eq_true rfl⟩) psS rfl rfl hl.1 rfl (lv_room (Nat.le_of_ble_eq_true rfl)) dX6_fits_2 ⟨Nat.zero_le _, Nat.zero_le _⟩) ?_
  refine lv_if_ne (tgt := 15) hx hb dX6_fits_5 (by decide) (fun c_1002 => ?_) (fun c_1002 => ?_)
  · have hf := (if_neg c_1002).symm.trans hf
    refine lv_iconst (v := (0 : Int32)) hx hb dX6_fits_15 (by decide) ?_
    refine lv_istore_n (lv' := [(2, .int (0 : Int32)), (0, .ref (z.2.1 0)), (1, .int a0)]) hx hb dX6_fits_16 rfl hl (by decide) rfl (fun ls hl => ?_)
    refine lv_iconst (v := (0 : Int32)) hx hb dX6_fits_17 (by decide) ?_
    refine lv_istore_n (lv' := [(3, .int (0 : Int32)), (2, .int (0 : Int32)), (0, .ref (z.2.1 0)), (1, .int a0)]) hx hb dX6_fits_18 rfl hl (by decide) rfl (fun ls hl => ?_)
    exact L_19 1000 a0 (0 : Int32) (0 : Int32) σ _ _ _ hP hS (lv_sub hl [2, 3, 1, 0] rfl) hf
  · have hf := (if_pos c_1002).symm.trans hf
    refine lv_aload_n hx hb dX6_fits_8 rfl (lv_at hl 0 rfl) ?_
    refine lv_bipush (v := (-2 : Int32)) hx hb dX6_fits_9 (by decide) ?_
    obtain ⟨q_1003, hq_1003, hf⟩ := x_bd hf
    refine x_callGi (va_runV (As := [.int (-2 : Int32)]) (rest := []) ⟨hx, hb, hml, hown, hts⟩ (kX6_refuse l z hz hq_1003) (cwV 1 hts gX6_fits_X6_refuse rfl rfl rfl (by decide +kernel) ⟨Nat.le_of_ble_eq_true rfl, Nat.le_of_ble_eq_true rfl⟩) (pvG hK hP hE hS (va_recv hK hP (ci := 6) (q0 := 0) rfl (wl_at (by decide) cX6))) rfl rfl hl.1 rfl (lv_room (Nat.le_of_ble_eq_true rfl)) dX6_fits_11 ⟨Nat.zero_le _, Nat.zero_le _⟩) hS (fun H locs hP hS => ?_)
    exact x_iret hx hb hr hlocks hP hS dX6_fits_14 (Prod.mk.inj (Option.some.inj hf)).1 (Prod.mk.inj (Option.some.inj hf)).2
set_option maxHeartbeats 40000000 in
set_option maxRecDepth 100000 in
theorem kX6_judge (l : Launch) (z : Cx) (hz : okC 8 z)   {σ σ' : Mm} {r : Int32} (hf : fX6_judge σ = some (r, σ')) : KG 8 ceM l yX6_judge wsX6_judge (3) (73) [.ref (z.2.1 0)] z σ σ' (some (.int r)) := by
  rw [fX6_judge] at hf
  refine Met.ofW (cc := cX6_judge) (maxL := 3) (ret := (some .int)) (by decide) rfl ?_
  intro p e s m args below meth c s₁ B hml hv
  obtain ⟨rfl, hP, hK, hE⟩ := hv
  have hx := B.exec
  have hb := B.bytes
  have hr := B.returns
  have hts := atoms_spec (ws := wsX6_judge) B.pre
  have hown : s.vm.findClass RX6 = some m.cls := findClass_of_methodNamed B.named
  have hlocks := B.notSynchronized
  have in_X6 : ∀ w ∈ wsX60, w ∈ wsX6_judge := by decide +kernel
  have hS : va_S (aG 8 z) s.heap s.heap [] := va_S.rf
  have hl := lv_entry ([.ref (z.2.1 0)]) (n := 3) (Nat.le_of_ble_eq_true rfl)
  rw [lg_entry_eq]
  generalize (lg_sl ([.ref (z.2.1 0)]) ++ List.replicate (3 - (lg_sl ([.ref (z.2.1 0)])).length) Slot.unset).toArray = ls at hl ⊢
  have hl : lv_has ls 3 [(0, .ref (z.2.1 0))] := hl
  refine lv_aload_n hx hb dX6_judge_0 rfl (lv_at hl 0 rfl) ?_
  refine va_get (D := z.1) (ci := 6) (v := .int (gI σ 0 26)) (C := RX6) (T := TX6) (N := 29) hx hb hts in_X6 hown hK hP 0 (wl_at (by decide) cX6) rfl 26 (by decide) (hts (.fieldLink RX6 185 "TillOneOfSortModel" "rowed" "I") (by decide +kernel)) (fun _ h9 => h9) rfl dX6_judge_1 ?_
  refine lv_istore_n (lv' := [(1, .int (gI σ 0 26)), (0, .ref (z.2.1 0))]) hx hb dX6_judge_4 rfl hl (by decide) rfl (fun ls hl => ?_)
  refine lv_aload_n hx hb dX6_judge_5 rfl (lv_at hl 1 rfl) ?_
  refine lv_iconst (v := (0 : Int32)) hx hb dX6_judge_6 (by decide) ?_
  refine va_put (D := z.1) (ci := 6) (v := .int (0 : Int32)) (ty := .int) (C := RX6) (T := TX6) (N := 29) hx hb hts in_X6 tyX6 tyX6_ok nmX6 hown hK hP (wl_D hz _) hS 0 (wl_at (by decide) cX6) rfl 26 (by decide) (hts (.fieldLink RX6 185 "TillOneOfSortModel" "rowed" "I") (by decide +kernel)) (fun _ h9 => h9) rfl (by decide +kernel) rfl rfl (Nat.le_of_ble_eq_true rfl) dX6_judge_7 (fun H locs hP _ hS => ?_)
  rw [sX6I (by decide)] at hP
  refine lv_aload_n hx hb dX6_judge_10 rfl (lv_at hl 1 rfl) ?_
  refine lv_aload_n hx hb dX6_judge_11 rfl (lv_at hl 1 rfl) ?_
  refine va_get (D := z.1) (ci := 6) (v := .ref (z.2.1 2)) (C := RX6) (T := TX6) (N := 29) hx hb hts in_X6 hown hK hP 0 (wl_at (by decide) cX6) rfl 1 (by decide) (hts (.fieldLink RX6 13 "TillOneOfSortModel" "s" "[I") (by decide +kernel)) (fun _ h9 => h9) rfl dX6_judge_12 ?_
  refine lv_iconst (v := (3 : Int32)) hx hb dX6_judge_15 (by decide) ?_
  obtain ⟨c_1001, hf⟩ := x_ck hf
  refine va_iald hx hb hK hP 2 0 (wl_at (i22_lt (rfl : isI22 2 = true)) (cMI22 (rfl : isI22 2 = true))) rfl (ci_in c_1001) dX6_judge_16 ?_
  refine lv_iload_n hx hb dX6_judge_17 rfl (lv_at hl 0 rfl) ?_
  refine lv_aload_n hx hb dX6_judge_18 rfl (lv_at hl 1 rfl) ?_
  refine va_get (D := z.1) (ci := 6) (v := .int (gI (pI σ 0 26 (0 : Int32)) 0 27)) (C := RX6) (T := TX6) (N := 29) hx hb hts in_X6 hown hK hP 0 (wl_at (by decide) cX6) rfl 27 (by decide) (hts (.fieldLink RX6 188 "TillOneOfSortModel" "rowSorts" "I") (by decide +kernel)) (fun _ h9 => h9) rfl dX6_judge_19 ?_
  obtain ⟨q_1002, hq_1002, hf⟩ := x_bd hf
  refine x_callGi (va_runV (As := [.int (gI (pI σ 0 26 (0 : Int32)) 2 (3 : Int32).toNatClampNeg), .int (gI σ 0 26), .int (gI (pI σ 0 26 (0 : Int32)) 0 27)]) (rest := []) ⟨hx, hb, hml, hown, hts⟩ (kX6_stopOf l z hz hq_1002) (cwV 3 hts gX6_judge_X6_stopOf rfl rfl rfl (by decide +kernel) ⟨Nat.le_of_ble_eq_true rfl, Nat.le_of_ble_eq_true rfl⟩) (pvG hK hP hE hS (va_recv hK hP (ci := 6) (q0 := 0) rfl (wl_at (by decide) cX6))) rfl rfl hl.1 rfl (lv_room (Nat.le_of_ble_eq_true rfl)) dX6_judge_22 ⟨Nat.zero_le _, Nat.zero_le _⟩) hS (fun H locs hP hS => ?_)
  refine lv_istore_n (lv' := [(2, .int q_1002.1), (1, .int (gI σ 0 26)), (0, .ref (z.2.1 0))]) hx hb dX6_judge_25 rfl hl (by decide) rfl (fun ls hl => ?_)
  refine lv_iload_n hx hb dX6_judge_26 rfl (lv_at hl 0 rfl) ?_
  refine lv_if_ne (tgt := 35) hx hb dX6_judge_27 (by decide) (fun c_1003 => ?_) (fun c_1003 => ?_)
  · have hf := (if_neg c_1003).symm.trans hf
    refine lv_iload_n hx hb dX6_judge_35 rfl (lv_at hl 0 rfl) ?_
    refine lv_iload_n hx hb dX6_judge_36 rfl (lv_at hl 1 rfl) ?_
    refine lv_icmp_ne (tgt := 45) hx hb dX6_judge_37 (by decide) (fun c_1004 => ?_) (fun c_1004 => ?_)
    · have hf := (if_neg c_1004).symm.trans hf
      refine lv_iload_n hx hb dX6_judge_45 rfl (lv_at hl 0 rfl) ?_
      refine lv_iconst (v := (1 : Int32)) hx hb dX6_judge_46 (by decide) ?_
      refine lv_isub hx hb dX6_judge_47 ?_
      exact x_iret hx hb hr hlocks hP hS dX6_judge_48 (Prod.mk.inj (Option.some.inj hf)).1 (Prod.mk.inj (Option.some.inj hf)).2
    · have hf := (if_pos c_1004).symm.trans hf
      refine lv_bipush (v := (20 : Int32)) hx hb dX6_judge_40 (by decide) ?_
      refine lv_goto (tgt := 48) hx hb dX6_judge_42 (by decide) ?_
      exact x_iret hx hb hr hlocks hP hS dX6_judge_48 (Prod.mk.inj (Option.some.inj hf)).1 (Prod.mk.inj (Option.some.inj hf)).2
  · have hf := (if_pos c_1003).symm.trans hf
    refine lv_bipush (v := (-9 : Int32)) hx hb dX6_judge_30 (by decide) ?_
    refine lv_goto (tgt := 48) hx hb dX6_judge_32 (by decide) ?_
    exact x_iret hx hb hr hlocks hP hS dX6_judge_48 (Prod.mk.inj (Option.some.inj hf)).1 (Prod.mk.inj (Option.some.inj hf)).2
set_option maxHeartbeats 40000000 in
set_option maxRecDepth 100000 in
theorem kX6_seen (l : Launch) (z : Cx) (hz : okC 8 z) {a0 : Int32} {a1 : Int32}  {σ σ' : Mm} {r : Int32} (hf : fX6_seen a0 a1 σ = some (r, σ')) : KG 8 ceM l yX6_seen wsX6_seen (1) (21) [.ref (z.2.1 0), .int a0, .int a1] z σ σ' (some (.int r)) := by
  rw [fX6_seen] at hf
  refine Met.ofW (cc := cX6_seen) (maxL := 4) (ret := (some .int)) (by decide) rfl ?_
  intro p e s m args below meth c s₁ B hml hv
  obtain ⟨rfl, hP, hK, hE⟩ := hv
  have hx := B.exec
  have hb := B.bytes
  have hr := B.returns
  have hts := atoms_spec (ws := wsX6_seen) B.pre
  have hown : s.vm.findClass RX6 = some m.cls := findClass_of_methodNamed B.named
  have hlocks := B.notSynchronized
  have in_X6 : ∀ w ∈ wsX60, w ∈ wsX6_seen := by decide +kernel
  have hS : va_S (aG 8 z) s.heap s.heap [] := va_S.rf
  have hl := lv_entry ([.ref (z.2.1 0), .int a0, .int a1]) (n := 4) (Nat.le_of_ble_eq_true rfl)
  rw [lg_entry_eq]
  generalize (lg_sl ([.ref (z.2.1 0), .int a0, .int a1]) ++ List.replicate (4 - (lg_sl ([.ref (z.2.1 0), .int a0, .int a1])).length) Slot.unset).toArray = ls at hl ⊢
  have hl : lv_has ls 4 [(0, .ref (z.2.1 0)), (1, .int a0), (2, .int a1)] := hl
  have j_23 : ∀ (v1 : Int32) (v2 : Int32) (t0 : Int32) (σ : Mm) (H : Heap) (locs : List Loc) (ls : Array Slot), va_P z.1 vwCl (wl 8 z.2.1 (ceM z σ)) H → va_S (aG 8 z) s.heap H locs → lv_has ls 4 [(0, .ref (z.2.1 0)), (1, .int v1), (2, .int v2)] → fX6_seen_23 v1 v2 t0 σ = some (r, σ') → W p l e (headSpec wsX6_seen ({ frames := 1, cells := 0, slots := 0, locals := 21 })).room s m ([.ref (z.2.1 0), .int a0, .int a1] : List Value).toArray below meth c H locs 0 0 (MQ below (qcG 8 ceM z σ' (some (.int r))) ([.ref (z.2.1 0), .int a0, .int a1] : List Value).toArray s 0 0 (aG 8 z)) (F0 m 23 ls [.int t0]) := by
    intro v1 v2 t0 σ H locs ls hP hS hl hf
    rw [fX6_seen_23] at hf
    refine lv_istore_n (lv' := [(3, .int t0), (0, .ref (z.2.1 0)), (1, .int v1), (2, .int v2)]) hx hb dX6_seen_23 rfl hl (by decide) rfl (fun ls hl => ?_)
    refine lv_iload_n hx hb dX6_seen_24 rfl (lv_at hl 0 rfl) ?_
    refine lv_if_eq (tgt := 34) hx hb dX6_seen_25 (by decide) (fun c_4 => ?_) (fun c_4 => ?_)
    · have hf := (if_pos c_4).symm.trans hf
      refine lv_iload_n hx hb dX6_seen_34 rfl (lv_at hl 2 rfl) ?_
      refine lv_aload_n hx hb dX6_seen_35 rfl (lv_at hl 1 rfl) ?_
      refine va_get (D := z.1) (ci := 6) (v := .ref (z.2.1 2)) (C := RX6) (T := TX6) (N := 29) hx hb hts in_X6 hown hK hP 0 (wl_at (by decide) cX6) rfl 1 (by decide) (hts (.fieldLink RX6 13 "TillOneOfSortModel" "s" "[I") (by decide +kernel)) (fun _ h9 => h9) rfl dX6_seen_36 ?_
      refine lv_iconst (v := (5 : Int32)) hx hb dX6_seen_39 (by decide) ?_
      obtain ⟨c_5, hf⟩ := x_ck hf
      refine va_iald hx hb hK hP 2 0 (wl_at (i22_lt (rfl : isI22 2 = true)) (cMI22 (rfl : isI22 2 = true))) rfl (ci_in c_5) dX6_seen_40 ?_
      refine lv_icmp_lt (tgt := 49) hx hb dX6_seen_41 (by decide) (fun c_6 => ?_) (fun c_6 => ?_)
      · have hf := (if_pos c_6).symm.trans hf
        refine lv_iload_n hx hb dX6_seen_49 rfl (lv_at hl 3 rfl) ?_
        refine lv_if_ne (tgt := 61) hx hb dX6_seen_50 (by decide) (fun c_7 => ?_) (fun c_7 => ?_)
        · have hf := (if_neg c_7).symm.trans hf
          refine lv_aload_n hx hb dX6_seen_61 rfl (lv_at hl 1 rfl) ?_
          refine lv_iload_n hx hb dX6_seen_62 rfl (lv_at hl 2 rfl) ?_
          obtain ⟨q_8, hq_8, hf⟩ := x_bd hf
          refine x_callGi (va_runV (As := [.int v1]) (rest := []) ⟨hx, hb, hml, hown, hts⟩ (kX6_sortsOf l z hz hq_8) (cwV 1 hts gX6_seen_X6_sortsOf rfl rfl rfl (by decide +kernel) ⟨Nat.le_of_ble_eq_true rfl, Nat.le_of_ble_eq_true rfl⟩) (pvG hK hP hE hS (va_recv hK hP (ci := 6) (q0 := 0) rfl (wl_at (by decide) cX6))) rfl rfl hl.1 rfl (lv_room (Nat.le_of_ble_eq_true rfl)) dX6_seen_63 ⟨Nat.zero_le _, Nat.zero_le _⟩) hS (fun H locs hP hS => ?_)
          exact x_iret hx hb hr hlocks hP hS dX6_seen_66 (Prod.mk.inj (Option.some.inj hf)).1 (Prod.mk.inj (Option.some.inj hf)).2
        · have hf := (if_pos c_7).symm.trans hf
          refine lv_aload_n hx hb dX6_seen_53 rfl (lv_at hl 1 rfl) ?_
          refine lv_iload_n hx hb dX6_seen_54 rfl (lv_at hl 2 rfl) ?_
          obtain ⟨q_9, hq_9, hf⟩ := x_bd hf
          refine x_callGi (va_runV (As := [.int v1]) (rest := []) ⟨hx, hb, hml, hown, hts⟩ (kX6_manyOf l z hz hq_9) (cwV 1 hts gX6_seen_X6_manyOf rfl rfl rfl (by decide +kernel) ⟨Nat.le_of_ble_eq_true rfl, Nat.le_of_ble_eq_true rfl⟩) (pvG hK hP hE hS (va_recv hK hP (ci := 6) (q0 := 0) rfl (wl_at (by decide) cX6))) rfl rfl hl.1 rfl (lv_room (Nat.le_of_ble_eq_true rfl)) dX6_seen_55 ⟨Nat.zero_le _, Nat.zero_le _⟩) hS (fun H locs hP hS => ?_)
          refine lv_goto (tgt := 66) hx hb dX6_seen_58 (by decide) ?_
          exact x_iret hx hb hr hlocks hP hS dX6_seen_66 (Prod.mk.inj (Option.some.inj hf)).1 (Prod.mk.inj (Option.some.inj hf)).2
      · have hf := (if_neg c_6).symm.trans hf
        refine lv_bipush (v := (-9 : Int32)) hx hb dX6_seen_44 (by decide) ?_
        refine lv_goto (tgt := 66) hx hb dX6_seen_46 (by decide) ?_
        exact x_iret hx hb hr hlocks hP hS dX6_seen_66 (Prod.mk.inj (Option.some.inj hf)).1 (Prod.mk.inj (Option.some.inj hf)).2
    · have hf := (if_neg c_4).symm.trans hf
      refine lv_aload_n hx hb dX6_seen_28 rfl (lv_at hl 1 rfl) ?_
      refine lv_iload_n hx hb dX6_seen_29 rfl (lv_at hl 0 rfl) ?_
      obtain ⟨q_10, hq_10, hf⟩ := x_bd hf
      refine x_callGi (va_runV (As := [.int t0]) (rest := []) ⟨hx, hb, hml, hown, hts⟩ (kX6_refuse l z hz hq_10) (cwV 1 hts gX6_seen_X6_refuse rfl rfl rfl (by decide +kernel) ⟨Nat.le_of_ble_eq_true rfl, Nat.le_of_ble_eq_true rfl⟩) (pvG hK hP hE hS (va_recv hK hP (ci := 6) (q0 := 0) rfl (wl_at (by decide) cX6))) rfl rfl hl.1 rfl (lv_room (Nat.le_of_ble_eq_true rfl)) dX6_seen_30 ⟨Nat.zero_le _, Nat.zero_le _⟩) hS (fun H locs hP hS => ?_)
      exact x_iret hx hb hr hlocks hP hS dX6_seen_33 (Prod.mk.inj (Option.some.inj hf)).1 (Prod.mk.inj (Option.some.inj hf)).2
  refine lv_iload_n hx hb dX6_seen_0 rfl (lv_at hl 1 rfl) ?_
  refine lv_if_ge (tgt := 9) hx hb dX6_seen_1 (by decide) (fun c_1001 => ?_) (fun c_1001 => ?_)
  · have hf := (if_pos c_1001).symm.trans hf
    refine lv_iload_n hx hb dX6_seen_9 rfl (lv_at hl 2 rfl) ?_
    refine lv_iconst (v := (2 : Int32)) hx hb dX6_seen_10 (by decide) ?_
    obtain ⟨q_1002, hq_1002, hf⟩ := x_bd hf
    refine x_callSi (va_runS (As := [.int a1, .int (2 : Int32)]) (rest := []) ⟨hx, hb, hml, hown, hts⟩ (kX6_isIn l hq_1002) (va_cwS 2 hts gX6_seen_X6_isIn rfl rfl rfl (by decide +kernel) ⟨Nat.le_of_ble_eq_true rfl, Nat.le_of_ble_eq_true rfl⟩) psS rfl rfl hl.1 rfl (lv_room (Nat.le_of_ble_eq_true rfl)) dX6_seen_11 ⟨Nat.zero_le _, Nat.zero_le _⟩) ?_
    refine lv_if_eq (tgt := 21) hx hb dX6_seen_14 (by decide) (fun c_1003 => ?_) (fun c_1003 => ?_)
    · have hf := (if_pos c_1003).symm.trans hf
      refine lv_bipush (v := (-2 : Int32)) hx hb dX6_seen_21 (by decide) ?_
      exact j_23 a0 a1 (-2 : Int32) σ _ _ _ hP hS (lv_sub hl [0, 1, 2] rfl) hf
    · have hf := (if_neg c_1003).symm.trans hf
      refine lv_iconst (v := (0 : Int32)) hx hb dX6_seen_17 (by decide) ?_
      refine lv_goto (tgt := 23) hx hb dX6_seen_18 (by decide) ?_
      exact j_23 a0 a1 (0 : Int32) σ _ _ _ hP hS (lv_sub hl [0, 1, 2] rfl) hf
  · have hf := (if_neg c_1001).symm.trans hf
    refine lv_bipush (v := (-4 : Int32)) hx hb dX6_seen_4 (by decide) ?_
    refine lv_goto (tgt := 23) hx hb dX6_seen_6 (by decide) ?_
    exact j_23 a0 a1 (-4 : Int32) σ _ _ _ hP hS (lv_sub hl [0, 1, 2] rfl) hf
set_option maxHeartbeats 40000000 in
set_option maxRecDepth 100000 in
theorem kX6_cheats (l : Launch) (z : Cx) (hz : okC 8 z)   {σ σ' : Mm} {r : Int32} (hf : fX6_cheats σ = some (r, σ')) : KG 8 ceM l yX6_cheats wsX6_cheats (3) (73) [.ref (z.2.1 0)] z σ σ' (some (.int r)) := by
  rw [fX6_cheats] at hf
  refine Met.ofW (cc := cX6_cheats) (maxL := 4) (ret := (some .int)) (by decide) rfl ?_
  intro p e s m args below meth c s₁ B hml hv
  obtain ⟨rfl, hP, hK, hE⟩ := hv
  have hx := B.exec
  have hb := B.bytes
  have hr := B.returns
  have hts := atoms_spec (ws := wsX6_cheats) B.pre
  have hown : s.vm.findClass RX6 = some m.cls := findClass_of_methodNamed B.named
  have hlocks := B.notSynchronized
  have in_X6 : ∀ w ∈ wsX60, w ∈ wsX6_cheats := by decide +kernel
  have hS : va_S (aG 8 z) s.heap s.heap [] := va_S.rf
  have hl := lv_entry ([.ref (z.2.1 0)]) (n := 4) (Nat.le_of_ble_eq_true rfl)
  rw [lg_entry_eq]
  generalize (lg_sl ([.ref (z.2.1 0)]) ++ List.replicate (4 - (lg_sl ([.ref (z.2.1 0)])).length) Slot.unset).toArray = ls at hl ⊢
  have hl : lv_has ls 4 [(0, .ref (z.2.1 0))] := hl
  have L_4 : ∀ (n_4 : Nat) (v1 : Int32) (v2 : Int32) (σ : Mm) (H : Heap) (locs : List Loc) (ls : Array Slot), va_P z.1 vwCl (wl 8 z.2.1 (ceM z σ)) H → va_S (aG 8 z) s.heap H locs → lv_has ls 4 [(0, .ref (z.2.1 0)), (1, .int v1), (2, .int v2)] → fX6_cheats_4 n_4 v1 v2 σ = some (r, σ') → W p l e (headSpec wsX6_cheats ({ frames := 3, cells := 0, slots := 0, locals := 73 })).room s m ([.ref (z.2.1 0)] : List Value).toArray below meth c H locs 0 0 (MQ below (qcG 8 ceM z σ' (some (.int r))) ([.ref (z.2.1 0)] : List Value).toArray s 0 0 (aG 8 z)) (F0 m 4 ls []) := by
    intro n_4
    induction n_4 with
    | zero =>
      intro v1 v2 σ H locs ls hP hS hl hf
      rw [fX6_cheats_4] at hf
      cases hf
    | succ n_4 ih_4 =>
      have j_54 : ∀ (v2 : Int32) (t0 : Int32) (t1 : Int32) (σ : Mm) (H : Heap) (locs : List Loc) (ls : Array Slot), va_P z.1 vwCl (wl 8 z.2.1 (ceM z σ)) H → va_S (aG 8 z) s.heap H locs → lv_has ls 4 [(0, .ref (z.2.1 0)), (2, .int v2)] → fX6_cheats_54 (fun wv1 wv2 wσ => fX6_cheats_4 n_4 wv1 wv2 wσ) v2 t0 t1 σ = some (r, σ') → W p l e (headSpec wsX6_cheats ({ frames := 3, cells := 0, slots := 0, locals := 73 })).room s m ([.ref (z.2.1 0)] : List Value).toArray below meth c H locs 0 0 (MQ below (qcG 8 ceM z σ' (some (.int r))) ([.ref (z.2.1 0)] : List Value).toArray s 0 0 (aG 8 z)) (F0 m 54 ls [.int t0, .int t1]) := by
        intro v2 t0 t1 σ H locs ls hP hS hl hf
        rw [fX6_cheats_54] at hf
        refine lv_iadd hx hb dX6_cheats_54 ?_
        refine lv_istore_n (lv' := [(1, .int (t1 + t0)), (0, .ref (z.2.1 0)), (2, .int v2)]) hx hb dX6_cheats_55 rfl hl (by decide) rfl (fun ls hl => ?_)
        refine lv_iinc (v := (v2 + (1 : Int32))) (lv' := [(2, .int (v2 + (1 : Int32))), (1, .int (t1 + t0)), (0, .ref (z.2.1 0))]) hx hb dX6_cheats_56 hl (k := 2) rfl rfl (by decide) rfl (fun ls hl => ?_)
        refine lv_goto (tgt := 4) hx hb dX6_cheats_59 (by decide) ?_
        exact ih_4 (t1 + t0) (v2 + (1 : Int32)) σ _ _ _ hP hS (lv_sub hl [2, 1, 0] rfl) hf
      have j_53 : ∀ (v2 : Int32) (t0 : Int32) (σ : Mm) (H : Heap) (locs : List Loc) (ls : Array Slot), va_P z.1 vwCl (wl 8 z.2.1 (ceM z σ)) H → va_S (aG 8 z) s.heap H locs → lv_has ls 4 [(0, .ref (z.2.1 0)), (2, .int v2)] → fX6_cheats_53 (fun wv1 wv2 wσ => fX6_cheats_4 n_4 wv1 wv2 wσ) v2 t0 σ = some (r, σ') → W p l e (headSpec wsX6_cheats ({ frames := 3, cells := 0, slots := 0, locals := 73 })).room s m ([.ref (z.2.1 0)] : List Value).toArray below meth c H locs 0 0 (MQ below (qcG 8 ceM z σ' (some (.int r))) ([.ref (z.2.1 0)] : List Value).toArray s 0 0 (aG 8 z)) (F0 m 53 ls [.int t0]) := by
        intro v2 t0 σ H locs ls hP hS hl hf
        rw [fX6_cheats_53] at hf
        refine lv_iconst (v := (0 : Int32)) hx hb dX6_cheats_53 (by decide) ?_
        exact j_54 v2 (0 : Int32) t0 σ _ _ _ hP hS (lv_sub hl [0, 1] rfl) hf
      intro v1 v2 σ H locs ls hP hS hl hf
      rw [fX6_cheats_4] at hf
      refine lv_iload_n hx hb dX6_cheats_4 rfl (lv_at hl 2 rfl) ?_
      refine lv_aload_n hx hb dX6_cheats_5 rfl (lv_at hl 0 rfl) ?_
      refine va_get (D := z.1) (ci := 6) (v := .ref (z.2.1 2)) (C := RX6) (T := TX6) (N := 29) hx hb hts in_X6 hown hK hP 0 (wl_at (by decide) cX6) rfl 1 (by decide) (hts (.fieldLink RX6 13 "TillOneOfSortModel" "s" "[I") (by decide +kernel)) (fun _ h9 => h9) rfl dX6_cheats_6 ?_
      refine lv_iconst (v := (5 : Int32)) hx hb dX6_cheats_9 (by decide) ?_
      obtain ⟨c_1, hf⟩ := x_ck hf
      refine va_iald hx hb hK hP 2 0 (wl_at (i22_lt (rfl : isI22 2 = true)) (cMI22 (rfl : isI22 2 = true))) rfl (ci_in c_1) dX6_cheats_10 ?_
      refine lv_icmp_ge (tgt := 62) hx hb dX6_cheats_11 (by decide) (fun c_2 => ?_) (fun c_2 => ?_)
      · have hf := (if_pos c_2).symm.trans hf
        refine lv_iload_n hx hb dX6_cheats_62 rfl (lv_at hl 1 rfl) ?_
        exact x_iret hx hb hr hlocks hP hS dX6_cheats_63 (Prod.mk.inj (Option.some.inj hf)).1 (Prod.mk.inj (Option.some.inj hf)).2
      · have hf := (if_neg c_2).symm.trans hf
        refine lv_aload_n hx hb dX6_cheats_14 rfl (lv_at hl 0 rfl) ?_
        refine lv_aload_n hx hb dX6_cheats_15 rfl (lv_at hl 0 rfl) ?_
        refine va_get (D := z.1) (ci := 6) (v := .ref (z.2.1 2)) (C := RX6) (T := TX6) (N := 29) hx hb hts in_X6 hown hK hP 0 (wl_at (by decide) cX6) rfl 1 (by decide) (hts (.fieldLink RX6 13 "TillOneOfSortModel" "s" "[I") (by decide +kernel)) (fun _ h9 => h9) rfl dX6_cheats_16 ?_
        refine lv_iconst (v := (3 : Int32)) hx hb dX6_cheats_19 (by decide) ?_
        obtain ⟨c_3, hf⟩ := x_ck hf
        refine va_iald hx hb hK hP 2 0 (wl_at (i22_lt (rfl : isI22 2 = true)) (cMI22 (rfl : isI22 2 = true))) rfl (ci_in c_3) dX6_cheats_20 ?_
        refine lv_aload_n hx hb dX6_cheats_21 rfl (lv_at hl 0 rfl) ?_
        refine lv_iload_n hx hb dX6_cheats_22 rfl (lv_at hl 2 rfl) ?_
        obtain ⟨q_4, hq_4, hf⟩ := x_bd hf
        refine x_callGi (va_runV (As := [.int v2]) (rest := [.int (gI σ 2 (3 : Int32).toNatClampNeg), .ref (z.2.1 0)]) ⟨hx, hb, hml, hown, hts⟩ (kX6_manyOf l z hz hq_4) (cwV 1 hts gX6_cheats_X6_manyOf rfl rfl rfl (by decide +kernel) ⟨Nat.le_of_ble_eq_true rfl, Nat.le_of_ble_eq_true rfl⟩) (pvG hK hP hE hS (va_recv hK hP (ci := 6) (q0 := 0) rfl (wl_at (by decide) cX6))) rfl rfl hl.1 rfl (lv_room (Nat.le_of_ble_eq_true rfl)) dX6_cheats_23 ⟨Nat.zero_le _, Nat.zero_le _⟩) hS (fun H locs hP hS => ?_)
        refine lv_aload_n hx hb dX6_cheats_26 rfl (lv_at hl 0 rfl) ?_
        refine lv_iload_n hx hb dX6_cheats_27 rfl (lv_at hl 2 rfl) ?_
        obtain ⟨q_5, hq_5, hf⟩ := x_bd hf
        refine x_callGi (va_runV (As := [.int v2]) (rest := [.int q_4, .int (gI σ 2 (3 : Int32).toNatClampNeg), .ref (z.2.1 0)]) ⟨hx, hb, hml, hown, hts⟩ (kX6_sortsOf l z hz hq_5) (cwV 1 hts gX6_cheats_X6_sortsOf rfl rfl rfl (by decide +kernel) ⟨Nat.le_of_ble_eq_true rfl, Nat.le_of_ble_eq_true rfl⟩) (pvG hK hP hE hS (va_recv hK hP (ci := 6) (q0 := 0) rfl (wl_at (by decide) cX6))) rfl rfl hl.1 rfl (lv_room (Nat.le_of_ble_eq_true rfl)) dX6_cheats_28 ⟨Nat.zero_le _, Nat.zero_le _⟩) hS (fun H locs hP hS => ?_)
        obtain ⟨q_6, hq_6, hf⟩ := x_bd hf
        refine x_callGi (va_runV (As := [.int (gI σ 2 (3 : Int32).toNatClampNeg), .int q_4, .int q_5]) (rest := []) ⟨hx, hb, hml, hown, hts⟩ (kX6_stopOf l z hz hq_6) (cwV 3 hts gX6_cheats_X6_stopOf rfl rfl rfl (by decide +kernel) ⟨Nat.le_of_ble_eq_true rfl, Nat.le_of_ble_eq_true rfl⟩) (pvG hK hP hE hS (va_recv hK hP (ci := 6) (q0 := 0) rfl (wl_at (by decide) cX6))) rfl rfl hl.1 rfl (lv_room (Nat.le_of_ble_eq_true rfl)) dX6_cheats_31 ⟨Nat.zero_le _, Nat.zero_le _⟩) hS (fun H locs hP hS => ?_)
        refine lv_istore_n (lv' := [(3, .int q_6.1), (0, .ref (z.2.1 0)), (1, .int v1), (2, .int v2)]) hx hb dX6_cheats_34 rfl hl (by decide) rfl (fun ls hl => ?_)
        refine lv_iload_n hx hb dX6_cheats_35 rfl (lv_at hl 2 rfl) ?_
        refine lv_iload_n hx hb dX6_cheats_36 rfl (lv_at hl 0 rfl) ?_
        refine lv_if_le (tgt := 53) hx hb dX6_cheats_37 (by decide) (fun c_7 => ?_) (fun c_7 => ?_)
        · have hf := (if_pos c_7).symm.trans hf
          exact j_53 v2 v1 q_6.2 _ _ _ hP hS (lv_sub hl [1, 3] rfl) hf
        · have hf := (if_neg c_7).symm.trans hf
          refine lv_iload_n hx hb dX6_cheats_40 rfl (lv_at hl 0 rfl) ?_
          refine lv_aload_n hx hb dX6_cheats_41 rfl (lv_at hl 1 rfl) ?_
          refine lv_iload_n hx hb dX6_cheats_42 rfl (lv_at hl 3 rfl) ?_
          obtain ⟨q_8, hq_8, hf⟩ := x_bd hf
          refine x_callGi (va_runV (As := [.int v2]) (rest := [.int q_6.1, .int v1]) ⟨hx, hb, hml, hown, hts⟩ (kX6_manyOf l z hz hq_8) (cwV 1 hts gX6_cheats_X6_manyOf rfl rfl rfl (by decide +kernel) ⟨Nat.le_of_ble_eq_true rfl, Nat.le_of_ble_eq_true rfl⟩) (pvG hK hP hE hS (va_recv hK hP (ci := 6) (q0 := 0) rfl (wl_at (by decide) cX6))) rfl rfl hl.1 rfl (lv_room (Nat.le_of_ble_eq_true rfl)) dX6_cheats_43 ⟨Nat.zero_le _, Nat.zero_le _⟩) hS (fun H locs hP hS => ?_)
          refine lv_icmp_ge (tgt := 53) hx hb dX6_cheats_46 (by decide) (fun c_9 => ?_) (fun c_9 => ?_)
          · have hf := (if_pos c_9).symm.trans hf
            exact j_53 v2 v1 q_6.2 _ _ _ hP hS (lv_sub hl [1, 3] rfl) hf
          · have hf := (if_neg c_9).symm.trans hf
            refine lv_iconst (v := (1 : Int32)) hx hb dX6_cheats_49 (by decide) ?_
            refine lv_goto (tgt := 54) hx hb dX6_cheats_50 (by decide) ?_
            exact j_54 v2 (1 : Int32) v1 q_6.2 _ _ _ hP hS (lv_sub hl [1, 3] rfl) hf
  refine lv_iconst (v := (0 : Int32)) hx hb dX6_cheats_0 (by decide) ?_
  refine lv_istore_n (lv' := [(1, .int (0 : Int32)), (0, .ref (z.2.1 0))]) hx hb dX6_cheats_1 rfl hl (by decide) rfl (fun ls hl => ?_)
  refine lv_iconst (v := (0 : Int32)) hx hb dX6_cheats_2 (by decide) ?_
  refine lv_istore_n (lv' := [(2, .int (0 : Int32)), (1, .int (0 : Int32)), (0, .ref (z.2.1 0))]) hx hb dX6_cheats_3 rfl hl (by decide) rfl (fun ls hl => ?_)
  exact L_4 1000 (0 : Int32) (0 : Int32) σ _ _ _ hP hS (lv_sub hl [2, 1, 0] rfl) hf
set_option maxHeartbeats 40000000 in
set_option maxRecDepth 100000 in
theorem kX6_drawn (l : Launch) (z : Cx) (hz : okC 8 z) {a0 : Int32}  {σ σ' : Mm} {r : Int32} (hf : fX6_drawn a0 σ = some (r, σ')) : KG 8 ceM l yX6_drawn wsX6_drawn (0) (0) [.ref (z.2.1 0), .int a0] z σ σ' (some (.int r)) := by
  rw [fX6_drawn] at hf
  refine Met.ofW (cc := cX6_drawn) (maxL := 2) (ret := (some .int)) (by decide) rfl ?_
  intro p e s m args below meth c s₁ B hml hv
  obtain ⟨rfl, hP, hK, hE⟩ := hv
  have hx := B.exec
  have hb := B.bytes
  have hr := B.returns
  have hts := atoms_spec (ws := wsX6_drawn) B.pre
  have hown : s.vm.findClass RX6 = some m.cls := findClass_of_methodNamed B.named
  have hlocks := B.notSynchronized
  have in_X6 : ∀ w ∈ wsX60, w ∈ wsX6_drawn := by decide +kernel
  have hS : va_S (aG 8 z) s.heap s.heap [] := va_S.rf
  have hl := lv_entry ([.ref (z.2.1 0), .int a0]) (n := 2) (Nat.le_of_ble_eq_true rfl)
  rw [lg_entry_eq]
  generalize (lg_sl ([.ref (z.2.1 0), .int a0]) ++ List.replicate (2 - (lg_sl ([.ref (z.2.1 0), .int a0])).length) Slot.unset).toArray = ls at hl ⊢
  have hl : lv_has ls 2 [(0, .ref (z.2.1 0)), (1, .int a0)] := hl
  refine lv_aload_n hx hb dX6_drawn_0 rfl (lv_at hl 0 rfl) ?_
  refine lv_aload_n hx hb dX6_drawn_1 rfl (lv_at hl 0 rfl) ?_
  refine va_get (D := z.1) (ci := 6) (v := .int (gI σ 0 28)) (C := RX6) (T := TX6) (N := 29) hx hb hts in_X6 hown hK hP 0 (wl_at (by decide) cX6) rfl 28 (by decide) (hts (.fieldLink RX6 204 "TillOneOfSortModel" "seed" "I") (by decide +kernel)) (fun _ h9 => h9) rfl dX6_drawn_2 ?_
  refine lv_ldc (v := (1664525 : Int32)) hx hb hown (hts (.constant RX6 207 (1664525 : Int32)) (by decide +kernel)) dX6_drawn_5 ?_
  refine lv_imul hx hb dX6_drawn_7 ?_
  refine lv_ldc (v := (1013904223 : Int32)) hx hb hown (hts (.constant RX6 208 (1013904223 : Int32)) (by decide +kernel)) dX6_drawn_8 ?_
  refine lv_iadd hx hb dX6_drawn_10 ?_
  refine va_put (D := z.1) (ci := 6) (v := .int (((gI σ 0 28) * (1664525 : Int32)) + (1013904223 : Int32))) (ty := .int) (C := RX6) (T := TX6) (N := 29) hx hb hts in_X6 tyX6 tyX6_ok nmX6 hown hK hP (wl_D hz _) hS 0 (wl_at (by decide) cX6) rfl 28 (by decide) (hts (.fieldLink RX6 204 "TillOneOfSortModel" "seed" "I") (by decide +kernel)) (fun _ h9 => h9) rfl (by decide +kernel) rfl rfl (Nat.le_of_ble_eq_true rfl) dX6_drawn_11 (fun H locs hP _ hS => ?_)
  rw [sX6I (by decide)] at hP
  refine lv_aload_n hx hb dX6_drawn_14 rfl (lv_at hl 0 rfl) ?_
  refine va_get (D := z.1) (ci := 6) (v := .int (gI (pI σ 0 28 (((gI σ 0 28) * (1664525 : Int32)) + (1013904223 : Int32))) 0 28)) (C := RX6) (T := TX6) (N := 29) hx hb hts in_X6 hown hK hP 0 (wl_at (by decide) cX6) rfl 28 (by decide) (hts (.fieldLink RX6 204 "TillOneOfSortModel" "seed" "I") (by decide +kernel)) (fun _ h9 => h9) rfl dX6_drawn_15 ?_
  refine lv_ldc (v := (2147483647 : Int32)) hx hb hown (hts (.constant RX6 209 (2147483647 : Int32)) (by decide +kernel)) dX6_drawn_18 ?_
  refine lv_iand hx hb dX6_drawn_20 ?_
  refine lv_sipush (v := (256 : Int32)) hx hb dX6_drawn_21 (by decide) ?_
  refine lv_idiv hx hb dX6_drawn_24 (by decide) ?_
  refine lv_iload_n hx hb dX6_drawn_25 rfl (lv_at hl 1 rfl) ?_
  obtain ⟨c_1001, hf⟩ := x_ck hf
  refine lv_irem hx hb dX6_drawn_26 c_1001 ?_
  exact x_iret hx hb hr hlocks hP hS dX6_drawn_27 (Prod.mk.inj (Option.some.inj hf)).1 (Prod.mk.inj (Option.some.inj hf)).2
set_option maxHeartbeats 40000000 in
set_option maxRecDepth 100000 in
theorem kX6_lots (l : Launch) (z : Cx) (hz : okC 8 z) {a0 : Int32} {a1 : Int32} {a2 : Int32}  {σ σ' : Mm} {r : Int32} (hf : fX6_lots a0 a1 a2 σ = some (r, σ')) : KG 8 ceM l yX6_lots wsX6_lots (2) (48) [.ref (z.2.1 0), .int a0, .int a1, .int a2] z σ σ' (some (.int r)) := by
  rw [fX6_lots] at hf
  refine Met.ofW (cc := cX6_lots) (maxL := 11) (ret := (some .int)) (by decide) rfl ?_
  intro p e s m args below meth c s₁ B hml hv
  obtain ⟨rfl, hP, hK, hE⟩ := hv
  have hx := B.exec
  have hb := B.bytes
  have hr := B.returns
  have hts := atoms_spec (ws := wsX6_lots) B.pre
  have hown : s.vm.findClass RX6 = some m.cls := findClass_of_methodNamed B.named
  have hlocks := B.notSynchronized
  have in_X6 : ∀ w ∈ wsX60, w ∈ wsX6_lots := by decide +kernel
  have hS : va_S (aG 8 z) s.heap s.heap [] := va_S.rf
  have hl := lv_entry ([.ref (z.2.1 0), .int a0, .int a1, .int a2]) (n := 11) (Nat.le_of_ble_eq_true rfl)
  rw [lg_entry_eq]
  generalize (lg_sl ([.ref (z.2.1 0), .int a0, .int a1, .int a2]) ++ List.replicate (11 - (lg_sl ([.ref (z.2.1 0), .int a0, .int a1, .int a2])).length) Slot.unset).toArray = ls at hl ⊢
  have hl : lv_has ls 11 [(0, .ref (z.2.1 0)), (1, .int a0), (2, .int a1), (3, .int a2)] := hl
  have L_49 : ∀ (n_49 : Nat) (v1 : Int32) (v3 : Int32) (v5 : Int32) (v6 : Int32) (σ : Mm) (H : Heap) (locs : List Loc) (ls : Array Slot), va_P z.1 vwCl (wl 8 z.2.1 (ceM z σ)) H → va_S (aG 8 z) s.heap H locs → lv_has ls 11 [(0, .ref (z.2.1 0)), (1, .int v1), (3, .int v3), (5, .int v5), (6, .int v6)] → fX6_lots_49 n_49 v1 v3 v5 v6 σ = some (r, σ') → W p l e (headSpec wsX6_lots ({ frames := 2, cells := 0, slots := 0, locals := 48 })).room s m ([.ref (z.2.1 0), .int a0, .int a1, .int a2] : List Value).toArray below meth c H locs 0 0 (MQ below (qcG 8 ceM z σ' (some (.int r))) ([.ref (z.2.1 0), .int a0, .int a1, .int a2] : List Value).toArray s 0 0 (aG 8 z)) (F0 m 49 ls []) := by
    intro n_49
    induction n_49 with
    | zero =>
      intro v1 v3 v5 v6 σ H locs ls hP hS hl hf
      rw [fX6_lots_49] at hf
      cases hf
    | succ n_49 ih_49 =>
      have j_155 : ∀ (v1 : Int32) (v3 : Int32) (v6 : Int32) (t0 : Int32) (t1 : Int32) (σ : Mm) (H : Heap) (locs : List Loc) (ls : Array Slot), va_P z.1 vwCl (wl 8 z.2.1 (ceM z σ)) H → va_S (aG 8 z) s.heap H locs → lv_has ls 11 [(0, .ref (z.2.1 0)), (1, .int v1), (3, .int v3), (6, .int v6)] → fX6_lots_155 (fun wv1 wv3 wv5 wv6 wσ => fX6_lots_49 n_49 wv1 wv3 wv5 wv6 wσ) v1 v3 v6 t0 t1 σ = some (r, σ') → W p l e (headSpec wsX6_lots ({ frames := 2, cells := 0, slots := 0, locals := 48 })).room s m ([.ref (z.2.1 0), .int a0, .int a1, .int a2] : List Value).toArray below meth c H locs 0 0 (MQ below (qcG 8 ceM z σ' (some (.int r))) ([.ref (z.2.1 0), .int a0, .int a1, .int a2] : List Value).toArray s 0 0 (aG 8 z)) (F0 m 155 ls [.int t0, .int t1]) := by
        intro v1 v3 v6 t0 t1 σ H locs ls hP hS hl hf
        rw [fX6_lots_155] at hf
        refine lv_iadd hx hb dX6_lots_155 ?_
        refine lv_istore (lv' := [(5, .int (t1 + t0)), (0, .ref (z.2.1 0)), (1, .int v1), (3, .int v3), (6, .int v6)]) hx hb dX6_lots_156 hl (by decide) rfl (fun ls hl => ?_)
        refine lv_iinc (v := (v6 + (1 : Int32))) (lv' := [(6, .int (v6 + (1 : Int32))), (5, .int (t1 + t0)), (0, .ref (z.2.1 0)), (1, .int v1), (3, .int v3)]) hx hb dX6_lots_158 hl (k := 4) rfl rfl (by decide) rfl (fun ls hl => ?_)
        refine lv_goto (tgt := 49) hx hb dX6_lots_161 (by decide) ?_
        exact ih_49 v1 v3 (t1 + t0) (v6 + (1 : Int32)) σ _ _ _ hP hS (lv_sub hl [2, 3, 4, 1, 0] rfl) hf
      have L_68 : ∀ (n_68 : Nat) (v1 : Int32) (v3 : Int32) (v5 : Int32) (v6 : Int32) (v7 : Int32) (v8 : Int32) (v9 : Int32) (v10 : Int32) (σ : Mm) (H : Heap) (locs : List Loc) (ls : Array Slot), va_P z.1 vwCl (wl 8 z.2.1 (ceM z σ)) H → va_S (aG 8 z) s.heap H locs → lv_has ls 11 [(0, .ref (z.2.1 0)), (1, .int v1), (3, .int v3), (5, .int v5), (6, .int v6), (7, .int v7), (8, .int v8), (9, .int v9), (10, .int v10)] → fX6_lots_68 (fun wv1 wv3 wv5 wv6 wσ => fX6_lots_49 n_49 wv1 wv3 wv5 wv6 wσ) n_68 v1 v3 v5 v6 v7 v8 v9 v10 σ = some (r, σ') → W p l e (headSpec wsX6_lots ({ frames := 2, cells := 0, slots := 0, locals := 48 })).room s m ([.ref (z.2.1 0), .int a0, .int a1, .int a2] : List Value).toArray below meth c H locs 0 0 (MQ below (qcG 8 ceM z σ' (some (.int r))) ([.ref (z.2.1 0), .int a0, .int a1, .int a2] : List Value).toArray s 0 0 (aG 8 z)) (F0 m 68 ls []) := by
        intro n_68
        induction n_68 with
        | zero =>
          intro v1 v3 v5 v6 v7 v8 v9 v10 σ H locs ls hP hS hl hf
          rw [fX6_lots_68] at hf
          cases hf
        | succ n_68 ih_68 =>
          have j_120 : ∀ (v1 : Int32) (v3 : Int32) (v5 : Int32) (v6 : Int32) (v7 : Int32) (v8 : Int32) (v10 : Int32) (t0 : Int32) (σ : Mm) (H : Heap) (locs : List Loc) (ls : Array Slot), va_P z.1 vwCl (wl 8 z.2.1 (ceM z σ)) H → va_S (aG 8 z) s.heap H locs → lv_has ls 11 [(0, .ref (z.2.1 0)), (1, .int v1), (3, .int v3), (5, .int v5), (6, .int v6), (7, .int v7), (8, .int v8), (10, .int v10)] → fX6_lots_120 (fun wv1 wv3 wv5 wv6 wσ => fX6_lots_49 n_49 wv1 wv3 wv5 wv6 wσ) (fun wv1 wv3 wv5 wv6 wv7 wv8 wv9 wv10 wσ => fX6_lots_68 (fun wv1 wv3 wv5 wv6 wσ => fX6_lots_49 n_49 wv1 wv3 wv5 wv6 wσ) n_68 wv1 wv3 wv5 wv6 wv7 wv8 wv9 wv10 wσ) v1 v3 v5 v6 v7 v8 v10 t0 σ = some (r, σ') → W p l e (headSpec wsX6_lots ({ frames := 2, cells := 0, slots := 0, locals := 48 })).room s m ([.ref (z.2.1 0), .int a0, .int a1, .int a2] : List Value).toArray below meth c H locs 0 0 (MQ below (qcG 8 ceM z σ' (some (.int r))) ([.ref (z.2.1 0), .int a0, .int a1, .int a2] : List Value).toArray s 0 0 (aG 8 z)) (F0 m 120 ls [.int t0]) := by
            intro v1 v3 v5 v6 v7 v8 v10 t0 σ H locs ls hP hS hl hf
            rw [fX6_lots_120] at hf
            refine lv_istore (lv' := [(9, .int t0), (0, .ref (z.2.1 0)), (1, .int v1), (3, .int v3), (5, .int v5), (6, .int v6), (7, .int v7), (8, .int v8), (10, .int v10)]) hx hb dX6_lots_120 hl (by decide) rfl (fun ls hl => ?_)
            refine lv_aload_n hx hb dX6_lots_122 rfl (lv_at hl 1 rfl) ?_
            refine lv_aload_n hx hb dX6_lots_123 rfl (lv_at hl 1 rfl) ?_
            refine va_get (D := z.1) (ci := 6) (v := .ref (z.2.1 2)) (C := RX6) (T := TX6) (N := 29) hx hb hts in_X6 hown hK hP 0 (wl_at (by decide) cX6) rfl 1 (by decide) (hts (.fieldLink RX6 13 "TillOneOfSortModel" "s" "[I") (by decide +kernel)) (fun _ h9 => h9) rfl dX6_lots_124 ?_
            refine lv_iconst (v := (3 : Int32)) hx hb dX6_lots_127 (by decide) ?_
            obtain ⟨c_9, hf⟩ := x_ck hf
            refine va_iald hx hb hK hP 2 0 (wl_at (i22_lt (rfl : isI22 2 = true)) (cMI22 (rfl : isI22 2 = true))) rfl (ci_in c_9) dX6_lots_128 ?_
            refine lv_iload hx hb dX6_lots_129 (lv_at hl 6 rfl) ?_
            refine lv_iload hx hb dX6_lots_131 (lv_at hl 7 rfl) ?_
            refine lv_iload hx hb dX6_lots_133 (lv_at hl 0 rfl) ?_
            obtain ⟨q_10, hq_10, hf⟩ := x_bd hf
            refine x_callGi (va_runV (As := [.int (gI σ 2 (3 : Int32).toNatClampNeg), .int v7, .int v8, .int t0]) (rest := []) ⟨hx, hb, hml, hown, hts⟩ (kX6_endsBy l z hz hq_10) (cwV 4 hts gX6_lots_X6_endsBy rfl rfl rfl (by decide +kernel) ⟨Nat.le_of_ble_eq_true rfl, Nat.le_of_ble_eq_true rfl⟩) (pvG hK hP hE hS (va_recv hK hP (ci := 6) (q0 := 0) rfl (wl_at (by decide) cX6))) rfl rfl hl.1 rfl (lv_room (Nat.le_of_ble_eq_true rfl)) dX6_lots_135 ⟨Nat.zero_le _, Nat.zero_le _⟩) hS (fun H locs hP hS => ?_)
            refine lv_if_eq (tgt := 68) hx hb dX6_lots_138 (by decide) (fun c_11 => ?_) (fun c_11 => ?_)
            · have hf := (if_pos c_11).symm.trans hf
              exact ih_68 v1 v3 v5 v6 v7 v8 t0 v10 σ _ _ _ hP hS (lv_sub hl [1, 2, 3, 4, 5, 6, 7, 0, 8] rfl) hf
            · have hf := (if_neg c_11).symm.trans hf
              refine lv_iload hx hb dX6_lots_141 (lv_at hl 4 rfl) ?_
              refine lv_iload_n hx hb dX6_lots_143 rfl (lv_at hl 3 rfl) ?_
              refine lv_iconst (v := (1 : Int32)) hx hb dX6_lots_144 (by decide) ?_
              refine lv_icmp_ne (tgt := 153) hx hb dX6_lots_145 (by decide) (fun c_12 => ?_) (fun c_12 => ?_)
              · have hf := (if_neg c_12).symm.trans hf
                refine lv_iload hx hb dX6_lots_153 (lv_at hl 7 rfl) ?_
                exact j_155 v1 v3 v6 v8 v5 σ _ _ _ hP hS (lv_sub hl [1, 2, 3, 5] rfl) hf
              · have hf := (if_pos c_12).symm.trans hf
                refine lv_iload hx hb dX6_lots_148 (lv_at hl 6 rfl) ?_
                refine lv_goto (tgt := 155) hx hb dX6_lots_150 (by decide) ?_
                exact j_155 v1 v3 v6 v7 v5 σ _ _ _ hP hS (lv_sub hl [1, 2, 3, 5] rfl) hf
          have j_88 : ∀ (v1 : Int32) (v3 : Int32) (v5 : Int32) (v6 : Int32) (v7 : Int32) (v8 : Int32) (v9 : Int32) (t0 : Int32) (σ : Mm) (H : Heap) (locs : List Loc) (ls : Array Slot), va_P z.1 vwCl (wl 8 z.2.1 (ceM z σ)) H → va_S (aG 8 z) s.heap H locs → lv_has ls 11 [(0, .ref (z.2.1 0)), (1, .int v1), (3, .int v3), (5, .int v5), (6, .int v6), (7, .int v7), (8, .int v8), (9, .int v9)] → fX6_lots_88 (fun wv1 wv3 wv5 wv6 wσ => fX6_lots_49 n_49 wv1 wv3 wv5 wv6 wσ) (fun wv1 wv3 wv5 wv6 wv7 wv8 wv9 wv10 wσ => fX6_lots_68 (fun wv1 wv3 wv5 wv6 wσ => fX6_lots_49 n_49 wv1 wv3 wv5 wv6 wσ) n_68 wv1 wv3 wv5 wv6 wv7 wv8 wv9 wv10 wσ) v1 v3 v5 v6 v7 v8 v9 t0 σ = some (r, σ') → W p l e (headSpec wsX6_lots ({ frames := 2, cells := 0, slots := 0, locals := 48 })).room s m ([.ref (z.2.1 0), .int a0, .int a1, .int a2] : List Value).toArray below meth c H locs 0 0 (MQ below (qcG 8 ceM z σ' (some (.int r))) ([.ref (z.2.1 0), .int a0, .int a1, .int a2] : List Value).toArray s 0 0 (aG 8 z)) (F0 m 88 ls [.int t0]) := by
            intro v1 v3 v5 v6 v7 v8 v9 t0 σ H locs ls hP hS hl hf
            rw [fX6_lots_88] at hf
            refine lv_istore (lv' := [(10, .int t0), (0, .ref (z.2.1 0)), (1, .int v1), (3, .int v3), (5, .int v5), (6, .int v6), (7, .int v7), (8, .int v8), (9, .int v9)]) hx hb dX6_lots_88 hl (by decide) rfl (fun ls hl => ?_)
            refine lv_iload hx hb dX6_lots_90 (lv_at hl 6 rfl) ?_
            refine lv_iload hx hb dX6_lots_92 (lv_at hl 0 rfl) ?_
            refine lv_iadd hx hb dX6_lots_94 ?_
            refine lv_istore (lv' := [(7, .int (v7 + t0)), (10, .int t0), (0, .ref (z.2.1 0)), (1, .int v1), (3, .int v3), (5, .int v5), (6, .int v6), (8, .int v8), (9, .int v9)]) hx hb dX6_lots_95 hl (by decide) rfl (fun ls hl => ?_)
            refine lv_iload hx hb dX6_lots_97 (lv_at hl 7 rfl) ?_
            refine lv_iconst (v := (1 : Int32)) hx hb dX6_lots_99 (by decide) ?_
            refine lv_iload hx hb dX6_lots_100 (lv_at hl 1 rfl) ?_
            refine lv_isub hx hb dX6_lots_102 ?_
            refine lv_iadd hx hb dX6_lots_103 ?_
            refine lv_istore (lv' := [(8, .int (v8 + ((1 : Int32) - t0))), (7, .int (v7 + t0)), (10, .int t0), (0, .ref (z.2.1 0)), (1, .int v1), (3, .int v3), (5, .int v5), (6, .int v6), (9, .int v9)]) hx hb dX6_lots_104 hl (by decide) rfl (fun ls hl => ?_)
            refine lv_iload hx hb dX6_lots_106 (lv_at hl 2 rfl) ?_
            refine lv_iconst (v := (1 : Int32)) hx hb dX6_lots_108 (by decide) ?_
            refine lv_icmp_ne (tgt := 119) hx hb dX6_lots_109 (by decide) (fun c_13 => ?_) (fun c_13 => ?_)
            · have hf := (if_neg c_13).symm.trans hf
              refine lv_iconst (v := (0 : Int32)) hx hb dX6_lots_119 (by decide) ?_
              exact j_120 v1 v3 v5 v6 (v7 + t0) (v8 + ((1 : Int32) - t0)) t0 (0 : Int32) σ _ _ _ hP hS (lv_sub hl [3, 4, 5, 6, 7, 1, 0, 2] rfl) hf
            · have hf := (if_pos c_13).symm.trans hf
              refine lv_iload hx hb dX6_lots_112 (lv_at hl 8 rfl) ?_
              refine lv_iconst (v := (1 : Int32)) hx hb dX6_lots_114 (by decide) ?_
              refine lv_iadd hx hb dX6_lots_115 ?_
              refine lv_goto (tgt := 120) hx hb dX6_lots_116 (by decide) ?_
              exact j_120 v1 v3 v5 v6 (v7 + t0) (v8 + ((1 : Int32) - t0)) t0 (v9 + (1 : Int32)) σ _ _ _ hP hS (lv_sub hl [3, 4, 5, 6, 7, 1, 0, 2] rfl) hf
          intro v1 v3 v5 v6 v7 v8 v9 v10 σ H locs ls hP hS hl hf
          rw [fX6_lots_68] at hf
          refine lv_aload_n hx hb dX6_lots_68 rfl (lv_at hl 0 rfl) ?_
          refine lv_bipush (v := (12 : Int32)) hx hb dX6_lots_69 (by decide) ?_
          obtain ⟨q_6, hq_6, hf⟩ := x_bd hf
          refine x_callGi (va_runV (As := [.int (12 : Int32)]) (rest := []) ⟨hx, hb, hml, hown, hts⟩ (kX6_drawn l z hz hq_6) (cwV 1 hts gX6_lots_X6_drawn rfl rfl rfl (by decide +kernel) ⟨Nat.le_of_ble_eq_true rfl, Nat.le_of_ble_eq_true rfl⟩) (pvG hK hP hE hS (va_recv hK hP (ci := 6) (q0 := 0) rfl (wl_at (by decide) cX6))) rfl rfl hl.1 rfl (lv_room (Nat.le_of_ble_eq_true rfl)) dX6_lots_71 ⟨Nat.zero_le _, Nat.zero_le _⟩) hS (fun H locs hP hS => ?_)
          refine lv_aload_n hx hb dX6_lots_74 rfl (lv_at hl 0 rfl) ?_
          refine lv_iload hx hb dX6_lots_75 (lv_at hl 8 rfl) ?_
          obtain ⟨q_7, hq_7, hf⟩ := x_bd hf
          refine x_callGi (va_runV (As := [.int v10]) (rest := [.int q_6.1]) ⟨hx, hb, hml, hown, hts⟩ (kX6_twelfths l z hz hq_7) (cwV 1 hts gX6_lots_X6_twelfths rfl rfl rfl (by decide +kernel) ⟨Nat.le_of_ble_eq_true rfl, Nat.le_of_ble_eq_true rfl⟩) (pvG hK hP hE hS (va_recv hK hP (ci := 6) (q0 := 0) rfl (wl_at (by decide) cX6))) rfl rfl hl.1 rfl (lv_room (Nat.le_of_ble_eq_true rfl)) dX6_lots_77 ⟨Nat.zero_le _, Nat.zero_le _⟩) hS (fun H locs hP hS => ?_)
          refine lv_icmp_ge (tgt := 87) hx hb dX6_lots_80 (by decide) (fun c_8 => ?_) (fun c_8 => ?_)
          · have hf := (if_pos c_8).symm.trans hf
            refine lv_iconst (v := (0 : Int32)) hx hb dX6_lots_87 (by decide) ?_
            exact j_88 v1 v3 v5 v6 v7 v8 v9 (0 : Int32) q_6.2 _ _ _ hP hS (lv_sub hl [0, 1, 2, 3, 4, 5, 6, 7] rfl) hf
          · have hf := (if_neg c_8).symm.trans hf
            refine lv_iconst (v := (1 : Int32)) hx hb dX6_lots_83 (by decide) ?_
            refine lv_goto (tgt := 88) hx hb dX6_lots_84 (by decide) ?_
            exact j_88 v1 v3 v5 v6 v7 v8 v9 (1 : Int32) q_6.2 _ _ _ hP hS (lv_sub hl [0, 1, 2, 3, 4, 5, 6, 7] rfl) hf
      intro v1 v3 v5 v6 σ H locs ls hP hS hl hf
      rw [fX6_lots_49] at hf
      refine lv_iload hx hb dX6_lots_49 (lv_at hl 4 rfl) ?_
      refine lv_iload_n hx hb dX6_lots_51 rfl (lv_at hl 1 rfl) ?_
      refine lv_icmp_ge (tgt := 164) hx hb dX6_lots_52 (by decide) (fun c_5 => ?_) (fun c_5 => ?_)
      · have hf := (if_pos c_5).symm.trans hf
        refine lv_iload hx hb dX6_lots_164 (lv_at hl 3 rfl) ?_
        exact x_iret hx hb hr hlocks hP hS dX6_lots_166 (Prod.mk.inj (Option.some.inj hf)).1 (Prod.mk.inj (Option.some.inj hf)).2
      · have hf := (if_neg c_5).symm.trans hf
        refine lv_iconst (v := (0 : Int32)) hx hb dX6_lots_55 (by decide) ?_
        refine lv_istore (lv' := [(7, .int (0 : Int32)), (0, .ref (z.2.1 0)), (1, .int v1), (3, .int v3), (5, .int v5), (6, .int v6)]) hx hb dX6_lots_56 hl (by decide) rfl (fun ls hl => ?_)
        refine lv_iconst (v := (0 : Int32)) hx hb dX6_lots_58 (by decide) ?_
        refine lv_istore (lv' := [(8, .int (0 : Int32)), (7, .int (0 : Int32)), (0, .ref (z.2.1 0)), (1, .int v1), (3, .int v3), (5, .int v5), (6, .int v6)]) hx hb dX6_lots_59 hl (by decide) rfl (fun ls hl => ?_)
        refine lv_iconst (v := (0 : Int32)) hx hb dX6_lots_61 (by decide) ?_
        refine lv_istore (lv' := [(9, .int (0 : Int32)), (8, .int (0 : Int32)), (7, .int (0 : Int32)), (0, .ref (z.2.1 0)), (1, .int v1), (3, .int v3), (5, .int v5), (6, .int v6)]) hx hb dX6_lots_62 hl (by decide) rfl (fun ls hl => ?_)
        refine lv_bipush (v := (-9 : Int32)) hx hb dX6_lots_64 (by decide) ?_
        refine lv_istore (lv' := [(10, .int (-9 : Int32)), (9, .int (0 : Int32)), (8, .int (0 : Int32)), (7, .int (0 : Int32)), (0, .ref (z.2.1 0)), (1, .int v1), (3, .int v3), (5, .int v5), (6, .int v6)]) hx hb dX6_lots_66 hl (by decide) rfl (fun ls hl => ?_)
        exact L_68 1000 v1 v3 v5 v6 (0 : Int32) (0 : Int32) (0 : Int32) (-9 : Int32) σ _ _ _ hP hS (lv_sub hl [4, 5, 6, 7, 8, 3, 2, 1, 0] rfl) hf
  have j_26 : ∀ (v1 : Int32) (v2 : Int32) (v3 : Int32) (v4 : Int32) (σ : Mm) (H : Heap) (locs : List Loc) (ls : Array Slot), va_P z.1 vwCl (wl 8 z.2.1 (ceM z σ)) H → va_S (aG 8 z) s.heap H locs → lv_has ls 11 [(0, .ref (z.2.1 0)), (1, .int v1), (2, .int v2), (3, .int v3), (4, .int v4)] → fX6_lots_26 v1 v2 v3 v4 σ = some (r, σ') → W p l e (headSpec wsX6_lots ({ frames := 2, cells := 0, slots := 0, locals := 48 })).room s m ([.ref (z.2.1 0), .int a0, .int a1, .int a2] : List Value).toArray below meth c H locs 0 0 (MQ below (qcG 8 ceM z σ' (some (.int r))) ([.ref (z.2.1 0), .int a0, .int a1, .int a2] : List Value).toArray s 0 0 (aG 8 z)) (F0 m 26 ls []) := by
    intro v1 v2 v3 v4 σ H locs ls hP hS hl hf
    rw [fX6_lots_26] at hf
    refine lv_iload hx hb dX6_lots_26 (lv_at hl 4 rfl) ?_
    refine lv_if_eq (tgt := 38) hx hb dX6_lots_28 (by decide) (fun c_14 => ?_) (fun c_14 => ?_)
    · have hf := (if_pos c_14).symm.trans hf
      refine lv_aload_n hx hb dX6_lots_38 rfl (lv_at hl 0 rfl) ?_
      refine lv_iload_n hx hb dX6_lots_39 rfl (lv_at hl 2 rfl) ?_
      refine va_put (D := z.1) (ci := 6) (v := .int v2) (ty := .int) (C := RX6) (T := TX6) (N := 29) hx hb hts in_X6 tyX6 tyX6_ok nmX6 hown hK hP (wl_D hz _) hS 0 (wl_at (by decide) cX6) rfl 28 (by decide) (hts (.fieldLink RX6 204 "TillOneOfSortModel" "seed" "I") (by decide +kernel)) (fun _ h9 => h9) rfl (by decide +kernel) rfl rfl (Nat.le_of_ble_eq_true rfl) dX6_lots_40 (fun H locs hP _ hS => ?_)
      rw [sX6I (by decide)] at hP
      refine lv_iconst (v := (0 : Int32)) hx hb dX6_lots_43 (by decide) ?_
      refine lv_istore (lv' := [(5, .int (0 : Int32)), (0, .ref (z.2.1 0)), (1, .int v1), (2, .int v2), (3, .int v3), (4, .int v4)]) hx hb dX6_lots_44 hl (by decide) rfl (fun ls hl => ?_)
      refine lv_iconst (v := (0 : Int32)) hx hb dX6_lots_46 (by decide) ?_
      refine lv_istore (lv' := [(6, .int (0 : Int32)), (5, .int (0 : Int32)), (0, .ref (z.2.1 0)), (1, .int v1), (2, .int v2), (3, .int v3), (4, .int v4)]) hx hb dX6_lots_47 hl (by decide) rfl (fun ls hl => ?_)
      exact L_49 1000 v1 v3 (0 : Int32) (0 : Int32) (pI σ 0 28 v2) _ _ _ hP hS (lv_sub hl [2, 3, 5, 1, 0] rfl) hf
    · have hf := (if_neg c_14).symm.trans hf
      refine lv_aload_n hx hb dX6_lots_31 rfl (lv_at hl 0 rfl) ?_
      refine lv_iload hx hb dX6_lots_32 (lv_at hl 4 rfl) ?_
      obtain ⟨q_15, hq_15, hf⟩ := x_bd hf
      refine x_callGi (va_runV (As := [.int v4]) (rest := []) ⟨hx, hb, hml, hown, hts⟩ (kX6_refuse l z hz hq_15) (cwV 1 hts gX6_lots_X6_refuse rfl rfl rfl (by decide +kernel) ⟨Nat.le_of_ble_eq_true rfl, Nat.le_of_ble_eq_true rfl⟩) (pvG hK hP hE hS (va_recv hK hP (ci := 6) (q0 := 0) rfl (wl_at (by decide) cX6))) rfl rfl hl.1 rfl (lv_room (Nat.le_of_ble_eq_true rfl)) dX6_lots_34 ⟨Nat.zero_le _, Nat.zero_le _⟩) hS (fun H locs hP hS => ?_)
      exact x_iret hx hb hr hlocks hP hS dX6_lots_37 (Prod.mk.inj (Option.some.inj hf)).1 (Prod.mk.inj (Option.some.inj hf)).2
  refine lv_iload_n hx hb dX6_lots_0 rfl (lv_at hl 1 rfl) ?_
  refine lv_iconst (v := (1 : Int32)) hx hb dX6_lots_1 (by decide) ?_
  refine lv_bipush (v := (40 : Int32)) hx hb dX6_lots_2 (by decide) ?_
  obtain ⟨q_1001, hq_1001, hf⟩ := x_bd hf
  refine x_callSi (va_runS (As := [.int a0, .int (1 : Int32), .int (40 : Int32)]) (rest := []) ⟨hx, hb, hml, hown, hts⟩ (kX6_within l hq_1001) (va_cwS 3 hts gX6_lots_X6_within rfl rfl rfl (by decide +kernel) ⟨Nat.le_of_ble_eq_true rfl, Nat.le_of_ble_eq_true rfl⟩) psS rfl rfl hl.1 rfl (lv_room (Nat.le_of_ble_eq_true rfl)) dX6_lots_4 ⟨Nat.zero_le _, Nat.zero_le _⟩) ?_
  refine lv_istore (lv' := [(4, .int q_1001), (0, .ref (z.2.1 0)), (1, .int a0), (2, .int a1), (3, .int a2)]) hx hb dX6_lots_7 hl (by decide) rfl (fun ls hl => ?_)
  refine lv_iload hx hb dX6_lots_9 (lv_at hl 0 rfl) ?_
  refine lv_if_ne (tgt := 26) hx hb dX6_lots_11 (by decide) (fun c_1002 => ?_) (fun c_1002 => ?_)
  · have hf := (if_neg c_1002).symm.trans hf
    exact j_26 a0 a1 a2 q_1001 σ _ _ _ hP hS (lv_sub hl [1, 2, 3, 4, 0] rfl) hf
  · have hf := (if_pos c_1002).symm.trans hf
    refine lv_iload_n hx hb dX6_lots_14 rfl (lv_at hl 4 rfl) ?_
    refine lv_iconst (v := (2 : Int32)) hx hb dX6_lots_15 (by decide) ?_
    obtain ⟨q_1003, hq_1003, hf⟩ := x_bd hf
    refine x_callSi (va_runS (As := [.int a2, .int (2 : Int32)]) (rest := []) ⟨hx, hb, hml, hown, hts⟩ (kX6_isIn l hq_1003) (va_cwS 2 hts gX6_lots_X6_isIn rfl rfl rfl (by decide +kernel) ⟨Nat.le_of_ble_eq_true rfl, Nat.le_of_ble_eq_true rfl⟩) psS rfl rfl hl.1 rfl (lv_room (Nat.le_of_ble_eq_true rfl)) dX6_lots_16 ⟨Nat.zero_le _, Nat.zero_le _⟩) ?_
    refine lv_if_ne (tgt := 26) hx hb dX6_lots_19 (by decide) (fun c_1004 => ?_) (fun c_1004 => ?_)
    · have hf := (if_neg c_1004).symm.trans hf
      exact j_26 a0 a1 a2 q_1001 σ _ _ _ hP hS (lv_sub hl [1, 2, 3, 4, 0] rfl) hf
    · have hf := (if_pos c_1004).symm.trans hf
      refine lv_bipush (v := (-2 : Int32)) hx hb dX6_lots_22 (by decide) ?_
      refine lv_istore (lv' := [(4, .int (-2 : Int32)), (0, .ref (z.2.1 0)), (1, .int a0), (2, .int a1), (3, .int a2)]) hx hb dX6_lots_24 hl (by decide) rfl (fun ls hl => ?_)
      exact j_26 a0 a1 a2 (-2 : Int32) σ _ _ _ hP hS (lv_sub hl [1, 2, 3, 4, 0] rfl) hf
set_option maxHeartbeats 40000000 in
set_option maxRecDepth 100000 in
theorem kX6_image (l : Launch) (z : Cx) (hz : okC 8 z)   {σ σ' : Mm} {r : Int32} (hf : fX6_image σ = some (r, σ')) : KG 8 ceM l yX6_image wsX6_image (1) (22) [.ref (z.2.1 0)] z σ σ' (some (.int r)) := by
  rw [fX6_image] at hf
  refine Met.ofW (cc := cX6_image) (maxL := 1) (ret := (some .int)) (by decide) rfl ?_
  intro p e s m args below meth c s₁ B hml hv
  obtain ⟨rfl, hP, hK, hE⟩ := hv
  have hx := B.exec
  have hb := B.bytes
  have hr := B.returns
  have hts := atoms_spec (ws := wsX6_image) B.pre
  have hown : s.vm.findClass RX6 = some m.cls := findClass_of_methodNamed B.named
  have hlocks := B.notSynchronized
  have in_X6 : ∀ w ∈ wsX60, w ∈ wsX6_image := by decide +kernel
  have hS : va_S (aG 8 z) s.heap s.heap [] := va_S.rf
  have hl := lv_entry ([.ref (z.2.1 0)]) (n := 1) (Nat.le_of_ble_eq_true rfl)
  rw [lg_entry_eq]
  generalize (lg_sl ([.ref (z.2.1 0)]) ++ List.replicate (1 - (lg_sl ([.ref (z.2.1 0)])).length) Slot.unset).toArray = ls at hl ⊢
  have hl : lv_has ls 1 [(0, .ref (z.2.1 0))] := hl
  refine lv_aload_n hx hb dX6_image_0 rfl (lv_at hl 0 rfl) ?_
  refine va_get (D := z.1) (ci := 6) (v := .ref (z.2.1 2)) (C := RX6) (T := TX6) (N := 29) hx hb hts in_X6 hown hK hP 0 (wl_at (by decide) cX6) rfl 1 (by decide) (hts (.fieldLink RX6 13 "TillOneOfSortModel" "s" "[I") (by decide +kernel)) (fun _ h9 => h9) rfl dX6_image_1 ?_
  refine lv_aload_n hx hb dX6_image_4 rfl (lv_at hl 0 rfl) ?_
  refine va_get (D := z.1) (ci := 6) (v := .ref (z.2.1 3)) (C := RX6) (T := TX6) (N := 29) hx hb hts in_X6 hown hK hP 0 (wl_at (by decide) cX6) rfl 2 (by decide) (hts (.fieldLink RX6 16 "TillOneOfSortModel" "image" "[I") (by decide +kernel)) (fun _ h9 => h9) rfl dX6_image_5 ?_
  obtain ⟨q_1001, hq_1001, hf⟩ := x_bd hf
  refine x_callGv (va_runS (As := [.ref (z.2.1 2), .ref (z.2.1 3)]) (rest := []) ⟨hx, hb, hml, hown, hts⟩ (kX6_lays l z hz (rfl : isI22 2 = true) (rfl : isI22 3 = true) hq_1001) (va_cwS 2 hts gX6_image_X6_lays rfl rfl rfl (by decide +kernel) ⟨Nat.le_of_ble_eq_true rfl, Nat.le_of_ble_eq_true rfl⟩) (psG hK hP hE hS) rfl rfl hl.1 rfl (lv_room (Nat.le_of_ble_eq_true rfl)) dX6_image_8 ⟨Nat.zero_le _, Nat.zero_le _⟩) hS (fun H locs hP hS => ?_)
  refine lv_aload_n hx hb dX6_image_11 rfl (lv_at hl 0 rfl) ?_
  refine lv_iconst (v := (1 : Int32)) hx hb dX6_image_12 (by decide) ?_
  refine va_put (D := z.1) (ci := 6) (v := .int (1 : Int32)) (ty := .boolean) (C := RX6) (T := TX6) (N := 29) hx hb hts in_X6 tyX6 tyX6_ok nmX6 hown hK hP (wl_D hz _) hS 0 (wl_at (by decide) cX6) rfl 4 (by decide) (hts (.fieldLink RX6 213 "TillOneOfSortModel" "isImage" "Z") (by decide +kernel)) (fun _ h9 => h9) rfl (by decide +kernel) rfl rfl (Nat.le_of_ble_eq_true rfl) dX6_image_13 (fun H locs hP _ hS => ?_)
  rw [sX6I (by decide)] at hP
  refine lv_aload_n hx hb dX6_image_16 rfl (lv_at hl 0 rfl) ?_
  refine va_get (D := z.1) (ci := 6) (v := .ref (z.2.1 2)) (C := RX6) (T := TX6) (N := 29) hx hb hts in_X6 hown hK hP 0 (wl_at (by decide) cX6) rfl 1 (by decide) (hts (.fieldLink RX6 13 "TillOneOfSortModel" "s" "[I") (by decide +kernel)) (fun _ h9 => h9) rfl dX6_image_17 ?_
  refine lv_iconst (v := (5 : Int32)) hx hb dX6_image_20 (by decide) ?_
  obtain ⟨c_1002, hf⟩ := x_ck hf
  refine va_iald hx hb hK hP 2 0 (wl_at (i22_lt (rfl : isI22 2 = true)) (cMI22 (rfl : isI22 2 = true))) rfl (ci_in c_1002) dX6_image_21 ?_
  exact x_iret hx hb hr hlocks hP hS dX6_image_22 (Prod.mk.inj (Option.some.inj hf)).1 (Prod.mk.inj (Option.some.inj hf)).2
set_option maxHeartbeats 40000000 in
set_option maxRecDepth 100000 in
theorem kX6_on (l : Launch) (z : Cx) (hz : okC 8 z)   {σ σ' : Mm} {r : Int32} (hf : fX6_on σ = some (r, σ')) : KG 8 ceM l yX6_on wsX6_on (1) (22) [.ref (z.2.1 0)] z σ σ' (some (.int r)) := by
  rw [fX6_on] at hf
  refine Met.ofW (cc := cX6_on) (maxL := 1) (ret := (some .int)) (by decide) rfl ?_
  intro p e s m args below meth c s₁ B hml hv
  obtain ⟨rfl, hP, hK, hE⟩ := hv
  have hx := B.exec
  have hb := B.bytes
  have hr := B.returns
  have hts := atoms_spec (ws := wsX6_on) B.pre
  have hown : s.vm.findClass RX6 = some m.cls := findClass_of_methodNamed B.named
  have hlocks := B.notSynchronized
  have in_X6 : ∀ w ∈ wsX60, w ∈ wsX6_on := by decide +kernel
  have hS : va_S (aG 8 z) s.heap s.heap [] := va_S.rf
  have hl := lv_entry ([.ref (z.2.1 0)]) (n := 1) (Nat.le_of_ble_eq_true rfl)
  rw [lg_entry_eq]
  generalize (lg_sl ([.ref (z.2.1 0)]) ++ List.replicate (1 - (lg_sl ([.ref (z.2.1 0)])).length) Slot.unset).toArray = ls at hl ⊢
  have hl : lv_has ls 1 [(0, .ref (z.2.1 0))] := hl
  refine lv_aload_n hx hb dX6_on_0 rfl (lv_at hl 0 rfl) ?_
  refine va_get (D := z.1) (ci := 6) (v := .int (gI σ 0 4)) (C := RX6) (T := TX6) (N := 29) hx hb hts in_X6 hown hK hP 0 (wl_at (by decide) cX6) rfl 4 (by decide) (hts (.fieldLink RX6 213 "TillOneOfSortModel" "isImage" "Z") (by decide +kernel)) (fun _ h9 => h9) rfl dX6_on_1 ?_
  refine lv_if_ne (tgt := 14) hx hb dX6_on_4 (by decide) (fun c_1001 => ?_) (fun c_1001 => ?_)
  · have hf := (if_neg c_1001).symm.trans hf
    refine lv_aload_n hx hb dX6_on_14 rfl (lv_at hl 0 rfl) ?_
    refine va_get (D := z.1) (ci := 6) (v := .ref (z.2.1 3)) (C := RX6) (T := TX6) (N := 29) hx hb hts in_X6 hown hK hP 0 (wl_at (by decide) cX6) rfl 2 (by decide) (hts (.fieldLink RX6 16 "TillOneOfSortModel" "image" "[I") (by decide +kernel)) (fun _ h9 => h9) rfl dX6_on_15 ?_
    refine lv_aload_n hx hb dX6_on_18 rfl (lv_at hl 0 rfl) ?_
    refine va_get (D := z.1) (ci := 6) (v := .ref (z.2.1 2)) (C := RX6) (T := TX6) (N := 29) hx hb hts in_X6 hown hK hP 0 (wl_at (by decide) cX6) rfl 1 (by decide) (hts (.fieldLink RX6 13 "TillOneOfSortModel" "s" "[I") (by decide +kernel)) (fun _ h9 => h9) rfl dX6_on_19 ?_
    obtain ⟨q_1002, hq_1002, hf⟩ := x_bd hf
    refine x_callGv (va_runS (As := [.ref (z.2.1 3), .ref (z.2.1 2)]) (rest := []) ⟨hx, hb, hml, hown, hts⟩ (kX6_lays l z hz (rfl : isI22 3 = true) (rfl : isI22 2 = true) hq_1002) (va_cwS 2 hts gX6_on_X6_lays rfl rfl rfl (by decide +kernel) ⟨Nat.le_of_ble_eq_true rfl, Nat.le_of_ble_eq_true rfl⟩) (psG hK hP hE hS) rfl rfl hl.1 rfl (lv_room (Nat.le_of_ble_eq_true rfl)) dX6_on_22 ⟨Nat.zero_le _, Nat.zero_le _⟩) hS (fun H locs hP hS => ?_)
    refine lv_aload_n hx hb dX6_on_25 rfl (lv_at hl 0 rfl) ?_
    refine va_get (D := z.1) (ci := 6) (v := .ref (z.2.1 2)) (C := RX6) (T := TX6) (N := 29) hx hb hts in_X6 hown hK hP 0 (wl_at (by decide) cX6) rfl 1 (by decide) (hts (.fieldLink RX6 13 "TillOneOfSortModel" "s" "[I") (by decide +kernel)) (fun _ h9 => h9) rfl dX6_on_26 ?_
    refine lv_iconst (v := (5 : Int32)) hx hb dX6_on_29 (by decide) ?_
    obtain ⟨c_1003, hf⟩ := x_ck hf
    refine va_iald hx hb hK hP 2 0 (wl_at (i22_lt (rfl : isI22 2 = true)) (cMI22 (rfl : isI22 2 = true))) rfl (ci_in c_1003) dX6_on_30 ?_
    exact x_iret hx hb hr hlocks hP hS dX6_on_31 (Prod.mk.inj (Option.some.inj hf)).1 (Prod.mk.inj (Option.some.inj hf)).2
  · have hf := (if_pos c_1001).symm.trans hf
    refine lv_aload_n hx hb dX6_on_7 rfl (lv_at hl 0 rfl) ?_
    refine lv_bipush (v := (-3 : Int32)) hx hb dX6_on_8 (by decide) ?_
    obtain ⟨q_1004, hq_1004, hf⟩ := x_bd hf
    refine x_callGi (va_runV (As := [.int (-3 : Int32)]) (rest := []) ⟨hx, hb, hml, hown, hts⟩ (kX6_refuse l z hz hq_1004) (cwV 1 hts gX6_on_X6_refuse rfl rfl rfl (by decide +kernel) ⟨Nat.le_of_ble_eq_true rfl, Nat.le_of_ble_eq_true rfl⟩) (pvG hK hP hE hS (va_recv hK hP (ci := 6) (q0 := 0) rfl (wl_at (by decide) cX6))) rfl rfl hl.1 rfl (lv_room (Nat.le_of_ble_eq_true rfl)) dX6_on_10 ⟨Nat.zero_le _, Nat.zero_le _⟩) hS (fun H locs hP hS => ?_)
    exact x_iret hx hb hr hlocks hP hS dX6_on_13 (Prod.mk.inj (Option.some.inj hf)).1 (Prod.mk.inj (Option.some.inj hf)).2
set_option maxHeartbeats 40000000 in
set_option maxRecDepth 100000 in
theorem kX6_count (l : Launch) (z : Cx) (hz : okC 8 z) {a0 : Int32}  {σ : Mm} {r : Int32} (hf : fX6_count a0 σ = some r) : KG 8 ceM l yX6_count wsX6_count (1) (21) [.ref (z.2.1 0), .int a0] z σ σ (some (.int r)) := by
  rw [fX6_count] at hf
  refine Met.ofW (cc := cX6_count) (maxL := 2) (ret := (some .int)) (by decide) rfl ?_
  intro p e s m args below meth c s₁ B hml hv
  obtain ⟨rfl, hP, hK, hE⟩ := hv
  have hx := B.exec
  have hb := B.bytes
  have hr := B.returns
  have hts := atoms_spec (ws := wsX6_count) B.pre
  have hown : s.vm.findClass RX6 = some m.cls := findClass_of_methodNamed B.named
  have hlocks := B.notSynchronized
  have in_X6 : ∀ w ∈ wsX60, w ∈ wsX6_count := by decide +kernel
  have hS : va_S (aG 8 z) s.heap s.heap [] := va_S.rf
  have hl := lv_entry ([.ref (z.2.1 0), .int a0]) (n := 2) (Nat.le_of_ble_eq_true rfl)
  rw [lg_entry_eq]
  generalize (lg_sl ([.ref (z.2.1 0), .int a0]) ++ List.replicate (2 - (lg_sl ([.ref (z.2.1 0), .int a0])).length) Slot.unset).toArray = ls at hl ⊢
  have hl : lv_has ls 2 [(0, .ref (z.2.1 0)), (1, .int a0)] := hl
  have j_22 : ∀ (v1 : Int32) (H : Heap) (locs : List Loc) (ls : Array Slot), va_P z.1 vwCl (wl 8 z.2.1 (ceM z σ)) H → va_S (aG 8 z) s.heap H locs → lv_has ls 2 [(0, .ref (z.2.1 0)), (1, .int v1)] → fX6_count_22 σ v1 = some r → W p l e (headSpec wsX6_count ({ frames := 1, cells := 0, slots := 0, locals := 21 })).room s m ([.ref (z.2.1 0), .int a0] : List Value).toArray below meth c H locs 0 0 (MQ below (qcG 8 ceM z σ (some (.int r))) ([.ref (z.2.1 0), .int a0] : List Value).toArray s 0 0 (aG 8 z)) (F0 m 22 ls []) := by
    intro v1 H locs ls hP hS hl hf
    rw [fX6_count_22] at hf
    refine lv_iload_n hx hb dX6_count_22 rfl (lv_at hl 1 rfl) ?_
    refine lv_bipush (v := (6 : Int32)) hx hb dX6_count_23 (by decide) ?_
    obtain ⟨q_4, hq_4, hf⟩ := x_bd hf
    refine x_callSi (va_runS (As := [.int v1, .int (6 : Int32)]) (rest := []) ⟨hx, hb, hml, hown, hts⟩ (kX6_isIn l hq_4) (va_cwS 2 hts gX6_count_X6_isIn rfl rfl rfl (by decide +kernel) ⟨Nat.le_of_ble_eq_true rfl, Nat.le_of_ble_eq_true rfl⟩) psS rfl rfl hl.1 rfl (lv_room (Nat.le_of_ble_eq_true rfl)) dX6_count_25 ⟨Nat.zero_le _, Nat.zero_le _⟩) ?_
    refine lv_if_eq (tgt := 40) hx hb dX6_count_28 (by decide) (fun c_5 => ?_) (fun c_5 => ?_)
    · have hf := (if_pos c_5).symm.trans hf
      refine lv_iload_n hx hb dX6_count_40 rfl (lv_at hl 1 rfl) ?_
      refine lv_bipush (v := (6 : Int32)) hx hb dX6_count_41 (by decide) ?_
      refine lv_icmp_ne (tgt := 53) hx hb dX6_count_43 (by decide) (fun c_6 => ?_) (fun c_6 => ?_)
      · have hf := (if_neg c_6).symm.trans hf
        refine lv_iload_n hx hb dX6_count_53 rfl (lv_at hl 1 rfl) ?_
        refine lv_bipush (v := (7 : Int32)) hx hb dX6_count_54 (by decide) ?_
        refine lv_icmp_ne (tgt := 66) hx hb dX6_count_56 (by decide) (fun c_7 => ?_) (fun c_7 => ?_)
        · have hf := (if_neg c_7).symm.trans hf
          refine lv_bipush (v := (-9 : Int32)) hx hb dX6_count_66 (by decide) ?_
          exact x_iret hx hb hr hlocks hP hS dX6_count_68 (Option.some.inj hf) rfl
        · have hf := (if_pos c_7).symm.trans hf
          refine lv_aload_n hx hb dX6_count_59 rfl (lv_at hl 0 rfl) ?_
          refine va_get (D := z.1) (ci := 6) (v := .int (gI σ 0 7)) (C := RX6) (T := TX6) (N := 29) hx hb hts in_X6 hown hK hP 0 (wl_at (by decide) cX6) rfl 7 (by decide) (hts (.fieldLink RX6 42 "TillOneOfSortModel" "taped" "I") (by decide +kernel)) (fun _ h9 => h9) rfl dX6_count_60 ?_
          refine lv_goto (tgt := 68) hx hb dX6_count_63 (by decide) ?_
          exact x_iret hx hb hr hlocks hP hS dX6_count_68 (Option.some.inj hf) rfl
      · have hf := (if_pos c_6).symm.trans hf
        refine lv_aload_n hx hb dX6_count_46 rfl (lv_at hl 0 rfl) ?_
        refine va_get (D := z.1) (ci := 6) (v := .int (gI σ 0 26)) (C := RX6) (T := TX6) (N := 29) hx hb hts in_X6 hown hK hP 0 (wl_at (by decide) cX6) rfl 26 (by decide) (hts (.fieldLink RX6 185 "TillOneOfSortModel" "rowed" "I") (by decide +kernel)) (fun _ h9 => h9) rfl dX6_count_47 ?_
        refine lv_goto (tgt := 68) hx hb dX6_count_50 (by decide) ?_
        exact x_iret hx hb hr hlocks hP hS dX6_count_68 (Option.some.inj hf) rfl
    · have hf := (if_neg c_5).symm.trans hf
      refine lv_aload_n hx hb dX6_count_31 rfl (lv_at hl 0 rfl) ?_
      refine va_get (D := z.1) (ci := 6) (v := .ref (z.2.1 2)) (C := RX6) (T := TX6) (N := 29) hx hb hts in_X6 hown hK hP 0 (wl_at (by decide) cX6) rfl 1 (by decide) (hts (.fieldLink RX6 13 "TillOneOfSortModel" "s" "[I") (by decide +kernel)) (fun _ h9 => h9) rfl dX6_count_32 ?_
      refine lv_iload_n hx hb dX6_count_35 rfl (lv_at hl 1 rfl) ?_
      obtain ⟨c_8, hf⟩ := x_ck hf
      refine va_iald hx hb hK hP 2 0 (wl_at (i22_lt (rfl : isI22 2 = true)) (cMI22 (rfl : isI22 2 = true))) rfl (ci_in c_8) dX6_count_36 ?_
      refine lv_goto (tgt := 68) hx hb dX6_count_37 (by decide) ?_
      exact x_iret hx hb hr hlocks hP hS dX6_count_68 (Option.some.inj hf) rfl
  refine lv_iload_n hx hb dX6_count_0 rfl (lv_at hl 1 rfl) ?_
  refine lv_bipush (v := (10 : Int32)) hx hb dX6_count_1 (by decide) ?_
  refine lv_icmp_le (tgt := 22) hx hb dX6_count_3 (by decide) (fun c_1001 => ?_) (fun c_1001 => ?_)
  · have hf := (if_pos c_1001).symm.trans hf
    exact j_22 a0 _ _ _ hP hS (lv_sub hl [0, 1] rfl) hf
  · have hf := (if_neg c_1001).symm.trans hf
    refine lv_iload_n hx hb dX6_count_6 rfl (lv_at hl 1 rfl) ?_
    refine lv_bipush (v := (17 : Int32)) hx hb dX6_count_7 (by decide) ?_
    refine lv_icmp_ge (tgt := 22) hx hb dX6_count_9 (by decide) (fun c_1002 => ?_) (fun c_1002 => ?_)
    · have hf := (if_pos c_1002).symm.trans hf
      exact j_22 a0 _ _ _ hP hS (lv_sub hl [0, 1] rfl) hf
    · have hf := (if_neg c_1002).symm.trans hf
      refine lv_aload_n hx hb dX6_count_12 rfl (lv_at hl 0 rfl) ?_
      refine va_get (D := z.1) (ci := 6) (v := .ref (z.2.1 1)) (C := RX6) (T := TX6) (N := 29) hx hb hts in_X6 hown hK hP 0 (wl_at (by decide) cX6) rfl 0 (by decide) (hts (.fieldLink RX6 7 "TillOneOfSortModel" "refusals" "[I") (by decide +kernel)) (fun _ h9 => h9) rfl dX6_count_13 ?_
      refine lv_iload_n hx hb dX6_count_16 rfl (lv_at hl 1 rfl) ?_
      refine lv_bipush (v := (10 : Int32)) hx hb dX6_count_17 (by decide) ?_
      refine lv_isub hx hb dX6_count_19 ?_
      obtain ⟨c_1003, hf⟩ := x_ck hf
      refine va_iald hx hb hK hP 1 0 (wl_at (by decide) cMI7) rfl (ci_in c_1003) dX6_count_20 ?_
      exact x_iret hx hb hr hlocks hP hS dX6_count_21 (Option.some.inj hf) rfl
