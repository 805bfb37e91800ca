set_option maxHeartbeats 40000000 in
set_option maxRecDepth 100000 in
theorem kX6_stopsBy (l : Launch) {a0 : Int32} {a1 : Int32} {a2 : Int32} {a3 : Int32} {a4 : Int32}  {r : Int32} (hf : fX6_stopsBy a0 a1 a2 a3 a4 = some r) : KS l yX6_stopsBy wsX6_stopsBy (0) (0) [.int a0, .int a1, .int a2, .int a3, .int a4] (some (.int r)) := by
  rw [fX6_stopsBy] at hf
  refine Met.ofW (cc := cX6_stopsBy) (maxL := 5) (ret := (some .boolean)) (by decide) rfl ?_
  intro p e s m args below meth c s₁ B hml hv
  obtain ⟨rfl, -⟩ := hv
  have hx := B.exec
  have hb := B.bytes
  have hr := B.returns
  have hts := atoms_spec (ws := wsX6_stopsBy) B.pre
  have hown : s.vm.findClass RX6 = some m.cls := findClass_of_methodNamed B.named
  have hlocks := B.notSynchronized
  have hl := lv_entry ([.int a0, .int a1, .int a2, .int a3, .int a4]) (n := 5) (Nat.le_of_ble_eq_true rfl)
  rw [lg_entry_eq]
  generalize (lg_sl ([.int a0, .int a1, .int a2, .int a3, .int a4]) ++ List.replicate (5 - (lg_sl ([.int a0, .int a1, .int a2, .int a3, .int a4])).length) Slot.unset).toArray = ls at hl ⊢
  have hl : lv_has ls 5 [(0, .int a0), (1, .int a1), (2, .int a2), (3, .int a3), (4, .int a4)] := hl
  refine lv_iload_n hx hb dX6_stopsBy_0 rfl (lv_at hl 0 rfl) ?_
  by_cases c_1001 : a0 = (0 : Int32)
  · have hf := (if_pos c_1001).symm.trans hf
    refine lv_tableIn (off := 35) (tgt := 36) hx hb dX6_stopsBy_1 (by rw [c_1001]; decide) (by rw [c_1001]; decide) (by rw [c_1001]; rfl) (by decide) ?_
    refine lv_iload hx hb dX6_stopsBy_36 (lv_at hl 4 rfl) ?_
    refine lv_if_le (tgt := 45) hx hb dX6_stopsBy_38 (by decide) (fun c_1012 => ?_) (fun c_1012 => ?_)
    · have hf := (if_pos c_1012).symm.trans hf
      refine lv_iconst (v := (0 : Int32)) hx hb dX6_stopsBy_45 (by decide) ?_
      exact xs_zret hx hb hr hlocks dX6_stopsBy_46 rfl (Option.some.inj hf)
    · have hf := (if_neg c_1012).symm.trans hf
      refine lv_iconst (v := (1 : Int32)) hx hb dX6_stopsBy_41 (by decide) ?_
      refine lv_goto (tgt := 46) hx hb dX6_stopsBy_42 (by decide) ?_
      exact xs_zret hx hb hr hlocks dX6_stopsBy_46 rfl (Option.some.inj hf)
  · have hf := (if_neg c_1001).symm.trans hf
    by_cases c_1002 : a0 = (1 : Int32)
    · have hf := (if_pos c_1002).symm.trans hf
      refine lv_tableIn (off := 46) (tgt := 47) hx hb dX6_stopsBy_1 (by rw [c_1002]; decide) (by rw [c_1002]; decide) (by rw [c_1002]; rfl) (by decide) ?_
      refine lv_iload_n hx hb dX6_stopsBy_47 rfl (lv_at hl 2 rfl) ?_
      refine lv_iload_n hx hb dX6_stopsBy_48 rfl (lv_at hl 1 rfl) ?_
      refine lv_icmp_lt (tgt := 56) hx hb dX6_stopsBy_49 (by decide) (fun c_1011 => ?_) (fun c_1011 => ?_)
      · have hf := (if_pos c_1011).symm.trans hf
        refine lv_iconst (v := (0 : Int32)) hx hb dX6_stopsBy_56 (by decide) ?_
        exact xs_zret hx hb hr hlocks dX6_stopsBy_57 rfl (Option.some.inj hf)
      · have hf := (if_neg c_1011).symm.trans hf
        refine lv_iconst (v := (1 : Int32)) hx hb dX6_stopsBy_52 (by decide) ?_
        refine lv_goto (tgt := 57) hx hb dX6_stopsBy_53 (by decide) ?_
        exact xs_zret hx hb hr hlocks dX6_stopsBy_57 rfl (Option.some.inj hf)
    · have hf := (if_neg c_1002).symm.trans hf
      by_cases c_1003 : a0 = (2 : Int32)
      · have hf := (if_pos c_1003).symm.trans hf
        refine lv_tableIn (off := 57) (tgt := 58) hx hb dX6_stopsBy_1 (by rw [c_1003]; decide) (by rw [c_1003]; decide) (by rw [c_1003]; rfl) (by decide) ?_
        refine lv_iload_n hx hb dX6_stopsBy_58 rfl (lv_at hl 2 rfl) ?_
        refine lv_iload_n hx hb dX6_stopsBy_59 rfl (lv_at hl 3 rfl) ?_
        refine lv_isub hx hb dX6_stopsBy_60 ?_
        refine lv_iload_n hx hb dX6_stopsBy_61 rfl (lv_at hl 1 rfl) ?_
        refine lv_icmp_ne (tgt := 69) hx hb dX6_stopsBy_62 (by decide) (fun c_1010 => ?_) (fun c_1010 => ?_)
        · have hf := (if_neg c_1010).symm.trans hf
          refine lv_iconst (v := (0 : Int32)) hx hb dX6_stopsBy_69 (by decide) ?_
          exact xs_zret hx hb hr hlocks dX6_stopsBy_70 rfl (Option.some.inj hf)
        · have hf := (if_pos c_1010).symm.trans hf
          refine lv_iconst (v := (1 : Int32)) hx hb dX6_stopsBy_65 (by decide) ?_
          refine lv_goto (tgt := 70) hx hb dX6_stopsBy_66 (by decide) ?_
          exact xs_zret hx hb hr hlocks dX6_stopsBy_70 rfl (Option.some.inj hf)
      · have hf := (if_neg c_1003).symm.trans hf
        by_cases c_1004 : a0 = (3 : Int32)
        · have hf := (if_pos c_1004).symm.trans hf
          refine lv_tableIn (off := 70) (tgt := 71) hx hb dX6_stopsBy_1 (by rw [c_1004]; decide) (by rw [c_1004]; decide) (by rw [c_1004]; rfl) (by decide) ?_
          refine lv_iload_n hx hb dX6_stopsBy_71 rfl (lv_at hl 2 rfl) ?_
          refine lv_iload_n hx hb dX6_stopsBy_72 rfl (lv_at hl 3 rfl) ?_
          refine lv_icmp_ne (tgt := 80) hx hb dX6_stopsBy_73 (by decide) (fun c_1009 => ?_) (fun c_1009 => ?_)
          · have hf := (if_neg c_1009).symm.trans hf
            refine lv_iconst (v := (0 : Int32)) hx hb dX6_stopsBy_80 (by decide) ?_
            exact xs_zret hx hb hr hlocks dX6_stopsBy_81 rfl (Option.some.inj hf)
          · have hf := (if_pos c_1009).symm.trans hf
            refine lv_iconst (v := (1 : Int32)) hx hb dX6_stopsBy_76 (by decide) ?_
            refine lv_goto (tgt := 81) hx hb dX6_stopsBy_77 (by decide) ?_
            exact xs_zret hx hb hr hlocks dX6_stopsBy_81 rfl (Option.some.inj hf)
        · have hf := (if_neg c_1004).symm.trans hf
          by_cases c_1005 : a0 = (4 : Int32)
          · have hf := (if_pos c_1005).symm.trans hf
            refine lv_tableIn (off := 81) (tgt := 82) hx hb dX6_stopsBy_1 (by rw [c_1005]; decide) (by rw [c_1005]; decide) (by rw [c_1005]; rfl) (by decide) ?_
            refine lv_iload hx hb dX6_stopsBy_82 (lv_at hl 4 rfl) ?_
            refine lv_iload_n hx hb dX6_stopsBy_84 rfl (lv_at hl 1 rfl) ?_
            refine lv_icmp_lt (tgt := 92) hx hb dX6_stopsBy_85 (by decide) (fun c_1008 => ?_) (fun c_1008 => ?_)
            · have hf := (if_pos c_1008).symm.trans hf
              refine lv_iconst (v := (0 : Int32)) hx hb dX6_stopsBy_92 (by decide) ?_
              exact xs_zret hx hb hr hlocks dX6_stopsBy_93 rfl (Option.some.inj hf)
            · have hf := (if_neg c_1008).symm.trans hf
              refine lv_iconst (v := (1 : Int32)) hx hb dX6_stopsBy_88 (by decide) ?_
              refine lv_goto (tgt := 93) hx hb dX6_stopsBy_89 (by decide) ?_
              exact xs_zret hx hb hr hlocks dX6_stopsBy_93 rfl (Option.some.inj hf)
          · have hf := (if_neg c_1005).symm.trans hf
            refine x_tableD (tgt := 94) hx hb dX6_stopsBy_1 (fun k h1 h2 => ?_) (by decide) ?_
            · rcases (show k = 0 ∨ k = 1 ∨ k = 2 ∨ k = 3 ∨ k = 4 by omega) with rfl | rfl | rfl | rfl | rfl
              · exact Or.inl (x_ne c_1001 (by decide))
              · exact Or.inl (x_ne c_1002 (by decide))
              · exact Or.inl (x_ne c_1003 (by decide))
              · exact Or.inl (x_ne c_1004 (by decide))
              · exact Or.inl (x_ne c_1005 (by decide))
            · refine lv_iload_n hx hb dX6_stopsBy_94 rfl (lv_at hl 2 rfl) ?_
              refine lv_if_le (tgt := 106) hx hb dX6_stopsBy_95 (by decide) (fun c_1006 => ?_) (fun c_1006 => ?_)
              · have hf := (if_pos c_1006).symm.trans hf
                refine lv_iconst (v := (0 : Int32)) hx hb dX6_stopsBy_106 (by decide) ?_
                exact xs_zret hx hb hr hlocks dX6_stopsBy_107 rfl (Option.some.inj hf)
              · have hf := (if_neg c_1006).symm.trans hf
                refine lv_iload_n hx hb dX6_stopsBy_98 rfl (lv_at hl 3 rfl) ?_
                refine lv_if_le (tgt := 106) hx hb dX6_stopsBy_99 (by decide) (fun c_1007 => ?_) (fun c_1007 => ?_)
                · have hf := (if_pos c_1007).symm.trans hf
                  refine lv_iconst (v := (0 : Int32)) hx hb dX6_stopsBy_106 (by decide) ?_
                  exact xs_zret hx hb hr hlocks dX6_stopsBy_107 rfl (Option.some.inj hf)
                · have hf := (if_neg c_1007).symm.trans hf
                  refine lv_iconst (v := (1 : Int32)) hx hb dX6_stopsBy_102 (by decide) ?_
                  refine lv_goto (tgt := 107) hx hb dX6_stopsBy_103 (by decide) ?_
                  exact xs_zret hx hb hr hlocks dX6_stopsBy_107 rfl (Option.some.inj hf)
set_option maxHeartbeats 40000000 in
set_option maxRecDepth 100000 in
theorem kX6_endsBy (l : Launch) (z : Cx) (hz : okC 8 z) {a0 : Int32} {a1 : Int32} {a2 : Int32} {a3 : Int32}  {σ : Mm} {r : Int32} (hf : fX6_endsBy a0 a1 a2 a3 σ = some r) : KG 8 ceM l yX6_endsBy wsX6_endsBy (1) (24) [.ref (z.2.1 0), .int a0, .int a1, .int a2, .int a3] z σ σ (some (.int r)) := by
  rw [fX6_endsBy] at hf
  refine Met.ofW (cc := cX6_endsBy) (maxL := 5) (ret := (some .boolean)) (by decide) rfl ?_
  intro p e s m args below meth c s₁ B hml hv
  obtain ⟨rfl, hP, hK, hE⟩ := hv
  have hx := B.exec
  have hb := B.bytes
  have hr := B.returns
  have hts := atoms_spec (ws := wsX6_endsBy) B.pre
  have hown : s.vm.findClass RX6 = some m.cls := findClass_of_methodNamed B.named
  have hlocks := B.notSynchronized
  have in_X6 : ∀ w ∈ wsX60, w ∈ wsX6_endsBy := by decide +kernel
  have hS : va_S (aG 8 z) s.heap s.heap [] := va_S.rf
  have hl := lv_entry ([.ref (z.2.1 0), .int a0, .int a1, .int a2, .int a3]) (n := 5) (Nat.le_of_ble_eq_true rfl)
  rw [lg_entry_eq]
  generalize (lg_sl ([.ref (z.2.1 0), .int a0, .int a1, .int a2, .int a3]) ++ List.replicate (5 - (lg_sl ([.ref (z.2.1 0), .int a0, .int a1, .int a2, .int a3])).length) Slot.unset).toArray = ls at hl ⊢
  have hl : lv_has ls 5 [(0, .ref (z.2.1 0)), (1, .int a0), (2, .int a1), (3, .int a2), (4, .int a3)] := hl
  refine lv_iload_n hx hb dX6_endsBy_0 rfl (lv_at hl 2 rfl) ?_
  refine lv_iload_n hx hb dX6_endsBy_1 rfl (lv_at hl 3 rfl) ?_
  refine lv_iadd hx hb dX6_endsBy_2 ?_
  refine lv_aload_n hx hb dX6_endsBy_3 rfl (lv_at hl 0 rfl) ?_
  refine va_get (D := z.1) (ci := 6) (v := .ref (z.2.1 2)) (C := RX6) (T := TX6) (N := 29) hx hb hts in_X6 hown hK hP 0 (wl_at (by decide) cX6) rfl 1 (by decide) (hts (.fieldLink RX6 13 "TillOneOfSortModel" "s" "[I") (by decide +kernel)) (fun _ h9 => h9) rfl dX6_endsBy_4 ?_
  refine lv_iconst (v := (0 : Int32)) hx hb dX6_endsBy_7 (by decide) ?_
  obtain ⟨c_1001, hf⟩ := x_ck hf
  refine va_iald hx hb hK hP 2 0 (wl_at (i22_lt (rfl : isI22 2 = true)) (cMI22 (rfl : isI22 2 = true))) rfl (ci_in c_1001) dX6_endsBy_8 ?_
  refine lv_icmp_ge (tgt := 29) hx hb dX6_endsBy_9 (by decide) (fun c_1002 => ?_) (fun c_1002 => ?_)
  · have hf := (if_pos c_1002).symm.trans hf
    refine lv_iconst (v := (1 : Int32)) hx hb dX6_endsBy_29 (by decide) ?_
    refine lv_goto (tgt := 34) hx hb dX6_endsBy_30 (by decide) ?_
    exact x_zret hx hb hr hlocks hP hS dX6_endsBy_34 rfl (Option.some.inj hf) rfl
  · have hf := (if_neg c_1002).symm.trans hf
    refine lv_iload_n hx hb dX6_endsBy_12 rfl (lv_at hl 1 rfl) ?_
    refine lv_aload_n hx hb dX6_endsBy_13 rfl (lv_at hl 0 rfl) ?_
    refine va_get (D := z.1) (ci := 6) (v := .ref (z.2.1 2)) (C := RX6) (T := TX6) (N := 29) hx hb hts in_X6 hown hK hP 0 (wl_at (by decide) cX6) rfl 1 (by decide) (hts (.fieldLink RX6 13 "TillOneOfSortModel" "s" "[I") (by decide +kernel)) (fun _ h9 => h9) rfl dX6_endsBy_14 ?_
    refine lv_iconst (v := (4 : Int32)) hx hb dX6_endsBy_17 (by decide) ?_
    obtain ⟨c_1003, hf⟩ := x_ck hf
    refine va_iald hx hb hK hP 2 0 (wl_at (i22_lt (rfl : isI22 2 = true)) (cMI22 (rfl : isI22 2 = true))) rfl (ci_in c_1003) dX6_endsBy_18 ?_
    refine lv_iload_n hx hb dX6_endsBy_19 rfl (lv_at hl 2 rfl) ?_
    refine lv_iload_n hx hb dX6_endsBy_20 rfl (lv_at hl 3 rfl) ?_
    refine lv_iload hx hb dX6_endsBy_21 (lv_at hl 4 rfl) ?_
    obtain ⟨q_1004, hq_1004, hf⟩ := x_bd hf
    refine x_callSi (va_runS (As := [.int a0, .int (gI σ 2 (4 : Int32).toNatClampNeg), .int a1, .int a2, .int a3]) (rest := []) ⟨hx, hb, hml, hown, hts⟩ (kX6_stopsBy l hq_1004) (va_cwS 5 hts gX6_endsBy_X6_stopsBy rfl rfl rfl (by decide +kernel) ⟨Nat.le_of_ble_eq_true rfl, Nat.le_of_ble_eq_true rfl⟩) psS rfl rfl hl.1 rfl (lv_room (Nat.le_of_ble_eq_true rfl)) dX6_endsBy_23 ⟨Nat.zero_le _, Nat.zero_le _⟩) ?_
    refine lv_if_eq (tgt := 33) hx hb dX6_endsBy_26 (by decide) (fun c_1005 => ?_) (fun c_1005 => ?_)
    · have hf := (if_pos c_1005).symm.trans hf
      refine lv_iconst (v := (0 : Int32)) hx hb dX6_endsBy_33 (by decide) ?_
      exact x_zret hx hb hr hlocks hP hS dX6_endsBy_34 rfl (Option.some.inj hf) rfl
    · have hf := (if_neg c_1005).symm.trans hf
      refine lv_iconst (v := (1 : Int32)) hx hb dX6_endsBy_29 (by decide) ?_
      refine lv_goto (tgt := 34) hx hb dX6_endsBy_30 (by decide) ?_
      exact x_zret hx hb hr hlocks hP hS dX6_endsBy_34 rfl (Option.some.inj hf) rfl
set_option maxHeartbeats 40000000 in
set_option maxRecDepth 100000 in
theorem kX6_twelfths (l : Launch) (z : Cx) (hz : okC 8 z) {a0 : Int32}  {σ : Mm} {r : Int32} (hf : fX6_twelfths a0 σ = some r) : KG 8 ceM l yX6_twelfths wsX6_twelfths (0) (0) [.ref (z.2.1 0), .int a0] z σ σ (some (.int r)) := by
  rw [fX6_twelfths] at hf
  refine Met.ofW (cc := cX6_twelfths) (maxL := 4) (ret := (some .int)) (by decide) rfl ?_
  intro p e s m args below meth c s₁ B hml hv
  obtain ⟨rfl, hP, hK, hE⟩ := hv
  have hx := B.exec
  have hb := B.bytes
  have hr := B.returns
  have hts := atoms_spec (ws := wsX6_twelfths) B.pre
  have hown : s.vm.findClass RX6 = some m.cls := findClass_of_methodNamed B.named
  have hlocks := B.notSynchronized
  have in_X6 : ∀ w ∈ wsX60, w ∈ wsX6_twelfths := by decide +kernel
  have hS : va_S (aG 8 z) s.heap s.heap [] := va_S.rf
  have hl := lv_entry ([.ref (z.2.1 0), .int a0]) (n := 4) (Nat.le_of_ble_eq_true rfl)
  rw [lg_entry_eq]
  generalize (lg_sl ([.ref (z.2.1 0), .int a0]) ++ List.replicate (4 - (lg_sl ([.ref (z.2.1 0), .int a0])).length) Slot.unset).toArray = ls at hl ⊢
  have hl : lv_has ls 4 [(0, .ref (z.2.1 0)), (1, .int a0)] := hl
  have j_34 : ∀ (t0 : Int32) (t1 : Int32) (H : Heap) (locs : List Loc) (ls : Array Slot), va_P z.1 vwCl (wl 8 z.2.1 (ceM z σ)) H → va_S (aG 8 z) s.heap H locs → lv_has ls 4 [] → fX6_twelfths_34 σ t0 t1 = some r → W p l e (headSpec wsX6_twelfths ({ frames := 0, cells := 0, slots := 0, locals := 0 })).room s m ([.ref (z.2.1 0), .int a0] : List Value).toArray below meth c H locs 0 0 (MQ below (qcG 8 ceM z σ (some (.int r))) ([.ref (z.2.1 0), .int a0] : List Value).toArray s 0 0 (aG 8 z)) (F0 m 34 ls [.int t0, .int t1]) := by
    intro t0 t1 H locs ls hP hS hl hf
    rw [fX6_twelfths_34] at hf
    refine lv_iadd hx hb dX6_twelfths_34 ?_
    refine lv_istore_n (lv' := [(3, .int (t1 + t0))]) hx hb dX6_twelfths_35 rfl hl (by decide) rfl (fun ls hl => ?_)
    refine lv_iload_n hx hb dX6_twelfths_36 rfl (lv_at hl 0 rfl) ?_
    refine lv_if_ge (tgt := 44) hx hb dX6_twelfths_37 (by decide) (fun c_5 => ?_) (fun c_5 => ?_)
    · have hf := (if_pos c_5).symm.trans hf
      refine lv_iload_n hx hb dX6_twelfths_44 rfl (lv_at hl 0 rfl) ?_
      refine lv_bipush (v := (12 : Int32)) hx hb dX6_twelfths_45 (by decide) ?_
      refine lv_icmp_le (tgt := 55) hx hb dX6_twelfths_47 (by decide) (fun c_6 => ?_) (fun c_6 => ?_)
      · have hf := (if_pos c_6).symm.trans hf
        refine lv_iload_n hx hb dX6_twelfths_55 rfl (lv_at hl 0 rfl) ?_
        exact x_iret hx hb hr hlocks hP hS dX6_twelfths_56 (Option.some.inj hf) rfl
      · have hf := (if_neg c_6).symm.trans hf
        refine lv_bipush (v := (12 : Int32)) hx hb dX6_twelfths_50 (by decide) ?_
        refine lv_goto (tgt := 56) hx hb dX6_twelfths_52 (by decide) ?_
        exact x_iret hx hb hr hlocks hP hS dX6_twelfths_56 (Option.some.inj hf) rfl
    · have hf := (if_neg c_5).symm.trans hf
      refine lv_iconst (v := (0 : Int32)) hx hb dX6_twelfths_40 (by decide) ?_
      refine lv_goto (tgt := 56) hx hb dX6_twelfths_41 (by decide) ?_
      exact x_iret hx hb hr hlocks hP hS dX6_twelfths_56 (Option.some.inj hf) rfl
  refine lv_aload_n hx hb dX6_twelfths_0 rfl (lv_at hl 0 rfl) ?_
  refine va_get (D := z.1) (ci := 6) (v := .ref (z.2.1 2)) (C := RX6) (T := TX6) (N := 29) hx hb hts in_X6 hown hK hP 0 (wl_at (by decide) cX6) rfl 1 (by decide) (hts (.fieldLink RX6 13 "TillOneOfSortModel" "s" "[I") (by decide +kernel)) (fun _ h9 => h9) rfl dX6_twelfths_1 ?_
  refine lv_iconst (v := (2 : Int32)) hx hb dX6_twelfths_4 (by decide) ?_
  obtain ⟨c_1001, hf⟩ := x_ck hf
  refine va_iald hx hb hK hP 2 0 (wl_at (i22_lt (rfl : isI22 2 = true)) (cMI22 (rfl : isI22 2 = true))) rfl (ci_in c_1001) dX6_twelfths_5 ?_
  refine lv_iconst (v := (5 : Int32)) hx hb dX6_twelfths_6 (by decide) ?_
  refine lv_isub hx hb dX6_twelfths_7 ?_
  refine lv_istore_n (lv' := [(2, .int ((gI σ 2 (2 : Int32).toNatClampNeg) - (5 : Int32))), (0, .ref (z.2.1 0)), (1, .int a0)]) hx hb dX6_twelfths_8 rfl hl (by decide) rfl (fun ls hl => ?_)
  refine lv_aload_n hx hb dX6_twelfths_9 rfl (lv_at hl 1 rfl) ?_
  refine va_get (D := z.1) (ci := 6) (v := .ref (z.2.1 2)) (C := RX6) (T := TX6) (N := 29) hx hb hts in_X6 hown hK hP 0 (wl_at (by decide) cX6) rfl 1 (by decide) (hts (.fieldLink RX6 13 "TillOneOfSortModel" "s" "[I") (by decide +kernel)) (fun _ h9 => h9) rfl dX6_twelfths_10 ?_
  refine lv_iconst (v := (1 : Int32)) hx hb dX6_twelfths_13 (by decide) ?_
  obtain ⟨c_1002, hf⟩ := x_ck hf
  refine va_iald hx hb hK hP 2 0 (wl_at (i22_lt (rfl : isI22 2 = true)) (cMI22 (rfl : isI22 2 = true))) rfl (ci_in c_1002) dX6_twelfths_14 ?_
  refine lv_iload_n hx hb dX6_twelfths_15 rfl (lv_at hl 2 rfl) ?_
  refine lv_iconst (v := (1 : Int32)) hx hb dX6_twelfths_16 (by decide) ?_
  refine lv_icmp_ne (tgt := 24) hx hb dX6_twelfths_17 (by decide) (fun c_1003 => ?_) (fun c_1003 => ?_)
  · have hf := (if_neg c_1003).symm.trans hf
    refine lv_iload_n hx hb dX6_twelfths_24 rfl (lv_at hl 2 rfl) ?_
    refine lv_if_ne (tgt := 33) hx hb dX6_twelfths_25 (by decide) (fun c_1004 => ?_) (fun c_1004 => ?_)
    · have hf := (if_neg c_1004).symm.trans hf
      refine lv_iconst (v := (0 : Int32)) hx hb dX6_twelfths_33 (by decide) ?_
      exact j_34 (0 : Int32) (gI σ 2 (1 : Int32).toNatClampNeg) _ _ _ hP hS (lv_sub hl [] rfl) hf
    · have hf := (if_pos c_1004).symm.trans hf
      refine lv_iload_n hx hb dX6_twelfths_28 rfl (lv_at hl 0 rfl) ?_
      refine lv_ineg hx hb dX6_twelfths_29 ?_
      refine lv_goto (tgt := 34) hx hb dX6_twelfths_30 (by decide) ?_
      exact j_34 (-((gI σ 2 (2 : Int32).toNatClampNeg) - (5 : Int32))) (gI σ 2 (1 : Int32).toNatClampNeg) _ _ _ hP hS (lv_sub hl [] rfl) hf
  · have hf := (if_pos c_1003).symm.trans hf
    refine lv_iload_n hx hb dX6_twelfths_20 rfl (lv_at hl 0 rfl) ?_
    refine lv_goto (tgt := 34) hx hb dX6_twelfths_21 (by decide) ?_
    exact j_34 ((gI σ 2 (2 : Int32).toNatClampNeg) - (5 : Int32)) (gI σ 2 (1 : Int32).toNatClampNeg) _ _ _ hP hS (lv_sub hl [] rfl) hf
set_option maxHeartbeats 40000000 in
set_option maxRecDepth 100000 in
theorem kX6_law (l : Launch) (z : Cx) (hz : okC 8 z) {a0 : Int32} {a1 : Int32}  {σ σ' : Mm} {r : Int32} (hf : fX6_law a0 a1 σ = some (r, σ')) : KG 8 ceM l yX6_law wsX6_law (1) (22) [.ref (z.2.1 0), .int a0, .int a1] z σ σ' (some (.int r)) := by
  rw [fX6_law] at hf
  refine Met.ofW (cc := cX6_law) (maxL := 5) (ret := (some .int)) (by decide) rfl ?_
  intro p e s m args below meth c s₁ B hml hv
  obtain ⟨rfl, hP, hK, hE⟩ := hv
  have hx := B.exec
  have hb := B.bytes
  have hr := B.returns
  have hts := atoms_spec (ws := wsX6_law) B.pre
  have hown : s.vm.findClass RX6 = some m.cls := findClass_of_methodNamed B.named
  have hlocks := B.notSynchronized
  have in_X6 : ∀ w ∈ wsX60, w ∈ wsX6_law := by decide +kernel
  have hS : va_S (aG 8 z) s.heap s.heap [] := va_S.rf
  have hl := lv_entry ([.ref (z.2.1 0), .int a0, .int a1]) (n := 5) (Nat.le_of_ble_eq_true rfl)
  rw [lg_entry_eq]
  generalize (lg_sl ([.ref (z.2.1 0), .int a0, .int a1]) ++ List.replicate (5 - (lg_sl ([.ref (z.2.1 0), .int a0, .int a1])).length) Slot.unset).toArray = ls at hl ⊢
  have hl : lv_has ls 5 [(0, .ref (z.2.1 0)), (1, .int a0), (2, .int a1)] := hl
  have j_21 : ∀ (v1 : Int32) (v2 : Int32) (t0 : Int32) (σ : Mm) (H : Heap) (locs : List Loc) (ls : Array Slot), va_P z.1 vwCl (wl 8 z.2.1 (ceM z σ)) H → va_S (aG 8 z) s.heap H locs → lv_has ls 5 [(0, .ref (z.2.1 0)), (1, .int v1), (2, .int v2)] → fX6_law_21 v1 v2 t0 σ = some (r, σ') → W p l e (headSpec wsX6_law ({ frames := 1, cells := 0, slots := 0, locals := 22 })).room s m ([.ref (z.2.1 0), .int a0, .int a1] : List Value).toArray below meth c H locs 0 0 (MQ below (qcG 8 ceM z σ' (some (.int r))) ([.ref (z.2.1 0), .int a0, .int a1] : List Value).toArray s 0 0 (aG 8 z)) (F0 m 21 ls [.int t0]) := by
    intro v1 v2 t0 σ H locs ls hP hS hl hf
    rw [fX6_law_21] at hf
    refine lv_istore_n (lv' := [(3, .int t0), (0, .ref (z.2.1 0)), (1, .int v1), (2, .int v2)]) hx hb dX6_law_21 rfl hl (by decide) rfl (fun ls hl => ?_)
    refine lv_iload_n hx hb dX6_law_22 rfl (lv_at hl 0 rfl) ?_
    refine lv_if_eq (tgt := 32) hx hb dX6_law_23 (by decide) (fun c_4 => ?_) (fun c_4 => ?_)
    · have hf := (if_pos c_4).symm.trans hf
      refine lv_bipush (v := (10 : Int32)) hx hb dX6_law_32 (by decide) ?_
      refine lv_aload_n hx hb dX6_law_34 rfl (lv_at hl 1 rfl) ?_
      refine va_get (D := z.1) (ci := 6) (v := .ref (z.2.1 2)) (C := RX6) (T := TX6) (N := 29) hx hb hts in_X6 hown hK hP 0 (wl_at (by decide) cX6) rfl 1 (by decide) (hts (.fieldLink RX6 13 "TillOneOfSortModel" "s" "[I") (by decide +kernel)) (fun _ h9 => h9) rfl dX6_law_35 ?_
      refine lv_iconst (v := (3 : Int32)) hx hb dX6_law_38 (by decide) ?_
      obtain ⟨c_5, hf⟩ := x_ck hf
      refine va_iald hx hb hK hP 2 0 (wl_at (i22_lt (rfl : isI22 2 = true)) (cMI22 (rfl : isI22 2 = true))) rfl (ci_in c_5) dX6_law_39 ?_
      refine lv_imul hx hb dX6_law_40 ?_
      refine lv_aload_n hx hb dX6_law_41 rfl (lv_at hl 1 rfl) ?_
      refine va_get (D := z.1) (ci := 6) (v := .ref (z.2.1 2)) (C := RX6) (T := TX6) (N := 29) hx hb hts in_X6 hown hK hP 0 (wl_at (by decide) cX6) rfl 1 (by decide) (hts (.fieldLink RX6 13 "TillOneOfSortModel" "s" "[I") (by decide +kernel)) (fun _ h9 => h9) rfl dX6_law_42 ?_
      refine lv_iconst (v := (4 : Int32)) hx hb dX6_law_45 (by decide) ?_
      obtain ⟨c_6, hf⟩ := x_ck hf
      refine va_iald hx hb hK hP 2 0 (wl_at (i22_lt (rfl : isI22 2 = true)) (cMI22 (rfl : isI22 2 = true))) rfl (ci_in c_6) dX6_law_46 ?_
      refine lv_iadd hx hb dX6_law_47 ?_
      refine lv_istore (lv' := [(4, .int (((10 : Int32) * (gI σ 2 (3 : Int32).toNatClampNeg)) + (gI σ 2 (4 : Int32).toNatClampNeg))), (3, .int t0), (0, .ref (z.2.1 0)), (1, .int v1), (2, .int v2)]) hx hb dX6_law_48 hl (by decide) rfl (fun ls hl => ?_)
      refine lv_aload_n hx hb dX6_law_50 rfl (lv_at hl 2 rfl) ?_
      refine va_get (D := z.1) (ci := 6) (v := .ref (z.2.1 2)) (C := RX6) (T := TX6) (N := 29) hx hb hts in_X6 hown hK hP 0 (wl_at (by decide) cX6) rfl 1 (by decide) (hts (.fieldLink RX6 13 "TillOneOfSortModel" "s" "[I") (by decide +kernel)) (fun _ h9 => h9) rfl dX6_law_51 ?_
      refine lv_iconst (v := (3 : Int32)) hx hb dX6_law_54 (by decide) ?_
      refine lv_iload_n hx hb dX6_law_55 rfl (lv_at hl 3 rfl) ?_
      obtain ⟨c_7, hf⟩ := x_ck hf
      refine va_iast hx hb hK hP (wl_D hz _) hS 2 0 (wl_at (i22_lt (rfl : isI22 2 = true)) (cMI22 (rfl : isI22 2 = true))) rfl (ci_in c_7) dX6_law_56 (fun H locs hP _ hS => ?_)
      rw [(sMI22 (rfl : isI22 2 = true))] at hP
      refine lv_aload_n hx hb dX6_law_57 rfl (lv_at hl 2 rfl) ?_
      refine va_get (D := z.1) (ci := 6) (v := .ref (z.2.1 2)) (C := RX6) (T := TX6) (N := 29) hx hb hts in_X6 hown hK hP 0 (wl_at (by decide) cX6) rfl 1 (by decide) (hts (.fieldLink RX6 13 "TillOneOfSortModel" "s" "[I") (by decide +kernel)) (fun _ h9 => h9) rfl dX6_law_58 ?_
      refine lv_iconst (v := (4 : Int32)) hx hb dX6_law_61 (by decide) ?_
      refine lv_iload_n hx hb dX6_law_62 rfl (lv_at hl 4 rfl) ?_
      obtain ⟨c_8, hf⟩ := x_ck hf
      refine va_iast hx hb hK hP (wl_D hz _) hS 2 0 (wl_at (i22_lt (rfl : isI22 2 = true)) (cMI22 (rfl : isI22 2 = true))) rfl (ci_in c_8) dX6_law_63 (fun H locs hP _ hS => ?_)
      rw [(sMI22 (rfl : isI22 2 = true))] at hP
      refine lv_iload hx hb dX6_law_64 (lv_at hl 0 rfl) ?_
      exact x_iret hx hb hr hlocks hP hS dX6_law_66 (Prod.mk.inj (Option.some.inj hf)).1 (Prod.mk.inj (Option.some.inj hf)).2
    · have hf := (if_neg c_4).symm.trans hf
      refine lv_aload_n hx hb dX6_law_26 rfl (lv_at hl 1 rfl) ?_
      refine lv_iload_n hx hb dX6_law_27 rfl (lv_at hl 0 rfl) ?_
      obtain ⟨q_9, hq_9, hf⟩ := x_bd hf
      refine x_callGi (va_runV (As := [.int t0]) (rest := []) ⟨hx, hb, hml, hown, hts⟩ (kX6_refuse l z hz hq_9) (cwV 1 hts gX6_law_X6_refuse rfl rfl rfl (by decide +kernel) ⟨Nat.le_of_ble_eq_true rfl, Nat.le_of_ble_eq_true rfl⟩) (pvG hK hP hE hS (va_recv hK hP (ci := 6) (q0 := 0) rfl (wl_at (by decide) cX6))) rfl rfl hl.1 rfl (lv_room (Nat.le_of_ble_eq_true rfl)) dX6_law_28 ⟨Nat.zero_le _, Nat.zero_le _⟩) hS (fun H locs hP hS => ?_)
      exact x_iret hx hb hr hlocks hP hS dX6_law_31 (Prod.mk.inj (Option.some.inj hf)).1 (Prod.mk.inj (Option.some.inj hf)).2
  refine lv_iload_n hx hb dX6_law_0 rfl (lv_at hl 1 rfl) ?_
  refine lv_bipush (v := (6 : Int32)) hx hb dX6_law_1 (by decide) ?_
  obtain ⟨q_1001, hq_1001, hf⟩ := x_bd hf
  refine x_callSi (va_runS (As := [.int a0, .int (6 : Int32)]) (rest := []) ⟨hx, hb, hml, hown, hts⟩ (kX6_isIn l hq_1001) (va_cwS 2 hts gX6_law_X6_isIn rfl rfl rfl (by decide +kernel) ⟨Nat.le_of_ble_eq_true rfl, Nat.le_of_ble_eq_true rfl⟩) psS rfl rfl hl.1 rfl (lv_room (Nat.le_of_ble_eq_true rfl)) dX6_law_3 ⟨Nat.zero_le _, Nat.zero_le _⟩) ?_
  refine lv_if_ne (tgt := 14) hx hb dX6_law_6 (by decide) (fun c_1002 => ?_) (fun c_1002 => ?_)
  · have hf := (if_neg c_1002).symm.trans hf
    refine lv_iload_n hx hb dX6_law_14 rfl (lv_at hl 2 rfl) ?_
    refine lv_iconst (v := (1 : Int32)) hx hb dX6_law_15 (by decide) ?_
    refine lv_bipush (v := (9 : Int32)) hx hb dX6_law_16 (by decide) ?_
    obtain ⟨q_1003, hq_1003, hf⟩ := x_bd hf
    refine x_callSi (va_runS (As := [.int a1, .int (1 : Int32), .int (9 : Int32)]) (rest := []) ⟨hx, hb, hml, hown, hts⟩ (kX6_within l hq_1003) (va_cwS 3 hts gX6_law_X6_within rfl rfl rfl (by decide +kernel) ⟨Nat.le_of_ble_eq_true rfl, Nat.le_of_ble_eq_true rfl⟩) psS rfl rfl hl.1 rfl (lv_room (Nat.le_of_ble_eq_true rfl)) dX6_law_18 ⟨Nat.zero_le _, Nat.zero_le _⟩) ?_
    exact j_21 a0 a1 q_1003 σ _ _ _ hP hS (lv_sub hl [0, 1, 2] rfl) hf
  · have hf := (if_pos c_1002).symm.trans hf
    refine lv_bipush (v := (-2 : Int32)) hx hb dX6_law_9 (by decide) ?_
    refine lv_goto (tgt := 21) hx hb dX6_law_11 (by decide) ?_
    exact j_21 a0 a1 (-2 : Int32) σ _ _ _ hP hS (lv_sub hl [0, 1, 2] rfl) hf
set_option maxHeartbeats 40000000 in
set_option maxRecDepth 100000 in
theorem kX6_set (l : Launch) (z : Cx) (hz : okC 8 z) {a0 : Int32} {a1 : Int32}  {σ σ' : Mm} {r : Int32} (hf : fX6_set a0 a1 σ = some (r, σ')) : KG 8 ceM l yX6_set wsX6_set (1) (22) [.ref (z.2.1 0), .int a0, .int a1] z σ σ' (some (.int r)) := by
  rw [fX6_set] at hf
  refine Met.ofW (cc := cX6_set) (maxL := 5) (ret := (some .int)) (by decide) rfl ?_
  intro p e s m args below meth c s₁ B hml hv
  obtain ⟨rfl, hP, hK, hE⟩ := hv
  have hx := B.exec
  have hb := B.bytes
  have hr := B.returns
  have hts := atoms_spec (ws := wsX6_set) B.pre
  have hown : s.vm.findClass RX6 = some m.cls := findClass_of_methodNamed B.named
  have hlocks := B.notSynchronized
  have in_X6 : ∀ w ∈ wsX60, w ∈ wsX6_set := by decide +kernel
  have hS : va_S (aG 8 z) s.heap s.heap [] := va_S.rf
  have hl := lv_entry ([.ref (z.2.1 0), .int a0, .int a1]) (n := 5) (Nat.le_of_ble_eq_true rfl)
  rw [lg_entry_eq]
  generalize (lg_sl ([.ref (z.2.1 0), .int a0, .int a1]) ++ List.replicate (5 - (lg_sl ([.ref (z.2.1 0), .int a0, .int a1])).length) Slot.unset).toArray = ls at hl ⊢
  have hl : lv_has ls 5 [(0, .ref (z.2.1 0)), (1, .int a0), (2, .int a1)] := hl
  have j_39 : ∀ (v1 : Int32) (v2 : Int32) (t0 : Int32) (σ : Mm) (H : Heap) (locs : List Loc) (ls : Array Slot), va_P z.1 vwCl (wl 8 z.2.1 (ceM z σ)) H → va_S (aG 8 z) s.heap H locs → lv_has ls 5 [(0, .ref (z.2.1 0)), (1, .int v1), (2, .int v2)] → fX6_set_39 v1 v2 t0 σ = some (r, σ') → W p l e (headSpec wsX6_set ({ frames := 1, cells := 0, slots := 0, locals := 22 })).room s m ([.ref (z.2.1 0), .int a0, .int a1] : List Value).toArray below meth c H locs 0 0 (MQ below (qcG 8 ceM z σ' (some (.int r))) ([.ref (z.2.1 0), .int a0, .int a1] : List Value).toArray s 0 0 (aG 8 z)) (F0 m 39 ls [.int t0]) := by
    intro v1 v2 t0 σ H locs ls hP hS hl hf
    rw [fX6_set_39] at hf
    refine lv_istore_n (lv' := [(3, .int t0), (0, .ref (z.2.1 0)), (1, .int v1), (2, .int v2)]) hx hb dX6_set_39 rfl hl (by decide) rfl (fun ls hl => ?_)
    refine lv_iload_n hx hb dX6_set_40 rfl (lv_at hl 0 rfl) ?_
    refine lv_if_eq (tgt := 50) hx hb dX6_set_41 (by decide) (fun c_4 => ?_) (fun c_4 => ?_)
    · have hf := (if_pos c_4).symm.trans hf
      refine lv_aload_n hx hb dX6_set_50 rfl (lv_at hl 1 rfl) ?_
      refine va_get (D := z.1) (ci := 6) (v := .ref (z.2.1 2)) (C := RX6) (T := TX6) (N := 29) hx hb hts in_X6 hown hK hP 0 (wl_at (by decide) cX6) rfl 1 (by decide) (hts (.fieldLink RX6 13 "TillOneOfSortModel" "s" "[I") (by decide +kernel)) (fun _ h9 => h9) rfl dX6_set_51 ?_
      refine lv_iload_n hx hb dX6_set_54 rfl (lv_at hl 2 rfl) ?_
      obtain ⟨c_5, hf⟩ := x_ck hf
      refine va_iald hx hb hK hP 2 0 (wl_at (i22_lt (rfl : isI22 2 = true)) (cMI22 (rfl : isI22 2 = true))) rfl (ci_in c_5) dX6_set_55 ?_
      refine lv_istore (lv' := [(4, .int (gI σ 2 v1.toNatClampNeg)), (3, .int t0), (0, .ref (z.2.1 0)), (1, .int v1), (2, .int v2)]) hx hb dX6_set_56 hl (by decide) rfl (fun ls hl => ?_)
      refine lv_aload_n hx hb dX6_set_58 rfl (lv_at hl 2 rfl) ?_
      refine va_get (D := z.1) (ci := 6) (v := .ref (z.2.1 2)) (C := RX6) (T := TX6) (N := 29) hx hb hts in_X6 hown hK hP 0 (wl_at (by decide) cX6) rfl 1 (by decide) (hts (.fieldLink RX6 13 "TillOneOfSortModel" "s" "[I") (by decide +kernel)) (fun _ h9 => h9) rfl dX6_set_59 ?_
      refine lv_iload_n hx hb dX6_set_62 rfl (lv_at hl 3 rfl) ?_
      refine lv_iload_n hx hb dX6_set_63 rfl (lv_at hl 4 rfl) ?_
      obtain ⟨c_6, hf⟩ := x_ck hf
      refine va_iast hx hb hK hP (wl_D hz _) hS 2 0 (wl_at (i22_lt (rfl : isI22 2 = true)) (cMI22 (rfl : isI22 2 = true))) rfl (ci_in c_6) dX6_set_64 (fun H locs hP _ hS => ?_)
      rw [(sMI22 (rfl : isI22 2 = true))] at hP
      refine lv_iload hx hb dX6_set_65 (lv_at hl 0 rfl) ?_
      exact x_iret hx hb hr hlocks hP hS dX6_set_67 (Prod.mk.inj (Option.some.inj hf)).1 (Prod.mk.inj (Option.some.inj hf)).2
    · have hf := (if_neg c_4).symm.trans hf
      refine lv_aload_n hx hb dX6_set_44 rfl (lv_at hl 1 rfl) ?_
      refine lv_iload_n hx hb dX6_set_45 rfl (lv_at hl 0 rfl) ?_
      obtain ⟨q_7, hq_7, hf⟩ := x_bd hf
      refine x_callGi (va_runV (As := [.int t0]) (rest := []) ⟨hx, hb, hml, hown, hts⟩ (kX6_refuse l z hz hq_7) (cwV 1 hts gX6_set_X6_refuse rfl rfl rfl (by decide +kernel) ⟨Nat.le_of_ble_eq_true rfl, Nat.le_of_ble_eq_true rfl⟩) (pvG hK hP hE hS (va_recv hK hP (ci := 6) (q0 := 0) rfl (wl_at (by decide) cX6))) rfl rfl hl.1 rfl (lv_room (Nat.le_of_ble_eq_true rfl)) dX6_set_46 ⟨Nat.zero_le _, Nat.zero_le _⟩) hS (fun H locs hP hS => ?_)
      exact x_iret hx hb hr hlocks hP hS dX6_set_49 (Prod.mk.inj (Option.some.inj hf)).1 (Prod.mk.inj (Option.some.inj hf)).2
  have j_36 : ∀ (v1 : Int32) (v2 : Int32) (t0 : Int32) (t1 : Int32) (t2 : Int32) (σ : Mm) (H : Heap) (locs : List Loc) (ls : Array Slot), va_P z.1 vwCl (wl 8 z.2.1 (ceM z σ)) H → va_S (aG 8 z) s.heap H locs → lv_has ls 5 [(0, .ref (z.2.1 0)), (1, .int v1), (2, .int v2)] → fX6_set_36 v1 v2 t0 t1 t2 σ = some (r, σ') → W p l e (headSpec wsX6_set ({ frames := 1, cells := 0, slots := 0, locals := 22 })).room s m ([.ref (z.2.1 0), .int a0, .int a1] : List Value).toArray below meth c H locs 0 0 (MQ below (qcG 8 ceM z σ' (some (.int r))) ([.ref (z.2.1 0), .int a0, .int a1] : List Value).toArray s 0 0 (aG 8 z)) (F0 m 36 ls [.int t0, .int t1, .int t2]) := by
    intro v1 v2 t0 t1 t2 σ H locs ls hP hS hl hf
    rw [fX6_set_36] at hf
    obtain ⟨q_8, hq_8, hf⟩ := x_bd hf
    refine x_callSi (va_runS (As := [.int t2, .int t1, .int t0]) (rest := []) ⟨hx, hb, hml, hown, hts⟩ (kX6_within l hq_8) (va_cwS 3 hts gX6_set_X6_within rfl rfl rfl (by decide +kernel) ⟨Nat.le_of_ble_eq_true rfl, Nat.le_of_ble_eq_true rfl⟩) psS rfl rfl hl.1 rfl (lv_room (Nat.le_of_ble_eq_true rfl)) dX6_set_36 ⟨Nat.zero_le _, Nat.zero_le _⟩) ?_
    exact j_39 v1 v2 q_8 σ _ _ _ hP hS (lv_sub hl [0, 1, 2] rfl) hf
  have j_24 : ∀ (v1 : Int32) (v2 : Int32) (t0 : Int32) (t1 : Int32) (σ : Mm) (H : Heap) (locs : List Loc) (ls : Array Slot), va_P z.1 vwCl (wl 8 z.2.1 (ceM z σ)) H → va_S (aG 8 z) s.heap H locs → lv_has ls 5 [(0, .ref (z.2.1 0)), (1, .int v1), (2, .int v2)] → fX6_set_24 v1 v2 t0 t1 σ = some (r, σ') → W p l e (headSpec wsX6_set ({ frames := 1, cells := 0, slots := 0, locals := 22 })).room s m ([.ref (z.2.1 0), .int a0, .int a1] : List Value).toArray below meth c H locs 0 0 (MQ below (qcG 8 ceM z σ' (some (.int r))) ([.ref (z.2.1 0), .int a0, .int a1] : List Value).toArray s 0 0 (aG 8 z)) (F0 m 24 ls [.int t0, .int t1]) := by
    intro v1 v2 t0 t1 σ H locs ls hP hS hl hf
    rw [fX6_set_24] at hf
    refine lv_iload_n hx hb dX6_set_24 rfl (lv_at hl 1 rfl) ?_
    refine lv_iconst (v := (1 : Int32)) hx hb dX6_set_25 (by decide) ?_
    refine lv_icmp_ne (tgt := 34) hx hb dX6_set_26 (by decide) (fun c_9 => ?_) (fun c_9 => ?_)
    · have hf := (if_neg c_9).symm.trans hf
      refine lv_bipush (v := (10 : Int32)) hx hb dX6_set_34 (by decide) ?_
      exact j_36 v1 v2 (10 : Int32) t0 t1 σ _ _ _ hP hS (lv_sub hl [0, 1, 2] rfl) hf
    · have hf := (if_pos c_9).symm.trans hf
      refine lv_bipush (v := (11 : Int32)) hx hb dX6_set_29 (by decide) ?_
      refine lv_goto (tgt := 36) hx hb dX6_set_31 (by decide) ?_
      exact j_36 v1 v2 (11 : Int32) t0 t1 σ _ _ _ hP hS (lv_sub hl [0, 1, 2] rfl) hf
  refine lv_iload_n hx hb dX6_set_0 rfl (lv_at hl 1 rfl) ?_
  refine lv_iconst (v := (3 : Int32)) hx hb dX6_set_1 (by decide) ?_
  obtain ⟨q_1001, hq_1001, hf⟩ := x_bd hf
  refine x_callSi (va_runS (As := [.int a0, .int (3 : Int32)]) (rest := []) ⟨hx, hb, hml, hown, hts⟩ (kX6_isIn l hq_1001) (va_cwS 2 hts gX6_set_X6_isIn rfl rfl rfl (by decide +kernel) ⟨Nat.le_of_ble_eq_true rfl, Nat.le_of_ble_eq_true rfl⟩) psS rfl rfl hl.1 rfl (lv_room (Nat.le_of_ble_eq_true rfl)) dX6_set_2 ⟨Nat.zero_le _, Nat.zero_le _⟩) ?_
  refine lv_if_ne (tgt := 13) hx hb dX6_set_5 (by decide) (fun c_1002 => ?_) (fun c_1002 => ?_)
  · have hf := (if_neg c_1002).symm.trans hf
    refine lv_iload_n hx hb dX6_set_13 rfl (lv_at hl 2 rfl) ?_
    refine lv_iload_n hx hb dX6_set_14 rfl (lv_at hl 1 rfl) ?_
    refine lv_iconst (v := (2 : Int32)) hx hb dX6_set_15 (by decide) ?_
    refine lv_icmp_ne (tgt := 23) hx hb dX6_set_16 (by decide) (fun c_1003 => ?_) (fun c_1003 => ?_)
    · have hf := (if_neg c_1003).symm.trans hf
      refine lv_iconst (v := (1 : Int32)) hx hb dX6_set_23 (by decide) ?_
      exact j_24 a0 a1 (1 : Int32) a1 σ _ _ _ hP hS (lv_sub hl [0, 1, 2] rfl) hf
    · have hf := (if_pos c_1003).symm.trans hf
      refine lv_iconst (v := (0 : Int32)) hx hb dX6_set_19 (by decide) ?_
      refine lv_goto (tgt := 24) hx hb dX6_set_20 (by decide) ?_
      exact j_24 a0 a1 (0 : Int32) a1 σ _ _ _ hP hS (lv_sub hl [0, 1, 2] rfl) hf
  · have hf := (if_pos c_1002).symm.trans hf
    refine lv_bipush (v := (-2 : Int32)) hx hb dX6_set_8 (by decide) ?_
    refine lv_goto (tgt := 39) hx hb dX6_set_10 (by decide) ?_
    exact j_39 a0 a1 (-2 : Int32) σ _ _ _ hP hS (lv_sub hl [0, 1, 2] rfl) hf
set_option maxHeartbeats 40000000 in
set_option maxRecDepth 100000 in
theorem kX6_stops (l : Launch) (z : Cx) (hz : okC 8 z) {a0 : Int32} {a1 : Int32} {a2 : Int32}  {σ σ' : Mm} {r : Int32} (hf : fX6_stops a0 a1 a2 σ = some (r, σ')) : KG 8 ceM l yX6_stops wsX6_stops (1) (24) [.ref (z.2.1 0), .int a0, .int a1, .int a2] z σ σ' (some (.int r)) := by
  rw [fX6_stops] at hf
  refine Met.ofW (cc := cX6_stops) (maxL := 5) (ret := (some .int)) (by decide) rfl ?_
  intro p e s m args below meth c s₁ B hml hv
  obtain ⟨rfl, hP, hK, hE⟩ := hv
  have hx := B.exec
  have hb := B.bytes
  have hr := B.returns
  have hts := atoms_spec (ws := wsX6_stops) B.pre
  have hown : s.vm.findClass RX6 = some m.cls := findClass_of_methodNamed B.named
  have hlocks := B.notSynchronized
  have in_X6 : ∀ w ∈ wsX60, w ∈ wsX6_stops := by decide +kernel
  have hS : va_S (aG 8 z) s.heap s.heap [] := va_S.rf
  have hl := lv_entry ([.ref (z.2.1 0), .int a0, .int a1, .int a2]) (n := 5) (Nat.le_of_ble_eq_true rfl)
  rw [lg_entry_eq]
  generalize (lg_sl ([.ref (z.2.1 0), .int a0, .int a1, .int a2]) ++ List.replicate (5 - (lg_sl ([.ref (z.2.1 0), .int a0, .int a1, .int a2])).length) Slot.unset).toArray = ls at hl ⊢
  have hl : lv_has ls 5 [(0, .ref (z.2.1 0)), (1, .int a0), (2, .int a1), (3, .int a2)] := hl
  have j_63 : ∀ (v1 : Int32) (v2 : Int32) (v3 : Int32) (t0 : Int32) (σ : Mm) (H : Heap) (locs : List Loc) (ls : Array Slot), va_P z.1 vwCl (wl 8 z.2.1 (ceM z σ)) H → va_S (aG 8 z) s.heap H locs → lv_has ls 5 [(0, .ref (z.2.1 0)), (1, .int v1), (2, .int v2), (3, .int v3)] → fX6_stops_63 v1 v2 v3 t0 σ = some (r, σ') → W p l e (headSpec wsX6_stops ({ frames := 1, cells := 0, slots := 0, locals := 24 })).room s m ([.ref (z.2.1 0), .int a0, .int a1, .int a2] : List Value).toArray below meth c H locs 0 0 (MQ below (qcG 8 ceM z σ' (some (.int r))) ([.ref (z.2.1 0), .int a0, .int a1, .int a2] : List Value).toArray s 0 0 (aG 8 z)) (F0 m 63 ls [.int t0]) := by
    intro v1 v2 v3 t0 σ H locs ls hP hS hl hf
    rw [fX6_stops_63] at hf
    refine lv_istore (lv' := [(4, .int t0), (0, .ref (z.2.1 0)), (1, .int v1), (2, .int v2), (3, .int v3)]) hx hb dX6_stops_63 hl (by decide) rfl (fun ls hl => ?_)
    refine lv_iload hx hb dX6_stops_65 (lv_at hl 0 rfl) ?_
    refine lv_if_eq (tgt := 77) hx hb dX6_stops_67 (by decide) (fun c_11 => ?_) (fun c_11 => ?_)
    · have hf := (if_pos c_11).symm.trans hf
      refine lv_aload_n hx hb dX6_stops_77 rfl (lv_at hl 1 rfl) ?_
      refine va_get (D := z.1) (ci := 6) (v := .ref (z.2.1 2)) (C := RX6) (T := TX6) (N := 29) hx hb hts in_X6 hown hK hP 0 (wl_at (by decide) cX6) rfl 1 (by decide) (hts (.fieldLink RX6 13 "TillOneOfSortModel" "s" "[I") (by decide +kernel)) (fun _ h9 => h9) rfl dX6_stops_78 ?_
      refine lv_iconst (v := (3 : Int32)) hx hb dX6_stops_81 (by decide) ?_
      obtain ⟨c_12, hf⟩ := x_ck hf
      refine va_iald hx hb hK hP 2 0 (wl_at (i22_lt (rfl : isI22 2 = true)) (cMI22 (rfl : isI22 2 = true))) rfl (ci_in c_12) dX6_stops_82 ?_
      refine lv_aload_n hx hb dX6_stops_83 rfl (lv_at hl 1 rfl) ?_
      refine va_get (D := z.1) (ci := 6) (v := .ref (z.2.1 2)) (C := RX6) (T := TX6) (N := 29) hx hb hts in_X6 hown hK hP 0 (wl_at (by decide) cX6) rfl 1 (by decide) (hts (.fieldLink RX6 13 "TillOneOfSortModel" "s" "[I") (by decide +kernel)) (fun _ h9 => h9) rfl dX6_stops_84 ?_
      refine lv_iconst (v := (4 : Int32)) hx hb dX6_stops_87 (by decide) ?_
      obtain ⟨c_13, hf⟩ := x_ck hf
      refine va_iald hx hb hK hP 2 0 (wl_at (i22_lt (rfl : isI22 2 = true)) (cMI22 (rfl : isI22 2 = true))) rfl (ci_in c_13) dX6_stops_88 ?_
      refine lv_iload_n hx hb dX6_stops_89 rfl (lv_at hl 2 rfl) ?_
      refine lv_iload_n hx hb dX6_stops_90 rfl (lv_at hl 3 rfl) ?_
      refine lv_iload_n hx hb dX6_stops_91 rfl (lv_at hl 4 rfl) ?_
      obtain ⟨q_14, hq_14, hf⟩ := x_bd hf
      refine x_callSi (va_runS (As := [.int (gI σ 2 (3 : Int32).toNatClampNeg), .int (gI σ 2 (4 : Int32).toNatClampNeg), .int v1, .int v2, .int v3]) (rest := []) ⟨hx, hb, hml, hown, hts⟩ (kX6_stopsBy l hq_14) (va_cwS 5 hts gX6_stops_X6_stopsBy rfl rfl rfl (by decide +kernel) ⟨Nat.le_of_ble_eq_true rfl, Nat.le_of_ble_eq_true rfl⟩) psS rfl rfl hl.1 rfl (lv_room (Nat.le_of_ble_eq_true rfl)) dX6_stops_92 ⟨Nat.zero_le _, Nat.zero_le _⟩) ?_
      refine lv_if_eq (tgt := 102) hx hb dX6_stops_95 (by decide) (fun c_15 => ?_) (fun c_15 => ?_)
      · have hf := (if_pos c_15).symm.trans hf
        refine lv_iconst (v := (0 : Int32)) hx hb dX6_stops_102 (by decide) ?_
        exact x_iret hx hb hr hlocks hP hS dX6_stops_103 (Prod.mk.inj (Option.some.inj hf)).1 (Prod.mk.inj (Option.some.inj hf)).2
      · have hf := (if_neg c_15).symm.trans hf
        refine lv_iconst (v := (1 : Int32)) hx hb dX6_stops_98 (by decide) ?_
        refine lv_goto (tgt := 103) hx hb dX6_stops_99 (by decide) ?_
        exact x_iret hx hb hr hlocks hP hS dX6_stops_103 (Prod.mk.inj (Option.some.inj hf)).1 (Prod.mk.inj (Option.some.inj hf)).2
    · have hf := (if_neg c_11).symm.trans hf
      refine lv_aload_n hx hb dX6_stops_70 rfl (lv_at hl 1 rfl) ?_
      refine lv_iload hx hb dX6_stops_71 (lv_at hl 0 rfl) ?_
      obtain ⟨q_16, hq_16, hf⟩ := x_bd hf
      refine x_callGi (va_runV (As := [.int t0]) (rest := []) ⟨hx, hb, hml, hown, hts⟩ (kX6_refuse l z hz hq_16) (cwV 1 hts gX6_stops_X6_refuse rfl rfl rfl (by decide +kernel) ⟨Nat.le_of_ble_eq_true rfl, Nat.le_of_ble_eq_true rfl⟩) (pvG hK hP hE hS (va_recv hK hP (ci := 6) (q0 := 0) rfl (wl_at (by decide) cX6))) rfl rfl hl.1 rfl (lv_room (Nat.le_of_ble_eq_true rfl)) dX6_stops_73 ⟨Nat.zero_le _, Nat.zero_le _⟩) hS (fun H locs hP hS => ?_)
      exact x_iret hx hb hr hlocks hP hS dX6_stops_76 (Prod.mk.inj (Option.some.inj hf)).1 (Prod.mk.inj (Option.some.inj hf)).2
  have j_12 : ∀ (v1 : Int32) (v2 : Int32) (v3 : Int32) (σ : Mm) (H : Heap) (locs : List Loc) (ls : Array Slot), va_P z.1 vwCl (wl 8 z.2.1 (ceM z σ)) H → va_S (aG 8 z) s.heap H locs → lv_has ls 5 [(0, .ref (z.2.1 0)), (1, .int v1), (2, .int v2), (3, .int v3)] → fX6_stops_12 v1 v2 v3 σ = some (r, σ') → W p l e (headSpec wsX6_stops ({ frames := 1, cells := 0, slots := 0, locals := 24 })).room s m ([.ref (z.2.1 0), .int a0, .int a1, .int a2] : List Value).toArray below meth c H locs 0 0 (MQ below (qcG 8 ceM z σ' (some (.int r))) ([.ref (z.2.1 0), .int a0, .int a1, .int a2] : List Value).toArray s 0 0 (aG 8 z)) (F0 m 12 ls []) := by
    intro v1 v2 v3 σ H locs ls hP hS hl hf
    rw [fX6_stops_12] at hf
    refine lv_bipush (v := (-4 : Int32)) hx hb dX6_stops_12 (by decide) ?_
    refine lv_goto (tgt := 63) hx hb dX6_stops_14 (by decide) ?_
    exact j_63 v1 v2 v3 (-4 : Int32) σ _ _ _ hP hS (lv_sub hl [0, 1, 2, 3] rfl) hf
  have j_35 : ∀ (v1 : Int32) (v2 : Int32) (v3 : Int32) (σ : Mm) (H : Heap) (locs : List Loc) (ls : Array Slot), va_P z.1 vwCl (wl 8 z.2.1 (ceM z σ)) H → va_S (aG 8 z) s.heap H locs → lv_has ls 5 [(0, .ref (z.2.1 0)), (1, .int v1), (2, .int v2), (3, .int v3)] → fX6_stops_35 v1 v2 v3 σ = some (r, σ') → W p l e (headSpec wsX6_stops ({ frames := 1, cells := 0, slots := 0, locals := 24 })).room s m ([.ref (z.2.1 0), .int a0, .int a1, .int a2] : List Value).toArray below meth c H locs 0 0 (MQ below (qcG 8 ceM z σ' (some (.int r))) ([.ref (z.2.1 0), .int a0, .int a1, .int a2] : List Value).toArray s 0 0 (aG 8 z)) (F0 m 35 ls []) := by
    intro v1 v2 v3 σ H locs ls hP hS hl hf
    rw [fX6_stops_35] at hf
    refine lv_bipush (v := (-6 : Int32)) hx hb dX6_stops_35 (by decide) ?_
    refine lv_goto (tgt := 63) hx hb dX6_stops_37 (by decide) ?_
    exact j_63 v1 v2 v3 (-6 : Int32) σ _ _ _ hP hS (lv_sub hl [0, 1, 2, 3] rfl) hf
  have j_57 : ∀ (v1 : Int32) (v2 : Int32) (v3 : Int32) (σ : Mm) (H : Heap) (locs : List Loc) (ls : Array Slot), va_P z.1 vwCl (wl 8 z.2.1 (ceM z σ)) H → va_S (aG 8 z) s.heap H locs → lv_has ls 5 [(0, .ref (z.2.1 0)), (1, .int v1), (2, .int v2), (3, .int v3)] → fX6_stops_57 v1 v2 v3 σ = some (r, σ') → W p l e (headSpec wsX6_stops ({ frames := 1, cells := 0, slots := 0, locals := 24 })).room s m ([.ref (z.2.1 0), .int a0, .int a1, .int a2] : List Value).toArray below meth c H locs 0 0 (MQ below (qcG 8 ceM z σ' (some (.int r))) ([.ref (z.2.1 0), .int a0, .int a1, .int a2] : List Value).toArray s 0 0 (aG 8 z)) (F0 m 57 ls []) := by
    intro v1 v2 v3 σ H locs ls hP hS hl hf
    rw [fX6_stops_57] at hf
    refine lv_bipush (v := (-3 : Int32)) hx hb dX6_stops_57 (by decide) ?_
    refine lv_goto (tgt := 63) hx hb dX6_stops_59 (by decide) ?_
    exact j_63 v1 v2 v3 (-3 : Int32) σ _ _ _ hP hS (lv_sub hl [0, 1, 2, 3] rfl) hf
  have j_62 : ∀ (v1 : Int32) (v2 : Int32) (v3 : Int32) (σ : Mm) (H : Heap) (locs : List Loc) (ls : Array Slot), va_P z.1 vwCl (wl 8 z.2.1 (ceM z σ)) H → va_S (aG 8 z) s.heap H locs → lv_has ls 5 [(0, .ref (z.2.1 0)), (1, .int v1), (2, .int v2), (3, .int v3)] → fX6_stops_62 v1 v2 v3 σ = some (r, σ') → W p l e (headSpec wsX6_stops ({ frames := 1, cells := 0, slots := 0, locals := 24 })).room s m ([.ref (z.2.1 0), .int a0, .int a1, .int a2] : List Value).toArray below meth c H locs 0 0 (MQ below (qcG 8 ceM z σ' (some (.int r))) ([.ref (z.2.1 0), .int a0, .int a1, .int a2] : List Value).toArray s 0 0 (aG 8 z)) (F0 m 62 ls []) := by
    intro v1 v2 v3 σ H locs ls hP hS hl hf
    rw [fX6_stops_62] at hf
    refine lv_iconst (v := (0 : Int32)) hx hb dX6_stops_62 (by decide) ?_
    exact j_63 v1 v2 v3 (0 : Int32) σ _ _ _ hP hS (lv_sub hl [0, 1, 2, 3] rfl) hf
  refine lv_iload_n hx hb dX6_stops_0 rfl (lv_at hl 1 rfl) ?_
  refine lv_if_lt (tgt := 12) hx hb dX6_stops_1 (by decide) (fun c_1001 => ?_) (fun c_1001 => ?_)
  · have hf := (if_pos c_1001).symm.trans hf
    exact j_12 a0 a1 a2 σ _ _ _ hP hS (lv_sub hl [0, 1, 2, 3] rfl) hf
  · have hf := (if_neg c_1001).symm.trans hf
    refine lv_iload_n hx hb dX6_stops_4 rfl (lv_at hl 2 rfl) ?_
    refine lv_if_lt (tgt := 12) hx hb dX6_stops_5 (by decide) (fun c_1002 => ?_) (fun c_1002 => ?_)
    · have hf := (if_pos c_1002).symm.trans hf
      exact j_12 a0 a1 a2 σ _ _ _ hP hS (lv_sub hl [0, 1, 2, 3] rfl) hf
    · have hf := (if_neg c_1002).symm.trans hf
      refine lv_iload_n hx hb dX6_stops_8 rfl (lv_at hl 3 rfl) ?_
      refine lv_if_ge (tgt := 17) hx hb dX6_stops_9 (by decide) (fun c_1003 => ?_) (fun c_1003 => ?_)
      · have hf := (if_pos c_1003).symm.trans hf
        refine lv_iload_n hx hb dX6_stops_17 rfl (lv_at hl 1 rfl) ?_
        refine lv_bipush (v := (10 : Int32)) hx hb dX6_stops_18 (by decide) ?_
        refine lv_icmp_gt (tgt := 35) hx hb dX6_stops_20 (by decide) (fun c_1004 => ?_) (fun c_1004 => ?_)
        · have hf := (if_pos c_1004).symm.trans hf
          exact j_35 a0 a1 a2 σ _ _ _ hP hS (lv_sub hl [0, 1, 2, 3] rfl) hf
        · have hf := (if_neg c_1004).symm.trans hf
          refine lv_iload_n hx hb dX6_stops_23 rfl (lv_at hl 2 rfl) ?_
          refine lv_bipush (v := (10 : Int32)) hx hb dX6_stops_24 (by decide) ?_
          refine lv_icmp_gt (tgt := 35) hx hb dX6_stops_26 (by decide) (fun c_1005 => ?_) (fun c_1005 => ?_)
          · have hf := (if_pos c_1005).symm.trans hf
            exact j_35 a0 a1 a2 σ _ _ _ hP hS (lv_sub hl [0, 1, 2, 3] rfl) hf
          · have hf := (if_neg c_1005).symm.trans hf
            refine lv_iload_n hx hb dX6_stops_29 rfl (lv_at hl 3 rfl) ?_
            refine lv_bipush (v := (10 : Int32)) hx hb dX6_stops_30 (by decide) ?_
            refine lv_icmp_le (tgt := 40) hx hb dX6_stops_32 (by decide) (fun c_1006 => ?_) (fun c_1006 => ?_)
            · have hf := (if_pos c_1006).symm.trans hf
              refine lv_iload_n hx hb dX6_stops_40 rfl (lv_at hl 3 rfl) ?_
              refine lv_iload_n hx hb dX6_stops_41 rfl (lv_at hl 1 rfl) ?_
              refine lv_icmp_gt (tgt := 57) hx hb dX6_stops_42 (by decide) (fun c_1007 => ?_) (fun c_1007 => ?_)
              · have hf := (if_pos c_1007).symm.trans hf
                exact j_57 a0 a1 a2 σ _ _ _ hP hS (lv_sub hl [0, 1, 2, 3] rfl) hf
              · have hf := (if_neg c_1007).symm.trans hf
                refine lv_iload_n hx hb dX6_stops_45 rfl (lv_at hl 2 rfl) ?_
                refine lv_if_ne (tgt := 62) hx hb dX6_stops_46 (by decide) (fun c_1008 => ?_) (fun c_1008 => ?_)
                · have hf := (if_neg c_1008).symm.trans hf
                  exact j_62 a0 a1 a2 σ _ _ _ hP hS (lv_sub hl [0, 1, 2, 3] rfl) hf
                · have hf := (if_pos c_1008).symm.trans hf
                  refine lv_iload_n hx hb dX6_stops_49 rfl (lv_at hl 1 rfl) ?_
                  refine lv_if_eq (tgt := 57) hx hb dX6_stops_50 (by decide) (fun c_1009 => ?_) (fun c_1009 => ?_)
                  · have hf := (if_pos c_1009).symm.trans hf
                    exact j_57 a0 a1 a2 σ _ _ _ hP hS (lv_sub hl [0, 1, 2, 3] rfl) hf
                  · have hf := (if_neg c_1009).symm.trans hf
                    refine lv_iload_n hx hb dX6_stops_53 rfl (lv_at hl 3 rfl) ?_
                    refine lv_if_ne (tgt := 62) hx hb dX6_stops_54 (by decide) (fun c_1010 => ?_) (fun c_1010 => ?_)
                    · have hf := (if_neg c_1010).symm.trans hf
                      exact j_62 a0 a1 a2 σ _ _ _ hP hS (lv_sub hl [0, 1, 2, 3] rfl) hf
                    · have hf := (if_pos c_1010).symm.trans hf
                      exact j_57 a0 a1 a2 σ _ _ _ hP hS (lv_sub hl [0, 1, 2, 3] rfl) hf
            · have hf := (if_neg c_1006).symm.trans hf
              exact j_35 a0 a1 a2 σ _ _ _ hP hS (lv_sub hl [0, 1, 2, 3] rfl) hf
      · have hf := (if_neg c_1003).symm.trans hf
        exact j_12 a0 a1 a2 σ _ _ _ hP hS (lv_sub hl [0, 1, 2, 3] rfl) hf
set_option maxHeartbeats 40000000 in
set_option maxRecDepth 100000 in
theorem kX6_isFamily (l : Launch) (z : Cx) (hz : okC 8 z) {a0 : Int32} {a1 : Int32} {a2 : Int64} {a3 : Int32}  {σ σ' : Mm} (hf : fX6_isFamily a0 a1 a2 a3 σ = some σ') : KG 8 ceM l yX6_isFamily wsX6_isFamily (0) (0) [.ref (z.2.1 0), .int a0, .int a1, .long a2, .int a3] z σ σ' none := by
  rw [fX6_isFamily] at hf
  refine Met.ofW (cc := cX6_isFamily) (maxL := 7) (ret := none) (by decide) rfl ?_
  intro p e s m args below meth c s₁ B hml hv
  obtain ⟨rfl, hP, hK, hE⟩ := hv
  have hx := B.exec
  have hb := B.bytes
  have hr := B.returns
  have hts := atoms_spec (ws := wsX6_isFamily) B.pre
  have hown : s.vm.findClass RX6 = some m.cls := findClass_of_methodNamed B.named
  have hlocks := B.notSynchronized
  have in_X6 : ∀ w ∈ wsX60, w ∈ wsX6_isFamily := by decide +kernel
  have hS : va_S (aG 8 z) s.heap s.heap [] := va_S.rf
  have hl := lv_entry ([.ref (z.2.1 0), .int a0, .int a1, .long a2, .int a3]) (n := 7) (Nat.le_of_ble_eq_true rfl)
  rw [lg_entry_eq]
  generalize (lg_sl ([.ref (z.2.1 0), .int a0, .int a1, .long a2, .int a3]) ++ List.replicate (7 - (lg_sl ([.ref (z.2.1 0), .int a0, .int a1, .long a2, .int a3])).length) Slot.unset).toArray = ls at hl ⊢
  have hl : lv_has ls 7 [(0, .ref (z.2.1 0)), (1, .int a0), (2, .int a1), (3, .long a2), (5, .int a3)] := hl
  have j_194 : ∀ (v3 : Int64) (v5 : Int32) (t0 : Int32) (t1 : Int64) (t2 : Int64) (σ : Mm) (H : Heap) (locs : List Loc) (ls : Array Slot), va_P z.1 vwCl (wl 8 z.2.1 (ceM z σ)) H → va_S (aG 8 z) s.heap H locs → lv_has ls 7 [(0, .ref (z.2.1 0)), (3, .long v3), (5, .int v5)] → fX6_isFamily_194 v3 v5 t0 t1 t2 σ = some σ' → W p l e (headSpec wsX6_isFamily ({ frames := 0, cells := 0, slots := 0, locals := 0 })).room s m ([.ref (z.2.1 0), .int a0, .int a1, .long a2, .int a3] : List Value).toArray below meth c H locs 0 0 (MQ below (qcG 8 ceM z σ' none) ([.ref (z.2.1 0), .int a0, .int a1, .long a2, .int a3] : List Value).toArray s 0 0 (aG 8 z)) (F0 m 194 ls [.int t0, .long t1, .long t2, .ref (z.2.1 0)]) := by
    intro v3 v5 t0 t1 t2 σ H locs ls hP hS hl hf
    rw [fX6_isFamily_194] at hf
    refine lv_i2l (v := t0.toInt64) hx hb dX6_isFamily_194 rfl ?_
    refine lv_lmul hx hb dX6_isFamily_195 ?_
    refine lv_ladd hx hb dX6_isFamily_196 ?_
    refine va_put (D := z.1) (ci := 6) (v := .long (t2 + (t1 * (t0.toInt64)))) (ty := .long) (C := RX6) (T := TX6) (N := 29) hx hb hts in_X6 tyX6 tyX6_ok nmX6 hown hK hP (wl_D hz _) hS 0 (wl_at (by decide) cX6) rfl 17 (by decide) (hts (.fieldLink RX6 125 "TillOneOfSortModel" "says" "J") (by decide +kernel)) (fun _ h9 => h9) rfl (by decide +kernel) rfl rfl (Nat.le_of_ble_eq_true rfl) dX6_isFamily_197 (fun H locs hP _ hS => ?_)
    rw [sX6L (by decide)] at hP
    refine lv_aload_n hx hb dX6_isFamily_200 rfl (lv_at hl 0 rfl) ?_
    refine lv_dup hx hb dX6_isFamily_201 rfl ?_
    refine va_get (D := z.1) (ci := 6) (v := .long (gL (pL σ 0 17 (t2 + (t1 * (t0.toInt64)))) 0 18)) (C := RX6) (T := TX6) (N := 29) hx hb hts in_X6 hown hK hP 0 (wl_at (by decide) cX6) rfl 18 (by decide) (hts (.fieldLink RX6 128 "TillOneOfSortModel" "eldest" "J") (by decide +kernel)) (fun _ h9 => h9) rfl dX6_isFamily_202 ?_
    refine lv_iload hx hb dX6_isFamily_205 (lv_at hl 2 rfl) ?_
    refine lv_aload_n hx hb dX6_isFamily_207 rfl (lv_at hl 0 rfl) ?_
    refine va_get (D := z.1) (ci := 6) (v := .int (gI (pL σ 0 17 (t2 + (t1 * (t0.toInt64)))) 0 20)) (C := RX6) (T := TX6) (N := 29) hx hb hts in_X6 hown hK hP 0 (wl_at (by decide) cX6) rfl 20 (by decide) (hts (.fieldLink RX6 119 "TillOneOfSortModel" "saysSort" "I") (by decide +kernel)) (fun _ h9 => h9) rfl dX6_isFamily_208 ?_
    refine lv_icmp_ne (tgt := 218) hx hb dX6_isFamily_211 (by decide) (fun c_3 => ?_) (fun c_3 => ?_)
    · have hf := (if_neg c_3).symm.trans hf
      refine lv_lconst (v := (0 : Int64)) hx hb dX6_isFamily_218 rfl ?_
      refine lv_ladd hx hb dX6_isFamily_219 ?_
      refine va_put (D := z.1) (ci := 6) (v := .long ((gL (pL σ 0 17 (t2 + (t1 * (t0.toInt64)))) 0 18) + (0 : Int64))) (ty := .long) (C := RX6) (T := TX6) (N := 29) hx hb hts in_X6 tyX6 tyX6_ok nmX6 hown hK hP (wl_D hz _) hS 0 (wl_at (by decide) cX6) rfl 18 (by decide) (hts (.fieldLink RX6 128 "TillOneOfSortModel" "eldest" "J") (by decide +kernel)) (fun _ h9 => h9) rfl (by decide +kernel) rfl rfl (Nat.le_of_ble_eq_true rfl) dX6_isFamily_220 (fun H locs hP _ hS => ?_)
      rw [sX6L (by decide)] at hP
      exact x_vret hx hb hr hlocks hP hS dX6_isFamily_223 (Option.some.inj hf)
    · have hf := (if_pos c_3).symm.trans hf
      refine lv_lload_n hx hb dX6_isFamily_214 rfl (lv_at hl 1 rfl) ?_
      refine lv_goto (tgt := 219) hx hb dX6_isFamily_215 (by decide) ?_
      refine lv_ladd hx hb dX6_isFamily_219 ?_
      refine va_put (D := z.1) (ci := 6) (v := .long ((gL (pL σ 0 17 (t2 + (t1 * (t0.toInt64)))) 0 18) + v3)) (ty := .long) (C := RX6) (T := TX6) (N := 29) hx hb hts in_X6 tyX6 tyX6_ok nmX6 hown hK hP (wl_D hz _) hS 0 (wl_at (by decide) cX6) rfl 18 (by decide) (hts (.fieldLink RX6 128 "TillOneOfSortModel" "eldest" "J") (by decide +kernel)) (fun _ h9 => h9) rfl (by decide +kernel) rfl rfl (Nat.le_of_ble_eq_true rfl) dX6_isFamily_220 (fun H locs hP _ hS => ?_)
      rw [sX6L (by decide)] at hP
      exact x_vret hx hb hr hlocks hP hS dX6_isFamily_223 (Option.some.inj hf)
  have j_131 : ∀ (v1 : Int32) (v2 : Int32) (v3 : Int64) (v5 : Int32) (v6 : Int32) (t0 : Int64) (t1 : Int64) (σ : Mm) (H : Heap) (locs : List Loc) (ls : Array Slot), va_P z.1 vwCl (wl 8 z.2.1 (ceM z σ)) H → va_S (aG 8 z) s.heap H locs → lv_has ls 7 [(0, .ref (z.2.1 0)), (1, .int v1), (2, .int v2), (3, .long v3), (5, .int v5), (6, .int v6)] → fX6_isFamily_131 v1 v2 v3 v5 v6 t0 t1 σ = some σ' → W p l e (headSpec wsX6_isFamily ({ frames := 0, cells := 0, slots := 0, locals := 0 })).room s m ([.ref (z.2.1 0), .int a0, .int a1, .long a2, .int a3] : List Value).toArray below meth c H locs 0 0 (MQ below (qcG 8 ceM z σ' none) ([.ref (z.2.1 0), .int a0, .int a1, .long a2, .int a3] : List Value).toArray s 0 0 (aG 8 z)) (F0 m 131 ls [.long t0, .long t1, .ref (z.2.1 0)]) := by
    intro v1 v2 v3 v5 v6 t0 t1 σ H locs ls hP hS hl hf
    rw [fX6_isFamily_131] at hf
    refine lv_ladd hx hb dX6_isFamily_131 ?_
    refine va_put (D := z.1) (ci := 6) (v := .long (t1 + t0)) (ty := .long) (C := RX6) (T := TX6) (N := 29) hx hb hts in_X6 tyX6 tyX6_ok nmX6 hown hK hP (wl_D hz _) hS 0 (wl_at (by decide) cX6) rfl 16 (by decide) (hts (.fieldLink RX6 113 "TillOneOfSortModel" "pairs" "J") (by decide +kernel)) (fun _ h9 => h9) rfl (by decide +kernel) rfl rfl (Nat.le_of_ble_eq_true rfl) dX6_isFamily_132 (fun H locs hP _ hS => ?_)
    rw [sX6L (by decide)] at hP
    refine lv_aload_n hx hb dX6_isFamily_135 rfl (lv_at hl 0 rfl) ?_
    refine va_get (D := z.1) (ci := 6) (v := .ref (z.2.1 7)) (C := RX6) (T := TX6) (N := 29) hx hb hts in_X6 hown hK hP 0 (wl_at (by decide) cX6) rfl 19 (by decide) (hts (.fieldLink RX6 28 "TillOneOfSortModel" "sized" "[J") (by decide +kernel)) (fun _ h9 => h9) rfl dX6_isFamily_136 ?_
    refine lv_iload hx hb dX6_isFamily_139 (lv_at hl 5 rfl) ?_
    refine lv_dup2_11 hx hb dX6_isFamily_141 rfl rfl ?_
    obtain ⟨c_4, hf⟩ := x_ck hf
    refine va_lald hx hb hK hP 7 1 (wl_at (by decide) cMJ) rfl (ci_in c_4) dX6_isFamily_142 ?_
    refine lv_lload_n hx hb dX6_isFamily_143 rfl (lv_at hl 3 rfl) ?_
    refine lv_ladd hx hb dX6_isFamily_144 ?_
    obtain ⟨c_5, hf⟩ := x_ck hf
    refine va_last hx hb hK hP (wl_D hz _) hS 7 1 (wl_at (by decide) cMJ) rfl (ci_in c_5) dX6_isFamily_145 (fun H locs hP _ hS => ?_)
    rw [sMJ] at hP
    refine lv_iload_n hx hb dX6_isFamily_146 rfl (lv_at hl 1 rfl) ?_
    refine lv_aload_n hx hb dX6_isFamily_147 rfl (lv_at hl 0 rfl) ?_
    refine va_get (D := z.1) (ci := 6) (v := .int (gI (pL (pL σ 0 16 (t1 + t0)) 7 v6.toNatClampNeg ((gL (pL σ 0 16 (t1 + t0)) 7 v6.toNatClampNeg) + v3)) 0 21)) (C := RX6) (T := TX6) (N := 29) hx hb hts in_X6 hown hK hP 0 (wl_at (by decide) cX6) rfl 21 (by decide) (hts (.fieldLink RX6 116 "TillOneOfSortModel" "saysOnes" "I") (by decide +kernel)) (fun _ h9 => h9) rfl dX6_isFamily_148 ?_
    refine lv_aload_n hx hb dX6_isFamily_151 rfl (lv_at hl 0 rfl) ?_
    refine va_get (D := z.1) (ci := 6) (v := .int (gI (pL (pL σ 0 16 (t1 + t0)) 7 v6.toNatClampNeg ((gL (pL σ 0 16 (t1 + t0)) 7 v6.toNatClampNeg) + v3)) 0 20)) (C := RX6) (T := TX6) (N := 29) hx hb hts in_X6 hown hK hP 0 (wl_at (by decide) cX6) rfl 20 (by decide) (hts (.fieldLink RX6 119 "TillOneOfSortModel" "saysSort" "I") (by decide +kernel)) (fun _ h9 => h9) rfl dX6_isFamily_152 ?_
    refine lv_iadd hx hb dX6_isFamily_155 ?_
    refine lv_icmp_ne (tgt := 174) hx hb dX6_isFamily_156 (by decide) (fun c_6 => ?_) (fun c_6 => ?_)
    · have hf := (if_neg c_6).symm.trans hf
      exact x_vret hx hb hr hlocks hP hS dX6_isFamily_174 (Option.some.inj hf)
    · have hf := (if_pos c_6).symm.trans hf
      refine lv_iload_n hx hb dX6_isFamily_159 rfl (lv_at hl 2 rfl) ?_
      refine lv_aload_n hx hb dX6_isFamily_160 rfl (lv_at hl 0 rfl) ?_
      refine va_get (D := z.1) (ci := 6) (v := .int (gI (pL (pL σ 0 16 (t1 + t0)) 7 v6.toNatClampNeg ((gL (pL σ 0 16 (t1 + t0)) 7 v6.toNatClampNeg) + v3)) 0 22)) (C := RX6) (T := TX6) (N := 29) hx hb hts in_X6 hown hK hP 0 (wl_at (by decide) cX6) rfl 22 (by decide) (hts (.fieldLink RX6 122 "TillOneOfSortModel" "saysZeros" "I") (by decide +kernel)) (fun _ h9 => h9) rfl dX6_isFamily_161 ?_
      refine lv_iconst (v := (1 : Int32)) hx hb dX6_isFamily_164 (by decide) ?_
      refine lv_iadd hx hb dX6_isFamily_165 ?_
      refine lv_aload_n hx hb dX6_isFamily_166 rfl (lv_at hl 0 rfl) ?_
      refine va_get (D := z.1) (ci := 6) (v := .int (gI (pL (pL σ 0 16 (t1 + t0)) 7 v6.toNatClampNeg ((gL (pL σ 0 16 (t1 + t0)) 7 v6.toNatClampNeg) + v3)) 0 20)) (C := RX6) (T := TX6) (N := 29) hx hb hts in_X6 hown hK hP 0 (wl_at (by decide) cX6) rfl 20 (by decide) (hts (.fieldLink RX6 119 "TillOneOfSortModel" "saysSort" "I") (by decide +kernel)) (fun _ h9 => h9) rfl dX6_isFamily_167 ?_
      refine lv_isub hx hb dX6_isFamily_170 ?_
      refine lv_icmp_eq (tgt := 175) hx hb dX6_isFamily_171 (by decide) (fun c_7 => ?_) (fun c_7 => ?_)
      · have hf := (if_pos c_7).symm.trans hf
        refine lv_aload_n hx hb dX6_isFamily_175 rfl (lv_at hl 0 rfl) ?_
        refine lv_dup hx hb dX6_isFamily_176 rfl ?_
        refine va_get (D := z.1) (ci := 6) (v := .long (gL (pL (pL σ 0 16 (t1 + t0)) 7 v6.toNatClampNeg ((gL (pL σ 0 16 (t1 + t0)) 7 v6.toNatClampNeg) + v3)) 0 17)) (C := RX6) (T := TX6) (N := 29) hx hb hts in_X6 hown hK hP 0 (wl_at (by decide) cX6) rfl 17 (by decide) (hts (.fieldLink RX6 125 "TillOneOfSortModel" "says" "J") (by decide +kernel)) (fun _ h9 => h9) rfl dX6_isFamily_177 ?_
        refine lv_lload_n hx hb dX6_isFamily_180 rfl (lv_at hl 3 rfl) ?_
        refine lv_aload_n hx hb dX6_isFamily_181 rfl (lv_at hl 0 rfl) ?_
        refine va_get (D := z.1) (ci := 6) (v := .int (gI (pL (pL σ 0 16 (t1 + t0)) 7 v6.toNatClampNeg ((gL (pL σ 0 16 (t1 + t0)) 7 v6.toNatClampNeg) + v3)) 0 20)) (C := RX6) (T := TX6) (N := 29) hx hb hts in_X6 hown hK hP 0 (wl_at (by decide) cX6) rfl 20 (by decide) (hts (.fieldLink RX6 119 "TillOneOfSortModel" "saysSort" "I") (by decide +kernel)) (fun _ h9 => h9) rfl dX6_isFamily_182 ?_
        refine lv_iconst (v := (1 : Int32)) hx hb dX6_isFamily_185 (by decide) ?_
        refine lv_icmp_ne (tgt := 193) hx hb dX6_isFamily_186 (by decide) (fun c_8 => ?_) (fun c_8 => ?_)
        · have hf := (if_neg c_8).symm.trans hf
          refine lv_iload_n hx hb dX6_isFamily_193 rfl (lv_at hl 2 rfl) ?_
          exact j_194 v3 v5 v2 v3 (gL (pL (pL σ 0 16 (t1 + t0)) 7 v6.toNatClampNeg ((gL (pL σ 0 16 (t1 + t0)) 7 v6.toNatClampNeg) + v3)) 0 17) (pL (pL σ 0 16 (t1 + t0)) 7 v6.toNatClampNeg ((gL (pL σ 0 16 (t1 + t0)) 7 v6.toNatClampNeg) + v3)) _ _ _ hP hS (lv_sub hl [0, 3, 4] rfl) hf
        · have hf := (if_pos c_8).symm.trans hf
          refine lv_iload_n hx hb dX6_isFamily_189 rfl (lv_at hl 1 rfl) ?_
          refine lv_goto (tgt := 194) hx hb dX6_isFamily_190 (by decide) ?_
          exact j_194 v3 v5 v1 v3 (gL (pL (pL σ 0 16 (t1 + t0)) 7 v6.toNatClampNeg ((gL (pL σ 0 16 (t1 + t0)) 7 v6.toNatClampNeg) + v3)) 0 17) (pL (pL σ 0 16 (t1 + t0)) 7 v6.toNatClampNeg ((gL (pL σ 0 16 (t1 + t0)) 7 v6.toNatClampNeg) + v3)) _ _ _ hP hS (lv_sub hl [0, 3, 4] rfl) hf
      · have hf := (if_neg c_7).symm.trans hf
        exact x_vret hx hb hr hlocks hP hS dX6_isFamily_174 (Option.some.inj hf)
  have j_109 : ∀ (v1 : Int32) (v2 : Int32) (v3 : Int64) (v5 : Int32) (v6 : Int32) (t0 : Int64) (t1 : Int64) (σ : Mm) (H : Heap) (locs : List Loc) (ls : Array Slot), va_P z.1 vwCl (wl 8 z.2.1 (ceM z σ)) H → va_S (aG 8 z) s.heap H locs → lv_has ls 7 [(0, .ref (z.2.1 0)), (1, .int v1), (2, .int v2), (3, .long v3), (5, .int v5), (6, .int v6)] → fX6_isFamily_109 v1 v2 v3 v5 v6 t0 t1 σ = some σ' → W p l e (headSpec wsX6_isFamily ({ frames := 0, cells := 0, slots := 0, locals := 0 })).room s m ([.ref (z.2.1 0), .int a0, .int a1, .long a2, .int a3] : List Value).toArray below meth c H locs 0 0 (MQ below (qcG 8 ceM z σ' none) ([.ref (z.2.1 0), .int a0, .int a1, .long a2, .int a3] : List Value).toArray s 0 0 (aG 8 z)) (F0 m 109 ls [.long t0, .long t1, .ref (z.2.1 0)]) := by
    intro v1 v2 v3 v5 v6 t0 t1 σ H locs ls hP hS hl hf
    rw [fX6_isFamily_109] at hf
    refine lv_ladd hx hb dX6_isFamily_109 ?_
    refine va_put (D := z.1) (ci := 6) (v := .long (t1 + t0)) (ty := .long) (C := RX6) (T := TX6) (N := 29) hx hb hts in_X6 tyX6 tyX6_ok nmX6 hown hK hP (wl_D hz _) hS 0 (wl_at (by decide) cX6) rfl 15 (by decide) (hts (.fieldLink RX6 110 "TillOneOfSortModel" "meets" "J") (by decide +kernel)) (fun _ h9 => h9) rfl (by decide +kernel) rfl rfl (Nat.le_of_ble_eq_true rfl) dX6_isFamily_110 (fun H locs hP _ hS => ?_)
    rw [sX6L (by decide)] at hP
    refine lv_aload_n hx hb dX6_isFamily_113 rfl (lv_at hl 0 rfl) ?_
    refine lv_dup hx hb dX6_isFamily_114 rfl ?_
    refine va_get (D := z.1) (ci := 6) (v := .long (gL (pL σ 0 15 (t1 + t0)) 0 16)) (C := RX6) (T := TX6) (N := 29) hx hb hts in_X6 hown hK hP 0 (wl_at (by decide) cX6) rfl 16 (by decide) (hts (.fieldLink RX6 113 "TillOneOfSortModel" "pairs" "J") (by decide +kernel)) (fun _ h9 => h9) rfl dX6_isFamily_115 ?_
    refine lv_iload_n hx hb dX6_isFamily_118 rfl (lv_at hl 1 rfl) ?_
    refine lv_iconst (v := (1 : Int32)) hx hb dX6_isFamily_119 (by decide) ?_
    refine lv_icmp_le (tgt := 130) hx hb dX6_isFamily_120 (by decide) (fun c_9 => ?_) (fun c_9 => ?_)
    · have hf := (if_pos c_9).symm.trans hf
      refine lv_lconst (v := (0 : Int64)) hx hb dX6_isFamily_130 rfl ?_
      exact j_131 v1 v2 v3 v5 v6 (0 : Int64) (gL (pL σ 0 15 (t1 + t0)) 0 16) (pL σ 0 15 (t1 + t0)) _ _ _ hP hS (lv_sub hl [0, 1, 2, 3, 4, 5] rfl) hf
    · have hf := (if_neg c_9).symm.trans hf
      refine lv_lload_n hx hb dX6_isFamily_123 rfl (lv_at hl 3 rfl) ?_
      refine lv_iload_n hx hb dX6_isFamily_124 rfl (lv_at hl 1 rfl) ?_
      refine lv_i2l (v := v1.toInt64) hx hb dX6_isFamily_125 rfl ?_
      refine lv_lmul hx hb dX6_isFamily_126 ?_
      refine lv_goto (tgt := 131) hx hb dX6_isFamily_127 (by decide) ?_
      exact j_131 v1 v2 v3 v5 v6 (v3 * (v1.toInt64)) (gL (pL σ 0 15 (t1 + t0)) 0 16) (pL σ 0 15 (t1 + t0)) _ _ _ hP hS (lv_sub hl [0, 1, 2, 3, 4, 5] rfl) hf
  have j_86 : ∀ (v1 : Int32) (v2 : Int32) (v3 : Int64) (v5 : Int32) (v6 : Int32) (t0 : Int64) (t1 : Int64) (σ : Mm) (H : Heap) (locs : List Loc) (ls : Array Slot), va_P z.1 vwCl (wl 8 z.2.1 (ceM z σ)) H → va_S (aG 8 z) s.heap H locs → lv_has ls 7 [(0, .ref (z.2.1 0)), (1, .int v1), (2, .int v2), (3, .long v3), (5, .int v5), (6, .int v6)] → fX6_isFamily_86 v1 v2 v3 v5 v6 t0 t1 σ = some σ' → W p l e (headSpec wsX6_isFamily ({ frames := 0, cells := 0, slots := 0, locals := 0 })).room s m ([.ref (z.2.1 0), .int a0, .int a1, .long a2, .int a3] : List Value).toArray below meth c H locs 0 0 (MQ below (qcG 8 ceM z σ' none) ([.ref (z.2.1 0), .int a0, .int a1, .long a2, .int a3] : List Value).toArray s 0 0 (aG 8 z)) (F0 m 86 ls [.long t0, .long t1, .ref (z.2.1 0)]) := by
    intro v1 v2 v3 v5 v6 t0 t1 σ H locs ls hP hS hl hf
    rw [fX6_isFamily_86] at hf
    refine lv_ladd hx hb dX6_isFamily_86 ?_
    refine va_put (D := z.1) (ci := 6) (v := .long (t1 + t0)) (ty := .long) (C := RX6) (T := TX6) (N := 29) hx hb hts in_X6 tyX6 tyX6_ok nmX6 hown hK hP (wl_D hz _) hS 0 (wl_at (by decide) cX6) rfl 14 (by decide) (hts (.fieldLink RX6 107 "TillOneOfSortModel" "alike" "J") (by decide +kernel)) (fun _ h9 => h9) rfl (by decide +kernel) rfl rfl (Nat.le_of_ble_eq_true rfl) dX6_isFamily_87 (fun H locs hP _ hS => ?_)
    rw [sX6L (by decide)] at hP
    refine lv_aload_n hx hb dX6_isFamily_90 rfl (lv_at hl 0 rfl) ?_
    refine lv_dup hx hb dX6_isFamily_91 rfl ?_
    refine va_get (D := z.1) (ci := 6) (v := .long (gL (pL σ 0 14 (t1 + t0)) 0 15)) (C := RX6) (T := TX6) (N := 29) hx hb hts in_X6 hown hK hP 0 (wl_at (by decide) cX6) rfl 15 (by decide) (hts (.fieldLink RX6 110 "TillOneOfSortModel" "meets" "J") (by decide +kernel)) (fun _ h9 => h9) rfl dX6_isFamily_92 ?_
    refine lv_iload_n hx hb dX6_isFamily_95 rfl (lv_at hl 1 rfl) ?_
    refine lv_iload_n hx hb dX6_isFamily_96 rfl (lv_at hl 2 rfl) ?_
    refine lv_icmp_le (tgt := 108) hx hb dX6_isFamily_97 (by decide) (fun c_10 => ?_) (fun c_10 => ?_)
    · have hf := (if_pos c_10).symm.trans hf
      refine lv_lconst (v := (0 : Int64)) hx hb dX6_isFamily_108 rfl ?_
      exact j_109 v1 v2 v3 v5 v6 (0 : Int64) (gL (pL σ 0 14 (t1 + t0)) 0 15) (pL σ 0 14 (t1 + t0)) _ _ _ hP hS (lv_sub hl [0, 1, 2, 3, 4, 5] rfl) hf
    · have hf := (if_neg c_10).symm.trans hf
      refine lv_lload_n hx hb dX6_isFamily_100 rfl (lv_at hl 3 rfl) ?_
      refine lv_iload hx hb dX6_isFamily_101 (lv_at hl 5 rfl) ?_
      refine lv_i2l (v := v6.toInt64) hx hb dX6_isFamily_103 rfl ?_
      refine lv_lmul hx hb dX6_isFamily_104 ?_
      refine lv_goto (tgt := 109) hx hb dX6_isFamily_105 (by decide) ?_
      exact j_109 v1 v2 v3 v5 v6 (v3 * (v6.toInt64)) (gL (pL σ 0 14 (t1 + t0)) 0 15) (pL σ 0 14 (t1 + t0)) _ _ _ hP hS (lv_sub hl [0, 1, 2, 3, 4, 5] rfl) hf
  have j_67 : ∀ (v1 : Int32) (v2 : Int32) (v3 : Int64) (v5 : Int32) (v6 : Int32) (t0 : Int64) (t1 : Int64) (σ : Mm) (H : Heap) (locs : List Loc) (ls : Array Slot), va_P z.1 vwCl (wl 8 z.2.1 (ceM z σ)) H → va_S (aG 8 z) s.heap H locs → lv_has ls 7 [(0, .ref (z.2.1 0)), (1, .int v1), (2, .int v2), (3, .long v3), (5, .int v5), (6, .int v6)] → fX6_isFamily_67 v1 v2 v3 v5 v6 t0 t1 σ = some σ' → W p l e (headSpec wsX6_isFamily ({ frames := 0, cells := 0, slots := 0, locals := 0 })).room s m ([.ref (z.2.1 0), .int a0, .int a1, .long a2, .int a3] : List Value).toArray below meth c H locs 0 0 (MQ below (qcG 8 ceM z σ' none) ([.ref (z.2.1 0), .int a0, .int a1, .long a2, .int a3] : List Value).toArray s 0 0 (aG 8 z)) (F0 m 67 ls [.long t0, .long t1, .ref (z.2.1 0)]) := by
    intro v1 v2 v3 v5 v6 t0 t1 σ H locs ls hP hS hl hf
    rw [fX6_isFamily_67] at hf
    refine lv_ladd hx hb dX6_isFamily_67 ?_
    refine va_put (D := z.1) (ci := 6) (v := .long (t1 + t0)) (ty := .long) (C := RX6) (T := TX6) (N := 29) hx hb hts in_X6 tyX6 tyX6_ok nmX6 hown hK hP (wl_D hz _) hS 0 (wl_at (by decide) cX6) rfl 13 (by decide) (hts (.fieldLink RX6 104 "TillOneOfSortModel" "more" "J") (by decide +kernel)) (fun _ h9 => h9) rfl (by decide +kernel) rfl rfl (Nat.le_of_ble_eq_true rfl) dX6_isFamily_68 (fun H locs hP _ hS => ?_)
    rw [sX6L (by decide)] at hP
    refine lv_aload_n hx hb dX6_isFamily_71 rfl (lv_at hl 0 rfl) ?_
    refine lv_dup hx hb dX6_isFamily_72 rfl ?_
    refine va_get (D := z.1) (ci := 6) (v := .long (gL (pL σ 0 13 (t1 + t0)) 0 14)) (C := RX6) (T := TX6) (N := 29) hx hb hts in_X6 hown hK hP 0 (wl_at (by decide) cX6) rfl 14 (by decide) (hts (.fieldLink RX6 107 "TillOneOfSortModel" "alike" "J") (by decide +kernel)) (fun _ h9 => h9) rfl dX6_isFamily_73 ?_
    refine lv_iload_n hx hb dX6_isFamily_76 rfl (lv_at hl 1 rfl) ?_
    refine lv_iload_n hx hb dX6_isFamily_77 rfl (lv_at hl 2 rfl) ?_
    refine lv_icmp_ne (tgt := 85) hx hb dX6_isFamily_78 (by decide) (fun c_11 => ?_) (fun c_11 => ?_)
    · have hf := (if_neg c_11).symm.trans hf
      refine lv_lconst (v := (0 : Int64)) hx hb dX6_isFamily_85 rfl ?_
      exact j_86 v1 v2 v3 v5 v6 (0 : Int64) (gL (pL σ 0 13 (t1 + t0)) 0 14) (pL σ 0 13 (t1 + t0)) _ _ _ hP hS (lv_sub hl [0, 1, 2, 3, 4, 5] rfl) hf
    · have hf := (if_pos c_11).symm.trans hf
      refine lv_lload_n hx hb dX6_isFamily_81 rfl (lv_at hl 3 rfl) ?_
      refine lv_goto (tgt := 86) hx hb dX6_isFamily_82 (by decide) ?_
      exact j_86 v1 v2 v3 v5 v6 v3 (gL (pL σ 0 13 (t1 + t0)) 0 14) (pL σ 0 13 (t1 + t0)) _ _ _ hP hS (lv_sub hl [0, 1, 2, 3, 4, 5] rfl) hf
  refine lv_iload_n hx hb dX6_isFamily_0 rfl (lv_at hl 1 rfl) ?_
  refine lv_iload_n hx hb dX6_isFamily_1 rfl (lv_at hl 2 rfl) ?_
  refine lv_iadd hx hb dX6_isFamily_2 ?_
  refine lv_istore (lv' := [(6, .int (a0 + a1)), (0, .ref (z.2.1 0)), (1, .int a0), (2, .int a1), (3, .long a2), (5, .int a3)]) hx hb dX6_isFamily_3 hl (by decide) rfl (fun ls hl => ?_)
  refine lv_aload_n hx hb dX6_isFamily_5 rfl (lv_at hl 1 rfl) ?_
  refine lv_dup hx hb dX6_isFamily_6 rfl ?_
  refine va_get (D := z.1) (ci := 6) (v := .long (gL σ 0 10)) (C := RX6) (T := TX6) (N := 29) hx hb hts in_X6 hown hK hP 0 (wl_at (by decide) cX6) rfl 10 (by decide) (hts (.fieldLink RX6 94 "TillOneOfSortModel" "children" "J") (by decide +kernel)) (fun _ h9 => h9) rfl dX6_isFamily_7 ?_
  refine lv_lload_n hx hb dX6_isFamily_10 rfl (lv_at hl 4 rfl) ?_
  refine lv_iload hx hb dX6_isFamily_11 (lv_at hl 0 rfl) ?_
  refine lv_i2l (v := (a0 + a1).toInt64) hx hb dX6_isFamily_13 rfl ?_
  refine lv_lmul hx hb dX6_isFamily_14 ?_
  refine lv_ladd hx hb dX6_isFamily_15 ?_
  refine va_put (D := z.1) (ci := 6) (v := .long ((gL σ 0 10) + (a2 * ((a0 + a1).toInt64)))) (ty := .long) (C := RX6) (T := TX6) (N := 29) hx hb hts in_X6 tyX6 tyX6_ok nmX6 hown hK hP (wl_D hz _) hS 0 (wl_at (by decide) cX6) rfl 10 (by decide) (hts (.fieldLink RX6 94 "TillOneOfSortModel" "children" "J") (by decide +kernel)) (fun _ h9 => h9) rfl (by decide +kernel) rfl rfl (Nat.le_of_ble_eq_true rfl) dX6_isFamily_16 (fun H locs hP _ hS => ?_)
  rw [sX6L (by decide)] at hP
  refine lv_aload_n hx hb dX6_isFamily_19 rfl (lv_at hl 1 rfl) ?_
  refine lv_dup hx hb dX6_isFamily_20 rfl ?_
  refine va_get (D := z.1) (ci := 6) (v := .long (gL (pL σ 0 10 ((gL σ 0 10) + (a2 * ((a0 + a1).toInt64)))) 0 11)) (C := RX6) (T := TX6) (N := 29) hx hb hts in_X6 hown hK hP 0 (wl_at (by decide) cX6) rfl 11 (by decide) (hts (.fieldLink RX6 98 "TillOneOfSortModel" "ones" "J") (by decide +kernel)) (fun _ h9 => h9) rfl dX6_isFamily_21 ?_
  refine lv_lload_n hx hb dX6_isFamily_24 rfl (lv_at hl 4 rfl) ?_
  refine lv_iload_n hx hb dX6_isFamily_25 rfl (lv_at hl 2 rfl) ?_
  refine lv_i2l (v := a0.toInt64) hx hb dX6_isFamily_26 rfl ?_
  refine lv_lmul hx hb dX6_isFamily_27 ?_
  refine lv_ladd hx hb dX6_isFamily_28 ?_
  refine va_put (D := z.1) (ci := 6) (v := .long ((gL (pL σ 0 10 ((gL σ 0 10) + (a2 * ((a0 + a1).toInt64)))) 0 11) + (a2 * (a0.toInt64)))) (ty := .long) (C := RX6) (T := TX6) (N := 29) hx hb hts in_X6 tyX6 tyX6_ok nmX6 hown hK hP (wl_D hz _) hS 0 (wl_at (by decide) cX6) rfl 11 (by decide) (hts (.fieldLink RX6 98 "TillOneOfSortModel" "ones" "J") (by decide +kernel)) (fun _ h9 => h9) rfl (by decide +kernel) rfl rfl (Nat.le_of_ble_eq_true rfl) dX6_isFamily_29 (fun H locs hP _ hS => ?_)
  rw [sX6L (by decide)] at hP
  refine lv_aload_n hx hb dX6_isFamily_32 rfl (lv_at hl 1 rfl) ?_
  refine lv_dup hx hb dX6_isFamily_33 rfl ?_
  refine va_get (D := z.1) (ci := 6) (v := .long (gL (pL (pL σ 0 10 ((gL σ 0 10) + (a2 * ((a0 + a1).toInt64)))) 0 11 ((gL (pL σ 0 10 ((gL σ 0 10) + (a2 * ((a0 + a1).toInt64)))) 0 11) + (a2 * (a0.toInt64)))) 0 12)) (C := RX6) (T := TX6) (N := 29) hx hb hts in_X6 hown hK hP 0 (wl_at (by decide) cX6) rfl 12 (by decide) (hts (.fieldLink RX6 101 "TillOneOfSortModel" "shares" "J") (by decide +kernel)) (fun _ h9 => h9) rfl dX6_isFamily_34 ?_
  refine lv_lload_n hx hb dX6_isFamily_37 rfl (lv_at hl 4 rfl) ?_
  refine lv_sipush (v := (2520 : Int32)) hx hb dX6_isFamily_38 (by decide) ?_
  refine lv_iload hx hb dX6_isFamily_41 (lv_at hl 0 rfl) ?_
  obtain ⟨c_1001, hf⟩ := x_ck hf
  refine lv_idiv hx hb dX6_isFamily_43 c_1001 ?_
  refine lv_iload_n hx hb dX6_isFamily_44 rfl (lv_at hl 2 rfl) ?_
  refine lv_imul hx hb dX6_isFamily_45 ?_
  refine lv_i2l (v := (((2520 : Int32) / (a0 + a1)) * a0).toInt64) hx hb dX6_isFamily_46 rfl ?_
  refine lv_lmul hx hb dX6_isFamily_47 ?_
  refine lv_ladd hx hb dX6_isFamily_48 ?_
  refine va_put (D := z.1) (ci := 6) (v := .long ((gL (pL (pL σ 0 10 ((gL σ 0 10) + (a2 * ((a0 + a1).toInt64)))) 0 11 ((gL (pL σ 0 10 ((gL σ 0 10) + (a2 * ((a0 + a1).toInt64)))) 0 11) + (a2 * (a0.toInt64)))) 0 12) + (a2 * ((((2520 : Int32) / (a0 + a1)) * a0).toInt64)))) (ty := .long) (C := RX6) (T := TX6) (N := 29) hx hb hts in_X6 tyX6 tyX6_ok nmX6 hown hK hP (wl_D hz _) hS 0 (wl_at (by decide) cX6) rfl 12 (by decide) (hts (.fieldLink RX6 101 "TillOneOfSortModel" "shares" "J") (by decide +kernel)) (fun _ h9 => h9) rfl (by decide +kernel) rfl rfl (Nat.le_of_ble_eq_true rfl) dX6_isFamily_49 (fun H locs hP _ hS => ?_)
  rw [sX6L (by decide)] at hP
  refine lv_aload_n hx hb dX6_isFamily_52 rfl (lv_at hl 1 rfl) ?_
  refine lv_dup hx hb dX6_isFamily_53 rfl ?_
  refine va_get (D := z.1) (ci := 6) (v := .long (gL (pL (pL (pL σ 0 10 ((gL σ 0 10) + (a2 * ((a0 + a1).toInt64)))) 0 11 ((gL (pL σ 0 10 ((gL σ 0 10) + (a2 * ((a0 + a1).toInt64)))) 0 11) + (a2 * (a0.toInt64)))) 0 12 ((gL (pL (pL σ 0 10 ((gL σ 0 10) + (a2 * ((a0 + a1).toInt64)))) 0 11 ((gL (pL σ 0 10 ((gL σ 0 10) + (a2 * ((a0 + a1).toInt64)))) 0 11) + (a2 * (a0.toInt64)))) 0 12) + (a2 * ((((2520 : Int32) / (a0 + a1)) * a0).toInt64)))) 0 13)) (C := RX6) (T := TX6) (N := 29) hx hb hts in_X6 hown hK hP 0 (wl_at (by decide) cX6) rfl 13 (by decide) (hts (.fieldLink RX6 104 "TillOneOfSortModel" "more" "J") (by decide +kernel)) (fun _ h9 => h9) rfl dX6_isFamily_54 ?_
  refine lv_iload_n hx hb dX6_isFamily_57 rfl (lv_at hl 2 rfl) ?_
  refine lv_iload_n hx hb dX6_isFamily_58 rfl (lv_at hl 3 rfl) ?_
  refine lv_icmp_le (tgt := 66) hx hb dX6_isFamily_59 (by decide) (fun c_1002 => ?_) (fun c_1002 => ?_)
  · have hf := (if_pos c_1002).symm.trans hf
    refine lv_lconst (v := (0 : Int64)) hx hb dX6_isFamily_66 rfl ?_
    exact j_67 a0 a1 a2 a3 (a0 + a1) (0 : Int64) (gL (pL (pL (pL σ 0 10 ((gL σ 0 10) + (a2 * ((a0 + a1).toInt64)))) 0 11 ((gL (pL σ 0 10 ((gL σ 0 10) + (a2 * ((a0 + a1).toInt64)))) 0 11) + (a2 * (a0.toInt64)))) 0 12 ((gL (pL (pL σ 0 10 ((gL σ 0 10) + (a2 * ((a0 + a1).toInt64)))) 0 11 ((gL (pL σ 0 10 ((gL σ 0 10) + (a2 * ((a0 + a1).toInt64)))) 0 11) + (a2 * (a0.toInt64)))) 0 12) + (a2 * ((((2520 : Int32) / (a0 + a1)) * a0).toInt64)))) 0 13) (pL (pL (pL σ 0 10 ((gL σ 0 10) + (a2 * ((a0 + a1).toInt64)))) 0 11 ((gL (pL σ 0 10 ((gL σ 0 10) + (a2 * ((a0 + a1).toInt64)))) 0 11) + (a2 * (a0.toInt64)))) 0 12 ((gL (pL (pL σ 0 10 ((gL σ 0 10) + (a2 * ((a0 + a1).toInt64)))) 0 11 ((gL (pL σ 0 10 ((gL σ 0 10) + (a2 * ((a0 + a1).toInt64)))) 0 11) + (a2 * (a0.toInt64)))) 0 12) + (a2 * ((((2520 : Int32) / (a0 + a1)) * a0).toInt64)))) _ _ _ hP hS (lv_sub hl [1, 2, 3, 4, 5, 0] rfl) hf
  · have hf := (if_neg c_1002).symm.trans hf
    refine lv_lload_n hx hb dX6_isFamily_62 rfl (lv_at hl 4 rfl) ?_
    refine lv_goto (tgt := 67) hx hb dX6_isFamily_63 (by decide) ?_
    exact j_67 a0 a1 a2 a3 (a0 + a1) a2 (gL (pL (pL (pL σ 0 10 ((gL σ 0 10) + (a2 * ((a0 + a1).toInt64)))) 0 11 ((gL (pL σ 0 10 ((gL σ 0 10) + (a2 * ((a0 + a1).toInt64)))) 0 11) + (a2 * (a0.toInt64)))) 0 12 ((gL (pL (pL σ 0 10 ((gL σ 0 10) + (a2 * ((a0 + a1).toInt64)))) 0 11 ((gL (pL σ 0 10 ((gL σ 0 10) + (a2 * ((a0 + a1).toInt64)))) 0 11) + (a2 * (a0.toInt64)))) 0 12) + (a2 * ((((2520 : Int32) / (a0 + a1)) * a0).toInt64)))) 0 13) (pL (pL (pL σ 0 10 ((gL σ 0 10) + (a2 * ((a0 + a1).toInt64)))) 0 11 ((gL (pL σ 0 10 ((gL σ 0 10) + (a2 * ((a0 + a1).toInt64)))) 0 11) + (a2 * (a0.toInt64)))) 0 12 ((gL (pL (pL σ 0 10 ((gL σ 0 10) + (a2 * ((a0 + a1).toInt64)))) 0 11 ((gL (pL σ 0 10 ((gL σ 0 10) + (a2 * ((a0 + a1).toInt64)))) 0 11) + (a2 * (a0.toInt64)))) 0 12) + (a2 * ((((2520 : Int32) / (a0 + a1)) * a0).toInt64)))) _ _ _ hP hS (lv_sub hl [1, 2, 3, 4, 5, 0] rfl) hf
set_option maxHeartbeats 40000000 in
set_option maxRecDepth 100000 in
theorem kX6_goesOn (l : Launch) (z : Cx) (hz : okC 8 z) : ∀ (n : Nat) {a0 : Int32} {a1 : Int32} {a2 : Int32} {a3 : Int32} {a4 : Int32} {a5 : Int32} {a6 : Int64}  {σ σ' : Mm} , fX6_goesOn n a0 a1 a2 a3 a4 a5 a6 σ = some σ' → KG 8 ceM l yX6_goesOn wsX6_goesOn (n + 2) (29 * n + 48) [.ref (z.2.1 0), .int a0, .int a1, .int a2, .int a3, .int a4, .int a5, .long a6] z σ σ' none := by
  intro n
  induction n with
  | zero =>
    intro a0 a1 a2 a3 a4 a5 a6 σ σ' hf
    rw [fX6_goesOn] at hf
    cases hf
  | succ n ihr =>
    intro a0 a1 a2 a3 a4 a5 a6 σ σ' hf
    rw [fX6_goesOn] at hf
    refine Met.ofW (cc := cX6_goesOn) (maxL := 10) (ret := none) (by decide) rfl ?_
    intro p e s m args below meth c s₁ B hml hv
    obtain ⟨rfl, hP, hK, hE⟩ := hv
    have hx := B.exec
    have hb := B.bytes
    have hr := B.returns
    have hts := atoms_spec (ws := wsX6_goesOn) B.pre
    have hown : s.vm.findClass RX6 = some m.cls := findClass_of_methodNamed B.named
    have hlocks := B.notSynchronized
    have hS : va_S (aG 8 z) s.heap s.heap [] := va_S.rf
    have hl := lv_entry ([.ref (z.2.1 0), .int a0, .int a1, .int a2, .int a3, .int a4, .int a5, .long a6]) (n := 10) (Nat.le_of_ble_eq_true rfl)
    rw [lg_entry_eq]
    generalize (lg_sl ([.ref (z.2.1 0), .int a0, .int a1, .int a2, .int a3, .int a4, .int a5, .long a6]) ++ List.replicate (10 - (lg_sl ([.ref (z.2.1 0), .int a0, .int a1, .int a2, .int a3, .int a4, .int a5, .long a6])).length) Slot.unset).toArray = ls at hl ⊢
    have hl : lv_has ls 10 [(0, .ref (z.2.1 0)), (1, .int a0), (2, .int a1), (3, .int a2), (4, .int a3), (5, .int a4), (6, .int a5), (7, .long a6)] := hl
    have j_99 : ∀ (v7 : Int64) (v9 : Int32) (t0 : Int32) (t1 : Int32) (t2 : Int32) (t3 : Int32) (t4 : Int32) (t5 : Int32) (σ : Mm) (H : Heap) (locs : List Loc) (ls : Array Slot), va_P z.1 vwCl (wl 8 z.2.1 (ceM z σ)) H → va_S (aG 8 z) s.heap H locs → lv_has ls 10 [(7, .long v7), (9, .int v9)] → fX6_goesOn_99 (fun wa0 wa1 wa2 wa3 wa4 wa5 wa6 wσ => fX6_goesOn n wa0 wa1 wa2 wa3 wa4 wa5 wa6 wσ) v7 v9 t0 t1 t2 t3 t4 t5 σ = some σ' → W p l e (headSpec wsX6_goesOn ({ frames := n + 1 + 2, cells := 0, slots := 0, locals := 29 * (n + 1) + 48 })).room s m ([.ref (z.2.1 0), .int a0, .int a1, .int a2, .int a3, .int a4, .int a5, .long a6] : List Value).toArray below meth c H locs 0 0 (MQ below (qcG 8 ceM z σ' none) ([.ref (z.2.1 0), .int a0, .int a1, .int a2, .int a3, .int a4, .int a5, .long a6] : List Value).toArray s 0 0 (aG 8 z)) (F0 m 99 ls [.int t0, .int t1, .int t2, .int t3, .int t4, .int t5, .ref (z.2.1 0)]) := by
      intro v7 v9 t0 t1 t2 t3 t4 t5 σ H locs ls hP hS hl hf
      rw [fX6_goesOn_99] at hf
      refine lv_lload hx hb dX6_goesOn_99 (lv_at hl 0 rfl) ?_
      refine lv_ldc2 (v := (12 : Int64)) hx hb hown (hts (.constantLong RX6 142 (12 : Int64)) (by decide +kernel)) dX6_goesOn_101 ?_
      refine lv_ldiv hx hb dX6_goesOn_104 (by decide) ?_
      refine lv_bipush (v := (12 : Int32)) hx hb dX6_goesOn_105 (by decide) ?_
      refine lv_iload hx hb dX6_goesOn_107 (lv_at hl 1 rfl) ?_
      refine lv_isub hx hb dX6_goesOn_109 ?_
      refine lv_i2l (v := ((12 : Int32) - v9).toInt64) hx hb dX6_goesOn_110 rfl ?_
      refine lv_lmul hx hb dX6_goesOn_111 ?_
      obtain ⟨q_6, hq_6, hf⟩ := x_bd hf
      refine x_callGv (va_runV (As := [.int t5, .int t4, .int t3, .int t2, .int t1, .int t0, .long ((v7 / (12 : Int64)) * (((12 : Int32) - v9).toInt64))]) (rest := []) ⟨hx, hb, hml, hown, hts⟩ (ihr hq_6) (cwV 7 hts gX6_goesOn_X6_goesOn rfl rfl rfl (by decide +kernel) ⟨(by show n + 2 + 1 ≤ n + 1 + 2; omega), (by show 8 + (10 + 11) + (29 * n + 48) ≤ 29 * (n + 1) + 48; omega)⟩) (pvG hK hP hE hS (va_recv hK hP (ci := 6) (q0 := 0) rfl (wl_at (by decide) cX6))) rfl rfl hl.1 rfl (lv_room (Nat.le_of_ble_eq_true rfl)) dX6_goesOn_112 ⟨Nat.zero_le _, Nat.zero_le _⟩) hS (fun H locs hP hS => ?_)
      exact x_vret hx hb hr hlocks hP hS dX6_goesOn_115 (Option.some.inj hf)
    have j_67 : ∀ (v1 : Int32) (v2 : Int32) (v3 : Int32) (v6 : Int32) (v7 : Int64) (v9 : Int32) (t0 : Int32) (t1 : Int32) (t2 : Int32) (t3 : Int32) (t4 : Int32) (t5 : Int32) (σ : Mm) (H : Heap) (locs : List Loc) (ls : Array Slot), va_P z.1 vwCl (wl 8 z.2.1 (ceM z σ)) H → va_S (aG 8 z) s.heap H locs → lv_has ls 10 [(0, .ref (z.2.1 0)), (1, .int v1), (2, .int v2), (3, .int v3), (6, .int v6), (7, .long v7), (9, .int v9)] → fX6_goesOn_67 (fun wa0 wa1 wa2 wa3 wa4 wa5 wa6 wσ => fX6_goesOn n wa0 wa1 wa2 wa3 wa4 wa5 wa6 wσ) v1 v2 v3 v6 v7 v9 t0 t1 t2 t3 t4 t5 σ = some σ' → W p l e (headSpec wsX6_goesOn ({ frames := n + 1 + 2, cells := 0, slots := 0, locals := 29 * (n + 1) + 48 })).room s m ([.ref (z.2.1 0), .int a0, .int a1, .int a2, .int a3, .int a4, .int a5, .long a6] : List Value).toArray below meth c H locs 0 0 (MQ below (qcG 8 ceM z σ' none) ([.ref (z.2.1 0), .int a0, .int a1, .int a2, .int a3, .int a4, .int a5, .long a6] : List Value).toArray s 0 0 (aG 8 z)) (F0 m 67 ls [.int t0, .int t1, .int t2, .int t3, .int t4, .int t5, .ref (z.2.1 0)]) := by
      intro v1 v2 v3 v6 v7 v9 t0 t1 t2 t3 t4 t5 σ H locs ls hP hS hl hf
      rw [fX6_goesOn_67] at hf
      refine lv_lload hx hb dX6_goesOn_67 (lv_at hl 5 rfl) ?_
      refine lv_ldc2 (v := (12 : Int64)) hx hb hown (hts (.constantLong RX6 142 (12 : Int64)) (by decide +kernel)) dX6_goesOn_69 ?_
      refine lv_ldiv hx hb dX6_goesOn_72 (by decide) ?_
      refine lv_iload hx hb dX6_goesOn_73 (lv_at hl 6 rfl) ?_
      refine lv_i2l (v := v9.toInt64) hx hb dX6_goesOn_75 rfl ?_
      refine lv_lmul hx hb dX6_goesOn_76 ?_
      obtain ⟨q_7, hq_7, hf⟩ := x_bd hf
      refine x_callGv (va_runV (As := [.int t5, .int t4, .int t3, .int t2, .int t1, .int t0, .long ((v7 / (12 : Int64)) * (v9.toInt64))]) (rest := []) ⟨hx, hb, hml, hown, hts⟩ (ihr hq_7) (cwV 7 hts gX6_goesOn_X6_goesOn rfl rfl rfl (by decide +kernel) ⟨(by show n + 2 + 1 ≤ n + 1 + 2; omega), (by show 8 + (10 + 11) + (29 * n + 48) ≤ 29 * (n + 1) + 48; omega)⟩) (pvG hK hP hE hS (va_recv hK hP (ci := 6) (q0 := 0) rfl (wl_at (by decide) cX6))) rfl rfl hl.1 rfl (lv_room (Nat.le_of_ble_eq_true rfl)) dX6_goesOn_77 ⟨Nat.zero_le _, Nat.zero_le _⟩) hS (fun H locs hP hS => ?_)
      refine lv_aload_n hx hb dX6_goesOn_80 rfl (lv_at hl 0 rfl) ?_
      refine lv_iload_n hx hb dX6_goesOn_81 rfl (lv_at hl 1 rfl) ?_
      refine lv_iload_n hx hb dX6_goesOn_82 rfl (lv_at hl 2 rfl) ?_
      refine lv_iload_n hx hb dX6_goesOn_83 rfl (lv_at hl 3 rfl) ?_
      refine lv_iconst (v := (1 : Int32)) hx hb dX6_goesOn_84 (by decide) ?_
      refine lv_iadd hx hb dX6_goesOn_85 ?_
      refine lv_iconst (v := (0 : Int32)) hx hb dX6_goesOn_86 (by decide) ?_
      refine lv_iconst (v := (0 : Int32)) hx hb dX6_goesOn_87 (by decide) ?_
      refine lv_iload hx hb dX6_goesOn_88 (lv_at hl 4 rfl) ?_
      refine lv_if_ge (tgt := 97) hx hb dX6_goesOn_90 (by decide) (fun c_8 => ?_) (fun c_8 => ?_)
      · have hf := (if_pos c_8).symm.trans hf
        refine lv_iload hx hb dX6_goesOn_97 (lv_at hl 4 rfl) ?_
        exact j_99 v7 v9 v6 (0 : Int32) (0 : Int32) (v3 + (1 : Int32)) v2 v1 q_7 _ _ _ hP hS (lv_sub hl [5, 6] rfl) hf
      · have hf := (if_neg c_8).symm.trans hf
        refine lv_iconst (v := (0 : Int32)) hx hb dX6_goesOn_93 (by decide) ?_
        refine lv_goto (tgt := 99) hx hb dX6_goesOn_94 (by decide) ?_
        exact j_99 v7 v9 (0 : Int32) (0 : Int32) (0 : Int32) (v3 + (1 : Int32)) v2 v1 q_7 _ _ _ hP hS (lv_sub hl [5, 6] rfl) hf
    have j_37 : ∀ (v1 : Int32) (v2 : Int32) (v3 : Int32) (v4 : Int32) (v5 : Int32) (v6 : Int32) (v7 : Int64) (σ : Mm) (H : Heap) (locs : List Loc) (ls : Array Slot), va_P z.1 vwCl (wl 8 z.2.1 (ceM z σ)) H → va_S (aG 8 z) s.heap H locs → lv_has ls 10 [(0, .ref (z.2.1 0)), (1, .int v1), (2, .int v2), (3, .int v3), (4, .int v4), (5, .int v5), (6, .int v6), (7, .long v7)] → fX6_goesOn_37 (fun wa0 wa1 wa2 wa3 wa4 wa5 wa6 wσ => fX6_goesOn n wa0 wa1 wa2 wa3 wa4 wa5 wa6 wσ) v1 v2 v3 v4 v5 v6 v7 σ = some σ' → W p l e (headSpec wsX6_goesOn ({ frames := n + 1 + 2, cells := 0, slots := 0, locals := 29 * (n + 1) + 48 })).room s m ([.ref (z.2.1 0), .int a0, .int a1, .int a2, .int a3, .int a4, .int a5, .long a6] : List Value).toArray below meth c H locs 0 0 (MQ below (qcG 8 ceM z σ' none) ([.ref (z.2.1 0), .int a0, .int a1, .int a2, .int a3, .int a4, .int a5, .long a6] : List Value).toArray s 0 0 (aG 8 z)) (F0 m 37 ls []) := by
      intro v1 v2 v3 v4 v5 v6 v7 σ H locs ls hP hS hl hf
      rw [fX6_goesOn_37] at hf
      refine lv_aload_n hx hb dX6_goesOn_37 rfl (lv_at hl 0 rfl) ?_
      refine lv_iload hx hb dX6_goesOn_38 (lv_at hl 5 rfl) ?_
      obtain ⟨q_9, hq_9, hf⟩ := x_bd hf
      refine x_callGi (va_runV (As := [.int v5]) (rest := []) ⟨hx, hb, hml, hown, hts⟩ (kX6_twelfths l z hz hq_9) (cwV 1 hts gX6_goesOn_X6_twelfths rfl rfl rfl (by decide +kernel) ⟨(by show 0 + 1 ≤ n + 1 + 2; omega), (by show 8 + (4 + 11) + (0) ≤ 29 * (n + 1) + 48; omega)⟩) (pvG hK hP hE hS (va_recv hK hP (ci := 6) (q0 := 0) rfl (wl_at (by decide) cX6))) rfl rfl hl.1 rfl (lv_room (Nat.le_of_ble_eq_true rfl)) dX6_goesOn_40 ⟨Nat.zero_le _, Nat.zero_le _⟩) hS (fun H locs hP hS => ?_)
      refine lv_istore (lv' := [(9, .int q_9), (0, .ref (z.2.1 0)), (1, .int v1), (2, .int v2), (3, .int v3), (4, .int v4), (5, .int v5), (6, .int v6), (7, .long v7)]) hx hb dX6_goesOn_43 hl (by decide) rfl (fun ls hl => ?_)
      refine lv_aload_n hx hb dX6_goesOn_45 rfl (lv_at hl 1 rfl) ?_
      refine lv_iload_n hx hb dX6_goesOn_46 rfl (lv_at hl 2 rfl) ?_
      refine lv_iload_n hx hb dX6_goesOn_47 rfl (lv_at hl 3 rfl) ?_
      refine lv_iconst (v := (1 : Int32)) hx hb dX6_goesOn_48 (by decide) ?_
      refine lv_iadd hx hb dX6_goesOn_49 ?_
      refine lv_iload_n hx hb dX6_goesOn_50 rfl (lv_at hl 4 rfl) ?_
      refine lv_iload hx hb dX6_goesOn_51 (lv_at hl 5 rfl) ?_
      refine lv_iconst (v := (1 : Int32)) hx hb dX6_goesOn_53 (by decide) ?_
      refine lv_iadd hx hb dX6_goesOn_54 ?_
      refine lv_iconst (v := (1 : Int32)) hx hb dX6_goesOn_55 (by decide) ?_
      refine lv_iload hx hb dX6_goesOn_56 (lv_at hl 7 rfl) ?_
      refine lv_if_ge (tgt := 65) hx hb dX6_goesOn_58 (by decide) (fun c_10 => ?_) (fun c_10 => ?_)
      · have hf := (if_pos c_10).symm.trans hf
        refine lv_iload hx hb dX6_goesOn_65 (lv_at hl 7 rfl) ?_
        exact j_67 v1 v2 v3 v6 v7 q_9 v6 (1 : Int32) (v4 + (1 : Int32)) v3 (v2 + (1 : Int32)) v1 σ _ _ _ hP hS (lv_sub hl [1, 2, 3, 4, 7, 8, 0] rfl) hf
      · have hf := (if_neg c_10).symm.trans hf
        refine lv_iconst (v := (1 : Int32)) hx hb dX6_goesOn_61 (by decide) ?_
        refine lv_goto (tgt := 67) hx hb dX6_goesOn_62 (by decide) ?_
        exact j_67 v1 v2 v3 v6 v7 q_9 (1 : Int32) (1 : Int32) (v4 + (1 : Int32)) v3 (v2 + (1 : Int32)) v1 σ _ _ _ hP hS (lv_sub hl [1, 2, 3, 4, 7, 8, 0] rfl) hf
    refine lv_lload hx hb dX6_goesOn_0 (lv_at hl 7 rfl) ?_
    refine lv_lconst (v := (0 : Int64)) hx hb dX6_goesOn_2 rfl ?_
    refine W.lcmp hx hb dX6_goesOn_3 ?_
    refine lv_if_ne (tgt := 8) hx hb dX6_goesOn_4 (by decide) (fun c_1001 => ?_) (fun c_1001 => ?_)
    · have hf := (if_neg c_1001).symm.trans hf
      refine lv_iload_n hx hb dX6_goesOn_8 rfl (lv_at hl 2 rfl) ?_
      refine lv_iload_n hx hb dX6_goesOn_9 rfl (lv_at hl 3 rfl) ?_
      refine lv_iadd hx hb dX6_goesOn_10 ?_
      refine lv_if_le (tgt := 37) hx hb dX6_goesOn_11 (by decide) (fun c_1002 => ?_) (fun c_1002 => ?_)
      · have hf := (if_pos c_1002).symm.trans hf
        exact j_37 a0 a1 a2 a3 a4 a5 a6 σ _ _ _ hP hS (lv_sub hl [0, 1, 2, 3, 4, 5, 6, 7] rfl) hf
      · have hf := (if_neg c_1002).symm.trans hf
        refine lv_aload_n hx hb dX6_goesOn_14 rfl (lv_at hl 0 rfl) ?_
        refine lv_iload_n hx hb dX6_goesOn_15 rfl (lv_at hl 1 rfl) ?_
        refine lv_iload_n hx hb dX6_goesOn_16 rfl (lv_at hl 2 rfl) ?_
        refine lv_iload_n hx hb dX6_goesOn_17 rfl (lv_at hl 3 rfl) ?_
        refine lv_iload hx hb dX6_goesOn_18 (lv_at hl 4 rfl) ?_
        obtain ⟨q_1003, hq_1003, hf⟩ := x_bd hf
        refine x_callGi (va_runV (As := [.int a0, .int a1, .int a2, .int a3]) (rest := []) ⟨hx, hb, hml, hown, hts⟩ (kX6_endsBy l z hz hq_1003) (cwV 4 hts gX6_goesOn_X6_endsBy rfl rfl rfl (by decide +kernel) ⟨(by show 1 + 1 ≤ n + 1 + 2; omega), (by show 8 + (5 + 11) + (24) ≤ 29 * (n + 1) + 48; omega)⟩) (pvG hK hP hE hS (va_recv hK hP (ci := 6) (q0 := 0) rfl (wl_at (by decide) cX6))) rfl rfl hl.1 rfl (lv_room (Nat.le_of_ble_eq_true rfl)) dX6_goesOn_20 ⟨Nat.zero_le _, Nat.zero_le _⟩) hS (fun H locs hP hS => ?_)
        refine lv_if_eq (tgt := 37) hx hb dX6_goesOn_23 (by decide) (fun c_1004 => ?_) (fun c_1004 => ?_)
        · have hf := (if_pos c_1004).symm.trans hf
          exact j_37 a0 a1 a2 a3 a4 a5 a6 σ _ _ _ hP hS (lv_sub hl [0, 1, 2, 3, 4, 5, 6, 7] rfl) hf
        · have hf := (if_neg c_1004).symm.trans hf
          refine lv_aload_n hx hb dX6_goesOn_26 rfl (lv_at hl 0 rfl) ?_
          refine lv_iload_n hx hb dX6_goesOn_27 rfl (lv_at hl 2 rfl) ?_
          refine lv_iload_n hx hb dX6_goesOn_28 rfl (lv_at hl 3 rfl) ?_
          refine lv_lload hx hb dX6_goesOn_29 (lv_at hl 7 rfl) ?_
          refine lv_iload hx hb dX6_goesOn_31 (lv_at hl 6 rfl) ?_
          obtain ⟨q_1005, hq_1005, hf⟩ := x_bd hf
          refine x_callGv (va_runV (As := [.int a1, .int a2, .long a6, .int a5]) (rest := []) ⟨hx, hb, hml, hown, hts⟩ (kX6_isFamily l z hz hq_1005) (cwV 4 hts gX6_goesOn_X6_isFamily rfl rfl rfl (by decide +kernel) ⟨(by show 0 + 1 ≤ n + 1 + 2; omega), (by show 8 + (7 + 11) + (0) ≤ 29 * (n + 1) + 48; omega)⟩) (pvG hK hP hE hS (va_recv hK hP (ci := 6) (q0 := 0) rfl (wl_at (by decide) cX6))) rfl rfl hl.1 rfl (lv_room (Nat.le_of_ble_eq_true rfl)) dX6_goesOn_33 ⟨Nat.zero_le _, Nat.zero_le _⟩) hS (fun H locs hP hS => ?_)
          exact x_vret hx hb hr hlocks hP hS dX6_goesOn_36 (Option.some.inj hf)
    · have hf := (if_pos c_1001).symm.trans hf
      exact x_vret hx hb hr hlocks hP hS dX6_goesOn_7 (Option.some.inj hf)
set_option maxHeartbeats 40000000 in
set_option maxRecDepth 100000 in
theorem kX6_finds (l : Launch) (z : Cx) (hz : okC 8 z) {a0 : Int32}  {σ σ' : Mm} (hf : fX6_finds a0 σ = some σ') : KG 8 ceM l yX6_finds wsX6_finds (15) (425) [.ref (z.2.1 0), .int a0] z σ σ' none := by
  rw [fX6_finds] at hf
  refine Met.ofW (cc := cX6_finds) (maxL := 3) (ret := none) (by decide) rfl ?_
  intro p e s m args below meth c s₁ B hml hv
  obtain ⟨rfl, hP, hK, hE⟩ := hv
  have hx := B.exec
  have hb := B.bytes
  have hr := B.returns
  have hts := atoms_spec (ws := wsX6_finds) B.pre
  have hown : s.vm.findClass RX6 = some m.cls := findClass_of_methodNamed B.named
  have hlocks := B.notSynchronized
  have in_X6 : ∀ w ∈ wsX60, w ∈ wsX6_finds := by decide +kernel
  have hS : va_S (aG 8 z) s.heap s.heap [] := va_S.rf
  have hl := lv_entry ([.ref (z.2.1 0), .int a0]) (n := 3) (Nat.le_of_ble_eq_true rfl)
  rw [lg_entry_eq]
  generalize (lg_sl ([.ref (z.2.1 0), .int a0]) ++ List.replicate (3 - (lg_sl ([.ref (z.2.1 0), .int a0])).length) Slot.unset).toArray = ls at hl ⊢
  have hl : lv_has ls 3 [(0, .ref (z.2.1 0)), (1, .int a0)] := hl
  have L_82 : ∀ (n_82 : Nat) (v1 : Int32) (v2 : Int32) (σ : Mm) (H : Heap) (locs : List Loc) (ls : Array Slot), va_P z.1 vwCl (wl 8 z.2.1 (ceM z σ)) H → va_S (aG 8 z) s.heap H locs → lv_has ls 3 [(0, .ref (z.2.1 0)), (1, .int v1), (2, .int v2)] → fX6_finds_82 n_82 v1 v2 σ = some σ' → W p l e (headSpec wsX6_finds ({ frames := 15, cells := 0, slots := 0, locals := 425 })).room s m ([.ref (z.2.1 0), .int a0] : List Value).toArray below meth c H locs 0 0 (MQ below (qcG 8 ceM z σ' none) ([.ref (z.2.1 0), .int a0] : List Value).toArray s 0 0 (aG 8 z)) (F0 m 82 ls []) := by
    intro n_82
    induction n_82 with
    | zero =>
      intro v1 v2 σ H locs ls hP hS hl hf
      rw [fX6_finds_82] at hf
      cases hf
    | succ n_82 ih_82 =>
      intro v1 v2 σ H locs ls hP hS hl hf
      rw [fX6_finds_82] at hf
      refine lv_iload_n hx hb dX6_finds_82 rfl (lv_at hl 2 rfl) ?_
      refine lv_bipush (v := (10 : Int32)) hx hb dX6_finds_83 (by decide) ?_
      refine lv_icmp_gt (tgt := 101) hx hb dX6_finds_85 (by decide) (fun c_1 => ?_) (fun c_1 => ?_)
      · have hf := (if_pos c_1).symm.trans hf
        refine lv_aload_n hx hb dX6_finds_101 rfl (lv_at hl 0 rfl) ?_
        refine lv_iload_n hx hb dX6_finds_102 rfl (lv_at hl 1 rfl) ?_
        refine lv_iconst (v := (0 : Int32)) hx hb dX6_finds_103 (by decide) ?_
        refine lv_iconst (v := (0 : Int32)) hx hb dX6_finds_104 (by decide) ?_
        refine lv_iconst (v := (0 : Int32)) hx hb dX6_finds_105 (by decide) ?_
        refine lv_bipush (v := (-9 : Int32)) hx hb dX6_finds_106 (by decide) ?_
        refine lv_bipush (v := (-9 : Int32)) hx hb dX6_finds_108 (by decide) ?_
        refine lv_aload_n hx hb dX6_finds_110 rfl (lv_at hl 0 rfl) ?_
        refine va_get (D := z.1) (ci := 6) (v := .long (gL σ 0 9)) (C := RX6) (T := TX6) (N := 29) hx hb hts in_X6 hown hK hP 0 (wl_at (by decide) cX6) rfl 9 (by decide) (hts (.fieldLink RX6 148 "TillOneOfSortModel" "whole" "J") (by decide +kernel)) (fun _ h9 => h9) rfl dX6_finds_111 ?_
        obtain ⟨q_2, hq_2, hf⟩ := x_bd hf
        refine x_callGv (va_runV (As := [.int v1, .int (0 : Int32), .int (0 : Int32), .int (0 : Int32), .int (-9 : Int32), .int (-9 : Int32), .long (gL σ 0 9)]) (rest := []) ⟨hx, hb, hml, hown, hts⟩ (kX6_goesOn l z hz 12 hq_2) (cwV 7 hts gX6_finds_X6_goesOn rfl rfl rfl (by decide +kernel) ⟨Nat.le_of_ble_eq_true rfl, Nat.le_of_ble_eq_true rfl⟩) (pvG hK hP hE hS (va_recv hK hP (ci := 6) (q0 := 0) rfl (wl_at (by decide) cX6))) rfl rfl hl.1 rfl (lv_room (Nat.le_of_ble_eq_true rfl)) dX6_finds_114 ⟨Nat.zero_le _, Nat.zero_le _⟩) hS (fun H locs hP hS => ?_)
        exact x_vret hx hb hr hlocks hP hS dX6_finds_117 (Option.some.inj hf)
      · have hf := (if_neg c_1).symm.trans hf
        refine lv_aload_n hx hb dX6_finds_88 rfl (lv_at hl 0 rfl) ?_
        refine va_get (D := z.1) (ci := 6) (v := .ref (z.2.1 7)) (C := RX6) (T := TX6) (N := 29) hx hb hts in_X6 hown hK hP 0 (wl_at (by decide) cX6) rfl 19 (by decide) (hts (.fieldLink RX6 28 "TillOneOfSortModel" "sized" "[J") (by decide +kernel)) (fun _ h9 => h9) rfl dX6_finds_89 ?_
        refine lv_iload_n hx hb dX6_finds_92 rfl (lv_at hl 2 rfl) ?_
        refine lv_lconst (v := (0 : Int64)) hx hb dX6_finds_93 rfl ?_
        obtain ⟨c_3, hf⟩ := x_ck hf
        refine va_last hx hb hK hP (wl_D hz _) hS 7 1 (wl_at (by decide) cMJ) rfl (ci_in c_3) dX6_finds_94 (fun H locs hP _ hS => ?_)
        rw [sMJ] at hP
        refine lv_iinc (v := (v2 + (1 : Int32))) (lv' := [(2, .int (v2 + (1 : Int32))), (0, .ref (z.2.1 0)), (1, .int v1)]) hx hb dX6_finds_95 hl (k := 2) rfl rfl (by decide) rfl (fun ls hl => ?_)
        refine lv_goto (tgt := 82) hx hb dX6_finds_98 (by decide) ?_
        exact ih_82 v1 (v2 + (1 : Int32)) (pL σ 7 v2.toNatClampNeg (0 : Int64)) _ _ _ hP hS (lv_sub hl [1, 2, 0] rfl) hf
  have L_7 : ∀ (n_7 : Nat) (v1 : Int32) (v2 : Int32) (σ : Mm) (H : Heap) (locs : List Loc) (ls : Array Slot), va_P z.1 vwCl (wl 8 z.2.1 (ceM z σ)) H → va_S (aG 8 z) s.heap H locs → lv_has ls 3 [(0, .ref (z.2.1 0)), (1, .int v1), (2, .int v2)] → fX6_finds_7 n_7 v1 v2 σ = some σ' → W p l e (headSpec wsX6_finds ({ frames := 15, cells := 0, slots := 0, locals := 425 })).room s m ([.ref (z.2.1 0), .int a0] : List Value).toArray below meth c H locs 0 0 (MQ below (qcG 8 ceM z σ' none) ([.ref (z.2.1 0), .int a0] : List Value).toArray s 0 0 (aG 8 z)) (F0 m 7 ls []) := by
    intro n_7
    induction n_7 with
    | zero =>
      intro v1 v2 σ H locs ls hP hS hl hf
      rw [fX6_finds_7] at hf
      cases hf
    | succ n_7 ih_7 =>
      intro v1 v2 σ H locs ls hP hS hl hf
      rw [fX6_finds_7] at hf
      refine lv_iload_n hx hb dX6_finds_7 rfl (lv_at hl 2 rfl) ?_
      refine lv_aload_n hx hb dX6_finds_8 rfl (lv_at hl 0 rfl) ?_
      refine va_get (D := z.1) (ci := 6) (v := .ref (z.2.1 2)) (C := RX6) (T := TX6) (N := 29) hx hb hts in_X6 hown hK hP 0 (wl_at (by decide) cX6) rfl 1 (by decide) (hts (.fieldLink RX6 13 "TillOneOfSortModel" "s" "[I") (by decide +kernel)) (fun _ h9 => h9) rfl dX6_finds_9 ?_
      refine lv_iconst (v := (0 : Int32)) hx hb dX6_finds_12 (by decide) ?_
      obtain ⟨c_4, hf⟩ := x_ck hf
      refine va_iald hx hb hK hP 2 0 (wl_at (i22_lt (rfl : isI22 2 = true)) (cMI22 (rfl : isI22 2 = true))) rfl (ci_in c_4) dX6_finds_13 ?_
      refine lv_icmp_ge (tgt := 35) hx hb dX6_finds_14 (by decide) (fun c_5 => ?_) (fun c_5 => ?_)
      · have hf := (if_pos c_5).symm.trans hf
        refine lv_aload_n hx hb dX6_finds_35 rfl (lv_at hl 0 rfl) ?_
        refine lv_lconst (v := (0 : Int64)) hx hb dX6_finds_36 rfl ?_
        refine va_put (D := z.1) (ci := 6) (v := .long (0 : Int64)) (ty := .long) (C := RX6) (T := TX6) (N := 29) hx hb hts in_X6 tyX6 tyX6_ok nmX6 hown hK hP (wl_D hz _) hS 0 (wl_at (by decide) cX6) rfl 10 (by decide) (hts (.fieldLink RX6 94 "TillOneOfSortModel" "children" "J") (by decide +kernel)) (fun _ h9 => h9) rfl (by decide +kernel) rfl rfl (Nat.le_of_ble_eq_true rfl) dX6_finds_37 (fun H locs hP _ hS => ?_)
        rw [sX6L (by decide)] at hP
        refine lv_aload_n hx hb dX6_finds_40 rfl (lv_at hl 0 rfl) ?_
        refine lv_lconst (v := (0 : Int64)) hx hb dX6_finds_41 rfl ?_
        refine va_put (D := z.1) (ci := 6) (v := .long (0 : Int64)) (ty := .long) (C := RX6) (T := TX6) (N := 29) hx hb hts in_X6 tyX6 tyX6_ok nmX6 hown hK hP (wl_D hz _) hS 0 (wl_at (by decide) cX6) rfl 11 (by decide) (hts (.fieldLink RX6 98 "TillOneOfSortModel" "ones" "J") (by decide +kernel)) (fun _ h9 => h9) rfl (by decide +kernel) rfl rfl (Nat.le_of_ble_eq_true rfl) dX6_finds_42 (fun H locs hP _ hS => ?_)
        rw [sX6L (by decide)] at hP
        refine lv_aload_n hx hb dX6_finds_45 rfl (lv_at hl 0 rfl) ?_
        refine lv_lconst (v := (0 : Int64)) hx hb dX6_finds_46 rfl ?_
        refine va_put (D := z.1) (ci := 6) (v := .long (0 : Int64)) (ty := .long) (C := RX6) (T := TX6) (N := 29) hx hb hts in_X6 tyX6 tyX6_ok nmX6 hown hK hP (wl_D hz _) hS 0 (wl_at (by decide) cX6) rfl 12 (by decide) (hts (.fieldLink RX6 101 "TillOneOfSortModel" "shares" "J") (by decide +kernel)) (fun _ h9 => h9) rfl (by decide +kernel) rfl rfl (Nat.le_of_ble_eq_true rfl) dX6_finds_47 (fun H locs hP _ hS => ?_)
        rw [sX6L (by decide)] at hP
        refine lv_aload_n hx hb dX6_finds_50 rfl (lv_at hl 0 rfl) ?_
        refine lv_lconst (v := (0 : Int64)) hx hb dX6_finds_51 rfl ?_
        refine va_put (D := z.1) (ci := 6) (v := .long (0 : Int64)) (ty := .long) (C := RX6) (T := TX6) (N := 29) hx hb hts in_X6 tyX6 tyX6_ok nmX6 hown hK hP (wl_D hz _) hS 0 (wl_at (by decide) cX6) rfl 13 (by decide) (hts (.fieldLink RX6 104 "TillOneOfSortModel" "more" "J") (by decide +kernel)) (fun _ h9 => h9) rfl (by decide +kernel) rfl rfl (Nat.le_of_ble_eq_true rfl) dX6_finds_52 (fun H locs hP _ hS => ?_)
        rw [sX6L (by decide)] at hP
        refine lv_aload_n hx hb dX6_finds_55 rfl (lv_at hl 0 rfl) ?_
        refine lv_lconst (v := (0 : Int64)) hx hb dX6_finds_56 rfl ?_
        refine va_put (D := z.1) (ci := 6) (v := .long (0 : Int64)) (ty := .long) (C := RX6) (T := TX6) (N := 29) hx hb hts in_X6 tyX6 tyX6_ok nmX6 hown hK hP (wl_D hz _) hS 0 (wl_at (by decide) cX6) rfl 14 (by decide) (hts (.fieldLink RX6 107 "TillOneOfSortModel" "alike" "J") (by decide +kernel)) (fun _ h9 => h9) rfl (by decide +kernel) rfl rfl (Nat.le_of_ble_eq_true rfl) dX6_finds_57 (fun H locs hP _ hS => ?_)
        rw [sX6L (by decide)] at hP
        refine lv_aload_n hx hb dX6_finds_60 rfl (lv_at hl 0 rfl) ?_
        refine lv_lconst (v := (0 : Int64)) hx hb dX6_finds_61 rfl ?_
        refine va_put (D := z.1) (ci := 6) (v := .long (0 : Int64)) (ty := .long) (C := RX6) (T := TX6) (N := 29) hx hb hts in_X6 tyX6 tyX6_ok nmX6 hown hK hP (wl_D hz _) hS 0 (wl_at (by decide) cX6) rfl 15 (by decide) (hts (.fieldLink RX6 110 "TillOneOfSortModel" "meets" "J") (by decide +kernel)) (fun _ h9 => h9) rfl (by decide +kernel) rfl rfl (Nat.le_of_ble_eq_true rfl) dX6_finds_62 (fun H locs hP _ hS => ?_)
        rw [sX6L (by decide)] at hP
        refine lv_aload_n hx hb dX6_finds_65 rfl (lv_at hl 0 rfl) ?_
        refine lv_lconst (v := (0 : Int64)) hx hb dX6_finds_66 rfl ?_
        refine va_put (D := z.1) (ci := 6) (v := .long (0 : Int64)) (ty := .long) (C := RX6) (T := TX6) (N := 29) hx hb hts in_X6 tyX6 tyX6_ok nmX6 hown hK hP (wl_D hz _) hS 0 (wl_at (by decide) cX6) rfl 16 (by decide) (hts (.fieldLink RX6 113 "TillOneOfSortModel" "pairs" "J") (by decide +kernel)) (fun _ h9 => h9) rfl (by decide +kernel) rfl rfl (Nat.le_of_ble_eq_true rfl) dX6_finds_67 (fun H locs hP _ hS => ?_)
        rw [sX6L (by decide)] at hP
        refine lv_aload_n hx hb dX6_finds_70 rfl (lv_at hl 0 rfl) ?_
        refine lv_lconst (v := (0 : Int64)) hx hb dX6_finds_71 rfl ?_
        refine va_put (D := z.1) (ci := 6) (v := .long (0 : Int64)) (ty := .long) (C := RX6) (T := TX6) (N := 29) hx hb hts in_X6 tyX6 tyX6_ok nmX6 hown hK hP (wl_D hz _) hS 0 (wl_at (by decide) cX6) rfl 17 (by decide) (hts (.fieldLink RX6 125 "TillOneOfSortModel" "says" "J") (by decide +kernel)) (fun _ h9 => h9) rfl (by decide +kernel) rfl rfl (Nat.le_of_ble_eq_true rfl) dX6_finds_72 (fun H locs hP _ hS => ?_)
        rw [sX6L (by decide)] at hP
        refine lv_aload_n hx hb dX6_finds_75 rfl (lv_at hl 0 rfl) ?_
        refine lv_lconst (v := (0 : Int64)) hx hb dX6_finds_76 rfl ?_
        refine va_put (D := z.1) (ci := 6) (v := .long (0 : Int64)) (ty := .long) (C := RX6) (T := TX6) (N := 29) hx hb hts in_X6 tyX6 tyX6_ok nmX6 hown hK hP (wl_D hz _) hS 0 (wl_at (by decide) cX6) rfl 18 (by decide) (hts (.fieldLink RX6 128 "TillOneOfSortModel" "eldest" "J") (by decide +kernel)) (fun _ h9 => h9) rfl (by decide +kernel) rfl rfl (Nat.le_of_ble_eq_true rfl) dX6_finds_77 (fun H locs hP _ hS => ?_)
        rw [sX6L (by decide)] at hP
        refine lv_iconst (v := (0 : Int32)) hx hb dX6_finds_80 (by decide) ?_
        refine lv_istore_n (lv' := [(2, .int (0 : Int32)), (0, .ref (z.2.1 0)), (1, .int v1)]) hx hb dX6_finds_81 rfl hl (by decide) rfl (fun ls hl => ?_)
        exact L_82 1000 v1 (0 : Int32) (pL (pL (pL (pL (pL (pL (pL (pL (pL σ 0 10 (0 : Int64)) 0 11 (0 : Int64)) 0 12 (0 : Int64)) 0 13 (0 : Int64)) 0 14 (0 : Int64)) 0 15 (0 : Int64)) 0 16 (0 : Int64)) 0 17 (0 : Int64)) 0 18 (0 : Int64)) _ _ _ hP hS (lv_sub hl [1, 2, 0] rfl) hf
      · have hf := (if_neg c_5).symm.trans hf
        refine lv_aload_n hx hb dX6_finds_17 rfl (lv_at hl 0 rfl) ?_
        refine lv_dup hx hb dX6_finds_18 rfl ?_
        refine va_get (D := z.1) (ci := 6) (v := .long (gL σ 0 9)) (C := RX6) (T := TX6) (N := 29) hx hb hts in_X6 hown hK hP 0 (wl_at (by decide) cX6) rfl 9 (by decide) (hts (.fieldLink RX6 148 "TillOneOfSortModel" "whole" "J") (by decide +kernel)) (fun _ h9 => h9) rfl dX6_finds_19 ?_
        refine lv_ldc2 (v := (12 : Int64)) hx hb hown (hts (.constantLong RX6 142 (12 : Int64)) (by decide +kernel)) dX6_finds_22 ?_
        refine lv_lmul hx hb dX6_finds_25 ?_
        refine va_put (D := z.1) (ci := 6) (v := .long ((gL σ 0 9) * (12 : Int64))) (ty := .long) (C := RX6) (T := TX6) (N := 29) hx hb hts in_X6 tyX6 tyX6_ok nmX6 hown hK hP (wl_D hz _) hS 0 (wl_at (by decide) cX6) rfl 9 (by decide) (hts (.fieldLink RX6 148 "TillOneOfSortModel" "whole" "J") (by decide +kernel)) (fun _ h9 => h9) rfl (by decide +kernel) rfl rfl (Nat.le_of_ble_eq_true rfl) dX6_finds_26 (fun H locs hP _ hS => ?_)
        rw [sX6L (by decide)] at hP
        refine lv_iinc (v := (v2 + (1 : Int32))) (lv' := [(2, .int (v2 + (1 : Int32))), (0, .ref (z.2.1 0)), (1, .int v1)]) hx hb dX6_finds_29 hl (k := 2) rfl rfl (by decide) rfl (fun ls hl => ?_)
        refine lv_goto (tgt := 7) hx hb dX6_finds_32 (by decide) ?_
        exact ih_7 v1 (v2 + (1 : Int32)) (pL σ 0 9 ((gL σ 0 9) * (12 : Int64))) _ _ _ hP hS (lv_sub hl [1, 2, 0] rfl) hf
  refine lv_aload_n hx hb dX6_finds_0 rfl (lv_at hl 0 rfl) ?_
  refine lv_lconst (v := (1 : Int64)) hx hb dX6_finds_1 rfl ?_
  refine va_put (D := z.1) (ci := 6) (v := .long (1 : Int64)) (ty := .long) (C := RX6) (T := TX6) (N := 29) hx hb hts in_X6 tyX6 tyX6_ok nmX6 hown hK hP (wl_D hz _) hS 0 (wl_at (by decide) cX6) rfl 9 (by decide) (hts (.fieldLink RX6 148 "TillOneOfSortModel" "whole" "J") (by decide +kernel)) (fun _ h9 => h9) rfl (by decide +kernel) rfl rfl (Nat.le_of_ble_eq_true rfl) dX6_finds_2 (fun H locs hP _ hS => ?_)
  rw [sX6L (by decide)] at hP
  refine lv_iconst (v := (0 : Int32)) hx hb dX6_finds_5 (by decide) ?_
  refine lv_istore_n (lv' := [(2, .int (0 : Int32)), (0, .ref (z.2.1 0)), (1, .int a0)]) hx hb dX6_finds_6 rfl hl (by decide) rfl (fun ls hl => ?_)
  exact L_7 1000 a0 (0 : Int32) (pL σ 0 9 (1 : Int64)) _ _ _ hP hS (lv_sub hl [1, 2, 0] rfl) hf
set_option maxHeartbeats 40000000 in
set_option maxRecDepth 100000 in
theorem kX6_common (l : Launch) : ∀ (n : Nat) {a0 : Int64} {a1 : Int64}  {r : Int64} , fX6_common n a0 a1 = some r → KS l yX6_common wsX6_common (n + 0) (23 * n + 0) [.long a0, .long a1] (some (.long r)) := by
  intro n
  induction n with
  | zero =>
    intro a0 a1 r hf
    rw [fX6_common] at hf
    cases hf
  | succ n ihr =>
    intro a0 a1 r hf
    rw [fX6_common] at hf
    refine Met.ofW (cc := cX6_common) (maxL := 4) (ret := (some .long)) (by decide) rfl ?_
    intro p e s m args below meth c s₁ B hml hv
    obtain ⟨rfl, -⟩ := hv
    have hx := B.exec
    have hb := B.bytes
    have hr := B.returns
    have hts := atoms_spec (ws := wsX6_common) B.pre
    have hown : s.vm.findClass RX6 = some m.cls := findClass_of_methodNamed B.named
    have hlocks := B.notSynchronized
    have hl := lv_entry ([.long a0, .long a1]) (n := 4) (Nat.le_of_ble_eq_true rfl)
    rw [lg_entry_eq]
    generalize (lg_sl ([.long a0, .long a1]) ++ List.replicate (4 - (lg_sl ([.long a0, .long a1])).length) Slot.unset).toArray = ls at hl ⊢
    have hl : lv_has ls 4 [(0, .long a0), (2, .long a1)] := hl
    refine lv_lload_n hx hb dX6_common_0 rfl (lv_at hl 1 rfl) ?_
    refine lv_lconst (v := (0 : Int64)) hx hb dX6_common_1 rfl ?_
    refine W.lcmp hx hb dX6_common_2 ?_
    refine lv_if_ne (tgt := 10) hx hb dX6_common_3 (by decide) (fun c_1001 => ?_) (fun c_1001 => ?_)
    · have hf := (if_neg c_1001).symm.trans hf
      refine lv_lload_n hx hb dX6_common_10 rfl (lv_at hl 1 rfl) ?_
      refine lv_lload_n hx hb dX6_common_11 rfl (lv_at hl 0 rfl) ?_
      refine lv_lload_n hx hb dX6_common_12 rfl (lv_at hl 1 rfl) ?_
      obtain ⟨c_1002, hf⟩ := x_ck hf
      refine lv_lrem hx hb dX6_common_13 c_1002 ?_
      obtain ⟨q_1003, hq_1003, hf⟩ := x_bd hf
      refine x_callSl (va_runS (As := [.long a1, .long (a0 - a0 / a1 * a1)]) (rest := []) ⟨hx, hb, hml, hown, hts⟩ (ihr hq_1003) (va_cwS 2 hts gX6_common_X6_common rfl rfl rfl (by decide +kernel) ⟨(by show n + 0 + 1 ≤ n + 1 + 0; omega), (by show 8 + (4 + 11) + (23 * n + 0) ≤ 23 * (n + 1) + 0; omega)⟩) psS rfl rfl hl.1 rfl (lv_room (Nat.le_of_ble_eq_true rfl)) dX6_common_14 ⟨Nat.zero_le _, Nat.zero_le _⟩) ?_
      exact xs_lret hx hb hr hlocks dX6_common_17 (Option.some.inj hf)
    · have hf := (if_pos c_1001).symm.trans hf
      refine lv_lload_n hx hb dX6_common_6 rfl (lv_at hl 0 rfl) ?_
      refine lv_goto (tgt := 17) hx hb dX6_common_7 (by decide) ?_
      exact xs_lret hx hb hr hlocks dX6_common_17 (Option.some.inj hf)
set_option maxHeartbeats 40000000 in
set_option maxRecDepth 100000 in
theorem kX6_part (l : Launch) {a0 : Int64} {a1 : Int64} {a2 : Int32}  {r : Int64} (hf : fX6_part a0 a1 a2 = some r) : KS l yX6_part wsX6_part (201) (4623) [.long a0, .long a1, .int a2] (some (.long r)) := by
  rw [fX6_part] at hf
  refine Met.ofW (cc := cX6_part) (maxL := 7) (ret := (some .long)) (by decide) rfl ?_
  intro p e s m args below meth c s₁ B hml hv
  obtain ⟨rfl, -⟩ := hv
  have hx := B.exec
  have hb := B.bytes
  have hr := B.returns
  have hts := atoms_spec (ws := wsX6_part) B.pre
  have hown : s.vm.findClass RX6 = some m.cls := findClass_of_methodNamed B.named
  have hlocks := B.notSynchronized
  have hl := lv_entry ([.long a0, .long a1, .int a2]) (n := 7) (Nat.le_of_ble_eq_true rfl)
  rw [lg_entry_eq]
  generalize (lg_sl ([.long a0, .long a1, .int a2]) ++ List.replicate (7 - (lg_sl ([.long a0, .long a1, .int a2])).length) Slot.unset).toArray = ls at hl ⊢
  have hl : lv_has ls 7 [(0, .long a0), (2, .long a1), (4, .int a2)] := hl
  refine lv_lload_n hx hb dX6_part_0 rfl (lv_at hl 0 rfl) ?_
  refine lv_lconst (v := (0 : Int64)) hx hb dX6_part_1 rfl ?_
  refine W.lcmp hx hb dX6_part_2 ?_
  refine lv_if_ne (tgt := 10) hx hb dX6_part_3 (by decide) (fun c_1001 => ?_) (fun c_1001 => ?_)
  · have hf := (if_neg c_1001).symm.trans hf
    refine lv_lload_n hx hb dX6_part_10 rfl (lv_at hl 1 rfl) ?_
    refine lv_lload_n hx hb dX6_part_11 rfl (lv_at hl 0 rfl) ?_
    obtain ⟨q_1002, hq_1002, hf⟩ := x_bd hf
    refine x_callSl (va_runS (As := [.long a1, .long a0]) (rest := []) ⟨hx, hb, hml, hown, hts⟩ (kX6_common l 200 hq_1002) (va_cwS 2 hts gX6_part_X6_common rfl rfl rfl (by decide +kernel) ⟨Nat.le_of_ble_eq_true rfl, Nat.le_of_ble_eq_true rfl⟩) psS rfl rfl hl.1 rfl (lv_room (Nat.le_of_ble_eq_true rfl)) dX6_part_12 ⟨Nat.zero_le _, Nat.zero_le _⟩) ?_
    refine lv_lstore (lv' := [(5, .long q_1002), (0, .long a0), (2, .long a1), (4, .int a2)]) hx hb dX6_part_15 hl (by decide) rfl (fun ls hl => ?_)
    refine lv_iload hx hb dX6_part_17 (lv_at hl 3 rfl) ?_
    refine lv_if_ne (tgt := 29) hx hb dX6_part_19 (by decide) (fun c_1003 => ?_) (fun c_1003 => ?_)
    · have hf := (if_neg c_1003).symm.trans hf
      refine lv_lload_n hx hb dX6_part_29 rfl (lv_at hl 2 rfl) ?_
      refine lv_lload hx hb dX6_part_30 (lv_at hl 0 rfl) ?_
      obtain ⟨c_1004, hf⟩ := x_ck hf
      refine lv_ldiv hx hb dX6_part_32 c_1004 ?_
      exact xs_lret hx hb hr hlocks dX6_part_33 (Option.some.inj hf)
    · have hf := (if_pos c_1003).symm.trans hf
      refine lv_lload_n hx hb dX6_part_22 rfl (lv_at hl 1 rfl) ?_
      refine lv_lload hx hb dX6_part_23 (lv_at hl 0 rfl) ?_
      obtain ⟨c_1005, hf⟩ := x_ck hf
      refine lv_ldiv hx hb dX6_part_25 c_1005 ?_
      refine lv_goto (tgt := 33) hx hb dX6_part_26 (by decide) ?_
      exact xs_lret hx hb hr hlocks dX6_part_33 (Option.some.inj hf)
  · have hf := (if_pos c_1001).symm.trans hf
    refine lv_iload hx hb dX6_part_6 (lv_at hl 2 rfl) ?_
    refine lv_i2l (v := a2.toInt64) hx hb dX6_part_8 rfl ?_
    exact xs_lret hx hb hr hlocks dX6_part_9 (Option.some.inj hf)
set_option maxHeartbeats 40000000 in
set_option maxRecDepth 100000 in
theorem kX6_isPart (l : Launch) {a0 : Int32}  {r : Int32} (hf : fX6_isPart a0 = some r) : KS l yX6_isPart wsX6_isPart (1) (21) [.int a0] (some (.int r)) := by
  rw [fX6_isPart] at hf
  refine Met.ofW (cc := cX6_isPart) (maxL := 1) (ret := (some .boolean)) (by decide) rfl ?_
  intro p e s m args below meth c s₁ B hml hv
  obtain ⟨rfl, -⟩ := hv
  have hx := B.exec
  have hb := B.bytes
  have hr := B.returns
  have hts := atoms_spec (ws := wsX6_isPart) B.pre
  have hown : s.vm.findClass RX6 = some m.cls := findClass_of_methodNamed B.named
  have hlocks := B.notSynchronized
  have hl := lv_entry ([.int a0]) (n := 1) (Nat.le_of_ble_eq_true rfl)
  rw [lg_entry_eq]
  generalize (lg_sl ([.int a0]) ++ List.replicate (1 - (lg_sl ([.int a0])).length) Slot.unset).toArray = ls at hl ⊢
  have hl : lv_has ls 1 [(0, .int a0)] := hl
  refine lv_iload_n hx hb dX6_isPart_0 rfl (lv_at hl 0 rfl) ?_
  refine lv_iconst (v := (2 : Int32)) hx hb dX6_isPart_1 (by decide) ?_
  obtain ⟨q_1001, hq_1001, hf⟩ := x_bd hf
  refine x_callSi (va_runS (As := [.int a0, .int (2 : Int32)]) (rest := []) ⟨hx, hb, hml, hown, hts⟩ (kX6_isIn l hq_1001) (va_cwS 2 hts gX6_isPart_X6_isIn rfl rfl rfl (by decide +kernel) ⟨Nat.le_of_ble_eq_true rfl, Nat.le_of_ble_eq_true rfl⟩) psS rfl rfl hl.1 rfl (lv_room (Nat.le_of_ble_eq_true rfl)) dX6_isPart_2 ⟨Nat.zero_le _, Nat.zero_le _⟩) ?_
  obtain ⟨c_1002, hf⟩ := x_ck hf
  exact xs_zret hx hb hr hlocks dX6_isPart_5 (x_nb c_1002) (Option.some.inj hf)
set_option maxHeartbeats 40000000 in
set_option maxRecDepth 100000 in
theorem kX6_mean (l : Launch) (z : Cx) (hz : okC 8 z) {a0 : Int32} {a1 : Int32}  {σ σ' : Mm} {r : Int64} (hf : fX6_mean a0 a1 σ = some (r, σ')) : KG 8 ceM l yX6_mean wsX6_mean (202) (4649) [.ref (z.2.1 0), .int a0, .int a1] z σ σ' (some (.long r)) := by
  rw [fX6_mean] at hf
  refine Met.ofW (cc := cX6_mean) (maxL := 3) (ret := (some .long)) (by decide) rfl ?_
  intro p e s m args below meth c s₁ B hml hv
  obtain ⟨rfl, hP, hK, hE⟩ := hv
  have hx := B.exec
  have hb := B.bytes
  have hr := B.returns
  have hts := atoms_spec (ws := wsX6_mean) B.pre
  have hown : s.vm.findClass RX6 = some m.cls := findClass_of_methodNamed B.named
  have hlocks := B.notSynchronized
  have in_X6 : ∀ w ∈ wsX60, w ∈ wsX6_mean := by decide +kernel
  have hS : va_S (aG 8 z) s.heap s.heap [] := va_S.rf
  have hl := lv_entry ([.ref (z.2.1 0), .int a0, .int a1]) (n := 3) (Nat.le_of_ble_eq_true rfl)
  rw [lg_entry_eq]
  generalize (lg_sl ([.ref (z.2.1 0), .int a0, .int a1]) ++ List.replicate (3 - (lg_sl ([.ref (z.2.1 0), .int a0, .int a1])).length) Slot.unset).toArray = ls at hl ⊢
  have hl : lv_has ls 3 [(0, .ref (z.2.1 0)), (1, .int a0), (2, .int a1)] := hl
  have j_15 : ∀ (σ : Mm) (H : Heap) (locs : List Loc) (ls : Array Slot), va_P z.1 vwCl (wl 8 z.2.1 (ceM z σ)) H → va_S (aG 8 z) s.heap H locs → lv_has ls 3 [(0, .ref (z.2.1 0))] → fX6_mean_15 σ = some (r, σ') → W p l e (headSpec wsX6_mean ({ frames := 202, cells := 0, slots := 0, locals := 4649 })).room s m ([.ref (z.2.1 0), .int a0, .int a1] : List Value).toArray below meth c H locs 0 0 (MQ below (qcG 8 ceM z σ' (some (.long r))) ([.ref (z.2.1 0), .int a0, .int a1] : List Value).toArray s 0 0 (aG 8 z)) (F0 m 15 ls []) := by
    intro σ H locs ls hP hS hl hf
    rw [fX6_mean_15] at hf
    refine lv_aload_n hx hb dX6_mean_15 rfl (lv_at hl 0 rfl) ?_
    refine lv_bipush (v := (-2 : Int32)) hx hb dX6_mean_16 (by decide) ?_
    obtain ⟨q_9, hq_9, hf⟩ := x_bd hf
    refine x_callGl (va_runV (As := [.int (-2 : Int32)]) (rest := []) ⟨hx, hb, hml, hown, hts⟩ (kX6_refuseWide l z hz hq_9) (cwV 1 hts gX6_mean_X6_refuseWide rfl rfl rfl (by decide +kernel) ⟨Nat.le_of_ble_eq_true rfl, Nat.le_of_ble_eq_true rfl⟩) (pvG hK hP hE hS (va_recv hK hP (ci := 6) (q0 := 0) rfl (wl_at (by decide) cX6))) rfl rfl hl.1 rfl (lv_room (Nat.le_of_ble_eq_true rfl)) dX6_mean_18 ⟨Nat.zero_le _, Nat.zero_le _⟩) hS (fun H locs hP hS => ?_)
    exact x_lret hx hb hr hlocks hP hS dX6_mean_21 (Prod.mk.inj (Option.some.inj hf)).1 (Prod.mk.inj (Option.some.inj hf)).2
  have j_64 : ∀ (v2 : Int32) (t0 : Int64) (σ : Mm) (H : Heap) (locs : List Loc) (ls : Array Slot), va_P z.1 vwCl (wl 8 z.2.1 (ceM z σ)) H → va_S (aG 8 z) s.heap H locs → lv_has ls 3 [(0, .ref (z.2.1 0)), (2, .int v2)] → fX6_mean_64 v2 t0 σ = some (r, σ') → W p l e (headSpec wsX6_mean ({ frames := 202, cells := 0, slots := 0, locals := 4649 })).room s m ([.ref (z.2.1 0), .int a0, .int a1] : List Value).toArray below meth c H locs 0 0 (MQ below (qcG 8 ceM z σ' (some (.long r))) ([.ref (z.2.1 0), .int a0, .int a1] : List Value).toArray s 0 0 (aG 8 z)) (F0 m 64 ls [.long t0]) := by
    intro v2 t0 σ H locs ls hP hS hl hf
    rw [fX6_mean_64] at hf
    refine lv_aload_n hx hb dX6_mean_64 rfl (lv_at hl 0 rfl) ?_
    refine va_get (D := z.1) (ci := 6) (v := .long (gL σ 0 9)) (C := RX6) (T := TX6) (N := 29) hx hb hts in_X6 hown hK hP 0 (wl_at (by decide) cX6) rfl 9 (by decide) (hts (.fieldLink RX6 148 "TillOneOfSortModel" "whole" "J") (by decide +kernel)) (fun _ h9 => h9) rfl dX6_mean_65 ?_
    refine lv_iload_n hx hb dX6_mean_68 rfl (lv_at hl 1 rfl) ?_
    obtain ⟨q_10, hq_10, hf⟩ := x_bd hf
    refine x_callSl (va_runS (As := [.long t0, .long (gL σ 0 9), .int v2]) (rest := []) ⟨hx, hb, hml, hown, hts⟩ (kX6_part l hq_10) (va_cwS 3 hts gX6_mean_X6_part rfl rfl rfl (by decide +kernel) ⟨Nat.le_of_ble_eq_true rfl, Nat.le_of_ble_eq_true rfl⟩) psS rfl rfl hl.1 rfl (lv_room (Nat.le_of_ble_eq_true rfl)) dX6_mean_69 ⟨Nat.zero_le _, Nat.zero_le _⟩) ?_
    exact x_lret hx hb hr hlocks hP hS dX6_mean_72 (Prod.mk.inj (Option.some.inj hf)).1 (Prod.mk.inj (Option.some.inj hf)).2
  refine lv_iload_n hx hb dX6_mean_0 rfl (lv_at hl 1 rfl) ?_
  refine lv_iconst (v := (3 : Int32)) hx hb dX6_mean_1 (by decide) ?_
  obtain ⟨q_1001, hq_1001, hf⟩ := x_bd hf
  refine x_callSi (va_runS (As := [.int a0, .int (3 : Int32)]) (rest := []) ⟨hx, hb, hml, hown, hts⟩ (kX6_isIn l hq_1001) (va_cwS 2 hts gX6_mean_X6_isIn rfl rfl rfl (by decide +kernel) ⟨Nat.le_of_ble_eq_true rfl, Nat.le_of_ble_eq_true rfl⟩) psS rfl rfl hl.1 rfl (lv_room (Nat.le_of_ble_eq_true rfl)) dX6_mean_2 ⟨Nat.zero_le _, Nat.zero_le _⟩) ?_
  refine lv_if_eq (tgt := 15) hx hb dX6_mean_5 (by decide) (fun c_1002 => ?_) (fun c_1002 => ?_)
  · have hf := (if_pos c_1002).symm.trans hf
    exact j_15 σ _ _ _ hP hS (lv_sub hl [0] rfl) hf
  · have hf := (if_neg c_1002).symm.trans hf
    refine lv_iload_n hx hb dX6_mean_8 rfl (lv_at hl 2 rfl) ?_
    obtain ⟨q_1003, hq_1003, hf⟩ := x_bd hf
    refine x_callSi (va_runS (As := [.int a1]) (rest := []) ⟨hx, hb, hml, hown, hts⟩ (kX6_isPart l hq_1003) (va_cwS 1 hts gX6_mean_X6_isPart rfl rfl rfl (by decide +kernel) ⟨Nat.le_of_ble_eq_true rfl, Nat.le_of_ble_eq_true rfl⟩) psS rfl rfl hl.1 rfl (lv_room (Nat.le_of_ble_eq_true rfl)) dX6_mean_9 ⟨Nat.zero_le _, Nat.zero_le _⟩) ?_
    refine lv_if_ne (tgt := 22) hx hb dX6_mean_12 (by decide) (fun c_1004 => ?_) (fun c_1004 => ?_)
    · have hf := (if_neg c_1004).symm.trans hf
      refine lv_aload_n hx hb dX6_mean_22 rfl (lv_at hl 0 rfl) ?_
      refine lv_aload_n hx hb dX6_mean_23 rfl (lv_at hl 0 rfl) ?_
      refine va_get (D := z.1) (ci := 6) (v := .ref (z.2.1 2)) (C := RX6) (T := TX6) (N := 29) hx hb hts in_X6 hown hK hP 0 (wl_at (by decide) cX6) rfl 1 (by decide) (hts (.fieldLink RX6 13 "TillOneOfSortModel" "s" "[I") (by decide +kernel)) (fun _ h9 => h9) rfl dX6_mean_24 ?_
      refine lv_iconst (v := (3 : Int32)) hx hb dX6_mean_27 (by decide) ?_
      obtain ⟨c_1005, hf⟩ := x_ck hf
      refine va_iald hx hb hK hP 2 0 (wl_at (i22_lt (rfl : isI22 2 = true)) (cMI22 (rfl : isI22 2 = true))) rfl (ci_in c_1005) dX6_mean_28 ?_
      obtain ⟨q_1006, hq_1006, hf⟩ := x_bd hf
      refine x_callGv (va_runV (As := [.int (gI σ 2 (3 : Int32).toNatClampNeg)]) (rest := []) ⟨hx, hb, hml, hown, hts⟩ (kX6_finds l z hz hq_1006) (cwV 1 hts gX6_mean_X6_finds rfl rfl rfl (by decide +kernel) ⟨Nat.le_of_ble_eq_true rfl, Nat.le_of_ble_eq_true rfl⟩) (pvG hK hP hE hS (va_recv hK hP (ci := 6) (q0 := 0) rfl (wl_at (by decide) cX6))) rfl rfl hl.1 rfl (lv_room (Nat.le_of_ble_eq_true rfl)) dX6_mean_29 ⟨Nat.zero_le _, Nat.zero_le _⟩) hS (fun H locs hP hS => ?_)
      refine lv_iload_n hx hb dX6_mean_32 rfl (lv_at hl 1 rfl) ?_
      refine lv_if_ne (tgt := 43) hx hb dX6_mean_33 (by decide) (fun c_1007 => ?_) (fun c_1007 => ?_)
      · have hf := (if_neg c_1007).symm.trans hf
        refine lv_iload_n hx hb dX6_mean_43 rfl (lv_at hl 1 rfl) ?_
        refine lv_iconst (v := (1 : Int32)) hx hb dX6_mean_44 (by decide) ?_
        refine lv_icmp_ne (tgt := 55) hx hb dX6_mean_45 (by decide) (fun c_1008 => ?_) (fun c_1008 => ?_)
        · have hf := (if_neg c_1008).symm.trans hf
          refine lv_aload_n hx hb dX6_mean_55 rfl (lv_at hl 0 rfl) ?_
          refine va_get (D := z.1) (ci := 6) (v := .long (gL q_1006 0 10)) (C := RX6) (T := TX6) (N := 29) hx hb hts in_X6 hown hK hP 0 (wl_at (by decide) cX6) rfl 10 (by decide) (hts (.fieldLink RX6 94 "TillOneOfSortModel" "children" "J") (by decide +kernel)) (fun _ h9 => h9) rfl dX6_mean_56 ?_
          refine lv_aload_n hx hb dX6_mean_59 rfl (lv_at hl 0 rfl) ?_
          refine va_get (D := z.1) (ci := 6) (v := .long (gL q_1006 0 11)) (C := RX6) (T := TX6) (N := 29) hx hb hts in_X6 hown hK hP 0 (wl_at (by decide) cX6) rfl 11 (by decide) (hts (.fieldLink RX6 98 "TillOneOfSortModel" "ones" "J") (by decide +kernel)) (fun _ h9 => h9) rfl dX6_mean_60 ?_
          refine lv_lsub hx hb dX6_mean_63 ?_
          exact j_64 a1 ((gL q_1006 0 10) - (gL q_1006 0 11)) q_1006 _ _ _ hP hS (lv_sub hl [0, 2] rfl) hf
        · have hf := (if_pos c_1008).symm.trans hf
          refine lv_aload_n hx hb dX6_mean_48 rfl (lv_at hl 0 rfl) ?_
          refine va_get (D := z.1) (ci := 6) (v := .long (gL q_1006 0 11)) (C := RX6) (T := TX6) (N := 29) hx hb hts in_X6 hown hK hP 0 (wl_at (by decide) cX6) rfl 11 (by decide) (hts (.fieldLink RX6 98 "TillOneOfSortModel" "ones" "J") (by decide +kernel)) (fun _ h9 => h9) rfl dX6_mean_49 ?_
          refine lv_goto (tgt := 64) hx hb dX6_mean_52 (by decide) ?_
          exact j_64 a1 (gL q_1006 0 11) q_1006 _ _ _ hP hS (lv_sub hl [0, 2] rfl) hf
      · have hf := (if_pos c_1007).symm.trans hf
        refine lv_aload_n hx hb dX6_mean_36 rfl (lv_at hl 0 rfl) ?_
        refine va_get (D := z.1) (ci := 6) (v := .long (gL q_1006 0 10)) (C := RX6) (T := TX6) (N := 29) hx hb hts in_X6 hown hK hP 0 (wl_at (by decide) cX6) rfl 10 (by decide) (hts (.fieldLink RX6 94 "TillOneOfSortModel" "children" "J") (by decide +kernel)) (fun _ h9 => h9) rfl dX6_mean_37 ?_
        refine lv_goto (tgt := 64) hx hb dX6_mean_40 (by decide) ?_
        exact j_64 a1 (gL q_1006 0 10) q_1006 _ _ _ hP hS (lv_sub hl [0, 2] rfl) hf
    · have hf := (if_pos c_1004).symm.trans hf
      exact j_15 σ _ _ _ hP hS (lv_sub hl [0] rfl) hf
