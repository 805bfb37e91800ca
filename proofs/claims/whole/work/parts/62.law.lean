section LW
variable {p : Program} {l : Launch} {e : Env} {R : Room} {s : State} {m : MethodId} {args : Array Value} {below : List Frame} {meth : Method} {c : Code} {H : Heap} {locs : List Loc} {cells slots : Nat} {Q : State → Prop} {pc : Nat} {ls : Array Slot} {rest st0 : List Value} {a : Array Value} {N : Nat} {ce : Cx → Mm → Nat → va_E} {z : Cx} {σ : Mm} {rv : Option Value} {A0 : Nat → Prop} {H0 : Heap}
theorem en.narrow {A B : Nat → Prop} {U : State} (h : en z A U) (hAB : ∀ q, B q → A q) : en z B U := ⟨h.1, h.2.1.narrow hAB, h.2.2.narrow hAB⟩
theorem pvL {C : String} {b : Addr} {As : List Value} (hK : va_K z.1 vwCl (tyC z) s) (hP : va_P z.1 vwCl (wl N z.2.1 (ce z σ)) H) (hE : en z A0 s) (hS : va_S A0 s.heap H locs) (hA : ∀ q, aG N z q → A0 q) (hr : ∃ cell : Cell, H[b]? = some cell ∧ cell.vm.isStatics = false ∧ s.vm.findClass C = some cell.cls) : PreV s H C b (pcG N ce z σ (.ref b :: As)) As :=
  ⟨pcG.blind, hr, fun U hU hW => ⟨rfl, by rw [hU]; exact hP, hK.moved hW.alike, (hE.go hS hU hW).narrow hA⟩⟩
theorem x_callL (hr : va_Run p l e R s m args below meth c H locs cells slots 0 0 (F0 m pc ls st0) rest (qcG N ce z σ rv a) (aG N z)) (hS : va_S A0 H0 H locs) (hA : ∀ q, aG N z q → A0 q)
    (kk : ∀ (H1 : Heap) (locs1 : List Loc), va_P z.1 vwCl (wl N z.2.1 (ce z σ)) H1 → (∀ q : Nat, q < H.size → ¬ aG N z q → H1[q]? = H[q]?) → va_S A0 H0 H1 locs1 → W p l e R s m args below meth c H1 locs1 cells slots Q (F0 m (pc + 3) ls (rv.toList ++ rest))) : W p l e R s m args below meth c H locs cells slots Q (F0 m pc ls st0) := by
  intro T hT X
  obtain ⟨v, st₀, t, T', L, h0, X', hL, e1, e2, ⟨hv, hp, hz, hk⟩, st⟩ := hr T hT X
  have hv : v = rv := by injection hv
  subst hv
  rw [h0] at hz hk
  obtain ⟨t2, a1, b1⟩ := kk T'.heap (locs ++ L) (by rw [e1]; exact hp) (fun q h1 h2 => by rw [e1]; exact hk q h1 h2) ⟨Nat.le_trans hS.1 (by rw [e1]; exact hz), fun q h1 h2 => by rw [e1, hk q (Nat.lt_of_lt_of_le h1 hS.1) (fun z => h2 (hA q z))]; exact hS.2.1 q h1 h2, fun q hq => by
      rcases List.mem_append.mp hq with h | h
      · exact hS.2.2 q h
      · exact hA _ (hL q h)⟩ T' rfl X'
  exact ⟨t2, st t2 a1, b1⟩
theorem x_callLi {v : Int32} (hr : va_Run p l e R s m args below meth c H locs cells slots 0 0 (F0 m pc ls st0) rest (qcG N ce z σ (some (.int v)) a) (aG N z)) (hS : va_S A0 H0 H locs) (hA : ∀ q, aG N z q → A0 q)
    (kk : ∀ (H1 : Heap) (locs1 : List Loc), va_P z.1 vwCl (wl N z.2.1 (ce z σ)) H1 → (∀ q : Nat, q < H.size → ¬ aG N z q → H1[q]? = H[q]?) → va_S A0 H0 H1 locs1 → W p l e R s m args below meth c H1 locs1 cells slots Q (F0 m (pc + 3) ls (.int v :: rest))) : W p l e R s m args below meth c H locs cells slots Q (F0 m pc ls st0) := x_callL hr hS hA kk
theorem x_callLl {v : Int64} (hr : va_Run p l e R s m args below meth c H locs cells slots 0 0 (F0 m pc ls st0) rest (qcG N ce z σ (some (.long v)) a) (aG N z)) (hS : va_S A0 H0 H locs) (hA : ∀ q, aG N z q → A0 q)
    (kk : ∀ (H1 : Heap) (locs1 : List Loc), va_P z.1 vwCl (wl N z.2.1 (ce z σ)) H1 → (∀ q : Nat, q < H.size → ¬ aG N z q → H1[q]? = H[q]?) → va_S A0 H0 H1 locs1 → W p l e R s m args below meth c H1 locs1 cells slots Q (F0 m (pc + 3) ls (.long v :: rest))) : W p l e R s m args below meth c H locs cells slots Q (F0 m pc ls st0) := x_callL hr hS hA kk
theorem wl_kept {D : va_G} {cl : List vw_C} {ad : Nat → Nat} {ce : Nat → va_E} {H H1 : Heap} {B : Nat → Prop} (h : va_P D cl (wl N ad ce) H) (hk : ∀ q : Nat, q < H.size → ¬ B q → H1[q]? = H[q]?) (hn : ∀ i, i < N → ¬ B (ad i)) : va_P D cl (wl N ad ce) H1 := by
  refine h.kept (fun k x hx => ?_)
  obtain ⟨hi, rfl⟩ := wl_inv hx
  exact hk _ ((h k _ hx).lt) (hn k hi)
theorem law_in {i L : Nat} (hL : L ≤ 3072) (hi : i ≤ L) (h : ¬ nI L - 6 < nI i) : i + 6 ≤ L := by
  rw [Int32.lt_iff_toInt_lt, nI_toInt (by omega), show (6 : Int32) = nI 6 from rfl, pk_sub_toInt (by omega) (by omega)] at h
  omega
theorem law_ix {i L : Nat} (hL : L ≤ 3072) (h : i + 6 ≤ L) (j : Nat) (hj : j < 6) : vp_in (nI i + nI j) L := by
  rw [nI_add]
  exact vp_in_nI (by omega) (by omega)
end LW

set_option maxHeartbeats 80000000 in
set_option maxRecDepth 100000 in
theorem law_loop {p : Program} {l : Launch} {e : Env} {s : State} {m : MethodId} {below : List Frame} {meth : Method} {c : Code} {b L : Nat} {xs : Nat → Int32} (hL : L ≤ 3072) (C0 : lw_At p s m meth c b L xs) (z w : Cx) (hz : okC 40 z) (hw : okC 8 w) (hKz : va_K z.1 vwCl (tyC z) s) (hKw : va_K w.1 vwCl (tyC w) s) (hEz : en z (fun q : Nat => s.heap.size ≤ q) s) (hEw : en w (fun q : Nat => s.heap.size ≤ q) s) (hzs : ∀ q, aG 40 z q → (fun q : Nat => s.heap.size ≤ q) q) (hws : ∀ q, aG 8 w q → (fun q : Nat => s.heap.size ≤ q) q) (hd1 : ∀ i, i < 8 → ¬ aG 40 z (w.2.1 i)) (hd2 : ∀ i, i < 40 → ¬ aG 8 w (z.2.1 i)) (Rel : Mm → Mm → Prop) (hG : lawG Rel) :
    ∀ (n i : Nat), i ≤ L → L + 1 ≤ i + n → ∀ (σ τ : Mm), Rel σ τ → ∀ (H : Heap) (locs : List Loc), va_P z.1 vwCl (wl 40 z.2.1 (ceX z σ)) H → va_P w.1 vwCl (wl 8 w.2.1 (ceM w τ)) H → va_S (fun q : Nat => s.heap.size ≤ q) s.heap H locs → ∀ (ls : Array Slot), lv_has ls 4 [(0, .ref b), (1, .ref (z.2.1 0)), (2, .ref (w.2.1 0)), (3, .int (nI i))] → W p l e room_1 s m #[Value.ref b] below meth c H locs 600000 7302250 (lw_Z below #[Value.ref b] s) (F0 m 18 ls []) := by
  obtain ⟨hx, hb, hr, hml, hown, hts0, hX, hbl, hlocks, hgv⟩ := C0
  have hts : ∀ w ∈ wsL_law, w.before #[Value.ref b] s = true := fun w h => hts0 w (wsL_law_in w h)
  have hbA : ¬ (fun q : Nat => s.heap.size ≤ q) b := Nat.not_le.mpr hbl
  obtain ⟨hG0, hG1, hG2, hG3, hG4, hG5, hG6, hG7, hG8, hG9, hG10, hG11, hG12, hG13, hG14, hG15, hG16, hG17, hG18, hG19, hG20, hG21, hG22, hG23⟩ := hG
  intro n
  induction n with
  | zero =>
    intro i h1 h2
    exact absurd h2 (by omega)
  | succ n ih =>
    intro i hi hin
    have next : ∀ (σ τ : Mm) (H : Heap) (locs : List Loc) (ls : Array Slot), i + 6 ≤ L → Rel σ τ → va_P z.1 vwCl (wl 40 z.2.1 (ceX z σ)) H → va_P w.1 vwCl (wl 8 w.2.1 (ceM w τ)) H → va_S (fun q : Nat => s.heap.size ≤ q) s.heap H locs → lv_has ls 4 [(0, .ref b), (1, .ref (z.2.1 0)), (2, .ref (w.2.1 0)), (3, .int (nI i))] → W p l e room_1 s m #[Value.ref b] below meth c H locs 600000 7302250 (lw_Z below #[Value.ref b] s) (F0 m 825 ls []) := by
      intro σ τ H locs ls h6 hR hPX hPM hS hl
      refine lv_iinc (v := nI (i + 6)) (lv' := [(3, .int (nI (i + 6))), (0, .ref b), (1, .ref (z.2.1 0)), (2, .ref (w.2.1 0))]) hx hb dL_law_825 hl (k := 3) rfl (nI_add i 6) (by decide) rfl (fun ls hl => ?_)
      refine lv_goto (tgt := 18) hx hb dL_law_828 (by decide) ?_
      exact ih (i + 6) h6 (by omega) σ τ hR H locs hPX hPM hS ls (lv_sub hl [1, 2, 3, 0] rfl)
    intro σ τ hR H locs hPX hPM hS ls hl
    refine lv_iload_n hx hb dL_law_18 rfl (lv_at hl 3 rfl) ?_
    refine lv_aload_n hx hb dL_law_19 rfl (lv_at hl 0 rfl) ?_
    refine va_slen hx hb hX hbl hbA hS dL_law_20 ?_
    refine lv_bipush (v := 6) hx hb dL_law_21 (by decide) ?_
    refine lv_isub hx hb dL_law_23 ?_
    refine lv_icmp_gt (tgt := 831) hx hb dL_law_24 (by decide) (fun c_1 => ?_) (fun c_1 => ?_)
    · refine lv_iconst (v := 1) hx hb dL_law_831 (by decide) ?_
      refine va_forget (fun q hq => hS.2.2 q hq) ?_
      exact lw_ret hx hb hr hlocks dL_law_832
    · have h6 : i + 6 ≤ L := law_in hL hi c_1
      have x0 : vp_in (nI i) L := vp_in_nI (by omega) (by omega)
      have x1 : vp_in (nI i + (1 : Int32)) L := law_ix hL h6 1 (by decide)
      have x2 : vp_in (nI i + (2 : Int32)) L := law_ix hL h6 2 (by decide)
      have x3 : vp_in (nI i + (3 : Int32)) L := law_ix hL h6 3 (by decide)
      have x4 : vp_in (nI i + (4 : Int32)) L := law_ix hL h6 4 (by decide)
      have x5 : vp_in (nI i + (5 : Int32)) L := law_ix hL h6 5 (by decide)
      refine lv_aload_n hx hb dL_law_27 rfl (lv_at hl 0 rfl) ?_
      refine lv_iload_n hx hb dL_law_28 rfl (lv_at hl 3 rfl) ?_
      refine va_sld hx hb hX hbl hbA hS x0 dL_law_29 ?_
      refine lv_bipush (v := 31) hx hb dL_law_30 (by decide) ?_
      refine lv_iand hx hb dL_law_32 ?_
      by_cases s_0 : (xs (nI i).toNatClampNeg &&& 31) = 0
      · refine lv_tableIn (off := 111) (tgt := 144) hx hb dL_law_33 (by rw [s_0]; decide) (by rw [s_0]; decide) (by rw [s_0]; rfl) (by decide) ?_
        obtain ⟨r, σ', τ', e1, e2, hR2⟩ := hG0 (xs (nI i + (1 : Int32)).toNatClampNeg) σ τ hR
        refine lv_aload_n hx hb dL_law_144 rfl (lv_at hl 1 rfl) ?_
        refine lv_aload_n hx hb dL_law_145 rfl (lv_at hl 0 rfl) ?_
        refine lv_iload_n hx hb dL_law_146 rfl (lv_at hl 3 rfl) ?_
        refine lv_iconst (v := (1 : Int32)) hx hb dL_law_147 (by decide) ?_
        refine lv_iadd hx hb dL_law_148 ?_
        refine va_sld hx hb hX hbl hbA hS x1 dL_law_149 ?_
        refine x_callLi (va_runV (As := [.int (xs (nI i + (1 : Int32)).toNatClampNeg)]) (rest := []) ⟨hx, hb, hml, hown, hts⟩ (kX5_letter l z hz e1) (cwV 1 hts gL_law_X5_letter rfl rfl rfl (by decide +kernel) ⟨Nat.le_of_ble_eq_true rfl, Nat.le_of_ble_eq_true rfl⟩) (pvL hKz hPX hEz hS hzs (va_recv hKz hPX (ci := 5) (q0 := 0) rfl (wl_at (by decide) cX5))) rfl rfl hl.1 rfl (lv_room (Nat.le_of_ble_eq_true rfl)) dL_law_150 ⟨Nat.le_of_ble_eq_true rfl, Nat.le_of_ble_eq_true rfl⟩) hS hzs (fun H1 locs hP1 hk1 hS => ?_)
        have hPM := wl_kept hPM hk1 hd1
        have hPX := hP1
        refine lv_aload_n hx hb dL_law_153 rfl (lv_at hl 2 rfl) ?_
        refine lv_aload_n hx hb dL_law_154 rfl (lv_at hl 0 rfl) ?_
        refine lv_iload_n hx hb dL_law_155 rfl (lv_at hl 3 rfl) ?_
        refine lv_iconst (v := (1 : Int32)) hx hb dL_law_156 (by decide) ?_
        refine lv_iadd hx hb dL_law_157 ?_
        refine va_sld hx hb hX hbl hbA hS x1 dL_law_158 ?_
        refine x_callLi (va_runV (As := [.int (xs (nI i + (1 : Int32)).toNatClampNeg)]) (rest := [.int r]) ⟨hx, hb, hml, hown, hts⟩ (kX6_letter l w hw e2) (cwV 1 hts gL_law_X6_letter rfl rfl rfl (by decide +kernel) ⟨Nat.le_of_ble_eq_true rfl, Nat.le_of_ble_eq_true rfl⟩) (pvL hKw hPM hEw hS hws (va_recv hKw hPM (ci := 6) (q0 := 0) rfl (wl_at (by decide) cX6))) rfl rfl hl.1 rfl (lv_room (Nat.le_of_ble_eq_true rfl)) dL_law_159 ⟨Nat.le_of_ble_eq_true rfl, Nat.le_of_ble_eq_true rfl⟩) hS hws (fun H1 locs hP1 hk1 hS => ?_)
        have hPX := wl_kept hPX hk1 hd2
        have hPM := hP1
        refine lv_icmp_eq (tgt := 825) hx hb dL_law_162 (by decide) (fun _ => ?_) (fun c9 => absurd rfl c9)
        exact next σ' τ' _ _ _ h6 hR2 hPX hPM hS hl
      · by_cases s_1 : (xs (nI i).toNatClampNeg &&& 31) = 1
        · refine lv_tableIn (off := 134) (tgt := 167) hx hb dL_law_33 (by rw [s_1]; decide) (by rw [s_1]; decide) (by rw [s_1]; rfl) (by decide) ?_
          obtain ⟨r, σ', τ', e1, e2, hR2⟩ := hG1  σ τ hR
          refine lv_aload_n hx hb dL_law_167 rfl (lv_at hl 1 rfl) ?_
          refine x_callLi (va_runV (As := []) (rest := []) ⟨hx, hb, hml, hown, hts⟩ (kX5_land l z hz e1) (cwV 0 hts gL_law_X5_land rfl rfl rfl (by decide +kernel) ⟨Nat.le_of_ble_eq_true rfl, Nat.le_of_ble_eq_true rfl⟩) (pvL hKz hPX hEz hS hzs (va_recv hKz hPX (ci := 5) (q0 := 0) rfl (wl_at (by decide) cX5))) rfl rfl hl.1 rfl (lv_room (Nat.le_of_ble_eq_true rfl)) dL_law_168 ⟨Nat.le_of_ble_eq_true rfl, Nat.le_of_ble_eq_true rfl⟩) hS hzs (fun H1 locs hP1 hk1 hS => ?_)
          have hPM := wl_kept hPM hk1 hd1
          have hPX := hP1
          refine lv_aload_n hx hb dL_law_171 rfl (lv_at hl 2 rfl) ?_
          refine x_callLi (va_runV (As := []) (rest := [.int r]) ⟨hx, hb, hml, hown, hts⟩ (kX6_land l w hw e2) (cwV 0 hts gL_law_X6_land rfl rfl rfl (by decide +kernel) ⟨Nat.le_of_ble_eq_true rfl, Nat.le_of_ble_eq_true rfl⟩) (pvL hKw hPM hEw hS hws (va_recv hKw hPM (ci := 6) (q0 := 0) rfl (wl_at (by decide) cX6))) rfl rfl hl.1 rfl (lv_room (Nat.le_of_ble_eq_true rfl)) dL_law_172 ⟨Nat.le_of_ble_eq_true rfl, Nat.le_of_ble_eq_true rfl⟩) hS hws (fun H1 locs hP1 hk1 hS => ?_)
          have hPX := wl_kept hPX hk1 hd2
          have hPM := hP1
          refine lv_icmp_eq (tgt := 825) hx hb dL_law_175 (by decide) (fun _ => ?_) (fun c9 => absurd rfl c9)
          exact next σ' τ' _ _ _ h6 hR2 hPX hPM hS hl
        · by_cases s_2 : (xs (nI i).toNatClampNeg &&& 31) = 2
          · refine lv_tableIn (off := 147) (tgt := 180) hx hb dL_law_33 (by rw [s_2]; decide) (by rw [s_2]; decide) (by rw [s_2]; rfl) (by decide) ?_
            obtain ⟨r, σ', τ', e1, e2, hR2⟩ := hG2 (xs (nI i + (1 : Int32)).toNatClampNeg) (xs (nI i + (2 : Int32)).toNatClampNeg) σ τ hR
            refine lv_aload_n hx hb dL_law_180 rfl (lv_at hl 1 rfl) ?_
            refine lv_aload_n hx hb dL_law_181 rfl (lv_at hl 0 rfl) ?_
            refine lv_iload_n hx hb dL_law_182 rfl (lv_at hl 3 rfl) ?_
            refine lv_iconst (v := (1 : Int32)) hx hb dL_law_183 (by decide) ?_
            refine lv_iadd hx hb dL_law_184 ?_
            refine va_sld hx hb hX hbl hbA hS x1 dL_law_185 ?_
            refine lv_aload_n hx hb dL_law_186 rfl (lv_at hl 0 rfl) ?_
            refine lv_iload_n hx hb dL_law_187 rfl (lv_at hl 3 rfl) ?_
            refine lv_iconst (v := (2 : Int32)) hx hb dL_law_188 (by decide) ?_
            refine lv_iadd hx hb dL_law_189 ?_
            refine va_sld hx hb hX hbl hbA hS x2 dL_law_190 ?_
            refine x_callLi (va_runV (As := [.int (xs (nI i + (1 : Int32)).toNatClampNeg), .int (xs (nI i + (2 : Int32)).toNatClampNeg)]) (rest := []) ⟨hx, hb, hml, hown, hts⟩ (kX5_law l z hz e1) (cwV 2 hts gL_law_X5_law rfl rfl rfl (by decide +kernel) ⟨Nat.le_of_ble_eq_true rfl, Nat.le_of_ble_eq_true rfl⟩) (pvL hKz hPX hEz hS hzs (va_recv hKz hPX (ci := 5) (q0 := 0) rfl (wl_at (by decide) cX5))) rfl rfl hl.1 rfl (lv_room (Nat.le_of_ble_eq_true rfl)) dL_law_191 ⟨Nat.le_of_ble_eq_true rfl, Nat.le_of_ble_eq_true rfl⟩) hS hzs (fun H1 locs hP1 hk1 hS => ?_)
            have hPM := wl_kept hPM hk1 hd1
            have hPX := hP1
            refine lv_aload_n hx hb dL_law_194 rfl (lv_at hl 2 rfl) ?_
            refine lv_aload_n hx hb dL_law_195 rfl (lv_at hl 0 rfl) ?_
            refine lv_iload_n hx hb dL_law_196 rfl (lv_at hl 3 rfl) ?_
            refine lv_iconst (v := (1 : Int32)) hx hb dL_law_197 (by decide) ?_
            refine lv_iadd hx hb dL_law_198 ?_
            refine va_sld hx hb hX hbl hbA hS x1 dL_law_199 ?_
            refine lv_aload_n hx hb dL_law_200 rfl (lv_at hl 0 rfl) ?_
            refine lv_iload_n hx hb dL_law_201 rfl (lv_at hl 3 rfl) ?_
            refine lv_iconst (v := (2 : Int32)) hx hb dL_law_202 (by decide) ?_
            refine lv_iadd hx hb dL_law_203 ?_
            refine va_sld hx hb hX hbl hbA hS x2 dL_law_204 ?_
            refine x_callLi (va_runV (As := [.int (xs (nI i + (1 : Int32)).toNatClampNeg), .int (xs (nI i + (2 : Int32)).toNatClampNeg)]) (rest := [.int r]) ⟨hx, hb, hml, hown, hts⟩ (kX6_law l w hw e2) (cwV 2 hts gL_law_X6_law rfl rfl rfl (by decide +kernel) ⟨Nat.le_of_ble_eq_true rfl, Nat.le_of_ble_eq_true rfl⟩) (pvL hKw hPM hEw hS hws (va_recv hKw hPM (ci := 6) (q0 := 0) rfl (wl_at (by decide) cX6))) rfl rfl hl.1 rfl (lv_room (Nat.le_of_ble_eq_true rfl)) dL_law_205 ⟨Nat.le_of_ble_eq_true rfl, Nat.le_of_ble_eq_true rfl⟩) hS hws (fun H1 locs hP1 hk1 hS => ?_)
            have hPX := wl_kept hPX hk1 hd2
            have hPM := hP1
            refine lv_icmp_eq (tgt := 825) hx hb dL_law_208 (by decide) (fun _ => ?_) (fun c9 => absurd rfl c9)
            exact next σ' τ' _ _ _ h6 hR2 hPX hPM hS hl
          · by_cases s_3 : (xs (nI i).toNatClampNeg &&& 31) = 3
            · refine lv_tableIn (off := 180) (tgt := 213) hx hb dL_law_33 (by rw [s_3]; decide) (by rw [s_3]; decide) (by rw [s_3]; rfl) (by decide) ?_
              obtain ⟨r, σ', τ', e1, e2, hR2⟩ := hG3 (xs (nI i + (1 : Int32)).toNatClampNeg) (xs (nI i + (2 : Int32)).toNatClampNeg) σ τ hR
              refine lv_aload_n hx hb dL_law_213 rfl (lv_at hl 1 rfl) ?_
              refine lv_aload_n hx hb dL_law_214 rfl (lv_at hl 0 rfl) ?_
              refine lv_iload_n hx hb dL_law_215 rfl (lv_at hl 3 rfl) ?_
              refine lv_iconst (v := (1 : Int32)) hx hb dL_law_216 (by decide) ?_
              refine lv_iadd hx hb dL_law_217 ?_
              refine va_sld hx hb hX hbl hbA hS x1 dL_law_218 ?_
              refine lv_aload_n hx hb dL_law_219 rfl (lv_at hl 0 rfl) ?_
              refine lv_iload_n hx hb dL_law_220 rfl (lv_at hl 3 rfl) ?_
              refine lv_iconst (v := (2 : Int32)) hx hb dL_law_221 (by decide) ?_
              refine lv_iadd hx hb dL_law_222 ?_
              refine va_sld hx hb hX hbl hbA hS x2 dL_law_223 ?_
              refine x_callLi (va_runV (As := [.int (xs (nI i + (1 : Int32)).toNatClampNeg), .int (xs (nI i + (2 : Int32)).toNatClampNeg)]) (rest := []) ⟨hx, hb, hml, hown, hts⟩ (kX5_set l z hz e1) (cwV 2 hts gL_law_X5_set rfl rfl rfl (by decide +kernel) ⟨Nat.le_of_ble_eq_true rfl, Nat.le_of_ble_eq_true rfl⟩) (pvL hKz hPX hEz hS hzs (va_recv hKz hPX (ci := 5) (q0 := 0) rfl (wl_at (by decide) cX5))) rfl rfl hl.1 rfl (lv_room (Nat.le_of_ble_eq_true rfl)) dL_law_224 ⟨Nat.le_of_ble_eq_true rfl, Nat.le_of_ble_eq_true rfl⟩) hS hzs (fun H1 locs hP1 hk1 hS => ?_)
              have hPM := wl_kept hPM hk1 hd1
              have hPX := hP1
              refine lv_aload_n hx hb dL_law_227 rfl (lv_at hl 2 rfl) ?_
              refine lv_aload_n hx hb dL_law_228 rfl (lv_at hl 0 rfl) ?_
              refine lv_iload_n hx hb dL_law_229 rfl (lv_at hl 3 rfl) ?_
              refine lv_iconst (v := (1 : Int32)) hx hb dL_law_230 (by decide) ?_
              refine lv_iadd hx hb dL_law_231 ?_
              refine va_sld hx hb hX hbl hbA hS x1 dL_law_232 ?_
              refine lv_aload_n hx hb dL_law_233 rfl (lv_at hl 0 rfl) ?_
              refine lv_iload_n hx hb dL_law_234 rfl (lv_at hl 3 rfl) ?_
              refine lv_iconst (v := (2 : Int32)) hx hb dL_law_235 (by decide) ?_
              refine lv_iadd hx hb dL_law_236 ?_
              refine va_sld hx hb hX hbl hbA hS x2 dL_law_237 ?_
              refine x_callLi (va_runV (As := [.int (xs (nI i + (1 : Int32)).toNatClampNeg), .int (xs (nI i + (2 : Int32)).toNatClampNeg)]) (rest := [.int r]) ⟨hx, hb, hml, hown, hts⟩ (kX6_set l w hw e2) (cwV 2 hts gL_law_X6_set rfl rfl rfl (by decide +kernel) ⟨Nat.le_of_ble_eq_true rfl, Nat.le_of_ble_eq_true rfl⟩) (pvL hKw hPM hEw hS hws (va_recv hKw hPM (ci := 6) (q0 := 0) rfl (wl_at (by decide) cX6))) rfl rfl hl.1 rfl (lv_room (Nat.le_of_ble_eq_true rfl)) dL_law_238 ⟨Nat.le_of_ble_eq_true rfl, Nat.le_of_ble_eq_true rfl⟩) hS hws (fun H1 locs hP1 hk1 hS => ?_)
              have hPX := wl_kept hPX hk1 hd2
              have hPM := hP1
              refine lv_icmp_eq (tgt := 825) hx hb dL_law_241 (by decide) (fun _ => ?_) (fun c9 => absurd rfl c9)
              exact next σ' τ' _ _ _ h6 hR2 hPX hPM hS hl
            · by_cases s_4 : (xs (nI i).toNatClampNeg &&& 31) = 4
              · refine lv_tableIn (off := 213) (tgt := 246) hx hb dL_law_33 (by rw [s_4]; decide) (by rw [s_4]; decide) (by rw [s_4]; rfl) (by decide) ?_
                obtain ⟨r, σ', τ', e1, e2, hR2⟩ := hG4 (xs (nI i + (1 : Int32)).toNatClampNeg) (xs (nI i + (2 : Int32)).toNatClampNeg) (xs (nI i + (3 : Int32)).toNatClampNeg) σ τ hR
                refine lv_aload_n hx hb dL_law_246 rfl (lv_at hl 1 rfl) ?_
                refine lv_aload_n hx hb dL_law_247 rfl (lv_at hl 0 rfl) ?_
                refine lv_iload_n hx hb dL_law_248 rfl (lv_at hl 3 rfl) ?_
                refine lv_iconst (v := (1 : Int32)) hx hb dL_law_249 (by decide) ?_
                refine lv_iadd hx hb dL_law_250 ?_
                refine va_sld hx hb hX hbl hbA hS x1 dL_law_251 ?_
                refine lv_aload_n hx hb dL_law_252 rfl (lv_at hl 0 rfl) ?_
                refine lv_iload_n hx hb dL_law_253 rfl (lv_at hl 3 rfl) ?_
                refine lv_iconst (v := (2 : Int32)) hx hb dL_law_254 (by decide) ?_
                refine lv_iadd hx hb dL_law_255 ?_
                refine va_sld hx hb hX hbl hbA hS x2 dL_law_256 ?_
                refine lv_aload_n hx hb dL_law_257 rfl (lv_at hl 0 rfl) ?_
                refine lv_iload_n hx hb dL_law_258 rfl (lv_at hl 3 rfl) ?_
                refine lv_iconst (v := (3 : Int32)) hx hb dL_law_259 (by decide) ?_
                refine lv_iadd hx hb dL_law_260 ?_
                refine va_sld hx hb hX hbl hbA hS x3 dL_law_261 ?_
                refine x_callLi (va_runV (As := [.int (xs (nI i + (1 : Int32)).toNatClampNeg), .int (xs (nI i + (2 : Int32)).toNatClampNeg), .int (xs (nI i + (3 : Int32)).toNatClampNeg)]) (rest := []) ⟨hx, hb, hml, hown, hts⟩ (kX5_stops l z hz e1) (cwV 3 hts gL_law_X5_stops rfl rfl rfl (by decide +kernel) ⟨Nat.le_of_ble_eq_true rfl, Nat.le_of_ble_eq_true rfl⟩) (pvL hKz hPX hEz hS hzs (va_recv hKz hPX (ci := 5) (q0 := 0) rfl (wl_at (by decide) cX5))) rfl rfl hl.1 rfl (lv_room (Nat.le_of_ble_eq_true rfl)) dL_law_262 ⟨Nat.le_of_ble_eq_true rfl, Nat.le_of_ble_eq_true rfl⟩) hS hzs (fun H1 locs hP1 hk1 hS => ?_)
                have hPM := wl_kept hPM hk1 hd1
                have hPX := hP1
                refine lv_aload_n hx hb dL_law_265 rfl (lv_at hl 2 rfl) ?_
                refine lv_aload_n hx hb dL_law_266 rfl (lv_at hl 0 rfl) ?_
                refine lv_iload_n hx hb dL_law_267 rfl (lv_at hl 3 rfl) ?_
                refine lv_iconst (v := (1 : Int32)) hx hb dL_law_268 (by decide) ?_
                refine lv_iadd hx hb dL_law_269 ?_
                refine va_sld hx hb hX hbl hbA hS x1 dL_law_270 ?_
                refine lv_aload_n hx hb dL_law_271 rfl (lv_at hl 0 rfl) ?_
                refine lv_iload_n hx hb dL_law_272 rfl (lv_at hl 3 rfl) ?_
                refine lv_iconst (v := (2 : Int32)) hx hb dL_law_273 (by decide) ?_
                refine lv_iadd hx hb dL_law_274 ?_
                refine va_sld hx hb hX hbl hbA hS x2 dL_law_275 ?_
                refine lv_aload_n hx hb dL_law_276 rfl (lv_at hl 0 rfl) ?_
                refine lv_iload_n hx hb dL_law_277 rfl (lv_at hl 3 rfl) ?_
                refine lv_iconst (v := (3 : Int32)) hx hb dL_law_278 (by decide) ?_
                refine lv_iadd hx hb dL_law_279 ?_
                refine va_sld hx hb hX hbl hbA hS x3 dL_law_280 ?_
                refine x_callLi (va_runV (As := [.int (xs (nI i + (1 : Int32)).toNatClampNeg), .int (xs (nI i + (2 : Int32)).toNatClampNeg), .int (xs (nI i + (3 : Int32)).toNatClampNeg)]) (rest := [.int r]) ⟨hx, hb, hml, hown, hts⟩ (kX6_stops l w hw e2) (cwV 3 hts gL_law_X6_stops rfl rfl rfl (by decide +kernel) ⟨Nat.le_of_ble_eq_true rfl, Nat.le_of_ble_eq_true rfl⟩) (pvL hKw hPM hEw hS hws (va_recv hKw hPM (ci := 6) (q0 := 0) rfl (wl_at (by decide) cX6))) rfl rfl hl.1 rfl (lv_room (Nat.le_of_ble_eq_true rfl)) dL_law_281 ⟨Nat.le_of_ble_eq_true rfl, Nat.le_of_ble_eq_true rfl⟩) hS hws (fun H1 locs hP1 hk1 hS => ?_)
                have hPX := wl_kept hPX hk1 hd2
                have hPM := hP1
                refine lv_icmp_eq (tgt := 825) hx hb dL_law_284 (by decide) (fun _ => ?_) (fun c9 => absurd rfl c9)
                exact next σ' τ' _ _ _ h6 hR2 hPX hPM hS hl
              · by_cases s_5 : (xs (nI i).toNatClampNeg &&& 31) = 5
                · refine lv_tableIn (off := 256) (tgt := 289) hx hb dL_law_33 (by rw [s_5]; decide) (by rw [s_5]; decide) (by rw [s_5]; rfl) (by decide) ?_
                  obtain ⟨r, σ', τ', e1, e2, hR2⟩ := hG5 (xs (nI i + (1 : Int32)).toNatClampNeg) (xs (nI i + (2 : Int32)).toNatClampNeg) σ τ hR
                  refine lv_aload_n hx hb dL_law_289 rfl (lv_at hl 1 rfl) ?_
                  refine lv_aload_n hx hb dL_law_290 rfl (lv_at hl 0 rfl) ?_
                  refine lv_iload_n hx hb dL_law_291 rfl (lv_at hl 3 rfl) ?_
                  refine lv_iconst (v := (1 : Int32)) hx hb dL_law_292 (by decide) ?_
                  refine lv_iadd hx hb dL_law_293 ?_
                  refine va_sld hx hb hX hbl hbA hS x1 dL_law_294 ?_
                  refine lv_aload_n hx hb dL_law_295 rfl (lv_at hl 0 rfl) ?_
                  refine lv_iload_n hx hb dL_law_296 rfl (lv_at hl 3 rfl) ?_
                  refine lv_iconst (v := (2 : Int32)) hx hb dL_law_297 (by decide) ?_
                  refine lv_iadd hx hb dL_law_298 ?_
                  refine va_sld hx hb hX hbl hbA hS x2 dL_law_299 ?_
                  refine x_callLl (va_runV (As := [.int (xs (nI i + (1 : Int32)).toNatClampNeg), .int (xs (nI i + (2 : Int32)).toNatClampNeg)]) (rest := []) ⟨hx, hb, hml, hown, hts⟩ (kX5_mean l z hz e1) (cwV 2 hts gL_law_X5_mean rfl rfl rfl (by decide +kernel) ⟨Nat.le_of_ble_eq_true rfl, Nat.le_of_ble_eq_true rfl⟩) (pvL hKz hPX hEz hS hzs (va_recv hKz hPX (ci := 5) (q0 := 0) rfl (wl_at (by decide) cX5))) rfl rfl hl.1 rfl (lv_room (Nat.le_of_ble_eq_true rfl)) dL_law_300 ⟨Nat.le_of_ble_eq_true rfl, Nat.le_of_ble_eq_true rfl⟩) hS hzs (fun H1 locs hP1 hk1 hS => ?_)
                  have hPM := wl_kept hPM hk1 hd1
                  have hPX := hP1
                  refine lv_aload_n hx hb dL_law_303 rfl (lv_at hl 2 rfl) ?_
                  refine lv_aload_n hx hb dL_law_304 rfl (lv_at hl 0 rfl) ?_
                  refine lv_iload_n hx hb dL_law_305 rfl (lv_at hl 3 rfl) ?_
                  refine lv_iconst (v := (1 : Int32)) hx hb dL_law_306 (by decide) ?_
                  refine lv_iadd hx hb dL_law_307 ?_
                  refine va_sld hx hb hX hbl hbA hS x1 dL_law_308 ?_
                  refine lv_aload_n hx hb dL_law_309 rfl (lv_at hl 0 rfl) ?_
                  refine lv_iload_n hx hb dL_law_310 rfl (lv_at hl 3 rfl) ?_
                  refine lv_iconst (v := (2 : Int32)) hx hb dL_law_311 (by decide) ?_
                  refine lv_iadd hx hb dL_law_312 ?_
                  refine va_sld hx hb hX hbl hbA hS x2 dL_law_313 ?_
                  refine x_callLl (va_runV (As := [.int (xs (nI i + (1 : Int32)).toNatClampNeg), .int (xs (nI i + (2 : Int32)).toNatClampNeg)]) (rest := [.long r]) ⟨hx, hb, hml, hown, hts⟩ (kX6_mean l w hw e2) (cwV 2 hts gL_law_X6_mean rfl rfl rfl (by decide +kernel) ⟨Nat.le_of_ble_eq_true rfl, Nat.le_of_ble_eq_true rfl⟩) (pvL hKw hPM hEw hS hws (va_recv hKw hPM (ci := 6) (q0 := 0) rfl (wl_at (by decide) cX6))) rfl rfl hl.1 rfl (lv_room (Nat.le_of_ble_eq_true rfl)) dL_law_314 ⟨Nat.le_of_ble_eq_true rfl, Nat.le_of_ble_eq_true rfl⟩) hS hws (fun H1 locs hP1 hk1 hS => ?_)
                  have hPX := wl_kept hPX hk1 hd2
                  have hPM := hP1
                  refine W.lcmp hx hb dL_law_317 ?_
                  refine lv_if_eq (tgt := 825) hx hb dL_law_318 (by decide) (fun _ => ?_) (fun c9 => absurd (by simp [lg_cmp]) c9)
                  exact next σ' τ' _ _ _ h6 hR2 hPX hPM hS hl
                · by_cases s_6 : (xs (nI i).toNatClampNeg &&& 31) = 6
                  · refine lv_tableIn (off := 290) (tgt := 323) hx hb dL_law_33 (by rw [s_6]; decide) (by rw [s_6]; decide) (by rw [s_6]; rfl) (by decide) ?_
                    obtain ⟨r, σ', τ', e1, e2, hR2⟩ := hG6 (xs (nI i + (1 : Int32)).toNatClampNeg) σ τ hR
                    refine lv_aload_n hx hb dL_law_323 rfl (lv_at hl 1 rfl) ?_
                    refine lv_aload_n hx hb dL_law_324 rfl (lv_at hl 0 rfl) ?_
                    refine lv_iload_n hx hb dL_law_325 rfl (lv_at hl 3 rfl) ?_
                    refine lv_iconst (v := (1 : Int32)) hx hb dL_law_326 (by decide) ?_
                    refine lv_iadd hx hb dL_law_327 ?_
                    refine va_sld hx hb hX hbl hbA hS x1 dL_law_328 ?_
                    refine x_callLl (va_runV (As := [.int (xs (nI i + (1 : Int32)).toNatClampNeg)]) (rest := []) ⟨hx, hb, hml, hown, hts⟩ (kX5_share l z hz e1) (cwV 1 hts gL_law_X5_share rfl rfl rfl (by decide +kernel) ⟨Nat.le_of_ble_eq_true rfl, Nat.le_of_ble_eq_true rfl⟩) (pvL hKz hPX hEz hS hzs (va_recv hKz hPX (ci := 5) (q0 := 0) rfl (wl_at (by decide) cX5))) rfl rfl hl.1 rfl (lv_room (Nat.le_of_ble_eq_true rfl)) dL_law_329 ⟨Nat.le_of_ble_eq_true rfl, Nat.le_of_ble_eq_true rfl⟩) hS hzs (fun H1 locs hP1 hk1 hS => ?_)
                    have hPM := wl_kept hPM hk1 hd1
                    have hPX := hP1
                    refine lv_aload_n hx hb dL_law_332 rfl (lv_at hl 2 rfl) ?_
                    refine lv_aload_n hx hb dL_law_333 rfl (lv_at hl 0 rfl) ?_
                    refine lv_iload_n hx hb dL_law_334 rfl (lv_at hl 3 rfl) ?_
                    refine lv_iconst (v := (1 : Int32)) hx hb dL_law_335 (by decide) ?_
                    refine lv_iadd hx hb dL_law_336 ?_
                    refine va_sld hx hb hX hbl hbA hS x1 dL_law_337 ?_
                    refine x_callLl (va_runV (As := [.int (xs (nI i + (1 : Int32)).toNatClampNeg)]) (rest := [.long r]) ⟨hx, hb, hml, hown, hts⟩ (kX6_share l w hw e2) (cwV 1 hts gL_law_X6_share rfl rfl rfl (by decide +kernel) ⟨Nat.le_of_ble_eq_true rfl, Nat.le_of_ble_eq_true rfl⟩) (pvL hKw hPM hEw hS hws (va_recv hKw hPM (ci := 6) (q0 := 0) rfl (wl_at (by decide) cX6))) rfl rfl hl.1 rfl (lv_room (Nat.le_of_ble_eq_true rfl)) dL_law_338 ⟨Nat.le_of_ble_eq_true rfl, Nat.le_of_ble_eq_true rfl⟩) hS hws (fun H1 locs hP1 hk1 hS => ?_)
                    have hPX := wl_kept hPX hk1 hd2
                    have hPM := hP1
                    refine W.lcmp hx hb dL_law_341 ?_
                    refine lv_if_eq (tgt := 825) hx hb dL_law_342 (by decide) (fun _ => ?_) (fun c9 => absurd (by simp [lg_cmp]) c9)
                    exact next σ' τ' _ _ _ h6 hR2 hPX hPM hS hl
                  · by_cases s_7 : (xs (nI i).toNatClampNeg &&& 31) = 7
                    · refine lv_tableIn (off := 314) (tgt := 347) hx hb dL_law_33 (by rw [s_7]; decide) (by rw [s_7]; decide) (by rw [s_7]; rfl) (by decide) ?_
                      obtain ⟨r, σ', τ', e1, e2, hR2⟩ := hG7 (xs (nI i + (1 : Int32)).toNatClampNeg) σ τ hR
                      refine lv_aload_n hx hb dL_law_347 rfl (lv_at hl 1 rfl) ?_
                      refine lv_aload_n hx hb dL_law_348 rfl (lv_at hl 0 rfl) ?_
                      refine lv_iload_n hx hb dL_law_349 rfl (lv_at hl 3 rfl) ?_
                      refine lv_iconst (v := (1 : Int32)) hx hb dL_law_350 (by decide) ?_
                      refine lv_iadd hx hb dL_law_351 ?_
                      refine va_sld hx hb hX hbl hbA hS x1 dL_law_352 ?_
                      refine x_callLl (va_runV (As := [.int (xs (nI i + (1 : Int32)).toNatClampNeg)]) (rest := []) ⟨hx, hb, hml, hown, hts⟩ (kX5_all l z hz e1) (cwV 1 hts gL_law_X5_all rfl rfl rfl (by decide +kernel) ⟨Nat.le_of_ble_eq_true rfl, Nat.le_of_ble_eq_true rfl⟩) (pvL hKz hPX hEz hS hzs (va_recv hKz hPX (ci := 5) (q0 := 0) rfl (wl_at (by decide) cX5))) rfl rfl hl.1 rfl (lv_room (Nat.le_of_ble_eq_true rfl)) dL_law_353 ⟨Nat.le_of_ble_eq_true rfl, Nat.le_of_ble_eq_true rfl⟩) hS hzs (fun H1 locs hP1 hk1 hS => ?_)
                      have hPM := wl_kept hPM hk1 hd1
                      have hPX := hP1
                      refine lv_aload_n hx hb dL_law_356 rfl (lv_at hl 2 rfl) ?_
                      refine lv_aload_n hx hb dL_law_357 rfl (lv_at hl 0 rfl) ?_
                      refine lv_iload_n hx hb dL_law_358 rfl (lv_at hl 3 rfl) ?_
                      refine lv_iconst (v := (1 : Int32)) hx hb dL_law_359 (by decide) ?_
                      refine lv_iadd hx hb dL_law_360 ?_
                      refine va_sld hx hb hX hbl hbA hS x1 dL_law_361 ?_
                      refine x_callLl (va_runV (As := [.int (xs (nI i + (1 : Int32)).toNatClampNeg)]) (rest := [.long r]) ⟨hx, hb, hml, hown, hts⟩ (kX6_all l w hw e2) (cwV 1 hts gL_law_X6_all rfl rfl rfl (by decide +kernel) ⟨Nat.le_of_ble_eq_true rfl, Nat.le_of_ble_eq_true rfl⟩) (pvL hKw hPM hEw hS hws (va_recv hKw hPM (ci := 6) (q0 := 0) rfl (wl_at (by decide) cX6))) rfl rfl hl.1 rfl (lv_room (Nat.le_of_ble_eq_true rfl)) dL_law_362 ⟨Nat.le_of_ble_eq_true rfl, Nat.le_of_ble_eq_true rfl⟩) hS hws (fun H1 locs hP1 hk1 hS => ?_)
                      have hPX := wl_kept hPX hk1 hd2
                      have hPM := hP1
                      refine W.lcmp hx hb dL_law_365 ?_
                      refine lv_if_eq (tgt := 825) hx hb dL_law_366 (by decide) (fun _ => ?_) (fun c9 => absurd (by simp [lg_cmp]) c9)
                      exact next σ' τ' _ _ _ h6 hR2 hPX hPM hS hl
                    · by_cases s_8 : (xs (nI i).toNatClampNeg &&& 31) = 8
                      · refine lv_tableIn (off := 338) (tgt := 371) hx hb dL_law_33 (by rw [s_8]; decide) (by rw [s_8]; decide) (by rw [s_8]; rfl) (by decide) ?_
                        obtain ⟨r, σ', τ', e1, e2, hR2⟩ := hG8 (xs (nI i + (1 : Int32)).toNatClampNeg) (xs (nI i + (2 : Int32)).toNatClampNeg) σ τ hR
                        refine lv_aload_n hx hb dL_law_371 rfl (lv_at hl 1 rfl) ?_
                        refine lv_aload_n hx hb dL_law_372 rfl (lv_at hl 0 rfl) ?_
                        refine lv_iload_n hx hb dL_law_373 rfl (lv_at hl 3 rfl) ?_
                        refine lv_iconst (v := (1 : Int32)) hx hb dL_law_374 (by decide) ?_
                        refine lv_iadd hx hb dL_law_375 ?_
                        refine va_sld hx hb hX hbl hbA hS x1 dL_law_376 ?_
                        refine lv_aload_n hx hb dL_law_377 rfl (lv_at hl 0 rfl) ?_
                        refine lv_iload_n hx hb dL_law_378 rfl (lv_at hl 3 rfl) ?_
                        refine lv_iconst (v := (2 : Int32)) hx hb dL_law_379 (by decide) ?_
                        refine lv_iadd hx hb dL_law_380 ?_
                        refine va_sld hx hb hX hbl hbA hS x2 dL_law_381 ?_
                        refine x_callLl (va_runV (As := [.int (xs (nI i + (1 : Int32)).toNatClampNeg), .int (xs (nI i + (2 : Int32)).toNatClampNeg)]) (rest := []) ⟨hx, hb, hml, hown, hts⟩ (kX5_more l z hz e1) (cwV 2 hts gL_law_X5_more rfl rfl rfl (by decide +kernel) ⟨Nat.le_of_ble_eq_true rfl, Nat.le_of_ble_eq_true rfl⟩) (pvL hKz hPX hEz hS hzs (va_recv hKz hPX (ci := 5) (q0 := 0) rfl (wl_at (by decide) cX5))) rfl rfl hl.1 rfl (lv_room (Nat.le_of_ble_eq_true rfl)) dL_law_382 ⟨Nat.le_of_ble_eq_true rfl, Nat.le_of_ble_eq_true rfl⟩) hS hzs (fun H1 locs hP1 hk1 hS => ?_)
                        have hPM := wl_kept hPM hk1 hd1
                        have hPX := hP1
                        refine lv_aload_n hx hb dL_law_385 rfl (lv_at hl 2 rfl) ?_
                        refine lv_aload_n hx hb dL_law_386 rfl (lv_at hl 0 rfl) ?_
                        refine lv_iload_n hx hb dL_law_387 rfl (lv_at hl 3 rfl) ?_
                        refine lv_iconst (v := (1 : Int32)) hx hb dL_law_388 (by decide) ?_
                        refine lv_iadd hx hb dL_law_389 ?_
                        refine va_sld hx hb hX hbl hbA hS x1 dL_law_390 ?_
                        refine lv_aload_n hx hb dL_law_391 rfl (lv_at hl 0 rfl) ?_
                        refine lv_iload_n hx hb dL_law_392 rfl (lv_at hl 3 rfl) ?_
                        refine lv_iconst (v := (2 : Int32)) hx hb dL_law_393 (by decide) ?_
                        refine lv_iadd hx hb dL_law_394 ?_
                        refine va_sld hx hb hX hbl hbA hS x2 dL_law_395 ?_
                        refine x_callLl (va_runV (As := [.int (xs (nI i + (1 : Int32)).toNatClampNeg), .int (xs (nI i + (2 : Int32)).toNatClampNeg)]) (rest := [.long r]) ⟨hx, hb, hml, hown, hts⟩ (kX6_more l w hw e2) (cwV 2 hts gL_law_X6_more rfl rfl rfl (by decide +kernel) ⟨Nat.le_of_ble_eq_true rfl, Nat.le_of_ble_eq_true rfl⟩) (pvL hKw hPM hEw hS hws (va_recv hKw hPM (ci := 6) (q0 := 0) rfl (wl_at (by decide) cX6))) rfl rfl hl.1 rfl (lv_room (Nat.le_of_ble_eq_true rfl)) dL_law_396 ⟨Nat.le_of_ble_eq_true rfl, Nat.le_of_ble_eq_true rfl⟩) hS hws (fun H1 locs hP1 hk1 hS => ?_)
                        have hPX := wl_kept hPX hk1 hd2
                        have hPM := hP1
                        refine W.lcmp hx hb dL_law_399 ?_
                        refine lv_if_eq (tgt := 825) hx hb dL_law_400 (by decide) (fun _ => ?_) (fun c9 => absurd (by simp [lg_cmp]) c9)
                        exact next σ' τ' _ _ _ h6 hR2 hPX hPM hS hl
                      · by_cases s_9 : (xs (nI i).toNatClampNeg &&& 31) = 9
                        · refine lv_tableIn (off := 372) (tgt := 405) hx hb dL_law_33 (by rw [s_9]; decide) (by rw [s_9]; decide) (by rw [s_9]; rfl) (by decide) ?_
                          obtain ⟨r, σ', τ', e1, e2, hR2⟩ := hG9 (xs (nI i + (1 : Int32)).toNatClampNeg) (xs (nI i + (2 : Int32)).toNatClampNeg) σ τ hR
                          refine lv_aload_n hx hb dL_law_405 rfl (lv_at hl 1 rfl) ?_
                          refine lv_aload_n hx hb dL_law_406 rfl (lv_at hl 0 rfl) ?_
                          refine lv_iload_n hx hb dL_law_407 rfl (lv_at hl 3 rfl) ?_
                          refine lv_iconst (v := (1 : Int32)) hx hb dL_law_408 (by decide) ?_
                          refine lv_iadd hx hb dL_law_409 ?_
                          refine va_sld hx hb hX hbl hbA hS x1 dL_law_410 ?_
                          refine lv_aload_n hx hb dL_law_411 rfl (lv_at hl 0 rfl) ?_
                          refine lv_iload_n hx hb dL_law_412 rfl (lv_at hl 3 rfl) ?_
                          refine lv_iconst (v := (2 : Int32)) hx hb dL_law_413 (by decide) ?_
                          refine lv_iadd hx hb dL_law_414 ?_
                          refine va_sld hx hb hX hbl hbA hS x2 dL_law_415 ?_
                          refine x_callLl (va_runV (As := [.int (xs (nI i + (1 : Int32)).toNatClampNeg), .int (xs (nI i + (2 : Int32)).toNatClampNeg)]) (rest := []) ⟨hx, hb, hml, hown, hts⟩ (kX5_size l z hz e1) (cwV 2 hts gL_law_X5_size rfl rfl rfl (by decide +kernel) ⟨Nat.le_of_ble_eq_true rfl, Nat.le_of_ble_eq_true rfl⟩) (pvL hKz hPX hEz hS hzs (va_recv hKz hPX (ci := 5) (q0 := 0) rfl (wl_at (by decide) cX5))) rfl rfl hl.1 rfl (lv_room (Nat.le_of_ble_eq_true rfl)) dL_law_416 ⟨Nat.le_of_ble_eq_true rfl, Nat.le_of_ble_eq_true rfl⟩) hS hzs (fun H1 locs hP1 hk1 hS => ?_)
                          have hPM := wl_kept hPM hk1 hd1
                          have hPX := hP1
                          refine lv_aload_n hx hb dL_law_419 rfl (lv_at hl 2 rfl) ?_
                          refine lv_aload_n hx hb dL_law_420 rfl (lv_at hl 0 rfl) ?_
                          refine lv_iload_n hx hb dL_law_421 rfl (lv_at hl 3 rfl) ?_
                          refine lv_iconst (v := (1 : Int32)) hx hb dL_law_422 (by decide) ?_
                          refine lv_iadd hx hb dL_law_423 ?_
                          refine va_sld hx hb hX hbl hbA hS x1 dL_law_424 ?_
                          refine lv_aload_n hx hb dL_law_425 rfl (lv_at hl 0 rfl) ?_
                          refine lv_iload_n hx hb dL_law_426 rfl (lv_at hl 3 rfl) ?_
                          refine lv_iconst (v := (2 : Int32)) hx hb dL_law_427 (by decide) ?_
                          refine lv_iadd hx hb dL_law_428 ?_
                          refine va_sld hx hb hX hbl hbA hS x2 dL_law_429 ?_
                          refine x_callLl (va_runV (As := [.int (xs (nI i + (1 : Int32)).toNatClampNeg), .int (xs (nI i + (2 : Int32)).toNatClampNeg)]) (rest := [.long r]) ⟨hx, hb, hml, hown, hts⟩ (kX6_size l w hw e2) (cwV 2 hts gL_law_X6_size rfl rfl rfl (by decide +kernel) ⟨Nat.le_of_ble_eq_true rfl, Nat.le_of_ble_eq_true rfl⟩) (pvL hKw hPM hEw hS hws (va_recv hKw hPM (ci := 6) (q0 := 0) rfl (wl_at (by decide) cX6))) rfl rfl hl.1 rfl (lv_room (Nat.le_of_ble_eq_true rfl)) dL_law_430 ⟨Nat.le_of_ble_eq_true rfl, Nat.le_of_ble_eq_true rfl⟩) hS hws (fun H1 locs hP1 hk1 hS => ?_)
                          have hPX := wl_kept hPX hk1 hd2
                          have hPM := hP1
                          refine W.lcmp hx hb dL_law_433 ?_
                          refine lv_if_eq (tgt := 825) hx hb dL_law_434 (by decide) (fun _ => ?_) (fun c9 => absurd (by simp [lg_cmp]) c9)
                          exact next σ' τ' _ _ _ h6 hR2 hPX hPM hS hl
                        · by_cases s_10 : (xs (nI i).toNatClampNeg &&& 31) = 10
                          · refine lv_tableIn (off := 406) (tgt := 439) hx hb dL_law_33 (by rw [s_10]; decide) (by rw [s_10]; decide) (by rw [s_10]; rfl) (by decide) ?_
                            obtain ⟨r, σ', τ', e1, e2, hR2⟩ := hG10 (xs (nI i + (1 : Int32)).toNatClampNeg) (xs (nI i + (2 : Int32)).toNatClampNeg) σ τ hR
                            refine lv_aload_n hx hb dL_law_439 rfl (lv_at hl 1 rfl) ?_
                            refine lv_aload_n hx hb dL_law_440 rfl (lv_at hl 0 rfl) ?_
                            refine lv_iload_n hx hb dL_law_441 rfl (lv_at hl 3 rfl) ?_
                            refine lv_iconst (v := (1 : Int32)) hx hb dL_law_442 (by decide) ?_
                            refine lv_iadd hx hb dL_law_443 ?_
                            refine va_sld hx hb hX hbl hbA hS x1 dL_law_444 ?_
                            refine lv_aload_n hx hb dL_law_445 rfl (lv_at hl 0 rfl) ?_
                            refine lv_iload_n hx hb dL_law_446 rfl (lv_at hl 3 rfl) ?_
                            refine lv_iconst (v := (2 : Int32)) hx hb dL_law_447 (by decide) ?_
                            refine lv_iadd hx hb dL_law_448 ?_
                            refine va_sld hx hb hX hbl hbA hS x2 dL_law_449 ?_
                            refine x_callLl (va_runV (As := [.int (xs (nI i + (1 : Int32)).toNatClampNeg), .int (xs (nI i + (2 : Int32)).toNatClampNeg)]) (rest := []) ⟨hx, hb, hml, hown, hts⟩ (kX5_met l z hz e1) (cwV 2 hts gL_law_X5_met rfl rfl rfl (by decide +kernel) ⟨Nat.le_of_ble_eq_true rfl, Nat.le_of_ble_eq_true rfl⟩) (pvL hKz hPX hEz hS hzs (va_recv hKz hPX (ci := 5) (q0 := 0) rfl (wl_at (by decide) cX5))) rfl rfl hl.1 rfl (lv_room (Nat.le_of_ble_eq_true rfl)) dL_law_450 ⟨Nat.le_of_ble_eq_true rfl, Nat.le_of_ble_eq_true rfl⟩) hS hzs (fun H1 locs hP1 hk1 hS => ?_)
                            have hPM := wl_kept hPM hk1 hd1
                            have hPX := hP1
                            refine lv_aload_n hx hb dL_law_453 rfl (lv_at hl 2 rfl) ?_
                            refine lv_aload_n hx hb dL_law_454 rfl (lv_at hl 0 rfl) ?_
                            refine lv_iload_n hx hb dL_law_455 rfl (lv_at hl 3 rfl) ?_
                            refine lv_iconst (v := (1 : Int32)) hx hb dL_law_456 (by decide) ?_
                            refine lv_iadd hx hb dL_law_457 ?_
                            refine va_sld hx hb hX hbl hbA hS x1 dL_law_458 ?_
                            refine lv_aload_n hx hb dL_law_459 rfl (lv_at hl 0 rfl) ?_
                            refine lv_iload_n hx hb dL_law_460 rfl (lv_at hl 3 rfl) ?_
                            refine lv_iconst (v := (2 : Int32)) hx hb dL_law_461 (by decide) ?_
                            refine lv_iadd hx hb dL_law_462 ?_
                            refine va_sld hx hb hX hbl hbA hS x2 dL_law_463 ?_
                            refine x_callLl (va_runV (As := [.int (xs (nI i + (1 : Int32)).toNatClampNeg), .int (xs (nI i + (2 : Int32)).toNatClampNeg)]) (rest := [.long r]) ⟨hx, hb, hml, hown, hts⟩ (kX6_met l w hw e2) (cwV 2 hts gL_law_X6_met rfl rfl rfl (by decide +kernel) ⟨Nat.le_of_ble_eq_true rfl, Nat.le_of_ble_eq_true rfl⟩) (pvL hKw hPM hEw hS hws (va_recv hKw hPM (ci := 6) (q0 := 0) rfl (wl_at (by decide) cX6))) rfl rfl hl.1 rfl (lv_room (Nat.le_of_ble_eq_true rfl)) dL_law_464 ⟨Nat.le_of_ble_eq_true rfl, Nat.le_of_ble_eq_true rfl⟩) hS hws (fun H1 locs hP1 hk1 hS => ?_)
                            have hPX := wl_kept hPX hk1 hd2
                            have hPM := hP1
                            refine W.lcmp hx hb dL_law_467 ?_
                            refine lv_if_eq (tgt := 825) hx hb dL_law_468 (by decide) (fun _ => ?_) (fun c9 => absurd (by simp [lg_cmp]) c9)
                            exact next σ' τ' _ _ _ h6 hR2 hPX hPM hS hl
                          · by_cases s_11 : (xs (nI i).toNatClampNeg &&& 31) = 11
                            · refine lv_tableIn (off := 440) (tgt := 473) hx hb dL_law_33 (by rw [s_11]; decide) (by rw [s_11]; decide) (by rw [s_11]; rfl) (by decide) ?_
                              obtain ⟨r, σ', τ', e1, e2, hR2⟩ := hG11 (xs (nI i + (1 : Int32)).toNatClampNeg) (xs (nI i + (2 : Int32)).toNatClampNeg) (xs (nI i + (3 : Int32)).toNatClampNeg) (xs (nI i + (4 : Int32)).toNatClampNeg) (xs (nI i + (5 : Int32)).toNatClampNeg) σ τ hR
                              refine lv_aload_n hx hb dL_law_473 rfl (lv_at hl 1 rfl) ?_
                              refine lv_aload_n hx hb dL_law_474 rfl (lv_at hl 0 rfl) ?_
                              refine lv_iload_n hx hb dL_law_475 rfl (lv_at hl 3 rfl) ?_
                              refine lv_iconst (v := (1 : Int32)) hx hb dL_law_476 (by decide) ?_
                              refine lv_iadd hx hb dL_law_477 ?_
                              refine va_sld hx hb hX hbl hbA hS x1 dL_law_478 ?_
                              refine lv_aload_n hx hb dL_law_479 rfl (lv_at hl 0 rfl) ?_
                              refine lv_iload_n hx hb dL_law_480 rfl (lv_at hl 3 rfl) ?_
                              refine lv_iconst (v := (2 : Int32)) hx hb dL_law_481 (by decide) ?_
                              refine lv_iadd hx hb dL_law_482 ?_
                              refine va_sld hx hb hX hbl hbA hS x2 dL_law_483 ?_
                              refine lv_aload_n hx hb dL_law_484 rfl (lv_at hl 0 rfl) ?_
                              refine lv_iload_n hx hb dL_law_485 rfl (lv_at hl 3 rfl) ?_
                              refine lv_iconst (v := (3 : Int32)) hx hb dL_law_486 (by decide) ?_
                              refine lv_iadd hx hb dL_law_487 ?_
                              refine va_sld hx hb hX hbl hbA hS x3 dL_law_488 ?_
                              refine lv_aload_n hx hb dL_law_489 rfl (lv_at hl 0 rfl) ?_
                              refine lv_iload_n hx hb dL_law_490 rfl (lv_at hl 3 rfl) ?_
                              refine lv_iconst (v := (4 : Int32)) hx hb dL_law_491 (by decide) ?_
                              refine lv_iadd hx hb dL_law_492 ?_
                              refine va_sld hx hb hX hbl hbA hS x4 dL_law_493 ?_
                              refine lv_aload_n hx hb dL_law_494 rfl (lv_at hl 0 rfl) ?_
                              refine lv_iload_n hx hb dL_law_495 rfl (lv_at hl 3 rfl) ?_
                              refine lv_iconst (v := (5 : Int32)) hx hb dL_law_496 (by decide) ?_
                              refine lv_iadd hx hb dL_law_497 ?_
                              refine va_sld hx hb hX hbl hbA hS x5 dL_law_498 ?_
                              refine x_callLl (va_runV (As := [.int (xs (nI i + (1 : Int32)).toNatClampNeg), .int (xs (nI i + (2 : Int32)).toNatClampNeg), .int (xs (nI i + (3 : Int32)).toNatClampNeg), .int (xs (nI i + (4 : Int32)).toNatClampNeg), .int (xs (nI i + (5 : Int32)).toNatClampNeg)]) (rest := []) ⟨hx, hb, hml, hown, hts⟩ (kX5_says l z hz e1) (cwV 5 hts gL_law_X5_says rfl rfl rfl (by decide +kernel) ⟨Nat.le_of_ble_eq_true rfl, Nat.le_of_ble_eq_true rfl⟩) (pvL hKz hPX hEz hS hzs (va_recv hKz hPX (ci := 5) (q0 := 0) rfl (wl_at (by decide) cX5))) rfl rfl hl.1 rfl (lv_room (Nat.le_of_ble_eq_true rfl)) dL_law_499 ⟨Nat.le_of_ble_eq_true rfl, Nat.le_of_ble_eq_true rfl⟩) hS hzs (fun H1 locs hP1 hk1 hS => ?_)
                              have hPM := wl_kept hPM hk1 hd1
                              have hPX := hP1
                              refine lv_aload_n hx hb dL_law_502 rfl (lv_at hl 2 rfl) ?_
                              refine lv_aload_n hx hb dL_law_503 rfl (lv_at hl 0 rfl) ?_
                              refine lv_iload_n hx hb dL_law_504 rfl (lv_at hl 3 rfl) ?_
                              refine lv_iconst (v := (1 : Int32)) hx hb dL_law_505 (by decide) ?_
                              refine lv_iadd hx hb dL_law_506 ?_
                              refine va_sld hx hb hX hbl hbA hS x1 dL_law_507 ?_
                              refine lv_aload_n hx hb dL_law_508 rfl (lv_at hl 0 rfl) ?_
                              refine lv_iload_n hx hb dL_law_509 rfl (lv_at hl 3 rfl) ?_
                              refine lv_iconst (v := (2 : Int32)) hx hb dL_law_510 (by decide) ?_
                              refine lv_iadd hx hb dL_law_511 ?_
                              refine va_sld hx hb hX hbl hbA hS x2 dL_law_512 ?_
                              refine lv_aload_n hx hb dL_law_513 rfl (lv_at hl 0 rfl) ?_
                              refine lv_iload_n hx hb dL_law_514 rfl (lv_at hl 3 rfl) ?_
                              refine lv_iconst (v := (3 : Int32)) hx hb dL_law_515 (by decide) ?_
                              refine lv_iadd hx hb dL_law_516 ?_
                              refine va_sld hx hb hX hbl hbA hS x3 dL_law_517 ?_
                              refine lv_aload_n hx hb dL_law_518 rfl (lv_at hl 0 rfl) ?_
                              refine lv_iload_n hx hb dL_law_519 rfl (lv_at hl 3 rfl) ?_
                              refine lv_iconst (v := (4 : Int32)) hx hb dL_law_520 (by decide) ?_
                              refine lv_iadd hx hb dL_law_521 ?_
                              refine va_sld hx hb hX hbl hbA hS x4 dL_law_522 ?_
                              refine lv_aload_n hx hb dL_law_523 rfl (lv_at hl 0 rfl) ?_
                              refine lv_iload_n hx hb dL_law_524 rfl (lv_at hl 3 rfl) ?_
                              refine lv_iconst (v := (5 : Int32)) hx hb dL_law_525 (by decide) ?_
                              refine lv_iadd hx hb dL_law_526 ?_
                              refine va_sld hx hb hX hbl hbA hS x5 dL_law_527 ?_
                              refine x_callLl (va_runV (As := [.int (xs (nI i + (1 : Int32)).toNatClampNeg), .int (xs (nI i + (2 : Int32)).toNatClampNeg), .int (xs (nI i + (3 : Int32)).toNatClampNeg), .int (xs (nI i + (4 : Int32)).toNatClampNeg), .int (xs (nI i + (5 : Int32)).toNatClampNeg)]) (rest := [.long r]) ⟨hx, hb, hml, hown, hts⟩ (kX6_says l w hw e2) (cwV 5 hts gL_law_X6_says rfl rfl rfl (by decide +kernel) ⟨Nat.le_of_ble_eq_true rfl, Nat.le_of_ble_eq_true rfl⟩) (pvL hKw hPM hEw hS hws (va_recv hKw hPM (ci := 6) (q0 := 0) rfl (wl_at (by decide) cX6))) rfl rfl hl.1 rfl (lv_room (Nat.le_of_ble_eq_true rfl)) dL_law_528 ⟨Nat.le_of_ble_eq_true rfl, Nat.le_of_ble_eq_true rfl⟩) hS hws (fun H1 locs hP1 hk1 hS => ?_)
                              have hPX := wl_kept hPX hk1 hd2
                              have hPM := hP1
                              refine W.lcmp hx hb dL_law_531 ?_
                              refine lv_if_eq (tgt := 825) hx hb dL_law_532 (by decide) (fun _ => ?_) (fun c9 => absurd (by simp [lg_cmp]) c9)
                              exact next σ' τ' _ _ _ h6 hR2 hPX hPM hS hl
                            · by_cases s_12 : (xs (nI i).toNatClampNeg &&& 31) = 12
                              · refine lv_tableIn (off := 504) (tgt := 537) hx hb dL_law_33 (by rw [s_12]; decide) (by rw [s_12]; decide) (by rw [s_12]; rfl) (by decide) ?_
                                obtain ⟨r, σ', τ', e1, e2, hR2⟩ := hG12 (xs (nI i + (1 : Int32)).toNatClampNeg) (xs (nI i + (2 : Int32)).toNatClampNeg) (xs (nI i + (3 : Int32)).toNatClampNeg) σ τ hR
                                refine lv_aload_n hx hb dL_law_537 rfl (lv_at hl 1 rfl) ?_
                                refine lv_aload_n hx hb dL_law_538 rfl (lv_at hl 0 rfl) ?_
                                refine lv_iload_n hx hb dL_law_539 rfl (lv_at hl 3 rfl) ?_
                                refine lv_iconst (v := (1 : Int32)) hx hb dL_law_540 (by decide) ?_
                                refine lv_iadd hx hb dL_law_541 ?_
                                refine va_sld hx hb hX hbl hbA hS x1 dL_law_542 ?_
                                refine lv_aload_n hx hb dL_law_543 rfl (lv_at hl 0 rfl) ?_
                                refine lv_iload_n hx hb dL_law_544 rfl (lv_at hl 3 rfl) ?_
                                refine lv_iconst (v := (2 : Int32)) hx hb dL_law_545 (by decide) ?_
                                refine lv_iadd hx hb dL_law_546 ?_
                                refine va_sld hx hb hX hbl hbA hS x2 dL_law_547 ?_
                                refine lv_aload_n hx hb dL_law_548 rfl (lv_at hl 0 rfl) ?_
                                refine lv_iload_n hx hb dL_law_549 rfl (lv_at hl 3 rfl) ?_
                                refine lv_iconst (v := (3 : Int32)) hx hb dL_law_550 (by decide) ?_
                                refine lv_iadd hx hb dL_law_551 ?_
                                refine va_sld hx hb hX hbl hbA hS x3 dL_law_552 ?_
                                refine x_callLl (va_runV (As := [.int (xs (nI i + (1 : Int32)).toNatClampNeg), .int (xs (nI i + (2 : Int32)).toNatClampNeg), .int (xs (nI i + (3 : Int32)).toNatClampNeg)]) (rest := []) ⟨hx, hb, hml, hown, hts⟩ (kX5_trial l z hz e1) (cwV 3 hts gL_law_X5_trial rfl rfl rfl (by decide +kernel) ⟨Nat.le_of_ble_eq_true rfl, Nat.le_of_ble_eq_true rfl⟩) (pvL hKz hPX hEz hS hzs (va_recv hKz hPX (ci := 5) (q0 := 0) rfl (wl_at (by decide) cX5))) rfl rfl hl.1 rfl (lv_room (Nat.le_of_ble_eq_true rfl)) dL_law_553 ⟨Nat.le_of_ble_eq_true rfl, Nat.le_of_ble_eq_true rfl⟩) hS hzs (fun H1 locs hP1 hk1 hS => ?_)
                                have hPM := wl_kept hPM hk1 hd1
                                have hPX := hP1
                                refine lv_aload_n hx hb dL_law_556 rfl (lv_at hl 2 rfl) ?_
                                refine lv_aload_n hx hb dL_law_557 rfl (lv_at hl 0 rfl) ?_
                                refine lv_iload_n hx hb dL_law_558 rfl (lv_at hl 3 rfl) ?_
                                refine lv_iconst (v := (1 : Int32)) hx hb dL_law_559 (by decide) ?_
                                refine lv_iadd hx hb dL_law_560 ?_
                                refine va_sld hx hb hX hbl hbA hS x1 dL_law_561 ?_
                                refine lv_aload_n hx hb dL_law_562 rfl (lv_at hl 0 rfl) ?_
                                refine lv_iload_n hx hb dL_law_563 rfl (lv_at hl 3 rfl) ?_
                                refine lv_iconst (v := (2 : Int32)) hx hb dL_law_564 (by decide) ?_
                                refine lv_iadd hx hb dL_law_565 ?_
                                refine va_sld hx hb hX hbl hbA hS x2 dL_law_566 ?_
                                refine lv_aload_n hx hb dL_law_567 rfl (lv_at hl 0 rfl) ?_
                                refine lv_iload_n hx hb dL_law_568 rfl (lv_at hl 3 rfl) ?_
                                refine lv_iconst (v := (3 : Int32)) hx hb dL_law_569 (by decide) ?_
                                refine lv_iadd hx hb dL_law_570 ?_
                                refine va_sld hx hb hX hbl hbA hS x3 dL_law_571 ?_
                                refine x_callLl (va_runV (As := [.int (xs (nI i + (1 : Int32)).toNatClampNeg), .int (xs (nI i + (2 : Int32)).toNatClampNeg), .int (xs (nI i + (3 : Int32)).toNatClampNeg)]) (rest := [.long r]) ⟨hx, hb, hml, hown, hts⟩ (kX6_trial l w hw e2) (cwV 3 hts gL_law_X6_trial rfl rfl rfl (by decide +kernel) ⟨Nat.le_of_ble_eq_true rfl, Nat.le_of_ble_eq_true rfl⟩) (pvL hKw hPM hEw hS hws (va_recv hKw hPM (ci := 6) (q0 := 0) rfl (wl_at (by decide) cX6))) rfl rfl hl.1 rfl (lv_room (Nat.le_of_ble_eq_true rfl)) dL_law_572 ⟨Nat.le_of_ble_eq_true rfl, Nat.le_of_ble_eq_true rfl⟩) hS hws (fun H1 locs hP1 hk1 hS => ?_)
                                have hPX := wl_kept hPX hk1 hd2
                                have hPM := hP1
                                refine W.lcmp hx hb dL_law_575 ?_
                                refine lv_if_eq (tgt := 825) hx hb dL_law_576 (by decide) (fun _ => ?_) (fun c9 => absurd (by simp [lg_cmp]) c9)
                                exact next σ' τ' _ _ _ h6 hR2 hPX hPM hS hl
                              · by_cases s_13 : (xs (nI i).toNatClampNeg &&& 31) = 13
                                · refine lv_tableIn (off := 548) (tgt := 581) hx hb dL_law_33 (by rw [s_13]; decide) (by rw [s_13]; decide) (by rw [s_13]; rfl) (by decide) ?_
                                  obtain ⟨r, σ', τ', e1, e2, hR2⟩ := hG13 (xs (nI i + (1 : Int32)).toNatClampNeg) σ τ hR
                                  refine lv_aload_n hx hb dL_law_581 rfl (lv_at hl 1 rfl) ?_
                                  refine lv_aload_n hx hb dL_law_582 rfl (lv_at hl 0 rfl) ?_
                                  refine lv_iload_n hx hb dL_law_583 rfl (lv_at hl 3 rfl) ?_
                                  refine lv_iconst (v := (1 : Int32)) hx hb dL_law_584 (by decide) ?_
                                  refine lv_iadd hx hb dL_law_585 ?_
                                  refine va_sld hx hb hX hbl hbA hS x1 dL_law_586 ?_
                                  refine x_callLi (va_runV (As := [.int (xs (nI i + (1 : Int32)).toNatClampNeg)]) (rest := []) ⟨hx, hb, hml, hown, hts⟩ (kX5_row l z hz e1) (cwV 1 hts gL_law_X5_row rfl rfl rfl (by decide +kernel) ⟨Nat.le_of_ble_eq_true rfl, Nat.le_of_ble_eq_true rfl⟩) (pvL hKz hPX hEz hS hzs (va_recv hKz hPX (ci := 5) (q0 := 0) rfl (wl_at (by decide) cX5))) rfl rfl hl.1 rfl (lv_room (Nat.le_of_ble_eq_true rfl)) dL_law_587 ⟨Nat.le_of_ble_eq_true rfl, Nat.le_of_ble_eq_true rfl⟩) hS hzs (fun H1 locs hP1 hk1 hS => ?_)
                                  have hPM := wl_kept hPM hk1 hd1
                                  have hPX := hP1
                                  refine lv_aload_n hx hb dL_law_590 rfl (lv_at hl 2 rfl) ?_
                                  refine lv_aload_n hx hb dL_law_591 rfl (lv_at hl 0 rfl) ?_
                                  refine lv_iload_n hx hb dL_law_592 rfl (lv_at hl 3 rfl) ?_
                                  refine lv_iconst (v := (1 : Int32)) hx hb dL_law_593 (by decide) ?_
                                  refine lv_iadd hx hb dL_law_594 ?_
                                  refine va_sld hx hb hX hbl hbA hS x1 dL_law_595 ?_
                                  refine x_callLi (va_runV (As := [.int (xs (nI i + (1 : Int32)).toNatClampNeg)]) (rest := [.int r]) ⟨hx, hb, hml, hown, hts⟩ (kX6_row l w hw e2) (cwV 1 hts gL_law_X6_row rfl rfl rfl (by decide +kernel) ⟨Nat.le_of_ble_eq_true rfl, Nat.le_of_ble_eq_true rfl⟩) (pvL hKw hPM hEw hS hws (va_recv hKw hPM (ci := 6) (q0 := 0) rfl (wl_at (by decide) cX6))) rfl rfl hl.1 rfl (lv_room (Nat.le_of_ble_eq_true rfl)) dL_law_596 ⟨Nat.le_of_ble_eq_true rfl, Nat.le_of_ble_eq_true rfl⟩) hS hws (fun H1 locs hP1 hk1 hS => ?_)
                                  have hPX := wl_kept hPX hk1 hd2
                                  have hPM := hP1
                                  refine lv_icmp_eq (tgt := 825) hx hb dL_law_599 (by decide) (fun _ => ?_) (fun c9 => absurd rfl c9)
                                  exact next σ' τ' _ _ _ h6 hR2 hPX hPM hS hl
                                · by_cases s_14 : (xs (nI i).toNatClampNeg &&& 31) = 14
                                  · refine lv_tableIn (off := 571) (tgt := 604) hx hb dL_law_33 (by rw [s_14]; decide) (by rw [s_14]; decide) (by rw [s_14]; rfl) (by decide) ?_
                                    obtain ⟨r, σ', τ', e1, e2, hR2⟩ := hG14 (xs (nI i + (1 : Int32)).toNatClampNeg) σ τ hR
                                    refine lv_aload_n hx hb dL_law_604 rfl (lv_at hl 1 rfl) ?_
                                    refine lv_aload_n hx hb dL_law_605 rfl (lv_at hl 0 rfl) ?_
                                    refine lv_iload_n hx hb dL_law_606 rfl (lv_at hl 3 rfl) ?_
                                    refine lv_iconst (v := (1 : Int32)) hx hb dL_law_607 (by decide) ?_
                                    refine lv_iadd hx hb dL_law_608 ?_
                                    refine va_sld hx hb hX hbl hbA hS x1 dL_law_609 ?_
                                    refine x_callLl (va_runV (As := [.int (xs (nI i + (1 : Int32)).toNatClampNeg)]) (rest := []) ⟨hx, hb, hml, hown, hts⟩ (kX5_gone l z hz e1) (cwV 1 hts gL_law_X5_gone rfl rfl rfl (by decide +kernel) ⟨Nat.le_of_ble_eq_true rfl, Nat.le_of_ble_eq_true rfl⟩) (pvL hKz hPX hEz hS hzs (va_recv hKz hPX (ci := 5) (q0 := 0) rfl (wl_at (by decide) cX5))) rfl rfl hl.1 rfl (lv_room (Nat.le_of_ble_eq_true rfl)) dL_law_610 ⟨Nat.le_of_ble_eq_true rfl, Nat.le_of_ble_eq_true rfl⟩) hS hzs (fun H1 locs hP1 hk1 hS => ?_)
                                    have hPM := wl_kept hPM hk1 hd1
                                    have hPX := hP1
                                    refine lv_aload_n hx hb dL_law_613 rfl (lv_at hl 2 rfl) ?_
                                    refine lv_aload_n hx hb dL_law_614 rfl (lv_at hl 0 rfl) ?_
                                    refine lv_iload_n hx hb dL_law_615 rfl (lv_at hl 3 rfl) ?_
                                    refine lv_iconst (v := (1 : Int32)) hx hb dL_law_616 (by decide) ?_
                                    refine lv_iadd hx hb dL_law_617 ?_
                                    refine va_sld hx hb hX hbl hbA hS x1 dL_law_618 ?_
                                    refine x_callLl (va_runV (As := [.int (xs (nI i + (1 : Int32)).toNatClampNeg)]) (rest := [.long r]) ⟨hx, hb, hml, hown, hts⟩ (kX6_gone l w hw e2) (cwV 1 hts gL_law_X6_gone rfl rfl rfl (by decide +kernel) ⟨Nat.le_of_ble_eq_true rfl, Nat.le_of_ble_eq_true rfl⟩) (pvL hKw hPM hEw hS hws (va_recv hKw hPM (ci := 6) (q0 := 0) rfl (wl_at (by decide) cX6))) rfl rfl hl.1 rfl (lv_room (Nat.le_of_ble_eq_true rfl)) dL_law_619 ⟨Nat.le_of_ble_eq_true rfl, Nat.le_of_ble_eq_true rfl⟩) hS hws (fun H1 locs hP1 hk1 hS => ?_)
                                    have hPX := wl_kept hPX hk1 hd2
                                    have hPM := hP1
                                    refine W.lcmp hx hb dL_law_622 ?_
                                    refine lv_if_eq (tgt := 825) hx hb dL_law_623 (by decide) (fun _ => ?_) (fun c9 => absurd (by simp [lg_cmp]) c9)
                                    exact next σ' τ' _ _ _ h6 hR2 hPX hPM hS hl
                                  · by_cases s_15 : (xs (nI i).toNatClampNeg &&& 31) = 15
                                    · refine lv_tableIn (off := 595) (tgt := 628) hx hb dL_law_33 (by rw [s_15]; decide) (by rw [s_15]; decide) (by rw [s_15]; rfl) (by decide) ?_
                                      obtain ⟨r, σ', τ', e1, e2, hR2⟩ := hG15 (xs (nI i + (1 : Int32)).toNatClampNeg) σ τ hR
                                      refine lv_aload_n hx hb dL_law_628 rfl (lv_at hl 1 rfl) ?_
                                      refine lv_aload_n hx hb dL_law_629 rfl (lv_at hl 0 rfl) ?_
                                      refine lv_iload_n hx hb dL_law_630 rfl (lv_at hl 3 rfl) ?_
                                      refine lv_iconst (v := (1 : Int32)) hx hb dL_law_631 (by decide) ?_
                                      refine lv_iadd hx hb dL_law_632 ?_
                                      refine va_sld hx hb hX hbl hbA hS x1 dL_law_633 ?_
                                      refine x_callLi (va_runV (As := [.int (xs (nI i + (1 : Int32)).toNatClampNeg)]) (rest := []) ⟨hx, hb, hml, hown, hts⟩ (kX5_shift l z hz e1) (cwV 1 hts gL_law_X5_shift rfl rfl rfl (by decide +kernel) ⟨Nat.le_of_ble_eq_true rfl, Nat.le_of_ble_eq_true rfl⟩) (pvL hKz hPX hEz hS hzs (va_recv hKz hPX (ci := 5) (q0 := 0) rfl (wl_at (by decide) cX5))) rfl rfl hl.1 rfl (lv_room (Nat.le_of_ble_eq_true rfl)) dL_law_634 ⟨Nat.le_of_ble_eq_true rfl, Nat.le_of_ble_eq_true rfl⟩) hS hzs (fun H1 locs hP1 hk1 hS => ?_)
                                      have hPM := wl_kept hPM hk1 hd1
                                      have hPX := hP1
                                      refine lv_aload_n hx hb dL_law_637 rfl (lv_at hl 2 rfl) ?_
                                      refine lv_aload_n hx hb dL_law_638 rfl (lv_at hl 0 rfl) ?_
                                      refine lv_iload_n hx hb dL_law_639 rfl (lv_at hl 3 rfl) ?_
                                      refine lv_iconst (v := (1 : Int32)) hx hb dL_law_640 (by decide) ?_
                                      refine lv_iadd hx hb dL_law_641 ?_
                                      refine va_sld hx hb hX hbl hbA hS x1 dL_law_642 ?_
                                      refine x_callLi (va_runV (As := [.int (xs (nI i + (1 : Int32)).toNatClampNeg)]) (rest := [.int r]) ⟨hx, hb, hml, hown, hts⟩ (kX6_shift l w hw e2) (cwV 1 hts gL_law_X6_shift rfl rfl rfl (by decide +kernel) ⟨Nat.le_of_ble_eq_true rfl, Nat.le_of_ble_eq_true rfl⟩) (pvL hKw hPM hEw hS hws (va_recv hKw hPM (ci := 6) (q0 := 0) rfl (wl_at (by decide) cX6))) rfl rfl hl.1 rfl (lv_room (Nat.le_of_ble_eq_true rfl)) dL_law_643 ⟨Nat.le_of_ble_eq_true rfl, Nat.le_of_ble_eq_true rfl⟩) hS hws (fun H1 locs hP1 hk1 hS => ?_)
                                      have hPX := wl_kept hPX hk1 hd2
                                      have hPM := hP1
                                      refine lv_icmp_eq (tgt := 825) hx hb dL_law_646 (by decide) (fun _ => ?_) (fun c9 => absurd rfl c9)
                                      exact next σ' τ' _ _ _ h6 hR2 hPX hPM hS hl
                                    · by_cases s_16 : (xs (nI i).toNatClampNeg &&& 31) = 16
                                      · refine lv_tableIn (off := 618) (tgt := 651) hx hb dL_law_33 (by rw [s_16]; decide) (by rw [s_16]; decide) (by rw [s_16]; rfl) (by decide) ?_
                                        obtain ⟨r, σ', τ', e1, e2, hR2⟩ := hG16 (xs (nI i + (1 : Int32)).toNatClampNeg) σ τ hR
                                        refine lv_aload_n hx hb dL_law_651 rfl (lv_at hl 1 rfl) ?_
                                        refine lv_aload_n hx hb dL_law_652 rfl (lv_at hl 0 rfl) ?_
                                        refine lv_iload_n hx hb dL_law_653 rfl (lv_at hl 3 rfl) ?_
                                        refine lv_iconst (v := (1 : Int32)) hx hb dL_law_654 (by decide) ?_
                                        refine lv_iadd hx hb dL_law_655 ?_
                                        refine va_sld hx hb hX hbl hbA hS x1 dL_law_656 ?_
                                        refine x_callLi (va_runV (As := [.int (xs (nI i + (1 : Int32)).toNatClampNeg)]) (rest := []) ⟨hx, hb, hml, hown, hts⟩ (kX5_fits l z hz e1) (cwV 1 hts gL_law_X5_fits rfl rfl rfl (by decide +kernel) ⟨Nat.le_of_ble_eq_true rfl, Nat.le_of_ble_eq_true rfl⟩) (pvL hKz hPX hEz hS hzs (va_recv hKz hPX (ci := 5) (q0 := 0) rfl (wl_at (by decide) cX5))) rfl rfl hl.1 rfl (lv_room (Nat.le_of_ble_eq_true rfl)) dL_law_657 ⟨Nat.le_of_ble_eq_true rfl, Nat.le_of_ble_eq_true rfl⟩) hS hzs (fun H1 locs hP1 hk1 hS => ?_)
                                        have hPM := wl_kept hPM hk1 hd1
                                        have hPX := hP1
                                        refine lv_aload_n hx hb dL_law_660 rfl (lv_at hl 2 rfl) ?_
                                        refine lv_aload_n hx hb dL_law_661 rfl (lv_at hl 0 rfl) ?_
                                        refine lv_iload_n hx hb dL_law_662 rfl (lv_at hl 3 rfl) ?_
                                        refine lv_iconst (v := (1 : Int32)) hx hb dL_law_663 (by decide) ?_
                                        refine lv_iadd hx hb dL_law_664 ?_
                                        refine va_sld hx hb hX hbl hbA hS x1 dL_law_665 ?_
                                        refine x_callLi (va_runV (As := [.int (xs (nI i + (1 : Int32)).toNatClampNeg)]) (rest := [.int r]) ⟨hx, hb, hml, hown, hts⟩ (kX6_fits l w hw e2) (cwV 1 hts gL_law_X6_fits rfl rfl rfl (by decide +kernel) ⟨Nat.le_of_ble_eq_true rfl, Nat.le_of_ble_eq_true rfl⟩) (pvL hKw hPM hEw hS hws (va_recv hKw hPM (ci := 6) (q0 := 0) rfl (wl_at (by decide) cX6))) rfl rfl hl.1 rfl (lv_room (Nat.le_of_ble_eq_true rfl)) dL_law_666 ⟨Nat.le_of_ble_eq_true rfl, Nat.le_of_ble_eq_true rfl⟩) hS hws (fun H1 locs hP1 hk1 hS => ?_)
                                        have hPX := wl_kept hPX hk1 hd2
                                        have hPM := hP1
                                        refine lv_icmp_eq (tgt := 825) hx hb dL_law_669 (by decide) (fun _ => ?_) (fun c9 => absurd rfl c9)
                                        exact next σ' τ' _ _ _ h6 hR2 hPX hPM hS hl
                                      · by_cases s_17 : (xs (nI i).toNatClampNeg &&& 31) = 17
                                        · refine lv_tableIn (off := 641) (tgt := 674) hx hb dL_law_33 (by rw [s_17]; decide) (by rw [s_17]; decide) (by rw [s_17]; rfl) (by decide) ?_
                                          obtain ⟨r, σ', τ', e1, e2, hR2⟩ := hG17  σ τ hR
                                          refine lv_aload_n hx hb dL_law_674 rfl (lv_at hl 1 rfl) ?_
                                          refine x_callLi (va_runV (As := []) (rest := []) ⟨hx, hb, hml, hown, hts⟩ (kX5_judge l z hz e1) (cwV 0 hts gL_law_X5_judge rfl rfl rfl (by decide +kernel) ⟨Nat.le_of_ble_eq_true rfl, Nat.le_of_ble_eq_true rfl⟩) (pvL hKz hPX hEz hS hzs (va_recv hKz hPX (ci := 5) (q0 := 0) rfl (wl_at (by decide) cX5))) rfl rfl hl.1 rfl (lv_room (Nat.le_of_ble_eq_true rfl)) dL_law_675 ⟨Nat.le_of_ble_eq_true rfl, Nat.le_of_ble_eq_true rfl⟩) hS hzs (fun H1 locs hP1 hk1 hS => ?_)
                                          have hPM := wl_kept hPM hk1 hd1
                                          have hPX := hP1
                                          refine lv_aload_n hx hb dL_law_678 rfl (lv_at hl 2 rfl) ?_
                                          refine x_callLi (va_runV (As := []) (rest := [.int r]) ⟨hx, hb, hml, hown, hts⟩ (kX6_judge l w hw e2) (cwV 0 hts gL_law_X6_judge rfl rfl rfl (by decide +kernel) ⟨Nat.le_of_ble_eq_true rfl, Nat.le_of_ble_eq_true rfl⟩) (pvL hKw hPM hEw hS hws (va_recv hKw hPM (ci := 6) (q0 := 0) rfl (wl_at (by decide) cX6))) rfl rfl hl.1 rfl (lv_room (Nat.le_of_ble_eq_true rfl)) dL_law_679 ⟨Nat.le_of_ble_eq_true rfl, Nat.le_of_ble_eq_true rfl⟩) hS hws (fun H1 locs hP1 hk1 hS => ?_)
                                          have hPX := wl_kept hPX hk1 hd2
                                          have hPM := hP1
                                          refine lv_icmp_eq (tgt := 825) hx hb dL_law_682 (by decide) (fun _ => ?_) (fun c9 => absurd rfl c9)
                                          exact next σ' τ' _ _ _ h6 hR2 hPX hPM hS hl
                                        · by_cases s_18 : (xs (nI i).toNatClampNeg &&& 31) = 18
                                          · refine lv_tableIn (off := 654) (tgt := 687) hx hb dL_law_33 (by rw [s_18]; decide) (by rw [s_18]; decide) (by rw [s_18]; rfl) (by decide) ?_
                                            obtain ⟨r, σ', τ', e1, e2, hR2⟩ := hG18 (xs (nI i + (1 : Int32)).toNatClampNeg) (xs (nI i + (2 : Int32)).toNatClampNeg) σ τ hR
                                            refine lv_aload_n hx hb dL_law_687 rfl (lv_at hl 1 rfl) ?_
                                            refine lv_aload_n hx hb dL_law_688 rfl (lv_at hl 0 rfl) ?_
                                            refine lv_iload_n hx hb dL_law_689 rfl (lv_at hl 3 rfl) ?_
                                            refine lv_iconst (v := (1 : Int32)) hx hb dL_law_690 (by decide) ?_
                                            refine lv_iadd hx hb dL_law_691 ?_
                                            refine va_sld hx hb hX hbl hbA hS x1 dL_law_692 ?_
                                            refine lv_aload_n hx hb dL_law_693 rfl (lv_at hl 0 rfl) ?_
                                            refine lv_iload_n hx hb dL_law_694 rfl (lv_at hl 3 rfl) ?_
                                            refine lv_iconst (v := (2 : Int32)) hx hb dL_law_695 (by decide) ?_
                                            refine lv_iadd hx hb dL_law_696 ?_
                                            refine va_sld hx hb hX hbl hbA hS x2 dL_law_697 ?_
                                            refine x_callLi (va_runV (As := [.int (xs (nI i + (1 : Int32)).toNatClampNeg), .int (xs (nI i + (2 : Int32)).toNatClampNeg)]) (rest := []) ⟨hx, hb, hml, hown, hts⟩ (kX5_seen l z hz e1) (cwV 2 hts gL_law_X5_seen rfl rfl rfl (by decide +kernel) ⟨Nat.le_of_ble_eq_true rfl, Nat.le_of_ble_eq_true rfl⟩) (pvL hKz hPX hEz hS hzs (va_recv hKz hPX (ci := 5) (q0 := 0) rfl (wl_at (by decide) cX5))) rfl rfl hl.1 rfl (lv_room (Nat.le_of_ble_eq_true rfl)) dL_law_698 ⟨Nat.le_of_ble_eq_true rfl, Nat.le_of_ble_eq_true rfl⟩) hS hzs (fun H1 locs hP1 hk1 hS => ?_)
                                            have hPM := wl_kept hPM hk1 hd1
                                            have hPX := hP1
                                            refine lv_aload_n hx hb dL_law_701 rfl (lv_at hl 2 rfl) ?_
                                            refine lv_aload_n hx hb dL_law_702 rfl (lv_at hl 0 rfl) ?_
                                            refine lv_iload_n hx hb dL_law_703 rfl (lv_at hl 3 rfl) ?_
                                            refine lv_iconst (v := (1 : Int32)) hx hb dL_law_704 (by decide) ?_
                                            refine lv_iadd hx hb dL_law_705 ?_
                                            refine va_sld hx hb hX hbl hbA hS x1 dL_law_706 ?_
                                            refine lv_aload_n hx hb dL_law_707 rfl (lv_at hl 0 rfl) ?_
                                            refine lv_iload_n hx hb dL_law_708 rfl (lv_at hl 3 rfl) ?_
                                            refine lv_iconst (v := (2 : Int32)) hx hb dL_law_709 (by decide) ?_
                                            refine lv_iadd hx hb dL_law_710 ?_
                                            refine va_sld hx hb hX hbl hbA hS x2 dL_law_711 ?_
                                            refine x_callLi (va_runV (As := [.int (xs (nI i + (1 : Int32)).toNatClampNeg), .int (xs (nI i + (2 : Int32)).toNatClampNeg)]) (rest := [.int r]) ⟨hx, hb, hml, hown, hts⟩ (kX6_seen l w hw e2) (cwV 2 hts gL_law_X6_seen rfl rfl rfl (by decide +kernel) ⟨Nat.le_of_ble_eq_true rfl, Nat.le_of_ble_eq_true rfl⟩) (pvL hKw hPM hEw hS hws (va_recv hKw hPM (ci := 6) (q0 := 0) rfl (wl_at (by decide) cX6))) rfl rfl hl.1 rfl (lv_room (Nat.le_of_ble_eq_true rfl)) dL_law_712 ⟨Nat.le_of_ble_eq_true rfl, Nat.le_of_ble_eq_true rfl⟩) hS hws (fun H1 locs hP1 hk1 hS => ?_)
                                            have hPX := wl_kept hPX hk1 hd2
                                            have hPM := hP1
                                            refine lv_icmp_eq (tgt := 825) hx hb dL_law_715 (by decide) (fun _ => ?_) (fun c9 => absurd rfl c9)
                                            exact next σ' τ' _ _ _ h6 hR2 hPX hPM hS hl
                                          · by_cases s_19 : (xs (nI i).toNatClampNeg &&& 31) = 19
                                            · refine lv_tableIn (off := 687) (tgt := 720) hx hb dL_law_33 (by rw [s_19]; decide) (by rw [s_19]; decide) (by rw [s_19]; rfl) (by decide) ?_
                                              obtain ⟨r, τ', e1, e2, hR2⟩ := hG19  σ τ hR
                                              refine lv_aload_n hx hb dL_law_720 rfl (lv_at hl 1 rfl) ?_
                                              refine x_callLi (va_runV (As := []) (rest := []) ⟨hx, hb, hml, hown, hts⟩ (kX5_cheats l z hz e1) (cwV 0 hts gL_law_X5_cheats rfl rfl rfl (by decide +kernel) ⟨Nat.le_of_ble_eq_true rfl, Nat.le_of_ble_eq_true rfl⟩) (pvL hKz hPX hEz hS hzs (va_recv hKz hPX (ci := 5) (q0 := 0) rfl (wl_at (by decide) cX5))) rfl rfl hl.1 rfl (lv_room (Nat.le_of_ble_eq_true rfl)) dL_law_721 ⟨Nat.le_of_ble_eq_true rfl, Nat.le_of_ble_eq_true rfl⟩) hS hzs (fun H1 locs hP1 hk1 hS => ?_)
                                              have hPM := wl_kept hPM hk1 hd1
                                              have hPX := hP1
                                              refine lv_aload_n hx hb dL_law_724 rfl (lv_at hl 2 rfl) ?_
                                              refine x_callLi (va_runV (As := []) (rest := [.int r]) ⟨hx, hb, hml, hown, hts⟩ (kX6_cheats l w hw e2) (cwV 0 hts gL_law_X6_cheats rfl rfl rfl (by decide +kernel) ⟨Nat.le_of_ble_eq_true rfl, Nat.le_of_ble_eq_true rfl⟩) (pvL hKw hPM hEw hS hws (va_recv hKw hPM (ci := 6) (q0 := 0) rfl (wl_at (by decide) cX6))) rfl rfl hl.1 rfl (lv_room (Nat.le_of_ble_eq_true rfl)) dL_law_725 ⟨Nat.le_of_ble_eq_true rfl, Nat.le_of_ble_eq_true rfl⟩) hS hws (fun H1 locs hP1 hk1 hS => ?_)
                                              have hPX := wl_kept hPX hk1 hd2
                                              have hPM := hP1
                                              refine lv_icmp_eq (tgt := 825) hx hb dL_law_728 (by decide) (fun _ => ?_) (fun c9 => absurd rfl c9)
                                              exact next σ τ' _ _ _ h6 hR2 hPX hPM hS hl
                                            · by_cases s_20 : (xs (nI i).toNatClampNeg &&& 31) = 20
                                              · refine lv_tableIn (off := 700) (tgt := 733) hx hb dL_law_33 (by rw [s_20]; decide) (by rw [s_20]; decide) (by rw [s_20]; rfl) (by decide) ?_
                                                obtain ⟨r, σ', τ', e1, e2, hR2⟩ := hG20 (xs (nI i + (1 : Int32)).toNatClampNeg) (xs (nI i + (2 : Int32)).toNatClampNeg) (xs (nI i + (3 : Int32)).toNatClampNeg) σ τ hR
                                                refine lv_aload_n hx hb dL_law_733 rfl (lv_at hl 1 rfl) ?_
                                                refine lv_aload_n hx hb dL_law_734 rfl (lv_at hl 0 rfl) ?_
                                                refine lv_iload_n hx hb dL_law_735 rfl (lv_at hl 3 rfl) ?_
                                                refine lv_iconst (v := (1 : Int32)) hx hb dL_law_736 (by decide) ?_
                                                refine lv_iadd hx hb dL_law_737 ?_
                                                refine va_sld hx hb hX hbl hbA hS x1 dL_law_738 ?_
                                                refine lv_aload_n hx hb dL_law_739 rfl (lv_at hl 0 rfl) ?_
                                                refine lv_iload_n hx hb dL_law_740 rfl (lv_at hl 3 rfl) ?_
                                                refine lv_iconst (v := (2 : Int32)) hx hb dL_law_741 (by decide) ?_
                                                refine lv_iadd hx hb dL_law_742 ?_
                                                refine va_sld hx hb hX hbl hbA hS x2 dL_law_743 ?_
                                                refine lv_aload_n hx hb dL_law_744 rfl (lv_at hl 0 rfl) ?_
                                                refine lv_iload_n hx hb dL_law_745 rfl (lv_at hl 3 rfl) ?_
                                                refine lv_iconst (v := (3 : Int32)) hx hb dL_law_746 (by decide) ?_
                                                refine lv_iadd hx hb dL_law_747 ?_
                                                refine va_sld hx hb hX hbl hbA hS x3 dL_law_748 ?_
                                                refine x_callLi (va_runV (As := [.int (xs (nI i + (1 : Int32)).toNatClampNeg), .int (xs (nI i + (2 : Int32)).toNatClampNeg), .int (xs (nI i + (3 : Int32)).toNatClampNeg)]) (rest := []) ⟨hx, hb, hml, hown, hts⟩ (kX5_lots l z hz e1) (cwV 3 hts gL_law_X5_lots rfl rfl rfl (by decide +kernel) ⟨Nat.le_of_ble_eq_true rfl, Nat.le_of_ble_eq_true rfl⟩) (pvL hKz hPX hEz hS hzs (va_recv hKz hPX (ci := 5) (q0 := 0) rfl (wl_at (by decide) cX5))) rfl rfl hl.1 rfl (lv_room (Nat.le_of_ble_eq_true rfl)) dL_law_749 ⟨Nat.le_of_ble_eq_true rfl, Nat.le_of_ble_eq_true rfl⟩) hS hzs (fun H1 locs hP1 hk1 hS => ?_)
                                                have hPM := wl_kept hPM hk1 hd1
                                                have hPX := hP1
                                                refine lv_aload_n hx hb dL_law_752 rfl (lv_at hl 2 rfl) ?_
                                                refine lv_aload_n hx hb dL_law_753 rfl (lv_at hl 0 rfl) ?_
                                                refine lv_iload_n hx hb dL_law_754 rfl (lv_at hl 3 rfl) ?_
                                                refine lv_iconst (v := (1 : Int32)) hx hb dL_law_755 (by decide) ?_
                                                refine lv_iadd hx hb dL_law_756 ?_
                                                refine va_sld hx hb hX hbl hbA hS x1 dL_law_757 ?_
                                                refine lv_aload_n hx hb dL_law_758 rfl (lv_at hl 0 rfl) ?_
                                                refine lv_iload_n hx hb dL_law_759 rfl (lv_at hl 3 rfl) ?_
                                                refine lv_iconst (v := (2 : Int32)) hx hb dL_law_760 (by decide) ?_
                                                refine lv_iadd hx hb dL_law_761 ?_
                                                refine va_sld hx hb hX hbl hbA hS x2 dL_law_762 ?_
                                                refine lv_aload_n hx hb dL_law_763 rfl (lv_at hl 0 rfl) ?_
                                                refine lv_iload_n hx hb dL_law_764 rfl (lv_at hl 3 rfl) ?_
                                                refine lv_iconst (v := (3 : Int32)) hx hb dL_law_765 (by decide) ?_
                                                refine lv_iadd hx hb dL_law_766 ?_
                                                refine va_sld hx hb hX hbl hbA hS x3 dL_law_767 ?_
                                                refine x_callLi (va_runV (As := [.int (xs (nI i + (1 : Int32)).toNatClampNeg), .int (xs (nI i + (2 : Int32)).toNatClampNeg), .int (xs (nI i + (3 : Int32)).toNatClampNeg)]) (rest := [.int r]) ⟨hx, hb, hml, hown, hts⟩ (kX6_lots l w hw e2) (cwV 3 hts gL_law_X6_lots rfl rfl rfl (by decide +kernel) ⟨Nat.le_of_ble_eq_true rfl, Nat.le_of_ble_eq_true rfl⟩) (pvL hKw hPM hEw hS hws (va_recv hKw hPM (ci := 6) (q0 := 0) rfl (wl_at (by decide) cX6))) rfl rfl hl.1 rfl (lv_room (Nat.le_of_ble_eq_true rfl)) dL_law_768 ⟨Nat.le_of_ble_eq_true rfl, Nat.le_of_ble_eq_true rfl⟩) hS hws (fun H1 locs hP1 hk1 hS => ?_)
                                                have hPX := wl_kept hPX hk1 hd2
                                                have hPM := hP1
                                                refine lv_icmp_eq (tgt := 825) hx hb dL_law_771 (by decide) (fun _ => ?_) (fun c9 => absurd rfl c9)
                                                exact next σ' τ' _ _ _ h6 hR2 hPX hPM hS hl
                                              · by_cases s_21 : (xs (nI i).toNatClampNeg &&& 31) = 21
                                                · refine lv_tableIn (off := 743) (tgt := 776) hx hb dL_law_33 (by rw [s_21]; decide) (by rw [s_21]; decide) (by rw [s_21]; rfl) (by decide) ?_
                                                  obtain ⟨r, σ', τ', e1, e2, hR2⟩ := hG21  σ τ hR
                                                  refine lv_aload_n hx hb dL_law_776 rfl (lv_at hl 1 rfl) ?_
                                                  refine x_callLi (va_runV (As := []) (rest := []) ⟨hx, hb, hml, hown, hts⟩ (kX5_image l z hz e1) (cwV 0 hts gL_law_X5_image rfl rfl rfl (by decide +kernel) ⟨Nat.le_of_ble_eq_true rfl, Nat.le_of_ble_eq_true rfl⟩) (pvL hKz hPX hEz hS hzs (va_recv hKz hPX (ci := 5) (q0 := 0) rfl (wl_at (by decide) cX5))) rfl rfl hl.1 rfl (lv_room (Nat.le_of_ble_eq_true rfl)) dL_law_777 ⟨Nat.le_of_ble_eq_true rfl, Nat.le_of_ble_eq_true rfl⟩) hS hzs (fun H1 locs hP1 hk1 hS => ?_)
                                                  have hPM := wl_kept hPM hk1 hd1
                                                  have hPX := hP1
                                                  refine lv_aload_n hx hb dL_law_780 rfl (lv_at hl 2 rfl) ?_
                                                  refine x_callLi (va_runV (As := []) (rest := [.int r]) ⟨hx, hb, hml, hown, hts⟩ (kX6_image l w hw e2) (cwV 0 hts gL_law_X6_image rfl rfl rfl (by decide +kernel) ⟨Nat.le_of_ble_eq_true rfl, Nat.le_of_ble_eq_true rfl⟩) (pvL hKw hPM hEw hS hws (va_recv hKw hPM (ci := 6) (q0 := 0) rfl (wl_at (by decide) cX6))) rfl rfl hl.1 rfl (lv_room (Nat.le_of_ble_eq_true rfl)) dL_law_781 ⟨Nat.le_of_ble_eq_true rfl, Nat.le_of_ble_eq_true rfl⟩) hS hws (fun H1 locs hP1 hk1 hS => ?_)
                                                  have hPX := wl_kept hPX hk1 hd2
                                                  have hPM := hP1
                                                  refine lv_icmp_eq (tgt := 825) hx hb dL_law_784 (by decide) (fun _ => ?_) (fun c9 => absurd rfl c9)
                                                  exact next σ' τ' _ _ _ h6 hR2 hPX hPM hS hl
                                                · by_cases s_22 : (xs (nI i).toNatClampNeg &&& 31) = 22
                                                  · refine lv_tableIn (off := 756) (tgt := 789) hx hb dL_law_33 (by rw [s_22]; decide) (by rw [s_22]; decide) (by rw [s_22]; rfl) (by decide) ?_
                                                    obtain ⟨r, σ', τ', e1, e2, hR2⟩ := hG22  σ τ hR
                                                    refine lv_aload_n hx hb dL_law_789 rfl (lv_at hl 1 rfl) ?_
                                                    refine x_callLi (va_runV (As := []) (rest := []) ⟨hx, hb, hml, hown, hts⟩ (kX5_on l z hz e1) (cwV 0 hts gL_law_X5_on rfl rfl rfl (by decide +kernel) ⟨Nat.le_of_ble_eq_true rfl, Nat.le_of_ble_eq_true rfl⟩) (pvL hKz hPX hEz hS hzs (va_recv hKz hPX (ci := 5) (q0 := 0) rfl (wl_at (by decide) cX5))) rfl rfl hl.1 rfl (lv_room (Nat.le_of_ble_eq_true rfl)) dL_law_790 ⟨Nat.le_of_ble_eq_true rfl, Nat.le_of_ble_eq_true rfl⟩) hS hzs (fun H1 locs hP1 hk1 hS => ?_)
                                                    have hPM := wl_kept hPM hk1 hd1
                                                    have hPX := hP1
                                                    refine lv_aload_n hx hb dL_law_793 rfl (lv_at hl 2 rfl) ?_
                                                    refine x_callLi (va_runV (As := []) (rest := [.int r]) ⟨hx, hb, hml, hown, hts⟩ (kX6_on l w hw e2) (cwV 0 hts gL_law_X6_on rfl rfl rfl (by decide +kernel) ⟨Nat.le_of_ble_eq_true rfl, Nat.le_of_ble_eq_true rfl⟩) (pvL hKw hPM hEw hS hws (va_recv hKw hPM (ci := 6) (q0 := 0) rfl (wl_at (by decide) cX6))) rfl rfl hl.1 rfl (lv_room (Nat.le_of_ble_eq_true rfl)) dL_law_794 ⟨Nat.le_of_ble_eq_true rfl, Nat.le_of_ble_eq_true rfl⟩) hS hws (fun H1 locs hP1 hk1 hS => ?_)
                                                    have hPX := wl_kept hPX hk1 hd2
                                                    have hPM := hP1
                                                    refine lv_icmp_eq (tgt := 825) hx hb dL_law_797 (by decide) (fun _ => ?_) (fun c9 => absurd rfl c9)
                                                    exact next σ' τ' _ _ _ h6 hR2 hPX hPM hS hl
                                                  · by_cases s_23 : (xs (nI i).toNatClampNeg &&& 31) = 23
                                                    · refine lv_tableIn (off := 769) (tgt := 802) hx hb dL_law_33 (by rw [s_23]; decide) (by rw [s_23]; decide) (by rw [s_23]; rfl) (by decide) ?_
                                                      obtain ⟨r, e1, e2, hR2⟩ := hG23 (xs (nI i + (1 : Int32)).toNatClampNeg) σ τ hR
                                                      refine lv_aload_n hx hb dL_law_802 rfl (lv_at hl 1 rfl) ?_
                                                      refine lv_aload_n hx hb dL_law_803 rfl (lv_at hl 0 rfl) ?_
                                                      refine lv_iload_n hx hb dL_law_804 rfl (lv_at hl 3 rfl) ?_
                                                      refine lv_iconst (v := (1 : Int32)) hx hb dL_law_805 (by decide) ?_
                                                      refine lv_iadd hx hb dL_law_806 ?_
                                                      refine va_sld hx hb hX hbl hbA hS x1 dL_law_807 ?_
                                                      refine x_callLi (va_runV (As := [.int (xs (nI i + (1 : Int32)).toNatClampNeg)]) (rest := []) ⟨hx, hb, hml, hown, hts⟩ (kX5_count l z hz e1) (cwV 1 hts gL_law_X5_count rfl rfl rfl (by decide +kernel) ⟨Nat.le_of_ble_eq_true rfl, Nat.le_of_ble_eq_true rfl⟩) (pvL hKz hPX hEz hS hzs (va_recv hKz hPX (ci := 5) (q0 := 0) rfl (wl_at (by decide) cX5))) rfl rfl hl.1 rfl (lv_room (Nat.le_of_ble_eq_true rfl)) dL_law_808 ⟨Nat.le_of_ble_eq_true rfl, Nat.le_of_ble_eq_true rfl⟩) hS hzs (fun H1 locs hP1 hk1 hS => ?_)
                                                      have hPM := wl_kept hPM hk1 hd1
                                                      have hPX := hP1
                                                      refine lv_aload_n hx hb dL_law_811 rfl (lv_at hl 2 rfl) ?_
                                                      refine lv_aload_n hx hb dL_law_812 rfl (lv_at hl 0 rfl) ?_
                                                      refine lv_iload_n hx hb dL_law_813 rfl (lv_at hl 3 rfl) ?_
                                                      refine lv_iconst (v := (1 : Int32)) hx hb dL_law_814 (by decide) ?_
                                                      refine lv_iadd hx hb dL_law_815 ?_
                                                      refine va_sld hx hb hX hbl hbA hS x1 dL_law_816 ?_
                                                      refine x_callLi (va_runV (As := [.int (xs (nI i + (1 : Int32)).toNatClampNeg)]) (rest := [.int r]) ⟨hx, hb, hml, hown, hts⟩ (kX6_count l w hw e2) (cwV 1 hts gL_law_X6_count rfl rfl rfl (by decide +kernel) ⟨Nat.le_of_ble_eq_true rfl, Nat.le_of_ble_eq_true rfl⟩) (pvL hKw hPM hEw hS hws (va_recv hKw hPM (ci := 6) (q0 := 0) rfl (wl_at (by decide) cX6))) rfl rfl hl.1 rfl (lv_room (Nat.le_of_ble_eq_true rfl)) dL_law_817 ⟨Nat.le_of_ble_eq_true rfl, Nat.le_of_ble_eq_true rfl⟩) hS hws (fun H1 locs hP1 hk1 hS => ?_)
                                                      have hPX := wl_kept hPX hk1 hd2
                                                      have hPM := hP1
                                                      refine lv_icmp_eq (tgt := 825) hx hb dL_law_820 (by decide) (fun _ => ?_) (fun c9 => absurd rfl c9)
                                                      exact next σ τ _ _ _ h6 hR2 hPX hPM hS hl
                                                    · refine x_tableD (tgt := 825) hx hb dL_law_33 (fun k h1 h2 => ?_) (by decide) ?_
                                                      · rcases (show k = 0 ∨ k = 1 ∨ k = 2 ∨ k = 3 ∨ k = 4 ∨ k = 5 ∨ k = 6 ∨ k = 7 ∨ k = 8 ∨ k = 9 ∨ k = 10 ∨ k = 11 ∨ k = 12 ∨ k = 13 ∨ k = 14 ∨ k = 15 ∨ k = 16 ∨ k = 17 ∨ k = 18 ∨ k = 19 ∨ k = 20 ∨ k = 21 ∨ k = 22 ∨ k = 23 by omega) with rfl | rfl | rfl | rfl | rfl | rfl | rfl | rfl | rfl | rfl | rfl | rfl | rfl | rfl | rfl | rfl | rfl | rfl | rfl | rfl | rfl | rfl | rfl | rfl
                                                        · exact Or.inl (x_ne s_0 (by decide))
                                                        · exact Or.inl (x_ne s_1 (by decide))
                                                        · exact Or.inl (x_ne s_2 (by decide))
                                                        · exact Or.inl (x_ne s_3 (by decide))
                                                        · exact Or.inl (x_ne s_4 (by decide))
                                                        · exact Or.inl (x_ne s_5 (by decide))
                                                        · exact Or.inl (x_ne s_6 (by decide))
                                                        · exact Or.inl (x_ne s_7 (by decide))
                                                        · exact Or.inl (x_ne s_8 (by decide))
                                                        · exact Or.inl (x_ne s_9 (by decide))
                                                        · exact Or.inl (x_ne s_10 (by decide))
                                                        · exact Or.inl (x_ne s_11 (by decide))
                                                        · exact Or.inl (x_ne s_12 (by decide))
                                                        · exact Or.inl (x_ne s_13 (by decide))
                                                        · exact Or.inl (x_ne s_14 (by decide))
                                                        · exact Or.inl (x_ne s_15 (by decide))
                                                        · exact Or.inl (x_ne s_16 (by decide))
                                                        · exact Or.inl (x_ne s_17 (by decide))
                                                        · exact Or.inl (x_ne s_18 (by decide))
                                                        · exact Or.inl (x_ne s_19 (by decide))
                                                        · exact Or.inl (x_ne s_20 (by decide))
                                                        · exact Or.inl (x_ne s_21 (by decide))
                                                        · exact Or.inl (x_ne s_22 (by decide))
                                                        · exact Or.inl (x_ne s_23 (by decide))
                                                      · exact next σ τ _ _ _ h6 hR hPX hPM hS hl
